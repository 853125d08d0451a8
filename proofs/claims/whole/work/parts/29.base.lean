/-! sets of sites as numbers; the loops that make them -/
def bs (n : Nat) (p : Nat → Bool) : Nat := match n with
  | 0 => 0
  | k + 1 => bs k p ||| (if p k then 1 <<< k else 0)
theorem bs_test (n : Nat) (p : Nat → Bool) (i : Nat) : (bs n p).testBit i = (decide (i < n) && p i) := by
  induction n with
  | zero => simp [bs]
  | succ n ih =>
    unfold bs
    rw [Nat.testBit_or, ih]
    by_cases hp : p n
    · rw [if_pos hp, Nat.one_shiftLeft, Nat.testBit_two_pow]
      by_cases hi : i = n
      · subst hi; simp [hp]
      · have h1 : ¬ n = i := fun e => hi e.symm
        simp only [h1, decide_false, Bool.or_false]
        congr 1
        simp only [decide_eq_decide]
        omega
    · rw [if_neg hp]
      simp only [Nat.zero_testBit, Bool.or_false]
      by_cases hi : i = n
      · subst hi; simp [hp]
      · congr 1
        simp only [decide_eq_decide]
        omega
theorem bs_lt (n : Nat) (p : Nat → Bool) : bs n p < 2 ^ n := by
  induction n with
  | zero => simp [bs]
  | succ n ih =>
    unfold bs
    refine Nat.or_lt_two_pow (Nat.lt_of_lt_of_le ih (Nat.pow_le_pow_right (by omega) (by omega))) ?_
    split
    · rw [Nat.one_shiftLeft]; exact Nat.pow_lt_pow_right (by omega) (by omega)
    · exact Nat.two_pow_pos _
theorem bs_32 {n : Nat} (h : n ≤ 5) (p : Nat → Bool) : bs n p < 32 := Nat.lt_of_lt_of_le (bs_lt n p) (Nat.pow_le_pow_right (by omega) h)
theorem bs_congr {n : Nat} {p q : Nat → Bool} (h : ∀ s, s < n → p s = q s) : bs n p = bs n q := by
  induction n with
  | zero => rfl
  | succ n ih =>
    unfold bs
    rw [ih (fun s hs => h s (by omega)), h n (by omega)]
theorem bs_step {s : Nat} (h : s < 31) (p : Nat → Bool) (hp : p s = true) : N (bs s p) ||| (1 <<< (N s &&& 31)) = N (bs (s + 1) p) := by
  show N (bs s p) ||| (N 1 <<< (N s &&& N 31)) = _
  rw [N_31 (by omega), N_shl (by omega), N_or]
  show _ = N (bs s p ||| _)
  rw [if_pos hp]
theorem bs_skip {s : Nat} (p : Nat → Bool) (hp : p s = false) : N (bs s p) = N (bs (s + 1) p) := by
  show _ = N (bs s p ||| _)
  rw [hp]
  simp
section BASE
variable {sc : a_Sc} {fd : Nat} {M : a_Mm} {Q : Option Value → a_Hp → Prop} {b : Nat}
theorem c_69 (hb : HB b) {how : Int32} {n : Nat} (hn : M b 0 = N n) (h5 : n ≤ 5) (k : Q (some (.int (N (bs n (fun s => decide (M (b + 2) s = how)))))) (a_hp sc fd M)) : a_Ex 69 0 [some (.ref b), some (.int how), none, none] [] (a_hp sc fd M) Q := by
  have L : ∀ d s, n - s = d → s ≤ n → a_Ex 69 4 [some (.ref b), some (.int how), some (.int (N (bs s (fun s => decide (M (b + 2) s = how))))), some (.int (N s))] [] (a_hp sc fd M) Q := by
    intro d
    induction d with
    | zero =>
      intro s hd hs
      have e : s = n := by omega
      subst e
      refine v_69_4 hb ⟨fun _ => k, fun h => absurd (by rw [hn]; exact Int32.le_refl _) h⟩
    | succ d ih =>
      intro s hd hs
      have i1 := ih (s + 1) (by omega) (by omega)
      refine v_69_4 hb ⟨fun h => ?_, fun _ => ⟨?_, fun g => ?_, fun g => ?_⟩⟩
      · rw [hn, N_le (by omega) (by omega)] at h; omega
      · rw [a_in_N (by omega)]; omega
      · rw [N_toNat (by omega)] at g
        rw [nN, N_add, bs_skip (s := s) (fun s => decide (M (b + 2) s = how)) (decide_eq_false g)]
        exact i1
      · rw [N_toNat (by omega)] at g
        rw [bs_step (by omega) _ (decide_eq_true g), nN, N_add]
        exact i1
  exact v_69_0 hb (L n 0 rfl (Nat.zero_le _))
end BASE
