/-! what the answers of a verdict, a lowest site are -/
theorem s77_le (n : Nat) (A : HA) (x y : Nat) : s_77 n A x y ≤ 3 ∨ s_77 n A x y = 4294967295 := by
  unfold s_77
  repeat (first | omega | split)
/-- the lowest site of a set -/
def lw (n x : Nat) : Nat := s_75 n (fun _ _ => 0) x
theorem s75_4 (n : Nat) (A B : HA) (x : Nat) : ∀ d s, s_75_2 n d A x s = s_75_2 n d B x s := by
  intro d
  induction d with
  | zero => intro s; rfl
  | succ d ih => intro s; unfold s_75_2; rw [ih]
theorem s75_lw (n : Nat) (A : HA) (x : Nat) : s_75 n A x = lw n x := s75_4 n A _ x 6 0
theorem bit_and (x s : Nat) : ((x >>> s) &&& 1 = 1) = (x.testBit s = true) := by
  rw [Nat.testBit_eq_decide_div_mod_eq, Nat.and_one_is_mod, Nat.shiftRight_eq_div_pow]
  simp
theorem bit_and0 (x s : Nat) : ((x >>> s) &&& 1 = 0) = (x.testBit s = false) := by
  rw [Nat.testBit_eq_decide_div_mod_eq, Nat.and_one_is_mod, Nat.shiftRight_eq_div_pow]
  simp
theorem lw_4 (n x : Nat) (A : HA) : ∀ d s, n - s < d → (s_75_2 n d A x s = 4294967295 ∧ ∀ t, s ≤ t → t < n → x.testBit t = false) ∨ (s ≤ s_75_2 n d A x s ∧ s_75_2 n d A x s < n ∧ x.testBit (s_75_2 n d A x s) = true ∧ ∀ t, s ≤ t → t < s_75_2 n d A x s → x.testBit t = false) := by
  intro d
  induction d with
  | zero => intro s h; exact absurd h (Nat.not_lt_zero _)
  | succ d ih =>
    intro s h
    unfold s_75_2
    by_cases c : n ≤ s
    · rw [if_pos c]
      exact Or.inl ⟨rfl, fun t h1 h2 => by omega⟩
    · rw [if_neg c]
      by_cases g : (x >>> s) &&& 1 = 1
      · rw [if_pos g]
        rw [bit_and] at g
        exact Or.inr ⟨Nat.le_refl _, by omega, g, fun t h1 h2 => by omega⟩
      · rw [if_neg g]
        rw [bit_and] at g
        have g' : x.testBit s = false := by simpa using g
        have hz : ∀ P : Nat → Prop, (∀ t, s + 1 ≤ t → P t → x.testBit t = false) → ∀ t, s ≤ t → P t → x.testBit t = false := fun P k t h1 h2 => by
          by_cases e : t = s
          · rw [e]; exact g'
          · exact k t (by omega) h2
        rcases ih (s + 1) (by omega) with ⟨h1, h2⟩ | ⟨h1, h2, h3, h4⟩
        · exact Or.inl ⟨h1, hz _ h2⟩
        · exact Or.inr ⟨by omega, h2, h3, hz _ h4⟩
theorem lw_or {n x : Nat} (h : n ≤ 5) : (lw n x = 4294967295 ∧ ∀ t, t < n → x.testBit t = false) ∨ (lw n x < n ∧ x.testBit (lw n x) = true ∧ ∀ t, t < lw n x → x.testBit t = false) := by
  rcases lw_4 n x (fun _ _ => 0) 6 0 (by omega) with ⟨h1, h2⟩ | ⟨-, h2, h3, h4⟩
  · exact Or.inl ⟨h1, fun t => h2 t (Nat.zero_le _)⟩
  · exact Or.inr ⟨h2, h3, fun t => h4 t (Nat.zero_le _)⟩
theorem lw_le (n x : Nat) (h : n ≤ 5) : lw n x < n ∨ lw n x = 4294967295 := by
  rcases lw_or (x := x) h with h1 | h1
  · exact Or.inr h1.1
  · exact Or.inl h1.1
theorem lw_lt {n x : Nat} (h : n ≤ 5) (h0 : ¬ x = 0) (hx : x < 2 ^ n) : lw n x < n := by
  rcases lw_or (x := x) h with ⟨-, h2⟩ | h1
  · exact absurd (Nat.eq_of_testBit_eq (fun t => by
      rw [Nat.zero_testBit]
      by_cases c : t < n
      · exact h2 t c
      · exact Nat.testBit_lt_two_pow (Nat.lt_of_lt_of_le hx (Nat.pow_le_pow_right (by omega) (by omega))))) h0
  · exact h1.1
theorem s84_4 (n : Nat) (A : HA) (x : Nat) : ∀ d a s, a < 2 ^ n → s_84_7 n d A x a s < 2 ^ n := by
  intro d
  induction d with
  | zero => intro a s h; exact Nat.two_pow_pos _
  | succ d ih =>
    intro a s h
    unfold s_84_7
    split
    · exact h
    · split
      · exact ih _ _ (Nat.lt_of_le_of_lt Nat.and_le_left h)
      · exact ih _ _ h
theorem ev_lt (n : Nat) : ev n < 2 ^ n := by
  have := Nat.two_pow_pos n
  unfold ev
  omega
theorem s84_lt (n : Nat) (A : HA) (x : Nat) : s_84 n A x < 2 ^ n := s84_4 n A x 6 _ 0 (ev_lt n)
theorem s83_84 (n : Nat) (A : HA) (x : Nat) (h : n ≤ 5) : s_83 n A x = 0 ∨ lw n (s_84 n A x) ≤ 4 := by
  by_cases c : s_84 n A x = 0
  · left; unfold s_83; rw [if_pos c]
  · right
    have := lw_lt h c (s84_lt n A x)
    omega
section LWC
variable {sc : a_Sc} {fd : Nat} {M : a_Mm} {A : HA} {Q : Option Value → a_Hp → Prop} {b n : Nat}
theorem k_75 (hb : HB b) (r : RC M b n A) {l1 : Nat} (hl1 : l1 ≤ 31) (k : KP 4294967295 Q (a_hp sc fd M) (lw n l1)) : a_Ex 75 0 [some (.ref b), some (.int (N l1)), none] [] (a_hp sc fd M) Q := c_75 hb r hl1 (by rw [s75_lw]; exact k)
end LWC
theorem s77_f (n : Nat) (A : HA) (x y : Nat) (h : A 6 1 = 0) : s_77 n A x y ≤ 3 := by
  unfold s_77
  simp only [h, if_true]
  repeat (first | omega | split)
theorem a_up_o {f : HA} {o k v a c : Nat} (h : ¬ a = o) : a_up f o k v a c = f a c := by unfold a_up; rw [if_neg h]
theorem s81_11o {n l1 w k : Nat} (hw : ¬ w = 5) : ∀ d (A : HA) l2 l3, s_81_11 n d A l1 l2 l3 w k = A w k := by
  intro d
  induction d with
  | zero => intro A l2 l3; rfl
  | succ d ih =>
    intro A l2 l3
    unfold s_81_11
    split
    · exact a_up_o hw
    · split
      · split
        · rw [ih, a_up_o hw]
        · exact ih _ _ _
      · exact ih _ _ _
theorem s81_o {n s w k : Nat} (A : HA) (h1 : ¬ w = 1) (h5 : ¬ w = 5) : s_81 n A s w k = A w k := by
  unfold s_81
  rw [s81_11o h5, a_up_o h1]
theorem s81_f1 (n : Nat) (A : HA) (s : Nat) : s_81 n A s 6 1 = A 6 1 := s81_o A (by omega) (by omega)
theorem RC.lsz {M : a_Mm} {b n : Nat} {A : HA} (r : RC M b n A) : M (b + 7) 2 = N (A 7 0) := by
  obtain ⟨e, -, -, h, -⟩ := r.2.2.2.2
  exact h
