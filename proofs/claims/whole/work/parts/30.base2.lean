/-! the reference's loops; the lowest site -/
theorem WA.all {A : HA} (w : WA A) {j s : Nat} (hj : j < 6) (hs : s < 5) : A j s < 32 := by
  have h1 := w.st hs
  have h2 := w.up hs
  have h3 := w.gr hs
  have h4 := w.vo hs
  have h5 := w.we hs
  have h6 := w.kn hs
  rcases (by omega : j = 0 ∨ j = 1 ∨ j = 2 ∨ j = 3 ∨ j = 4 ∨ j = 5) with rfl | rfl | rfl | rfl | rfl | rfl <;> omega
theorem RR.n {M : a_Mm} {A : HA} (r : RR M A) : M 171 (0 : Int32).toNatClampNeg = N (A 6 0) := r.1 0 (by omega)
theorem RR.at {M : a_Mm} {A : HA} (r : RR M A) {j s : Nat} (hj : j < 6) (hs : s < A 6 0) (h5 : A 6 0 ≤ 5) : M 171 ((5 + (6 * N s)) + N j : Int32).toNatClampNeg = N (A j s) := by
  rw [nN 5, nN 6, N_mul, N_add, N_add, N_toNat (by omega)]
  exact r.2 j hj s hs
theorem RR.in {s j : Nat} (hj : j < 6) (hs : s < 5) : a_in ((5 + (6 * N s)) + N j) 648 = true := by
  rw [nN 5, nN 6, N_mul, N_add, N_add, a_in_N (by omega)]
  omega
/-- the lowest site of a set from s on, d of them -/
def low (set : Nat) : Nat → Nat → Nat
  | 0, s => s
  | d + 1, s => if set.testBit s then s else low set d (s + 1)
theorem low_s (set d s : Nat) : low set (d + 1) s = if set.testBit s then s else low set d (s + 1) := rfl
theorem low_le {set : Nat} : ∀ {d s : Nat}, s ≤ low set d s ∧ low set d s ≤ s + d
  | 0, s => by simp [low]
  | d + 1, s => by
    unfold low
    have := low_le (set := set) (d := d) (s := s + 1)
    split <;> omega
theorem low_bit {set : Nat} : ∀ {d s : Nat}, low set d s < s + d → set.testBit (low set d s) = true
  | 0, s, h => by simp [low] at h
  | d + 1, s, h => by
    unfold low at h ⊢
    split
    · assumption
    · rename_i g
      rw [if_neg g] at h
      exact low_bit (by omega)
theorem low_min {set : Nat} : ∀ {d s t : Nat}, s ≤ t → t < low set d s → set.testBit t = false
  | 0, s, t, h1, h2 => by simp [low] at h2; omega
  | d + 1, s, t, h1, h2 => by
    unfold low at h2
    split at h2
    · omega
    · rename_i g
      by_cases e : s = t
      · subst e; simpa using g
      · exact low_min (d := d) (s := s + 1) (by omega) h2
section BASE2
variable {sc : a_Sc} {fd : Nat} {M : a_Mm} {Q : Option Value → a_Hp → Prop} {b : Nat} {A : HA}
theorem oc_158 (w : WA A) (r : RR M A) {j v : Nat} (hj : j < 6) (hv : v < 2147483648) (k : Q (some (.int (N (tho A j v)))) (a_hp sc fd M)) : a_Ex 158 0 [some (.ref 170), some (.int (N j)), some (.int (N v)), none, none] [] (a_hp sc fd M) Q := by
  have h5 := w.n5
  have L : ∀ d s, A 6 0 - s = d → s ≤ A 6 0 → a_Ex 158 5 [some (.ref 170), some (.int (N j)), some (.int (N v)), some (.int (N (bs s (fun s => decide (A j s = v))))), some (.int (N s))] [] (a_hp sc fd M) Q := by
    intro d
    induction d with
    | zero =>
      intro s hd hs
      have e : s = A 6 0 := by omega
      subst e
      refine v_158_5 ⟨fun _ => k, fun h => absurd (by rw [r.n]; exact Int32.le_refl _) h⟩
    | succ d ih =>
      intro s hd hs
      have i1 := ih (s + 1) (by omega) (by omega)
      have w1 := w.all (s := s) hj (by omega)
      refine v_158_5 ⟨fun h => ?_, fun _ => ⟨RR.in hj (by omega), fun g => ?_, fun g => ?_⟩⟩
      · rw [r.n, N_le (by omega) (by omega)] at h; omega
      · rw [r.at hj (by omega) h5, N_inj (by omega) (by omega)] at g
        rw [nN 0, N_or, Nat.or_zero, nN 1, N_add, bs_skip (s := s) (fun s => decide (A j s = v)) (decide_eq_false g)]
        exact i1
      · rw [r.at hj (by omega) h5, N_inj (by omega) (by omega)] at g
        rw [bs_step (by omega) _ (decide_eq_true g), nN, N_add]
        exact i1
  exact v_158_0 (L (A 6 0) 0 rfl (Nat.zero_le _))
theorem oc_160 (w : WA A) (r : RR M A) {v : Nat} (hv : v < 2147483648) (k : Q (some (.int (N (wgt A v)))) (a_hp sc fd M)) : a_Ex 160 0 [some (.ref 170), some (.int (N v)), none, none] [] (a_hp sc fd M) Q := by
  have h5 := w.n5
  have L : ∀ d s, A 6 0 - s = d → s ≤ A 6 0 → a_Ex 160 4 [some (.ref 170), some (.int (N v)), some (.int (N (fo (fun x s => if v.testBit s then x + A 4 s else x) 0 s))), some (.int (N s))] [] (a_hp sc fd M) Q := by
    intro d
    induction d with
    | zero =>
      intro s hd hs
      have e : s = A 6 0 := by omega
      subst e
      refine v_160_4 ⟨fun _ => k, fun h => absurd (by rw [r.n]; exact Int32.le_refl _) h⟩
    | succ d ih =>
      intro s hd hs
      have i1 := ih (s + 1) (by omega) (by omega)
      unfold fo at i1
      refine v_160_4 ⟨fun h => ?_, fun _ => ⟨fun g => ?_, fun g => ⟨RR.in (j := 4) (by omega) (by omega), ?_⟩⟩⟩
      · rw [r.n, N_le (by omega) (by omega)] at h; omega
      · rw [N_bit hv (by omega)] at g
        rw [if_neg g] at i1
        rw [nN 0, nN 1, N_add, N_add]
        exact i1
      · rw [N_bit hv (by omega)] at g
        rw [if_pos g] at i1
        have e := r.at (j := 4) (s := s) (by omega) (by omega) h5
        rw [show (4 : Int32) = N 4 from rfl, e, nN 1, N_add, N_add]
        exact i1
  exact v_160_0 (L (A 6 0) 0 rfl (Nat.zero_le _))
theorem oc_198 (w : WA A) (r : RR M A) {v : Nat} (hv : v < 2147483648) (k : Q (some (.int (N (lst A v)))) (a_hp sc fd M)) : a_Ex 198 0 [some (.ref 170), some (.int (N v)), none, none] [] (a_hp sc fd M) Q := by
  have h5 := w.n5
  have L : ∀ d s, A 6 0 - s = d → s ≤ A 6 0 → a_Ex 198 7 [some (.ref 170), some (.int (N v)), some (.int (N (fo (fun x s => if v.testBit s then x &&& A 5 s else x) (evr A) s))), some (.int (N s))] [] (a_hp sc fd M) Q := by
    intro d
    induction d with
    | zero =>
      intro s hd hs
      have e : s = A 6 0 := by omega
      subst e
      refine v_198_7 ⟨fun _ => k, fun h => absurd (by rw [r.n]; exact Int32.le_refl _) h⟩
    | succ d ih =>
      intro s hd hs
      have i1 := ih (s + 1) (by omega) (by omega)
      unfold fo at i1
      refine v_198_7 ⟨fun h => ?_, fun _ => ⟨fun g => ?_, fun g => ⟨RR.in (j := 5) (by omega) (by omega), ?_⟩⟩⟩
      · rw [r.n, N_le (by omega) (by omega)] at h; omega
      · rw [N_bit hv (by omega)] at g
        rw [if_neg g] at i1
        rw [nN 1, N_add]
        exact i1
      · rw [N_bit hv (by omega)] at g
        rw [if_pos g] at i1
        have e := r.at (j := 5) (s := s) (by omega) (by omega) h5
        have e2 : M 171 ((5 + (6 * N s)) + 5 : Int32).toNatClampNeg = N (A 5 s) := e
        rw [e2, nN 1, N_add, N_and]
        exact i1
  exact v_198_0 (by rw [r.n, N_evr h5]; exact L (A 6 0) 0 rfl (Nat.zero_le _))
/-- how many bits of the lowest five -/
def pop (v : Nat) : Nat := fo (fun x s => if v.testBit s then x + 1 else x) 0 5
theorem N_bit1 {a s : Nat} (ha : a < 2147483648) (hs : s < 32) : ((N a >>> (N s &&& 31)) &&& 1) = N (if a.testBit s then 1 else 0) := by
  rw [nN 31, nN 1, N_31 hs, N_shr ha hs, N_and, Nat.testBit_eq_decide_div_mod_eq, Nat.and_one_is_mod, Nat.shiftRight_eq_div_pow]
  have h1 : a / 2 ^ s % 2 < 2 := Nat.mod_lt _ (by omega)
  congr 1
  generalize a / 2 ^ s % 2 = q at h1 ⊢
  rcases (by omega : q = 0 ∨ q = 1) with rfl | rfl <;> rfl
theorem c_179 {v : Nat} (hv : v < 2147483648) (k : Q (some (.int (N (pop v)))) (a_hp sc fd M)) : a_Ex 179 0 [some (.int (N v)), none, none] [] (a_hp sc fd M) Q := by
  have L : ∀ d s, 5 - s = d → s ≤ 5 → a_Ex 179 4 [some (.int (N v)), some (.int (N (fo (fun x s => if v.testBit s then x + 1 else x) 0 s))), some (.int (N s))] [] (a_hp sc fd M) Q := by
    intro d
    induction d with
    | zero =>
      intro s hd hs
      have e : s = 5 := by omega
      subst e
      refine v_179_4 ⟨fun _ => k, fun h => absurd (Int32.le_refl _) h⟩
    | succ d ih =>
      intro s hd hs
      have i1 := ih (s + 1) (by omega) (by omega)
      unfold fo at i1
      refine v_179_4 ⟨fun h => ?_, fun _ => ?_⟩
      · rw [nN 5, N_le (by omega) (by omega)] at h; omega
      · rw [N_bit1 hv (by omega), nN 1, N_add, N_add]
        by_cases g : v.testBit s
        · rw [if_pos g] at i1 ⊢; exact i1
        · rw [if_neg g] at i1 ⊢; exact i1
  exact v_179_0 (L 5 0 rfl (Nat.zero_le _))
theorem oc_75 (hb : HB b) (w : WA A) (r : RH M b A) {v : Nat} (hv : v < 2147483648) (k : Q (some (.int (if low v (A 6 0) 0 = A 6 0 then -1 else N (low v (A 6 0) 0)))) (a_hp sc fd M)) : a_Ex 75 0 [some (.ref b), some (.int (N v)), none] [] (a_hp sc fd M) Q := by
  have h5 := w.n5
  have L : ∀ d s, A 6 0 - s = d → s ≤ A 6 0 → low v d s = low v (A 6 0) 0 → a_Ex 75 2 [some (.ref b), some (.int (N v)), some (.int (N s))] [] (a_hp sc fd M) Q := by
    intro d
    induction d with
    | zero =>
      intro s hd hs hl
      have e : s = A 6 0 := by omega
      rw [← hl, if_pos (show low v 0 s = A 6 0 from e)] at k
      rw [e]
      exact v_75_2 hb ⟨fun _ => k, fun h => absurd (by rw [r.n]; exact Int32.le_refl _) h⟩
    | succ d ih =>
      intro s hd hs hl
      rw [low_s v d s] at hl
      refine v_75_2 hb ⟨fun h => ?_, fun _ => ⟨fun g => ?_, fun g => ?_⟩⟩
      · rw [r.n, N_le (by omega) (by omega)] at h; omega
      · rw [N_bit hv (by omega)] at g
        rw [if_neg g] at hl
        rw [nN 1, N_add]
        exact ih (s + 1) (by omega) (by omega) hl
      · rw [N_bit hv (by omega)] at g
        rw [if_pos g] at hl
        rw [← hl, if_neg (by omega)] at k
        exact k
  exact v_75_0 hb (L (A 6 0) 0 rfl (Nat.zero_le _) rfl)
theorem c_188 {v : Nat} (hv : v < 2147483648) (hl : low v 5 0 < 5) (k : Q (some (.int (N (low v 5 0)))) (a_hp sc fd M)) : a_Ex 188 0 [some (.int (N v)), none] [] (a_hp sc fd M) Q := by
  have L : ∀ d s, 5 - s = d → s ≤ 5 → low v d s = low v 5 0 → a_Ex 188 2 [some (.int (N v)), some (.int (N s))] [] (a_hp sc fd M) Q := by
    intro d
    induction d with
    | zero =>
      intro s hd hs hl'
      have e : low v 0 s = s := rfl
      omega
    | succ d ih =>
      intro s hd hs hl'
      rw [low_s v d s] at hl'
      refine v_188_2 ⟨fun g => ?_, fun g => ?_⟩
      · rw [N_bit hv (by omega)] at g
        rw [if_neg g] at hl'
        rw [nN 1, N_add]
        exact ih (s + 1) (by omega) (by omega) hl'
      · rw [N_bit hv (by omega)] at g
        rw [if_pos g] at hl'
        rw [← hl'] at k
        exact k
  exact v_188_0 (L 5 0 rfl (Nat.zero_le _) rfl)
/-- bitCount's expression, out of the walk -/
def a_bc (l0 : Int32) : Int32 := (((((((((l0 - (((l0 : Int32).toUInt32 >>> ((1 : Int32).toUInt32 &&& Int32.toUInt32 31)).toInt32 &&& 1431655765)) &&& 858993459) + ((((l0 - (((l0 : Int32).toUInt32 >>> ((1 : Int32).toUInt32 &&& Int32.toUInt32 31)).toInt32 &&& 1431655765)) : Int32).toUInt32 >>> ((2 : Int32).toUInt32 &&& Int32.toUInt32 31)).toInt32 &&& 858993459)) + (((((l0 - (((l0 : Int32).toUInt32 >>> ((1 : Int32).toUInt32 &&& Int32.toUInt32 31)).toInt32 &&& 1431655765)) &&& 858993459) + ((((l0 - (((l0 : Int32).toUInt32 >>> ((1 : Int32).toUInt32 &&& Int32.toUInt32 31)).toInt32 &&& 1431655765)) : Int32).toUInt32 >>> ((2 : Int32).toUInt32 &&& Int32.toUInt32 31)).toInt32 &&& 858993459)) : Int32).toUInt32 >>> ((4 : Int32).toUInt32 &&& Int32.toUInt32 31)).toInt32) &&& 252645135) + (((((((l0 - (((l0 : Int32).toUInt32 >>> ((1 : Int32).toUInt32 &&& Int32.toUInt32 31)).toInt32 &&& 1431655765)) &&& 858993459) + ((((l0 - (((l0 : Int32).toUInt32 >>> ((1 : Int32).toUInt32 &&& Int32.toUInt32 31)).toInt32 &&& 1431655765)) : Int32).toUInt32 >>> ((2 : Int32).toUInt32 &&& Int32.toUInt32 31)).toInt32 &&& 858993459)) + (((((l0 - (((l0 : Int32).toUInt32 >>> ((1 : Int32).toUInt32 &&& Int32.toUInt32 31)).toInt32 &&& 1431655765)) &&& 858993459) + ((((l0 - (((l0 : Int32).toUInt32 >>> ((1 : Int32).toUInt32 &&& Int32.toUInt32 31)).toInt32 &&& 1431655765)) : Int32).toUInt32 >>> ((2 : Int32).toUInt32 &&& Int32.toUInt32 31)).toInt32 &&& 858993459)) : Int32).toUInt32 >>> ((4 : Int32).toUInt32 &&& Int32.toUInt32 31)).toInt32) &&& 252645135) : Int32).toUInt32 >>> ((8 : Int32).toUInt32 &&& Int32.toUInt32 31)).toInt32) + ((((((((l0 - (((l0 : Int32).toUInt32 >>> ((1 : Int32).toUInt32 &&& Int32.toUInt32 31)).toInt32 &&& 1431655765)) &&& 858993459) + ((((l0 - (((l0 : Int32).toUInt32 >>> ((1 : Int32).toUInt32 &&& Int32.toUInt32 31)).toInt32 &&& 1431655765)) : Int32).toUInt32 >>> ((2 : Int32).toUInt32 &&& Int32.toUInt32 31)).toInt32 &&& 858993459)) + (((((l0 - (((l0 : Int32).toUInt32 >>> ((1 : Int32).toUInt32 &&& Int32.toUInt32 31)).toInt32 &&& 1431655765)) &&& 858993459) + ((((l0 - (((l0 : Int32).toUInt32 >>> ((1 : Int32).toUInt32 &&& Int32.toUInt32 31)).toInt32 &&& 1431655765)) : Int32).toUInt32 >>> ((2 : Int32).toUInt32 &&& Int32.toUInt32 31)).toInt32 &&& 858993459)) : Int32).toUInt32 >>> ((4 : Int32).toUInt32 &&& Int32.toUInt32 31)).toInt32) &&& 252645135) + (((((((l0 - (((l0 : Int32).toUInt32 >>> ((1 : Int32).toUInt32 &&& Int32.toUInt32 31)).toInt32 &&& 1431655765)) &&& 858993459) + ((((l0 - (((l0 : Int32).toUInt32 >>> ((1 : Int32).toUInt32 &&& Int32.toUInt32 31)).toInt32 &&& 1431655765)) : Int32).toUInt32 >>> ((2 : Int32).toUInt32 &&& Int32.toUInt32 31)).toInt32 &&& 858993459)) + (((((l0 - (((l0 : Int32).toUInt32 >>> ((1 : Int32).toUInt32 &&& Int32.toUInt32 31)).toInt32 &&& 1431655765)) &&& 858993459) + ((((l0 - (((l0 : Int32).toUInt32 >>> ((1 : Int32).toUInt32 &&& Int32.toUInt32 31)).toInt32 &&& 1431655765)) : Int32).toUInt32 >>> ((2 : Int32).toUInt32 &&& Int32.toUInt32 31)).toInt32 &&& 858993459)) : Int32).toUInt32 >>> ((4 : Int32).toUInt32 &&& Int32.toUInt32 31)).toInt32) &&& 252645135) : Int32).toUInt32 >>> ((8 : Int32).toUInt32 &&& Int32.toUInt32 31)).toInt32) : Int32).toUInt32 >>> ((16 : Int32).toUInt32 &&& Int32.toUInt32 31)).toInt32) &&& 63))
theorem a_bc_ok : ∀ u : Nat, u < 32 → a_bc (N u) = N (pop u) := by decide +kernel
theorem c_265 {v : Nat} (h : v < 32) (k : Q (some (.int (N (pop v)))) (a_hp sc fd M)) : a_Ex 265 0 [some (.int (N v))] [] (a_hp sc fd M) Q := by
  refine v_265_0 ?_
  show Q (some (.int (a_bc (N v)))) (a_hp sc fd M)
  rw [a_bc_ok v h]
  exact k
end BASE2
