/-! sets of sites as numbers; the loops that make them -/
def bs (n : Nat) (p : Nat → Bool) : Nat := match n with
  | 0 => 0
  | k + 1 => bs k p ||| (if p k then 1 <<< k else 0)
theorem bs_test (n : Nat) (p : Nat → Bool) (i : Nat) : (bs n p).testBit i = (decide (i < n) && p i) := by
  induction n with
  | zero => simp [bs]
  | succ n ih =>
    unfold bs
    rw [Nat.testBit_or, ih]
    by_cases hp : p n
    · rw [if_pos hp, Nat.one_shiftLeft, Nat.testBit_two_pow]
      by_cases hi : i = n
      · subst hi; simp [hp]
      · have h1 : ¬ n = i := fun e => hi e.symm
        simp only [h1, decide_false, Bool.or_false]
        congr 1
        simp only [decide_eq_decide]
        omega
    · rw [if_neg hp]
      simp only [Nat.zero_testBit, Bool.or_false]
      by_cases hi : i = n
      · subst hi; simp [hp]
      · congr 1
        simp only [decide_eq_decide]
        omega
theorem bs_lt (n : Nat) (p : Nat → Bool) : bs n p < 2 ^ n := by
  induction n with
  | zero => simp [bs]
  | succ n ih =>
    unfold bs
    refine Nat.or_lt_two_pow (Nat.lt_of_lt_of_le ih (Nat.pow_le_pow_right (by omega) (by omega))) ?_
    split
    · rw [Nat.one_shiftLeft]; exact Nat.pow_lt_pow_right (by omega) (by omega)
    · exact Nat.two_pow_pos _
theorem bs_32 {n : Nat} (h : n ≤ 5) (p : Nat → Bool) : bs n p < 32 := Nat.lt_of_lt_of_le (bs_lt n p) (Nat.pow_le_pow_right (by omega) h)
theorem bs_congr {n : Nat} {p q : Nat → Bool} (h : ∀ s, s < n → p s = q s) : bs n p = bs n q := by
  induction n with
  | zero => rfl
  | succ n ih =>
    unfold bs
    rw [ih (fun s hs => h s (by omega)), h n (by omega)]
theorem bs_step {s : Nat} (h : s < 31) (p : Nat → Bool) (hp : p s = true) : N (bs s p) ||| (1 <<< (N s &&& 31)) = N (bs (s + 1) p) := by
  show N (bs s p) ||| (N 1 <<< (N s &&& N 31)) = _
  rw [N_31 (by omega), N_shl (by omega), N_or]
  show _ = N (bs s p ||| _)
  rw [if_pos hp]
theorem bs_skip {s : Nat} (p : Nat → Bool) (hp : p s = false) : N (bs s p) = N (bs (s + 1) p) := by
  show _ = N (bs s p ||| _)
  rw [hp]
  simp
theorem N_bit {a s : Nat} (ha : a < 2147483648) (hs : s < 32) : (((N a >>> (N s &&& 31)) &&& 1) = 1) = (a.testBit s = true) := by
  rw [nN 31, nN 1, N_31 hs, N_shr ha hs, N_and, Nat.testBit_eq_decide_div_mod_eq, Nat.and_one_is_mod, Nat.shiftRight_eq_div_pow]
  have h1 : a / 2 ^ s % 2 < 2 := Nat.mod_lt _ (by omega)
  rw [N_inj (by omega) (by omega)]
  simp
theorem N_nbit {a s : Nat} (ha : a < 2147483648) (hs : s < 32) (h : ¬ ((N a >>> (N s &&& 31)) &&& 1) = 1) : a.testBit s = false := by
  rw [N_bit ha hs] at h
  simpa using h
/-- a fold over the sites -/
def fo {α : Type} (f : α → Nat → α) (a : α) (n : Nat) : α := match n with
  | 0 => a
  | k + 1 => f (fo f a k) k
theorem fo_congr {α : Type} {f g : α → Nat → α} {a : α} : ∀ {n : Nat}, (∀ x s, s < n → f x s = g x s) → fo f a n = fo g a n
  | 0, _ => rfl
  | n + 1, h => by
    unfold fo
    rw [fo_congr (fun x s hs => h x s (by omega)), h _ n (by omega)]
/-! THE HALL IN THE ABSTRACT: A w s: w = 0 state, 1 life, 2 group, 3 vote, 4 weight, 5 knows; A 6: 0 n, 1 form, 2 phase, 3 yes, 4 no -/
abbrev HA : Type := Nat → Nat → Nat
def WA (A : HA) : Prop := (2 ≤ A 6 0 ∧ A 6 0 ≤ 5) ∧ A 6 1 < 2 ∧ A 6 2 < 4 ∧ A 6 3 < 16 ∧ A 6 4 < 16 ∧ ∀ s, s < 5 → A 0 s < 6 ∧ A 1 s < 3 ∧ A 2 s < 5 ∧ A 3 s < 2 ∧ (1 ≤ A 4 s ∧ A 4 s < 4) ∧ A 5 s < 32
def RH (M : a_Mm) (b : Nat) (A : HA) : Prop := (∀ k, k < 5 → M b k = N (A 6 k)) ∧ (∀ w, w < 6 → ∀ s, s < 5 → M (b + 1 + w) s = N (A w s))
def RR (M : a_Mm) (A : HA) : Prop := (∀ k, k < 5 → M 171 k = N (A 6 k)) ∧ (∀ w, w < 6 → ∀ s, s < A 6 0 → M 171 (5 + 6 * s + w) = N (A w s))
theorem WA.n5 {A : HA} (h : WA A) : A 6 0 ≤ 5 := h.1.2
theorem WA.n2 {A : HA} (h : WA A) : 2 ≤ A 6 0 := h.1.1
theorem WA.st {A : HA} (h : WA A) {s : Nat} (hs : s < 5) : A 0 s < 6 := (h.2.2.2.2.2 s hs).1
theorem WA.up {A : HA} (h : WA A) {s : Nat} (hs : s < 5) : A 1 s < 3 := (h.2.2.2.2.2 s hs).2.1
theorem WA.gr {A : HA} (h : WA A) {s : Nat} (hs : s < 5) : A 2 s < 5 := (h.2.2.2.2.2 s hs).2.2.1
theorem WA.vo {A : HA} (h : WA A) {s : Nat} (hs : s < 5) : A 3 s < 2 := (h.2.2.2.2.2 s hs).2.2.2.1
theorem WA.we {A : HA} (h : WA A) {s : Nat} (hs : s < 5) : A 4 s < 4 := (h.2.2.2.2.2 s hs).2.2.2.2.1.2
theorem WA.kn {A : HA} (h : WA A) {s : Nat} (hs : s < 5) : A 5 s < 32 := (h.2.2.2.2.2 s hs).2.2.2.2.2
theorem RH.n {M : a_Mm} {b : Nat} {A : HA} (r : RH M b A) : M b 0 = N (A 6 0) := r.1 0 (by omega)
theorem RH.form {M : a_Mm} {b : Nat} {A : HA} (r : RH M b A) : M b 1 = N (A 6 1) := r.1 1 (by omega)
theorem RH.phase {M : a_Mm} {b : Nat} {A : HA} (r : RH M b A) : M b 2 = N (A 6 2) := r.1 2 (by omega)
theorem RH.yes {M : a_Mm} {b : Nat} {A : HA} (r : RH M b A) : M b 3 = N (A 6 3) := r.1 3 (by omega)
theorem RH.no {M : a_Mm} {b : Nat} {A : HA} (r : RH M b A) : M b 4 = N (A 6 4) := r.1 4 (by omega)
theorem RH.st {M : a_Mm} {b : Nat} {A : HA} (r : RH M b A) {s : Nat} (hs : s < 5) : M (b + 1) s = N (A 0 s) := r.2 0 (by omega) s hs
theorem RH.up {M : a_Mm} {b : Nat} {A : HA} (r : RH M b A) {s : Nat} (hs : s < 5) : M (b + 2) s = N (A 1 s) := r.2 1 (by omega) s hs
theorem RH.gr {M : a_Mm} {b : Nat} {A : HA} (r : RH M b A) {s : Nat} (hs : s < 5) : M (b + 3) s = N (A 2 s) := r.2 2 (by omega) s hs
theorem RH.vo {M : a_Mm} {b : Nat} {A : HA} (r : RH M b A) {s : Nat} (hs : s < 5) : M (b + 4) s = N (A 3 s) := r.2 3 (by omega) s hs
theorem RH.we {M : a_Mm} {b : Nat} {A : HA} (r : RH M b A) {s : Nat} (hs : s < 5) : M (b + 5) s = N (A 4 s) := r.2 4 (by omega) s hs
theorem RH.kn {M : a_Mm} {b : Nat} {A : HA} (r : RH M b A) {s : Nat} (hs : s < 5) : M (b + 6) s = N (A 5 s) := r.2 5 (by omega) s hs
/-- the sites whose w is v -/
def tho (A : HA) (w v : Nat) : Nat := bs (A 6 0) (fun s => decide (A w s = v))
/-- the sites whose state is one of the states -/
def sta (A : HA) (states : Nat) : Nat := bs (A 6 0) (fun s => states.testBit (A 0 s))
/-- the states of the sites of a set -/
def sti (A : HA) (set : Nat) : Nat := fo (fun x s => if set.testBit s then x ||| 1 <<< A 0 s else x) 0 (A 6 0)
def wgt (A : HA) (set : Nat) : Nat := fo (fun x s => if set.testBit s then x + A 4 s else x) 0 (A 6 0)
def evr (A : HA) : Nat := 2 ^ A 6 0 - 1
def lst (A : HA) (set : Nat) : Nat := fo (fun x s => if set.testBit s then x &&& A 5 s else x) (evr A) (A 6 0)
theorem N_evr {n : Nat} (h : n ≤ 5) : ((1 <<< (N n &&& 31)) - 1) = N (2 ^ n - 1) := (by decide +kernel : ∀ n : Nat, n ≤ 5 → ((1 <<< (Int32.ofNat n &&& 31)) - 1) = Int32.ofNat (2 ^ n - 1)) n h
theorem fo_or_lt {f : Nat → Nat} {c : Nat → Bool} {m : Nat} : ∀ {n : Nat}, (∀ s, s < n → f s < m) → fo (fun x s => if c s then x ||| 1 <<< f s else x) 0 n < 2 ^ m
  | 0, _ => Nat.two_pow_pos m
  | n + 1, h => by
    unfold fo
    have i1 := fo_or_lt (n := n) (fun s hs => h s (by omega)) (c := c)
    split
    · exact Nat.or_lt_two_pow i1 (by rw [Nat.one_shiftLeft]; exact Nat.pow_lt_pow_right (by omega) (h n (by omega)))
    · exact i1
theorem sti_lt {A : HA} (w : WA A) (set : Nat) : sti A set < 64 := fo_or_lt (m := 6) (fun s hs => w.st (by have := w.n5; omega))
theorem fo_add_le {f : Nat → Nat} {c : Nat → Bool} {m : Nat} : ∀ {n : Nat}, (∀ s, s < n → f s ≤ m) → fo (fun x s => if c s then x + f s else x) 0 n ≤ m * n
  | 0, _ => by simp [fo]
  | n + 1, h => by
    unfold fo
    have i1 := fo_add_le (n := n) (fun s hs => h s (by omega)) (c := c)
    have i2 := h n (by omega)
    rw [Nat.mul_add]
    split <;> omega
theorem wgt_le {A : HA} (w : WA A) (set : Nat) : wgt A set ≤ 15 := by
  have := w.n5
  refine Nat.le_trans (fo_add_le (m := 3) (fun s hs => ?_)) (by omega)
  have := w.we (s := s) (by omega)
  omega
theorem evr_lt {A : HA} (w : WA A) : evr A < 32 := by
  have h1 : 2 ^ A 6 0 ≤ 2 ^ 5 := Nat.pow_le_pow_right (by omega) w.n5
  have h2 := Nat.two_pow_pos (A 6 0)
  unfold evr
  omega
theorem fo_and_le {f : Nat → Nat} {c : Nat → Bool} {a : Nat} : ∀ {n : Nat}, fo (fun x s => if c s then x &&& f s else x) a n ≤ a
  | 0 => Nat.le_refl _
  | n + 1 => by
    unfold fo
    split
    · exact Nat.le_trans Nat.and_le_left fo_and_le
    · exact fo_and_le
theorem lst_lt {A : HA} (w : WA A) (set : Nat) : lst A set < 32 := Nat.lt_of_le_of_lt fo_and_le (evr_lt w)
section BASE
variable {sc : a_Sc} {fd : Nat} {M : a_Mm} {Q : Option Value → a_Hp → Prop} {b : Nat} {A : HA}
theorem oc_69 (hb : HB b) (w : WA A) (r : RH M b A) {v : Nat} (hv : v < 2147483648) (k : Q (some (.int (N (tho A 1 v)))) (a_hp sc fd M)) : a_Ex 69 0 [some (.ref b), some (.int (N v)), none, none] [] (a_hp sc fd M) Q := by
  have h5 := w.n5
  have L : ∀ d s, A 6 0 - s = d → s ≤ A 6 0 → a_Ex 69 4 [some (.ref b), some (.int (N v)), some (.int (N (bs s (fun s => decide (A 1 s = v))))), some (.int (N s))] [] (a_hp sc fd M) Q := by
    intro d
    induction d with
    | zero =>
      intro s hd hs
      have e : s = A 6 0 := by omega
      subst e
      refine v_69_4 hb ⟨fun _ => k, fun h => absurd (by rw [r.n]; exact Int32.le_refl _) h⟩
    | succ d ih =>
      intro s hd hs
      have i1 := ih (s + 1) (by omega) (by omega)
      have w1 := w.up (s := s) (by omega)
      refine v_69_4 hb ⟨fun h => ?_, fun _ => ⟨?_, fun g => ?_, fun g => ?_⟩⟩
      · rw [r.n, N_le (by omega) (by omega)] at h; omega
      · rw [a_in_N (by omega)]; omega
      · rw [N_toNat (by omega), r.up (by omega), N_inj (by omega) (by omega)] at g
        rw [nN, N_add, bs_skip (s := s) (fun s => decide (A 1 s = v)) (decide_eq_false g)]
        exact i1
      · rw [N_toNat (by omega), r.up (by omega), N_inj (by omega) (by omega)] at g
        rw [bs_step (by omega) _ (decide_eq_true g), nN, N_add]
        exact i1
  exact v_69_0 hb (L (A 6 0) 0 rfl (Nat.zero_le _))
theorem oc_74 (hb : HB b) (w : WA A) (r : RH M b A) {v : Nat} (hv : v < 2147483648) (k : Q (some (.int (N (tho A 2 v)))) (a_hp sc fd M)) : a_Ex 74 0 [some (.ref b), some (.int (N v)), none, none] [] (a_hp sc fd M) Q := by
  have h5 := w.n5
  have L : ∀ d s, A 6 0 - s = d → s ≤ A 6 0 → a_Ex 74 4 [some (.ref b), some (.int (N v)), some (.int (N (bs s (fun s => decide (A 2 s = v))))), some (.int (N s))] [] (a_hp sc fd M) Q := by
    intro d
    induction d with
    | zero =>
      intro s hd hs
      have e : s = A 6 0 := by omega
      subst e
      refine v_74_4 hb ⟨fun _ => k, fun h => absurd (by rw [r.n]; exact Int32.le_refl _) h⟩
    | succ d ih =>
      intro s hd hs
      have i1 := ih (s + 1) (by omega) (by omega)
      have w1 := w.gr (s := s) (by omega)
      refine v_74_4 hb ⟨fun h => ?_, fun _ => ⟨?_, fun g => ?_, fun g => ?_⟩⟩
      · rw [r.n, N_le (by omega) (by omega)] at h; omega
      · rw [a_in_N (by omega)]; omega
      · rw [N_toNat (by omega), r.gr (by omega), N_inj (by omega) (by omega)] at g
        rw [nN, N_add, bs_skip (s := s) (fun s => decide (A 2 s = v)) (decide_eq_false g)]
        exact i1
      · rw [N_toNat (by omega), r.gr (by omega), N_inj (by omega) (by omega)] at g
        rw [bs_step (by omega) _ (decide_eq_true g), nN, N_add]
        exact i1
  exact v_74_0 hb (L (A 6 0) 0 rfl (Nat.zero_le _))
theorem oc_65 (hb : HB b) (w : WA A) (r : RH M b A) {v : Nat} (hv : v < 2147483648) (k : Q (some (.int (N (sta A v)))) (a_hp sc fd M)) : a_Ex 65 0 [some (.ref b), some (.int (N v)), none, none] [] (a_hp sc fd M) Q := by
  have h5 := w.n5
  have L : ∀ d s, A 6 0 - s = d → s ≤ A 6 0 → a_Ex 65 4 [some (.ref b), some (.int (N v)), some (.int (N (bs s (fun s => v.testBit (A 0 s))))), some (.int (N s))] [] (a_hp sc fd M) Q := by
    intro d
    induction d with
    | zero =>
      intro s hd hs
      have e : s = A 6 0 := by omega
      subst e
      refine v_65_4 hb ⟨fun _ => k, fun h => absurd (by rw [r.n]; exact Int32.le_refl _) h⟩
    | succ d ih =>
      intro s hd hs
      have i1 := ih (s + 1) (by omega) (by omega)
      have w1 := w.st (s := s) (by omega)
      refine v_65_4 hb ⟨fun h => ?_, fun _ => ⟨?_, fun g => ?_, fun g => ?_⟩⟩
      · rw [r.n, N_le (by omega) (by omega)] at h; omega
      · rw [a_in_N (by omega)]; omega
      · rw [N_toNat (by omega), r.st (by omega)] at g
        rw [nN, N_add, bs_skip (s := s) (fun s => v.testBit (A 0 s)) (N_nbit hv (by omega) g)]
        exact i1
      · rw [N_toNat (by omega), r.st (by omega), N_bit hv (by omega)] at g
        rw [bs_step (s := s) (by omega) (fun s => v.testBit (A 0 s)) g, nN, N_add]
        exact i1
  exact v_65_0 hb (L (A 6 0) 0 rfl (Nat.zero_le _))
theorem oc_49 (hb : HB b) (w : WA A) (r : RH M b A) {v : Nat} (hv : v < 2147483648) (k : Q (some (.int (N (wgt A v)))) (a_hp sc fd M)) : a_Ex 49 0 [some (.ref b), some (.int (N v)), none, none] [] (a_hp sc fd M) Q := by
  have h5 := w.n5
  have L : ∀ d s, A 6 0 - s = d → s ≤ A 6 0 → a_Ex 49 4 [some (.ref b), some (.int (N v)), some (.int (N (fo (fun x s => if v.testBit s then x + A 4 s else x) 0 s))), some (.int (N s))] [] (a_hp sc fd M) Q := by
    intro d
    induction d with
    | zero =>
      intro s hd hs
      have e : s = A 6 0 := by omega
      subst e
      refine v_49_4 hb ⟨fun _ => k, fun h => absurd (by rw [r.n]; exact Int32.le_refl _) h⟩
    | succ d ih =>
      intro s hd hs
      have i1 := ih (s + 1) (by omega) (by omega)
      have w1 := w.we (s := s) (by omega)
      unfold fo at i1
      refine v_49_4 hb ⟨fun h => ?_, fun _ => ⟨fun g => ?_, fun g => ⟨?_, ?_⟩⟩⟩
      · rw [r.n, N_le (by omega) (by omega)] at h; omega
      · rw [N_bit hv (by omega)] at g
        rw [if_neg g] at i1
        rw [nN, N_add]
        exact i1
      · rw [a_in_N (by omega)]; omega
      · rw [N_bit hv (by omega)] at g
        rw [if_pos g] at i1
        rw [N_toNat (by omega), r.we (by omega), N_add, nN 1, N_add s 1]
        exact i1
  exact v_49_0 hb (L (A 6 0) 0 rfl (Nat.zero_le _))
theorem oc_55 (hb : HB b) (w : WA A) (r : RH M b A) {v : Nat} (hv : v < 2147483648) (k : Q (some (.int (N (sti A v)))) (a_hp sc fd M)) : a_Ex 55 0 [some (.ref b), some (.int (N v)), none, none] [] (a_hp sc fd M) Q := by
  have h5 := w.n5
  have L : ∀ d s, A 6 0 - s = d → s ≤ A 6 0 → a_Ex 55 4 [some (.ref b), some (.int (N v)), some (.int (N (fo (fun x s => if v.testBit s then x ||| 1 <<< A 0 s else x) 0 s))), some (.int (N s))] [] (a_hp sc fd M) Q := by
    intro d
    induction d with
    | zero =>
      intro s hd hs
      have e : s = A 6 0 := by omega
      subst e
      refine v_55_4 hb ⟨fun _ => k, fun h => absurd (by rw [r.n]; exact Int32.le_refl _) h⟩
    | succ d ih =>
      intro s hd hs
      have i1 := ih (s + 1) (by omega) (by omega)
      have w1 := w.st (s := s) (by omega)
      unfold fo at i1
      refine v_55_4 hb ⟨fun h => ?_, fun _ => ⟨fun g => ?_, fun g => ⟨?_, ?_⟩⟩⟩
      · rw [r.n, N_le (by omega) (by omega)] at h; omega
      · rw [N_bit hv (by omega)] at g
        rw [if_neg g] at i1
        rw [nN, N_add]
        exact i1
      · rw [a_in_N (by omega)]; omega
      · rw [N_bit hv (by omega)] at g
        rw [if_pos g] at i1
        rw [N_toNat (by omega), r.st (by omega), nN 1, nN 31, N_31 (by omega), N_shl (by omega), N_or, N_add s 1]
        exact i1
  exact v_55_0 hb (L (A 6 0) 0 rfl (Nat.zero_le _))
theorem oc_84 (hb : HB b) (w : WA A) (r : RH M b A) {v : Nat} (hv : v < 2147483648) (k : Q (some (.int (N (lst A v)))) (a_hp sc fd M)) : a_Ex 84 0 [some (.ref b), some (.int (N v)), none, none] [] (a_hp sc fd M) Q := by
  have h5 := w.n5
  have L : ∀ d s, A 6 0 - s = d → s ≤ A 6 0 → a_Ex 84 7 [some (.ref b), some (.int (N v)), some (.int (N (fo (fun x s => if v.testBit s then x &&& A 5 s else x) (evr A) s))), some (.int (N s))] [] (a_hp sc fd M) Q := by
    intro d
    induction d with
    | zero =>
      intro s hd hs
      have e : s = A 6 0 := by omega
      subst e
      refine v_84_7 hb ⟨fun _ => k, fun h => absurd (by rw [r.n]; exact Int32.le_refl _) h⟩
    | succ d ih =>
      intro s hd hs
      have i1 := ih (s + 1) (by omega) (by omega)
      have w1 := w.kn (s := s) (by omega)
      unfold fo at i1
      refine v_84_7 hb ⟨fun h => ?_, fun _ => ⟨fun g => ?_, fun g => ⟨?_, ?_⟩⟩⟩
      · rw [r.n, N_le (by omega) (by omega)] at h; omega
      · rw [N_bit hv (by omega)] at g
        rw [if_neg g] at i1
        rw [nN, N_add]
        exact i1
      · rw [a_in_N (by omega)]; omega
      · rw [N_bit hv (by omega)] at g
        rw [if_pos g] at i1
        rw [N_toNat (by omega), r.kn (by omega), N_and, nN 1, N_add s 1]
        exact i1
  exact v_84_0 hb (by rw [r.n, N_evr h5]; exact L (A 6 0) 0 rfl (Nat.zero_le _))
end BASE
