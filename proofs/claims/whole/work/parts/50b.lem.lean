/-! sets of sites by what holds of each -/
theorem bs_s (s : Nat) (p : Nat → Bool) : bs (s + 1) p = bs s p ||| (if p s = true then 1 <<< s else 0) := rfl
theorem s158_5 {n : Nat} (A : HA) (w v : Nat) : ∀ d s, n - s < d → s ≤ n → s_158_5 n d A w v (bs s (fun s => decide (A w s = v))) s = bs n (fun s => decide (A w s = v)) := by
  intro d
  induction d with
  | zero => intro s h; exact absurd h (Nat.not_lt_zero _)
  | succ d ih =>
    intro s h hs
    unfold s_158_5
    by_cases c : n ≤ s
    · rw [if_pos c, show s = n by omega]
    · rw [if_neg c]
      have i1 := ih (s + 1) (by omega) (by omega)
      rw [bs_s] at i1
      by_cases g : A w s = v
      · rw [if_pos g]
        rw [if_pos (decide_eq_true g)] at i1
        exact i1
      · rw [if_neg g]
        rw [if_neg (by simp [g])] at i1
        exact i1
theorem s158_bs {n : Nat} (A : HA) (w v : Nat) (h : n ≤ 5) : s_158 n A w v = bs n (fun s => decide (A w s = v)) := s158_5 A w v 6 0 (by omega) (Nat.zero_le _)
theorem s69_4 {n : Nat} (A : HA) (v : Nat) : ∀ d s, n - s < d → s ≤ n → s_69_4 n d A v (bs s (fun s => decide (A 1 s = v))) s = bs n (fun s => decide (A 1 s = v)) := by
  intro d
  induction d with
  | zero => intro s h; exact absurd h (Nat.not_lt_zero _)
  | succ d ih =>
    intro s h hs
    unfold s_69_4
    by_cases c : n ≤ s
    · rw [if_pos c, show s = n by omega]
    · rw [if_neg c]
      have i1 := ih (s + 1) (by omega) (by omega)
      rw [bs_s] at i1
      by_cases g : A 1 s = v
      · rw [if_pos g]
        rw [if_pos (decide_eq_true g)] at i1
        exact i1
      · rw [if_neg g]
        rw [if_neg (by simp [g]), Nat.or_zero] at i1
        exact i1
theorem s69_bs {n : Nat} (A : HA) (v : Nat) (h : n ≤ 5) : s_69 n A v = bs n (fun s => decide (A 1 s = v)) := s69_4 A v 6 0 (by omega) (Nat.zero_le _)
theorem s74_4 {n : Nat} (A : HA) (v : Nat) : ∀ d s, n - s < d → s ≤ n → s_74_4 n d A v (bs s (fun s => decide (A 2 s = v))) s = bs n (fun s => decide (A 2 s = v)) := by
  intro d
  induction d with
  | zero => intro s h; exact absurd h (Nat.not_lt_zero _)
  | succ d ih =>
    intro s h hs
    unfold s_74_4
    by_cases c : n ≤ s
    · rw [if_pos c, show s = n by omega]
    · rw [if_neg c]
      have i1 := ih (s + 1) (by omega) (by omega)
      rw [bs_s] at i1
      by_cases g : A 2 s = v
      · rw [if_pos g]
        rw [if_pos (decide_eq_true g)] at i1
        exact i1
      · rw [if_neg g]
        rw [if_neg (by simp [g]), Nat.or_zero] at i1
        exact i1
theorem s74_bs {n : Nat} (A : HA) (v : Nat) (h : n ≤ 5) : s_74 n A v = bs n (fun s => decide (A 2 s = v)) := s74_4 A v 6 0 (by omega) (Nat.zero_le _)
theorem s65_4 {n : Nat} (A : HA) (v : Nat) : ∀ d s, n - s < d → s ≤ n → s_65_4 n d A v (bs s (fun s => v.testBit (A 0 s))) s = bs n (fun s => v.testBit (A 0 s)) := by
  intro d
  induction d with
  | zero => intro s h; exact absurd h (Nat.not_lt_zero _)
  | succ d ih =>
    intro s h hs
    unfold s_65_4
    by_cases c : n ≤ s
    · rw [if_pos c, show s = n by omega]
    · rw [if_neg c]
      have i1 := ih (s + 1) (by omega) (by omega)
      rw [bs_s] at i1
      by_cases g : (v >>> A 0 s) &&& 1 = 1
      · rw [if_pos g]
        rw [bit_and] at g
        rw [if_pos g] at i1
        exact i1
      · rw [if_neg g]
        rw [bit_and] at g
        rw [if_neg g, Nat.or_zero] at i1
        exact i1
theorem s65_bs {n : Nat} (A : HA) (v : Nat) (h : n ≤ 5) : s_65 n A v = bs n (fun s => v.testBit (A 0 s)) := s65_4 A v 6 0 (by omega) (Nat.zero_le _)
theorem s158_lt (n : Nat) (A : HA) (w v : Nat) (h : n ≤ 5) : s_158 n A w v < 2 ^ n := by rw [s158_bs A w v h]; exact bs_lt _ _
theorem s158_t {n : Nat} {A : HA} {w v : Nat} (h : n ≤ 5) (t : Nat) : (s_158 n A w v).testBit t = (decide (t < n) && decide (A w t = v)) := by rw [s158_bs A w v h, bs_test]
theorem s69_t {n : Nat} {A : HA} {v : Nat} (h : n ≤ 5) (t : Nat) : (s_69 n A v).testBit t = (decide (t < n) && decide (A 1 t = v)) := by rw [s69_bs A v h, bs_test]
theorem s74_t {n : Nat} {A : HA} {v : Nat} (h : n ≤ 5) (t : Nat) : (s_74 n A v).testBit t = (decide (t < n) && decide (A 2 t = v)) := by rw [s74_bs A v h, bs_test]
theorem s65_t {n : Nat} {A : HA} {v : Nat} (h : n ≤ 5) (t : Nat) : (s_65 n A v).testBit t = (decide (t < n) && v.testBit (A 0 t)) := by rw [s65_bs A v h, bs_test]
theorem s172_lt (n : Nat) (A : HA) (s : Nat) (h : n ≤ 5) : s_172 n A s < 2 ^ n := Nat.lt_of_le_of_lt Nat.and_le_left (s158_lt n A 1 1 h)
theorem s172_ne (n : Nat) (A : HA) (s : Nat) (h : n ≤ 5) : s < n → A 1 s = 1 → ¬ s_172 n A s = 0 := by
  intro hs h1 e
  have : (s_172 n A s).testBit s = true := by
    unfold s_172
    rw [Nat.testBit_and, s158_t h, s158_t h]
    simp [hs, h1]
  rw [e, Nat.zero_testBit] at this
  exact absurd this (by simp)
theorem s198_7 (n : Nat) (A : HA) (x : Nat) : ∀ d a s, a < 2 ^ n → s_198_7 n d A x a s < 2 ^ n := by
  intro d
  induction d with
  | zero => intro a s h; exact Nat.two_pow_pos _
  | succ d ih =>
    intro a s h
    unfold s_198_7
    split
    · exact h
    · split
      · exact ih _ _ (Nat.lt_of_le_of_lt Nat.and_le_left h)
      · exact ih _ _ h
theorem s198_lt (n : Nat) (A : HA) (x : Nat) : s_198 n A x < 2 ^ n := s198_7 n A x 6 _ 0 (ev_lt n)
theorem s198_low (n : Nat) (A : HA) (x : Nat) (h : n ≤ 5) : s_198 n A x = 0 ∨ low (s_198 n A x) 5 0 < n := by
  by_cases c : s_198 n A x = 0
  · exact Or.inl c
  · exact Or.inr (low_lt c (s198_lt n A x) h)
theorem s199_ne (n : Nat) (A : HA) (x : Nat) : s_199 n A x = 0 ∨ ¬ s_198 n A x = 0 := by
  by_cases c : s_198 n A x = 0
  · left; unfold s_199; rw [if_pos c]
  · exact Or.inr c
theorem low_or {n x : Nat} (h : n ≤ 5) : x = 0 ∨ ¬ x < 2 ^ n ∨ low x 5 0 < n := by
  by_cases c : x = 0
  · exact Or.inl c
  · by_cases d : x < 2 ^ n
    · exact Or.inr (Or.inr (low_lt c d h))
    · exact Or.inr (Or.inl d)
theorem s189_le (n : Nat) (A : HA) (x y : Nat) : s_189 n A x y ≤ 3 ∨ s_189 n A x y = 4294967295 := by
  unfold s_189
  repeat (first | omega | split)
theorem s189_f (n : Nat) (A : HA) (x y : Nat) (h : A 6 1 = 0) : s_189 n A x y ≤ 3 := by
  unfold s_189
  simp only [h, if_true]
  repeat (first | omega | split)
