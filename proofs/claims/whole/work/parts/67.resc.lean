/-! rescuing -/
theorem s81_wn {n : Nat} {A : HA} (w : WN n A) {s : Nat} (hs : s < 5) : WN n (s_81 n A s) := by
  have L : ∀ d (C : HA) x t, WN n C → x ≤ 31 → t ≤ 5 → n ≤ 5 → WN n (s_81_11 n d C s x t) := by
    intro d
    induction d with
    | zero => intro C x t wc _ _ _; exact wc
    | succ d ih =>
      intro C x t wc hx ht h5
      unfold s_81_11
      by_cases c : n ≤ t
      · rw [if_pos c]; exact wc.put (by omega) (show x < 32 by omega)
      · rw [if_neg c]
        split
        · split
          · have b5 := wc.b5 (s := t) (by omega)
            have q1 := shl_le 4 (s := s) (by omega)
            have q2 := shl_le 4 (s := t) (by omega)
            have q3 : C 5 t ||| 1 <<< s ≤ 31 := or_le 5 (by omega) (by omega)
            have q4 : x ||| 1 <<< t ≤ 31 := or_le 5 (by omega) (by omega)
            exact ih _ _ _ (wc.put (by omega) (show _ < 32 by omega)) q4 (by omega) h5
          · exact ih _ _ _ wc hx (by omega) h5
        · exact ih _ _ _ wc hx (by omega) h5
  exact L 6 _ 0 0 (w.put (by omega) (show 1 < 3 by omega)) (by omega) (by omega) w.1.2
theorem x82 {n k : Nat} {A B : HA} (e : EQ A B) (w : WN n A) : AE (s_82 n A k) (s_197 n B k) := by
  have h5 := w.1.2
  have hn := w.1.1
  have w1 := w.f1
  unfold s_82 s_197
  rw [← e.f (k := 1) (by omega), x69 e h5, x69 e h5]
  by_cases c1 : isK k = 0
  · rw [if_pos c1, if_pos c1]; exact ⟨rfl, e⟩
  rw [if_neg c1, if_neg c1]
  by_cases c2n : A 6 1 = 1
  · rw [if_neg (show ¬ A 6 1 = 0 by omega), if_pos c2n]; exact ⟨rfl, e⟩
  have c2 : A 6 1 = 0 := by omega
  rw [if_pos c2, if_neg c2n]
  by_cases c3n : ¬ s_69 n A 1 = 0
  · rw [if_neg c3n, if_neg c3n]; exact ⟨rfl, e⟩
  have c3 : s_69 n A 1 = 0 := by omega
  rw [if_pos c3, if_pos c3]
  have hal : s_69 n A 2 < 2 ^ n := by rw [s69_bs A 2 h5]; exact bs_lt _ _
  by_cases c4 : s_69 n A 2 = 0
  · have : lw n (s_69 n A 2) = 4294967295 := by
      rcases lw_or (x := s_69 n A 2) h5 with ⟨q, -⟩ | ⟨-, q, -⟩
      · exact q
      · rw [c4, Nat.zero_testBit] at q; exact absurd q (by simp)
    rw [if_pos this, if_pos c4]; exact ⟨rfl, e⟩
  have hl := lw_lt h5 c4 hal
  rw [if_neg (show ¬ lw n (s_69 n A 2) = 4294967295 by omega), if_neg c4, lw_low h5 c4 hal, ← e.a (w := 2) (by omega), x74 e h5, x83 e, x84 e]
  have hT : s_69 n A 2 &&& s_74 n A (A 2 (lw n (s_69 n A 2))) < 2 ^ n := Nat.lt_of_le_of_lt Nat.and_le_left hal
  generalize s_69 n A 2 &&& s_74 n A (A 2 (lw n (s_69 n A 2))) = T at hT ⊢
  by_cases c5 : s_83 n A T = 0
  · rw [if_pos c5, if_pos c5]; exact ⟨rfl, e⟩
  rw [if_neg c5, if_neg c5]
  have hJ := s84_lt n A T
  have hJ0 : ¬ s_84 n A T = 0 ∧ s_84 n A T &&& (T ^^^ 4294967295) = 0 := by
    unfold s_83 at c5
    by_cases d : s_84 n A T = 0
    · rw [if_pos d] at c5; exact absurd rfl c5
    · rw [if_neg d] at c5
      by_cases d2 : s_84 n A T &&& (T ^^^ 4294967295) = 0
      · exact ⟨d, d2⟩
      · rw [if_neg d2] at c5; exact absurd rfl c5
  generalize s_84 n A T = J at hJ hJ0 ⊢
  have hlJ := lw_lt h5 hJ0.1 hJ
  have hTJ : T.testBit (lw n J) = true := by
    rcases lw_or (x := J) h5 with ⟨q, -⟩ | ⟨-, q, -⟩
    · omega
    · have := (and0 _ _).mp hJ0.2 _ q
      rw [Nat.testBit_xor, show (4294967295 : Nat) = 2 ^ 32 - 1 from rfl, Nat.testBit_two_pow_sub_one, decide_eq_true (by omega)] at this
      simpa using this
  have hk := isK_t c1
  have L : ∀ d (A B : HA) t, EQ A B → WN n A → A 6 1 = 0 → n - t < d → AE (s_82_85 n d A k T J t) (s_197_83 n d B k T J t) := by
    intro d
    induction d with
    | zero => intro A B t _ _ _ h; exact absurd h (Nat.not_lt_zero _)
    | succ d ih =>
      intro A B t e w f h
      unfold s_82_85 s_197_83
      by_cases c : n ≤ t
      · rw [if_pos c, if_pos c, x76 e w hT, x77 e w, lw_low h5 hJ0.1 hJ]
        by_cases d : s_76 n A T = 0
        · rw [if_pos d, if_pos d]
          exact ⟨rfl, x79 e w hk hlJ hTJ (s77_f n A J T f)⟩
        · rw [if_neg d, if_neg d]; exact ⟨rfl, e⟩
      · rw [if_neg c, if_neg c]
        by_cases d : (T >>> t) &&& 1 = 1
        · rw [if_pos d, if_pos d]
          exact ih _ _ _ (e.g81 h5) (s81_wn w (by omega)) (by rw [s81_f1]; exact f) (by omega)
        · rw [if_neg d, if_neg d]
          exact ih _ _ _ e w f (by omega)
  exact L 6 A B 0 e w c2 (by omega)
