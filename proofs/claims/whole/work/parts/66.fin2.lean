/-! finishing, recovering, rescuing, going down, waking, voting -/
theorem in2 {α : Type} {n l : Nat} (hn : 2 ≤ n) {x y : α} : (if 0 ≤ l ∧ l ≤ n - 1 then x else y) = (if l < n then x else y) := by
  by_cases c : l < n
  · rw [if_pos c, if_pos (by omega)]
  · rw [if_neg c, if_neg (by omega)]
theorem in1 {α : Type} {n l : Nat} (h5 : n ≤ 5) {x y : α} : (if 2147483648 ≤ l then x else (if n ≤ l then x else y)) = (if l < n then y else x) := by
  by_cases c : l < n
  · rw [if_pos c, if_neg (by omega), if_neg (by omega)]
  · rw [if_neg c]
    by_cases d : 2147483648 ≤ l
    · rw [if_pos d]
    · rw [if_neg d, if_pos (by omega)]
theorem x67 {n l : Nat} {A B : HA} (e : EQ A B) (w : WN n A) : AE (s_67 n A l) (s_181 n B l) := by
  have h5 := w.1.2
  have hn := w.1.1
  unfold s_67 s_181
  rw [in1 h5, in2 hn, e.a (w := 1) (by omega) l]
  by_cases c : l < n
  · rw [if_pos c, if_pos c]
    by_cases d : B 1 l = 0
    · rw [if_pos d, if_pos d]; exact ⟨rfl, e⟩
    · rw [if_neg d, if_neg d]
      refine ⟨?_, e.g63 h5⟩
      show pop _ = pop _
      rw [x69 (e.g63 h5) h5]
  · rw [if_neg c, if_neg c]; exact ⟨rfl, e⟩
theorem x70 {n l : Nat} {A B : HA} (e : EQ A B) (w : WN n A) : AE (s_70 n A l) (s_183 n B l) := by
  have h5 := w.1.2
  have hn := w.1.1
  unfold s_70 s_183
  rw [in1 h5, in2 hn, e.a (w := 1) (by omega) l, e.a (w := 0) (by omega) l]
  by_cases c : l < n
  · rw [if_pos c, if_pos c]
    by_cases d : B 1 l = 0
    · rw [if_pos d, if_pos d]; exact ⟨rfl, e.up 1 l 2⟩
    · rw [if_neg d, if_neg d]; exact ⟨rfl, e⟩
  · rw [if_neg c, if_neg c]; exact ⟨rfl, e⟩
theorem x52 {n l m : Nat} {A B : HA} (e : EQ A B) (w : WN n A) : AE (s_52 n A l m) (s_153 n B l m) := by
  have h5 := w.1.2
  have hn := w.1.1
  unfold s_52 s_153
  rw [in1 h5, in2 hn, e.a (w := 0) (by omega) l, e.a (w := 3) (by omega) l]
  by_cases c : l < n
  · rw [if_pos c, if_pos c]
    by_cases d : m ≤ 1
    · rw [if_neg (by omega), if_pos d, if_pos (show 0 ≤ m ∧ m ≤ 1 by omega)]
      by_cases d : B 0 l = 0
      · rw [if_pos d, if_pos d]; exact ⟨rfl, e.up 3 l m⟩
      · rw [if_neg d, if_neg d]; exact ⟨rfl, e⟩
    · rw [if_neg (show ¬ (0 ≤ m ∧ m ≤ 1) by omega)]
      by_cases d2 : 2147483648 ≤ m
      · rw [if_pos d2]; exact ⟨rfl, e⟩
      · rw [if_neg d2, if_neg d]; exact ⟨rfl, e⟩
  · rw [if_neg c, if_neg c]; exact ⟨rfl, e⟩
theorem x72 {n l k : Nat} {A B : HA} (e : EQ A B) (w : WN n A) : AE (s_72 n A l k) (s_187 n B l k) := by
  have h5 := w.1.2
  have hn := w.1.1
  unfold s_72 s_187
  rw [in1 h5, in2 hn, e.a (w := 1) (by omega) l]
  by_cases c : l < n
  · rw [if_pos c, if_pos c]
    by_cases c1 : isK k = 0
    · rw [if_pos c1, if_pos c1]; exact ⟨rfl, e⟩
    rw [if_neg c1, if_neg c1]
    by_cases c2 : B 1 l = 1
    · rw [if_pos c2, if_pos c2, ← x172 e h5 l]
      have hlt := s172_lt n B l h5
      have hne := s172_ne n B l h5 c c2
      rw [lw_low h5 hne hlt]
      by_cases c3 : lw n (s_172 n B l) = l
      · rw [if_pos c3, if_pos c3, x76 e w hlt, x77 e w]
        by_cases c4 : s_76 n A (s_172 n B l) = 0
        · rw [if_pos c4, if_pos c4]
          by_cases c5 : s_77 n A (s_172 n B l) (s_172 n B l) = 4294967295
          · rw [if_pos c5, if_pos c5]; exact ⟨rfl, e⟩
          · rw [if_neg c5, if_neg c5]
            have := s77_le n A (s_172 n B l) (s_172 n B l)
            refine ⟨rfl, x79 e w (isK_t c1) c ?_ (by omega)⟩
            rcases lw_or (x := s_172 n B l) h5 with ⟨q, -⟩ | ⟨-, q, -⟩
            · omega
            · rw [c3] at q; exact q
        · rw [if_neg c4, if_neg c4]; exact ⟨rfl, e⟩
      · rw [if_neg c3, if_neg c3]; exact ⟨rfl, e⟩
    · rw [if_neg c2, if_neg c2]; exact ⟨rfl, e⟩
  · rw [if_neg c, if_neg c]; exact ⟨rfl, e⟩
theorem m48 {n : Nat} {A B : HA} (e : EQ A B) (w : WN n A) (x : Nat) : (s_55 n A x &&& 48 = 0) = (s_190 n B x 4 = 0 ∧ s_190 n B x 5 = 0) := by
  have h := w.1.2
  rw [s55_0 h, x190 e h, x190 e h]
  refine propext ⟨fun q => ⟨fun s h1 h2 c => ?_, fun s h1 h2 c => ?_⟩, fun q s h1 h2 => ?_⟩
  · have := q s h1 h2; rw [c] at this; exact absurd this (by decide)
  · have := q s h1 h2; rw [c] at this; exact absurd this (by decide)
  · rw [tb48 _ (w.b0 (by omega))]
    have a1 := q.1 s h1 h2
    have a2 := q.2 s h1 h2
    simp [a1, a2]
theorem x80 {n l : Nat} {A B : HA} (e : EQ A B) (w : WN n A) : AE (s_80 n A l) (s_194 n B l) := by
  have h5 := w.1.2
  have hn := w.1.1
  have w1 := w.f1
  unfold s_80 s_194
  rw [in1 h5, in2 hn, ← e.a (w := 1) (by omega) l, ← e.a (w := 0) (by omega) l]
  by_cases c : l < n
  · rw [if_pos c, if_pos c]
    by_cases c1 : A 1 l = 2
    · rw [if_pos c1, if_pos c1]
      have w0 := w.b0 (s := l) (by omega)
      have E : ∀ (A2 B2 : HA), EQ A2 B2 → AE ((s_81 n A2 l) 0 l, s_81 n A2 l) ((s_195 n B2 l) 0 l, s_195 n B2 l) := fun A2 B2 e2 => ⟨(e2.g81 h5).a (by omega) l, e2.g81 h5⟩
      have b5 : s_62 n A l 5 63 = bec A l 5 := by rw [s62_bec, if_pos (tb63' _ w0), tv_n (by omega)]
      have b4 : s_62 n A l 4 63 = bec A l 4 := by rw [s62_bec, if_pos (tb63' _ w0), tv_n (by omega)]
      rw [b5, b4, s173_1 h5 B c, ← e.a (w := 0) (by omega) l, ← x172 e h5 l, ← e.f (k := 1) (by omega)]
      simp only [m48 e w, m16 e w]
      by_cases c2 : A 0 l = 0
      · rw [if_pos c2, if_pos c2]; exact E _ _ (e.becc l 5)
      · rw [if_neg c2, if_neg c2]
        by_cases c4 : A 0 l = 4
        · rw [if_pos c4]
          simp only [c4, true_or, if_true]
          simp only [show ¬ (1 : Nat) = 0 by omega, if_false]
          exact E _ _ e
        · rw [if_neg c4]
          by_cases c5 : A 0 l = 5
          · rw [if_pos c5]
            simp only [c5, or_true, if_true]
            simp only [show ¬ (1 : Nat) = 0 by omega, if_false]
            exact E _ _ e
          · rw [if_neg c5]
            simp only [c4, c5, or_self, if_false, if_true]
            by_cases d4 : s_190 n B (s_172 n B l) 4 = 0
            · simp only [d4, true_and, if_true]
              by_cases d5 : s_190 n B (s_172 n B l) 5 = 0
              · simp only [d5, if_true]
                by_cases d6 : A 6 1 = 0
                · rw [if_pos d6, if_pos d6]; exact ⟨rfl, e⟩
                · rw [if_neg d6, if_neg d6]; exact E _ _ e
              · simp only [d5, if_false]
                exact E _ _ (e.becc l 5)
            · simp only [d4, false_and, if_false]
              exact E _ _ (e.becc l 4)
    · rw [if_neg c1, if_neg c1]; exact ⟨rfl, e⟩
  · rw [if_neg c, if_neg c]; exact ⟨rfl, e⟩
