/-! TWO HALLS THAT ARE THE SAME BUT FOR WHAT AN ACT KEEPS FOR ITSELF -/
def EQ (A B : HA) : Prop := ∀ w k, w ≤ 8 → (w = 6 → k < 5) → A w k = B w k
theorem EQ.refl (A : HA) : EQ A A := fun _ _ _ _ => rfl
theorem EQ.symm {A B : HA} (e : EQ A B) : EQ B A := fun w k h1 h2 => (e w k h1 h2).symm
theorem EQ.trans {A B C : HA} (e : EQ A B) (f : EQ B C) : EQ A C := fun w k h1 h2 => (e w k h1 h2).trans (f w k h1 h2)
theorem EQ.a {A B : HA} (e : EQ A B) {w : Nat} (hw : w < 6) (k : Nat) : A w k = B w k := e w k (by omega) (by omega)
theorem EQ.f {A B : HA} (e : EQ A B) {k : Nat} (hk : k < 5) : A 6 k = B 6 k := e 6 k (by omega) (fun _ => hk)
theorem EQ.up {A B : HA} (e : EQ A B) (w k v : Nat) : EQ (a_up A w k v) (a_up B w k v) := fun w' k' h1 h2 => by
  rw [a_up_def, a_up_def]
  split
  · rfl
  · exact e w' k' h1 h2
theorem EQ.l {A B : HA} (e : EQ A B) (w k v : Nat) (h : 9 ≤ w ∨ (w = 6 ∧ 5 ≤ k)) : EQ (a_up A w k v) B := fun w' k' h1 h2 => by
  rw [a_up_def, if_neg (by omega)]
  exact e w' k' h1 h2
theorem EQ.r {A B : HA} (e : EQ A B) (w k v : Nat) (h : 9 ≤ w ∨ (w = 6 ∧ 5 ≤ k)) : EQ A (a_up B w k v) := (e.symm.l w k v h).symm
theorem EQ.ladc {A B : HA} (e : EQ A B) (v : Nat) : EQ (lad A v) (lad B v) := by
  have e70 : A 7 0 = B 7 0 := e 7 0 (by omega) (by omega)
  unfold lad
  rw [e70]
  split
  · exact (e.up 8 _ _).up 7 _ _
  · intro w k h1 h2
    show (if w = 8 then _ else _) = (if w = 8 then _ else _)
    split
    · split
      · rfl
      · exact e 8 _ (by omega) (by omega)
    · exact e w k h1 h2
theorem EQ.becc {A B : HA} (e : EQ A B) (s v : Nat) : EQ (bec A s v) (bec B s v) := by
  unfold bec
  rw [e.a (w := 0) (by omega) s]
  split
  · exact e
  · exact (e.ladc _).up 0 s v
theorem EQ.wn {n : Nat} {A B : HA} (e : EQ A B) (w : WN n A) : WN n B := by
  obtain ⟨h1, h2, h3, h4, h5⟩ := w
  refine ⟨h1, ?_, fun s hs => ?_, ?_, fun j => ?_⟩
  · rw [← e.f (k := 1) (by omega), ← e.f (k := 2) (by omega), ← e.f (k := 3) (by omega), ← e.f (k := 4) (by omega)]; exact h2
  · rw [← e.a (w := 0) (by omega), ← e.a (w := 1) (by omega), ← e.a (w := 2) (by omega), ← e.a (w := 3) (by omega), ← e.a (w := 4) (by omega), ← e.a (w := 5) (by omega)]; exact h3 s hs
  · rw [← e 7 0 (by omega) (by omega)]; exact h4
  · rw [← e 8 j (by omega) (by omega)]; exact h5 j
section XPU
variable {n : Nat} {A B : HA}
theorem x69 (e : EQ A B) (h : n ≤ 5) (v : Nat) : s_158 n B 1 v = s_69 n A v := by
  rw [s158_bs B 1 v h, s69_bs A v h]
  exact bs_congr (fun s _ => by rw [e.a (by omega)])
theorem x74 (e : EQ A B) (h : n ≤ 5) (v : Nat) : s_158 n B 2 v = s_74 n A v := by
  rw [s158_bs B 2 v h, s74_bs A v h]
  exact bs_congr (fun s _ => by rw [e.a (by omega)])
theorem x172 (e : EQ A B) (h : n ≤ 5) (s : Nat) : s_172 n B s = s_69 n A 1 &&& s_74 n A (A 2 s) := by
  unfold s_172
  rw [x69 e h, x74 e h, e.a (by omega)]
theorem x49 (e : EQ A B) (x : Nat) : s_160 n B x = s_49 n A x := by
  have L : ∀ d a s, s_160_4 n d B x a s = s_49_4 n d A x a s := by
    intro d
    induction d with
    | zero => intro a s; rfl
    | succ d ih =>
      intro a s
      unfold s_160_4 s_49_4
      simp only [ih, Nat.add_zero, e.a (w := 4) (by omega)]
  exact L 6 0 0
theorem x84 (e : EQ A B) (x : Nat) : s_198 n B x = s_84 n A x := by
  have L : ∀ d a s, s_198_7 n d B x a s = s_84_7 n d A x a s := by
    intro d
    induction d with
    | zero => intro a s; rfl
    | succ d ih =>
      intro a s
      unfold s_198_7 s_84_7
      rw [ih, ih, e.a (by omega)]
  exact L 6 _ 0
theorem x83 (e : EQ A B) (x : Nat) : s_199 n B x = s_83 n A x := by
  unfold s_199 s_83
  rw [x84 e]
/-- the states of a set: which are there -/
theorem s55_t (h : n ≤ 5) (x v : Nat) : (s_55 n A x).testBit v = true ↔ ∃ s, s < n ∧ x.testBit s = true ∧ A 0 s = v := by
  have L : ∀ d a s, n - s < d → ((s_55_4 n d A x a s).testBit v = true ↔ a.testBit v = true ∨ ∃ t, s ≤ t ∧ t < n ∧ x.testBit t = true ∧ A 0 t = v) := by
    intro d
    induction d with
    | zero => intro a s h; exact absurd h (Nat.not_lt_zero _)
    | succ d ih =>
      intro a s h
      unfold s_55_4
      by_cases c : n ≤ s
      · rw [if_pos c]
        refine ⟨Or.inl, fun q => ?_⟩
        rcases q with q | ⟨t, h1, h2, -⟩
        · exact q
        · omega
      · rw [if_neg c]
        by_cases g : (x >>> s) &&& 1 = 1
        · rw [if_pos g]
          rw [bit_and] at g
          rw [ih _ _ (by omega), Nat.testBit_or, Nat.one_shiftLeft, Nat.testBit_two_pow, Bool.or_eq_true, decide_eq_true_eq]
          refine ⟨fun q => ?_, fun q => ?_⟩
          · rcases q with (q | q) | ⟨t, h1, h2, h3, h4⟩
            · exact Or.inl q
            · exact Or.inr ⟨s, Nat.le_refl _, by omega, g, q⟩
            · exact Or.inr ⟨t, by omega, h2, h3, h4⟩
          · rcases q with q | ⟨t, h1, h2, h3, h4⟩
            · exact Or.inl (Or.inl q)
            · by_cases e : t = s
              · subst e; exact Or.inl (Or.inr h4)
              · exact Or.inr ⟨t, by omega, h2, h3, h4⟩
        · rw [if_neg g]
          rw [bit_and] at g
          rw [ih _ _ (by omega)]
          refine ⟨fun q => ?_, fun q => ?_⟩
          · rcases q with q | ⟨t, h1, h2, h3, h4⟩
            · exact Or.inl q
            · exact Or.inr ⟨t, by omega, h2, h3, h4⟩
          · rcases q with q | ⟨t, h1, h2, h3, h4⟩
            · exact Or.inl q
            · by_cases e : t = s
              · subst e; exact absurd h3 g
              · exact Or.inr ⟨t, by omega, h2, h3, h4⟩
  have := L 6 0 0 (by omega)
  rw [show s_55 n A x = s_55_4 n 6 A x 0 0 from rfl, this]
  simp
theorem and0 (x m : Nat) : x &&& m = 0 ↔ ∀ v, x.testBit v = true → m.testBit v = false := by
  refine ⟨fun h v hv => ?_, fun h => ?_⟩
  · have := congrArg (fun z => z.testBit v) h
    simp only [Nat.testBit_and, Nat.zero_testBit, hv, Bool.true_and] at this
    exact this
  · apply Nat.eq_of_testBit_eq
    intro v
    rw [Nat.testBit_and, Nat.zero_testBit]
    cases c : x.testBit v with
    | false => rfl
    | true => rw [h v c]; rfl
/-- none of a set is in one of some states -/
theorem s55_0 (h : n ≤ 5) (x m : Nat) : (s_55 n A x &&& m = 0) ↔ ∀ s, s < n → x.testBit s = true → m.testBit (A 0 s) = false := by
  rw [and0]
  refine ⟨fun q s h1 h2 => q _ ((s55_t h x _).mpr ⟨s, h1, h2, rfl⟩), fun q v hv => ?_⟩
  obtain ⟨s, h1, h2, h3⟩ := (s55_t h x v).mp hv
  rw [← h3]
  exact q s h1 h2
theorem bs0 (x : Nat) (p : Nat → Bool) : (x &&& bs n p = 0) ↔ ∀ s, s < n → x.testBit s = true → p s = false := by
  rw [and0]
  refine ⟨fun q s h1 h2 => ?_, fun q s hs => ?_⟩
  · have := q s h2
    rw [bs_test] at this
    simpa [h1] using this
  · rw [bs_test]
    by_cases c : s < n
    · rw [q s c hs]; simp
    · simp [c]
theorem x190 (e : EQ A B) (h : n ≤ 5) (x v : Nat) : (s_190 n B x v = 0) ↔ ∀ s, s < n → x.testBit s = true → ¬ A 0 s = v := by
  unfold s_190
  rw [s158_bs B 0 v h, bs0]
  refine ⟨fun q s h1 h2 => ?_, fun q s h1 h2 => ?_⟩
  · have := q s h1 h2
    rw [← e.a (by omega)] at this
    simpa using this
  · rw [← e.a (by omega)]
    simpa using q s h1 h2
theorem x190t (e : EQ A B) (h : n ≤ 5) (x v t : Nat) : (s_190 n B x v).testBit t = (x.testBit t && (decide (t < n) && decide (A 0 t = v))) := by
  unfold s_190
  rw [Nat.testBit_and, s158_t h, ← e.a (by omega)]
theorem or0 (x y : Nat) : x ||| y = 0 ↔ x = 0 ∧ y = 0 := by
  refine ⟨fun h => ?_, fun h => by rw [h.1, h.2]; rfl⟩
  have := @Nat.left_le_or x y
  have := @Nat.right_le_or x y
  omega
theorem tb16 : ∀ v, v ≤ 5 → ((16 : Nat).testBit v = false ↔ ¬ v = 4) := by decide
theorem tb32 : ∀ v, v ≤ 5 → ((32 : Nat).testBit v = false ↔ ¬ v = 5) := by decide
theorem tb4 : ∀ v, v ≤ 5 → ((4 : Nat).testBit v = false ↔ ¬ v = 2) := by decide
theorem tb2 : ∀ v, v ≤ 5 → ((2 : Nat).testBit v = false ↔ ¬ v = 1) := by decide
theorem tb3 : ∀ v, v ≤ 5 → ((3 : Nat).testBit v = false ↔ ¬ v = 0 ∧ ¬ v = 1) := by decide
theorem tb6 : ∀ v, v ≤ 5 → ((6 : Nat).testBit v = (decide (v = 2) || decide (v = 1))) := by decide
theorem tb11 : ∀ v, v ≤ 5 → ((11 : Nat).testBit v = (decide (v = 0) || decide (v = 1) || decide (v = 3))) := by decide
theorem tb15 : ∀ v, v ≤ 5 → ((15 : Nat).testBit v = false ↔ v = 4 ∨ v = 5) := by decide
theorem tb48 : ∀ v, v ≤ 5 → ((48 : Nat).testBit v = (decide (v = 4) || decide (v = 5))) := by decide
theorem m16 (e : EQ A B) (w : WN n A) (x : Nat) : (s_55 n A x &&& 16 = 0) = (s_190 n B x 4 = 0) := by
  have h := w.1.2
  rw [s55_0 h, x190 e h]
  exact propext ⟨fun q s h1 h2 => (tb16 _ (w.b0 (by omega))).mp (q s h1 h2), fun q s h1 h2 => (tb16 _ (w.b0 (by omega))).mpr (q s h1 h2)⟩
theorem m32 (e : EQ A B) (w : WN n A) (x : Nat) : (s_55 n A x &&& 32 = 0) = (s_190 n B x 5 = 0) := by
  have h := w.1.2
  rw [s55_0 h, x190 e h]
  exact propext ⟨fun q s h1 h2 => (tb32 _ (w.b0 (by omega))).mp (q s h1 h2), fun q s h1 h2 => (tb32 _ (w.b0 (by omega))).mpr (q s h1 h2)⟩
theorem m4 (e : EQ A B) (w : WN n A) (x : Nat) : (s_55 n A x &&& 4 = 0) = (s_190 n B x 2 = 0) := by
  have h := w.1.2
  rw [s55_0 h, x190 e h]
  exact propext ⟨fun q s h1 h2 => (tb4 _ (w.b0 (by omega))).mp (q s h1 h2), fun q s h1 h2 => (tb4 _ (w.b0 (by omega))).mpr (q s h1 h2)⟩
theorem m2 (e : EQ A B) (w : WN n A) (x : Nat) : (s_55 n A x &&& 2 = 0) = (s_190 n B x 1 = 0) := by
  have h := w.1.2
  rw [s55_0 h, x190 e h]
  exact propext ⟨fun q s h1 h2 => (tb2 _ (w.b0 (by omega))).mp (q s h1 h2), fun q s h1 h2 => (tb2 _ (w.b0 (by omega))).mpr (q s h1 h2)⟩
theorem m3 (e : EQ A B) (w : WN n A) (x : Nat) : (s_55 n A x &&& 3 = 0) = (s_190 n B x 0 ||| s_190 n B x 1 = 0) := by
  have h := w.1.2
  rw [s55_0 h, or0, x190 e h, x190 e h]
  exact propext ⟨fun q => ⟨fun s h1 h2 => ((tb3 _ (w.b0 (by omega))).mp (q s h1 h2)).1, fun s h1 h2 => ((tb3 _ (w.b0 (by omega))).mp (q s h1 h2)).2⟩, fun q s h1 h2 => (tb3 _ (w.b0 (by omega))).mpr ⟨q.1 s h1 h2, q.2 s h1 h2⟩⟩
theorem set6 (e : EQ A B) (w : WN n A) (x : Nat) : x &&& s_65 n A 6 = s_190 n B x 2 ||| s_190 n B x 1 := by
  have h := w.1.2
  apply Nat.eq_of_testBit_eq
  intro t
  rw [Nat.testBit_and, Nat.testBit_or, x190t e h, x190t e h, s65_t h]
  by_cases c : t < n
  · rw [tb6 _ (w.b0 (by omega))]
    cases x.testBit t <;> simp [c]
  · simp [c]
theorem set11 (e : EQ A B) (w : WN n A) (x : Nat) : x &&& s_65 n A 11 = s_190 n B x 0 ||| s_190 n B x 1 ||| s_190 n B x 3 := by
  have h := w.1.2
  apply Nat.eq_of_testBit_eq
  intro t
  rw [Nat.testBit_and, Nat.testBit_or, Nat.testBit_or, x190t e h, x190t e h, x190t e h, s65_t h]
  by_cases c : t < n
  · rw [tb11 _ (w.b0 (by omega))]
    cases x.testBit t <;> simp [c]
  · simp [c]
theorem ite_le {α : Type} {a b : Nat} {x y : α} : (if a ≤ b then x else y) = (if b < a then y else x) := by
  by_cases c : a ≤ b
  · rw [if_pos c, if_neg (by omega)]
  · rw [if_neg c, if_pos (by omega)]
/-- the verdict is the same -/
theorem x77 (e : EQ A B) (w : WN n A) (x y : Nat) : s_189 n B x y = s_77 n A x y := by
  unfold s_189 s_77
  simp only [m16 e w, m32 e w, m4 e w, m3 e w, m2 e w, set6 e w, set11 e w, x49 e, e.f (k := 1) (by omega), e.f (k := 3) (by omega), e.f (k := 4) (by omega), ite_le]
  by_cases h1 : s_190 n B x 4 = 0
  · simp only [h1, if_true]
    by_cases h2 : s_190 n B x 5 = 0
    · simp only [h2, if_true]
      by_cases h3 : B 6 1 = 0
      · simp only [h3, if_true]
      · simp only [h3, if_false]
    · simp only [h2, if_false]
  · simp only [h1, if_false]
theorem x76 (e : EQ A B) (w : WN n A) {x : Nat} (hx : x < 2 ^ n) : s_173 n B x = s_76 n A x := by
  have h := w.1.2
  unfold s_173 s_76 s_174
  have : (x &&& ((s_158 n B 0 4 ||| s_158 n B 0 5) ^^^ 4294967295) = 0) = (s_55 n A x &&& 15 = 0) := by
    rw [s55_0 h, and0]
    refine propext ⟨fun q s h1 h2 => ?_, fun q s hs => ?_⟩
    · have := q s h2
      rw [Nat.testBit_xor, Nat.testBit_or, s158_t h, s158_t h, ← e.a (by omega), show (4294967295 : Nat) = 2 ^ 32 - 1 from rfl, Nat.testBit_two_pow_sub_one] at this
      refine (tb15 _ (w.b0 (by omega))).mpr ?_
      by_cases c : A 0 s = 4
      · exact Or.inl c
      · by_cases c5 : A 0 s = 5
        · exact Or.inr c5
        · simp [h1, c, c5] at this
          omega
    · have hn : s < n := by
        rcases Nat.lt_or_ge s n with c | c
        · exact c
        · have := Nat.testBit_lt_two_pow (Nat.lt_of_lt_of_le hx (Nat.pow_le_pow_right (n := 2) (by omega) c))
          rw [this] at hs
          exact absurd hs (by simp)
      rw [Nat.testBit_xor, Nat.testBit_or, s158_t h, s158_t h, ← e.a (by omega), show (4294967295 : Nat) = 2 ^ 32 - 1 from rfl, Nat.testBit_two_pow_sub_one]
      rcases (tb15 _ (w.b0 (by omega))).mp (q s hn hs) with c | c
      · simp [hn, c]; omega
      · simp [hn, c]; omega
  simp only [this]
theorem x85 (e : EQ A B) (w : WN n A) {x : Nat} (hx : x < 2 ^ n) : s_202 n B x = s_85 n A x := by
  unfold s_202 s_85
  rw [x76 e w hx, x77 e w]
theorem lw_low {x : Nat} (h : n ≤ 5) (h0 : ¬ x = 0) (hx : x < 2 ^ n) : low x 5 0 = lw n x := by
  have h1 := low_lt h0 hx h
  have h2 : x.testBit (low x 5 0) = true := low_bit (by omega)
  rcases lw_or (x := x) h with ⟨-, q⟩ | ⟨q1, q2, q3⟩
  · rw [q _ h1] at h2; exact absurd h2 (by simp)
  · rcases Nat.lt_trichotomy (low x 5 0) (lw n x) with c | c | c
    · rw [q3 _ c] at h2; exact absurd h2 (by simp)
    · exact c
    · have := low_min (set := x) (d := 5) (s := 0) (Nat.zero_le _) c
      rw [q2] at this; exact absurd this (by simp)
end XPU
