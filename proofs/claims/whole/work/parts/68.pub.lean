/-! what is told of the hall: class and reference tell the same -/
/-- what a call that changes nothing answers and leaves, in class and reference -/
def AP (A B : HA) (v : Nat) (q : Nat × HA) : Prop := v = q.1 ∧ EQ A q.2
theorem EQ.z {A B : HA} (e : EQ A B) : EQ A (a_up B 9 0 0) := e.r 9 0 0 (by omega)
theorem x14 {n l m : Nat} {A B : HA} (e : EQ A B) (w : WN n A) : AP A B (s_14 n A l m) (s_200 n B l m) := by
  have h5 := w.1.2
  have hn := w.1.1
  unfold s_14 s_200
  rw [in1 h5, in2 hn]
  by_cases c : l < n
  · rw [if_pos c, if_pos c]
    by_cases d : m ≤ 5
    · rw [if_pos (show 0 ≤ m ∧ m ≤ 5 by omega)]
      refine ⟨?_, e.z⟩
      show _ = B m l
      rw [← e.a (w := m) (by omega)]
      rcases (by omega : m = 0 ∨ m = 1 ∨ m = 2 ∨ m = 3 ∨ m = 4 ∨ m = 5) with rfl | rfl | rfl | rfl | rfl | rfl <;> simp
    · rw [if_neg (show ¬ (0 ≤ m ∧ m ≤ 5) by omega)]
      refine ⟨?_, e.z⟩
      rw [if_neg (by omega), if_neg (by omega), if_neg (by omega), if_neg (by omega), if_neg (by omega), if_neg (by omega)]
  · rw [if_neg c, if_neg c]; exact ⟨rfl, e.z⟩
theorem x15 {n l : Nat} {A B : HA} (e : EQ A B) (w : WN n A) : AP A B (s_15 n A l) (s_201 n B l) := by
  have h5 := w.1.2
  have hn := w.1.1
  unfold s_15 s_201
  rw [in1 h5, in2 hn, ← e.a (w := 1) (by omega) l, ← x172 e.z h5 l]
  by_cases c : l < n
  · rw [if_pos c, if_pos c]
    by_cases d : A 1 l = 1
    · rw [if_pos d, if_pos d]; exact ⟨(x85 e.z w (s172_lt n _ l h5)).symm, e.z⟩
    · rw [if_neg d, if_neg d]; exact ⟨rfl, e.z⟩
  · rw [if_neg c, if_neg c]; exact ⟨rfl, e.z⟩
theorem s85_le (n : Nat) (A : HA) (x : Nat) : s_85 n A x ≤ 3 ∨ s_85 n A x = 4294967295 := by
  unfold s_85
  split
  · exact s77_le n A x x
  · exact Or.inr rfl
theorem x16 {n l : Nat} {A B : HA} (e : EQ A B) (w : WN n A) : AP A B (s_16 n A l) (s_203 n B l) := by
  have h5 := w.1.2
  have hn := w.1.1
  unfold s_16 s_15 s_203
  rw [in1 h5, in2 hn, ← e.a (w := 1) (by omega) l, ← x172 e.z h5 l]
  by_cases c : l < n
  · rw [if_pos c, if_pos c]
    by_cases d : A 1 l = 1
    · rw [if_pos d, if_pos d, x85 e.z w (s172_lt n _ l h5)]
      have := s85_le n A (s_172 n (a_up B 9 0 0) l)
      by_cases d1 : s_85 n A (s_172 n (a_up B 9 0 0) l) = 4294967295
      · rw [d1, if_pos (by omega), if_pos rfl]; exact ⟨rfl, e.z⟩
      · rw [if_neg (show ¬ 2147483648 ≤ s_85 n A (s_172 n (a_up B 9 0 0) l) by omega), if_neg d1]
        by_cases d2 : s_85 n A (s_172 n (a_up B 9 0 0) l) = 2
        · rw [if_pos d2, if_pos (by omega)]; exact ⟨rfl, e.z⟩
        · rw [if_neg d2]
          by_cases d3 : s_85 n A (s_172 n (a_up B 9 0 0) l) = 3
          · rw [if_pos d3, if_pos (by omega)]; exact ⟨rfl, e.z⟩
          · rw [if_neg d3, if_neg (by omega)]; exact ⟨rfl, e.z⟩
    · rw [if_neg d, if_neg d, if_pos (by omega)]; exact ⟨rfl, e.z⟩
  · rw [if_neg c, if_neg c, if_pos (by omega)]; exact ⟨rfl, e.z⟩
theorem in3 {α : Type} {n l : Nat} (h5 : n ≤ 5) {x y : α} : (if (l < 1 ∨ 2147483648 ≤ l) then x else (if (ev n) < l then x else y)) = (if (1 ≤ l ∧ l ≤ ev n) then y else x) := by
  have := ev_le h5
  by_cases c : 1 ≤ l ∧ l ≤ ev n
  · rw [if_pos c, if_neg (by omega), if_neg (by omega)]
  · rw [if_neg c]
    by_cases d : l < 1 ∨ 2147483648 ≤ l
    · rw [if_pos d]
    · rw [if_neg d, if_pos (by omega)]
theorem ev_lt' {n l : Nat} (h : l ≤ ev n) : l < 2 ^ n := Nat.lt_of_le_of_lt h (ev_lt n)
theorem x18 {n l : Nat} {A B : HA} (e : EQ A B) (w : WN n A) : AP A B (s_18 n A l) (s_206 n B l) := by
  have h5 := w.1.2
  unfold s_18 s_206
  rw [in3 h5]
  by_cases c : 1 ≤ l ∧ l ≤ ev n
  · rw [if_pos c, if_pos c]; exact ⟨(x85 e.z w (ev_lt' c.2)).symm, e.z⟩
  · rw [if_neg c, if_neg c]; exact ⟨rfl, e.z⟩
theorem x25 {n l : Nat} {A B : HA} (e : EQ A B) (w : WN n A) : AP A B (s_25 n A l) (s_212 n B l) := by
  have h5 := w.1.2
  unfold s_25 s_212
  rw [in3 h5]
  by_cases c : 1 ≤ l ∧ l ≤ ev n
  · rw [if_pos c, if_pos c]; exact ⟨(x84 e.z l).symm, e.z⟩
  · rw [if_neg c, if_neg c]; exact ⟨rfl, e.z⟩
theorem s65_48 {n : Nat} (h5 : n ≤ 5) {A B : HA} (w : WN n A) (e : EQ A B) : s_65 n A 48 = s_174 n B := by
  apply Nat.eq_of_testBit_eq
  intro t
  unfold s_174
  rw [Nat.testBit_or, s65_t h5, s158_t h5, s158_t h5]
  by_cases c : t < n
  · rw [tb48 _ (w.b0 (by omega)), e.a (by omega)]; simp [c]
  · simp [c]
theorem x27 {n m : Nat} {A B : HA} (e : EQ A B) (w : WN n A) : AP A B (s_27 n A m) (s_224 n B m) := by
  have h5 := w.1.2
  have w0 : ∀ s, s < 5 → A 0 s ≤ 5 := fun s hs => w.b0 hs
  unfold s_27 s_224
  rw [s65_16 h5 w0 e.z, s65_32 h5 w0 e.z, s65_48 h5 w e.z, ← x69 e.z h5]
  by_cases c0 : m = 0
  · rw [if_pos c0, if_pos c0]; exact ⟨rfl, e.z⟩
  rw [if_neg c0, if_neg c0]
  by_cases c1 : m = 1
  · rw [if_pos c1, if_pos c1]; exact ⟨rfl, e.z⟩
  rw [if_neg c1, if_neg c1]
  by_cases c2 : m = 2
  · rw [if_pos c2, if_pos c2]; exact ⟨rfl, e.z⟩
  rw [if_neg c2, if_neg c2]
  by_cases c3 : m = 3
  · rw [if_pos c3, if_pos c3]; exact ⟨Nat.and_comm _ _, e.z⟩
  · rw [if_neg c3, if_neg c3]; exact ⟨rfl, e.z⟩
theorem x39 {n : Nat} {A B : HA} (e : EQ A B) : AP A B (s_39 n A) (s_254 n B) := ⟨e 7 0 (by omega) (by omega), e.z⟩
/-- whether a set is blocked -/
def blk (n : Nat) (A : HA) (x : Nat) : Bool := decide (s_76 n A x = 0 ∧ s_77 n A x x = 4294967295)
theorem x205 {n : Nat} {A B : HA} (e : EQ A B) (w : WN n A) {x : Nat} (hx : x < 2 ^ n) : s_205 n B x = if blk n A x = true then 1 else 0 := by
  unfold s_205 blk
  rw [x76 e w hx, x77 e w]
  by_cases c : s_76 n A x = 0
  · rw [if_pos c]
    by_cases d : s_77 n A x x = 4294967295
    · rw [if_pos d, if_pos (decide_eq_true ⟨c, d⟩)]
    · rw [if_neg d, if_neg (by simp [d])]
  · rw [if_neg c, if_neg (by simp [c])]
theorem s86_t {n : Nat} (h5 : n ≤ 5) {A : HA} (wg : ∀ s, s < n → A 2 s ≤ 4) (x t : Nat) : (s_86 n A x).testBit t = (x.testBit t && decide (t < n) && blk n A (x &&& s_74 n A (A 2 t))) := by
  have L : ∀ d acc g, 5 - g < d → g ≤ 5 → (s_86_4 n d A x acc g).testBit t = (acc.testBit t || (decide (g ≤ A 2 t) && x.testBit t && decide (t < n) && blk n A (x &&& s_74 n A (A 2 t)))) := by
    intro d
    induction d with
    | zero => intro acc g h; exact absurd h (Nat.not_lt_zero _)
    | succ d ih =>
      intro acc g h hg
      unfold s_86_4
      by_cases c : 4 < g
      · rw [if_pos c]
        by_cases ct : t < n
        · have := wg t ct
          rw [decide_eq_false (show ¬ g ≤ A 2 t by omega)]; simp
        · simp [ct]
      · rw [if_neg c]
        -- the group g adds just those of it, if it is blocked
        have key : (acc ||| (x &&& s_74 n A g)).testBit t = (acc.testBit t || (x.testBit t && (decide (t < n) && decide (A 2 t = g)))) := by
          rw [Nat.testBit_or, Nat.testBit_and, s74_t h5]
        have skip : blk n A (x &&& s_74 n A g) = false → (s_86_4 n d A x acc (g + 1)).testBit t = (acc.testBit t || (decide (g ≤ A 2 t) && x.testBit t && decide (t < n) && blk n A (x &&& s_74 n A (A 2 t)))) := fun hb => by
          rw [ih _ _ (by omega) (by omega)]
          by_cases cg : A 2 t = g
          · rw [cg, hb]; simp
          · have : decide (g + 1 ≤ A 2 t) = decide (g ≤ A 2 t) := by rw [decide_eq_decide]; omega
            rw [this]
        by_cases c1 : s_76 n A (x &&& s_74 n A g) = 0
        · rw [if_pos c1]
          by_cases c2 : s_77 n A (x &&& s_74 n A g) (x &&& s_74 n A g) = 4294967295
          · rw [if_pos c2, ih _ _ (by omega) (by omega), key]
            have hb : blk n A (x &&& s_74 n A g) = true := decide_eq_true ⟨c1, c2⟩
            by_cases cg : A 2 t = g
            · rw [cg, hb, decide_eq_false (show ¬ g + 1 ≤ g by omega), decide_eq_true (Nat.le_refl g), decide_eq_true (rfl : g = g)]
              cases acc.testBit t <;> cases x.testBit t <;> cases decide (t < n) <;> rfl
            · have : decide (g + 1 ≤ A 2 t) = decide (g ≤ A 2 t) := by rw [decide_eq_decide]; omega
              rw [this, decide_eq_false cg]
              simp
          · rw [if_neg c2]
            exact skip (by unfold blk; simp [c2])
        · rw [if_neg c1]
          exact skip (by unfold blk; simp [c1])
  have := L 6 0 0 (by omega) (by omega)
  rw [show s_86 n A x = s_86_4 n 6 A x 0 0 from rfl, this, Nat.zero_testBit, decide_eq_true (Nat.zero_le _)]
  simp
theorem s204_9 {n : Nat} (h5 : n ≤ 5) {A B : HA} (e : EQ A B) (w : WN n A) : ∀ d x s, n - s < d → s ≤ n → x = bs s (fun t => decide (A 1 t = 1) && blk n A (s_172 n B t)) → s_204_9 n d B x s = (bs n (fun t => decide (A 1 t = 1) && blk n A (s_172 n B t)), B) := by
  intro d
  induction d with
  | zero => intro x s h; exact absurd h (Nat.not_lt_zero _)
  | succ d ih =>
    intro x s h hs hx
    unfold s_204_9
    by_cases c : n ≤ s
    · rw [if_pos c, hx, show s = n by omega]
    · rw [if_neg c, ← e.a (w := 1) (by omega) s, x205 e w (s172_lt n B s h5)]
      by_cases c1 : A 1 s = 1
      · rw [if_pos c1]
        by_cases c2 : blk n A (s_172 n B s) = true
        · rw [if_pos c2, if_neg (by omega)]
          exact ih _ _ (by omega) (by omega) (by rw [bs_s, if_pos (by rw [c2, decide_eq_true c1]; rfl), hx])
        · rw [if_neg c2, if_pos rfl]
          exact ih _ _ (by omega) (by omega) (by rw [bs_s, if_neg (by simp [c2]), hx])
      · rw [if_neg c1]
        exact ih _ _ (by omega) (by omega) (by rw [bs_s, if_neg (by simp [c1]), hx])
theorem x17 {n : Nat} {A B : HA} (e : EQ A B) (w : WN n A) : AP A B (s_17 n A) (s_204 n B) := by
  have h5 := w.1.2
  unfold s_17 s_204
  rw [s204_9 h5 e.z w 6 0 0 (by omega) (Nat.zero_le _) rfl]
  refine ⟨?_, e.z⟩
  apply Nat.eq_of_testBit_eq
  intro t
  rw [s86_t h5 (fun s hs => w.b2 (by omega)), bs_test, s69_t h5, x172 e.z h5]
  cases decide (t < n) <;> simp
