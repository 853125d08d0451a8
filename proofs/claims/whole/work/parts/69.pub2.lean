/-! stands, sets, fewest -/
/-- how many of k numbers from t on have p -/
def cn (p : Nat → Bool) : Nat → Nat → Nat
  | 0, _ => 0
  | k + 1, t => (if p t = true then 1 else 0) + cn p k (t + 1)
theorem cn_s (p : Nat → Bool) (k t : Nat) : cn p (k + 1) t = (if p t = true then 1 else 0) + cn p k (t + 1) := rfl
theorem cn_congr {p q : Nat → Bool} : ∀ {k t : Nat}, (∀ s, t ≤ s → s < t + k → p s = q s) → cn p k t = cn q k t
  | 0, _, _ => rfl
  | k + 1, t, h => by rw [cn_s, cn_s, h t (Nat.le_refl _) (by omega), cn_congr (fun s h1 h2 => h s (by omega) (by omega))]
theorem cn_0 {p : Nat → Bool} : ∀ {k t : Nat}, (∀ s, t ≤ s → s < t + k → p s = false) → cn p k t = 0
  | 0, _, _ => rfl
  | k + 1, t, h => by rw [cn_s, if_neg (by rw [h t (Nat.le_refl _) (by omega)]; simp), cn_0 (fun s h1 h2 => h s (by omega) (by omega))]
theorem cn_add {p : Nat → Bool} : ∀ {a b t : Nat}, cn p (a + b) t = cn p a t + cn p b (t + a)
  | 0, b, t => by rw [Nat.zero_add]; show _ = 0 + _; rw [Nat.zero_add]; rfl
  | a + 1, b, t => by
    rw [show a + 1 + b = (a + b) + 1 by omega, cn_s, cn_s, cn_add, show t + 1 + a = t + (a + 1) by omega]
    omega
/-- whether the others stand without some -/
def stw (n : Nat) (A : HA) (f x : Nat) : Bool := decide (x &&& (s_69 n A 1 ^^^ 4294967295) = 0) && decide (pop x = f) && decide (s_86 n A (s_69 n A 1 &&& (x ^^^ 4294967295)) = 0)
theorem s20_31 {n f : Nat} {A : HA} : ∀ d c t, s_69 n A 1 + 1 - t < d → s_20_31 n d A f (s_69 n A 1) c t = c + cn (stw n A f) (s_69 n A 1 + 1 - t) t := by
  intro d
  induction d with
  | zero => intro c t h; exact absurd h (Nat.not_lt_zero _)
  | succ d ih =>
    intro c t h
    unfold s_20_31
    by_cases c0 : s_69 n A 1 < t
    · rw [if_pos c0, show s_69 n A 1 + 1 - t = 0 by omega]; rfl
    · rw [if_neg c0, show s_69 n A 1 + 1 - t = (s_69 n A 1 + 1 - (t + 1)) + 1 by omega, cn_s, ih _ _ (by omega), ih _ _ (by omega)]
      unfold stw
      by_cases c1 : t &&& (s_69 n A 1 ^^^ 4294967295) = 0
      · rw [if_pos c1]
        by_cases c2 : pop t = f
        · rw [if_pos c2]
          by_cases c3 : s_86 n A (s_69 n A 1 &&& (t ^^^ 4294967295)) = 0
          · rw [if_pos c3, if_pos (by simp [c1, c2, c3])]; omega
          · rw [if_neg c3, if_neg (by simp [c3])]; omega
        · rw [if_neg c2, if_neg (by simp [c2])]; omega
      · rw [if_neg c1, if_neg (by simp [c1])]; omega
theorem s211_13 {n : Nat} (h5 : n ≤ 5) {A B : HA} (e : EQ A B) (w : WN n A) {x : Nat} (hx : x < 2 ^ n) : ∀ d t, n - t < d → (s_211_13 n d B x t = 0 ∨ s_211_13 n d B x t = 1) ∧ (s_211_13 n d B x t = 1 ↔ ∀ s, t ≤ s → s < n → x.testBit s = true → blk n A (x &&& s_74 n A (A 2 s)) = false) := by
  intro d
  induction d with
  | zero => intro t h; exact absurd h (Nat.not_lt_zero _)
  | succ d ih =>
    intro t h
    unfold s_211_13
    by_cases c : n ≤ t
    · rw [if_pos c]; exact ⟨Or.inr rfl, ⟨fun _ s h1 h2 => by omega, fun _ => rfl⟩⟩
    · rw [if_neg c]
      have i1 := ih (t + 1) (by omega)
      have skip : (x.testBit t = true → blk n A (x &&& s_74 n A (A 2 t)) = false) → (s_211_13 n d B x (t + 1) = 0 ∨ s_211_13 n d B x (t + 1) = 1) ∧ (s_211_13 n d B x (t + 1) = 1 ↔ ∀ s, t ≤ s → s < n → x.testBit s = true → blk n A (x &&& s_74 n A (A 2 s)) = false) := fun q => by
        refine ⟨i1.1, i1.2.trans ⟨fun z s h1 h2 h3 => ?_, fun z s h1 => z s (by omega)⟩⟩
        by_cases e : s = t
        · subst e; exact q h3
        · exact z s (by omega) h2 h3
      by_cases g : (x >>> t) &&& 1 = 1
      · rw [if_pos g]
        rw [bit_and] at g
        rw [x74 e h5, ← e.a (w := 2) (by omega) t, x205 e w (Nat.lt_of_le_of_lt Nat.and_le_left hx)]
        by_cases b : blk n A (x &&& s_74 n A (A 2 t)) = true
        · rw [if_pos b, if_neg (by omega)]
          exact ⟨Or.inl rfl, ⟨fun q => absurd q (by omega), fun q => by rw [q t (Nat.le_refl _) (by omega) g] at b; exact absurd b (by simp)⟩⟩
        · rw [if_neg b, if_pos rfl]
          exact skip (fun _ => by simpa using b)
      · rw [if_neg g]
        rw [bit_and] at g
        exact skip (fun q => absurd q g)
theorem s211 {n : Nat} {A B : HA} (e : EQ A B) (w : WN n A) (x : Nat) : (s_211 n B x = 0) = ¬ (s_86 n A (s_69 n A 1 &&& (x ^^^ 4294967295)) = 0) := by
  have h5 := w.1.2
  have hup : s_69 n A 1 < 2 ^ n := by rw [s69_bs A 1 h5]; exact bs_lt _ _
  have hx : s_69 n A 1 &&& (x ^^^ 4294967295) < 2 ^ n := Nat.lt_of_le_of_lt Nat.and_le_left hup
  unfold s_211
  rw [x69 e h5]
  generalize s_69 n A 1 &&& (x ^^^ 4294967295) = y at hx ⊢
  obtain ⟨h1, h2⟩ := s211_13 h5 e w hx 6 0 (by omega)
  have h3 : s_86 n A y = 0 ↔ ∀ s, 0 ≤ s → s < n → y.testBit s = true → blk n A (y &&& s_74 n A (A 2 s)) = false := by
    refine ⟨fun q s _ g1 g2 => ?_, fun q => ?_⟩
    · have := s86_t h5 (A := A) (fun s hs => w.b2 (by omega)) y s
      rw [q, Nat.zero_testBit, g2, decide_eq_true g1] at this
      simpa using this.symm
    · apply Nat.eq_of_testBit_eq
      intro t
      rw [s86_t h5 (fun s hs => w.b2 (by omega)), Nat.zero_testBit]
      cases c1 : y.testBit t with
      | false => rfl
      | true =>
        by_cases c2 : t < n
        · rw [q t (Nat.zero_le _) c2 c1]; simp
        · simp [c2]
  refine propext ⟨fun q z => ?_, fun q => ?_⟩
  · have := h2.mpr (h3.mp z); omega
  · rcases h1 with h | h
    · exact h
    · exact absurd (h3.mpr (h2.mp h)) q
theorem s210_30 {n f : Nat} {A B : HA} (e : EQ A B) (w : WN n A) : ∀ d c t, ev n + 1 - t < d → s_210_30 n d B f c t = (c + cn (stw n A f) (ev n + 1 - t) t, B) := by
  have h5 := w.1.2
  intro d
  induction d with
  | zero => intro c t h; exact absurd h (Nat.not_lt_zero _)
  | succ d ih =>
    intro c t h
    unfold s_210_30
    by_cases c0 : ev n < t
    · rw [if_pos c0, show ev n + 1 - t = 0 by omega]; rfl
    · rw [if_neg c0, show ev n + 1 - t = (ev n + 1 - (t + 1)) + 1 by omega, cn_s, ih _ _ (by omega), ih _ _ (by omega), x69 e h5]
      unfold stw
      by_cases c2 : pop t = f
      · rw [if_pos c2]
        by_cases c1 : t &&& (s_69 n A 1 ^^^ 4294967295) = 0
        · rw [if_pos c1]
          by_cases c3 : s_86 n A (s_69 n A 1 &&& (t ^^^ 4294967295)) = 0
          · rw [if_neg (by rw [s211 e w]; exact fun q => q c3), if_pos (by simp [c1, c2, c3])]; congr 1; omega
          · rw [if_pos (by rw [s211 e w]; exact c3), if_neg (by simp [c3])]; congr 1; omega
        · rw [if_neg c1, if_neg (by simp [c1])]; congr 1; omega
      · rw [if_neg c2, if_neg (by simp [c2])]; congr 1; omega
theorem sub_le {x y : Nat} (h : x &&& (y ^^^ 4294967295) = 0) (hx : x < 4294967296) : x ≤ y := by
  have e : x &&& y = x := by
    apply Nat.eq_of_testBit_eq
    intro v
    rw [Nat.testBit_and]
    cases c : x.testBit v with
    | false => rfl
    | true =>
      have := (and0 _ _).mp h v c
      have hv : v < 32 := by
        rcases Nat.lt_or_ge v 32 with q | q
        · exact q
        · rw [Nat.testBit_lt_two_pow (Nat.lt_of_lt_of_le (show x < 2 ^ 32 by omega) (Nat.pow_le_pow_right (by omega) q))] at c
          exact absurd c (by simp)
      rw [Nat.testBit_xor, show (4294967295 : Nat) = 2 ^ 32 - 1 from rfl, Nat.testBit_two_pow_sub_one, decide_eq_true hv] at this
      simpa using this
  have := @Nat.and_le_right x y
  omega
theorem x20 {n f : Nat} {A B : HA} (e : EQ A B) (w : WN n A) : AP A B (s_20 n A f) (s_210 n B f) := by
  have h5 := w.1.2
  have hn := w.1.1
  have hev := ev_le h5
  have hup : s_69 n A 1 < 2 ^ n := by rw [s69_bs A 1 h5]; exact bs_lt _ _
  have hup2 : s_69 n A 1 ≤ ev n := by unfold ev; omega
  unfold s_20 s_210
  rw [in2 hn]
  by_cases c : f < n
  · rw [if_neg (by omega), if_pos c, if_pos c, s20_31 33 0 0 (by omega), s210_30 e.z w 33 0 0 (by omega)]
    refine ⟨?_, e.z⟩
    show 0 + cn (stw n A f) (s_69 n A 1 + 1) 0 = 0 + cn (stw n A f) (ev n + 1) 0
    rw [show ev n + 1 = (s_69 n A 1 + 1) + (ev n - s_69 n A 1) by omega, cn_add (a := s_69 n A 1 + 1) (b := ev n - s_69 n A 1), cn_0 (k := ev n - s_69 n A 1)]
    · rfl
    · intro s h1 h2
      unfold stw
      have : ¬ s &&& (s_69 n A 1 ^^^ 4294967295) = 0 := fun q => by
        have := sub_le q (by omega)
        omega
      rw [decide_eq_false this]
      rfl
  · simp only [c, if_false]
    by_cases d : 2147483648 ≤ f
    · rw [if_pos d]; exact ⟨rfl, e.z⟩
    · rw [if_neg d]; exact ⟨rfl, e.z⟩
theorem s90_2 {n : Nat} {A : HA} {x d0 : Nat} : ∀ d t, n - t < d → (s_90_2 n d A x d0 t = 0 ∨ s_90_2 n d A x d0 t = 1) ∧ (s_90_2 n d A x d0 t = 1 ↔ ∀ s, t ≤ s → s < n → x.testBit s = true → s_49 n A (x &&& ((1 <<< s) ^^^ 4294967295)) < d0) := by
  intro d
  induction d with
  | zero => intro t h; exact absurd h (Nat.not_lt_zero _)
  | succ d ih =>
    intro t h
    unfold s_90_2
    by_cases c : n ≤ t
    · rw [if_pos c]; exact ⟨Or.inr rfl, ⟨fun _ s h1 h2 => by omega, fun _ => rfl⟩⟩
    · rw [if_neg c]
      have i1 := ih (t + 1) (by omega)
      have ext : (x.testBit t = true → s_49 n A (x &&& ((1 <<< t) ^^^ 4294967295)) < d0) → ((s_90_2 n d A x d0 (t + 1) = 0 ∨ s_90_2 n d A x d0 (t + 1) = 1) ∧ (s_90_2 n d A x d0 (t + 1) = 1 ↔ ∀ s, t ≤ s → s < n → x.testBit s = true → s_49 n A (x &&& ((1 <<< s) ^^^ 4294967295)) < d0)) := fun q => by
        refine ⟨i1.1, i1.2.trans ⟨fun z s h1 h2 h3 => ?_, fun z s h1 => z s (by omega)⟩⟩
        by_cases e : s = t
        · subst e; exact q h3
        · exact z s (by omega) h2 h3
      by_cases g : (x >>> t) &&& 1 = 1
      · rw [if_pos g]
        rw [bit_and] at g
        by_cases k : s_49 n A (x &&& ((1 <<< t) ^^^ 4294967295)) < d0
        · rw [if_pos k]; exact ext (fun _ => k)
        · rw [if_neg k]
          exact ⟨Or.inl rfl, ⟨fun q => absurd q (by omega), fun q => absurd (q t (Nat.le_refl _) (by omega) g) k⟩⟩
      · rw [if_neg g]
        rw [bit_and] at g
        exact ext (fun q => absurd q g)
theorem s216_2 {n wh : Nat} {A B : HA} (e : EQ A B) (hw : wh < 5) {x : Nat} : ∀ d t, n - t < d → (s_216_2 n d B x wh t = 0 ∨ s_216_2 n d B x wh t = 1) ∧ (s_216_2 n d B x wh t = 1 ↔ (∀ s, t ≤ s → s < n → x.testBit s = true → s_49 n A (x &&& ((1 <<< s) ^^^ 4294967295)) < A 6 wh) ∧ A 6 wh ≤ s_49 n A x) := by
  have h215 : ∀ y, s_215 n B y wh = if s_49 n A y < A 6 wh then 0 else 1 := fun y => by
    unfold s_215
    rw [x49 e, e.f hw]
  intro d
  induction d with
  | zero => intro t h; exact absurd h (Nat.not_lt_zero _)
  | succ d ih =>
    intro t h
    unfold s_216_2
    rw [h215, h215]
    by_cases c : n ≤ t
    · rw [if_pos c]
      by_cases k : s_49 n A x < A 6 wh
      · rw [if_pos k]; exact ⟨Or.inl rfl, ⟨fun q => absurd q (by omega), fun q => by have := q.2; omega⟩⟩
      · rw [if_neg k]; exact ⟨Or.inr rfl, ⟨fun _ => ⟨fun s h1 h2 => by omega, by omega⟩, fun _ => rfl⟩⟩
    · rw [if_neg c]
      have i1 := ih (t + 1) (by omega)
      have ext : (x.testBit t = true → s_49 n A (x &&& ((1 <<< t) ^^^ 4294967295)) < A 6 wh) → ((s_216_2 n d B x wh (t + 1) = 0 ∨ s_216_2 n d B x wh (t + 1) = 1) ∧ (s_216_2 n d B x wh (t + 1) = 1 ↔ (∀ s, t ≤ s → s < n → x.testBit s = true → s_49 n A (x &&& ((1 <<< s) ^^^ 4294967295)) < A 6 wh) ∧ A 6 wh ≤ s_49 n A x)) := fun q => by
        refine ⟨i1.1, i1.2.trans ⟨fun z => ⟨fun s h1 h2 h3 => ?_, z.2⟩, fun z => ⟨fun s h1 => z.1 s (by omega), z.2⟩⟩⟩
        by_cases e : s = t
        · subst e; exact q h3
        · exact z.1 s (by omega) h2 h3
      by_cases g : (x >>> t) &&& 1 = 1
      · rw [if_pos g]
        rw [bit_and] at g
        by_cases k : s_49 n A (x &&& ((1 <<< t) ^^^ 4294967295)) < A 6 wh
        · rw [if_pos k, if_pos rfl]; exact ext (fun _ => k)
        · rw [if_neg k, if_neg (show ¬ (1 : Nat) = 0 by omega)]
          exact ⟨Or.inl rfl, ⟨fun q => absurd q (by omega), fun q => absurd (q.1 t (Nat.le_refl _) (by omega) g) k⟩⟩
      · rw [if_neg g]
        rw [bit_and] at g
        exact ext (fun q => absurd q g)
theorem s21_41 {n l1 wh : Nat} {A B : HA} (h5 : n ≤ 5) (e : EQ A B) (hw : wh < 5) : ∀ d c t, s_214_37 n d B l1 wh c t = (s_21_41 n d A l1 (A 6 wh) c t, B) := by
  intro d
  induction d with
  | zero => intro c t; rfl
  | succ d ih =>
    intro c t
    unfold s_214_37 s_21_41
    by_cases c0 : ev n < t
    · rw [if_pos c0, if_pos c0]
    · rw [if_neg c0, if_neg c0, ih, ih, Nat.add_zero]
      have h215 : s_215 n B t wh = if s_49 n A t < A 6 wh then 0 else 1 := by
        unfold s_215
        rw [x49 e, e.f hw]
      obtain ⟨a1, a2⟩ : (s_216 n B t wh = 0 ∨ s_216 n B t wh = 1) ∧ (s_216 n B t wh = 1 ↔ _) := s216_2 e hw 6 0 (by omega)
      obtain ⟨b1, b2⟩ : (s_90 n A t (A 6 wh) = 0 ∨ s_90 n A t (A 6 wh) = 1) ∧ (s_90 n A t (A 6 wh) = 1 ↔ _) := s90_2 6 0 (by omega)
      by_cases k : s_49 n A t < A 6 wh
      · rw [if_pos k]
        by_cases g : 2 ≤ l1
        · rw [if_pos g, if_pos (a1.resolve_right (fun q => by have := (a2.mp q).2; omega))]
        · rw [if_neg g, h215, if_pos k, if_pos rfl]
      · rw [if_neg k]
        by_cases g : 2 ≤ l1
        · rw [if_pos g, if_neg (show ¬ l1 < 2 by omega)]
          rcases b1 with q | q
          · rw [if_pos q, if_pos (a1.resolve_right (fun z => by have := b2.mpr (a2.mp z).1; omega))]
          · rw [if_neg (show ¬ s_90 n A t (A 6 wh) = 0 by omega), if_neg (fun z => by have := a2.mpr ⟨b2.mp q, by omega⟩; omega)]
        · rw [if_neg g, if_pos (show l1 < 2 by omega), h215, if_neg k, if_neg (show ¬ (1 : Nat) = 0 by omega)]
theorem x21 {n l : Nat} {A B : HA} (e : EQ A B) (w : WN n A) : AP A B (s_21 n A l) (s_214 n B l) := by
  have h5 := w.1.2
  unfold s_21 s_214
  by_cases c : l ≤ 3
  · rw [if_neg (show ¬ 2147483648 ≤ l by omega), if_pos c, if_pos (show 0 ≤ l ∧ l ≤ 3 by omega)]
    by_cases d : l % 2 = 0
    · rw [if_pos d, if_pos d, s21_41 h5 e.z (by omega)]; exact ⟨rfl, e.z⟩
    · rw [if_neg d, if_neg d, s21_41 h5 e.z (by omega)]; exact ⟨rfl, e.z⟩
  · rw [if_neg (show ¬ (0 ≤ l ∧ l ≤ 3) by omega)]
    by_cases d : 2147483648 ≤ l
    · rw [if_pos d]; exact ⟨rfl, e.z⟩
    · rw [if_neg d, if_neg c]; exact ⟨rfl, e.z⟩
/-- the fewest, and of as few the least -/
def few (h : Nat → Prop) (m r : Nat) : Prop := (r = 4294967295 ∧ ∀ x, 1 ≤ x → x ≤ m → ¬ h x) ∨ (1 ≤ r ∧ r ≤ m ∧ h r ∧ ∀ x, 1 ≤ x → x ≤ m → h x → pop r < pop x ∨ (pop r = pop x ∧ r ≤ x))
theorem few_u {h : Nat → Prop} {m r q : Nat} (hm : m < 4294967295) (a : few h m r) (b : few h m q) : r = q := by
  rcases a with ⟨a1, a2⟩ | ⟨a1, a2, a3, a4⟩
  · rcases b with ⟨b1, b2⟩ | ⟨b1, b2, b3, b4⟩
    · omega
    · exact absurd b3 (a2 q b1 b2)
  · rcases b with ⟨b1, b2⟩ | ⟨b1, b2, b3, b4⟩
    · exact absurd a3 (b2 r a1 a2)
    · have h1 := a4 q b1 b2 b3
      have h2 := b4 r a1 a2 a3
      omega
theorem s26_7 {n : Nat} {A : HA} (h5 : n ≤ 5) : ∀ d b z t, ev n + 1 - t < d → 1 ≤ t → t ≤ ev n + 1 → ((b = 4294967295 ∧ z = 6 ∧ ∀ x, 1 ≤ x → x < t → s_83 n A x = 0) ∨ (1 ≤ b ∧ b < t ∧ z = pop b ∧ ¬ s_83 n A b = 0 ∧ ∀ x, 1 ≤ x → x < t → ¬ s_83 n A x = 0 → pop b < pop x ∨ (pop b = pop x ∧ b ≤ x))) → few (fun x => ¬ s_83 n A x = 0) (ev n) (s_26_7 n d A b z t) := by
  intro d
  induction d with
  | zero => intro b z t h; exact absurd h (Nat.not_lt_zero _)
  | succ d ih =>
    intro b z t h ht hte hi
    unfold s_26_7
    by_cases c0 : ev n < t
    · rw [if_pos c0]
      rcases hi with ⟨i1, -, i3⟩ | ⟨i1, i2, -, i4, i5⟩
      · exact Or.inl ⟨i1, fun x h1 h2 h3 => h3 (i3 x h1 (by omega))⟩
      · exact Or.inr ⟨i1, by omega, i4, fun x h1 h2 => i5 x h1 (by omega)⟩
    · rw [if_neg c0]
      have hp := pop_le t
      by_cases c1 : z ≤ pop t
      · rw [if_pos c1]
        refine ih _ _ _ (by omega) (by omega) (by omega) ?_
        rcases hi with ⟨i1, i2, i3⟩ | ⟨i1, i2, i3, i4, i5⟩
        · omega
        · refine Or.inr ⟨i1, by omega, i3, i4, fun x h1 h2 h3 => ?_⟩
          by_cases e : x = t
          · subst e; omega
          · exact i5 x h1 (by omega) h3
      · rw [if_neg c1]
        by_cases c2 : s_83 n A t = 0
        · rw [if_pos c2]
          refine ih _ _ _ (by omega) (by omega) (by omega) ?_
          rcases hi with ⟨i1, i2, i3⟩ | ⟨i1, i2, i3, i4, i5⟩
          · refine Or.inl ⟨i1, i2, fun x h1 h2 => ?_⟩
            by_cases e : x = t
            · subst e; exact c2
            · exact i3 x h1 (by omega)
          · refine Or.inr ⟨i1, by omega, i3, i4, fun x h1 h2 h3 => ?_⟩
            by_cases e : x = t
            · subst e; exact absurd c2 h3
            · exact i5 x h1 (by omega) h3
        · rw [if_neg c2]
          refine ih _ _ _ (by omega) (by omega) (by omega) (Or.inr ⟨ht, by omega, rfl, c2, fun x h1 h2 h3 => ?_⟩)
          by_cases e : x = t
          · subst e; omega
          · rcases hi with ⟨i1, i2, i3⟩ | ⟨i1, i2, i3, i4, i5⟩
            · exact absurd (i3 x h1 (by omega)) h3
            · have := i5 x h1 (by omega) h3; omega
theorem s213_12 {n : Nat} {B : HA} (h5 : n ≤ 5) : ∀ d b t, t < d → t ≤ ev n → ((b = 4294967295 ∧ ∀ x, t < x → x ≤ ev n → s_199 n B x = 0) ∨ (t < b ∧ b ≤ ev n ∧ ¬ s_199 n B b = 0 ∧ ∀ x, t < x → x ≤ ev n → ¬ s_199 n B x = 0 → pop b < pop x ∨ (pop b = pop x ∧ b ≤ x))) → few (fun x => ¬ s_199 n B x = 0) (ev n) (s_213_12 n d B b t).1 ∧ (s_213_12 n d B b t).2 = B := by
  have hev := ev_le h5
  intro d
  induction d with
  | zero => intro b t h; exact absurd h (Nat.not_lt_zero _)
  | succ d ih =>
    intro b t h ht hi
    unfold s_213_12
    by_cases c0 : t ≤ 0
    · rw [if_pos c0]
      refine ⟨?_, rfl⟩
      rcases hi with ⟨i1, i3⟩ | ⟨i1, i2, i4, i5⟩
      · exact Or.inl ⟨i1, fun x h1 h2 h3 => h3 (i3 x (by omega) h2)⟩
      · exact Or.inr ⟨by omega, i2, i4, fun x h1 h2 => i5 x (by omega) h2⟩
    · rw [if_neg c0]
      have keep : (s_199 n B t = 0 ∨ (¬ b = 4294967295 ∧ pop b < pop t)) → few (fun x => ¬ s_199 n B x = 0) (ev n) (s_213_12 n d B b (t - 1)).1 ∧ (s_213_12 n d B b (t - 1)).2 = B := fun q => by
        refine ih _ _ (by omega) (by omega) ?_
        rcases hi with ⟨i1, i3⟩ | ⟨i1, i2, i4, i5⟩
        · refine Or.inl ⟨i1, fun x h1 h2 => ?_⟩
          by_cases e : x = t
          · subst e; rcases q with q | q
            · exact q
            · exact absurd i1 q.1
          · exact i3 x (by omega) h2
        · refine Or.inr ⟨by omega, i2, i4, fun x h1 h2 h3 => ?_⟩
          by_cases e : x = t
          · subst e; rcases q with q | q
            · exact absurd q h3
            · exact Or.inl q.2
          · exact i5 x (by omega) h2 h3
      have take : ¬ s_199 n B t = 0 → (b = 4294967295 ∨ ¬ pop b < pop t) → few (fun x => ¬ s_199 n B x = 0) (ev n) (s_213_12 n d B t (t - 1)).1 ∧ (s_213_12 n d B t (t - 1)).2 = B := fun q q2 => by
        refine ih _ _ (by omega) (by omega) (Or.inr ⟨by omega, ht, q, fun x h1 h2 h3 => ?_⟩)
        by_cases e : x = t
        · subst e; omega
        · rcases hi with ⟨i1, i3⟩ | ⟨i1, i2, i4, i5⟩
          · exact absurd (i3 x (by omega) h2) h3
          · have := i5 x (by omega) h2 h3
            rcases q2 with q2 | q2
            · omega
            · omega
      by_cases c1 : b = 4294967295
      · rw [if_pos c1]
        by_cases c2 : s_199 n B t = 0
        · rw [if_pos c2]; exact keep (Or.inl c2)
        · rw [if_neg c2]; exact take c2 (Or.inl c1)
      · rw [if_neg c1]
        by_cases c3 : pop b < pop t
        · rw [if_pos c3]; exact keep (Or.inr ⟨c1, c3⟩)
        · rw [if_neg c3]
          by_cases c2 : s_199 n B t = 0
          · rw [if_pos c2]; exact keep (Or.inl c2)
          · rw [if_neg c2]; exact take c2 (Or.inr c3)
theorem x26 {n : Nat} {A B : HA} (e : EQ A B) (w : WN n A) : AP A B (s_26 n A) (s_213 n B) := by
  have h5 := w.1.2
  have hev := ev_le h5
  have hn := w.1.1
  have h1 := s26_7 (n := n) (A := A) h5 33 4294967295 6 1 (by omega) (by omega) (by omega) (Or.inl ⟨rfl, rfl, fun x h1 h2 => by omega⟩)
  obtain ⟨h2, h3⟩ := s213_12 (n := n) (B := a_up B 9 0 0) h5 32 4294967295 (ev n) (by omega) (Nat.le_refl _) (Or.inl ⟨rfl, fun x h1 h2 => by omega⟩)
  simp only [x83 e.z] at h2
  refine ⟨few_u (by omega) h1 h2, ?_⟩
  show EQ A (s_213_12 n 32 (a_up B 9 0 0) 4294967295 (ev n)).2
  rw [h3]
  exact e.z
