/-! the reference tells of states beside each other -/
def r7 (X x a : Nat) : Nat → Nat → Nat → Nat
  | 0, _, y => y
  | d + 1, b, y => r7 X x a d (b + 1) (if a = b then y else if sIn X a = x then y ||| 1 <<< sIn X b else y)
def r6 (n X x : Nat) : Nat → Nat → Nat → Nat
  | 0, _, y => y
  | d + 1, a, y => r6 n X x d (a + 1) (r7 X x a n 0 y)
def r4 (n x : Nat) (f : Nat → Nat) : Nat → Nat
  | 0 => 0
  | m + 1 => if f m = 4294967295 then r4 n x f m else r6 n (m / 8) x n 0 (r4 n x f m)
/-- two sites of a stand, one in a state, the other in another -/
def PB (n x t c : Nat) : Prop := ∃ a b, a < n ∧ b < n ∧ ¬ a = b ∧ dg n (c / 128) a = x ∧ dg n (c / 128) b = t
section BSD
variable {sc : a_Sc} {fd : Nat} {M M0 : a_Mm} {n g x s c k p q z i a b m y w o l u st t X : Nat} {T A B C E F B0 : HA} {S : HA × Nat} {h : a_Hp} {Q : Option Value → a_Hp → Prop} {f : Nat → Nat}
theorem sIn_le (h : X < 216) (a : Nat) : sIn X a ≤ 5 := by
  unfold sIn
  split
  · omega
  · split <;> omega
theorem or_sh (y k t : Nat) : ((y ||| 1 <<< k).testBit t = true) = (y.testBit t = true ∨ k = t) := by
  rw [Nat.testBit_or, shl_t]
  simp
theorem r7_t : ∀ d b y, ((r7 X x a d b y).testBit t = true) ↔ (y.testBit t = true ∨ ∃ b', b ≤ b' ∧ b' < b + d ∧ ¬ a = b' ∧ sIn X a = x ∧ sIn X b' = t) := by
  intro d
  induction d with
  | zero => intro b y; exact ⟨fun h => Or.inl h, fun h => h.resolve_right (fun ⟨b', h1, h2, _⟩ => by omega)⟩
  | succ d ih =>
    intro b y
    rw [show r7 X x a (d + 1) b y = r7 X x a d (b + 1) (if a = b then y else if sIn X a = x then y ||| 1 <<< sIn X b else y) from rfl, ih]
    by_cases c : a = b
    · rw [if_pos c]
      refine ⟨fun h => h.imp id (fun ⟨b', h1, h2, h3⟩ => ⟨b', by omega, by omega, h3⟩), fun h => h.imp id (fun ⟨b', h1, h2, h3, h4⟩ => ⟨b', ?_, by omega, h3, h4⟩)⟩
      by_cases e : b' = b
      · exact absurd (c.trans e.symm) h3
      · omega
    · rw [if_neg c]
      by_cases e : sIn X a = x
      · rw [if_pos e, or_sh]
        constructor
        · rintro ((h | h) | ⟨b', h1, h2, h3⟩)
          · exact Or.inl h
          · exact Or.inr ⟨b, Nat.le_refl _, by omega, c, e, h⟩
          · exact Or.inr ⟨b', by omega, by omega, h3⟩
        · rintro (h | ⟨b', h1, h2, h3, h4, h5⟩)
          · exact Or.inl (Or.inl h)
          · by_cases w : b' = b
            · exact Or.inl (Or.inr (by rw [← w]; exact h5))
            · exact Or.inr ⟨b', by omega, by omega, h3, h4, h5⟩
      · rw [if_neg e]
        exact ⟨fun h => h.imp id (fun ⟨b', h1, h2, h3, h4, _⟩ => absurd h4 e), fun h => h.imp id (fun ⟨b', h1, h2, h3, h4, _⟩ => absurd h4 e)⟩
theorem r6_t : ∀ d a y, ((r6 n X x d a y).testBit t = true) ↔ (y.testBit t = true ∨ ∃ a' b', a ≤ a' ∧ a' < a + d ∧ b' < n ∧ ¬ a' = b' ∧ sIn X a' = x ∧ sIn X b' = t) := by
  intro d
  induction d with
  | zero => intro a y; exact ⟨fun h => Or.inl h, fun h => h.resolve_right (fun ⟨a', b', h1, h2, _⟩ => by omega)⟩
  | succ d ih =>
    intro a y
    rw [show r6 n X x (d + 1) a y = r6 n X x d (a + 1) (r7 X x a n 0 y) from rfl, ih, r7_t]
    constructor
    · rintro ((h | ⟨b', h1, h2, h3, h4, h5⟩) | ⟨a', b', h1, h2, h3⟩)
      · exact Or.inl h
      · exact Or.inr ⟨a, b', Nat.le_refl _, by omega, by omega, h3, h4, h5⟩
      · exact Or.inr ⟨a', b', by omega, by omega, h3⟩
    · rintro (h | ⟨a', b', h1, h2, h3, h4⟩)
      · exact Or.inl (Or.inl h)
      · by_cases w : a' = a
        · rw [w] at h4
          exact Or.inl (Or.inr ⟨b', Nat.zero_le _, by omega, h4⟩)
        · exact Or.inr ⟨a', b', by omega, by omega, h3, h4⟩
theorem r4_t : ∀ m, ((r4 n x f m).testBit t = true) ↔ ∃ m', m' < m ∧ ¬ f m' = 4294967295 ∧ ∃ a' b', a' < n ∧ b' < n ∧ ¬ a' = b' ∧ sIn (m' / 8) a' = x ∧ sIn (m' / 8) b' = t := by
  intro m
  induction m with
  | zero =>
    refine ⟨fun h => ?_, fun ⟨m', h, _⟩ => absurd h (Nat.not_lt_zero _)⟩
    rw [show r4 n x f 0 = 0 from rfl, Nat.zero_testBit] at h
    exact absurd h (by decide)
  | succ m ih =>
    rw [show r4 n x f (m + 1) = if f m = 4294967295 then r4 n x f m else r6 n (m / 8) x n 0 (r4 n x f m) from rfl]
    by_cases c : f m = 4294967295
    · rw [if_pos c, ih]
      refine ⟨fun ⟨m', h1, h2⟩ => ⟨m', by omega, h2⟩, fun ⟨m', h1, h2, h3⟩ => ⟨m', ?_, h2, h3⟩⟩
      by_cases e : m' = m
      · rw [e] at h2; exact absurd c h2
      · omega
    · rw [if_neg c, r6_t, ih]
      constructor
      · rintro (⟨m', h1, h2⟩ | ⟨a', b', h1, h2, h3⟩)
        · exact ⟨m', by omega, h2⟩
        · exact ⟨m, by omega, c, a', b', by omega, h3⟩
      · rintro ⟨m', h1, h2, a', b', h3, h4⟩
        by_cases e : m' = m
        · rw [e] at h4
          exact Or.inr ⟨a', b', Nat.zero_le _, by omega, h4⟩
        · exact Or.inl ⟨m', by omega, h2, a', b', h3, h4⟩
theorem sdg2 : ∀ p, p < 36 → ∀ a, a < 2 → sIn (p % 6 * 6 + p / 6) a = dg 2 p a := by decide +kernel
theorem sdg3 : ∀ p, p < 216 → ∀ a, a < 3 → sIn (p % 6 * 36 + p / 6 % 6 * 6 + p / 36) a = dg 3 p a := by decide +kernel
theorem sdg (hn : n = 2 ∨ n = 3) (hc : c < cb n) (ha : a < n) : sIn (phi n c / 16 / 8) a = dg n (c / 128) a := by
  rcases hn with rfl | rfl
  · have hc : c < 4608 := hc
    have e2 : phi 2 c / 16 / 8 = c / 128 % 6 * 6 + c / 128 / 6 := by
      show ((c / 128 % 6 * 6 + c / 128 / 6) * 128 + c % 128) / 16 / 8 = _
      omega
    rw [e2]; exact sdg2 _ (by omega) a ha
  · have hc : c < 27648 := hc
    have e2 : phi 3 c / 16 / 8 = c / 128 % 6 * 36 + c / 128 / 6 % 6 * 6 + c / 128 / 36 := by
      show ((c / 128 % 6 * 36 + c / 128 / 6 % 6 * 6 + c / 128 / 36) * 128 + c % 128) / 16 / 8 = _
      omega
    rw [e2]; exact sdg3 _ (by omega) a ha
theorem rfr_yes (h3 : ∀ j, j < z → ¬ E 3 j = 4294967295) (hj : i < z) (e : phi n (E 0 i) / 16 = m) : ¬ rfr n E m z = 4294967295 := by
  induction z with
  | zero => omega
  | succ z ih =>
    unfold rfr
    split
    · exact h3 z (by omega)
    · rename_i q
      by_cases y : i = z
      · intro w
        exact q ⟨w, by rw [← y]; exact e⟩
      · exact ih (fun j hj => h3 j (by omega)) (by omega)
theorem ref_b (hn : n = 2 ∨ n = 3) (h : ∀ j, j < z → E 0 j < cb n ∧ E 3 j ≤ 64) : ((r4 n x (fun m => rfr n E m z) 1728).testBit t = true) ↔ ∃ j, j < z ∧ PB n x t (E 0 j) := by
  rw [r4_t]
  have hcb2 : cb n ≤ 27648 := by unfold cb; split <;> omega
  constructor
  · rintro ⟨m, h1, h2, a, b, ha, hb, hne, e1, e2⟩
    obtain ⟨j, j1, j2⟩ := rfr_in z h2
    have hc := (h j j1).1
    rw [← j2, sdg hn hc ha] at e1
    rw [← j2, sdg hn hc hb] at e2
    exact ⟨j, j1, a, b, ha, hb, hne, e1, e2⟩
  · rintro ⟨j, j1, a, b, ha, hb, hne, e1, e2⟩
    have hc := (h j j1).1
    have hp := phi_lt hc hn
    refine ⟨phi n (E 0 j) / 16, by omega, rfr_yes (fun i hi => by have := (h i hi).2; omega) j1 rfl, a, b, ha, hb, hne, ?_, ?_⟩
    · rw [sdg hn hc ha]; exact e1
    · rw [sdg hn hc hb]; exact e2
theorem far_in {m : Nat} : ∀ z, ¬ far E m z = 4294967295 → ∃ j, j < z ∧ E 0 j / 16 = m := by
  intro z
  induction z with
  | zero => intro h; exact absurd rfl h
  | succ z ih =>
    intro h
    unfold far at h
    by_cases c : far E m z = 4294967295 ∧ E 0 z / 16 = m
    · exact ⟨z, by omega, c.2⟩
    · rw [if_neg c] at h
      obtain ⟨j, h1, h2⟩ := ih h
      exact ⟨j, by omega, h2⟩
theorem msk (hs : s < 5) (n b : Nat) (h5 : n ≤ 5) : ((ev n &&& ((1 <<< s) ^^^ 4294967295)).testBit b = true) ↔ (b < n ∧ ¬ b = s) := by
  rw [Nat.testBit_and, ev_t, Nat.testBit_xor, shl_t]
  by_cases c : b < n
  · have e : (4294967295 : Nat).testBit b = true := (by decide : ∀ b, b < 5 → (4294967295 : Nat).testBit b = true) b (by omega)
    rw [e]
    by_cases y : s = b
    · simp [c, y]
    · simp [c, y]
      exact fun q => y q.symm
  · simp [c]
theorem bh_t (h5 : n ≤ 5) : ∀ d s y, n - s < d → s ≤ n → (((bh n A x d s y).testBit t = true) ↔ (y.testBit t = true ∨ ∃ a b, s ≤ a ∧ a < n ∧ b < n ∧ ¬ a = b ∧ A 0 a = x ∧ A 0 b = t)) := by
  intro d
  induction d with
  | zero => intro s y h; exact absurd h (Nat.not_lt_zero _)
  | succ d ih =>
    intro s y hd hs
    unfold bh
    by_cases c : n ≤ s
    · rw [if_pos c]
      exact ⟨fun h => Or.inl h, fun h => h.resolve_right (fun ⟨a, b, h1, h2, _⟩ => by omega)⟩
    · rw [if_neg c, ih (s + 1) _ (by omega) (by omega)]
      by_cases e : A 0 s = x
      · rw [if_pos e, Nat.testBit_or, Bool.or_eq_true, s55_t h5]
        constructor
        · rintro ((h | ⟨b, h1, h2, h3⟩) | ⟨a, b, h1, h2⟩)
          · exact Or.inl h
          · have := (msk (by omega) n b h5).mp h2
            exact Or.inr ⟨s, b, Nat.le_refl _, by omega, h1, fun q => this.2 q.symm, e, h3⟩
          · exact Or.inr ⟨a, b, by omega, h2⟩
        · rintro (h | ⟨a, b, h1, h2, h3, h4, h6, h7⟩)
          · exact Or.inl (Or.inl h)
          · by_cases w : a = s
            · exact Or.inl (Or.inr ⟨b, h3, (msk (by omega) n b h5).mpr ⟨h3, fun q => h4 (w.trans q.symm)⟩, h7⟩)
            · exact Or.inr ⟨a, b, by omega, h2, h3, h4, h6, h7⟩
      · rw [if_neg e]
        constructor
        · rintro (h | ⟨a, b, h1, h2⟩)
          · exact Or.inl h
          · exact Or.inr ⟨a, b, by omega, h2⟩
        · rintro (h | ⟨a, b, h1, h2, h3, h4, h6, h7⟩)
          · exact Or.inl h
          · refine Or.inr ⟨a, b, ?_, h2, h3, h4, h6, h7⟩
            by_cases w : a = s
            · rw [w] at h6; exact absurd h6 e
            · omega
theorem cls_b (h5 : n ≤ 5) : ∀ z, ((bes n E x z).testBit t = true) ↔ ∃ j, j < z ∧ PB n x t (E 0 j) := by
  intro z
  induction z with
  | zero =>
    refine ⟨fun h => ?_, fun ⟨m', h, _⟩ => absurd h (Nat.not_lt_zero _)⟩
    rw [show bes n E x 0 = 0 from rfl, Nat.zero_testBit] at h
    exact absurd h (by decide)
  | succ z ih =>
    rw [show bes n E x (z + 1) = if nw E z = true then bh n (std n (fun _ _ => 0) (E 0 z)) x 6 0 (bes n E x z) else bes n E x z from rfl]
    by_cases new : nw E z = true
    · rw [if_pos new, bh_t h5 6 0 _ (by omega) (Nat.zero_le _), ih]
      constructor
      · rintro (⟨j, h1, h2⟩ | ⟨a, b, h1, h2, h3, h4, h6, h7⟩)
        · exact ⟨j, by omega, h2⟩
        · exact ⟨z, by omega, a, b, h2, h3, h4, h6, h7⟩
      · rintro ⟨j, h1, h2⟩
        by_cases e : j = z
        · rw [e] at h2
          obtain ⟨a, b, h3, h4, h6, h7, h8⟩ := h2
          exact Or.inr ⟨a, b, Nat.zero_le _, h3, h4, h6, h7, h8⟩
        · exact Or.inl ⟨j, by omega, h2⟩
    · rw [if_neg new, ih]
      rw [nw_t] at new
      obtain ⟨j', k1, k2⟩ := far_in z new
      refine ⟨fun ⟨j, h1, h2⟩ => ⟨j, by omega, h2⟩, fun ⟨j, h1, h2⟩ => ?_⟩
      by_cases e : j = z
      · rw [e] at h2
        refine ⟨j', k1, ?_⟩
        unfold PB at h2 ⊢
        rw [show E 0 j' / 128 = E 0 z / 128 by omega]
        exact h2
      · exact ⟨j, by omega, h2⟩
theorem bes_eq (hn : n = 2 ∨ n = 3) (h : ∀ j, j < z → E 0 j < cb n ∧ E 3 j ≤ 64) : r4 n x (fun m => rfr n E m z) 1728 = bes n E x z := by
  refine Nat.eq_of_testBit_eq (fun t => Bool.eq_iff_iff.mpr ?_)
  rw [ref_b hn h, cls_b (by omega)]
end BSD
