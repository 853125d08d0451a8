/-! the acts of a sender -/
theorem rl_fu {n : Nat} {P : HA → Nat → Bool} {v : HA → Nat → Nat} {set fr : Nat} : ∀ d d' (B : HA) t, n - t < d → n - t < d' → rl n P v set fr d B t = rl n P v set fr d' B t := by
  intro d
  induction d with
  | zero => intro d' B t h; exact absurd h (Nat.not_lt_zero _)
  | succ d ih =>
    intro d' B t h h'
    cases d' with
    | zero => exact absurd h' (Nat.not_lt_zero _)
    | succ d' =>
      unfold rl
      by_cases c : n ≤ t
      · rw [if_pos c, if_pos c]
      · rw [if_neg c, if_neg c, ih d' B (t + 1) (by omega) (by omega), ih d' _ (t + 1) (by omega) (by omega), ih d' _ (t + 1) (by omega) (by omega)]
theorem rl_1 {n : Nat} {P : HA → Nat → Bool} {v : HA → Nat → Nat} {set : Nat} (B : HA) (hn : 2 ≤ n) (h5 : n ≤ 5) : rl n P v set 0 6 B 0 = rl n P v set 0 6 B 1 := by
  rw [rl_fu 6 5 B 1 (by omega) (by omega)]
  show (if n ≤ 0 then _ else if 0 = 0 then rl n P v set 0 5 B (0 + 1) else _) = _
  rw [if_neg (by omega), if_pos rfl]
theorem s170_o {n fr w k : Nat} (h : n ≤ 5) (B : HA) (h1 : ¬ w = 1) (h5 : ¬ w = 5) (h6 : ¬ (w = 6 ∧ k = 2)) (h9 : ¬ (w = 9 ∧ k = 9)) : s_170 n B fr w k = B w k := by
  unfold s_170
  split
  · split
    · rw [s171_63 h, s63_o _ h1 h5 h6, a_up_def, if_neg h9]
    · rfl
  · rfl
theorem s169_o {n fr t w k : Nat} (h : n ≤ 5) (B : HA) (h1 : ¬ w = 1) (h5 : ¬ w = 5) (h6 : ¬ (w = 6 ∧ k = 2)) (h9 : ¬ w = 9) : (s_169 n B fr t).2 w k = B w k := by
  have e := s170_o (fr := fr) h B h1 h5 h6 (fun q => h9 q.1)
  unfold s_169
  split
  · split
    · split
      · show a_up _ 9 7 _ w k = _; rw [a_up_o h9, e]
      · show a_up _ 9 7 _ w k = _; rw [a_up_o h9, e]
    · show a_up _ 9 7 _ w k = _; rw [a_up_o h9, e]
  · exact e
theorem rl_fr {n : Nat} {P : HA → Nat → Bool} {v : HA → Nat → Nat} {set fr : Nat} (h : n ≤ 5) : ∀ d (B : HA) t, rl n P v set fr d B t 0 fr = B 0 fr := by
  intro d
  induction d with
  | zero => intro B t; rfl
  | succ d ih =>
    intro B t
    have e := s169_o (fr := fr) (t := t) (w := 0) (k := fr) h B (by omega) (by omega) (by omega) (by omega)
    unfold rl
    split
    · exact s170_o h B (by omega) (by omega) (by omega) (by omega)
    · split
      · exact ih _ _
      · rename_i c
        split
        · split
          · rw [ih, e]
          · split
            · rw [ih, bec_n (fun q => c q.symm), e]
            · rw [ih, e]
        · exact ih _ _
theorem LL.lt {a b : Nat} (l : LL a b) : a < 4294967296 ∧ b < 4294967296 := by rcases l with h | h <;> omega
/-- one part of an act -/
theorem part_main {n : Nat} {P : HA → Nat → Bool} {v : HA → Nat → Nat} {set fr to m : Nat} (h5 : n ≤ 5) {A B : HA} (e : EQ (s_62 n A fr to m) B) (h9 : B 9 9 = 0) (h13 : A 6 13 = B 9 7) (hl : LL (A 6 12) (B 9 8)) (hb : B 9 7 + n ≤ 40) (hd : A 6 12 = 0 ↔ B 9 7 = B 9 8)
    (H : ∀ (C : HA) s, s < n → ¬ s = fr → set.testBit s = true → C 0 s = B 0 s → C 3 s = B 3 s → P C s = m.testBit (C 0 s) ∧ (P C s = true → v C s = tv C s to)) :
    SR n A B (s_61 n A fr set to m) (rl n P v set fr 6 B 0) n ∧ ((s_61 n A fr set to m).1 = 0 → ¬ A 6 12 = 0) := by
  have g12 : (s_62 n A fr to m) 6 12 = A 6 12 := s62_o (by omega) (by omega) (by omega)
  have g13 : (s_62 n A fr to m) 6 13 = A 6 13 := s62_o (by omega) (by omega) (by omega)
  unfold s_61
  rw [g12]
  by_cases c : A 6 12 = 0
  · rw [if_pos (by rw [c]; rfl), rl_due h5 6 B 0 (by omega) h9 (hd.mp c)]
    refine ⟨⟨(e.r 9 9 1 (by omega)).g63 h5, Or.inl ⟨rfl, ?_⟩⟩, fun q => absurd q (by omega)⟩
    rw [s171_9 h5, a_up_def, if_pos ⟨rfl, rfl⟩]
  · rw [if_neg (by rw [nN 0, N_injU hl.lt.1 (by omega)]; exact c)]
    obtain ⟨q1, q2⟩ := rl_main (P := P) (v := v) (set := set) (fr := fr) (to := to) (m := m) h5 6 _ B 0 e h9 (g13.trans h13) (by rw [g12]; exact hl) (by omega) (fun q => c (hd.mpr q)) (by omega) (fun C s _ => H C s)
    exact ⟨⟨q1, q2.imp id (fun q => ⟨q.1, q.2.1, q.2.2.1, q.2.2.2.1.trans g12, q.2.2.2.2.1, q.2.2.2.2.2.1, by omega⟩)⟩, fun _ => c⟩
theorem ev_t (n t : Nat) : (ev n).testBit t = decide (t < n) := by
  unfold ev
  exact Nat.testBit_two_pow_sub_one n t
theorem tb_not {P : Prop} {i : Decidable P} {b : Bool} (h : b = true ↔ P) : @decide P i = b := by
  cases b <;> simp_all
theorem s173_1 {n : Nat} (h : n ≤ 5) (C : HA) {s : Nat} (hs : s < n) : s_173 n C (1 <<< s) = if C 0 s = 4 ∨ C 0 s = 5 then 1 else 0 := by
  unfold s_173 s_174
  have : ((1 <<< s) &&& ((s_158 n C 0 4 ||| s_158 n C 0 5) ^^^ 4294967295) = 0) = (C 0 s = 4 ∨ C 0 s = 5) := by
    rw [and0]
    have e : ((s_158 n C 0 4 ||| s_158 n C 0 5) ^^^ 4294967295).testBit s = !(decide (C 0 s = 4) || decide (C 0 s = 5)) := by
      rw [Nat.testBit_xor, Nat.testBit_or, s158_t h, s158_t h, show (4294967295 : Nat) = 2 ^ 32 - 1 from rfl, Nat.testBit_two_pow_sub_one]
      have : s < 32 := by omega
      simp [hs, this]
    refine propext ⟨fun q => ?_, fun q t ht => ?_⟩
    · have := q s (by rw [Nat.one_shiftLeft, Nat.testBit_two_pow]; simp)
      rw [e] at this
      by_cases c : C 0 s = 4
      · exact Or.inl c
      · exact Or.inr (by simpa [c] using this)
    · rw [Nat.one_shiftLeft, Nat.testBit_two_pow, decide_eq_true_eq] at ht
      subst ht
      rw [e]
      rcases q with q | q <;> simp [q]
  simp only [this]
/-- all are ready -/
theorem s55_2 {n : Nat} (h : n ≤ 5) (hn : 2 ≤ n) {A : HA} : s_55 n A (ev n) = 2 ↔ ∀ s, s < n → A 0 s = 1 := by
  refine ⟨fun q s hs => ?_, fun q => ?_⟩
  · have : (s_55 n A (ev n)).testBit (A 0 s) = true := (s55_t h _ _).mpr ⟨s, hs, by rw [ev_t]; simpa using hs, rfl⟩
    rw [q, show (2 : Nat) = 2 ^ 1 from rfl, Nat.testBit_two_pow, decide_eq_true_eq] at this
    exact this.symm
  · apply Nat.eq_of_testBit_eq
    intro t
    rw [show (2 : Nat) = 2 ^ 1 from rfl, Nat.testBit_two_pow]
    by_cases c : 1 = t
    · rw [decide_eq_true c]
      exact (s55_t h _ _).mpr ⟨0, by omega, by rw [ev_t]; simp; omega, by rw [q 0 (by omega)]; exact c⟩
    · rw [decide_eq_false c]
      cases d : (s_55 n A (ev n)).testBit t with
      | false => rfl
      | true =>
        obtain ⟨s, h1, -, h3⟩ := (s55_t h _ _).mp d
        rw [q s h1] at h3
        exact absurd h3 c
theorem bs_ev {n : Nat} {p : Nat → Bool} : bs n p = ev n ↔ ∀ s, s < n → p s = true := by
  refine ⟨fun q s hs => ?_, fun q => ?_⟩
  · have := bs_test n p s
    rw [q, ev_t] at this
    simpa [hs] using this.symm
  · apply Nat.eq_of_testBit_eq
    intro t
    rw [bs_test, ev_t]
    by_cases c : t < n
    · rw [q t c]; simp
    · simp [c]
/-- the reference's sending of gone -/
def Pg (n : Nat) (C : HA) (s : Nat) : Bool := decide (s_173 n C (1 <<< s) = 0)
theorem s167_rl {n : Nat} : ∀ d (B : HA) t, n - t < d → 1 ≤ t → s_167_8 n d B t = a_up (rl n (Pg n) (fun _ _ => 5) (ev n) 0 d B t) 6 2 3 := by
  intro d
  induction d with
  | zero => intro B t h; exact absurd h (Nat.not_lt_zero _)
  | succ d ih =>
    intro B t h ht
    unfold s_167_8 rl
    by_cases c : n ≤ t
    · rw [if_pos c, if_pos c]
    · rw [if_neg c, if_neg c, if_neg (show ¬ t = 0 by omega), if_pos (show (ev n).testBit t = true by rw [ev_t]; exact decide_eq_true (by omega)), ih _ _ (by omega) (by omega), ih _ _ (by omega) (by omega)]
      by_cases c1 : (s_169 n B 0 t).1 = 0
      · rw [if_pos c1, if_pos c1]
      · rw [if_neg c1, if_neg c1]
        by_cases c2 : s_173 n (s_169 n B 0 t).2 (1 <<< t) = 0
        · rw [if_pos c2, if_pos (by unfold Pg; exact decide_eq_true c2)]
        · rw [if_neg c2, if_neg (by unfold Pg; simp [c2])]
theorem s166_9 {n k : Nat} {B : HA} (hk : k ≤ 20 ∨ k = 4294967295) : (s_166 n B k) 9 7 = 0 ∧ LL k ((s_166 n B k) 9 8) ∧ (s_166 n B k) 9 9 = 0 ∧ (k = 0 ↔ (s_166 n B k) 9 7 = (s_166 n B k) 9 8) := by
  unfold s_166
  by_cases c : k = 4294967295
  · rw [if_pos c]
    exact ⟨rfl, Or.inl ⟨c, rfl⟩, rfl, ⟨fun h => by omega, fun h => absurd (show (0 : Nat) = 1048576 from h) (by omega)⟩⟩
  · rw [if_neg c]
    exact ⟨rfl, Or.inr ⟨rfl, by omega⟩, rfl, ⟨fun h => h.symm, fun h => (show (0 : Nat) = k from h).symm⟩⟩
theorem EQ.s166 {n k : Nat} {A B : HA} (e : EQ A B) : EQ A (s_166 n B k) := by
  unfold s_166
  split
  · exact ((e.r 9 7 _ (by omega)).r 9 8 _ (by omega)).r 9 9 _ (by omega)
  · exact ((e.r 9 7 _ (by omega)).r 9 8 _ (by omega)).r 9 9 _ (by omega)
theorem EQ.st {A B : HA} (e : EQ A B) (k : Nat) : EQ (a_up (a_up A 6 12 k) 6 13 0) B := (e.l 6 12 _ (by omega)).l 6 13 _ (by omega)
theorem st12 {A : HA} {k : Nat} : (a_up (a_up A 6 12 k) 6 13 0) 6 12 = k := rfl
theorem st13 {A : HA} {k : Nat} : (a_up (a_up A 6 12 k) 6 13 0) 6 13 = 0 := rfl
theorem isK_t {k : Nat} (h : ¬ isK k = 0) : k ≤ 20 ∨ k = 4294967295 := by
  unfold isK at h
  by_cases c : k ≤ 20 ∨ k = 4294967295
  · exact c
  · rw [if_neg c] at h; exact absurd rfl h
theorem tb15' : ∀ v, v ≤ 5 → ((15 : Nat).testBit v = (!(decide (v = 4) || decide (v = 5)))) := by decide
theorem tb1' : ∀ v, v ≤ 5 → ((1 : Nat).testBit v = decide (v = 0)) := by decide
theorem tb2' : ∀ v, v ≤ 5 → ((2 : Nat).testBit v = decide (v = 1)) := by decide
theorem tb3' : ∀ v, v ≤ 5 → ((3 : Nat).testBit v = (decide (v = 0) || decide (v = 1))) := by decide
theorem tb31' : ∀ v, v ≤ 5 → ((31 : Nat).testBit v = !decide (v = 5)) := by decide
theorem tb63' : ∀ v, v ≤ 5 → ((63 : Nat).testBit v = true) := by decide
theorem tv_n {A : HA} {s to : Nat} (h : ¬ to = 1) : tv A s to = to := by
  unfold tv
  rw [if_neg (fun q => h q.1)]
/-- the sending of gone is the same -/
theorem gone_main {n : Nat} (h5 : n ≤ 5) (hn : 2 ≤ n) {A B : HA} (w : WN n B) (e : EQ A B) (hu : ¬ (A 0 0 = 4 ∨ A 0 0 = 5)) (h9 : B 9 9 = 0) (h13 : A 6 13 = B 9 7) (hl : LL (A 6 12) (B 9 8)) (hb : B 9 7 + n ≤ 40) (hd : A 6 12 = 0 ↔ B 9 7 = B 9 8) : EQ (a_up (s_61 n A 0 (ev n) 5 15).2 6 2 3) (s_167 n B) := by
  have w0 := w.b0 (s := 0) (by omega)
  have e0 : A 0 0 = B 0 0 := e.a (by omega) 0
  have es : s_62 n A 0 5 15 = bec A 0 5 := by
    rw [s62_bec, if_pos (by rw [tb15' _ (by omega)]; simpa using hu), tv_n (by omega)]
  unfold s_167
  rw [s167_rl 6 _ 1 (by omega) (by omega), ← rl_1 _ hn h5]
  refine EQ.up (part_main (P := Pg n) (v := fun _ _ => 5) (set := ev n) (fr := 0) (to := 5) (m := 15) h5 (A := A) (B := bec B 0 5) (by rw [es]; exact e.becc 0 5) ?_ ?_ ?_ ?_ ?_ ?_).1.1 6 2 3
  · rw [bec_o (by omega) (by omega) (by omega)]; exact h9
  · rw [bec_o (by omega) (by omega) (by omega)]; exact h13
  · rw [bec_o (by omega) (by omega) (by omega)]; exact hl
  · rw [bec_o (by omega) (by omega) (by omega)]; exact hb
  · rw [bec_o (by omega) (by omega) (by omega), bec_o (by omega) (by omega) (by omega)]; exact hd
  · intro C s hs hf hset hc h3
    have hw : C 0 s ≤ 5 := by rw [hc, bec_n hf]; exact w.b0 (by omega)
    refine ⟨?_, fun _ => (tv_n (by omega)).symm⟩
    unfold Pg
    rw [s173_1 h5 C hs, tb15' _ hw]
    by_cases c : C 0 s = 4 ∨ C 0 s = 5
    · rw [if_pos c]; rcases c with c | c <;> simp [c]
    · rw [if_neg c]; simp only [not_or] at c; simp [c.1, c.2]
