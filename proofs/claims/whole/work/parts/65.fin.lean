/-! finishing: class and reference do the same -/
def tl (fr : Nat) (C : HA) : HA := if fr = 0 then a_up C 6 2 3 else C
theorem EQ.tlc {fr : Nat} {A B : HA} (e : EQ A B) : EQ (tl fr A) (tl fr B) := by
  unfold tl
  split
  · exact e.up 6 2 3
  · exact e
def P2 (_ : HA) (_ : Nat) : Bool := true
def P1 (x : Nat) (_ : HA) (s : Nat) : Bool := x.testBit s
theorem s191_144 {n l1 l3 l5 : Nat} : ∀ d (B : HA) t, n - t < d → s_191_144 n d B l1 l3 l5 t = tl l1 (rl n P2 (fun _ _ => l5) l3 l1 d B t) := by
  intro d
  induction d with
  | zero => intro B t h; exact absurd h (Nat.not_lt_zero _)
  | succ d ih =>
    intro B t h
    unfold s_191_144 rl
    by_cases c : n ≤ t
    · rw [if_pos c, if_pos c]; rfl
    · rw [if_neg c, if_neg c, ih _ _ (by omega), ih _ _ (by omega), ih _ _ (by omega)]
      by_cases c1 : t = l1
      · rw [if_pos c1, if_pos c1]
      · rw [if_neg c1, if_neg c1]
        by_cases c2 : (l3 >>> t) &&& 1 = 1
        · rw [if_pos c2]
          rw [bit_and] at c2
          rw [if_pos c2]
          by_cases c3 : (s_169 n B l1 t).1 = 0
          · rw [if_pos c3, if_pos c3]
          · rw [if_neg c3, if_neg c3]; rfl
        · rw [if_neg c2]
          rw [bit_and] at c2
          rw [if_neg c2]
def f2 (n l1 l2 l3 : Nat) (C : HA) : HA := if N (C 9 9) = 0 then (if l2 = 1 ∨ l2 = 2 then s_191_144 n 6 (bec C l1 4) l1 l3 4 0 else s_191_144 n 6 (bec C l1 5) l1 l3 5 0) else C
theorem s191_44 {n l1 l2 l3 l4 l5 : Nat} : ∀ d (B : HA) t, n - t < d → s_191_44 n d B l1 l2 l3 l4 l5 t = f2 n l1 l2 l3 (rl n (P1 l4) (fun _ _ => l5) l3 l1 d B t) := by
  intro d
  induction d with
  | zero => intro B t h; exact absurd h (Nat.not_lt_zero _)
  | succ d ih =>
    intro B t h
    unfold s_191_44 rl
    by_cases c : n ≤ t
    · rw [if_pos c, if_pos c]
      unfold f2
      by_cases c1 : l2 = 1
      · rw [if_pos c1, if_pos (Or.inl c1)]
      · by_cases c2 : l2 = 2
        · rw [if_neg c1, if_pos c2, if_pos (Or.inr c2)]
        · rw [if_neg c1, if_neg c2, if_neg (show ¬ (l2 = 1 ∨ l2 = 2) by omega)]
    · rw [if_neg c, if_neg c, ih _ _ (by omega), ih _ _ (by omega), ih _ _ (by omega)]
      by_cases c1 : t = l1
      · rw [if_pos c1, if_pos c1]
      · rw [if_neg c1, if_neg c1]
        by_cases c2 : (l3 >>> t) &&& 1 = 1
        · rw [if_pos c2]
          rw [bit_and] at c2
          rw [if_pos c2]
          by_cases c3 : (s_169 n B l1 t).1 = 0
          · rw [if_pos c3, if_pos c3]
          · rw [if_neg c3, if_neg c3]
            by_cases c4 : (l4 >>> t) &&& 1 = 1
            · rw [if_pos c4]
              rw [bit_and] at c4
              rw [if_pos (show P1 l4 (s_169 n B l1 t).2 t = true from c4)]
            · rw [if_neg c4]
              rw [bit_and] at c4
              rw [if_neg (show ¬ P1 l4 (s_169 n B l1 t).2 t = true from c4)]
        · rw [if_neg c2]
          rw [bit_and] at c2
          rw [if_neg c2]
/-- the last part -/
theorem last_main {n fr set to : Nat} (h5 : n ≤ 5) (ht : to = 4 ∨ to = 5) {A B : HA} (w : ∀ s, s < 5 → A 0 s ≤ 5) (hf : fr < n) (e : EQ A B) (h9 : B 9 9 = 0) (h13 : A 6 13 = B 9 7) (hl : LL (A 6 12) (B 9 8)) (hb : B 9 7 + n ≤ 40) (hd : A 6 12 = 0 ↔ B 9 7 = B 9 8) : EQ (tl fr (s_61 n A fr set to 63).2) (s_191_144 n 6 (bec B fr to) fr set to 0) := by
  have es : s_62 n A fr to 63 = bec A fr to := by
    rw [s62_bec, if_pos (tb63' _ (w fr (by omega))), tv_n (by omega)]
  rw [s191_144 6 _ 0 (by omega)]
  refine EQ.tlc (part_main (P := P2) (v := fun _ _ => to) (set := set) (fr := fr) (to := to) (m := 63) h5 (A := A) (B := bec B fr to) (by rw [es]; exact e.becc fr to) ?_ ?_ ?_ ?_ ?_ ?_).1.1
  · rw [bec_o (by omega) (by omega) (by omega)]; exact h9
  · rw [bec_o (by omega) (by omega) (by omega)]; exact h13
  · rw [bec_o (by omega) (by omega) (by omega)]; exact hl
  · rw [bec_o (by omega) (by omega) (by omega)]; exact hb
  · rw [bec_o (by omega) (by omega) (by omega), bec_o (by omega) (by omega) (by omega)]; exact hd
  · intro C s hs hfs hset hc h3
    have hw : C 0 s ≤ 5 := by rw [hc, bec_n hfs, ← e.a (by omega)]; exact w s (by omega)
    exact ⟨(tb63' _ hw).symm, fun _ => (tv_n (by omega)).symm⟩
/-- carrying out, in the class, made plain -/
def co (n : Nat) (A : HA) (fr set to m la : Nat) : HA := if (s_61 n A fr set to m).1 = 0 then tl fr (s_61 n (s_61 n A fr set to m).2 fr set la 63).2 else tl fr (s_61 n A fr set to m).2
theorem s79_co (n : Nat) (A : HA) (l1 l2 l3 l4 : Nat) (h3 : l3 ≤ 3) : s_79 n A l1 l2 l3 l4 = if l3 = 2 then co n (a_up (a_up A 6 12 l4) 6 13 0) l1 l2 2 (if A 6 1 = 0 then 3 else 2) 4 else if l3 = 3 then co n (a_up (a_up A 6 12 l4) 6 13 0) l1 l2 3 3 5 else tl l1 (s_61 n (a_up (a_up A 6 12 l4) 6 13 0) l1 l2 (if l3 = 1 then 4 else 5) 63).2 := by
  unfold s_79 co tl
  rcases (by omega : l3 = 0 ∨ l3 = 1 ∨ l3 = 2 ∨ l3 = 3) with rfl | rfl | rfl | rfl
  · simp
  · simp
  · by_cases c : A 6 1 = 0
    · simp [c]
    · simp [c]
  · simp
theorem s192_t {n : Nat} {A B : HA} (h5 : n ≤ 5) (e : EQ A B) (how y t : Nat) : (s_192 n B how y).testBit t = (decide (2 ≤ how) && (y.testBit t && decide (t < n) && (decide (A 0 t = 1) || (decide (A 0 t = 0) && !(decide (how = 2) && decide (A 6 1 = 1)))))) := by
  unfold s_192
  rw [← e.f (k := 1) (by omega)]
  by_cases c : 2 ≤ how
  · rw [if_pos c]
    by_cases c2 : how = 2
    · rw [if_pos c2]
      by_cases c1 : A 6 1 = 1
      · rw [if_pos c1, Nat.or_zero, x190t e h5]
        cases y.testBit t <;> simp [c, c2, c1]
      · rw [if_neg c1, Nat.testBit_or, x190t e h5, x190t e h5]
        cases y.testBit t <;> cases decide (t < n) <;> simp [c, c2, c1]
    · rw [if_neg c2, Nat.testBit_or, x190t e h5, x190t e h5]
      cases y.testBit t <;> cases decide (t < n) <;> simp [c, c2]
  · rw [if_neg c, Nat.zero_testBit]
    simp [c]
/-- a first part's sites by their states -/
theorem s192_m {n : Nat} {A B : HA} (h5 : n ≤ 5) (w1 : A 6 1 ≤ 1) (e : EQ A B) {how y t m : Nat} (hh : (how = 2 ∧ m = if A 6 1 = 0 then 3 else 2) ∨ (how = 3 ∧ m = 3)) (hy : y.testBit t = true) (ht : t < n) (w0 : A 0 t ≤ 5) : (s_192 n B how y).testBit t = m.testBit (A 0 t) := by
  rw [s192_t h5 e, hy, decide_eq_true ht]
  rcases hh with ⟨h, hm⟩ | ⟨h, hm⟩
  · subst h
    by_cases c : A 6 1 = 0
    · rw [if_pos c] at hm
      subst hm
      rw [tb3' _ w0, c]
      cases decide (A 0 t = 1) <;> cases decide (A 0 t = 0) <;> decide
    · rw [if_neg c] at hm
      subst hm
      rw [tb2' _ w0, show A 6 1 = 1 by omega]
      cases decide (A 0 t = 1) <;> cases decide (A 0 t = 0) <;> decide
  · subst h hm
    rw [tb3' _ w0]
    cases decide (A 0 t = 1) <;> cases decide (A 0 t = 0) <;> cases decide (A 6 1 = 1) <;> decide
theorem s77_2 {n : Nat} {A B : HA} (e : EQ A B) (w : WN n A) {x y : Nat} (h : s_77 n A x y = 2) : ¬ s_192 n B 2 y = 0 := by
  have h5 := w.1.2
  rw [← x77 e w] at h
  unfold s_189 at h
  unfold s_192
  rw [if_pos (Nat.le_refl _), if_pos rfl]
  rw [← e.f (k := 1) (by omega)] at h ⊢
  have w1 := w.f1
  by_cases c : A 6 1 = 0
  · rw [if_pos c] at h
    rw [if_neg (by omega), or0]
    intro q
    rw [q.1, q.2] at h
    revert h
    repeat' (first | (intro h; omega) | split)
    all_goals (first | (rename_i z; exact absurd (by decide) z) | simp)
  · rw [if_neg c] at h
    rw [if_pos (by omega), Nat.or_zero]
    intro q
    rw [q] at h
    revert h
    repeat' (first | (intro h; omega) | split)
    all_goals (first | (rename_i z; exact absurd (by decide) z) | simp)
theorem s77_3 {n : Nat} {A B : HA} (e : EQ A B) (w : WN n A) {x y : Nat} (h : s_77 n A x y = 3) : ¬ s_192 n B 3 y = 0 := by
  rw [← x77 e w] at h
  unfold s_189 at h
  unfold s_192
  rw [if_pos (by omega), if_neg (by omega), or0]
  intro q
  rw [q.1, q.2] at h
  revert h
  repeat' (first | (intro h; omega) | split)
  all_goals (first | (rename_i z; exact absurd (by decide) z) | simp)
/-- two parts -/
theorem co_main {n fr set to m la how x : Nat} (h5 : n ≤ 5) (hto : to = 2 ∨ to = 3) (hla : la = 4 ∨ la = 5) (hhow : (la = 4) = (how = 1 ∨ how = 2)) {A B : HA} (w : ∀ s, s < 5 → A 0 s ≤ 5) (hf : fr < n) (hset : set.testBit fr = true) (e : EQ A B) (h9 : B 9 9 = 0) (h13 : A 6 13 = B 9 7) (hl : LL (A 6 12) (B 9 8)) (hb : B 9 7 + n + n ≤ 40) (hd : A 6 12 = 0 ↔ B 9 7 = B 9 8)
    (hx : ∀ t, t < n → set.testBit t = true → x.testBit t = m.testBit (A 0 t)) :
    EQ (co n A fr set to m la) (f2 n fr how set (rl n (P1 x) (fun _ _ => to) set fr 6 (if (x >>> fr) &&& 1 = 1 then bec B fr to else B) 0)) := by
  have es : EQ (s_62 n A fr to m) (if (x >>> fr) &&& 1 = 1 then bec B fr to else B) := by
    rw [s62_bec, ← hx fr hf hset, tv_n (by omega)]
    by_cases c : (x >>> fr) &&& 1 = 1
    · rw [if_pos c]
      rw [bit_and] at c
      rw [if_pos c]; exact e.becc fr to
    · rw [if_neg c]
      rw [bit_and] at c
      rw [if_neg c]; exact e
  have g9 : ∀ k, (if (x >>> fr) &&& 1 = 1 then bec B fr to else B) 9 k = B 9 k := fun k => by
    split
    · exact bec_o (by omega) (by omega) (by omega)
    · rfl
  have g0 : ∀ s, ¬ s = fr → (if (x >>> fr) &&& 1 = 1 then bec B fr to else B) 0 s = B 0 s := fun s h => by
    split
    · exact bec_n h
    · rfl
  generalize hB : (if (x >>> fr) &&& 1 = 1 then bec B fr to else B) = B2 at es g9 g0 ⊢
  obtain ⟨⟨q1, q2⟩, q3⟩ := part_main (P := P1 x) (v := fun _ _ => to) (set := set) (fr := fr) (to := to) (m := m) h5 (A := A) (B := B2) es (by rw [g9]; exact h9) (by rw [g9]; exact h13) (by rw [g9]; exact hl) (by rw [g9]; omega) (by rw [g9, g9]; exact hd)
    (fun C s hs hfs hst hc h3 => ⟨by rw [hc, g0 s hfs, ← e.a (by omega)]; exact hx s hs hst, fun _ => (tv_n (by omega)).symm⟩)
  have r0 := s61_r0 (n := n) (fr := fr) (set := set) (to := to) (m := m) (by omega) A w
  have r62 := fun h0 : fr = 0 => s61_62 (n := n) (set := set) (to := to) (m := m) h5 A
  unfold co f2
  rcases q2 with ⟨p1, p2⟩ | ⟨p1, p2, p3, p4, p5, p6, p7⟩
  · rw [if_neg (show ¬ (s_61 n A fr set to m).1 = 0 by omega), p2, if_neg N10]
    unfold tl
    by_cases c : fr = 0
    · rw [if_pos c]
      subst c
      have e3 := s61_62 (n := n) (set := set) (to := to) (m := m) h5 A p1
      intro w' k' g1 g2
      rw [a_up_def]
      by_cases c2 : w' = 6 ∧ k' = 2
      · rw [if_pos c2, c2.1, c2.2, ← q1.f (by omega), e3]
      · rw [if_neg c2]; exact q1 w' k' g1 g2
    · rw [if_neg c]; exact q1
  · rw [if_pos p1, p2, if_pos N00]
    rw [g9] at p5 p7
    have L := last_main (n := n) (fr := fr) (set := set) h5 hla r0 hf q1 p2 p3 (by rw [p4, p5]; exact hl) (by omega) (by rw [p4]; exact ⟨fun q => absurd q (q3 p1), fun q => absurd q p6⟩)
    by_cases c : la = 4
    · subst c
      rw [if_pos (by rw [← hhow])]
      exact L
    · rw [if_neg (by rw [← hhow]; exact c)]
      have : la = 5 := by omega
      subst this
      exact L
/-- carrying out -/
theorem x79 {n fr x y k : Nat} {A B : HA} (e : EQ A B) (w : WN n A) (hk : k ≤ 20 ∨ k = 4294967295) (hf : fr < n) (hy : y.testBit fr = true) (hv : s_77 n A x y ≤ 3) : EQ (s_79 n A fr y (s_77 n A x y) k) (s_191 n (s_166 n B k) fr (s_77 n A x y) y) := by
  have h5 := w.1.2
  obtain ⟨k7, k8, k9, kd⟩ := s166_9 (n := n) (B := B) hk
  have eB : EQ A (s_166 n B k) := e.s166
  have eA := eB.st k
  have wA : ∀ s, s < 5 → (a_up (a_up A 6 12 k) 6 13 0) 0 s ≤ 5 := fun s hs => w.b0 hs
  have h2 : s_77 n A x y = 2 → ¬ s_192 n (s_166 n B k) 2 y = 0 := fun h => s77_2 eB w h
  have h3 : s_77 n A x y = 3 → ¬ s_192 n (s_166 n B k) 3 y = 0 := fun h => s77_3 eB w h
  rw [s79_co _ _ _ _ _ _ hv]
  generalize s_77 n A x y = v at hv h2 h3 ⊢
  unfold s_191
  rcases (by omega : v = 2 ∨ v = 3 ∨ v ≤ 1) with hv | hv | hv
  · subst hv
    rw [if_pos rfl, if_neg (h2 rfl), if_pos rfl]
    have C := co_main (n := n) (fr := fr) (set := y) (to := 2) (m := if A 6 1 = 0 then 3 else 2) (la := 4) (how := 2) (x := s_192 n (s_166 n B k) 2 y) h5 (Or.inl rfl) (Or.inl rfl) (by simp) wA hf hy eA k9 k7.symm k8 (by omega) kd (fun t ht hs => s192_m h5 w.f1 eB (Or.inl ⟨rfl, rfl⟩) hs ht (w.b0 (by omega)))
    rw [s191_44 6 _ 0 (by omega), s191_44 6 _ 0 (by omega)]
    by_cases c : (s_192 n (s_166 n B k) 2 y >>> fr) &&& 1 = 1
    · rw [if_pos c] at C ⊢; exact C
    · rw [if_neg c] at C ⊢; exact C
  · subst hv
    rw [if_neg (by omega), if_pos rfl, if_neg (h3 rfl), if_neg (by omega)]
    have C := co_main (n := n) (fr := fr) (set := y) (to := 3) (m := 3) (la := 5) (how := 3) (x := s_192 n (s_166 n B k) 3 y) h5 (Or.inr rfl) (Or.inr rfl) (by simp) wA hf hy eA k9 k7.symm k8 (by omega) kd (fun t ht hs => s192_m h5 w.f1 eB (Or.inr ⟨rfl, rfl⟩) hs ht (w.b0 (by omega)))
    rw [s191_44 6 _ 0 (by omega), s191_44 6 _ 0 (by omega)]
    by_cases c : (s_192 n (s_166 n B k) 3 y >>> fr) &&& 1 = 1
    · rw [if_pos c] at C ⊢; exact C
    · rw [if_neg c] at C ⊢; exact C
  · have h0 : s_192 n (s_166 n B k) v y = 0 := by unfold s_192; rw [if_neg (by omega)]
    rw [if_neg (by omega), if_neg (by omega), h0, if_pos rfl, k9, if_pos N00]
    by_cases c : v = 1
    · rw [if_pos c, if_pos c]
      exact last_main h5 (Or.inl rfl) wA hf eA k9 k7.symm k8 (by omega) kd
    · rw [if_neg c, if_neg c, if_neg (by omega)]
      exact last_main h5 (Or.inr rfl) wA hf eA k9 k7.symm k8 (by omega) kd
