/-! what one row of messages may do; a search's invariant (IHs), its measure (Tr) -/
def SP (n fr set to m : Nat) (A : HA) (p : Nat × HA) : Prop := (∀ s, ¬ s = fr → p.2 0 s = A 0 s ∨ (s < n ∧ set.testBit s = true ∧ m.testBit (A 0 s) = true ∧ p.2 0 s = tv A s to)) ∧ (p.2 0 fr = if m.testBit (A 0 fr) = true then tv A fr to else A 0 fr) ∧ (∀ w s, 2 ≤ w → w < 5 → p.2 w s = A w s) ∧ (∀ k, 1 ≤ k → k < 5 → ¬ k = 2 → p.2 6 k = A 6 k) ∧ ((p.1 = 0 ∧ (∀ s, p.2 1 s = A 1 s) ∧ p.2 6 2 = A 6 2) ∨ (p.1 = 1 ∧ (∀ s, p.2 1 s = if s = fr then 0 else A 1 s) ∧ p.2 6 2 = if fr = 0 then 3 else A 6 2))
section STE
variable {n fr set to m : Nat} {A B C : HA}
theorem gd_0 {s t : Nat} : gd A s 0 t = A 0 t := by unfold gd; split <;> rfl
theorem gd_1 {s t : Nat} : gd A s 1 t = if t = s then 0 else A 1 t := by
  unfold gd
  split
  · rw [a_up_def, if_neg (by omega), a_up_def]
    by_cases c : t = s
    · rw [if_pos ⟨rfl, c⟩, if_pos c]
    · rw [if_neg (fun q => c q.2), if_neg c]
  · rw [a_up_def]
    by_cases c : t = s
    · rw [if_pos ⟨rfl, c⟩, if_pos c]
    · rw [if_neg (fun q => c q.2), if_neg c]
theorem gd_w {s t w : Nat} (h1 : 2 ≤ w) (h2 : w < 5) : gd A s w t = A w t := by
  unfold gd
  split
  · rw [a_up_def, if_neg (by omega), a_up_def, if_neg (by omega)]
  · rw [a_up_def, if_neg (by omega)]
theorem gd_62 {s : Nat} : gd A s 6 2 = if s = 0 then 3 else A 6 2 := by
  unfold gd
  split
  · rfl
  · rfl
theorem gd_6 {s k : Nat} (h : ¬ k = 2) : gd A s 6 k = A 6 k := by
  unfold gd
  split
  · rw [a_up_def, if_neg (by omega), a_up_def, if_neg (by omega)]
  · rw [a_up_def, if_neg (by omega)]
theorem hs_s {t s : Nat} : hs n A fr to m t 0 s = A 0 s ∨ (s = t ∧ m.testBit (A 0 s) = true ∧ hs n A fr to m t 0 s = tv A s to) := by
  unfold hs
  split
  · rw [s62_bec]
    split
    · rename_i h
      by_cases c : s = t
      · subst c
        rw [bec_s]
        exact Or.inr ⟨rfl, h, rfl⟩
      · rw [bec_n c]; exact Or.inl rfl
    · exact Or.inl rfl
  · exact Or.inl rfl
theorem hs_n {t s : Nat} (h : ¬ s = t) : hs n A fr to m t 0 s = A 0 s := by
  rcases hs_s (n := n) (A := A) (fr := fr) (to := to) (m := m) (t := t) (s := s) with g | g
  · exact g
  · exact absurd g.1 h
theorem hs_tv {t s v : Nat} : tv (hs n A fr to m t) s v = tv A s v := by
  unfold tv
  rw [hs_o (by omega) (by omega) (by omega) (by omega)]
theorem fi_sp (h5 : n ≤ 5) : ∀ d (A : HA) t, ((∀ s, ¬ s = fr → (fi n fr set to m d A t).2 0 s = A 0 s ∨ (t ≤ s ∧ s < n ∧ set.testBit s = true ∧ m.testBit (A 0 s) = true ∧ (fi n fr set to m d A t).2 0 s = tv A s to)) ∧ ((fi n fr set to m d A t).2 0 fr = A 0 fr) ∧ (∀ w s, 2 ≤ w → w < 5 → (fi n fr set to m d A t).2 w s = A w s) ∧ (∀ k, 1 ≤ k → k < 5 → ¬ k = 2 → (fi n fr set to m d A t).2 6 k = A 6 k) ∧ (((fi n fr set to m d A t).1 = 0 ∧ (∀ s, (fi n fr set to m d A t).2 1 s = A 1 s) ∧ (fi n fr set to m d A t).2 6 2 = A 6 2) ∨ ((fi n fr set to m d A t).1 = 1 ∧ (∀ s, (fi n fr set to m d A t).2 1 s = if s = fr then 0 else A 1 s) ∧ (fi n fr set to m d A t).2 6 2 = if fr = 0 then 3 else A 6 2))) := by
  intro d
  induction d with
  | zero => intro A t; exact ⟨fun _ _ => Or.inl rfl, rfl, fun _ _ _ _ => rfl, fun _ _ _ _ => rfl, Or.inl ⟨rfl, fun _ => rfl, rfl⟩⟩
  | succ d ih =>
    intro A t
    unfold fi
    by_cases c1 : n ≤ t
    · rw [if_pos c1]; exact ⟨fun _ _ => Or.inl rfl, rfl, fun _ _ _ _ => rfl, fun _ _ _ _ => rfl, Or.inl ⟨rfl, fun _ => rfl, rfl⟩⟩
    rw [if_neg c1]
    by_cases c2 : t = fr ∨ set.testBit t = false
    · rw [if_pos c2]
      obtain ⟨i1, i2⟩ := ih A (t + 1)
      refine ⟨fun s hs => ?_, i2⟩
      rcases i1 s hs with g | g
      · exact Or.inl g
      · exact Or.inr ⟨by omega, g.2⟩
    rw [if_neg c2]
    have ct : ¬ fr = t := fun q => c2 (Or.inl q.symm)
    have cb : set.testBit t = true := by
      cases h : set.testBit t with
      | true => rfl
      | false => exact absurd (Or.inr h) c2
    by_cases c3 : N (A 6 13 + 1) = N (A 6 12)
    · rw [if_pos c3]
      refine ⟨fun s hs => ?_, ?_, fun w s w1 w2 => ?_, fun k k1 k2 k3 => ?_, Or.inr ⟨rfl, fun s => ?_, ?_⟩⟩
      · show s_63 n _ fr 0 s = _ ∨ (_ ∧ _ ∧ _ ∧ _ ∧ s_63 n _ fr 0 s = _)
        rw [s63_gd h5 _ _ (by omega), gd_0]
        rcases hs_s (n := n) (A := A) (fr := fr) (to := to) (m := m) (t := t) (s := s) with g | g
        · exact Or.inl g
        · exact Or.inr ⟨by omega, by omega, by rw [g.1]; exact cb, g.2⟩
      · show s_63 n _ fr 0 fr = _
        rw [s63_gd h5 _ _ (by omega), gd_0, hs_n ct]
      · show s_63 n _ fr w s = _
        rw [s63_gd h5 _ _ (by omega), gd_w w1 w2, hs_o (by omega) (by omega) (by omega) (by omega)]
      · show s_63 n _ fr 6 k = _
        rw [s63_gd h5 _ _ (by omega), gd_6 k3, hs_o (by omega) (by omega) (by omega) (by omega)]
      · show s_63 n _ fr 1 s = _
        rw [s63_gd h5 _ _ (by omega), gd_1, hs_o (by omega) (by omega) (by omega) (by omega)]
      · show s_63 n _ fr 6 2 = _
        rw [s63_gd h5 _ _ (by omega), gd_62, hs_o (by omega) (by omega) (by omega) (by omega)]
    · rw [if_neg c3]
      obtain ⟨i1, i2, i3, i4, i5⟩ := ih (hs n A fr to m t) (t + 1)
      rw [hs_n ct] at i2
      refine ⟨fun s hs' => ?_, i2, fun w s w1 w2 => ?_, fun k k1 k2 k3 => ?_, ?_⟩
      · rcases i1 s hs' with g | g
        · rw [g]
          rcases hs_s (n := n) (A := A) (fr := fr) (to := to) (m := m) (t := t) (s := s) with g | g
          · exact Or.inl g
          · exact Or.inr ⟨by omega, by omega, by rw [g.1]; exact cb, g.2⟩
        · have hn := hs_n (n := n) (A := A) (fr := fr) (to := to) (m := m) (t := t) (s := s) (by omega)
          rw [hn, hs_tv] at g
          exact Or.inr ⟨by omega, g.2⟩
      · rw [i3 w s w1 w2, hs_o (by omega) (by omega) (by omega) (by omega)]
      · rw [i4 k k1 k2 k3, hs_o (by omega) (by omega) (by omega) (by omega)]
      · have e62 : hs n A fr to m t 6 2 = A 6 2 := hs_o (by omega) (by omega) (by omega) (by omega)
        have e1 : ∀ s, hs n A fr to m t 1 s = A 1 s := fun s => hs_o (by omega) (by omega) (by omega) (by omega)
        rw [e62] at i5
        rcases i5 with ⟨g1, g2, g3⟩ | ⟨g1, g2, g3⟩
        · exact Or.inl ⟨g1, fun s => (g2 s).trans (e1 s), g3⟩
        · exact Or.inr ⟨g1, fun s => (g2 s).trans (by rw [e1 s]), g3⟩
theorem sp61 (h5 : n ≤ 5) : SP n fr set to m A (s_61 n A fr set to m) := by
  have b0 : s_62 n A fr to m 0 fr = if m.testBit (A 0 fr) = true then tv A fr to else A 0 fr := by
    rw [s62_bec]
    split
    · rw [bec_s]
    · rfl
  have bo : ∀ w k, ¬ w = 0 → ¬ w = 7 → ¬ w = 8 → s_62 n A fr to m w k = A w k := fun w k h0 h7 h8 => s62_o h0 h7 h8
  have bn : ∀ s, ¬ s = fr → s_62 n A fr to m 0 s = A 0 s := fun s h => s62_n h
  have bt : ∀ s, tv (s_62 n A fr to m) s to = tv A s to := fun s => by unfold tv; rw [bo 3 s (by omega) (by omega) (by omega)]
  rw [s61_1]
  generalize s_62 n A fr to m = D at b0 bo bn bt ⊢
  split
  · refine ⟨fun s hs => Or.inl ?_, ?_, fun w s w1 w2 => ?_, fun k k1 k2 k3 => ?_, Or.inr ⟨rfl, fun s => ?_, ?_⟩⟩
    · show s_63 n D fr 0 s = _
      rw [s63_gd h5 _ _ (by omega), gd_0, bn s hs]
    · show s_63 n D fr 0 fr = _
      rw [s63_gd h5 _ _ (by omega), gd_0, b0]
    · show s_63 n D fr w s = _
      rw [s63_gd h5 _ _ (by omega), gd_w w1 w2, bo w s (by omega) (by omega) (by omega)]
    · show s_63 n D fr 6 k = _
      rw [s63_gd h5 _ _ (by omega), gd_6 k3, bo 6 k (by omega) (by omega) (by omega)]
    · show s_63 n D fr 1 s = _
      rw [s63_gd h5 _ _ (by omega), gd_1, bo 1 s (by omega) (by omega) (by omega)]
    · show s_63 n D fr 6 2 = _
      rw [s63_gd h5 _ _ (by omega), gd_62, bo 6 2 (by omega) (by omega) (by omega)]
  · obtain ⟨i1, i2, i3, i4, i5⟩ := fi_sp (n := n) (fr := fr) (set := set) (to := to) (m := m) h5 6 D 0
    refine ⟨fun s hs => ?_, i2.trans b0, fun w s w1 w2 => (i3 w s w1 w2).trans (bo w s (by omega) (by omega) (by omega)), fun k k1 k2 k3 => (i4 k k1 k2 k3).trans (bo 6 k (by omega) (by omega) (by omega)), ?_⟩
    · rcases i1 s hs with g | g
      · exact Or.inl (g.trans (bn s hs))
      · rw [bn s hs, bt] at g
        exact Or.inr g.2
    · rw [bo 6 2 (by omega) (by omega) (by omega)] at i5
      rcases i5 with ⟨g1, g2, g3⟩ | ⟨g1, g2, g3⟩
      · exact Or.inl ⟨g1, fun s => (g2 s).trans (bo 1 s (by omega) (by omega) (by omega)), g3⟩
      · exact Or.inr ⟨g1, fun s => (g2 s).trans (by rw [bo 1 s (by omega) (by omega) (by omega)]), g3⟩
theorem sp_st (h5 : n ≤ 5) (k : Nat) : SP n fr set to m A (s_61 n (a_up (a_up A 6 12 k) 6 13 0) fr set to m) := by
  obtain ⟨i1, i2, i3, i4, i5⟩ := sp61 (n := n) (fr := fr) (set := set) (to := to) (m := m) (A := a_up (a_up A 6 12 k) 6 13 0) h5
  refine ⟨i1, i2, fun w s w1 w2 => (i3 w s w1 w2).trans ?_, fun j k1 k2 k3 => (i4 j k1 k2 k3).trans ?_, i5⟩
  · rw [a_up_def, if_neg (by omega), a_up_def, if_neg (by omega)]
  · rw [a_up_def, if_neg (by omega), a_up_def, if_neg (by omega)]
/-- how far a state has come -/
def rk (v : Nat) : Nat := if v = 5 then 3 else if v = 3 then 2 else v
def Tr (n : Nat) (A B : HA) : Prop := (∀ s, s < n → B 0 s = A 0 s ∨ rk (A 0 s) < rk (B 0 s)) ∧ (∀ s, s < n → B 1 s = A 1 s ∨ B 1 s = 0) ∧ (B 6 2 = A 6 2 ∨ A 6 2 < B 6 2) ∧ (∀ w s, 2 ≤ w → w < 5 → s < n → B w s = A w s) ∧ ∀ k, 1 ≤ k → k < 5 → ¬ k = 2 → B 6 k = A 6 k
theorem Tr.refl (n : Nat) (A : HA) : Tr n A A := ⟨fun _ _ => Or.inl rfl, fun _ _ => Or.inl rfl, Or.inl rfl, fun _ _ _ _ _ => rfl, fun _ _ _ _ => rfl⟩
theorem Tr.trans (h : Tr n A B) (g : Tr n B C) : Tr n A C := by
  refine ⟨fun s hs => ?_, fun s hs => ?_, ?_, fun w s w1 w2 hs => (g.2.2.2.1 w s w1 w2 hs).trans (h.2.2.2.1 w s w1 w2 hs), fun k k1 k2 k3 => (g.2.2.2.2 k k1 k2 k3).trans (h.2.2.2.2 k k1 k2 k3)⟩
  · have h1 := h.1 s hs
    have g1 := g.1 s hs
    rcases g1 with g1 | g1
    · rw [g1]; exact h1
    · rcases h1 with h1 | h1
      · rw [h1] at g1; exact Or.inr g1
      · exact Or.inr (by omega)
  · have h1 := h.2.1 s hs
    have g1 := g.2.1 s hs
    omega
  · have h1 := h.2.2.1
    have g1 := g.2.2.1
    omega
theorem Tr.ph {v : Nat} (h : v = A 6 2 ∨ A 6 2 < v) : Tr n A (a_up A 6 2 v) := by
  refine ⟨fun s hs => Or.inl rfl, fun s hs => Or.inl rfl, ?_, fun w s w1 w2 hs => ?_, fun k k1 k2 k3 => ?_⟩
  · rw [a_up_def, if_pos ⟨rfl, rfl⟩]; exact h
  · rw [a_up_def, if_neg (by omega)]
  · rw [a_up_def, if_neg (by omega)]
theorem SP.tr {p : Nat × HA} (h : SP n fr set to m A p) (h3 : A 6 2 ≤ 3) (hr : ∀ s, s < n → (s = fr ∨ set.testBit s = true) → m.testBit (A 0 s) = true → tv A s to = A 0 s ∨ rk (A 0 s) < rk (tv A s to)) : Tr n A p.2 := by
  obtain ⟨i1, i2, i3, i4, i5⟩ := h
  refine ⟨fun s hs => ?_, fun s hs => ?_, ?_, fun w s w1 w2 hs => i3 w s w1 w2, i4⟩
  · by_cases c : s = fr
    · subst c
      rw [i2]
      split
      · rename_i g; exact hr s hs (Or.inl rfl) g
      · exact Or.inl rfl
    · rcases i1 s c with g | ⟨g1, g2, g3, g4⟩
      · exact Or.inl g
      · rw [g4]; exact hr s hs (Or.inr g2) g3
  · rcases i5 with ⟨g1, g2, g3⟩ | ⟨g1, g2, g3⟩
    · exact Or.inl (g2 s)
    · rw [g2 s]
      split
      · exact Or.inr rfl
      · exact Or.inl rfl
  · rcases i5 with ⟨g1, g2, g3⟩ | ⟨g1, g2, g3⟩
    · exact Or.inl g3
    · rw [g3]
      split
      · omega
      · exact Or.inl rfl
end STE
