/-! a search's invariant is kept by the acts; the measure grows -/
def QH (n : Nat) (A : HA) : Prop := (A 6 2 = 0 → A 1 0 = 1 ∧ A 0 0 = 0) ∧ (A 6 2 = 1 → A 1 0 = 1 ∧ A 0 0 = 1) ∧ (A 6 2 = 2 → A 1 0 = 1 ∧ A 0 0 = 2) ∧ (A 6 2 = 3 → A 1 0 = 1 → A 0 0 = 2 ∨ A 0 0 = 4 ∨ A 0 0 = 5) ∧ (∀ s, 1 ≤ s → s < n → (A 0 0 = 0 → A 0 s = 0 ∨ A 0 s = 3 ∨ A 0 s = 5) ∧ (A 0 0 = 1 ∨ A 0 0 = 3 → ¬ A 0 s = 2 ∧ ¬ A 0 s = 4) ∧ (A 6 2 = 1 → ¬ A 0 s = 0)) ∧ ((∀ s, s < n → ¬ A 0 s = 0) ∨ ∀ s, s < n → ¬ A 0 s = 2 ∧ ¬ A 0 s = 4)
section INV
variable {n k : Nat} {A B C : HA}
theorem tm1 {v : Nat} (h : v ≤ 5) (g : (1 : Nat).testBit v = true) : v = 0 := of_decide_eq_true ((tb1' v h).symm.trans g)
theorem tm2 {v : Nat} (h : v ≤ 5) (g : (2 : Nat).testBit v = true) : v = 1 := of_decide_eq_true ((tb2' v h).symm.trans g)
theorem tm3 {v : Nat} (h : v ≤ 5) (g : (3 : Nat).testBit v = true) : v = 0 ∨ v = 1 := (by decide : ∀ v, v ≤ 5 → (3 : Nat).testBit v = true → v = 0 ∨ v = 1) v h g
theorem tm15 {v : Nat} (h : v ≤ 5) (g : (15 : Nat).testBit v = true) : v ≤ 3 := (by decide : ∀ v, v ≤ 5 → (15 : Nat).testBit v = true → v ≤ 3) v h g
theorem tm31 {v : Nat} (h : v ≤ 5) (g : (31 : Nat).testBit v = true) : v ≤ 4 := (by decide : ∀ v, v ≤ 5 → (31 : Nat).testBit v = true → v ≤ 4) v h g
theorem tv1 {s : Nat} : tv A s 1 = 1 ∨ tv A s 1 = 5 := by
  unfold tv
  split
  · exact Or.inr rfl
  · exact Or.inl rfl
theorem rk_lt {u v : Nat} (h : (u = 0 ∧ (v = 1 ∨ v = 5)) ∨ (u ≤ 3 ∧ v = 5) ∨ (u = 1 ∧ v = 2) ∨ ((u = 0 ∨ u = 1) ∧ (v = 2 ∨ v = 3)) ∨ (u ≤ 3 ∧ v = 4) ∨ (u = 5 ∧ v = 4)) : rk u < rk v := by
  unfold rk
  split <;> split <;> (try split) <;> (try split) <;> omega
theorem q57 (w : WN n A) (q : QH n A) (ha : (s_57 n A k).1 < 2147483648) : QH n (s_57 n A k).2 ∧ Tr n A (s_57 n A k).2 := by
  have h5 := w.1.2
  have hn := w.1.1
  have hb : ∀ s, s < n → A 0 s ≤ 5 := fun s hs => w.b0 (by omega)
  have hf := w.f2
  obtain ⟨q0, q1, q2, q3, q4, q5⟩ := q
  unfold s_57 at ha ⊢
  by_cases c0 : isK k = 0
  · rw [if_pos c0] at ha; exact absurd ha (show ¬ (4294967293 : Nat) < 2147483648 by omega)
  rw [if_neg c0] at ha ⊢
  by_cases c1 : ¬ (A 6 2 = 0)
  · rw [if_neg c1] at ha; exact absurd ha (show ¬ (4294967291 : Nat) < 2147483648 by omega)
  have c1 := Classical.not_not.mp c1
  rw [if_pos c1] at ha ⊢
  by_cases c2 : ¬ (A 1 0 = 1)
  · rw [if_neg c2] at ha; exact absurd ha (show ¬ (4294967291 : Nat) < 2147483648 by omega)
  have c2 := Classical.not_not.mp c2
  rw [if_pos c2] at ha ⊢
  by_cases c3 : ¬ (A 0 0 = 0)
  · rw [if_neg c3] at ha; exact absurd ha (show ¬ (4294967291 : Nat) < 2147483648 by omega)
  have c3 := Classical.not_not.mp c3
  rw [if_pos c3] at ha ⊢
  have ho : ∀ s, 1 ≤ s → s < n → A 0 s = 0 ∨ A 0 s = 3 ∨ A 0 s = 5 := fun s h1 h2 => (q4 s h1 h2).1 c3
  by_cases c4 : ¬ (A 3 0 = 1)
  · rw [if_neg c4]
    have S := sp_st (n := n) (fr := 0) (set := ev n) (to := 5) (m := 15) (A := A) h5 k
    have T := S.tr (by omega) (fun s hs _ g => Or.inr (rk_lt (by have := tm15 (hb s hs) g; have : tv A s 5 = 5 := tv_n (by omega); omega)))
    obtain ⟨i1, i2, -, -, i5⟩ := S
    generalize s_61 n (a_up (a_up A 6 12 k) 6 13 0) 0 (ev n) 5 15 = p at i1 i2 i5 T ⊢
    have p0 : p.2 0 0 = 5 := by rw [i2, c3]; rfl
    have ps : ∀ s, 1 ≤ s → s < n → p.2 0 s = A 0 s ∨ p.2 0 s = 5 := fun s h1 h2 => by
      rcases i1 s (by omega) with g | g
      · exact Or.inl g
      · exact Or.inr (g.2.2.2.trans (tv_n (by omega)))
    have hp : p.2 6 2 = A 6 2 ∨ A 6 2 < p.2 6 2 := T.2.2.1
    have hp3 : p.2 6 2 = 3 ∨ p.2 6 2 < 3 := by
      rcases i5 with ⟨-, -, g⟩ | ⟨-, -, g⟩
      · omega
      · rw [g, if_pos rfl]; exact Or.inl rfl
    refine ⟨⟨fun h => absurd (show (3 : Nat) = 0 from h) (by omega), fun h => absurd (show (3 : Nat) = 1 from h) (by omega), fun h => absurd (show (3 : Nat) = 2 from h) (by omega), fun _ _ => Or.inr (Or.inr p0), fun s h1 h2 => ⟨fun h => absurd (p0.symm.trans h) (by omega), fun h => absurd (show p.2 0 0 = 1 ∨ p.2 0 0 = 3 from h) (by omega), fun h => absurd (show (3 : Nat) = 1 from h) (by omega)⟩, Or.inr fun s hs => ?_⟩, T.trans (Tr.ph (by omega))⟩
    show ¬ p.2 0 s = 2 ∧ ¬ p.2 0 s = 4
    by_cases z : s = 0
    · rw [z, p0]; omega
    · have := ps s (by omega) hs; have := ho s (by omega) hs; omega
  have c4 := Classical.not_not.mp c4
  rw [if_pos c4]
  have S := sp_st (n := n) (fr := 0) (set := ev n) (to := 1) (m := 1) (A := A) h5 k
  have T := S.tr (by omega) (fun s hs _ g => Or.inr (rk_lt (by have := tm1 (hb s hs) g; have := tv1 (A := A) (s := s); omega)))
  obtain ⟨i1, i2, -, -, i5⟩ := S
  generalize s_61 n (a_up (a_up A 6 12 k) 6 13 0) 0 (ev n) 1 1 = p at i1 i2 i5 T ⊢
  have p0 : p.2 0 0 = 1 := by
    rw [i2, c3, if_pos (by rfl)]
    unfold tv
    rw [if_neg (by omega)]
  have ps : ∀ s, 1 ≤ s → s < n → p.2 0 s = A 0 s ∨ (A 0 s = 0 ∧ (p.2 0 s = 1 ∨ p.2 0 s = 5)) := fun s h1 h2 => by
    rcases i1 s (by omega) with g | g
    · exact Or.inl g
    · have := tm1 (hb s h2) g.2.2.1
      have h9 := tv1 (A := A) (s := s)
      rw [← g.2.2.2] at h9
      exact Or.inr ⟨this, h9⟩
  have hb2 : ∀ s, s < n → p.2 0 s ≤ 5 := fun s hs => by
    by_cases z : s = 0
    · rw [z, p0]; omega
    · have := ps s (by omega) hs; have := hb s hs; omega
  by_cases c5 : p.1 = 0
  · rw [if_pos c5]
    rcases i5 with ⟨-, j1, j2⟩ | ⟨g, -, -⟩
    rotate_left
    · exact absurd (g.symm.trans c5) (by omega)
    by_cases c6 : s_55 n p.2 (ev n) = 2
    · rw [if_pos c6]
      have ar := (s55_2 h5 hn).mp c6
      refine ⟨⟨fun h => absurd (show (1 : Nat) = 0 from h) (by omega), fun _ => ⟨(j1 0).trans c2, p0⟩, fun h => absurd (show (1 : Nat) = 2 from h) (by omega), fun h => absurd (show (1 : Nat) = 3 from h) (by omega), fun s h1 h2 => ⟨fun h => absurd (p0.symm.trans h) (by omega), fun _ => ?_, fun _ => ?_⟩, Or.inr fun s hs => ?_⟩, T.trans (Tr.ph (by omega))⟩
      · show ¬ p.2 0 s = 2 ∧ ¬ p.2 0 s = 4; rw [ar s h2]; omega
      · show ¬ p.2 0 s = 0; rw [ar s h2]; omega
      · show ¬ p.2 0 s = 2 ∧ ¬ p.2 0 s = 4; rw [ar s hs]; omega
    · rw [if_neg c6]
      have S2 := sp61 (n := n) (fr := 0) (set := ev n) (to := 5) (m := 15) (A := p.2) h5
      have T2 := S2.tr (by omega) (fun s hs _ g => Or.inr (rk_lt (by have := tm15 (hb2 s hs) g; have : tv p.2 s 5 = 5 := tv_n (by omega); omega)))
      obtain ⟨y1, y2, -, -, y5⟩ := S2
      generalize s_61 n p.2 0 (ev n) 5 15 = r at y1 y2 y5 T2 ⊢
      have r0 : r.2 0 0 = 5 := by rw [y2, p0]; rfl
      have rs : ∀ s, 1 ≤ s → s < n → r.2 0 s = p.2 0 s ∨ r.2 0 s = 5 := fun s h1 h2 => by
        rcases y1 s (by omega) with g | g
        · exact Or.inl g
        · exact Or.inr (g.2.2.2.trans (tv_n (by omega)))
      have hp3 : r.2 6 2 = 3 ∨ r.2 6 2 < 3 := by
        rcases y5 with ⟨-, -, g⟩ | ⟨-, -, g⟩
        · omega
        · rw [g, if_pos rfl]; exact Or.inl rfl
      refine ⟨⟨fun h => absurd (show (3 : Nat) = 0 from h) (by omega), fun h => absurd (show (3 : Nat) = 1 from h) (by omega), fun h => absurd (show (3 : Nat) = 2 from h) (by omega), fun _ _ => Or.inr (Or.inr r0), fun s h1 h2 => ⟨fun h => absurd (r0.symm.trans h) (by omega), fun h => absurd (show r.2 0 0 = 1 ∨ r.2 0 0 = 3 from h) (by omega), fun h => absurd (show (3 : Nat) = 1 from h) (by omega)⟩, Or.inr fun s hs => ?_⟩, (T.trans T2).trans (Tr.ph (by omega))⟩
      show ¬ r.2 0 s = 2 ∧ ¬ r.2 0 s = 4
      by_cases z : s = 0
      · rw [z, r0]; omega
      · have := rs s (by omega) hs; have := ps s (by omega) hs; have := ho s (by omega) hs; omega
  · rw [if_neg c5]
    rcases i5 with ⟨g, -, -⟩ | ⟨-, j1, j2⟩
    · exact absurd g c5
    have e62 : p.2 6 2 = 3 := by rw [j2, if_pos rfl]
    have e10 : p.2 1 0 = 0 := by rw [j1 0, if_pos rfl]
    refine ⟨⟨fun h => absurd (e62.symm.trans h) (by omega), fun h => absurd (e62.symm.trans h) (by omega), fun h => absurd (e62.symm.trans h) (by omega), fun _ h => absurd (e10.symm.trans h) (by omega), fun s h1 h2 => ⟨fun h => absurd (p0.symm.trans h) (by omega), fun _ => ?_, fun h => absurd (e62.symm.trans h) (by omega)⟩, Or.inr fun s hs => ?_⟩, T⟩
    · show ¬ p.2 0 s = 2 ∧ ¬ p.2 0 s = 4
      have := ps s h1 h2; have := ho s h1 h2; omega
    · show ¬ p.2 0 s = 2 ∧ ¬ p.2 0 s = 4
      by_cases z : s = 0
      · rw [z, p0]; omega
      · have := ps s (by omega) hs; have := ho s (by omega) hs; omega
theorem q64 (w : WN n A) (q : QH n A) (ha : (s_64 n A k).1 < 2147483648) : QH n (s_64 n A k).2 ∧ Tr n A (s_64 n A k).2 := by
  have h5 := w.1.2
  have hn := w.1.1
  have hb : ∀ s, s < n → A 0 s ≤ 5 := fun s hs => w.b0 (by omega)
  obtain ⟨q0, q1, q2, q3, q4, q5⟩ := q
  unfold s_64 at ha ⊢
  by_cases c0 : isK k = 0
  · rw [if_pos c0] at ha; exact absurd ha (show ¬ (4294967293 : Nat) < 2147483648 by omega)
  rw [if_neg c0] at ha ⊢
  by_cases c1 : ¬ (A 6 2 = 1)
  · rw [if_neg c1] at ha; exact absurd ha (show ¬ (4294967291 : Nat) < 2147483648 by omega)
  have c1 := Classical.not_not.mp c1
  rw [if_pos c1] at ha ⊢
  by_cases c2 : ¬ (A 1 0 = 1)
  · rw [if_neg c2] at ha; exact absurd ha (show ¬ (4294967291 : Nat) < 2147483648 by omega)
  have c2 := Classical.not_not.mp c2
  rw [if_pos c2] at ha ⊢
  by_cases c3 : ¬ (A 0 0 = 1)
  · rw [if_neg c3] at ha; exact absurd ha (show ¬ (4294967291 : Nat) < 2147483648 by omega)
  have c3 := Classical.not_not.mp c3
  rw [if_pos c3]
  clear ha
  have ho : ∀ s, 1 ≤ s → s < n → ¬ A 0 s = 2 ∧ ¬ A 0 s = 4 ∧ ¬ A 0 s = 0 := fun s h1 h2 => ⟨((q4 s h1 h2).2.1 (Or.inl c3)).1, ((q4 s h1 h2).2.1 (Or.inl c3)).2, (q4 s h1 h2).2.2 c1⟩
  have S := sp_st (n := n) (fr := 0) (set := ev n) (to := 2) (m := 2) (A := A) h5 k
  have T := S.tr (by omega) (fun s hs _ g => Or.inr (rk_lt (by have := tm2 (hb s hs) g; have : tv A s 2 = 2 := tv_n (by omega); omega)))
  obtain ⟨i1, i2, -, -, i5⟩ := S
  generalize s_61 n (a_up (a_up A 6 12 k) 6 13 0) 0 (ev n) 2 2 = p at i1 i2 i5 T ⊢
  have p0 : p.2 0 0 = 2 := by rw [i2, c3]; rfl
  have ps : ∀ s, 1 ≤ s → s < n → p.2 0 s = A 0 s ∨ p.2 0 s = 2 := fun s h1 h2 => by
    rcases i1 s (by omega) with g | g
    · exact Or.inl g
    · exact Or.inr (g.2.2.2.trans (tv_n (by omega)))
  have nz : ∀ s, s < n → ¬ p.2 0 s = 0 := fun s hs => by
    by_cases z : s = 0
    · rw [z, p0]; omega
    · have := ps s (by omega) hs; have := ho s (by omega) hs; omega
  have hp3 : p.2 6 2 = 3 ∨ p.2 6 2 = 1 := by
    rcases i5 with ⟨-, -, g⟩ | ⟨-, -, g⟩
    · right; omega
    · left; rw [g, if_pos rfl]
  have f3 : QH n (a_up p.2 6 2 3) := ⟨fun h => absurd (show (3 : Nat) = 0 from h) (by omega), fun h => absurd (show (3 : Nat) = 1 from h) (by omega), fun h => absurd (show (3 : Nat) = 2 from h) (by omega), fun _ _ => Or.inl p0, fun s h1 h2 => ⟨fun h => absurd (p0.symm.trans h) (by omega), fun h => absurd (show p.2 0 0 = 1 ∨ p.2 0 0 = 3 from h) (by omega), fun h => absurd (show (3 : Nat) = 1 from h) (by omega)⟩, Or.inl nz⟩
  by_cases c5 : p.1 = 0
  · rw [if_pos c5]
    rcases i5 with ⟨-, j1, j2⟩ | ⟨g, -, -⟩
    rotate_left
    · exact absurd (g.symm.trans c5) (by omega)
    have f2 : QH n (a_up p.2 6 2 2) := ⟨fun h => absurd (show (2 : Nat) = 0 from h) (by omega), fun h => absurd (show (2 : Nat) = 1 from h) (by omega), fun _ => ⟨(j1 0).trans c2, p0⟩, fun h => absurd (show (2 : Nat) = 3 from h) (by omega), fun s h1 h2 => ⟨fun h => absurd (p0.symm.trans h) (by omega), fun h => absurd (show p.2 0 0 = 1 ∨ p.2 0 0 = 3 from h) (by omega), fun h => absurd (show (2 : Nat) = 1 from h) (by omega)⟩, Or.inl nz⟩
    split
    · exact ⟨f2, T.trans (Tr.ph (by omega))⟩
    · split
      · exact ⟨f3, T.trans (Tr.ph (by omega))⟩
      · exact ⟨f2, T.trans (Tr.ph (by omega))⟩
  · rw [if_neg c5]
    rcases i5 with ⟨g, -, -⟩ | ⟨-, j1, j2⟩
    · exact absurd g c5
    have e62 : p.2 6 2 = 3 := by rw [j2, if_pos rfl]
    have e10 : p.2 1 0 = 0 := by rw [j1 0, if_pos rfl]
    exact ⟨⟨fun h => absurd (e62.symm.trans h) (by omega), fun h => absurd (e62.symm.trans h) (by omega), fun h => absurd (e62.symm.trans h) (by omega), fun _ h => absurd (e10.symm.trans h) (by omega), fun s h1 h2 => ⟨fun h => absurd (p0.symm.trans h) (by omega), fun h => absurd (show p.2 0 0 = 1 ∨ p.2 0 0 = 3 from h) (by omega), fun h => absurd (e62.symm.trans h) (by omega)⟩, Or.inl nz⟩, T⟩
theorem q66 (w : WN n A) (q : QH n A) (ha : (s_66 n A k).1 < 2147483648) : QH n (s_66 n A k).2 ∧ Tr n A (s_66 n A k).2 := by
  have h5 := w.1.2
  have hn := w.1.1
  have hb : ∀ s, s < n → A 0 s ≤ 5 := fun s hs => w.b0 (by omega)
  obtain ⟨q0, q1, q2, q3, q4, q5⟩ := q
  unfold s_66 at ha ⊢
  by_cases c0 : isK k = 0
  · rw [if_pos c0] at ha; exact absurd ha (show ¬ (4294967293 : Nat) < 2147483648 by omega)
  rw [if_neg c0] at ha ⊢
  by_cases c1 : ¬ (A 6 2 = 2)
  · rw [if_neg c1] at ha; exact absurd ha (show ¬ (4294967291 : Nat) < 2147483648 by omega)
  have c1 := Classical.not_not.mp c1
  rw [if_pos c1] at ha ⊢
  by_cases c2 : ¬ (A 1 0 = 1)
  · rw [if_neg c2] at ha; exact absurd ha (show ¬ (4294967291 : Nat) < 2147483648 by omega)
  have c2 := Classical.not_not.mp c2
  rw [if_pos c2] at ha ⊢
  by_cases c3 : ¬ (A 0 0 = 2)
  · rw [if_neg c3] at ha; exact absurd ha (show ¬ (4294967291 : Nat) < 2147483648 by omega)
  have c3 := Classical.not_not.mp c3
  rw [if_pos c3]
  clear ha
  have ho : ∀ s, s < n → ¬ A 0 s = 0 := by
    rcases q5 with h | h
    · exact h
    · exact absurd c3 (h 0 (by omega)).1
  have S := sp_st (n := n) (fr := 0) (set := ev n) (to := 4) (m := 31) (A := A) h5 k
  have T := S.tr (by omega) (fun s hs _ g => by
    have h4 := tm31 (hb s hs) g
    have h9 : tv A s 4 = 4 := tv_n (by omega)
    by_cases z : A 0 s = 4
    · left; omega
    · exact Or.inr (rk_lt (by omega)))
  obtain ⟨i1, i2, -, -, i5⟩ := S
  generalize s_61 n (a_up (a_up A 6 12 k) 6 13 0) 0 (ev n) 4 31 = p at i1 i2 i5 T ⊢
  have p0 : p.2 0 0 = 4 := by rw [i2, c3]; rfl
  have nz : ∀ s, s < n → ¬ p.2 0 s = 0 := fun s hs => by
    by_cases z : s = 0
    · rw [z, p0]; omega
    · rcases i1 s z with g | g
      · rw [g]; exact ho s hs
      · rw [g.2.2.2, tv_n (by omega)]; omega
  have hp3 : p.2 6 2 = 3 ∨ p.2 6 2 = 2 := by
    rcases i5 with ⟨-, -, g⟩ | ⟨-, -, g⟩
    · right; omega
    · left; rw [g, if_pos rfl]
  exact ⟨⟨fun h => absurd (show (3 : Nat) = 0 from h) (by omega), fun h => absurd (show (3 : Nat) = 1 from h) (by omega), fun h => absurd (show (3 : Nat) = 2 from h) (by omega), fun _ _ => Or.inr (Or.inl p0), fun s h1 h2 => ⟨fun h => absurd (p0.symm.trans h) (by omega), fun h => absurd (show p.2 0 0 = 1 ∨ p.2 0 0 = 3 from h) (by omega), fun h => absurd (show (3 : Nat) = 1 from h) (by omega)⟩, Or.inl nz⟩, T.trans (Tr.ph (by omega))⟩
theorem q67 (w : WN n A) (q : QH n A) {s : Nat} (ha : (s_67 n A s).1 < 2147483648) : QH n (s_67 n A s).2 ∧ Tr n A (s_67 n A s).2 := by
  have h5 := w.1.2
  have hf := w.f2
  obtain ⟨q0, q1, q2, q3, q4, q5⟩ := q
  unfold s_67 at ha ⊢
  by_cases c0 : 2147483648 ≤ s
  · rw [if_pos c0] at ha; exact absurd ha (show ¬ (4294967294 : Nat) < 2147483648 by omega)
  rw [if_neg c0] at ha ⊢
  by_cases c1 : n ≤ s
  · rw [if_pos c1] at ha; exact absurd ha (show ¬ (4294967294 : Nat) < 2147483648 by omega)
  rw [if_neg c1] at ha ⊢
  by_cases c2 : A 1 s = 0
  · rw [if_pos c2] at ha; exact absurd ha (show ¬ (4294967291 : Nat) < 2147483648 by omega)
  rw [if_neg c2]
  clear ha
  show QH n (s_63 n A s) ∧ Tr n A (s_63 n A s)
  have e0 : ∀ t, s_63 n A s 0 t = A 0 t := fun t => by rw [s63_gd h5 _ _ (by omega), gd_0]
  have e1 : ∀ t, s_63 n A s 1 t = if t = s then 0 else A 1 t := fun t => by rw [s63_gd h5 _ _ (by omega), gd_1]
  have e2 : s_63 n A s 6 2 = if s = 0 then 3 else A 6 2 := by rw [s63_gd h5 _ _ (by omega), gd_62]
  have T : Tr n A (s_63 n A s) := by
    refine ⟨fun t _ => Or.inl (e0 t), fun t _ => ?_, ?_, fun w t w1 w2 _ => by rw [s63_gd h5 _ _ (by omega), gd_w w1 w2], fun k k1 k2 k3 => by rw [s63_gd h5 _ _ (by omega), gd_6 k3]⟩
    · rw [e1 t]
      split
      · exact Or.inr rfl
      · exact Or.inl rfl
    · rw [e2]
      split
      · omega
      · exact Or.inl rfl
  refine ⟨?_, T⟩
  unfold QH
  by_cases z : s = 0
  · rw [if_pos z] at e2
    have e10 := e1 0
    rw [if_pos z.symm] at e10
    rw [e2, e10]
    refine ⟨by omega, by omega, by omega, by omega, fun t h1 h2 => ?_, ?_⟩
    · rw [e0, e0]
      have := q4 t h1 h2
      exact ⟨this.1, this.2.1, by omega⟩
    · rcases q5 with h | h
      · exact Or.inl fun t ht => by rw [e0]; exact h t ht
      · exact Or.inr fun t ht => by rw [e0]; exact h t ht
  · rw [if_neg z] at e2
    have e10 := e1 0
    rw [if_neg (fun q => z q.symm)] at e10
    rw [e2, e10, e0]
    refine ⟨q0, q1, q2, q3, fun t h1 h2 => ?_, ?_⟩
    · rw [e0]; exact q4 t h1 h2
    · rcases q5 with h | h
      · exact Or.inl fun t ht => by rw [e0]; exact h t ht
      · exact Or.inr fun t ht => by rw [e0]; exact h t ht
end INV
