/-! a search's invariant: finishing -/
def lav (v : Nat) : Nat := if v = 1 ∨ v = 2 then 4 else 5
def FA (n : Nat) (A : HA) (s X v : Nat) (B : HA) : Prop := (∀ t, t < n → ¬ t = s → B 0 t = A 0 t ∨ (X.testBit t = true ∧ (B 0 t = lav v ∨ (B 0 t = v ∧ A 0 t ≤ 1 ∧ 2 ≤ v)))) ∧ (B 0 s = lav v ∨ (B 1 s = 0 ∧ 2 ≤ v ∧ (B 0 s = A 0 s ∨ (B 0 s = v ∧ A 0 s ≤ 1)) ∧ (v = 3 → A 0 s ≤ 1 → B 0 s = 3))) ∧ (∀ t, t < n → ¬ t = s → B 1 t = A 1 t) ∧ B 6 2 = if s = 0 then 3 else A 6 2
section INW
variable {n k s X v : Nat} {A B C D : HA}
theorem s55_ne (h5 : n ≤ 5) {m : Nat} (h : ¬ s_55 n A X &&& m = 0) : ∃ t, t < n ∧ X.testBit t = true ∧ m.testBit (A 0 t) = true := by
  refine Classical.byContradiction fun q => h ((s55_0 h5 X m).mpr fun t ht hx => ?_)
  cases e : m.testBit (A 0 t) with
  | false => rfl
  | true => exact absurd ⟨t, ht, hx, e⟩ q
theorem v77 (h5 : n ≤ 5) (hb : ∀ s, s < n → A 0 s ≤ 5) : (s_77 n A X X = 1 ∨ s_77 n A X X = 2 → ∃ t, t < n ∧ X.testBit t = true ∧ (A 0 t = 2 ∨ A 0 t = 4)) ∧ (s_77 n A X X = 0 ∨ s_77 n A X X = 3 → ∀ t, t < n → X.testBit t = true → ¬ A 0 t = 4) := by
  by_cases a16 : s_55 n A X &&& 16 = 0
  · have n4 : ∀ t, t < n → X.testBit t = true → ¬ A 0 t = 4 := fun t ht hx => (tb16 _ (hb t ht)).mp ((s55_0 h5 X 16).mp a16 t ht hx)
    refine ⟨fun h => ?_, fun _ => n4⟩
    by_cases a4 : s_55 n A X &&& 4 = 0
    · exfalso
      unfold s_77 at h
      rw [if_pos a16, if_pos a4] at h
      by_cases a32 : s_55 n A X &&& 32 = 0
      · rw [if_pos a32] at h
        by_cases f : A 6 1 = 0
        · rw [if_pos f] at h; omega
        · rw [if_neg f, if_neg f] at h
          split at h
          · omega
          · split at h <;> omega
      · rw [if_neg a32] at h; omega
    · obtain ⟨t, h1, h2, h3⟩ := s55_ne h5 a4
      refine ⟨t, h1, h2, Or.inl ?_⟩
      rw [tb4' _ (hb t h1)] at h3
      exact of_decide_eq_true h3
  · obtain ⟨t, h1, h2, h3⟩ := s55_ne h5 a16
    rw [tb16' _ (hb t h1)] at h3
    refine ⟨fun _ => ⟨t, h1, h2, Or.inr (of_decide_eq_true h3)⟩, fun h => ?_⟩
    exfalso
    unfold s_77 at h
    rw [if_neg a16] at h
    omega
theorem tl_0 {t : Nat} : tl s A 0 t = A 0 t := by unfold tl; split <;> rfl
theorem tl_1 {t : Nat} : tl s A 1 t = A 1 t := by unfold tl; split <;> rfl
theorem tl_62 : tl s A 6 2 = if s = 0 then 3 else A 6 2 := by unfold tl; split <;> rfl
theorem Tr.tlq (h3 : A 6 2 ≤ 3) : Tr n A (tl s A) := by
  unfold tl
  split
  · exact Tr.ph (by omega)
  · exact Tr.refl n A
theorem lav_or : lav v = 4 ∨ lav v = 5 := by unfold lav; split; exact Or.inl rfl; exact Or.inr rfl
theorem rk_la {u : Nat} (hu : u ≤ 5) (h4 : lav v = 5 → ¬ u = 4) : lav v = u ∨ rk u < rk (lav v) := by
  rcases lav_or (v := v) with h | h
  · rw [h]
    by_cases z : u = 4
    · exact Or.inl z.symm
    · exact Or.inr (rk_lt (by omega))
  · rw [h]
    have := h4 h
    by_cases z : u = 5
    · exact Or.inl z.symm
    · exact Or.inr (rk_lt (by omega))
/-- a last part -/
theorem lastp {p : Nat × HA} (h : SP n s X (lav v) 63 D p) (hs : s < n) (hb : ∀ t, t < n → D 0 t ≤ 5) (h3 : D 6 2 ≤ 3) (h4 : lav v = 5 → ∀ t, t < n → (t = s ∨ X.testBit t = true) → ¬ D 0 t = 4) : (∀ t, t < n → ¬ t = s → (tl s p.2) 0 t = D 0 t ∨ (X.testBit t = true ∧ (tl s p.2) 0 t = lav v)) ∧ (tl s p.2) 0 s = lav v ∧ (∀ t, t < n → ¬ t = s → (tl s p.2) 1 t = D 1 t) ∧ ((tl s p.2) 6 2 = if s = 0 then 3 else D 6 2) ∧ Tr n D (tl s p.2) := by
  have lt : ¬ lav v = 1 := by have := lav_or (v := v); omega
  have T := h.tr h3 (fun t ht hx _ => by rw [tv_n lt]; exact rk_la (hb t ht) (fun q => h4 q t ht hx))
  obtain ⟨i1, i2, -, -, i5⟩ := h
  have p3 : p.2 6 2 ≤ 3 := by
    rcases i5 with ⟨-, -, g⟩ | ⟨-, -, g⟩
    · omega
    · rw [g]; split <;> omega
  refine ⟨fun t ht hn => ?_, ?_, fun t ht hn => ?_, ?_, T.trans (Tr.tlq p3)⟩
  · rw [tl_0]
    rcases i1 t hn with g | g
    · exact Or.inl g
    · exact Or.inr ⟨g.2.1, g.2.2.2.trans (tv_n lt)⟩
  · rw [tl_0, i2, if_pos (tb63' _ (hb s hs)), tv_n lt]
  · rw [tl_1]
    rcases i5 with ⟨-, g, -⟩ | ⟨-, g, -⟩
    · exact g t
    · rw [g t, if_neg hn]
  · rw [tl_62]
    split
    · rfl
    · rename_i hz
      rcases i5 with ⟨-, -, g⟩ | ⟨-, -, g⟩
      · exact g
      · rw [g, if_neg hz]
theorem fa_co {m : Nat} (h5 : n ≤ 5) (hs : s < n) (hv : v = 2 ∨ v = 3) (hm : m = 3 ∨ (m = 2 ∧ v = 2)) (hb : ∀ t, t < n → A 0 t ≤ 5) (h3 : A 6 2 ≤ 3) (h4 : lav v = 5 → ∀ t, t < n → (t = s ∨ X.testBit t = true) → ¬ A 0 t = 4) : FA n A s X v (co n (a_up (a_up A 6 12 k) 6 13 0) s X v m (lav v)) ∧ Tr n A (co n (a_up (a_up A 6 12 k) 6 13 0) s X v m (lav v)) := by
  have hm1 : ∀ t, t < n → m.testBit (A 0 t) = true → A 0 t ≤ 1 := fun t ht g => by
    rcases hm with rfl | ⟨rfl, -⟩
    · have := tm3 (hb t ht) g; omega
    · have := tm2 (hb t ht) g; omega
  have S := sp_st (n := n) (fr := s) (set := X) (to := v) (m := m) (A := A) h5 k
  have T := S.tr h3 (fun t ht _ g => Or.inr (rk_lt (by have := hm1 t ht g; have : tv A t v = v := tv_n (by omega); omega)))
  unfold co
  obtain ⟨i1, i2, -, -, i5⟩ := S
  generalize s_61 n (a_up (a_up A 6 12 k) 6 13 0) s X v m = p at i1 i2 i5 T ⊢
  have ps : ∀ t, t < n → ¬ t = s → p.2 0 t = A 0 t ∨ (X.testBit t = true ∧ p.2 0 t = v ∧ A 0 t ≤ 1) := fun t ht hn => by
    rcases i1 t hn with g | g
    · exact Or.inl g
    · exact Or.inr ⟨g.2.1, g.2.2.2.trans (tv_n (by omega)), hm1 t ht g.2.2.1⟩
  have p0 : p.2 0 s = A 0 s ∨ (p.2 0 s = v ∧ A 0 s ≤ 1) := by
    rw [i2]
    split
    · rename_i g; exact Or.inr ⟨tv_n (by omega), hm1 s hs g⟩
    · exact Or.inl rfl
  have p3 : v = 3 → A 0 s ≤ 1 → p.2 0 s = 3 := fun e h => by
    have hm3 : m = 3 := by omega
    rw [i2, hm3, if_pos ((by decide : ∀ u, u ≤ 1 → (3 : Nat).testBit u = true) _ h), tv_n (by omega), e]
  by_cases c : p.1 = 0
  · rw [if_pos c]
    rcases i5 with ⟨-, j1, j2⟩ | ⟨g, -, -⟩
    rotate_left
    · exact absurd (g.symm.trans c) (by omega)
    have hb2 : ∀ t, t < n → p.2 0 t ≤ 5 := fun t ht => by
      have := hb t ht
      by_cases z : t = s
      · rw [z] at this ⊢; omega
      · have := ps t ht z; omega
    obtain ⟨l1, l2, l3, l4, l5⟩ := lastp (v := v) (sp61 (n := n) (fr := s) (set := X) (to := lav v) (m := 63) (A := p.2) h5) hs hb2 (by omega) (fun e t ht hx => by
      have h := h4 e t ht hx
      by_cases z : t = s
      · subst z; omega
      · have := ps t ht z; omega)
    refine ⟨⟨fun t ht hn => ?_, Or.inl l2, fun t ht hn => (l3 t ht hn).trans (j1 t), ?_⟩, T.trans l5⟩
    · have a := ps t ht hn
      rcases l1 t ht hn with g | g
      · rw [g]
        rcases a with a | ⟨a1, a2, a3⟩
        · exact Or.inl a
        · exact Or.inr ⟨a1, Or.inr ⟨a2, a3, by omega⟩⟩
      · exact Or.inr ⟨g.1, Or.inl g.2⟩
    · rw [l4, j2]
  · rw [if_neg c]
    rcases i5 with ⟨g, -, -⟩ | ⟨-, j1, j2⟩
    · exact absurd g c
    have e1 : p.2 1 s = 0 := by rw [j1 s, if_pos rfl]
    have q3 : p.2 6 2 ≤ 3 := by rw [j2]; split <;> omega
    refine ⟨⟨fun t ht hn => ?_, Or.inr ⟨by rw [tl_1]; exact e1, by omega, by rw [tl_0]; exact p0, fun e h => by rw [tl_0]; exact p3 e h⟩, fun t ht hn => ?_, ?_⟩, T.trans (Tr.tlq q3)⟩
    · rw [tl_0]
      rcases ps t ht hn with a | ⟨a1, a2, a3⟩
      · exact Or.inl a
      · exact Or.inr ⟨a1, Or.inr ⟨a2, a3, by omega⟩⟩
    · rw [tl_1, j1 t, if_neg hn]
    · rw [tl_62, j2]
      split
      · rfl
      · rfl
theorem fa79 (h5 : n ≤ 5) (hs : s < n) (hv : v ≤ 3) (hb : ∀ t, t < n → A 0 t ≤ 5) (h3 : A 6 2 ≤ 3) (h4 : lav v = 5 → ∀ t, t < n → (t = s ∨ X.testBit t = true) → ¬ A 0 t = 4) : FA n A s X v (s_79 n A s X v k) ∧ Tr n A (s_79 n A s X v k) := by
  rw [s79_co n A s X v k hv]
  by_cases c2 : v = 2
  · subst c2
    rw [if_pos rfl]
    exact fa_co (m := if A 6 1 = 0 then 3 else 2) h5 hs (by omega) (by split <;> omega) hb h3 h4
  rw [if_neg c2]
  by_cases c3 : v = 3
  · subst c3
    rw [if_pos rfl]
    exact fa_co h5 hs (by omega) (by omega) hb h3 h4
  rw [if_neg c3]
  have el : (if v = 1 then 4 else 5) = lav v := by unfold lav; by_cases z : v = 1; rw [if_pos z, if_pos (Or.inl z)]; rw [if_neg z, if_neg (by omega)]
  rw [el]
  obtain ⟨l1, l2, l3, l4, l5⟩ := lastp (v := v) (D := A) (sp_st (n := n) (fr := s) (set := X) (to := lav v) (m := 63) (A := A) h5 k) hs hb h3 h4
  exact ⟨⟨fun t ht hn => by
    rcases l1 t ht hn with g | g
    · exact Or.inl g
    · exact Or.inr ⟨g.1, Or.inl g.2⟩, Or.inl l2, l3, l4⟩, l5⟩
theorem q72 (w : WN n A) (q : QH n A) (ha : (s_72 n A s k).1 < 2147483648) : QH n (s_72 n A s k).2 ∧ Tr n A (s_72 n A s k).2 := by
  have h5 := w.1.2
  have hn := w.1.1
  have hf := w.f2
  have hb : ∀ s, s < n → A 0 s ≤ 5 := fun s hs => w.b0 (by omega)
  unfold s_72 at ha ⊢
  by_cases c0 : 2147483648 ≤ s
  · rw [if_pos c0] at ha; exact absurd ha (show ¬ (4294967294 : Nat) < 2147483648 by omega)
  rw [if_neg c0] at ha ⊢
  by_cases c1 : n ≤ s
  · rw [if_pos c1] at ha; exact absurd ha (show ¬ (4294967294 : Nat) < 2147483648 by omega)
  rw [if_neg c1] at ha ⊢
  by_cases c2 : isK k = 0
  · rw [if_pos c2] at ha; exact absurd ha (show ¬ (4294967293 : Nat) < 2147483648 by omega)
  rw [if_neg c2] at ha ⊢
  by_cases c3 : ¬ (A 1 s = 1)
  · rw [if_neg c3] at ha; exact absurd ha (show ¬ (4294967291 : Nat) < 2147483648 by omega)
  have c3 := Classical.not_not.mp c3
  rw [if_pos c3] at ha ⊢
  have hX : ∀ t, (s_69 n A 1 &&& s_74 n A (A 2 s)).testBit t = true → t < n ∧ A 1 t = 1 := fun t g => by
    rw [Nat.testBit_and, s69_t h5, s74_t h5] at g
    simp at g
    exact ⟨g.1.1, g.1.2⟩
  generalize s_69 n A 1 &&& s_74 n A (A 2 s) = X at ha hX ⊢
  by_cases c4 : ¬ (lw n X = s)
  · rw [if_neg c4] at ha; exact absurd ha (show ¬ (4294967291 : Nat) < 2147483648 by omega)
  have c4 := Classical.not_not.mp c4
  rw [if_pos c4] at ha ⊢
  by_cases c5 : ¬ (s_76 n A X = 0)
  · rw [if_neg c5] at ha; exact absurd ha (show ¬ (4294967291 : Nat) < 2147483648 by omega)
  have c5 := Classical.not_not.mp c5
  rw [if_pos c5] at ha ⊢
  have hv := s77_le n A X X
  by_cases c6 : s_77 n A X X = 4294967295
  · rw [if_pos c6] at ha; exact absurd ha (show ¬ (4294967292 : Nat) < 2147483648 by omega)
  rw [if_neg c6]
  clear ha
  show QH n (s_79 n A s X (s_77 n A X X) k) ∧ Tr n A (s_79 n A s X (s_77 n A X X) k)
  obtain ⟨v1, v2⟩ := v77 (n := n) (A := A) (X := X) h5 hb
  generalize s_77 n A X X = v at hv c6 v1 v2 ⊢
  have hs : s < n := by omega
  have hlow : X.testBit s = true ∧ ∀ t, t < s → X.testBit t = false := by
    rcases lw_or (x := X) h5 with g | g
    · rw [c4] at g; omega
    · rw [c4] at g; exact ⟨g.2.1, g.2.2⟩
  have l5 : lav v = 5 → v = 0 ∨ v = 3 := fun e => by clear v1 v2; unfold lav at e; split at e <;> omega
  obtain ⟨⟨f1, f2, f3, f4⟩, T⟩ := fa79 (n := n) (k := k) (s := s) (X := X) (v := v) (A := A) h5 hs (by clear v1 v2; omega) hb hf (fun e t ht hx => v2 (l5 e) t ht (by rcases hx with z | z; rw [z]; exact hlow.1; exact z))
  refine ⟨?_, T⟩
  generalize s_79 n A s X v k = B at f1 f2 f3 f4 T ⊢
  obtain ⟨q0, q1, q2, q3, q4, q5⟩ := q
  have phase : A 6 2 = 0 ∨ A 6 2 = 1 ∨ A 6 2 = 2 ∨ A 6 2 = 3 := by clear v1 v2; omega
  -- the two kinds of verdict
  have kind : ((v = 1 ∨ v = 2) ∧ lav v = 4 ∧ (∀ t, t < n → ¬ A 0 t = 0) ∧ (A 0 0 = 2 ∨ A 0 0 = 4 ∨ A 0 0 = 5)) ∨ ((v = 0 ∨ v = 3) ∧ lav v = 5) := by
    rcases (by clear v1 v2; omega : (v = 1 ∨ v = 2) ∨ (v = 0 ∨ v = 3)) with c | c
    · left
      obtain ⟨t, t1, t2, t3⟩ := v1 c
      clear v1 v2
      refine ⟨c, by unfold lav; rw [if_pos c], ?_, ?_⟩
      · rcases q5 with h | h
        · exact h
        · exact absurd t3 (by have := h t t1; omega)
      · have h00 := hb 0 (by omega)
        by_cases z : t = 0
        · rw [z] at t3; omega
        · have := q4 t (by omega) t1; omega
    · right
      refine ⟨c, ?_⟩
      unfold lav; rw [if_neg (by clear v1 v2; omega)]
  clear v1 v2
  unfold QH
  by_cases z : s = 0
  · subst z
    rw [if_pos rfl] at f4
    rw [f4]
    have h00 := hb 0 hs
    refine ⟨by omega, by omega, by omega, fun _ h1 => ?_, fun t h1 h2 => ?_, ?_⟩
    · rcases f2 with g | g
      · have := lav_or (v := v); omega
      · omega
    · have ft := f1 t h2 (by omega)
      have at' := q4 t h1 h2
      have ht := hb t h2
      rcases kind with ⟨k1, k2, k3, k4⟩ | ⟨k1, k2⟩
      · have := k3 t h2
        rcases ft with g | ⟨-, g⟩
        · omega
        · omega
      · rcases ft with g | ⟨-, g⟩
        · omega
        · omega
    · rcases kind with ⟨k1, k2, k3, k4⟩ | ⟨k1, k2⟩
      · refine Or.inl fun t ht => ?_
        by_cases y : t = 0
        · subst y; omega
        · have := f1 t ht y; have := k3 t ht; omega
      · rcases q5 with h | h
        · refine Or.inl fun t ht => ?_
          have := h t ht
          by_cases y : t = 0
          · subst y; omega
          · have := f1 t ht y; omega
        · refine Or.inr fun t ht => ?_
          have := h t ht
          by_cases y : t = 0
          · subst y; omega
          · have := f1 t ht y; omega
  · rw [if_neg z] at f4
    have x0 := hlow.2 0 (by omega)
    have e00 : B 0 0 = A 0 0 := by
      rcases f1 0 (by omega) (by omega) with g | ⟨g, -⟩
      · exact g
      · rw [x0] at g; exact absurd g (by decide)
    have e10 : B 1 0 = A 1 0 := f3 0 (by omega) (by omega)
    rw [f4, e00, e10]
    have all : ∀ t, t < n → B 0 t = A 0 t ∨ B 0 t = lav v ∨ (B 0 t = v ∧ 2 ≤ v) := fun t ht => by
      by_cases y : t = s
      · subst y
        rcases f2 with g | ⟨-, g2, g3, -⟩
        · exact Or.inr (Or.inl g)
        · rcases g3 with g3 | g3
          · exact Or.inl g3
          · exact Or.inr (Or.inr ⟨g3.1, g2⟩)
      · rcases f1 t ht y with g | ⟨-, g | g⟩
        · exact Or.inl g
        · exact Or.inr (Or.inl g)
        · exact Or.inr (Or.inr ⟨g.1, g.2.2⟩)
    refine ⟨q0, q1, q2, q3, fun t h1 h2 => ?_, ?_⟩
    · have ft := all t h2
      have at' := q4 t h1 h2
      have ht := hb t h2
      rcases kind with ⟨k1, k2, k3, k4⟩ | ⟨k1, k2⟩
      · have := k3 t h2; omega
      · omega
    · rcases kind with ⟨k1, k2, k3, k4⟩ | ⟨k1, k2⟩
      · exact Or.inl fun t ht => by have := all t ht; have := k3 t ht; omega
      · rcases q5 with h | h
        · exact Or.inl fun t ht => by have := all t ht; have := h t ht; omega
        · exact Or.inr fun t ht => by have := all t ht; have := h t ht; omega
end INW
