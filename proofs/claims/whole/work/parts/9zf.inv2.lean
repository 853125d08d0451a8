/-! what holds between two calls: a telling call keeps it -/
def INVE (M : a_Mm) : Prop := ∃ n A B nx sz U gi xi f T ff, INV M n A B nx sz U gi xi f T ff
section IVT
variable {M M1 M2 : a_Mm} {n m nx sz f v : Nat} {A B A' B' : HA} {U : Nat → Nat × HA} {gi : Nat → Nat} {xi : Nat → Nat × HA} {T ff : Nat → Nat}
/-- behind a call of the class that changes its hall and its past alone -/
theorem INV.mid (I : INV M n A B nx sz U gi xi f T ff) (f1 : FP M M1) : RM M1 n B ∧ DS M1 sz U := by
  obtain ⟨⟨i1, i2, i3, i4⟩, ⟨j1, j2, j3⟩, k, l, o, c⟩ := I
  exact ⟨i2.same (fun k _ => f1 _ _ (by omega)) (fun k _ => f1 _ _ (by omega)), j2.same (fun k => f1 _ _ (by omega)) (f1 _ _ (by omega))⟩
/-- what neither of two calls touches -/
theorem INV.rest (I : INV M n A B nx sz U gi xi f T ff) (g : ∀ o k, (o = 0 ∨ (120 ≤ o ∧ o < 170) ∨ (o = 170 ∧ 18 ≤ k) ∨ (o = 171 ∧ 216 ≤ k) ∨ 174 < o) → M2 o k = M o k) : (∀ i, i < 2 → IC M2 i (gi i) (xi i) ∧ IR M2 i (gi i) (xi i) ∧ (gi i = 1 → NR (xi i).1 (xi i).2)) ∧ (TC M2 f T ∧ TR M2 f T) ∧ (∀ j, j < 3 → M2 141 (4 + j) = N (ff j) ∧ M2 170 (21 + j) = N (ff j) ∧ ff j < 4294967296) ∧ CM M2 := by
  obtain ⟨-, -, k, ⟨l1, l2⟩, o, c⟩ := I
  refine ⟨fun i hi => ?_, ⟨l1.same (g _ _ (by omega)) (fun k => g _ _ (by omega)), l2.same (g _ _ (by omega)) (fun k => g _ _ (by omega))⟩, fun j hj => ?_, c.same (fun q k a b => g _ _ (by omega))⟩
  · obtain ⟨k1, k2, k3⟩ := k i hi
    exact ⟨k1.same hi (fun o k a b => g _ _ (by omega)), k2.same (fun k => g _ _ (by omega)) (fun k a => g _ _ (by omega)), k3⟩
  · obtain ⟨o1, o2, o3⟩ := o j hj
    exact ⟨(g _ _ (by omega)).trans o1, (g _ _ (by omega)).trans o2, o3⟩
/-- a telling call of each -/
theorem INV.tell (I : INV M n A B nx sz U gi xi f T ff) (r1 : RC M1 1 m A') (p1 : if v < 2147483648 then PS M1 ((nx + 1) % 11) (pss sz) (psh U sz (n, A)) else PS M1 nx sz U) (f1 : FP M M1) (r2 : RM M2 m B') (d2 : if v < 2147483648 then DS M2 (pss sz) (psh U sz (n, B)) else DS M2 sz U) (f2 : FQ M1 M2) (e : EQ A' B') (q : NR m A') : INVE M2 := by
  have R := I.rest (M2 := M2) (fun o k h => (f2 o k (by omega)).trans (f1 o k (by omega)))
  obtain ⟨⟨i1, i2, i3, i4⟩, ⟨j1, j2, j3⟩, -⟩ := I
  have hs : sz ≤ 10 := j2.2.1
  have rc : RC M2 1 m A' := r1.same (fun o k a b => f2 _ _ (by omega))
  by_cases c : v < 2147483648
  · rw [if_pos c] at p1 d2
    exact ⟨m, A', B', _, _, _, gi, xi, f, T, ff, ⟨rc, r2, e, q⟩, ⟨p1.same (fun o k a b => f2 _ _ (by omega)), d2.eq (fun i hi => ⟨(psh_eq i3 i hi).1.symm, (psh_eq (U := U) i3 i hi).2.symm⟩), psh_nr j3 hs i4⟩, R⟩
  · rw [if_neg c] at p1 d2
    exact ⟨m, A', B', _, _, _, gi, xi, f, T, ff, ⟨rc, r2, e, q⟩, ⟨p1.same (fun o k a b => f2 _ _ (by omega)), d2, j3⟩, R⟩
/-- calls that tell nothing: the halls stay the same -/
theorem INV.keep (I : INV M n A B nx sz U gi xi f T ff) (g1 : ∀ o k, o < 120 → M2 o k = M o k) (r2 : RM M2 n B') (e : EQ B B') (g2 : ∀ o k, (120 ≤ o ∧ o < 148) ∨ (o = 170 ∧ (k = 5 ∨ 18 ≤ k)) ∨ (o = 171 ∧ 216 ≤ k) ∨ o = 172 ∨ o = 175 ∨ o = 181 → ¬ (o = 147) → M2 o k = M o k) (c : CM M2) : INVE M2 := by
  obtain ⟨⟨i1, i2, i3, i4⟩, ⟨j1, j2, j3⟩, k, ⟨l1, l2⟩, o, -⟩ := I
  refine ⟨n, A, B', nx, sz, U, gi, xi, f, T, ff, ⟨i1.same (fun o k a b => g1 _ _ (by omega)), r2, i3.trans e, i4⟩, ⟨j1.same (fun o k a b => g1 _ _ (by omega)), j2.same (fun k => g2 _ _ (by omega) (by omega)) (g2 _ _ (by omega) (by omega)), j3⟩, fun i hi => ?_, ⟨l1.same (g1 _ _ (by omega)) (fun k => g2 _ _ (by omega) (by omega)), l2.same (g2 _ _ (by omega) (by omega)) (fun k => g2 _ _ (by omega) (by omega))⟩, fun j hj => ?_, c⟩
  · obtain ⟨k1, k2, k3⟩ := k i hi
    exact ⟨k1.same hi (fun o k a b => g2 _ _ (by omega) (by omega)), k2.same (fun k => g2 _ _ (by omega) (by omega)) (fun k a => g2 _ _ (by omega) (by omega)), k3⟩
  · obtain ⟨o1, o2, o3⟩ := o j hj
    exact ⟨(g2 _ _ (by omega) (by omega)).trans o1, (g2 _ _ (by omega) (by omega)).trans o2, o3⟩
end IVT
