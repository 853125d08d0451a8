/-! the law's cases: ends -/
section LWE
variable {xs : Nat → Int32} {L s fd n k l : Nat} {A : HA} {M : a_Mm} {Q : Option Value → a_Hp → Prop}
theorem INV.fr10 {M2 : a_Mm} {n nx sz f : Nat} {A B D : HA} {U : Nat → Nat × HA} {gi : Nat → Nat} {xi : Nat → Nat × HA} {T ff : Nat → Nat} (I : INV M n A B nx sz U gi xi f T ff) (r2 : RM M2 n D) (e : EQ A D) (g : ∀ o k, (o < 10 ∨ (19 ≤ o ∧ o < 146) ∨ (146 < o ∧ o < 170) ∨ (o = 170 ∧ (k = 5 ∨ 18 ≤ k)) ∨ (o = 171 ∧ 216 ≤ k) ∨ o = 172 ∨ 174 < o) → M2 o k = M o k) : INVE M2 := by
  obtain ⟨⟨i1, i2, i3, i4⟩, ⟨j1, j2, j3⟩, k, ⟨l1, l2⟩, o, c⟩ := I
  refine ⟨n, A, D, nx, sz, U, gi, xi, f, T, ff, ⟨i1.same (fun o k a b => g _ _ (by omega)), r2, e, i4⟩, ⟨j1.same (fun o k a b => g _ _ (by omega)), j2.same (fun k => g _ _ (by omega)) (g _ _ (by omega)), j3⟩, fun i hi => ?_, ⟨l1.same (g _ _ (by omega)) (fun k => g _ _ (by omega)), l2.same (g _ _ (by omega)) (fun k => g _ _ (by omega))⟩, fun j hj => ?_, c.same (fun q k a b => g _ _ (by omega))⟩
  · obtain ⟨k1, k2, k3⟩ := k i hi
    exact ⟨k1.same hi (fun o k a b => g _ _ (by omega)), k2.same (fun k => g _ _ (by omega)) (fun k a => g _ _ (by omega)), k3⟩
  · obtain ⟨o1, o2, o3⟩ := o j hj
    exact ⟨(g _ _ (by omega)).trans o1, (g _ _ (by omega)).trans o2, o3⟩
end LWE
