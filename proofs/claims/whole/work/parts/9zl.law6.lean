/-! the law's cases: the image -/
section LWI
variable {xs : Nat → Int32} {L s fd n k l : Nat} {A : HA} {M : a_Mm} {Q : Option Value → a_Hp → Prop}
theorem INV.img {M1 M2 : a_Mm} {n nx sz f l : Nat} {A B B' : HA} {U : Nat → Nat × HA} {gi : Nat → Nat} {xi : Nat → Nat × HA} {T ff : Nat → Nat} (I : INV M n A B nx sz U gi xi f T ff) (hl : l < 2) (t1 : IC M1 l 1 (n, A)) (f1 : ∀ o k, (o < 121 + 9 * l ∨ 121 + 9 * l + 9 ≤ o) → ¬ (o = 139 ∧ k = l) → M1 o k = M o k) (r2 : RM M2 n B') (e : EQ B B') (t2 : IR M2 l 1 (n, B)) (f2 : ∀ o k, ¬ (o = 170 ∧ k = 0) → ¬ (o = 175 ∧ k = l) → ¬ (o = 171 ∧ 216 * (l + 1) ≤ k ∧ k < 216 * (l + 1) + 216) → M2 o k = M1 o k) : INVE M2 := by
  obtain ⟨⟨i1, i2, i3, i4⟩, ⟨j1, j2, j3⟩, k, ⟨l1, l2⟩, o, c⟩ := I
  have g : ∀ o k, (o < 121 + 9 * l ∨ 121 + 9 * l + 9 ≤ o) → ¬ (o = 139 ∧ k = l) → ¬ (o = 170 ∧ k = 0) → ¬ (o = 175 ∧ k = l) → ¬ (o = 171 ∧ 216 * (l + 1) ≤ k ∧ k < 216 * (l + 1) + 216) → M2 o k = M o k := fun o k a b p q w => (f2 o k p q w).trans (f1 o k a b)
  refine ⟨n, A, B', nx, sz, U, fun i => if i = l then 1 else gi i, fun i => if i = l then (n, A) else xi i, f, T, ff, ⟨i1.same (fun o k a b => g _ _ (by omega) (by omega) (by omega) (by omega) (by omega)), r2, i3.trans e, i4⟩, ⟨j1.same (fun o k a b => g _ _ (by omega) (by omega) (by omega) (by omega) (by omega)), j2.same (fun k => g _ _ (by omega) (by omega) (by omega) (by omega) (by omega)) (g _ _ (by omega) (by omega) (by omega) (by omega) (by omega)), j3⟩, fun i hi => ?_, ⟨l1.same (g _ _ (by omega) (by omega) (by omega) (by omega) (by omega)) (fun k => g _ _ (by omega) (by omega) (by omega) (by omega) (by omega)), l2.same (g _ _ (by omega) (by omega) (by omega) (by omega) (by omega)) (fun k => g _ _ (by omega) (by omega) (by omega) (by omega) (by omega))⟩, fun j hj => ?_, c.same (fun q k a b => g _ _ (by omega) (by omega) (by omega) (by omega) (by omega))⟩
  · dsimp only
    by_cases y : i = l
    · rw [if_pos y, if_pos y, y]
      refine ⟨t1.same hl (fun o k a b => f2 _ _ (by omega) (by omega) (by omega)), ⟨t2.1, t2.2.1, fun hg => (t2.2.2 hg).eq i3.symm⟩, fun _ => i4⟩
    · rw [if_neg y, if_neg y]
      obtain ⟨k1, k2, k3⟩ := k i hi
      refine ⟨⟨(g _ _ (by omega) (by omega) (by omega) (by omega) (by omega)).trans k1.1, k1.2.1, fun hg => ?_⟩, ⟨(g _ _ (by omega) (by omega) (by omega) (by omega) (by omega)).trans k2.1, k2.2.1, fun hg => ?_⟩, k3⟩
      · obtain ⟨C, c1, c2⟩ := k1.2.2 hg
        exact ⟨C, c1, c2.same (fun o k q1 q2 => g _ _ (by omega) (by omega) (by omega) (by omega) (by omega))⟩
      · exact (k2.2.2 hg).congr (fun k hk => g _ _ (by omega) (by omega) (by omega) (by omega) (by omega))
  · obtain ⟨o1, o2, o3⟩ := o j hj
    exact ⟨(g _ _ (by omega) (by omega) (by omega) (by omega) (by omega)).trans o1, (g _ _ (by omega) (by omega) (by omega) (by omega) (by omega)).trans o2, o3⟩
theorem lw_1192 (hL : L ≤ 3072) (hs : s + 6 ≤ L) (I : INVE M) (K : ∀ M' fd', INVE M' → a_Ex 262 1261 [some (.ref (a_CB + 1000)), some (.ref 0), some (.ref 170), some (.int (N s))] [] (a_hp (L + 1, xs) fd' M') Q) : a_Ex 262 1192 [some (.ref (a_CB + 1000)), some (.ref 0), some (.ref 170), some (.int (N s))] [] (a_hp (L + 1, xs) fd M) Q := by
  obtain ⟨n, A, B, nx, sz, U, gi, xi, f, T, ff, I⟩ := I
  obtain ⟨⟨i1, i2, i3, i4⟩, ⟨j1, j2, j3⟩, k, ⟨l1, l2⟩, o, cm⟩ := id I
  by_cases c : ax xs (s + 1) < 2
  · refine x_aload_n i_262_1192 rfl ?_
    refine x_aload_n i_262_1193 rfl ?_
    refine x_iload_n i_262_1194 rfl ?_
    refine n_iconst 1 i_262_1195 rfl ?_
    refine x_iaddN i_262_1196 ?_
    refine n_ldL i_262_1197 (by omega) hL ?_
    refine x_vh (r := []) (lj := [some _, some _]) i_262_1198 w_42 ob_0 [_] rfl rfl (Nat.le_of_ble_eq_true rfl) (Nat.le_of_ble_eq_true rfl) rfl ?_
    refine d_42 i1 (ax_lt _ _) (fun h => absurd c h) (fun _ M1 t1 f1 => rt_i ?_)
    refine x_aload_n i_262_1201 rfl ?_
    refine x_aload_n i_262_1202 rfl ?_
    refine x_iload_n i_262_1203 rfl ?_
    refine n_iconst 1 i_262_1204 rfl ?_
    refine x_iaddN i_262_1205 ?_
    refine n_ldL i_262_1206 (by omega) hL ?_
    refine x_vh (r := [_]) (lj := [some _, some _]) i_262_1207 w_259 ob_170 [_] rfl rfl (Nat.le_of_ble_eq_true rfl) (Nat.le_of_ble_eq_true rfl) rfl ?_
    refine e_259 (i2.same (fun k _ => f1 _ _ (by omega) (by omega)) (fun k _ => f1 _ _ (by omega) (by omega))) (ax_lt _ _) (fun h => absurd c h) (fun _ M2 r2 t2 f2 => rt_i ?_)
    refine x_ieq i_262_1210 ⟨fun g1 => ?_, fun g1 => ?_⟩
    · exact K _ _ (I.img c t1 f1 r2 ((EQ.refl B).r 9 0 0 (Or.inl (Nat.le_refl _))) t2 f2)
    · exact absurd rfl g1
  · refine x_aload_n i_262_1192 rfl ?_
    refine x_aload_n i_262_1193 rfl ?_
    refine x_iload_n i_262_1194 rfl ?_
    refine n_iconst 1 i_262_1195 rfl ?_
    refine x_iaddN i_262_1196 ?_
    refine n_ldL i_262_1197 (by omega) hL ?_
    refine x_vh (r := []) (lj := [some _, some _]) i_262_1198 w_42 ob_0 [_] rfl rfl (Nat.le_of_ble_eq_true rfl) (Nat.le_of_ble_eq_true rfl) rfl ?_
    refine d_42 i1 (ax_lt _ _) (fun _ => rt_i ?_) (fun h => absurd h c)
    refine x_aload_n i_262_1201 rfl ?_
    refine x_aload_n i_262_1202 rfl ?_
    refine x_iload_n i_262_1203 rfl ?_
    refine n_iconst 1 i_262_1204 rfl ?_
    refine x_iaddN i_262_1205 ?_
    refine n_ldL i_262_1206 (by omega) hL ?_
    refine x_vh (r := [_]) (lj := [some _, some _]) i_262_1207 w_259 ob_170 [_] rfl rfl (Nat.le_of_ble_eq_true rfl) (Nat.le_of_ble_eq_true rfl) rfl ?_
    refine e_259 i2 (ax_lt _ _) (fun _ M2 r2 f2 => rt_i ?_) (fun h => absurd h c)
    refine x_ieq i_262_1210 ⟨fun g1 => ?_, fun g1 => ?_⟩
    · exact K _ _ (I.read2 r2 (i3.r 9 0 0 (Or.inl (Nat.le_refl _))) f2)
    · exact absurd rfl g1
end LWI
