/-! the law's cases: going back -/
section LWB
variable {xs : Nat → Int32} {L s fd n k l : Nat} {A : HA} {M : a_Mm} {Q : Option Value → a_Hp → Prop}
theorem INV.back {M2 : a_Mm} {n nx sz f nx' sz' : Nat} {A B C D : HA} {x : Nat × HA} {U : Nat → Nat × HA} {gi : Nat → Nat} {xi : Nat → Nat × HA} {T ff : Nat → Nat} (I : INV M n A B nx sz U gi xi f T ff) (hx : NR x.1 x.2) (e1 : EQ C x.2) (r1 : RC M2 1 x.1 C) (p1 : PS M2 nx' sz' U) (e2 : EQ D x.2) (r2 : RM M2 x.1 D) (p2 : DS M2 sz' U) (hs : sz' ≤ sz) (g : ∀ o k, (o = 0 ∨ (120 ≤ o ∧ o < 170) ∨ (o = 170 ∧ 18 ≤ k) ∨ (o = 171 ∧ 216 ≤ k) ∨ 174 < o) → M2 o k = M o k) : INVE M2 := by
  have R := I.rest g
  have j3 := I.2.1.2.2
  exact ⟨x.1, C, D, nx', sz', U, gi, xi, f, T, ff, ⟨r1, r2, e1.trans e2.symm, NR.eq e1.symm hx⟩, ⟨p1, p2, fun i hi => j3 i (by omega)⟩, R⟩
theorem lw_1169 (hL : L ≤ 3072) (hs : s + 6 ≤ L) (I : INVE M) (K : ∀ M' fd', INVE M' → a_Ex 262 1261 [some (.ref (a_CB + 1000)), some (.ref 0), some (.ref 170), some (.int (N s))] [] (a_hp (L + 1, xs) fd' M') Q) : a_Ex 262 1169 [some (.ref (a_CB + 1000)), some (.ref 0), some (.ref 170), some (.int (N s))] [] (a_hp (L + 1, xs) fd M) Q := by
  obtain ⟨n, A, B, nx, sz, U, gi, xi, f, T, ff, I⟩ := I
  obtain ⟨⟨i1, i2, i3, i4⟩, ⟨j1, j2, j3⟩, k, ⟨l1, l2⟩, o, cm⟩ := id I
  by_cases c : 1 ≤ ax xs (s + 1) ∧ ax xs (s + 1) ≤ sz
  · refine x_aload_n i_262_1169 rfl ?_
    refine x_aload_n i_262_1170 rfl ?_
    refine x_iload_n i_262_1171 rfl ?_
    refine n_iconst 1 i_262_1172 rfl ?_
    refine x_iaddN i_262_1173 ?_
    refine n_ldL i_262_1174 (by omega) hL ?_
    refine x_vh (r := []) (lj := [some _, some _]) i_262_1175 w_41 ob_0 [_] rfl rfl (Nat.le_of_ble_eq_true rfl) (Nat.le_of_ble_eq_true rfl) rfl ?_
    refine d_41 i1 j1 (ax_lt _ _) (fun h => absurd c h) (fun _ M1 q1 p1 f1 => rt_i ?_)
    obtain ⟨C1, e1, r1⟩ := q1
    refine x_aload_n i_262_1178 rfl ?_
    refine x_aload_n i_262_1179 rfl ?_
    refine x_iload_n i_262_1180 rfl ?_
    refine n_iconst 1 i_262_1181 rfl ?_
    refine x_iaddN i_262_1182 ?_
    refine n_ldL i_262_1183 (by omega) hL ?_
    refine x_vh (r := [_]) (lj := [some _, some _]) i_262_1184 w_258 ob_170 [_] rfl rfl (Nat.le_of_ble_eq_true rfl) (Nat.le_of_ble_eq_true rfl) rfl ?_
    refine e_258 (i2.same (fun k _ => f1 _ _ (by omega) (by omega)) (fun k _ => f1 _ _ (by omega) (by omega))) (j2.same (fun k => f1 _ _ (by omega) (by omega)) (f1 _ _ (by omega) (by omega))) (ax_lt _ _) (fun h => absurd c h) (fun _ M2 D e2 r2 p2 f2 => rt_i ?_)
    refine x_ieq i_262_1187 ⟨fun g1 => ?_, fun g1 => ?_⟩
    · exact K _ _ (I.back (j3 _ (by omega)) e1 (r1.same (fun o k a b => f2 _ _ (by omega) (by omega))) (p1.same (fun o k a b => f2 _ _ (by omega) (by omega))) e2 r2 p2 (Nat.sub_le _ _) (fun o k h => (f2 _ _ (by omega) (by omega)).trans (f1 _ _ (by omega) (by omega))))
    · exact absurd rfl g1
  · refine x_aload_n i_262_1169 rfl ?_
    refine x_aload_n i_262_1170 rfl ?_
    refine x_iload_n i_262_1171 rfl ?_
    refine n_iconst 1 i_262_1172 rfl ?_
    refine x_iaddN i_262_1173 ?_
    refine n_ldL i_262_1174 (by omega) hL ?_
    refine x_vh (r := []) (lj := [some _, some _]) i_262_1175 w_41 ob_0 [_] rfl rfl (Nat.le_of_ble_eq_true rfl) (Nat.le_of_ble_eq_true rfl) rfl ?_
    refine d_41 i1 j1 (ax_lt _ _) (fun _ => rt_i ?_) (fun h => absurd h c)
    refine x_aload_n i_262_1178 rfl ?_
    refine x_aload_n i_262_1179 rfl ?_
    refine x_iload_n i_262_1180 rfl ?_
    refine n_iconst 1 i_262_1181 rfl ?_
    refine x_iaddN i_262_1182 ?_
    refine n_ldL i_262_1183 (by omega) hL ?_
    refine x_vh (r := [_]) (lj := [some _, some _]) i_262_1184 w_258 ob_170 [_] rfl rfl (Nat.le_of_ble_eq_true rfl) (Nat.le_of_ble_eq_true rfl) rfl ?_
    refine e_258 i2 j2 (ax_lt _ _) (fun _ M2 r2 p2 f2 => rt_i ?_) (fun h => absurd h c)
    refine x_ieq i_262_1187 ⟨fun g1 => ?_, fun g1 => ?_⟩
    · exact K _ _ (I.read2 r2 (i3.r 9 0 0 (Or.inl (Nat.le_refl _))) (fun o k h => f2 _ _ (by omega)))
    · exact absurd rfl g1
theorem lw_1215 (hL : L ≤ 3072) (hs : s + 6 ≤ L) (I : INVE M) (K : ∀ M' fd', INVE M' → a_Ex 262 1261 [some (.ref (a_CB + 1000)), some (.ref 0), some (.ref 170), some (.int (N s))] [] (a_hp (L + 1, xs) fd' M') Q) : a_Ex 262 1215 [some (.ref (a_CB + 1000)), some (.ref 0), some (.ref 170), some (.int (N s))] [] (a_hp (L + 1, xs) fd M) Q := by
  obtain ⟨n, A, B, nx, sz, U, gi, xi, f, T, ff, I⟩ := I
  obtain ⟨⟨i1, i2, i3, i4⟩, ⟨j1, j2, j3⟩, k, ⟨l1, l2⟩, o, cm⟩ := id I
  have hic : ax xs (s + 1) < 2 → IC M (ax xs (s + 1)) (gi (ax xs (s + 1))) (xi (ax xs (s + 1))) := fun h => (k _ h).1
  have hir : ax xs (s + 1) < 2 → IR M (ax xs (s + 1)) (gi (ax xs (s + 1))) (xi (ax xs (s + 1))) := fun h => (k _ h).2.1
  by_cases c : ax xs (s + 1) < 2
  · have hk := k _ c
    have hg := hk.1.2.1
    by_cases c1 : gi (ax xs (s + 1)) = 1
    · refine x_aload_n i_262_1215 rfl ?_
      refine x_aload_n i_262_1216 rfl ?_
      refine x_iload_n i_262_1217 rfl ?_
      refine n_iconst 1 i_262_1218 rfl ?_
      refine x_iaddN i_262_1219 ?_
      refine n_ldL i_262_1220 (by omega) hL ?_
      refine x_vh (r := []) (lj := [some _, some _]) i_262_1221 w_43 ob_0 [_] rfl rfl (Nat.le_of_ble_eq_true rfl) (Nat.le_of_ble_eq_true rfl) rfl ?_
      refine d_43 (sz := sz) i1 (U := U) (ax_lt _ _) hic j1.1 j1.2.2.1 (fun h => absurd c h) (fun _ h => absurd h (by omega)) (fun _ _ M1 q1 p1 f1 => rt_i ?_)
      obtain ⟨C1, e1, r1⟩ := q1
      refine x_aload_n i_262_1224 rfl ?_
      refine x_aload_n i_262_1225 rfl ?_
      refine x_iload_n i_262_1226 rfl ?_
      refine n_iconst 1 i_262_1227 rfl ?_
      refine x_iaddN i_262_1228 ?_
      refine n_ldL i_262_1229 (by omega) hL ?_
      refine x_vh (r := [_]) (lj := [some _, some _]) i_262_1230 w_260 ob_170 [_] rfl rfl (Nat.le_of_ble_eq_true rfl) (Nat.le_of_ble_eq_true rfl) rfl ?_
      refine e_260 (U := U) (i2.same (fun k _ => f1 _ _ (by omega) (by omega)) (fun k _ => f1 _ _ (by omega) (by omega))) ⟨_, (f1 _ _ (by omega) (by omega)).trans j2.1⟩ (ax_lt _ _) (fun h => (hir h).same (fun k => f1 _ _ (by omega) (by omega)) (fun k _ => f1 _ _ (by omega) (by omega))) (fun h => absurd c h) (fun _ h => absurd h (by omega)) (fun _ _ M2 D e2 r2 p2 f2 => rt_i ?_)
      refine x_ieq i_262_1233 ⟨fun g1 => ?_, fun g1 => ?_⟩
      · exact K _ _ (I.back (hk.2.2 c1) e1 (r1.same (fun o k a b => f2 _ _ (by omega) (by omega))) (p1.same (fun o k a b => f2 _ _ (by omega) (by omega))) e2 r2 p2 (Nat.zero_le _) (fun o k h => (f2 _ _ (by omega) (by omega)).trans (f1 _ _ (by omega) (by omega))))
      · exact absurd rfl g1
    · refine x_aload_n i_262_1215 rfl ?_
      refine x_aload_n i_262_1216 rfl ?_
      refine x_iload_n i_262_1217 rfl ?_
      refine n_iconst 1 i_262_1218 rfl ?_
      refine x_iaddN i_262_1219 ?_
      refine n_ldL i_262_1220 (by omega) hL ?_
      refine x_vh (r := []) (lj := [some _, some _]) i_262_1221 w_43 ob_0 [_] rfl rfl (Nat.le_of_ble_eq_true rfl) (Nat.le_of_ble_eq_true rfl) rfl ?_
      refine d_43 (sz := sz) i1 (U := U) (ax_lt _ _) hic j1.1 j1.2.2.1 (fun h => absurd c h) (fun _ _ => rt_i ?_) (fun _ h => absurd h c1)
      refine x_aload_n i_262_1224 rfl ?_
      refine x_aload_n i_262_1225 rfl ?_
      refine x_iload_n i_262_1226 rfl ?_
      refine n_iconst 1 i_262_1227 rfl ?_
      refine x_iaddN i_262_1228 ?_
      refine n_ldL i_262_1229 (by omega) hL ?_
      refine x_vh (r := [_]) (lj := [some _, some _]) i_262_1230 w_260 ob_170 [_] rfl rfl (Nat.le_of_ble_eq_true rfl) (Nat.le_of_ble_eq_true rfl) rfl ?_
      refine e_260 (U := U) i2 ⟨_, j2.1⟩ (ax_lt _ _) hir (fun h => absurd c h) (fun _ _ M2 r2 f2 => rt_i ?_) (fun _ h => absurd h c1)
      refine x_ieq i_262_1233 ⟨fun g1 => ?_, fun g1 => ?_⟩
      · exact K _ _ (I.read2 r2 (i3.r 9 0 0 (Or.inl (Nat.le_refl _))) (fun o k h => f2 _ _ (by omega)))
      · exact absurd rfl g1
  · refine x_aload_n i_262_1215 rfl ?_
    refine x_aload_n i_262_1216 rfl ?_
    refine x_iload_n i_262_1217 rfl ?_
    refine n_iconst 1 i_262_1218 rfl ?_
    refine x_iaddN i_262_1219 ?_
    refine n_ldL i_262_1220 (by omega) hL ?_
    refine x_vh (r := []) (lj := [some _, some _]) i_262_1221 w_43 ob_0 [_] rfl rfl (Nat.le_of_ble_eq_true rfl) (Nat.le_of_ble_eq_true rfl) rfl ?_
    refine d_43 (sz := sz) i1 (U := U) (ax_lt _ _) hic j1.1 j1.2.2.1 (fun _ => rt_i ?_) (fun h => absurd h c) (fun h => absurd h c)
    refine x_aload_n i_262_1224 rfl ?_
    refine x_aload_n i_262_1225 rfl ?_
    refine x_iload_n i_262_1226 rfl ?_
    refine n_iconst 1 i_262_1227 rfl ?_
    refine x_iaddN i_262_1228 ?_
    refine n_ldL i_262_1229 (by omega) hL ?_
    refine x_vh (r := [_]) (lj := [some _, some _]) i_262_1230 w_260 ob_170 [_] rfl rfl (Nat.le_of_ble_eq_true rfl) (Nat.le_of_ble_eq_true rfl) rfl ?_
    refine e_260 (U := U) i2 ⟨_, j2.1⟩ (ax_lt _ _) hir (fun _ M2 r2 f2 => rt_i ?_) (fun h => absurd h c) (fun h => absurd h c)
    refine x_ieq i_262_1233 ⟨fun g1 => ?_, fun g1 => ?_⟩
    · exact K _ _ (I.read2 r2 (i3.r 9 0 0 (Or.inl (Nat.le_refl _))) (fun o k h => f2 _ _ (by omega)))
    · exact absurd rfl g1
end LWB
