/-! the law's cases: counting, feeding -/
section LWV
variable {xs : Nat → Int32} {L s fd n k l : Nat} {A : HA} {M : a_Mm} {Q : Option Value → a_Hp → Prop}
/-- the tape grows -/
theorem INV.feed {M1 M2 : a_Mm} {n nx sz f f' : Nat} {A B B' : HA} {U : Nat → Nat × HA} {gi : Nat → Nat} {xi : Nat → Nat × HA} {T T' ff : Nat → Nat} (I : INV M n A B nx sz U gi xi f T ff) (t1 : TC M1 f' T') (f1 : FD M M1) (r2 : RM M2 n B') (e : EQ B B') (t2 : TR M2 f' T') (f2 : FE M1 M2) : INVE M2 := by
  have g : ∀ o k, ¬ o = 140 → ¬ o = 181 → ¬ (o = 0 ∧ k = 6) → ¬ (o = 170 ∧ (k = 0 ∨ k = 18)) → M2 o k = M o k := fun o k a b c d => (f2 o k b d).trans (f1 o k a c)
  obtain ⟨⟨i1, i2, i3, i4⟩, ⟨j1, j2, j3⟩, k, -, o, c⟩ := I
  refine ⟨n, A, B', nx, sz, U, gi, xi, f', T', ff, ⟨i1.same (fun o k a b => g _ _ (by omega) (by omega) (by omega) (by omega)), r2, i3.trans e, i4⟩, ⟨j1.same (fun o k a b => g _ _ (by omega) (by omega) (by omega) (by omega)), j2.same (fun k => g _ _ (by omega) (by omega) (by omega) (by omega)) (g _ _ (by omega) (by omega) (by omega) (by omega)), j3⟩, fun i hi => ?_, ⟨t1.same (f2 _ _ (by omega) (by omega)) (fun k => f2 _ _ (by omega) (by omega)), t2⟩, fun j hj => ?_, c.same (fun q k a b => g _ _ (by omega) (by omega) (by omega) (by omega))⟩
  · obtain ⟨k1, k2, k3⟩ := k i hi
    refine ⟨⟨(g _ _ (by omega) (by omega) (by omega) (by omega)).trans k1.1, k1.2.1, fun hg => ?_⟩, k2.same (fun k => g _ _ (by omega) (by omega) (by omega) (by omega)) (fun k a => g _ _ (by omega) (by omega) (by omega) (by omega)), k3⟩
    obtain ⟨C, c1, c2⟩ := k1.2.2 hg
    exact ⟨C, c1, c2.same (fun o k q1 q2 => g _ _ (by omega) (by omega) (by omega) (by omega))⟩
  · obtain ⟨o1, o2, o3⟩ := o j hj
    exact ⟨(g _ _ (by omega) (by omega) (by omega) (by omega)).trans o1, (g _ _ (by omega) (by omega) (by omega) (by omega)).trans o2, o3⟩
theorem lw_1238 (hL : L ≤ 3072) (hs : s + 6 ≤ L) (I : INVE M) (K : ∀ M' fd', INVE M' → a_Ex 262 1261 [some (.ref (a_CB + 1000)), some (.ref 0), some (.ref 170), some (.int (N s))] [] (a_hp (L + 1, xs) fd' M') Q) : a_Ex 262 1238 [some (.ref (a_CB + 1000)), some (.ref 0), some (.ref 170), some (.int (N s))] [] (a_hp (L + 1, xs) fd M) Q := by
  obtain ⟨n, A, B, nx, sz, U, gi, xi, f, T, ff, I⟩ := I
  obtain ⟨⟨i1, i2, i3, i4⟩, ⟨j1, j2, j3⟩, k, ⟨l1, l2⟩, o, cm⟩ := id I
  refine x_aload_n i_262_1238 rfl ?_
  refine x_aload_n i_262_1239 rfl ?_
  refine x_iload_n i_262_1240 rfl ?_
  refine n_iconst 1 i_262_1241 rfl ?_
  refine x_iaddN i_262_1242 ?_
  refine n_ldL i_262_1243 (by omega) hL ?_
  refine x_vh (r := []) (lj := [some _, some _]) i_262_1244 w_44 ob_0 [_] rfl rfl (Nat.le_of_ble_eq_true rfl) (Nat.le_of_ble_eq_true rfl) rfl ?_
  refine d_44 (l1 := ax xs (s + 1)) i1 j1.2.1 l1.2.1 (ax_lt _ _) (rt_i ?_)
  refine x_aload_n i_262_1247 rfl ?_
  refine x_aload_n i_262_1248 rfl ?_
  refine x_iload_n i_262_1249 rfl ?_
  refine n_iconst 1 i_262_1250 rfl ?_
  refine x_iaddN i_262_1251 ?_
  refine n_ldL i_262_1252 (by omega) hL ?_
  refine x_vh (r := [_]) (lj := [some _, some _]) i_262_1253 w_261 ob_170 [_] rfl rfl (Nat.le_of_ble_eq_true rfl) (Nat.le_of_ble_eq_true rfl) rfl ?_
  refine e_261 (l1 := ax xs (s + 1)) i2 j2.1 l2.2.1 (ax_lt _ _) (fun M2 r2 f2 => rt_i ?_)
  rw [cnt_eq i3]
  refine x_ieq i_262_1256 ⟨fun g1 => ?_, fun g1 => ?_⟩
  · exact K _ _ (I.read2 r2 (i3.r 9 0 0 (Or.inl (Nat.le_refl _))) f2)
  · exact absurd rfl g1
theorem lw_1014 (hL : L ≤ 3072) (hs : s + 6 ≤ L) (I : INVE M) (K : ∀ M' fd', INVE M' → a_Ex 262 1261 [some (.ref (a_CB + 1000)), some (.ref 0), some (.ref 170), some (.int (N s))] [] (a_hp (L + 1, xs) fd' M') Q) : a_Ex 262 1014 [some (.ref (a_CB + 1000)), some (.ref 0), some (.ref 170), some (.int (N s))] [] (a_hp (L + 1, xs) fd M) Q := by
  obtain ⟨n, A, B, nx, sz, U, gi, xi, f, T, ff, I⟩ := I
  obtain ⟨⟨i1, i2, i3, i4⟩, ⟨j1, j2, j3⟩, k, ⟨l1, l2⟩, o, cm⟩ := id I
  by_cases c : f + 20 ≤ 200
  · refine x_aload_n i_262_1014 rfl ?_
    refine x_aload_n i_262_1015 rfl ?_
    refine x_iload_n i_262_1016 rfl ?_
    refine n_iconst 1 i_262_1017 rfl ?_
    refine x_iaddN i_262_1018 ?_
    refine n_ldL i_262_1019 (by omega) hL ?_
    refine x_aload_n i_262_1020 rfl ?_
    refine x_iload_n i_262_1021 rfl ?_
    refine n_iconst 2 i_262_1022 rfl ?_
    refine x_iaddN i_262_1023 ?_
    refine n_ldL i_262_1024 (by omega) hL ?_
    refine x_aload_n i_262_1025 rfl ?_
    refine x_iload_n i_262_1026 rfl ?_
    refine n_iconst 3 i_262_1027 rfl ?_
    refine x_iaddN i_262_1028 ?_
    refine n_ldL i_262_1029 (by omega) hL ?_
    refine x_aload_n i_262_1030 rfl ?_
    refine x_iload_n i_262_1031 rfl ?_
    refine n_iconst 4 i_262_1032 rfl ?_
    refine x_iaddN i_262_1033 ?_
    refine n_ldL i_262_1034 (by omega) hL ?_
    refine x_aload_n i_262_1035 rfl ?_
    refine x_iload_n i_262_1036 rfl ?_
    refine n_iconst 5 i_262_1037 rfl ?_
    refine x_iaddN i_262_1038 ?_
    refine n_ldL i_262_1039 (by omega) hL ?_
    refine x_vh (r := []) (lj := [some _, some _, some _, some _, some _, some _]) i_262_1040 w_33 ob_0 [_, _, _, _, _] rfl rfl (Nat.le_of_ble_eq_true rfl) (Nat.le_of_ble_eq_true rfl) rfl ?_
    refine d_33 l1 (fun h => absurd c h) (fun _ M1 t1 f1 => rt_i ?_)
    refine x_aload_n i_262_1043 rfl ?_
    refine x_aload_n i_262_1044 rfl ?_
    refine x_iload_n i_262_1045 rfl ?_
    refine n_iconst 1 i_262_1046 rfl ?_
    refine x_iaddN i_262_1047 ?_
    refine n_ldL i_262_1048 (by omega) hL ?_
    refine x_aload_n i_262_1049 rfl ?_
    refine x_iload_n i_262_1050 rfl ?_
    refine n_iconst 2 i_262_1051 rfl ?_
    refine x_iaddN i_262_1052 ?_
    refine n_ldL i_262_1053 (by omega) hL ?_
    refine x_aload_n i_262_1054 rfl ?_
    refine x_iload_n i_262_1055 rfl ?_
    refine n_iconst 3 i_262_1056 rfl ?_
    refine x_iaddN i_262_1057 ?_
    refine n_ldL i_262_1058 (by omega) hL ?_
    refine x_aload_n i_262_1059 rfl ?_
    refine x_iload_n i_262_1060 rfl ?_
    refine n_iconst 4 i_262_1061 rfl ?_
    refine x_iaddN i_262_1062 ?_
    refine n_ldL i_262_1063 (by omega) hL ?_
    refine x_aload_n i_262_1064 rfl ?_
    refine x_iload_n i_262_1065 rfl ?_
    refine n_iconst 5 i_262_1066 rfl ?_
    refine x_iaddN i_262_1067 ?_
    refine n_ldL i_262_1068 (by omega) hL ?_
    refine x_vh (r := [_]) (lj := [some _, some _, some _, some _, some _, some _, none, none]) i_262_1069 w_239 ob_170 [_, _, _, _, _] rfl rfl (Nat.le_of_ble_eq_true rfl) (Nat.le_of_ble_eq_true rfl) rfl ?_
    refine e_239 (i2.same (fun k _ => f1 _ _ (by omega) (by omega)) (fun k _ => f1 _ _ (by omega) (by omega))) (l2.same (f1 _ _ (by omega) (by omega)) (fun k => f1 _ _ (by omega) (by omega))) (fun h => absurd c h) (fun _ M2 r2 t2 f2 => rt_i ?_)
    refine x_ieq i_262_1072 ⟨fun g1 => ?_, fun g1 => ?_⟩
    · exact K _ _ (I.feed t1 f1 r2 ((EQ.refl B).r 9 0 0 (Or.inl (Nat.le_refl _))) t2 f2)
    · exact absurd rfl g1
  · refine x_aload_n i_262_1014 rfl ?_
    refine x_aload_n i_262_1015 rfl ?_
    refine x_iload_n i_262_1016 rfl ?_
    refine n_iconst 1 i_262_1017 rfl ?_
    refine x_iaddN i_262_1018 ?_
    refine n_ldL i_262_1019 (by omega) hL ?_
    refine x_aload_n i_262_1020 rfl ?_
    refine x_iload_n i_262_1021 rfl ?_
    refine n_iconst 2 i_262_1022 rfl ?_
    refine x_iaddN i_262_1023 ?_
    refine n_ldL i_262_1024 (by omega) hL ?_
    refine x_aload_n i_262_1025 rfl ?_
    refine x_iload_n i_262_1026 rfl ?_
    refine n_iconst 3 i_262_1027 rfl ?_
    refine x_iaddN i_262_1028 ?_
    refine n_ldL i_262_1029 (by omega) hL ?_
    refine x_aload_n i_262_1030 rfl ?_
    refine x_iload_n i_262_1031 rfl ?_
    refine n_iconst 4 i_262_1032 rfl ?_
    refine x_iaddN i_262_1033 ?_
    refine n_ldL i_262_1034 (by omega) hL ?_
    refine x_aload_n i_262_1035 rfl ?_
    refine x_iload_n i_262_1036 rfl ?_
    refine n_iconst 5 i_262_1037 rfl ?_
    refine x_iaddN i_262_1038 ?_
    refine n_ldL i_262_1039 (by omega) hL ?_
    refine x_vh (r := []) (lj := [some _, some _, some _, some _, some _, some _]) i_262_1040 w_33 ob_0 [_, _, _, _, _] rfl rfl (Nat.le_of_ble_eq_true rfl) (Nat.le_of_ble_eq_true rfl) rfl ?_
    refine d_33 l1 (fun _ => rt_i ?_) (fun h => absurd h c)
    refine x_aload_n i_262_1043 rfl ?_
    refine x_aload_n i_262_1044 rfl ?_
    refine x_iload_n i_262_1045 rfl ?_
    refine n_iconst 1 i_262_1046 rfl ?_
    refine x_iaddN i_262_1047 ?_
    refine n_ldL i_262_1048 (by omega) hL ?_
    refine x_aload_n i_262_1049 rfl ?_
    refine x_iload_n i_262_1050 rfl ?_
    refine n_iconst 2 i_262_1051 rfl ?_
    refine x_iaddN i_262_1052 ?_
    refine n_ldL i_262_1053 (by omega) hL ?_
    refine x_aload_n i_262_1054 rfl ?_
    refine x_iload_n i_262_1055 rfl ?_
    refine n_iconst 3 i_262_1056 rfl ?_
    refine x_iaddN i_262_1057 ?_
    refine n_ldL i_262_1058 (by omega) hL ?_
    refine x_aload_n i_262_1059 rfl ?_
    refine x_iload_n i_262_1060 rfl ?_
    refine n_iconst 4 i_262_1061 rfl ?_
    refine x_iaddN i_262_1062 ?_
    refine n_ldL i_262_1063 (by omega) hL ?_
    refine x_aload_n i_262_1064 rfl ?_
    refine x_iload_n i_262_1065 rfl ?_
    refine n_iconst 5 i_262_1066 rfl ?_
    refine x_iaddN i_262_1067 ?_
    refine n_ldL i_262_1068 (by omega) hL ?_
    refine x_vh (r := [_]) (lj := [some _, some _, some _, some _, some _, some _, none, none]) i_262_1069 w_239 ob_170 [_, _, _, _, _] rfl rfl (Nat.le_of_ble_eq_true rfl) (Nat.le_of_ble_eq_true rfl) rfl ?_
    refine e_239 i2 l2 (fun _ M2 r2 t2 f2 => rt_i ?_) (fun h => absurd h c)
    refine x_ieq i_262_1072 ⟨fun g1 => ?_, fun g1 => ?_⟩
    · exact K _ _ (I.feed l1 (fun _ _ _ _ => rfl) r2 ((EQ.refl B).r 9 0 0 (Or.inl (Nat.le_refl _))) t2 f2)
    · exact absurd rfl g1
end LWV
