/-! the law's cases: rescuing, telling deeds as a text -/
section LWS
variable {xs : Nat → Int32} {L s fd n k l : Nat} {A : HA} {M : a_Mm} {Q : Option Value → a_Hp → Prop}
theorem ne82 : ¬ (s_82 n A k).1 = 4294967295 := by
  have L : ∀ T J d (A : HA) t, A 6 1 = 0 → (s_82_85 n d A k T J t).1 ≤ 4 := by
    intro T J d
    induction d with
    | zero => intro A t _; exact Nat.zero_le _
    | succ d ih =>
      intro A t f
      unfold s_82_85
      split
      · split
        · exact Nat.le_trans (s77_f n A J T f) (by omega)
        · exact Nat.le_refl _
      · split
        · exact ih _ _ (by rw [s81_f1]; exact f)
        · exact ih _ _ f
  unfold s_82
  by_cases c1 : isK k = 0
  · rw [if_pos c1]; show ¬ (4294967293 : Nat) = 4294967295; omega
  rw [if_neg c1]
  by_cases c2 : A 6 1 = 0
  · rw [if_pos c2]
    by_cases c3 : s_69 n A 1 = 0
    · rw [if_pos c3]
      by_cases c4 : lw n (s_69 n A 2) = 4294967295
      · rw [if_pos c4]; show ¬ (4294967290 : Nat) = 4294967295; omega
      rw [if_neg c4]
      by_cases c5 : s_83 n A (s_69 n A 2 &&& s_74 n A (A 2 (lw n (s_69 n A 2)))) = 0
      · rw [if_pos c5]; show ¬ (4294967292 : Nat) = 4294967295; omega
      rw [if_neg c5]
      have := L (s_69 n A 2 &&& s_74 n A (A 2 (lw n (s_69 n A 2)))) (s_84 n A (s_69 n A 2 &&& s_74 n A (A 2 (lw n (s_69 n A 2))))) 6 A 0 c2
      omega
    · rw [if_neg c3]; show ¬ (4294967291 : Nat) = 4294967295; omega
  · rw [if_neg c2]; show ¬ (4294967291 : Nat) = 4294967295; omega
theorem lw_530 (hL : L ≤ 3072) (hs : s + 6 ≤ L) (I : INVE M) (K : ∀ M' fd', INVE M' → a_Ex 262 1261 [some (.ref (a_CB + 1000)), some (.ref 0), some (.ref 170), some (.int (N s))] [] (a_hp (L + 1, xs) fd' M') Q) : a_Ex 262 530 [some (.ref (a_CB + 1000)), some (.ref 0), some (.ref 170), some (.int (N s))] [] (a_hp (L + 1, xs) fd M) Q := by
  obtain ⟨n, A, B, nx, sz, U, gi, xi, f, T, ff, I⟩ := I
  obtain ⟨⟨i1, i2, i3, i4⟩, ⟨j1, j2, j3⟩, k, ⟨l1, l2⟩, o, cm⟩ := id I
  refine x_aload_n i_262_530 rfl ?_
  refine x_aload_n i_262_531 rfl ?_
  refine x_iload_n i_262_532 rfl ?_
  refine n_iconst 1 i_262_533 rfl ?_
  refine x_iaddN i_262_534 ?_
  refine n_ldL i_262_535 (by omega) hL ?_
  refine x_vh (r := []) (lj := [some _, some _]) i_262_536 w_13 ob_0 [_] rfl rfl (Nat.le_of_ble_eq_true rfl) (Nat.le_of_ble_eq_true rfl) rfl ?_
  refine d_13 i1 j1 (ax_lt _ _) (fun M1 r1 p1 f1 => rt_i ?_)
  have n5 : n ≤ 5 := i1.1.1.2
  have ap := x82 (k := ax xs (s + 1)) (i3.r 9 0 0 (Or.inl (Nat.le_refl _))) i1.1
  have hne := ne82 (n := n) (A := A) (k := ax xs (s + 1))
  have hnr := nr82 (k := ax xs (s + 1)) n5 i4
  have iq := I.mid f1
  rw [ap.1] at hne p1
  rw [ap.1]
  refine x_aload_n i_262_539 rfl ?_
  refine x_aload_n i_262_540 rfl ?_
  refine x_iload_n i_262_541 rfl ?_
  refine n_iconst 1 i_262_542 rfl ?_
  refine x_iaddN i_262_543 ?_
  refine n_ldL i_262_544 (by omega) hL ?_
  refine x_vh (r := [_]) (lj := [some _, some _]) i_262_545 w_196 ob_170 [_] rfl rfl (Nat.le_of_ble_eq_true rfl) (Nat.le_of_ble_eq_true rfl) rfl ?_
  refine e_196 iq.1 iq.2 (ax_lt _ _) hne (fun M2 r2 p2 f2 => rt_i ?_)
  refine x_ieq i_262_548 ⟨fun g1 => ?_, fun g1 => ?_⟩
  · exact K _ _ (I.tell r1 p1 f1 r2 p2 f2 ap.2 hnr)
  · exact absurd rfl g1
/-- behind a text -/
theorem INV.scr {M1 M2 : a_Mm} {n nx sz f nx' sz' a b c : Nat} {A B C D : HA} {U U' V : Nat → Nat × HA} {gi : Nat → Nat} {xi : Nat → Nat × HA} {T ff : Nat → Nat} (I : INV M n A B nx sz U gi xi f T ff) (f1 : FZ M M1) (f2 : FSr M1 M2) (r1 : RC M1 1 n C) (p1 : PS M1 nx' sz' U') (h6 : M1 0 6 = N 0) (h4 : M1 141 4 = N a) (h5 : M1 141 5 = N b) (h7 : M1 141 6 = N c) (r2 : RM M2 n D) (d2 : DS M2 sz' V) (hv : ∀ i, i < sz' → (U' i).1 = (V i).1 ∧ EQ (U' i).2 (V i).2) (nr : ∀ i, i < sz' → NR (U' i).1 (U' i).2) (e : EQ C D) (q : NR n C) (t18 : M2 170 18 = N 0) (a1 : M2 170 21 = N a) (a2 : M2 170 22 = N b) (a3 : M2 170 23 = N c) : INVE M2 := by
  obtain ⟨-, -, k, -, -, cm⟩ := I
  have g1 : ∀ o k, o < 170 → M2 o k = M1 o k := fun o k h => f2 o k (by omega)
  have g : ∀ o k, ((120 ≤ o ∧ o < 140) ∨ (146 ≤ o ∧ o < 170) ∨ (o = 171 ∧ 216 ≤ k) ∨ o = 175) → M2 o k = M o k := fun o k h => (f2 o k (by omega)).trans (f1 o k (by omega) (by omega))
  refine ⟨n, C, D, nx', sz', U', gi, xi, 0, T, fun j => if j = 0 then a % 4294967296 else if j = 1 then b % 4294967296 else c % 4294967296, ⟨r1.same (fun o k _ _ => g1 _ _ (by omega)), r2, e, q⟩, ⟨p1.same (fun o k _ _ => g1 _ _ (by omega)), d2.eq (fun i hi => ⟨(hv i hi).1.symm, (hv i hi).2.symm⟩), nr⟩, fun i hi => ?_, ⟨⟨Nat.zero_le _, (g1 _ _ (by omega)).trans h6, fun k hk => absurd hk (Nat.not_lt_zero _)⟩, ⟨Nat.zero_le _, t18, fun k hk => absurd hk (Nat.not_lt_zero _)⟩⟩, fun j hj => ?_, cm.same (fun q k a b => g _ _ (by omega))⟩
  · obtain ⟨k1, k2, k3⟩ := k i hi
    exact ⟨k1.same hi (fun o k a b => g _ _ (by omega)), k2.same (fun k => g _ _ (by omega)) (fun k a => g _ _ (by omega)), k3⟩
  · have q0 : j = 0 ∨ j = 1 ∨ j = 2 := by omega
    rcases q0 with q0 | q0 | q0 <;> subst q0
    · exact ⟨((g1 _ _ (by omega)).trans h4).trans (N_mod _).symm, a1.trans (N_mod _).symm, Nat.mod_lt _ (by omega)⟩
    · exact ⟨((g1 _ _ (by omega)).trans h5).trans (N_mod _).symm, a2.trans (N_mod _).symm, Nat.mod_lt _ (by omega)⟩
    · exact ⟨((g1 _ _ (by omega)).trans h7).trans (N_mod _).symm, a3.trans (N_mod _).symm, Nat.mod_lt _ (by omega)⟩
theorem lw_1077 (hL : L ≤ 3072) (hs : s + 6 ≤ L) (I : INVE M) (K : ∀ M' fd', INVE M' → a_Ex 262 1261 [some (.ref (a_CB + 1000)), some (.ref 0), some (.ref 170), some (.int (N s))] [] (a_hp (L + 1, xs) fd' M') Q) : a_Ex 262 1077 [some (.ref (a_CB + 1000)), some (.ref 0), some (.ref 170), some (.int (N s))] [] (a_hp (L + 1, xs) fd M) Q := by
  obtain ⟨n, A, B, nx, sz, U, gi, xi, f, T, ff, I⟩ := I
  obtain ⟨⟨i1, i2, i3, i4⟩, ⟨j1, j2, j3⟩, k, ⟨l1, l2⟩, o, cm⟩ := id I
  have hT : ∀ k, k < f → T k < 256 := fun k hk => (l2.2.2 k hk).1
  refine x_aload_n i_262_1077 rfl ?_
  refine x_aload_n i_262_1078 rfl ?_
  refine x_iload_n i_262_1079 rfl ?_
  refine n_iconst 1 i_262_1080 rfl ?_
  refine x_iaddN i_262_1081 ?_
  refine n_ldL i_262_1082 (by omega) hL ?_
  refine x_vh (r := []) (lj := [some _, some _, none]) i_262_1083 w_35 ob_0 [_] rfl rfl (Nat.le_of_ble_eq_true rfl) (Nat.le_of_ble_eq_true rfl) rfl ?_
  refine d_35 (l1 := (ax xs (s + 1))) i1 j1 l1 hT (ax_lt _ _) (fun g => rt_i ?_) (fun g M1 P p0 b3 g2 r1 p1 h6 h4 h5 h7 f1 => rt_i ?_) (fun g M1 P p0 g2 d12 r1 p1 h6 h4 h5 h7 f1 => rt_i ?_)
  · refine x_aload_n i_262_1086 rfl ?_
    refine x_aload_n i_262_1087 rfl ?_
    refine x_iload_n i_262_1088 rfl ?_
    refine n_iconst 1 i_262_1089 rfl ?_
    refine x_iaddN i_262_1090 ?_
    refine n_ldL i_262_1091 (by omega) hL ?_
    refine x_vh (r := [_]) (lj := [some _, some _, none, none]) i_262_1092 w_240 ob_170 [_] rfl rfl (Nat.le_of_ble_eq_true rfl) (Nat.le_of_ble_eq_true rfl) rfl ?_
    refine e_240 (l1 := (ax xs (s + 1))) (P := fun _ k => if k = 2 then 4294967295 else 0) i2 j2 l2 (ax_lt _ _) ⟨rfl, rfl, rfl, rfl⟩ (fun _ M2 r2 f2 => rt_i ?_) (fun h => absurd h g) (fun h => absurd h g)
    refine x_ieq i_262_1095 ⟨fun g1 => ?_, fun g1 => ?_⟩
    · exact K _ _ (I.read2 r2 (i3.r 9 0 0 (Or.inl (Nat.le_refl _))) (fun o k h => f2 _ _ (by omega)))
    · exact absurd rfl g1
  · refine x_aload_n i_262_1086 rfl ?_
    refine x_aload_n i_262_1087 rfl ?_
    refine x_iload_n i_262_1088 rfl ?_
    refine n_iconst 1 i_262_1089 rfl ?_
    refine x_iaddN i_262_1090 ?_
    refine n_ldL i_262_1091 (by omega) hL ?_
    refine x_vh (r := [_]) (lj := [some _, some _, none, none]) i_262_1092 w_240 ob_170 [_] rfl rfl (Nat.le_of_ble_eq_true rfl) (Nat.le_of_ble_eq_true rfl) rfl ?_
    refine e_240 (l1 := (ax xs (s + 1))) (P := P) (i2.same (fun k _ => f1 _ _ (by omega) (by omega)) (fun k _ => f1 _ _ (by omega) (by omega))) (j2.same (fun k => f1 _ _ (by omega) (by omega)) (f1 _ _ (by omega) (by omega))) (l2.same (f1 _ _ (by omega) (by omega)) (fun k => f1 _ _ (by omega) (by omega))) (ax_lt _ _) p0 (fun h => absurd g h) (fun _ _ M2 r2 d2 t2 a1 a2 a3 f2 => rt_i ?_) (fun _ h => absurd h g2)
    refine x_ieq i_262_1095 ⟨fun g1 => ?_, fun g1 => ?_⟩
    · exact K _ _ (I.scr f1 f2 r1 p1 h6 h4 h5 h7 r2 d2 (fun i _ => ⟨rfl, EQ.refl _⟩) j3 (i3.r 9 0 0 (Or.inl (Nat.le_refl _))) i4 t2 a1 a2 a3)
    · exact absurd rfl g1
  · refine x_aload_n i_262_1086 rfl ?_
    refine x_aload_n i_262_1087 rfl ?_
    refine x_iload_n i_262_1088 rfl ?_
    refine n_iconst 1 i_262_1089 rfl ?_
    refine x_iaddN i_262_1090 ?_
    refine n_ldL i_262_1091 (by omega) hL ?_
    refine x_vh (r := [_]) (lj := [some _, some _, none, none]) i_262_1092 w_240 ob_170 [_] rfl rfl (Nat.le_of_ble_eq_true rfl) (Nat.le_of_ble_eq_true rfl) rfl ?_
    refine e_240 (l1 := (ax xs (s + 1))) (P := P) (i2.same (fun k _ => f1 _ _ (by omega) (by omega)) (fun k _ => f1 _ _ (by omega) (by omega))) (j2.same (fun k => f1 _ _ (by omega) (by omega)) (f1 _ _ (by omega) (by omega))) (l2.same (f1 _ _ (by omega) (by omega)) (fun k => f1 _ _ (by omega) (by omega))) (ax_lt _ _) p0 (fun h => absurd g h) (fun _ h => absurd g2 h) (fun _ _ M2 KK O1 O2 hO r2 d2 t2 a1 a2 a3 f2 => rt_i ?_)
    generalize rds T (ax xs (s + 1)) 13 P = R at hO r1 p1 h5 h7 r2 d2 a2 a3 ⊢
    have x := xds (n := n) (K := KK) (O1 := O1) (O2 := O2) (P := R) (D := R 0 3) hO (R 0 3) 0 A (a_up B 9 0 0) (by omega) (i3.r 9 0 0 (Or.inl (Nat.le_refl _))) i1.1 i4
    rw [x.1] at p1
    rw [x.2.1] at h7
    rw [x.1]
    refine x_ieq i_262_1095 ⟨fun g1 => ?_, fun g1 => ?_⟩
    · by_cases c0 : (drs n KK O1 O2 (R 0 3) 0 (a_up B 9 0 0)).1 = 0
      · rw [if_pos c0] at p1 d2
        exact K _ _ (I.scr f1 f2 r1 p1 h6 h4 h5 h7 r2 d2 (fun i _ => ⟨rfl, EQ.refl _⟩) j3 x.2.2.1 x.2.2.2.2 t2 a1 a2 a3)
      · rw [if_neg c0] at p1 d2
        exact K _ _ (I.scr f1 f2 r1 p1 h6 h4 h5 h7 r2 d2 (psh_eq (U := U) i3) (psh_nr j3 j2.2.1 i4) x.2.2.1 x.2.2.2.2 t2 a1 a2 a3)
    · exact absurd rfl g1
end LWS
