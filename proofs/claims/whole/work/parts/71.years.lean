/-! draws, drawn acts, by program -/
def s_125 (G : HA) (l1 : Nat) : Nat × HA :=
  (if 1 ≤ l1 then ((G 146 0) % l1, (a_up G 146 0 (((709 * (G 146 0)) + 4177) % 30011))) else (0, (a_up G 146 0 (((709 * (G 146 0)) + 4177) % 30011))))
theorem c_125 {sc : a_Sc} {fd : Nat} {M : a_Mm} {A G : HA} {Q : Option Value → a_Hp → Prop} {b n : Nat} (hb : HB b) (r : RX M b n A G) {l1 : Nat} (hl1 : l1 ≤ 8) (i0 : G 146 0 ≤ 30010) (k : KZ 7 Q sc fd b n A (s_125 G l1)) : a_Ex 125 0 [some (.ref 146), some (.int (N l1)), none] [] (a_hp sc fd M) Q := by
  unfold s_125 at k
  have n5 := r.n5
  have n2 := r.n2
  refine x_iload_n i_125_0 rfl ?_
  refine n_iconst 1 i_125_1 rfl ?_
  refine x_igeN (by omega) (by omega) i_125_2 ⟨fun g1 => ?_, fun g1 => ?_⟩
  · have k := kp g1 k
    refine x_aload_n i_125_9 rfl ?_
    refine n_gi (x := G 146 0) i_125_10 ob_146 gf_5_0.1 gf_5_0.2 (r.g _ (hb.fr rfl)) ?_
    refine x_iload_n i_125_13 rfl ?_
    refine x_iremN (by omega) (by omega) (by omega) i_125_14 ?_
    refine x_istore_n i_125_15 rfl rfl ?_
    refine x_aload_n i_125_16 rfl ?_
    refine n_sipush 709 i_125_17 rfl ?_
    refine x_aload_n i_125_20 rfl ?_
    refine n_gi (x := G 146 0) i_125_21 ob_146 gf_5_0.1 gf_5_0.2 (r.g _ (hb.fr rfl)) ?_
    refine x_imulN i_125_24 ?_
    refine n_sipush 4177 i_125_25 rfl ?_
    refine x_iaddN i_125_28 ?_
    refine n_sipush 30011 i_125_29 rfl ?_
    refine x_iremN (by omega) (by omega) (by omega) i_125_32 ?_
    refine n_pX i_125_33 r ob_146 pf_5_0 (hb.fr rfl) (fun M2 r2 => ?_)
    refine x_iload_n i_125_36 rfl ?_
    have q3 : (G 146 0) % l1 < l1 := Nat.mod_lt _ (by omega)
    refine x_iret i_125_37 rn_125 rfl ?_
    exact k.ap (by omega) r2
  · have k := kn g1 k
    refine n_iconst 0 i_125_5 rfl ?_
    refine x_goto i_125_6 ?_
    refine x_istore_n i_125_15 rfl rfl ?_
    refine x_aload_n i_125_16 rfl ?_
    refine n_sipush 709 i_125_17 rfl ?_
    refine x_aload_n i_125_20 rfl ?_
    refine n_gi (x := G 146 0) i_125_21 ob_146 gf_5_0.1 gf_5_0.2 (r.g _ (hb.fr rfl)) ?_
    refine x_imulN i_125_24 ?_
    refine n_sipush 4177 i_125_25 rfl ?_
    refine x_iaddN i_125_28 ?_
    refine n_sipush 30011 i_125_29 rfl ?_
    refine x_iremN (by omega) (by omega) (by omega) i_125_32 ?_
    refine n_pX i_125_33 r ob_146 pf_5_0 (hb.fr rfl) (fun M4 r4 => ?_)
    refine x_iload_n i_125_36 rfl ?_
    refine x_iret i_125_37 rn_125 rfl ?_
    exact k.ap (by omega) r4
theorem s125_le (G : HA) (m : Nat) : (s_125 G m).2 146 0 ≤ 30010 := by
  unfold s_125
  split
  · show (709 * G 146 0 + 4177) % 30011 ≤ 30010; omega
  · show (709 * G 146 0 + 4177) % 30011 ≤ 30010; omega
def s_126 (G : HA) : Nat × HA :=
  (if ((s_125 G 6).1) = 5 then (4294967295, (s_125 G 6).2) else ((s_125 G 6).1, (s_125 G 6).2))
theorem c_126 {sc : a_Sc} {fd : Nat} {M : a_Mm} {A G : HA} {Q : Option Value → a_Hp → Prop} {b n : Nat} (hb : HB b) (r : RX M b n A G) (i0 : G 146 0 ≤ 30010) (k : KZ 4294967295 Q sc fd b n A (s_126 G)) : a_Ex 126 0 [some (.ref 146), none] [] (a_hp sc fd M) Q := by
  unfold s_126 at k
  have n5 := r.n5
  have n2 := r.n2
  refine x_aload_n i_126_0 rfl ?_
  refine n_bipush 6 i_126_1 rfl ?_
  refine x_vh (r := []) (lj := [some _, some _, none]) i_126_3 w_125 ob_146 [_] rfl rfl (Nat.le_of_ble_eq_true rfl) (Nat.le_of_ble_eq_true rfl) rfl ?_
  refine c_125 hb r (by omega) (by omega) (fun q1 M1 r1 => rt_i ?_)
  have m125a := s125_le G 6
  refine x_istore_n i_126_6 rfl rfl ?_
  refine x_iload_n i_126_7 rfl ?_
  refine n_iconst 5 i_126_8 rfl ?_
  refine x_ineN (by omega) (by omega) i_126_9 ⟨fun g2 => ?_, fun g2 => ?_⟩
  · have k := kn g2 k
    refine x_iload_n i_126_16 rfl ?_
    refine x_iret i_126_17 rn_126 rfl ?_
    exact k.ap (by omega) r1
  · have k := kp g2 k
    refine n_iconst 4294967295 i_126_12 rfl ?_
    refine x_goto i_126_13 ?_
    refine x_iret i_126_17 rn_126 rfl ?_
    exact k.ap (by omega) r1
def s_24 (n : Nat) (A : HA) (G : HA) : Nat × HA × HA :=
  (if 3 ≤ ((s_125 G 8).1) then (if (s_125 G 8).1 = 3 then ((s_67 n A ((s_125 ((s_125 G 8).2) n).1)).1, (s_67 n A ((s_125 ((s_125 G 8).2) n).1)).2, (s_125 ((s_125 G 8).2) n).2) else (if (s_125 G 8).1 = 4 then ((s_70 n A ((s_125 ((s_125 G 8).2) n).1)).1, (s_70 n A ((s_125 ((s_125 G 8).2) n).1)).2, (s_125 ((s_125 G 8).2) n).2) else (if (s_125 G 8).1 = 5 then ((s_80 n A ((s_125 ((s_125 G 8).2) n).1)).1, (s_80 n A ((s_125 ((s_125 G 8).2) n).1)).2, (s_125 ((s_125 G 8).2) n).2) else ((s_72 n A ((s_125 ((s_125 G 8).2) n).1) ((s_126 ((s_125 ((s_125 G 8).2) n).2)).1)).1, (s_72 n A ((s_125 ((s_125 G 8).2) n).1) ((s_126 ((s_125 ((s_125 G 8).2) n).2)).1)).2, (s_126 ((s_125 ((s_125 G 8).2) n).2)).2)))) else (if ((s_125 G 8).1) = 0 then ((s_57 n A ((s_126 ((s_125 G 8).2)).1)).1, (s_57 n A ((s_126 ((s_125 G 8).2)).1)).2, (s_126 ((s_125 G 8).2)).2) else (if ((s_125 G 8).1) = 1 then ((s_64 n A ((s_126 ((s_125 G 8).2)).1)).1, (s_64 n A ((s_126 ((s_125 G 8).2)).1)).2, (s_126 ((s_125 G 8).2)).2) else ((s_66 n A ((s_126 ((s_125 G 8).2)).1)).1, (s_66 n A ((s_126 ((s_125 G 8).2)).1)).2, (s_126 ((s_125 G 8).2)).2))))
theorem c_24 {sc : a_Sc} {fd : Nat} {M : a_Mm} {A G : HA} {Q : Option Value → a_Hp → Prop} {n : Nat} (r : RX M 10 n A G) (i0 : G 146 0 ≤ 30010) (k : KX 4294967295 Q sc fd 10 n (s_24 n A G)) : a_Ex 24 0 [some (.ref 0), none, none] [] (a_hp sc fd M) Q := by
  unfold s_24 at k
  have n5 := r.n5
  have n2 := r.n2
  refine x_aload_n i_24_0 rfl ?_
  refine x_gr i_24_1 ob_0 gr_0_8.1 gr_0_8.2 (rt_0_8 _) ?_
  refine n_bipush 8 i_24_4 rfl ?_
  refine x_vh (r := []) (lj := [some _, some _, none]) i_24_6 w_125 ob_146 [_] rfl rfl (Nat.le_of_ble_eq_true rfl) (Nat.le_of_ble_eq_true rfl) rfl ?_
  refine c_125 hb10 r (by omega) (by omega) (fun q1 M1 r1 => rt_i ?_)
  have m125a := s125_le G 8
  refine x_istore_n i_24_9 rfl rfl ?_
  refine x_iload_n i_24_10 rfl ?_
  refine n_iconst 3 i_24_11 rfl ?_
  refine x_igeN (by omega) (by omega) i_24_12 ⟨fun g2 => ?_, fun g2 => ?_⟩
  · have k := kp g2 k
    refine x_aload_n i_24_61 rfl ?_
    refine x_gr i_24_62 ob_0 gr_0_8.1 gr_0_8.2 (rt_0_8 _) ?_
    refine x_aload_n i_24_65 rfl ?_
    refine x_gr i_24_66 ob_0 gr_0_1.1 gr_0_1.2 (rt_0_1 _) ?_
    refine n_gi (x := n) i_24_69 hb10.ob gf_1_0.1 gf_1_0.2 r1.nn ?_
    refine x_vh (r := []) (lj := [some _, some _, none]) i_24_72 w_125 ob_146 [_] rfl rfl (Nat.le_of_ble_eq_true rfl) (Nat.le_of_ble_eq_true rfl) rfl ?_
    refine c_125 hb10 r1 (by omega) (by omega) (fun q3 M3 r3 => rt_i ?_)
    have m125a := s125_le ((s_125 G 8).2) n
    refine x_istore_n i_24_75 rfl rfl ?_
    refine x_iload_n i_24_76 rfl ?_
    by_cases g4 : (s_125 G 8).1 = 3
    · have k := kp g4 k
      refine x_tswI (t := 104) (off := 27) i_24_77 (by rw [g4]; decide +kernel) (by rw [g4]; decide +kernel) (by decide) ?_
      refine x_aload_n i_24_104 rfl ?_
      refine x_gr i_24_105 ob_0 gr_0_1.1 gr_0_1.2 (rt_0_1 _) ?_
      refine x_iload_n i_24_108 rfl ?_
      refine x_vh (r := []) (lj := [some _, some _]) i_24_109 w_67 hb10.ob [_] rfl rfl (Nat.le_of_ble_eq_true rfl) (Nat.le_of_ble_eq_true rfl) rfl ?_
      refine c_67 hb10 r3.1 (by omega)  (fun q5 M5 r5a f5 => rt_i ?_)
      have r5 := r3.mv r5a f5
      refine x_iret i_24_112 rn_24 rfl ?_
      exact k.ap (by omega) r5
    have k := kn g4 k
    by_cases g6 : (s_125 G 8).1 = 4
    · have k := kp g6 k
      refine x_tswI (t := 113) (off := 36) i_24_77 (by rw [g6]; decide +kernel) (by rw [g6]; decide +kernel) (by decide) ?_
      refine x_aload_n i_24_113 rfl ?_
      refine x_gr i_24_114 ob_0 gr_0_1.1 gr_0_1.2 (rt_0_1 _) ?_
      refine x_iload_n i_24_117 rfl ?_
      refine x_vh (r := []) (lj := [some _, some _]) i_24_118 w_70 hb10.ob [_] rfl rfl (Nat.le_of_ble_eq_true rfl) (Nat.le_of_ble_eq_true rfl) rfl ?_
      refine c_70 hb10 r3.1 (by omega)  (fun q7 M7 r7a f7 => rt_i ?_)
      have r7 := r3.mv r7a f7
      refine x_iret i_24_121 rn_24 rfl ?_
      exact k.ap (by omega) r7
    have k := kn g6 k
    by_cases g8 : (s_125 G 8).1 = 5
    · have k := kp g8 k
      refine x_tswI (t := 122) (off := 45) i_24_77 (by rw [g8]; decide +kernel) (by rw [g8]; decide +kernel) (by decide) ?_
      refine x_aload_n i_24_122 rfl ?_
      refine x_gr i_24_123 ob_0 gr_0_1.1 gr_0_1.2 (rt_0_1 _) ?_
      refine x_iload_n i_24_126 rfl ?_
      refine x_vh (r := []) (lj := [some _, some _, none]) i_24_127 w_80 hb10.ob [_] rfl rfl (Nat.le_of_ble_eq_true rfl) (Nat.le_of_ble_eq_true rfl) rfl ?_
      refine c_80 hb10 r3.1 (by omega)  (fun q9 M9 r9a f9 => rt_i ?_)
      have r9 := r3.mv r9a f9
      refine x_iret i_24_130 rn_24 rfl ?_
      exact k.ap (by omega) r9
    have k := kn g8 k
    refine x_tswO (t := 131) i_24_77 (n_tswO (lo := 3) (hi := 5) (by omega) (by omega)) (by decide) ?_
    refine x_aload_n i_24_131 rfl ?_
    refine x_gr i_24_132 ob_0 gr_0_1.1 gr_0_1.2 (rt_0_1 _) ?_
    refine x_iload_n i_24_135 rfl ?_
    refine x_aload_n i_24_136 rfl ?_
    refine x_gr i_24_137 ob_0 gr_0_8.1 gr_0_8.2 (rt_0_8 _) ?_
    refine x_vh (r := [_, _]) (lj := [some _, none]) i_24_140 w_126 ob_146 [] rfl rfl (Nat.le_of_ble_eq_true rfl) (Nat.le_of_ble_eq_true rfl) rfl ?_
    refine c_126 hb10 r3  (by omega) (fun q10 M10 r10 => rt_i ?_)
    refine x_vh (r := []) (lj := [some _, some _, some _, none, none]) i_24_143 w_72 hb10.ob [_, _] rfl rfl (Nat.le_of_ble_eq_true rfl) (Nat.le_of_ble_eq_true rfl) rfl ?_
    refine c_72 hb10 r10.1 (by omega) (by omega)  (fun q11 M11 r11a f11 => rt_i ?_)
    have r11 := r10.mv r11a f11
    refine x_iret i_24_146 rn_24 rfl ?_
    exact k.ap (by omega) r11
  · have k := kn g2 k
    refine x_aload_n i_24_15 rfl ?_
    refine x_gr i_24_16 ob_0 gr_0_8.1 gr_0_8.2 (rt_0_8 _) ?_
    refine x_vh (r := []) (lj := [some _, none]) i_24_19 w_126 ob_146 [] rfl rfl (Nat.le_of_ble_eq_true rfl) (Nat.le_of_ble_eq_true rfl) rfl ?_
    refine c_126 hb10 r1  (by omega) (fun q12 M12 r12 => rt_i ?_)
    refine x_istore_n i_24_22 rfl rfl ?_
    refine x_iload_n i_24_23 rfl ?_
    refine x_zneN (by omega) i_24_24 ⟨fun g13 => ?_, fun g13 => ?_⟩
    · have k := kn g13 k
      refine x_iload_n i_24_36 rfl ?_
      refine n_iconst 1 i_24_37 rfl ?_
      refine x_ineN (by omega) (by omega) i_24_38 ⟨fun g14 => ?_, fun g14 => ?_⟩
      · have k := kn g14 k
        refine x_aload_n i_24_52 rfl ?_
        refine x_gr i_24_53 ob_0 gr_0_1.1 gr_0_1.2 (rt_0_1 _) ?_
        refine x_iload_n i_24_56 rfl ?_
        refine x_vh (r := []) (lj := [some _, some _]) i_24_57 w_66 hb10.ob [_] rfl rfl (Nat.le_of_ble_eq_true rfl) (Nat.le_of_ble_eq_true rfl) rfl ?_
        refine c_66 hb10 r12.1 (by omega)  (fun q15 M15 r15a f15 => rt_i ?_)
        have r15 := r12.mv r15a f15
        refine x_iret i_24_60 rn_24 rfl ?_
        exact k.ap (by omega) r15
      · have k := kp g14 k
        refine x_aload_n i_24_41 rfl ?_
        refine x_gr i_24_42 ob_0 gr_0_1.1 gr_0_1.2 (rt_0_1 _) ?_
        refine x_iload_n i_24_45 rfl ?_
        refine x_vh (r := []) (lj := [some _, some _, none, none]) i_24_46 w_64 hb10.ob [_] rfl rfl (Nat.le_of_ble_eq_true rfl) (Nat.le_of_ble_eq_true rfl) rfl ?_
        refine c_64 hb10 r12.1 (by omega)  (fun q16 M16 r16a f16 => rt_i ?_)
        have r16 := r12.mv r16a f16
        refine x_goto i_24_49 ?_
        refine x_iret i_24_60 rn_24 rfl ?_
        exact k.ap (by omega) r16
    · have k := kp g13 k
      refine x_aload_n i_24_27 rfl ?_
      refine x_gr i_24_28 ob_0 gr_0_1.1 gr_0_1.2 (rt_0_1 _) ?_
      refine x_iload_n i_24_31 rfl ?_
      refine x_vh (r := []) (lj := [some _, some _]) i_24_32 w_57 hb10.ob [_] rfl rfl (Nat.le_of_ble_eq_true rfl) (Nat.le_of_ble_eq_true rfl) rfl ?_
      refine c_57 hb10 r12.1 (by omega)  (fun q17 M17 r17a f17 => rt_i ?_)
      have r17 := r12.mv r17a f17
      refine x_iret i_24_35 rn_24 rfl ?_
      exact k.ap (by omega) r17
def s_221 (n : Nat) (A : HA) (l1 : Nat) : Nat × HA :=
  ((A 9 10) % l1, (a_up A 9 10 (((709 * (A 9 10)) + 4177) % 30011)))
theorem c_221 {sc : a_Sc} {fd : Nat} {M : a_Mm} {A : HA} {Q : Option Value → a_Hp → Prop} {n : Nat} (r : RM M n A) {l1 : Nat} (hl1 : l1 ≤ 8) (i0 : A 9 10 ≤ 30010) (i1 : 1 ≤ l1) (k : MR 7 Q sc fd M n (s_221 n A l1)) : a_Ex 221 0 [some (.ref 170), some (.int (N l1)), none] [] (a_hp sc fd M) Q := by
  unfold s_221 at k
  have n5 := r.n5
  have n2 := r.n2
  refine x_aload_n i_221_0 rfl ?_
  refine n_gi (x := A 9 10) i_221_1 ob_170 gf_8_10.1 gf_8_10.2 (r.g (by omega)) ?_
  refine x_iload_n i_221_4 rfl ?_
  refine x_iremN (by omega) (by omega) (by omega) i_221_5 ?_
  refine x_istore_n i_221_6 rfl rfl ?_
  refine x_aload_n i_221_7 rfl ?_
  refine n_sipush 709 i_221_8 rfl ?_
  refine x_aload_n i_221_11 rfl ?_
  refine n_gi (x := A 9 10) i_221_12 ob_170 gf_8_10.1 gf_8_10.2 (r.g (by omega)) ?_
  refine x_imulN i_221_15 ?_
  refine n_sipush 4177 i_221_16 rfl ?_
  refine x_iaddN i_221_19 ?_
  refine n_sipush 30011 i_221_20 rfl ?_
  refine x_iremN (by omega) (by omega) (by omega) i_221_23 ?_
  refine n_pM i_221_24 r pf_8_10 (by omega) (fun M1 r1 f1 => ?_)
  refine x_iload_n i_221_27 rfl ?_
  have q2 : (A 9 10) % l1 < l1 := Nat.mod_lt _ (by omega)
  refine x_iret i_221_28 rn_221 rfl ?_
  exact k.ap (by omega) r1 f1
theorem s221_le (n : Nat) (A : HA) (m : Nat) : (s_221 n A m).2 9 10 ≤ 30010 := by
  unfold s_221
  show (709 * A 9 10 + 4177) % 30011 ≤ 30010
  omega
def s_222 (n : Nat) (A : HA) : Nat × HA :=
  (if ((s_221 n A 6).1) = 5 then (4294967295, (s_221 n A 6).2) else ((s_221 n A 6).1, (s_221 n A 6).2))
theorem c_222 {sc : a_Sc} {fd : Nat} {M : a_Mm} {A : HA} {Q : Option Value → a_Hp → Prop} {n : Nat} (r : RM M n A) (i0 : A 9 10 ≤ 30010) (k : MR 4294967295 Q sc fd M n (s_222 n A)) : a_Ex 222 0 [some (.ref 170), none] [] (a_hp sc fd M) Q := by
  unfold s_222 at k
  have n5 := r.n5
  have n2 := r.n2
  refine x_aload_n i_222_0 rfl ?_
  refine n_bipush 6 i_222_1 rfl ?_
  refine x_vh (r := []) (lj := [some _, some _, none]) i_222_3 w_221 ob_170 [_] rfl rfl (Nat.le_of_ble_eq_true rfl) (Nat.le_of_ble_eq_true rfl) rfl ?_
  refine c_221 r (by omega) (by omega) (by omega) (fun q1 M1 r1 f1 => rt_i ?_)
  have m221a := s221_le n A 6
  refine x_istore_n i_222_6 rfl rfl ?_
  refine x_iload_n i_222_7 rfl ?_
  refine n_iconst 5 i_222_8 rfl ?_
  refine x_ineN (by omega) (by omega) i_222_9 ⟨fun g2 => ?_, fun g2 => ?_⟩
  · have k := kn g2 k
    refine x_iload_n i_222_16 rfl ?_
    refine x_iret i_222_17 rn_222 rfl ?_
    exact k.ap (by omega) r1 f1
  · have k := kp g2 k
    refine n_iconst 4294967295 i_222_12 rfl ?_
    refine x_goto i_222_13 ?_
    refine x_iret i_222_17 rn_222 rfl ?_
    exact k.ap (by omega) r1 f1
def s_220 (n : Nat) (A : HA) : Nat × HA :=
  (if 3 ≤ ((s_221 n A 8).1) then (if 6 ≤ ((s_221 n A 8).1) then ((s_187 n ((s_222 n ((s_221 n ((s_221 n A 8).2) n).2)).2) ((s_221 n ((s_221 n A 8).2) n).1) ((s_222 n ((s_221 n ((s_221 n A 8).2) n).2)).1)).1, (s_187 n ((s_222 n ((s_221 n ((s_221 n A 8).2) n).2)).2) ((s_221 n ((s_221 n A 8).2) n).1) ((s_222 n ((s_221 n ((s_221 n A 8).2) n).2)).1)).2) else (if ((s_221 n A 8).1) = 3 then ((s_181 n ((s_221 n ((s_221 n A 8).2) n).2) ((s_221 n ((s_221 n A 8).2) n).1)).1, (s_181 n ((s_221 n ((s_221 n A 8).2) n).2) ((s_221 n ((s_221 n A 8).2) n).1)).2) else (if ((s_221 n A 8).1) = 4 then ((s_183 n ((s_221 n ((s_221 n A 8).2) n).2) ((s_221 n ((s_221 n A 8).2) n).1)).1, (s_183 n ((s_221 n ((s_221 n A 8).2) n).2) ((s_221 n ((s_221 n A 8).2) n).1)).2) else ((s_194 n ((s_221 n ((s_221 n A 8).2) n).2) ((s_221 n ((s_221 n A 8).2) n).1)).1, (s_194 n ((s_221 n ((s_221 n A 8).2) n).2) ((s_221 n ((s_221 n A 8).2) n).1)).2)))) else (if ((s_221 n A 8).1) = 0 then ((s_164 n ((s_222 n ((s_221 n A 8).2)).2) ((s_222 n ((s_221 n A 8).2)).1)).1, (s_164 n ((s_222 n ((s_221 n A 8).2)).2) ((s_222 n ((s_221 n A 8).2)).1)).2) else (if ((s_221 n A 8).1) = 1 then ((s_176 n ((s_222 n ((s_221 n A 8).2)).2) ((s_222 n ((s_221 n A 8).2)).1)).1, (s_176 n ((s_222 n ((s_221 n A 8).2)).2) ((s_222 n ((s_221 n A 8).2)).1)).2) else ((s_178 n ((s_222 n ((s_221 n A 8).2)).2) ((s_222 n ((s_221 n A 8).2)).1)).1, (s_178 n ((s_222 n ((s_221 n A 8).2)).2) ((s_222 n ((s_221 n A 8).2)).1)).2))))
theorem c_220 {sc : a_Sc} {fd : Nat} {M : a_Mm} {A : HA} {Q : Option Value → a_Hp → Prop} {n : Nat} (r : RM M n A) (i0 : A 9 10 ≤ 30010) (k : MR 4294967295 Q sc fd M n (s_220 n A)) : a_Ex 220 0 [some (.ref 170), none, none] [] (a_hp sc fd M) Q := by
  unfold s_220 at k
  have n5 := r.n5
  have n2 := r.n2
  refine x_aload_n i_220_0 rfl ?_
  refine n_bipush 8 i_220_1 rfl ?_
  refine x_vh (r := []) (lj := [some _, some _, none]) i_220_3 w_221 ob_170 [_] rfl rfl (Nat.le_of_ble_eq_true rfl) (Nat.le_of_ble_eq_true rfl) rfl ?_
  refine c_221 r (by omega) (by omega) (by omega) (fun q1 M1 r1 f1 => rt_i ?_)
  have m221a := s221_le n A 8
  refine x_istore_n i_220_6 rfl rfl ?_
  refine x_iload_n i_220_7 rfl ?_
  refine n_iconst 3 i_220_8 rfl ?_
  refine x_igeN (by omega) (by omega) i_220_9 ⟨fun g2 => ?_, fun g2 => ?_⟩
  · have k := kp g2 k
    refine x_aload_n i_220_48 rfl ?_
    refine x_aload_n i_220_49 rfl ?_
    refine x_gr i_220_50 ob_170 gr_8_1.1 gr_8_1.2 (rt_170_1 _) ?_
    refine n_iconst 0 i_220_53 rfl ?_
    refine n_ld (x := n) i_220_54 ar_171 (by omega) (by omega) r1.nn ?_
    refine x_vh (r := []) (lj := [some _, some _, none]) i_220_55 w_221 ob_170 [_] rfl rfl (Nat.le_of_ble_eq_true rfl) (Nat.le_of_ble_eq_true rfl) rfl ?_
    refine c_221 r1 (by omega) (by omega) (by omega) (fun q3 M3 r3 f3 => rt_i ?_)
    have m221a := s221_le n ((s_221 n A 8).2) n
    refine x_istore_n i_220_58 rfl rfl ?_
    refine x_iload_n i_220_59 rfl ?_
    refine n_bipush 6 i_220_60 rfl ?_
    refine x_igeN (by omega) (by omega) i_220_62 ⟨fun g4 => ?_, fun g4 => ?_⟩
    · have k := kp g4 k
      refine x_aload_n i_220_97 rfl ?_
      refine x_iload_n i_220_98 rfl ?_
      refine x_aload_n i_220_99 rfl ?_
      refine x_vh (r := [_, _]) (lj := [some _, none]) i_220_100 w_222 ob_170 [] rfl rfl (Nat.le_of_ble_eq_true rfl) (Nat.le_of_ble_eq_true rfl) rfl ?_
      refine c_222 r3  (by omega) (fun q5 M5 r5 f5 => rt_i ?_)
      refine x_vh (r := []) (lj := [some _, some _, some _, none, none]) i_220_103 w_187 ob_170 [_, _] rfl rfl (Nat.le_of_ble_eq_true rfl) (Nat.le_of_ble_eq_true rfl) rfl ?_
      refine c_187 r5 (by omega) (by omega)  (fun q6 M6 r6 f6 => rt_i ?_)
      refine x_iret i_220_106 rn_220 rfl ?_
      exact k.ap (by omega) r6 (((f1.trans f3).trans f5).trans f6)
    · have k := kn g4 k
      refine x_iload_n i_220_65 rfl ?_
      refine n_iconst 3 i_220_66 rfl ?_
      refine x_ineN (by omega) (by omega) i_220_67 ⟨fun g7 => ?_, fun g7 => ?_⟩
      · have k := kn g7 k
        refine x_iload_n i_220_78 rfl ?_
        refine n_iconst 4 i_220_79 rfl ?_
        refine x_ineN (by omega) (by omega) i_220_80 ⟨fun g8 => ?_, fun g8 => ?_⟩
        · have k := kn g8 k
          refine x_aload_n i_220_91 rfl ?_
          refine x_iload_n i_220_92 rfl ?_
          refine x_vh (r := []) (lj := [some _, some _, none]) i_220_93 w_194 ob_170 [_] rfl rfl (Nat.le_of_ble_eq_true rfl) (Nat.le_of_ble_eq_true rfl) rfl ?_
          refine c_194 r3 (by omega)  (fun q9 M9 r9 f9 => rt_i ?_)
          refine x_iret i_220_96 rn_220 rfl ?_
          exact k.ap (by omega) r9 ((f1.trans f3).trans f9)
        · have k := kp g8 k
          refine x_aload_n i_220_83 rfl ?_
          refine x_iload_n i_220_84 rfl ?_
          refine x_vh (r := []) (lj := [some _, some _]) i_220_85 w_183 ob_170 [_] rfl rfl (Nat.le_of_ble_eq_true rfl) (Nat.le_of_ble_eq_true rfl) rfl ?_
          refine c_183 r3 (by omega)  (fun q10 M10 r10 f10 => rt_i ?_)
          refine x_goto i_220_88 ?_
          refine x_iret i_220_96 rn_220 rfl ?_
          exact k.ap (by omega) r10 ((f1.trans f3).trans f10)
      · have k := kp g7 k
        refine x_aload_n i_220_70 rfl ?_
        refine x_iload_n i_220_71 rfl ?_
        refine x_vh (r := []) (lj := [some _, some _]) i_220_72 w_181 ob_170 [_] rfl rfl (Nat.le_of_ble_eq_true rfl) (Nat.le_of_ble_eq_true rfl) rfl ?_
        refine c_181 r3 (by omega)  (fun q11 M11 r11 f11 => rt_i ?_)
        refine x_goto i_220_75 ?_
        refine x_iret i_220_96 rn_220 rfl ?_
        exact k.ap (by omega) r11 ((f1.trans f3).trans f11)
  · have k := kn g2 k
    refine x_aload_n i_220_12 rfl ?_
    refine x_vh (r := []) (lj := [some _, none]) i_220_13 w_222 ob_170 [] rfl rfl (Nat.le_of_ble_eq_true rfl) (Nat.le_of_ble_eq_true rfl) rfl ?_
    refine c_222 r1  (by omega) (fun q12 M12 r12 f12 => rt_i ?_)
    refine x_istore_n i_220_16 rfl rfl ?_
    refine x_iload_n i_220_17 rfl ?_
    refine x_zneN (by omega) i_220_18 ⟨fun g13 => ?_, fun g13 => ?_⟩
    · have k := kn g13 k
      refine x_iload_n i_220_29 rfl ?_
      refine n_iconst 1 i_220_30 rfl ?_
      refine x_ineN (by omega) (by omega) i_220_31 ⟨fun g14 => ?_, fun g14 => ?_⟩
      · have k := kn g14 k
        refine x_aload_n i_220_42 rfl ?_
        refine x_iload_n i_220_43 rfl ?_
        refine x_vh (r := []) (lj := [some _, some _, none]) i_220_44 w_178 ob_170 [_] rfl rfl (Nat.le_of_ble_eq_true rfl) (Nat.le_of_ble_eq_true rfl) rfl ?_
        refine c_178 r12 (by omega)  (fun q15 M15 r15 f15 => rt_i ?_)
        refine x_iret i_220_47 rn_220 rfl ?_
        exact k.ap (by omega) r15 ((f1.trans f12).trans f15)
      · have k := kp g14 k
        refine x_aload_n i_220_34 rfl ?_
        refine x_iload_n i_220_35 rfl ?_
        refine x_vh (r := []) (lj := [some _, some _, none, none]) i_220_36 w_176 ob_170 [_] rfl rfl (Nat.le_of_ble_eq_true rfl) (Nat.le_of_ble_eq_true rfl) rfl ?_
        refine c_176 r12 (by omega)  (fun q16 M16 r16 f16 => rt_i ?_)
        refine x_goto i_220_39 ?_
        refine x_iret i_220_47 rn_220 rfl ?_
        exact k.ap (by omega) r16 ((f1.trans f12).trans f16)
    · have k := kp g13 k
      refine x_aload_n i_220_21 rfl ?_
      refine x_iload_n i_220_22 rfl ?_
      refine x_vh (r := []) (lj := [some _, some _, none, none]) i_220_23 w_164 ob_170 [_] rfl rfl (Nat.le_of_ble_eq_true rfl) (Nat.le_of_ble_eq_true rfl) rfl ?_
      refine c_164 r12 (by omega)  (fun q17 M17 r17 f17 => rt_i ?_)
      refine x_goto i_220_26 ?_
      refine x_iret i_220_47 rn_220 rfl ?_
      exact k.ap (by omega) r17 ((f1.trans f12).trans f17)
