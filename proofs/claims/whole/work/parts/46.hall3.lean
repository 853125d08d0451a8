/-! the methods of the class's hall as functions, by program -/
def s_72 (n : Nat) (A : HA) (l1 : Nat) (l2 : Nat) : Nat × HA :=
  (if 2147483648 ≤ l1 then (4294967294, A) else (if n ≤ l1 then (4294967294, A) else (if (isK l2) = 0 then (4294967293, A) else (if (A 1 l1) = 1 then (if (lw n ((s_69 n A 1) &&& (s_74 n A (A 2 l1)))) = l1 then (if (s_76 n A ((s_69 n A 1) &&& (s_74 n A (A 2 l1)))) = 0 then (if (s_77 n A ((s_69 n A 1) &&& (s_74 n A (A 2 l1))) ((s_69 n A 1) &&& (s_74 n A (A 2 l1)))) = 4294967295 then (4294967292, A) else (s_77 n A ((s_69 n A 1) &&& (s_74 n A (A 2 l1))) ((s_69 n A 1) &&& (s_74 n A (A 2 l1))), (s_79 n A l1 ((s_69 n A 1) &&& (s_74 n A (A 2 l1))) (s_77 n A ((s_69 n A 1) &&& (s_74 n A (A 2 l1))) ((s_69 n A 1) &&& (s_74 n A (A 2 l1)))) l2))) else (4294967291, A)) else (4294967291, A)) else (4294967291, A)))))
theorem c_72 {sc : a_Sc} {fd : Nat} {M : a_Mm} {A : HA} {Q : Option Value → a_Hp → Prop} {b n : Nat} (hb : HB b) (r : RC M b n A) {l1 l2 : Nat} (hl1 : l1 ≤ 4294967295) (hl2 : l2 ≤ 4294967295) (k : KR 4294967295 Q sc fd M b n (s_72 n A l1 l2)) : a_Ex 72 0 [some (.ref b), some (.int (N l1)), some (.int (N l2)), none, none] [] (a_hp sc fd M) Q := by
  unfold s_72 at k
  have n5 := r.n5
  have n2 := r.n2
  refine x_aload_n i_72_0 rfl ?_
  refine x_iload_n i_72_1 rfl ?_
  refine x_vh (r := []) (lj := [some _, some _]) i_72_2 w_53 hb.ob [_] rfl rfl (Nat.le_of_ble_eq_true rfl) (Nat.le_of_ble_eq_true rfl) rfl ?_
  refine x_iload_n i_53_0 rfl ?_
  refine n_zltU (by omega) i_53_1 ⟨fun g1 => ?_, fun g1 => ?_⟩
  · have k := kp g1 k
    refine n_iconst 0 i_53_16 rfl ?_
    refine x_iretI i_53_17 rn_53 (by decide +kernel) ?_
    refine x_ifF i_72_5 (by decide +kernel) ?_
    refine n_bipush 4294967294 i_72_8 rfl ?_
    refine x_iret i_72_10 rn_72 rfl ?_
    exact k (show 4294967294 ≤ 4294967295 by omega) _ r (FR.refl _ _)
  · have k := kn g1 k
    refine x_iload_n i_53_4 rfl ?_
    refine x_aload_n i_53_5 rfl ?_
    refine n_gi (x := n) i_53_6 hb.ob gf_1_0.1 gf_1_0.2 r.nn ?_
    refine x_igeN (by omega) (by omega) i_53_9 ⟨fun g2 => ?_, fun g2 => ?_⟩
    · have k := kp g2 k
      refine n_iconst 0 i_53_16 rfl ?_
      refine x_iretI i_53_17 rn_53 (by decide +kernel) ?_
      refine x_ifF i_72_5 (by decide +kernel) ?_
      refine n_bipush 4294967294 i_72_8 rfl ?_
      refine x_iret i_72_10 rn_72 rfl ?_
      exact k (show 4294967294 ≤ 4294967295 by omega) _ r (FR.refl _ _)
    · have k := kn g2 k
      refine n_iconst 1 i_53_12 rfl ?_
      refine x_goto i_53_13 ?_
      refine x_iretI i_53_17 rn_53 (by decide +kernel) ?_
      refine x_ifT i_72_5 (by decide +kernel) ?_
      refine x_aload_n i_72_11 rfl ?_
      refine x_iload_n i_72_12 rfl ?_
      refine x_vh (r := []) (lj := [some _, some _]) i_72_13 w_58 hb.ob [_] rfl rfl (Nat.le_of_ble_eq_true rfl) (Nat.le_of_ble_eq_true rfl) rfl ?_
      refine c_58 hb r (by omega)  (fun q3 => rt_i ?_)
      refine x_zneN (by omega) i_72_16 ⟨fun g4 => ?_, fun g4 => ?_⟩
      · have k := kn g4 k
        refine x_aload_n i_72_22 rfl ?_
        refine x_gr i_72_23 hb.ob gr_1_6.1 gr_1_6.2 (hb.r6 _) ?_
        refine x_iload_n i_72_26 rfl ?_
        refine n_ld (x := A 1 l1) i_72_27 hb.a2 (by omega) (by omega) (r.a1 (by omega)) ?_
        refine n_iconst 1 i_72_28 rfl ?_
        have q5 : A 1 l1 ≤ 2 := r.w.b1 (by omega)
        refine x_ieqN (by omega) (by omega) i_72_29 ⟨fun g6 => ?_, fun g6 => ?_⟩
        · have k := kp g6 k
          refine x_aload_n i_72_35 rfl ?_
          refine x_aload_n i_72_36 rfl ?_
          refine x_gr i_72_37 hb.ob gr_1_7.1 gr_1_7.2 (hb.r7 _) ?_
          refine x_iload_n i_72_40 rfl ?_
          refine n_ld (x := A 2 l1) i_72_41 hb.a3 (by omega) (by omega) (r.a2 (by omega)) ?_
          refine x_vh (r := []) (lj := [some _, some _]) i_72_42 w_73 hb.ob [_] rfl rfl (Nat.le_of_ble_eq_true rfl) (Nat.le_of_ble_eq_true rfl) rfl ?_
          refine x_aload_n i_73_0 rfl ?_
          refine x_vh (r := []) (lj := [some _]) i_73_1 w_68 hb.ob [] rfl rfl (Nat.le_of_ble_eq_true rfl) (Nat.le_of_ble_eq_true rfl) rfl ?_
          refine x_aload_n i_68_0 rfl ?_
          refine n_iconst 1 i_68_1 rfl ?_
          refine x_vh (r := []) (lj := [some _, some _, none, none]) i_68_2 w_69 hb.ob [_] rfl rfl (Nat.le_of_ble_eq_true rfl) (Nat.le_of_ble_eq_true rfl) rfl ?_
          refine c_69 hb r (by omega)  (fun q7 => rt_i ?_)
          refine x_iretI i_68_5 rn_68 rfl ?_
          refine x_aload_n i_73_4 rfl ?_
          refine x_iload_n i_73_5 rfl ?_
          have q8 : A 2 l1 ≤ 4 := r.w.b2 (by omega)
          refine x_vh (r := [_]) (lj := [some _, some _, none, none]) i_73_6 w_74 hb.ob [_] rfl rfl (Nat.le_of_ble_eq_true rfl) (Nat.le_of_ble_eq_true rfl) rfl ?_
          refine c_74 hb r (by omega)  (fun q9 => rt_i ?_)
          refine x_iandN i_73_9 ?_
          refine x_iretI i_73_10 rn_73 rfl ?_
          refine x_istore_n i_72_45 rfl rfl ?_
          refine x_aload_n i_72_46 rfl ?_
          refine x_iload_n i_72_47 rfl ?_
          have q10 : (s_69 n A 1) &&& (s_74 n A (A 2 l1)) ≤ 31 := Nat.le_trans Nat.and_le_left (by omega)
          refine x_vh (r := []) (lj := [some _, some _, none]) i_72_48 w_75 hb.ob [_] rfl rfl (Nat.le_of_ble_eq_true rfl) (Nat.le_of_ble_eq_true rfl) rfl ?_
          refine k_75 hb r (by omega)  (fun q11 => rt_i ?_)
          have m75 := lw_le n ((s_69 n A 1) &&& (s_74 n A (A 2 l1))) n5
          refine x_iload_n i_72_51 rfl ?_
          refine n_ineU (by omega) (by omega) i_72_52 ⟨fun g12 => ?_, fun g12 => ?_⟩
          · have k := kn g12 k
            refine n_bipush 4294967291 i_72_63 rfl ?_
            refine x_iret i_72_65 rn_72 rfl ?_
            exact k (show 4294967291 ≤ 4294967295 by omega) _ r (FR.refl _ _)
          · have k := kp g12 k
            refine x_aload_n i_72_55 rfl ?_
            refine x_iload_n i_72_56 rfl ?_
            refine x_vh (r := []) (lj := [some _, some _]) i_72_57 w_76 hb.ob [_] rfl rfl (Nat.le_of_ble_eq_true rfl) (Nat.le_of_ble_eq_true rfl) rfl ?_
            refine c_76 hb r (by omega)  (fun q13 => rt_i ?_)
            refine x_zeqN (by omega) i_72_60 ⟨fun g14 => ?_, fun g14 => ?_⟩
            · have k := kp g14 k
              refine x_aload_n i_72_66 rfl ?_
              refine x_iload_n i_72_67 rfl ?_
              refine x_iload_n i_72_68 rfl ?_
              refine x_vh (r := []) (lj := [some _, some _, some _, none, none]) i_72_69 w_77 hb.ob [_, _] rfl rfl (Nat.le_of_ble_eq_true rfl) (Nat.le_of_ble_eq_true rfl) rfl ?_
              refine c_77 hb r (by omega) (by omega)  (fun q15 => rt_i ?_)
              have m77 := s77_le n A ((s_69 n A 1) &&& (s_74 n A (A 2 l1))) ((s_69 n A 1) &&& (s_74 n A (A 2 l1)))
              have m77f := s77_f n A ((s_69 n A 1) &&& (s_74 n A (A 2 l1))) ((s_69 n A 1) &&& (s_74 n A (A 2 l1)))
              refine x_istore i_72_72 rfl rfl ?_
              refine x_iload i_72_74 rfl ?_
              refine n_iconst 4294967295 i_72_76 rfl ?_
              refine n_ineU (by omega) (by omega) i_72_77 ⟨fun g16 => ?_, fun g16 => ?_⟩
              · have k := kn g16 k
                refine x_aload_n i_72_83 rfl ?_
                refine x_iload_n i_72_84 rfl ?_
                refine x_iload_n i_72_85 rfl ?_
                refine x_iload i_72_86 rfl ?_
                refine x_iload_n i_72_88 rfl ?_
                refine x_vh (r := []) (lj := [some _, some _, some _, some _, some _, none, none]) i_72_89 w_79 hb.ob [_, _, _, _] rfl rfl (Nat.le_of_ble_eq_true rfl) (Nat.le_of_ble_eq_true rfl) rfl ?_
                refine c_79 hb r (by omega) (by omega) (by omega) (by omega)  (fun M17 r17 f17 => rt_n ?_)
                refine x_iload i_72_92 rfl ?_
                refine x_iret i_72_94 rn_72 rfl ?_
                exact k (show s_77 n A ((s_69 n A 1) &&& (s_74 n A (A 2 l1))) ((s_69 n A 1) &&& (s_74 n A (A 2 l1))) ≤ 4294967295 by omega) _ r17 f17
              · have k := kp g16 k
                refine n_bipush 4294967292 i_72_80 rfl ?_
                refine x_iret i_72_82 rn_72 rfl ?_
                exact k (show 4294967292 ≤ 4294967295 by omega) _ r (FR.refl _ _)
            · have k := kn g14 k
              refine n_bipush 4294967291 i_72_63 rfl ?_
              refine x_iret i_72_65 rn_72 rfl ?_
              exact k (show 4294967291 ≤ 4294967295 by omega) _ r (FR.refl _ _)
        · have k := kn g6 k
          refine n_bipush 4294967291 i_72_32 rfl ?_
          refine x_iret i_72_34 rn_72 rfl ?_
          exact k (show 4294967291 ≤ 4294967295 by omega) _ r (FR.refl _ _)
      · have k := kp g4 k
        refine n_bipush 4294967293 i_72_19 rfl ?_
        refine x_iret i_72_21 rn_72 rfl ?_
        exact k (show 4294967293 ≤ 4294967295 by omega) _ r (FR.refl _ _)
def s_80 (n : Nat) (A : HA) (l1 : Nat) : Nat × HA :=
  (if 2147483648 ≤ l1 then (4294967294, A) else (if n ≤ l1 then (4294967294, A) else (if (A 1 l1) = 2 then (if (A 0 l1) = 0 then (((s_81 n ((s_62 n A l1 5 63)) l1)) 0 l1, (s_81 n ((s_62 n A l1 5 63)) l1)) else (if (A 0 l1) = 4 then (((s_81 n A l1)) 0 l1, (s_81 n A l1)) else (if (A 0 l1) = 5 then (((s_81 n A l1)) 0 l1, (s_81 n A l1)) else (if ((s_55 n A ((s_69 n A 1) &&& (s_74 n A (A 2 l1)))) &&& 48) = 0 then (if (A 6 1) = 0 then (4294967292, A) else (((s_81 n A l1)) 0 l1, (s_81 n A l1))) else (if ((s_55 n A ((s_69 n A 1) &&& (s_74 n A (A 2 l1)))) &&& 16) = 0 then (((s_81 n ((s_62 n A l1 5 63)) l1)) 0 l1, (s_81 n ((s_62 n A l1 5 63)) l1)) else (((s_81 n ((s_62 n A l1 4 63)) l1)) 0 l1, (s_81 n ((s_62 n A l1 4 63)) l1))))))) else (4294967291, A))))
theorem c_80 {sc : a_Sc} {fd : Nat} {M : a_Mm} {A : HA} {Q : Option Value → a_Hp → Prop} {b n : Nat} (hb : HB b) (r : RC M b n A) {l1 : Nat} (hl1 : l1 ≤ 4294967295) (k : KR 4294967295 Q sc fd M b n (s_80 n A l1)) : a_Ex 80 0 [some (.ref b), some (.int (N l1)), none] [] (a_hp sc fd M) Q := by
  unfold s_80 at k
  have n5 := r.n5
  have n2 := r.n2
  refine x_aload_n i_80_0 rfl ?_
  refine x_iload_n i_80_1 rfl ?_
  refine x_vh (r := []) (lj := [some _, some _]) i_80_2 w_53 hb.ob [_] rfl rfl (Nat.le_of_ble_eq_true rfl) (Nat.le_of_ble_eq_true rfl) rfl ?_
  refine x_iload_n i_53_0 rfl ?_
  refine n_zltU (by omega) i_53_1 ⟨fun g1 => ?_, fun g1 => ?_⟩
  · have k := kp g1 k
    refine n_iconst 0 i_53_16 rfl ?_
    refine x_iretI i_53_17 rn_53 (by decide +kernel) ?_
    refine x_ifF i_80_5 (by decide +kernel) ?_
    refine n_bipush 4294967294 i_80_8 rfl ?_
    refine x_iret i_80_10 rn_80 rfl ?_
    exact k (show 4294967294 ≤ 4294967295 by omega) _ r (FR.refl _ _)
  · have k := kn g1 k
    refine x_iload_n i_53_4 rfl ?_
    refine x_aload_n i_53_5 rfl ?_
    refine n_gi (x := n) i_53_6 hb.ob gf_1_0.1 gf_1_0.2 r.nn ?_
    refine x_igeN (by omega) (by omega) i_53_9 ⟨fun g2 => ?_, fun g2 => ?_⟩
    · have k := kp g2 k
      refine n_iconst 0 i_53_16 rfl ?_
      refine x_iretI i_53_17 rn_53 (by decide +kernel) ?_
      refine x_ifF i_80_5 (by decide +kernel) ?_
      refine n_bipush 4294967294 i_80_8 rfl ?_
      refine x_iret i_80_10 rn_80 rfl ?_
      exact k (show 4294967294 ≤ 4294967295 by omega) _ r (FR.refl _ _)
    · have k := kn g2 k
      refine n_iconst 1 i_53_12 rfl ?_
      refine x_goto i_53_13 ?_
      refine x_iretI i_53_17 rn_53 (by decide +kernel) ?_
      refine x_ifT i_80_5 (by decide +kernel) ?_
      refine x_aload_n i_80_11 rfl ?_
      refine x_gr i_80_12 hb.ob gr_1_6.1 gr_1_6.2 (hb.r6 _) ?_
      refine x_iload_n i_80_15 rfl ?_
      refine n_ld (x := A 1 l1) i_80_16 hb.a2 (by omega) (by omega) (r.a1 (by omega)) ?_
      refine n_iconst 2 i_80_17 rfl ?_
      have q3 : A 1 l1 ≤ 2 := r.w.b1 (by omega)
      refine x_ieqN (by omega) (by omega) i_80_18 ⟨fun g4 => ?_, fun g4 => ?_⟩
      · have k := kp g4 k
        refine x_aload_n i_80_24 rfl ?_
        refine x_aload_n i_80_25 rfl ?_
        refine x_aload_n i_80_26 rfl ?_
        refine x_gr i_80_27 hb.ob gr_1_7.1 gr_1_7.2 (hb.r7 _) ?_
        refine x_iload_n i_80_30 rfl ?_
        refine n_ld (x := A 2 l1) i_80_31 hb.a3 (by omega) (by omega) (r.a2 (by omega)) ?_
        refine x_vh (r := [_]) (lj := [some _, some _]) i_80_32 w_73 hb.ob [_] rfl rfl (Nat.le_of_ble_eq_true rfl) (Nat.le_of_ble_eq_true rfl) rfl ?_
        refine x_aload_n i_73_0 rfl ?_
        refine x_vh (r := []) (lj := [some _]) i_73_1 w_68 hb.ob [] rfl rfl (Nat.le_of_ble_eq_true rfl) (Nat.le_of_ble_eq_true rfl) rfl ?_
        refine x_aload_n i_68_0 rfl ?_
        refine n_iconst 1 i_68_1 rfl ?_
        refine x_vh (r := []) (lj := [some _, some _, none, none]) i_68_2 w_69 hb.ob [_] rfl rfl (Nat.le_of_ble_eq_true rfl) (Nat.le_of_ble_eq_true rfl) rfl ?_
        refine c_69 hb r (by omega)  (fun q5 => rt_i ?_)
        refine x_iretI i_68_5 rn_68 rfl ?_
        refine x_aload_n i_73_4 rfl ?_
        refine x_iload_n i_73_5 rfl ?_
        have q6 : A 2 l1 ≤ 4 := r.w.b2 (by omega)
        refine x_vh (r := [_]) (lj := [some _, some _, none, none]) i_73_6 w_74 hb.ob [_] rfl rfl (Nat.le_of_ble_eq_true rfl) (Nat.le_of_ble_eq_true rfl) rfl ?_
        refine c_74 hb r (by omega)  (fun q7 => rt_i ?_)
        refine x_iandN i_73_9 ?_
        refine x_iretI i_73_10 rn_73 rfl ?_
        have q8 : (s_69 n A 1) &&& (s_74 n A (A 2 l1)) ≤ 31 := Nat.le_trans Nat.and_le_left (by omega)
        refine x_vh (r := []) (lj := [some _, some _, none, none]) i_80_35 w_55 hb.ob [_] rfl rfl (Nat.le_of_ble_eq_true rfl) (Nat.le_of_ble_eq_true rfl) rfl ?_
        refine c_55 hb r (by omega)  (fun q9 => rt_i ?_)
        refine x_istore_n i_80_38 rfl rfl ?_
        refine x_aload_n i_80_39 rfl ?_
        refine x_gr i_80_40 hb.ob gr_1_5.1 gr_1_5.2 (hb.r5 _) ?_
        refine x_iload_n i_80_43 rfl ?_
        refine n_ld (x := A 0 l1) i_80_44 hb.a1 (by omega) (by omega) (r.a0 (by omega)) ?_
        have q10 : A 0 l1 ≤ 5 := r.w.b0 (by omega)
        refine x_zneN (by omega) i_80_45 ⟨fun g11 => ?_, fun g11 => ?_⟩
        · have k := kn g11 k
          refine x_aload_n i_80_59 rfl ?_
          refine x_gr i_80_60 hb.ob gr_1_5.1 gr_1_5.2 (hb.r5 _) ?_
          refine x_iload_n i_80_63 rfl ?_
          refine n_ld (x := A 0 l1) i_80_64 hb.a1 (by omega) (by omega) (r.a0 (by omega)) ?_
          refine n_iconst 4 i_80_65 rfl ?_
          refine x_ieqN (by omega) (by omega) i_80_66 ⟨fun g12 => ?_, fun g12 => ?_⟩
          · have k := kp g12 k
            refine x_aload_n i_80_118 rfl ?_
            refine x_iload_n i_80_119 rfl ?_
            refine x_vh (r := []) (lj := [some _, some _, none, none]) i_80_120 w_81 hb.ob [_] rfl rfl (Nat.le_of_ble_eq_true rfl) (Nat.le_of_ble_eq_true rfl) rfl ?_
            refine c_81 hb r (by omega)  (fun M13 r13 f13 => rt_n ?_)
            have m81 := s81_f1 n A l1
            refine x_aload_n i_80_123 rfl ?_
            refine x_gr i_80_124 hb.ob gr_1_5.1 gr_1_5.2 (hb.r5 _) ?_
            refine x_iload_n i_80_127 rfl ?_
            refine n_ld (x := ((s_81 n A l1)) 0 l1) i_80_128 hb.a1 (by omega) (by omega) (r13.a0 (by omega)) ?_
            have q14 : ((s_81 n A l1)) 0 l1 ≤ 5 := r13.w.b0 (by omega)
            refine x_iret i_80_129 rn_80 rfl ?_
            exact k (show ((s_81 n A l1)) 0 l1 ≤ 4294967295 by omega) _ r13 f13
          · have k := kn g12 k
            refine x_aload_n i_80_69 rfl ?_
            refine x_gr i_80_70 hb.ob gr_1_5.1 gr_1_5.2 (hb.r5 _) ?_
            refine x_iload_n i_80_73 rfl ?_
            refine n_ld (x := A 0 l1) i_80_74 hb.a1 (by omega) (by omega) (r.a0 (by omega)) ?_
            refine n_iconst 5 i_80_75 rfl ?_
            refine x_ieqN (by omega) (by omega) i_80_76 ⟨fun g15 => ?_, fun g15 => ?_⟩
            · have k := kp g15 k
              refine x_aload_n i_80_118 rfl ?_
              refine x_iload_n i_80_119 rfl ?_
              refine x_vh (r := []) (lj := [some _, some _, none, none]) i_80_120 w_81 hb.ob [_] rfl rfl (Nat.le_of_ble_eq_true rfl) (Nat.le_of_ble_eq_true rfl) rfl ?_
              refine c_81 hb r (by omega)  (fun M16 r16 f16 => rt_n ?_)
              have m81 := s81_f1 n A l1
              refine x_aload_n i_80_123 rfl ?_
              refine x_gr i_80_124 hb.ob gr_1_5.1 gr_1_5.2 (hb.r5 _) ?_
              refine x_iload_n i_80_127 rfl ?_
              refine n_ld (x := ((s_81 n A l1)) 0 l1) i_80_128 hb.a1 (by omega) (by omega) (r16.a0 (by omega)) ?_
              have q17 : ((s_81 n A l1)) 0 l1 ≤ 5 := r16.w.b0 (by omega)
              refine x_iret i_80_129 rn_80 rfl ?_
              exact k (show ((s_81 n A l1)) 0 l1 ≤ 4294967295 by omega) _ r16 f16
            · have k := kn g15 k
              refine x_iload_n i_80_79 rfl ?_
              refine n_bipush 48 i_80_80 rfl ?_
              refine x_iandN i_80_82 ?_
              have q18 : (s_55 n A ((s_69 n A 1) &&& (s_74 n A (A 2 l1)))) &&& 48 ≤ 48 := Nat.le_trans Nat.and_le_right (by omega)
              refine x_zeqN (by omega) i_80_83 ⟨fun g19 => ?_, fun g19 => ?_⟩
              · have k := kp g19 k
                refine x_aload_n i_80_108 rfl ?_
                refine n_gi (x := A 6 1) i_80_109 hb.ob gf_1_1.1 gf_1_1.2 r.f1 ?_
                have q20 : A 6 1 ≤ 1 := r.w.f1
                refine x_zneN (by omega) i_80_112 ⟨fun g21 => ?_, fun g21 => ?_⟩
                · have k := kn g21 k
                  refine x_aload_n i_80_118 rfl ?_
                  refine x_iload_n i_80_119 rfl ?_
                  refine x_vh (r := []) (lj := [some _, some _, none, none]) i_80_120 w_81 hb.ob [_] rfl rfl (Nat.le_of_ble_eq_true rfl) (Nat.le_of_ble_eq_true rfl) rfl ?_
                  refine c_81 hb r (by omega)  (fun M22 r22 f22 => rt_n ?_)
                  have m81 := s81_f1 n A l1
                  refine x_aload_n i_80_123 rfl ?_
                  refine x_gr i_80_124 hb.ob gr_1_5.1 gr_1_5.2 (hb.r5 _) ?_
                  refine x_iload_n i_80_127 rfl ?_
                  refine n_ld (x := ((s_81 n A l1)) 0 l1) i_80_128 hb.a1 (by omega) (by omega) (r22.a0 (by omega)) ?_
                  have q23 : ((s_81 n A l1)) 0 l1 ≤ 5 := r22.w.b0 (by omega)
                  refine x_iret i_80_129 rn_80 rfl ?_
                  exact k (show ((s_81 n A l1)) 0 l1 ≤ 4294967295 by omega) _ r22 f22
                · have k := kp g21 k
                  refine n_bipush 4294967292 i_80_115 rfl ?_
                  refine x_iret i_80_117 rn_80 rfl ?_
                  exact k (show 4294967292 ≤ 4294967295 by omega) _ r (FR.refl _ _)
              · have k := kn g19 k
                refine x_aload_n i_80_86 rfl ?_
                refine x_iload_n i_80_87 rfl ?_
                refine x_iload_n i_80_88 rfl ?_
                refine n_bipush 16 i_80_89 rfl ?_
                refine x_iandN i_80_91 ?_
                have q24 : (s_55 n A ((s_69 n A 1) &&& (s_74 n A (A 2 l1)))) &&& 16 ≤ 16 := Nat.le_trans Nat.and_le_right (by omega)
                refine x_zeqN (by omega) i_80_92 ⟨fun g25 => ?_, fun g25 => ?_⟩
                · have k := kp g25 k
                  refine n_iconst 5 i_80_99 rfl ?_
                  refine n_bipush 63 i_80_100 rfl ?_
                  refine x_vh (r := []) (lj := [some _, some _, some _, some _, none, none]) i_80_102 w_62 hb.ob [_, _, _] rfl rfl (Nat.le_of_ble_eq_true rfl) (Nat.le_of_ble_eq_true rfl) rfl ?_
                  refine c_62 hb r (by omega) (by omega) (by omega)  (fun M26 r26 f26 => rt_n ?_)
                  refine x_goto i_80_105 ?_
                  refine x_aload_n i_80_118 rfl ?_
                  refine x_iload_n i_80_119 rfl ?_
                  refine x_vh (r := []) (lj := [some _, some _, none, none]) i_80_120 w_81 hb.ob [_] rfl rfl (Nat.le_of_ble_eq_true rfl) (Nat.le_of_ble_eq_true rfl) rfl ?_
                  refine c_81 hb r26 (by omega)  (fun M27 r27 f27 => rt_n ?_)
                  have m81 := s81_f1 n ((s_62 n A l1 5 63)) l1
                  refine x_aload_n i_80_123 rfl ?_
                  refine x_gr i_80_124 hb.ob gr_1_5.1 gr_1_5.2 (hb.r5 _) ?_
                  refine x_iload_n i_80_127 rfl ?_
                  refine n_ld (x := ((s_81 n ((s_62 n A l1 5 63)) l1)) 0 l1) i_80_128 hb.a1 (by omega) (by omega) (r27.a0 (by omega)) ?_
                  have q28 : ((s_81 n ((s_62 n A l1 5 63)) l1)) 0 l1 ≤ 5 := r27.w.b0 (by omega)
                  refine x_iret i_80_129 rn_80 rfl ?_
                  exact k (show ((s_81 n ((s_62 n A l1 5 63)) l1)) 0 l1 ≤ 4294967295 by omega) _ r27 (f26.trans f27)
                · have k := kn g25 k
                  refine n_iconst 4 i_80_95 rfl ?_
                  refine x_goto i_80_96 ?_
                  refine n_bipush 63 i_80_100 rfl ?_
                  refine x_vh (r := []) (lj := [some _, some _, some _, some _, none, none]) i_80_102 w_62 hb.ob [_, _, _] rfl rfl (Nat.le_of_ble_eq_true rfl) (Nat.le_of_ble_eq_true rfl) rfl ?_
                  refine c_62 hb r (by omega) (by omega) (by omega)  (fun M29 r29 f29 => rt_n ?_)
                  refine x_goto i_80_105 ?_
                  refine x_aload_n i_80_118 rfl ?_
                  refine x_iload_n i_80_119 rfl ?_
                  refine x_vh (r := []) (lj := [some _, some _, none, none]) i_80_120 w_81 hb.ob [_] rfl rfl (Nat.le_of_ble_eq_true rfl) (Nat.le_of_ble_eq_true rfl) rfl ?_
                  refine c_81 hb r29 (by omega)  (fun M30 r30 f30 => rt_n ?_)
                  have m81 := s81_f1 n ((s_62 n A l1 4 63)) l1
                  refine x_aload_n i_80_123 rfl ?_
                  refine x_gr i_80_124 hb.ob gr_1_5.1 gr_1_5.2 (hb.r5 _) ?_
                  refine x_iload_n i_80_127 rfl ?_
                  refine n_ld (x := ((s_81 n ((s_62 n A l1 4 63)) l1)) 0 l1) i_80_128 hb.a1 (by omega) (by omega) (r30.a0 (by omega)) ?_
                  have q31 : ((s_81 n ((s_62 n A l1 4 63)) l1)) 0 l1 ≤ 5 := r30.w.b0 (by omega)
                  refine x_iret i_80_129 rn_80 rfl ?_
                  exact k (show ((s_81 n ((s_62 n A l1 4 63)) l1)) 0 l1 ≤ 4294967295 by omega) _ r30 (f29.trans f30)
        · have k := kp g11 k
          refine x_aload_n i_80_48 rfl ?_
          refine x_iload_n i_80_49 rfl ?_
          refine n_iconst 5 i_80_50 rfl ?_
          refine n_bipush 63 i_80_51 rfl ?_
          refine x_vh (r := []) (lj := [some _, some _, some _, some _, none, none]) i_80_53 w_62 hb.ob [_, _, _] rfl rfl (Nat.le_of_ble_eq_true rfl) (Nat.le_of_ble_eq_true rfl) rfl ?_
          refine c_62 hb r (by omega) (by omega) (by omega)  (fun M32 r32 f32 => rt_n ?_)
          refine x_goto i_80_56 ?_
          refine x_aload_n i_80_118 rfl ?_
          refine x_iload_n i_80_119 rfl ?_
          refine x_vh (r := []) (lj := [some _, some _, none, none]) i_80_120 w_81 hb.ob [_] rfl rfl (Nat.le_of_ble_eq_true rfl) (Nat.le_of_ble_eq_true rfl) rfl ?_
          refine c_81 hb r32 (by omega)  (fun M33 r33 f33 => rt_n ?_)
          have m81 := s81_f1 n ((s_62 n A l1 5 63)) l1
          refine x_aload_n i_80_123 rfl ?_
          refine x_gr i_80_124 hb.ob gr_1_5.1 gr_1_5.2 (hb.r5 _) ?_
          refine x_iload_n i_80_127 rfl ?_
          refine n_ld (x := ((s_81 n ((s_62 n A l1 5 63)) l1)) 0 l1) i_80_128 hb.a1 (by omega) (by omega) (r33.a0 (by omega)) ?_
          have q34 : ((s_81 n ((s_62 n A l1 5 63)) l1)) 0 l1 ≤ 5 := r33.w.b0 (by omega)
          refine x_iret i_80_129 rn_80 rfl ?_
          exact k (show ((s_81 n ((s_62 n A l1 5 63)) l1)) 0 l1 ≤ 4294967295 by omega) _ r33 (f32.trans f33)
      · have k := kn g4 k
        refine n_bipush 4294967291 i_80_21 rfl ?_
        refine x_iret i_80_23 rn_80 rfl ?_
        exact k (show 4294967291 ≤ 4294967295 by omega) _ r (FR.refl _ _)
def s_82_85 (n : Nat) : Nat → HA → Nat → Nat → Nat → Nat → Nat × HA
  | 0, A, _, _, _, _ => (0, A)
  | d + 1, A, l1, l4, l5, l6 => (if n ≤ l6 then (if (s_76 n A l4) = 0 then (s_77 n A l5 l4, (s_79 n A (lw n l5) l4 (s_77 n A l5 l4) l1)) else (4, A)) else (if ((l4 >>> l6) &&& 1) = 1 then (s_82_85 n d (s_81 n A l6) l1 l4 l5 (l6 + 1)) else (s_82_85 n d A l1 l4 l5 (l6 + 1))))
theorem c_82_85 {sc : a_Sc} {fd : Nat} {Q : Option Value → a_Hp → Prop} {b n : Nat} (hb : HB b) : ∀ (d : Nat) {M : a_Mm} {A : HA} {l1 l4 l5 l6 : Nat} (r : RC M b n A) (hl1 : l1 ≤ 4294967295) (hl4 : l4 ≤ 31) (hl5 : l5 ≤ 31) (hl6 : l6 ≤ 5) (i0 : l6 ≤ n) (i1 : lw n l5 ≤ 4) (i2 : A 6 1 = 0) (hm : n - l6 < d) (k : KR 4294967295 Q sc fd M b n (s_82_85 n d A l1 l4 l5 l6)), a_Ex 82 85 [some (.ref b), some (.int (N l1)), none, none, some (.int (N l4)), some (.int (N l5)), some (.int (N l6))] [] (a_hp sc fd M) Q := by
  intro d
  induction d with
  | zero => intro M A l1 l4 l5 l6 r hl1 hl4 hl5 hl6 i0 i1 i2 hm k; exact absurd hm (Nat.not_lt_zero _)
  | succ d ih =>
      intro M A l1 l4 l5 l6 r hl1 hl4 hl5 hl6 i0 i1 i2 hm k
      unfold s_82_85 at k
      have n5 := r.n5
      have n2 := r.n2
      refine x_iload i_82_85 rfl ?_
      refine x_aload_n i_82_87 rfl ?_
      refine n_gi (x := n) i_82_88 hb.ob gf_1_0.1 gf_1_0.2 r.nn ?_
      refine x_igeN (by omega) (by omega) i_82_91 ⟨fun g1 => ?_, fun g1 => ?_⟩
      · have k := kp g1 k
        refine x_aload_n i_82_117 rfl ?_
        refine x_iload i_82_118 rfl ?_
        refine x_vh (r := []) (lj := [some _, some _]) i_82_120 w_76 hb.ob [_] rfl rfl (Nat.le_of_ble_eq_true rfl) (Nat.le_of_ble_eq_true rfl) rfl ?_
        refine c_76 hb r (by omega)  (fun q2 => rt_i ?_)
        refine x_zeqN (by omega) i_82_123 ⟨fun g3 => ?_, fun g3 => ?_⟩
        · have k := kp g3 k
          refine x_aload_n i_82_128 rfl ?_
          refine x_iload i_82_129 rfl ?_
          refine x_iload i_82_131 rfl ?_
          refine x_vh (r := []) (lj := [some _, some _, some _, none, none]) i_82_133 w_77 hb.ob [_, _] rfl rfl (Nat.le_of_ble_eq_true rfl) (Nat.le_of_ble_eq_true rfl) rfl ?_
          refine c_77 hb r (by omega) (by omega)  (fun q4 => rt_i ?_)
          have m77 := s77_le n A l5 l4
          have m77f := s77_f n A l5 l4
          refine x_istore i_82_136 rfl rfl ?_
          refine x_aload_n i_82_138 rfl ?_
          refine x_aload_n i_82_139 rfl ?_
          refine x_iload i_82_140 rfl ?_
          refine x_vh (r := [_]) (lj := [some _, some _, none]) i_82_142 w_75 hb.ob [_] rfl rfl (Nat.le_of_ble_eq_true rfl) (Nat.le_of_ble_eq_true rfl) rfl ?_
          refine k_75 hb r (by omega)  (fun q5 => rt_i ?_)
          have m75 := lw_le n l5 n5
          refine x_iload i_82_145 rfl ?_
          refine x_iload i_82_147 rfl ?_
          refine x_iload_n i_82_149 rfl ?_
          refine x_vh (r := []) (lj := [some _, some _, some _, some _, some _, none, none]) i_82_150 w_79 hb.ob [_, _, _, _] rfl rfl (Nat.le_of_ble_eq_true rfl) (Nat.le_of_ble_eq_true rfl) rfl ?_
          refine c_79 hb r (by omega) (by omega) (by omega) (by omega)  (fun M6 r6 f6 => rt_n ?_)
          refine x_iload i_82_153 rfl ?_
          refine x_iret i_82_155 rn_82 rfl ?_
          exact k (show s_77 n A l5 l4 ≤ 4294967295 by omega) _ r6 f6
        · have k := kn g3 k
          refine n_iconst 4 i_82_126 rfl ?_
          refine x_iret i_82_127 rn_82 rfl ?_
          exact k (show 4 ≤ 4294967295 by omega) _ r (FR.refl _ _)
      · have k := kn g1 k
        refine x_iload i_82_94 rfl ?_
        refine x_iload i_82_96 rfl ?_
        refine x_ishrN (by omega) (by omega) i_82_98 ?_
        refine n_iconst 1 i_82_99 rfl ?_
        refine x_iandN i_82_100 ?_
        refine n_iconst 1 i_82_101 rfl ?_
        have q7 : l4 >>> l6 ≤ l4 := shr_le _ _
        have q8 : (l4 >>> l6) &&& 1 ≤ 1 := Nat.le_trans Nat.and_le_right (by omega)
        refine x_ineN (by omega) (by omega) i_82_102 ⟨fun g9 => ?_, fun g9 => ?_⟩
        · have k := kn g9 k
          refine n_iinc 1 i_82_111 rfl rfl rfl rfl ?_
          refine x_goto i_82_114 ?_
          exact ih r (by omega) (by omega) (by omega) (by omega) (by omega) (by omega) (by omega) (by omega) k
        · have k := kp g9 k
          refine x_aload_n i_82_105 rfl ?_
          refine x_iload i_82_106 rfl ?_
          refine x_vh (r := []) (lj := [some _, some _, none, none]) i_82_108 w_81 hb.ob [_] rfl rfl (Nat.le_of_ble_eq_true rfl) (Nat.le_of_ble_eq_true rfl) rfl ?_
          refine c_81 hb r (by omega)  (fun M10 r10 f10 => rt_n ?_)
          have m81 := s81_f1 n A l6
          refine n_iinc 1 i_82_111 rfl rfl rfl rfl ?_
          refine x_goto i_82_114 ?_
          exact ih r10 (by omega) (by omega) (by omega) (by omega) (by omega) (by omega) (by omega) (by omega) (k.tr f10)
def s_82 (n : Nat) (A : HA) (l1 : Nat) : Nat × HA :=
  (if (isK l1) = 0 then (4294967293, A) else (if (A 6 1) = 0 then (if (s_69 n A 1) = 0 then (if (lw n (s_69 n A 2)) = 4294967295 then (4294967290, A) else (if (s_83 n A ((s_69 n A 2) &&& (s_74 n A (A 2 (lw n (s_69 n A 2)))))) = 0 then (4294967292, A) else (s_82_85 n (6) A l1 ((s_69 n A 2) &&& (s_74 n A (A 2 (lw n (s_69 n A 2))))) (s_84 n A ((s_69 n A 2) &&& (s_74 n A (A 2 (lw n (s_69 n A 2)))))) 0))) else (4294967291, A)) else (4294967291, A)))
theorem c_82 {sc : a_Sc} {fd : Nat} {M : a_Mm} {A : HA} {Q : Option Value → a_Hp → Prop} {b n : Nat} (hb : HB b) (r : RC M b n A) {l1 : Nat} (hl1 : l1 ≤ 4294967295) (k : KR 4294967295 Q sc fd M b n (s_82 n A l1)) : a_Ex 82 0 [some (.ref b), some (.int (N l1)), none, none, none, none, none] [] (a_hp sc fd M) Q := by
  unfold s_82 at k
  have n5 := r.n5
  have n2 := r.n2
  refine x_aload_n i_82_0 rfl ?_
  refine x_iload_n i_82_1 rfl ?_
  refine x_vh (r := []) (lj := [some _, some _]) i_82_2 w_58 hb.ob [_] rfl rfl (Nat.le_of_ble_eq_true rfl) (Nat.le_of_ble_eq_true rfl) rfl ?_
  refine c_58 hb r (by omega)  (fun q1 => rt_i ?_)
  refine x_zneN (by omega) i_82_5 ⟨fun g2 => ?_, fun g2 => ?_⟩
  · have k := kn g2 k
    refine x_aload_n i_82_11 rfl ?_
    refine n_gi (x := A 6 1) i_82_12 hb.ob gf_1_1.1 gf_1_1.2 r.f1 ?_
    have q3 : A 6 1 ≤ 1 := r.w.f1
    refine x_zneN (by omega) i_82_15 ⟨fun g4 => ?_, fun g4 => ?_⟩
    · have k := kn g4 k
      refine n_bipush 4294967291 i_82_25 rfl ?_
      refine x_iret i_82_27 rn_82 rfl ?_
      exact k (show 4294967291 ≤ 4294967295 by omega) _ r (FR.refl _ _)
    · have k := kp g4 k
      refine x_aload_n i_82_18 rfl ?_
      refine x_vh (r := []) (lj := [some _]) i_82_19 w_68 hb.ob [] rfl rfl (Nat.le_of_ble_eq_true rfl) (Nat.le_of_ble_eq_true rfl) rfl ?_
      refine x_aload_n i_68_0 rfl ?_
      refine n_iconst 1 i_68_1 rfl ?_
      refine x_vh (r := []) (lj := [some _, some _, none, none]) i_68_2 w_69 hb.ob [_] rfl rfl (Nat.le_of_ble_eq_true rfl) (Nat.le_of_ble_eq_true rfl) rfl ?_
      refine c_69 hb r (by omega)  (fun q5 => rt_i ?_)
      refine x_iretI i_68_5 rn_68 rfl ?_
      refine x_zeqN (by omega) i_82_22 ⟨fun g6 => ?_, fun g6 => ?_⟩
      · have k := kp g6 k
        refine x_aload_n i_82_28 rfl ?_
        refine n_iconst 2 i_82_29 rfl ?_
        refine x_vh (r := []) (lj := [some _, some _, none, none]) i_82_30 w_69 hb.ob [_] rfl rfl (Nat.le_of_ble_eq_true rfl) (Nat.le_of_ble_eq_true rfl) rfl ?_
        refine c_69 hb r (by omega)  (fun q7 => rt_i ?_)
        refine x_istore_n i_82_33 rfl rfl ?_
        refine x_aload_n i_82_34 rfl ?_
        refine x_iload_n i_82_35 rfl ?_
        refine x_vh (r := []) (lj := [some _, some _, none]) i_82_36 w_75 hb.ob [_] rfl rfl (Nat.le_of_ble_eq_true rfl) (Nat.le_of_ble_eq_true rfl) rfl ?_
        refine k_75 hb r (by omega)  (fun q8 => rt_i ?_)
        have m75 := lw_le n (s_69 n A 2) n5
        refine x_istore_n i_82_39 rfl rfl ?_
        refine x_iload_n i_82_40 rfl ?_
        refine n_iconst 4294967295 i_82_41 rfl ?_
        refine n_ineU (by omega) (by omega) i_82_42 ⟨fun g9 => ?_, fun g9 => ?_⟩
        · have k := kn g9 k
          refine x_iload_n i_82_48 rfl ?_
          refine x_aload_n i_82_49 rfl ?_
          refine x_aload_n i_82_50 rfl ?_
          refine x_gr i_82_51 hb.ob gr_1_7.1 gr_1_7.2 (hb.r7 _) ?_
          refine x_iload_n i_82_54 rfl ?_
          refine n_ld (x := A 2 (lw n (s_69 n A 2))) i_82_55 hb.a3 (by omega) (by omega) (r.a2 (by omega)) ?_
          have q10 : A 2 (lw n (s_69 n A 2)) ≤ 4 := r.w.b2 (by omega)
          refine x_vh (r := [_]) (lj := [some _, some _, none, none]) i_82_56 w_74 hb.ob [_] rfl rfl (Nat.le_of_ble_eq_true rfl) (Nat.le_of_ble_eq_true rfl) rfl ?_
          refine c_74 hb r (by omega)  (fun q11 => rt_i ?_)
          refine x_iandN i_82_59 ?_
          refine x_istore i_82_60 rfl rfl ?_
          refine x_aload_n i_82_62 rfl ?_
          refine x_iload i_82_63 rfl ?_
          have q12 : (s_69 n A 2) &&& (s_74 n A (A 2 (lw n (s_69 n A 2)))) ≤ 31 := Nat.le_trans Nat.and_le_left (by omega)
          refine x_vh (r := []) (lj := [some _, some _, none]) i_82_65 w_83 hb.ob [_] rfl rfl (Nat.le_of_ble_eq_true rfl) (Nat.le_of_ble_eq_true rfl) rfl ?_
          refine c_83 hb r (by omega)  (fun q13 => rt_i ?_)
          have m83 := s83_84 n A ((s_69 n A 2) &&& (s_74 n A (A 2 (lw n (s_69 n A 2))))) n5
          refine x_zneN (by omega) i_82_68 ⟨fun g14 => ?_, fun g14 => ?_⟩
          · have k := kn g14 k
            refine x_aload_n i_82_74 rfl ?_
            refine x_iload i_82_75 rfl ?_
            refine x_vh (r := []) (lj := [some _, some _, none, none]) i_82_77 w_84 hb.ob [_] rfl rfl (Nat.le_of_ble_eq_true rfl) (Nat.le_of_ble_eq_true rfl) rfl ?_
            refine c_84 hb r (by omega)  (fun q15 => rt_i ?_)
            refine x_istore i_82_80 rfl rfl ?_
            refine n_iconst 0 i_82_82 rfl ?_
            refine x_istore i_82_83 rfl rfl ?_
            refine x_wk (a_wk.s (a_wk.s (a_wk.d rfl (a_wk.d rfl (a_wk.s (a_wk.s (a_wk.s a_wk.n))))))) ?_
            exact c_82_85 hb (6) r (by omega) (by omega) (by omega) (by omega) (by omega) (by omega) (by omega) (by omega) k
          · have k := kp g14 k
            refine n_bipush 4294967292 i_82_71 rfl ?_
            refine x_iret i_82_73 rn_82 rfl ?_
            exact k (show 4294967292 ≤ 4294967295 by omega) _ r (FR.refl _ _)
        · have k := kp g9 k
          refine n_bipush 4294967290 i_82_45 rfl ?_
          refine x_iret i_82_47 rn_82 rfl ?_
          exact k (show 4294967290 ≤ 4294967295 by omega) _ r (FR.refl _ _)
      · have k := kn g6 k
        refine n_bipush 4294967291 i_82_25 rfl ?_
        refine x_iret i_82_27 rn_82 rfl ?_
        exact k (show 4294967291 ≤ 4294967295 by omega) _ r (FR.refl _ _)
  · have k := kp g2 k
    refine n_bipush 4294967293 i_82_8 rfl ?_
    refine x_iret i_82_10 rn_82 rfl ?_
    exact k (show 4294967293 ≤ 4294967295 by omega) _ r (FR.refl _ _)
def s_94_38 (n : Nat) : Nat → HA → Nat → Nat → Nat → Nat → HA
  | 0, A, _, _, _, _ => A
  | d + 1, A, l2, l3, l4, l5 => (if l5 = 0 then ((clr A)) else (s_94_38 n d (a_up (a_up (a_up A 2 (l5 - 1) ((l2 >>> (l5 - 1)) &&& 1)) 1 (l5 - 1) ((l3 >>> (l5 - 1)) &&& 1)) 0 (l5 - 1) (l4 % 6)) l2 l3 (l4 / 6) (l5 - 1)))
theorem c_94_38 {sc : a_Sc} {fd : Nat} {Q : Option Value → a_Hp → Prop} {b n : Nat} (hb : HB b) : ∀ (d : Nat) {M : a_Mm} {A : HA} {l2 l3 l4 l5 : Nat} (r : RC M b n A) (hl2 : l2 ≤ 6) (hl3 : l3 ≤ 7) (hl4 : l4 ≤ 215) (hl5 : l5 ≤ 5) (i0 : l5 ≤ n) (hm : l5 < d) (k : KV Q sc fd M b n (s_94_38 n d A l2 l3 l4 l5)), a_Ex 94 38 [some (.ref b), none, some (.int (N l2)), some (.int (N l3)), some (.int (N l4)), some (.int (N (l5 + 4294967295)))] [] (a_hp sc fd M) Q := by
  intro d
  induction d with
  | zero => intro M A l2 l3 l4 l5 r hl2 hl3 hl4 hl5 i0 hm k; exact absurd hm (Nat.not_lt_zero _)
  | succ d ih =>
      intro M A l2 l3 l4 l5 r hl2 hl3 hl4 hl5 i0 hm k
      unfold s_94_38 at k
      have n5 := r.n5
      have n2 := r.n2
      refine x_iload i_94_38 rfl ?_
      refine n_declt (by omega) i_94_40 ⟨fun g1 => ?_, fun g1 => ?_⟩
      · have k := kp g1 k
        refine x_aload_n i_94_94 rfl ?_
        refine x_gr i_94_95 hb.ob gr_1_11.1 gr_1_11.2 (hb.r11 _) ?_
        refine x_vh (r := []) (lj := [some _]) i_94_98 w_97 hb.lg [] rfl rfl (Nat.le_of_ble_eq_true rfl) (Nat.le_of_ble_eq_true rfl) rfl ?_
        refine c_97 hb r   (fun M2 r2 f2 => rt_n ?_)
        refine x_vret i_94_101 rn_94 ?_
        exact k _ r2 f2
      · have k := kn g1 k
        rw [N_dec (x := l5) (by omega)]
        refine x_aload_n i_94_43 rfl ?_
        refine x_gr i_94_44 hb.ob gr_1_7.1 gr_1_7.2 (hb.r7 _) ?_
        refine x_iload i_94_47 rfl ?_
        refine x_iload_n i_94_49 rfl ?_
        refine x_iload i_94_50 rfl ?_
        refine x_ishrN (by omega) (by omega) i_94_52 ?_
        refine n_iconst 1 i_94_53 rfl ?_
        refine x_iandN i_94_54 ?_
        have q3 : l2 >>> (l5 - 1) ≤ l2 := shr_le _ _
        have q4 : (l2 >>> (l5 - 1)) &&& 1 ≤ 1 := Nat.le_trans Nat.and_le_right (by omega)
        refine n_stC i_94_55 hb r 2 (by omega) (by omega) (show (l2 >>> (l5 - 1)) &&& 1 < 5 by omega) rfl (fun M5 r5 f5 => ?_)
        refine x_aload_n i_94_56 rfl ?_
        refine x_gr i_94_57 hb.ob gr_1_6.1 gr_1_6.2 (hb.r6 _) ?_
        refine x_iload i_94_60 rfl ?_
        refine x_iload_n i_94_62 rfl ?_
        refine x_iload i_94_63 rfl ?_
        refine x_ishrN (by omega) (by omega) i_94_65 ?_
        refine n_iconst 1 i_94_66 rfl ?_
        refine x_iandN i_94_67 ?_
        have q6 : l3 >>> (l5 - 1) ≤ l3 := shr_le _ _
        have q7 : (l3 >>> (l5 - 1)) &&& 1 ≤ 1 := Nat.le_trans Nat.and_le_right (by omega)
        refine n_stC i_94_68 hb r5 1 (by omega) (by omega) (show (l3 >>> (l5 - 1)) &&& 1 < 3 by omega) rfl (fun M8 r8 f8 => ?_)
        refine x_aload_n i_94_69 rfl ?_
        refine x_gr i_94_70 hb.ob gr_1_5.1 gr_1_5.2 (hb.r5 _) ?_
        refine x_iload i_94_73 rfl ?_
        refine x_iload i_94_75 rfl ?_
        refine n_bipush 6 i_94_77 rfl ?_
        refine x_iremN (by omega) (by omega) (by omega) i_94_79 ?_
        refine n_stC i_94_80 hb r8 0 (by omega) (by omega) (show l4 % 6 < 6 by omega) rfl (fun M9 r9 f9 => ?_)
        refine x_iload i_94_81 rfl ?_
        refine n_bipush 6 i_94_83 rfl ?_
        refine x_idivN (by omega) (by omega) (by omega) i_94_85 ?_
        refine x_istore i_94_86 rfl rfl ?_
        refine n_iinc 4294967295 i_94_88 rfl rfl rfl rfl ?_
        refine x_goto i_94_91 ?_
        exact ih r9 (by omega) (by omega) (by omega) (by omega) (by omega) (by omega) (k.tr ((f5.trans f8).trans f9))
def s_94 (n : Nat) (A : HA) (l1 : Nat) : HA :=
  (s_94_38 n (6) (a_up A 6 2 (l1 % 4)) (((l1 / 4) % 4) * 2) ((l1 / 16) % 8) (l1 / 128) n)
theorem c_94 {sc : a_Sc} {fd : Nat} {M : a_Mm} {A : HA} {Q : Option Value → a_Hp → Prop} {b n : Nat} (hb : HB b) (r : RC M b n A) {l1 : Nat} (hl1 : l1 ≤ 27647) (k : KV Q sc fd M b n (s_94 n A l1)) : a_Ex 94 0 [some (.ref b), some (.int (N l1)), none, none, none, none] [] (a_hp sc fd M) Q := by
  unfold s_94 at k
  have n5 := r.n5
  have n2 := r.n2
  refine x_aload_n i_94_0 rfl ?_
  refine x_iload_n i_94_1 rfl ?_
  refine n_iconst 4 i_94_2 rfl ?_
  refine x_iremN (by omega) (by omega) (by omega) i_94_3 ?_
  refine n_pC i_94_4 hb r pf_1_2 (by omega) (by unfold okf; omega) (fun M1 r1 f1 => ?_)
  refine x_iload_n i_94_7 rfl ?_
  refine n_iconst 4 i_94_8 rfl ?_
  refine x_idivN (by omega) (by omega) (by omega) i_94_9 ?_
  refine n_iconst 4 i_94_10 rfl ?_
  refine x_iremN (by omega) (by omega) (by omega) i_94_11 ?_
  refine n_iconst 2 i_94_12 rfl ?_
  refine x_imulN i_94_13 ?_
  refine x_istore_n i_94_14 rfl rfl ?_
  refine x_iload_n i_94_15 rfl ?_
  refine n_bipush 16 i_94_16 rfl ?_
  refine x_idivN (by omega) (by omega) (by omega) i_94_18 ?_
  refine n_bipush 8 i_94_19 rfl ?_
  refine x_iremN (by omega) (by omega) (by omega) i_94_21 ?_
  refine x_istore_n i_94_22 rfl rfl ?_
  refine x_iload_n i_94_23 rfl ?_
  refine n_sipush 128 i_94_24 rfl ?_
  refine x_idivN (by omega) (by omega) (by omega) i_94_27 ?_
  refine x_istore i_94_28 rfl rfl ?_
  refine x_aload_n i_94_30 rfl ?_
  refine n_gi (x := n) i_94_31 hb.ob gf_1_0.1 gf_1_0.2 r1.nn ?_
  refine n_iconst 1 i_94_34 rfl ?_
  refine n_isubK 4294967295 rfl i_94_35 ?_
  refine x_istore i_94_36 rfl rfl ?_
  refine x_wk (a_wk.s (a_wk.d rfl (a_wk.s (a_wk.s (a_wk.s (a_wk.s a_wk.n)))))) ?_
  exact c_94_38 hb (6) r1 (by omega) (by omega) (by omega) (by omega) (by omega) (by omega) (k.tr f1)
