/-! what the class tells of its hall, by program -/
def s_14 (n : Nat) (A : HA) (l1 : Nat) (l2 : Nat) : Nat :=
  (if 2147483648 ≤ l1 then 4294967294 else (if n ≤ l1 then 4294967294 else (if l2 = 0 then A 0 l1 else (if l2 = 1 then A 1 l1 else (if l2 = 2 then A 2 l1 else (if l2 = 3 then A 3 l1 else (if l2 = 4 then A 4 l1 else (if l2 = 5 then A 5 l1 else 4294967294))))))))
theorem c_14 {sc : a_Sc} {fd : Nat} {M : a_Mm} {A : HA} {Q : Option Value → a_Hp → Prop} {n : Nat} (r : RC M 1 n A) {l1 l2 : Nat} (hl1 : l1 ≤ 4294967295) (hl2 : l2 ≤ 4294967295) (k : KP 4294967295 Q (a_hp sc fd M) (s_14 n A l1 l2)) : a_Ex 14 0 [some (.ref 0), some (.int (N l1)), some (.int (N l2))] [] (a_hp sc fd M) Q := by
  unfold s_14 at k
  have n5 := r.n5
  have n2 := r.n2
  refine x_aload_n i_14_0 rfl ?_
  refine x_gr i_14_1 ob_0 gr_0_0.1 gr_0_0.2 (rt_0_0 _) ?_
  refine x_iload_n i_14_4 rfl ?_
  refine x_vh (r := []) (lj := [some _, some _]) i_14_5 w_53 hb1.ob [_] rfl rfl (Nat.le_of_ble_eq_true rfl) (Nat.le_of_ble_eq_true rfl) rfl ?_
  refine x_iload_n i_53_0 rfl ?_
  refine n_zltU (by omega) i_53_1 ⟨fun g1 => ?_, fun g1 => ?_⟩
  · have k := kp g1 k
    refine n_iconst 0 i_53_16 rfl ?_
    refine x_iretI i_53_17 rn_53 (by decide +kernel) ?_
    refine x_ifF i_14_8 (by decide +kernel) ?_
    refine n_bipush 4294967294 i_14_11 rfl ?_
    refine x_iret i_14_13 rn_14 rfl ?_
    exact k (show 4294967294 ≤ 4294967295 by omega)
  · have k := kn g1 k
    refine x_iload_n i_53_4 rfl ?_
    refine x_aload_n i_53_5 rfl ?_
    refine n_gi (x := n) i_53_6 hb1.ob gf_1_0.1 gf_1_0.2 r.nn ?_
    refine x_igeN (by omega) (by omega) i_53_9 ⟨fun g2 => ?_, fun g2 => ?_⟩
    · have k := kp g2 k
      refine n_iconst 0 i_53_16 rfl ?_
      refine x_iretI i_53_17 rn_53 (by decide +kernel) ?_
      refine x_ifF i_14_8 (by decide +kernel) ?_
      refine n_bipush 4294967294 i_14_11 rfl ?_
      refine x_iret i_14_13 rn_14 rfl ?_
      exact k (show 4294967294 ≤ 4294967295 by omega)
    · have k := kn g2 k
      refine n_iconst 1 i_53_12 rfl ?_
      refine x_goto i_53_13 ?_
      refine x_iretI i_53_17 rn_53 (by decide +kernel) ?_
      refine x_ifT i_14_8 (by decide +kernel) ?_
      refine x_iload_n i_14_14 rfl ?_
      by_cases g3 : l2 = 0
      · have k := kp g3 k
        refine x_tswI (t := 52) (off := 37) i_14_15 (by rw [g3]; decide +kernel) (by rw [g3]; decide +kernel) (by decide) ?_
        refine x_aload_n i_14_52 rfl ?_
        refine x_gr i_14_53 ob_0 gr_0_0.1 gr_0_0.2 (rt_0_0 _) ?_
        refine x_gr i_14_56 hb1.ob gr_1_5.1 gr_1_5.2 (hb1.r5 _) ?_
        refine x_iload_n i_14_59 rfl ?_
        refine n_ld (x := A 0 l1) i_14_60 hb1.a1 (by omega) (by omega) (r.a0 (by omega)) ?_
        have q4 : A 0 l1 ≤ 5 := r.w.b0 (by omega)
        refine x_iret i_14_61 rn_14 rfl ?_
        exact k (show A 0 l1 ≤ 4294967295 by omega)
      have k := kn g3 k
      by_cases g5 : l2 = 1
      · have k := kp g5 k
        refine x_tswI (t := 62) (off := 47) i_14_15 (by rw [g5]; decide +kernel) (by rw [g5]; decide +kernel) (by decide) ?_
        refine x_aload_n i_14_62 rfl ?_
        refine x_gr i_14_63 ob_0 gr_0_0.1 gr_0_0.2 (rt_0_0 _) ?_
        refine x_gr i_14_66 hb1.ob gr_1_6.1 gr_1_6.2 (hb1.r6 _) ?_
        refine x_iload_n i_14_69 rfl ?_
        refine n_ld (x := A 1 l1) i_14_70 hb1.a2 (by omega) (by omega) (r.a1 (by omega)) ?_
        have q6 : A 1 l1 ≤ 2 := r.w.b1 (by omega)
        refine x_iret i_14_71 rn_14 rfl ?_
        exact k (show A 1 l1 ≤ 4294967295 by omega)
      have k := kn g5 k
      by_cases g7 : l2 = 2
      · have k := kp g7 k
        refine x_tswI (t := 72) (off := 57) i_14_15 (by rw [g7]; decide +kernel) (by rw [g7]; decide +kernel) (by decide) ?_
        refine x_aload_n i_14_72 rfl ?_
        refine x_gr i_14_73 ob_0 gr_0_0.1 gr_0_0.2 (rt_0_0 _) ?_
        refine x_gr i_14_76 hb1.ob gr_1_7.1 gr_1_7.2 (hb1.r7 _) ?_
        refine x_iload_n i_14_79 rfl ?_
        refine n_ld (x := A 2 l1) i_14_80 hb1.a3 (by omega) (by omega) (r.a2 (by omega)) ?_
        have q8 : A 2 l1 ≤ 4 := r.w.b2 (by omega)
        refine x_iret i_14_81 rn_14 rfl ?_
        exact k (show A 2 l1 ≤ 4294967295 by omega)
      have k := kn g7 k
      by_cases g9 : l2 = 3
      · have k := kp g9 k
        refine x_tswI (t := 82) (off := 67) i_14_15 (by rw [g9]; decide +kernel) (by rw [g9]; decide +kernel) (by decide) ?_
        refine x_aload_n i_14_82 rfl ?_
        refine x_gr i_14_83 ob_0 gr_0_0.1 gr_0_0.2 (rt_0_0 _) ?_
        refine x_gr i_14_86 hb1.ob gr_1_8.1 gr_1_8.2 (hb1.r8 _) ?_
        refine x_iload_n i_14_89 rfl ?_
        refine n_ld (x := A 3 l1) i_14_90 hb1.a4 (by omega) (by omega) (r.a3 (by omega)) ?_
        have q10 : A 3 l1 ≤ 1 := r.w.b3 (by omega)
        refine x_iret i_14_91 rn_14 rfl ?_
        exact k (show A 3 l1 ≤ 4294967295 by omega)
      have k := kn g9 k
      by_cases g11 : l2 = 4
      · have k := kp g11 k
        refine x_tswI (t := 92) (off := 77) i_14_15 (by rw [g11]; decide +kernel) (by rw [g11]; decide +kernel) (by decide) ?_
        refine x_aload_n i_14_92 rfl ?_
        refine x_gr i_14_93 ob_0 gr_0_0.1 gr_0_0.2 (rt_0_0 _) ?_
        refine x_gr i_14_96 hb1.ob gr_1_9.1 gr_1_9.2 (hb1.r9 _) ?_
        refine x_iload_n i_14_99 rfl ?_
        refine n_ld (x := A 4 l1) i_14_100 hb1.a5 (by omega) (by omega) (r.a4 (by omega)) ?_
        have q12 : A 4 l1 ≤ 3 := r.w.b4 (by omega)
        refine x_iret i_14_101 rn_14 rfl ?_
        exact k (show A 4 l1 ≤ 4294967295 by omega)
      have k := kn g11 k
      by_cases g13 : l2 = 5
      · have k := kp g13 k
        refine x_tswI (t := 102) (off := 87) i_14_15 (by rw [g13]; decide +kernel) (by rw [g13]; decide +kernel) (by decide) ?_
        refine x_aload_n i_14_102 rfl ?_
        refine x_gr i_14_103 ob_0 gr_0_0.1 gr_0_0.2 (rt_0_0 _) ?_
        refine x_gr i_14_106 hb1.ob gr_1_10.1 gr_1_10.2 (hb1.r10 _) ?_
        refine x_iload_n i_14_109 rfl ?_
        refine n_ld (x := A 5 l1) i_14_110 hb1.a6 (by omega) (by omega) (r.a5 (by omega)) ?_
        have q14 : A 5 l1 ≤ 31 := r.w.b5 (by omega)
        refine x_iret i_14_111 rn_14 rfl ?_
        exact k (show A 5 l1 ≤ 4294967295 by omega)
      have k := kn g13 k
      refine x_tswO (t := 112) i_14_15 (n_tswO (lo := 0) (hi := 5) (by omega) (by omega)) (by decide) ?_
      refine n_bipush 4294967294 i_14_112 rfl ?_
      refine x_iret i_14_114 rn_14 rfl ?_
      exact k (show 4294967294 ≤ 4294967295 by omega)
def s_15 (n : Nat) (A : HA) (l1 : Nat) : Nat :=
  (if 2147483648 ≤ l1 then 4294967294 else (if n ≤ l1 then 4294967294 else (if (A 1 l1) = 1 then s_85 n A ((s_69 n A 1) &&& (s_74 n A (A 2 l1))) else 4294967291)))
theorem c_15 {sc : a_Sc} {fd : Nat} {M : a_Mm} {A : HA} {Q : Option Value → a_Hp → Prop} {n : Nat} (r : RC M 1 n A) {l1 : Nat} (hl1 : l1 ≤ 4294967295) (k : KP 4294967295 Q (a_hp sc fd M) (s_15 n A l1)) : a_Ex 15 0 [some (.ref 0), some (.int (N l1))] [] (a_hp sc fd M) Q := by
  unfold s_15 at k
  have n5 := r.n5
  have n2 := r.n2
  refine x_aload_n i_15_0 rfl ?_
  refine x_gr i_15_1 ob_0 gr_0_0.1 gr_0_0.2 (rt_0_0 _) ?_
  refine x_iload_n i_15_4 rfl ?_
  refine x_vh (r := []) (lj := [some _, some _]) i_15_5 w_53 hb1.ob [_] rfl rfl (Nat.le_of_ble_eq_true rfl) (Nat.le_of_ble_eq_true rfl) rfl ?_
  refine x_iload_n i_53_0 rfl ?_
  refine n_zltU (by omega) i_53_1 ⟨fun g1 => ?_, fun g1 => ?_⟩
  · have k := kp g1 k
    refine n_iconst 0 i_53_16 rfl ?_
    refine x_iretI i_53_17 rn_53 (by decide +kernel) ?_
    refine x_ifF i_15_8 (by decide +kernel) ?_
    refine n_bipush 4294967294 i_15_11 rfl ?_
    refine x_iret i_15_13 rn_15 rfl ?_
    exact k (show 4294967294 ≤ 4294967295 by omega)
  · have k := kn g1 k
    refine x_iload_n i_53_4 rfl ?_
    refine x_aload_n i_53_5 rfl ?_
    refine n_gi (x := n) i_53_6 hb1.ob gf_1_0.1 gf_1_0.2 r.nn ?_
    refine x_igeN (by omega) (by omega) i_53_9 ⟨fun g2 => ?_, fun g2 => ?_⟩
    · have k := kp g2 k
      refine n_iconst 0 i_53_16 rfl ?_
      refine x_iretI i_53_17 rn_53 (by decide +kernel) ?_
      refine x_ifF i_15_8 (by decide +kernel) ?_
      refine n_bipush 4294967294 i_15_11 rfl ?_
      refine x_iret i_15_13 rn_15 rfl ?_
      exact k (show 4294967294 ≤ 4294967295 by omega)
    · have k := kn g2 k
      refine n_iconst 1 i_53_12 rfl ?_
      refine x_goto i_53_13 ?_
      refine x_iretI i_53_17 rn_53 (by decide +kernel) ?_
      refine x_ifT i_15_8 (by decide +kernel) ?_
      refine x_aload_n i_15_14 rfl ?_
      refine x_gr i_15_15 ob_0 gr_0_0.1 gr_0_0.2 (rt_0_0 _) ?_
      refine x_gr i_15_18 hb1.ob gr_1_6.1 gr_1_6.2 (hb1.r6 _) ?_
      refine x_iload_n i_15_21 rfl ?_
      refine n_ld (x := A 1 l1) i_15_22 hb1.a2 (by omega) (by omega) (r.a1 (by omega)) ?_
      refine n_iconst 1 i_15_23 rfl ?_
      have q3 : A 1 l1 ≤ 2 := r.w.b1 (by omega)
      refine x_ieqN (by omega) (by omega) i_15_24 ⟨fun g4 => ?_, fun g4 => ?_⟩
      · have k := kp g4 k
        refine x_aload_n i_15_30 rfl ?_
        refine x_gr i_15_31 ob_0 gr_0_0.1 gr_0_0.2 (rt_0_0 _) ?_
        refine x_aload_n i_15_34 rfl ?_
        refine x_gr i_15_35 ob_0 gr_0_0.1 gr_0_0.2 (rt_0_0 _) ?_
        refine x_aload_n i_15_38 rfl ?_
        refine x_gr i_15_39 ob_0 gr_0_0.1 gr_0_0.2 (rt_0_0 _) ?_
        refine x_gr i_15_42 hb1.ob gr_1_7.1 gr_1_7.2 (hb1.r7 _) ?_
        refine x_iload_n i_15_45 rfl ?_
        refine n_ld (x := A 2 l1) i_15_46 hb1.a3 (by omega) (by omega) (r.a2 (by omega)) ?_
        refine x_vh (r := [_]) (lj := [some _, some _]) i_15_47 w_73 hb1.ob [_] rfl rfl (Nat.le_of_ble_eq_true rfl) (Nat.le_of_ble_eq_true rfl) rfl ?_
        refine x_aload_n i_73_0 rfl ?_
        refine x_vh (r := []) (lj := [some _]) i_73_1 w_68 hb1.ob [] rfl rfl (Nat.le_of_ble_eq_true rfl) (Nat.le_of_ble_eq_true rfl) rfl ?_
        refine x_aload_n i_68_0 rfl ?_
        refine n_iconst 1 i_68_1 rfl ?_
        refine x_vh (r := []) (lj := [some _, some _, none, none]) i_68_2 w_69 hb1.ob [_] rfl rfl (Nat.le_of_ble_eq_true rfl) (Nat.le_of_ble_eq_true rfl) rfl ?_
        refine c_69 hb1 r (by omega)  (fun q5 => rt_i ?_)
        refine x_iretI i_68_5 rn_68 rfl ?_
        refine x_aload_n i_73_4 rfl ?_
        refine x_iload_n i_73_5 rfl ?_
        have q6 : A 2 l1 ≤ 4 := r.w.b2 (by omega)
        refine x_vh (r := [_]) (lj := [some _, some _, none, none]) i_73_6 w_74 hb1.ob [_] rfl rfl (Nat.le_of_ble_eq_true rfl) (Nat.le_of_ble_eq_true rfl) rfl ?_
        refine c_74 hb1 r (by omega)  (fun q7 => rt_i ?_)
        refine x_iandN i_73_9 ?_
        refine x_iretI i_73_10 rn_73 rfl ?_
        have q8 : (s_69 n A 1) &&& (s_74 n A (A 2 l1)) ≤ 31 := Nat.le_trans Nat.and_le_left (by omega)
        have q9 : (s_69 n A 1) &&& (s_74 n A (A 2 l1)) ≤ (s_69 n A 1) := Nat.and_le_left
        refine x_vh (r := []) (lj := [some _, some _]) i_15_50 w_85 hb1.ob [_] rfl rfl (Nat.le_of_ble_eq_true rfl) (Nat.le_of_ble_eq_true rfl) rfl ?_
        refine c_85 hb1 r (by omega)  (fun q10 => rt_i ?_)
        refine x_iret i_15_53 rn_15 rfl ?_
        exact k (show s_85 n A ((s_69 n A 1) &&& (s_74 n A (A 2 l1))) ≤ 4294967295 by omega)
      · have k := kn g4 k
        refine n_bipush 4294967291 i_15_27 rfl ?_
        refine x_iret i_15_29 rn_15 rfl ?_
        exact k (show 4294967291 ≤ 4294967295 by omega)
theorem s15_n (n : Nat) (A : HA) (l1 : Nat) : ¬ s_15 n A l1 < 2147483648 ∨ l1 < n := by
  unfold s_15
  split
  · left; omega
  · split
    · left; omega
    · right; omega
def s_16 (n : Nat) (A : HA) (l1 : Nat) : Nat :=
  (if 2147483648 ≤ (s_15 n A l1) then s_15 n A l1 else (if (s_15 n A l1) = 2 then 2 * ((pop ((s_69 n A 1) &&& (s_74 n A (A 2 l1)))) + 4294967295) else (if (s_15 n A l1) = 3 then 2 * ((pop ((s_69 n A 1) &&& (s_74 n A (A 2 l1)))) + 4294967295) else (pop ((s_69 n A 1) &&& (s_74 n A (A 2 l1)))) + 4294967295)))
theorem c_16 {sc : a_Sc} {fd : Nat} {M : a_Mm} {A : HA} {Q : Option Value → a_Hp → Prop} {n : Nat} (r : RC M 1 n A) {l1 : Nat} (hl1 : l1 ≤ 4294967295) (k : KQ Q (a_hp sc fd M) (s_16 n A l1)) : a_Ex 16 0 [some (.ref 0), some (.int (N l1)), none, none] [] (a_hp sc fd M) Q := by
  unfold s_16 at k
  have n5 := r.n5
  have n2 := r.n2
  refine x_aload_n i_16_0 rfl ?_
  refine x_iload_n i_16_1 rfl ?_
  refine x_vh (r := []) (lj := [some _, some _]) i_16_2 w_15 ob_0 [_] rfl rfl (Nat.le_of_ble_eq_true rfl) (Nat.le_of_ble_eq_true rfl) rfl ?_
  refine c_15 r (by omega)  (fun q1 => rt_i ?_)
  have m15a := s15_n n A l1
  refine x_istore_n i_16_5 rfl rfl ?_
  refine x_iload_n i_16_6 rfl ?_
  refine n_zgeU (by omega) i_16_7 ⟨fun g2 => ?_, fun g2 => ?_⟩
  · have k := kn g2 k
    refine x_aload_n i_16_12 rfl ?_
    refine x_gr i_16_13 ob_0 gr_0_0.1 gr_0_0.2 (rt_0_0 _) ?_
    refine x_aload_n i_16_16 rfl ?_
    refine x_gr i_16_17 ob_0 gr_0_0.1 gr_0_0.2 (rt_0_0 _) ?_
    refine x_gr i_16_20 hb1.ob gr_1_7.1 gr_1_7.2 (hb1.r7 _) ?_
    refine x_iload_n i_16_23 rfl ?_
    refine n_ld (x := A 2 l1) i_16_24 hb1.a3 (by omega) (by omega) (r.a2 (by omega)) ?_
    refine x_vh (r := []) (lj := [some _, some _]) i_16_25 w_73 hb1.ob [_] rfl rfl (Nat.le_of_ble_eq_true rfl) (Nat.le_of_ble_eq_true rfl) rfl ?_
    refine x_aload_n i_73_0 rfl ?_
    refine x_vh (r := []) (lj := [some _]) i_73_1 w_68 hb1.ob [] rfl rfl (Nat.le_of_ble_eq_true rfl) (Nat.le_of_ble_eq_true rfl) rfl ?_
    refine x_aload_n i_68_0 rfl ?_
    refine n_iconst 1 i_68_1 rfl ?_
    refine x_vh (r := []) (lj := [some _, some _, none, none]) i_68_2 w_69 hb1.ob [_] rfl rfl (Nat.le_of_ble_eq_true rfl) (Nat.le_of_ble_eq_true rfl) rfl ?_
    refine c_69 hb1 r (by omega)  (fun q3 => rt_i ?_)
    refine x_iretI i_68_5 rn_68 rfl ?_
    refine x_aload_n i_73_4 rfl ?_
    refine x_iload_n i_73_5 rfl ?_
    have q4 : A 2 l1 ≤ 4 := r.w.b2 (by omega)
    refine x_vh (r := [_]) (lj := [some _, some _, none, none]) i_73_6 w_74 hb1.ob [_] rfl rfl (Nat.le_of_ble_eq_true rfl) (Nat.le_of_ble_eq_true rfl) rfl ?_
    refine c_74 hb1 r (by omega)  (fun q5 => rt_i ?_)
    refine x_iandN i_73_9 ?_
    refine x_iretI i_73_10 rn_73 rfl ?_
    have q6 : (s_69 n A 1) &&& (s_74 n A (A 2 l1)) ≤ 31 := Nat.le_trans Nat.and_le_left (by omega)
    have q7 : (s_69 n A 1) &&& (s_74 n A (A 2 l1)) ≤ (s_69 n A 1) := Nat.and_le_left
    refine x_sh (r := []) (lj := [some _]) i_16_28 ws_265 [_] rfl rfl (Nat.le_of_ble_eq_true rfl) (Nat.le_of_ble_eq_true rfl) rfl ?_
    refine k_265 (by omega)  (fun q8 => rt_i ?_)
    refine n_iconst 1 i_16_31 rfl ?_
    refine n_isubK 4294967295 rfl i_16_32 ?_
    refine x_istore_n i_16_33 rfl rfl ?_
    refine x_iload_n i_16_34 rfl ?_
    refine n_iconst 2 i_16_35 rfl ?_
    refine x_ieqN (by omega) (by omega) i_16_36 ⟨fun g9 => ?_, fun g9 => ?_⟩
    · have k := kp g9 k
      refine n_iconst 2 i_16_44 rfl ?_
      refine x_iload_n i_16_45 rfl ?_
      refine x_imulN i_16_46 ?_
      refine x_goto i_16_47 ?_
      refine x_iret i_16_51 rn_16 rfl ?_
      exact k
    · have k := kn g9 k
      refine x_iload_n i_16_39 rfl ?_
      refine n_iconst 3 i_16_40 rfl ?_
      refine x_ineN (by omega) (by omega) i_16_41 ⟨fun g10 => ?_, fun g10 => ?_⟩
      · have k := kn g10 k
        refine x_iload_n i_16_50 rfl ?_
        refine x_iret i_16_51 rn_16 rfl ?_
        exact k
      · have k := kp g10 k
        refine n_iconst 2 i_16_44 rfl ?_
        refine x_iload_n i_16_45 rfl ?_
        refine x_imulN i_16_46 ?_
        refine x_goto i_16_47 ?_
        refine x_iret i_16_51 rn_16 rfl ?_
        exact k
  · have k := kp g2 k
    refine x_iload_n i_16_10 rfl ?_
    refine x_iret i_16_11 rn_16 rfl ?_
    exact k
def s_17 (n : Nat) (A : HA) : Nat :=
  s_86 n A (s_69 n A 1)
theorem c_17 {sc : a_Sc} {fd : Nat} {M : a_Mm} {A : HA} {Q : Option Value → a_Hp → Prop} {n : Nat} (r : RC M 1 n A) (k : KP 31 Q (a_hp sc fd M) (s_17 n A)) : a_Ex 17 0 [some (.ref 0)] [] (a_hp sc fd M) Q := by
  unfold s_17 at k
  have n5 := r.n5
  have n2 := r.n2
  refine x_aload_n i_17_0 rfl ?_
  refine x_gr i_17_1 ob_0 gr_0_0.1 gr_0_0.2 (rt_0_0 _) ?_
  refine x_aload_n i_17_4 rfl ?_
  refine x_gr i_17_5 ob_0 gr_0_0.1 gr_0_0.2 (rt_0_0 _) ?_
  refine x_vh (r := [_]) (lj := [some _]) i_17_8 w_68 hb1.ob [] rfl rfl (Nat.le_of_ble_eq_true rfl) (Nat.le_of_ble_eq_true rfl) rfl ?_
  refine x_aload_n i_68_0 rfl ?_
  refine n_iconst 1 i_68_1 rfl ?_
  refine x_vh (r := []) (lj := [some _, some _, none, none]) i_68_2 w_69 hb1.ob [_] rfl rfl (Nat.le_of_ble_eq_true rfl) (Nat.le_of_ble_eq_true rfl) rfl ?_
  refine c_69 hb1 r (by omega)  (fun q1 => rt_i ?_)
  refine x_iretI i_68_5 rn_68 rfl ?_
  refine x_vh (r := []) (lj := [some _, some _, none, none, none]) i_17_11 w_86 hb1.ob [_] rfl rfl (Nat.le_of_ble_eq_true rfl) (Nat.le_of_ble_eq_true rfl) rfl ?_
  refine c_86 hb1 r (by omega)  (fun q2 => rt_i ?_)
  refine x_iret i_17_14 rn_17 rfl ?_
  exact k (show s_86 n A (s_69 n A 1) ≤ 31 by omega)
def s_18 (n : Nat) (A : HA) (l1 : Nat) : Nat :=
  (if (l1 < 1 ∨ 2147483648 ≤ l1) then 4294967294 else (if (ev n) < l1 then 4294967294 else s_85 n A l1))
theorem c_18 {sc : a_Sc} {fd : Nat} {M : a_Mm} {A : HA} {Q : Option Value → a_Hp → Prop} {n : Nat} (r : RC M 1 n A) {l1 : Nat} (hl1 : l1 ≤ 4294967295) (k : KP 4294967295 Q (a_hp sc fd M) (s_18 n A l1)) : a_Ex 18 0 [some (.ref 0), some (.int (N l1))] [] (a_hp sc fd M) Q := by
  unfold s_18 at k
  have n5 := r.n5
  have n2 := r.n2
  refine x_aload_n i_18_0 rfl ?_
  refine x_gr i_18_1 ob_0 gr_0_0.1 gr_0_0.2 (rt_0_0 _) ?_
  refine x_iload_n i_18_4 rfl ?_
  refine x_vh (r := []) (lj := [some _, some _]) i_18_5 w_87 hb1.ob [_] rfl rfl (Nat.le_of_ble_eq_true rfl) (Nat.le_of_ble_eq_true rfl) rfl ?_
  refine x_iload_n i_87_0 rfl ?_
  refine n_iconst 1 i_87_1 rfl ?_
  refine n_iltU (by omega) (by omega) i_87_2 ⟨fun g1 => ?_, fun g1 => ?_⟩
  · have k := kp g1 k
    refine n_iconst 0 i_87_17 rfl ?_
    refine x_iretI i_87_18 rn_87 (by decide +kernel) ?_
    refine x_ifT i_18_8 (by decide +kernel) ?_
    refine n_bipush 4294967294 i_18_22 rfl ?_
    refine x_iret i_18_24 rn_18 rfl ?_
    exact k (show 4294967294 ≤ 4294967295 by omega)
  · have k := kn g1 k
    refine x_iload_n i_87_5 rfl ?_
    refine x_aload_n i_87_6 rfl ?_
    refine x_vh (r := [_]) (lj := [some _]) i_87_7 w_47 hb1.ob [] rfl rfl (Nat.le_of_ble_eq_true rfl) (Nat.le_of_ble_eq_true rfl) rfl ?_
    refine c_47 hb1 r   (fun q2 => rt_i ?_)
    refine x_igtN (by omega) (by omega) i_87_10 ⟨fun g3 => ?_, fun g3 => ?_⟩
    · have k := kp g3 k
      refine n_iconst 0 i_87_17 rfl ?_
      refine x_iretI i_87_18 rn_87 (by decide +kernel) ?_
      refine x_ifT i_18_8 (by decide +kernel) ?_
      refine n_bipush 4294967294 i_18_22 rfl ?_
      refine x_iret i_18_24 rn_18 rfl ?_
      exact k (show 4294967294 ≤ 4294967295 by omega)
    · have k := kn g3 k
      refine n_iconst 1 i_87_13 rfl ?_
      refine x_goto i_87_14 ?_
      refine x_iretI i_87_18 rn_87 (by decide +kernel) ?_
      refine x_ifF i_18_8 (by decide +kernel) ?_
      refine x_aload_n i_18_11 rfl ?_
      refine x_gr i_18_12 ob_0 gr_0_0.1 gr_0_0.2 (rt_0_0 _) ?_
      refine x_iload_n i_18_15 rfl ?_
      refine x_vh (r := []) (lj := [some _, some _]) i_18_16 w_85 hb1.ob [_] rfl rfl (Nat.le_of_ble_eq_true rfl) (Nat.le_of_ble_eq_true rfl) rfl ?_
      refine c_85 hb1 r (by omega)  (fun q4 => rt_i ?_)
      refine x_goto i_18_19 ?_
      refine x_iret i_18_24 rn_18 rfl ?_
      exact k (show s_85 n A l1 ≤ 4294967295 by omega)
def s_20_31 (n : Nat) : Nat → HA → Nat → Nat → Nat → Nat → Nat
  | 0, _, _, _, _, _ => 0
  | d + 1, A, l1, l2, l3, l4 => (if l2 < l4 then l3 else (if (l4 &&& (l2 ^^^ 4294967295)) = 0 then (if (pop l4) = l1 then (if (s_86 n A (l2 &&& (l4 ^^^ 4294967295))) = 0 then (s_20_31 n d A l1 l2 (l3 + 1) (l4 + 1)) else (s_20_31 n d A l1 l2 l3 (l4 + 1))) else (s_20_31 n d A l1 l2 l3 (l4 + 1))) else (s_20_31 n d A l1 l2 l3 (l4 + 1))))
theorem c_20_31 {sc : a_Sc} {fd : Nat} {Q : Option Value → a_Hp → Prop} {n : Nat} : ∀ (d : Nat) {M : a_Mm} {A : HA} {l1 l2 l3 l4 : Nat} (r : RC M 1 n A) (hl1 : l1 ≤ 4) (hl2 : l2 ≤ 31) (hl3 : l3 ≤ 32) (hl4 : l4 ≤ 32) (i0 : l3 ≤ l4) (i1 : l4 ≤ l2 + 1) (hm : 32 - l4 < d) (k : KP 4294967295 Q (a_hp sc fd M) (s_20_31 n d A l1 l2 l3 l4)), a_Ex 20 31 [some (.ref 0), some (.int (N l1)), some (.int (N l2)), some (.int (N l3)), some (.int (N l4)), none] [] (a_hp sc fd M) Q := by
  intro d
  induction d with
  | zero => intro M A l1 l2 l3 l4 r hl1 hl2 hl3 hl4 i0 i1 hm k; exact absurd hm (Nat.not_lt_zero _)
  | succ d ih =>
      intro M A l1 l2 l3 l4 r hl1 hl2 hl3 hl4 i0 i1 hm k
      unfold s_20_31 at k
      have n5 := r.n5
      have n2 := r.n2
      refine x_iload i_20_31 rfl ?_
      refine x_iload_n i_20_33 rfl ?_
      refine x_igtN (by omega) (by omega) i_20_34 ⟨fun g1 => ?_, fun g1 => ?_⟩
      · have k := kp g1 k
        refine x_iload_n i_20_92 rfl ?_
        refine x_iret i_20_93 rn_20 rfl ?_
        exact k (show l3 ≤ 4294967295 by omega)
      · have k := kn g1 k
        refine x_iload i_20_37 rfl ?_
        refine x_iload_n i_20_39 rfl ?_
        refine n_iconst 4294967295 i_20_40 rfl ?_
        refine x_ixorN i_20_41 ?_
        refine x_iandN i_20_42 ?_
        have q2 : l4 &&& (l2 ^^^ 4294967295) ≤ 31 := Nat.le_trans Nat.and_le_left (by omega)
        have q3 : l4 &&& (l2 ^^^ 4294967295) ≤ l4 := Nat.and_le_left
        refine x_zneN (by omega) i_20_43 ⟨fun g4 => ?_, fun g4 => ?_⟩
        · have k := kn g4 k
          refine n_iconst 0 i_20_59 rfl ?_
          refine x_istore i_20_60 rfl rfl ?_
          refine x_iload i_20_62 rfl ?_
          refine x_ifT i_20_64 (by decide +kernel) ?_
          refine n_iinc 1 i_20_86 rfl rfl rfl rfl ?_
          refine x_goto i_20_89 ?_
          refine x_wk (a_wk.s (a_wk.s (a_wk.s (a_wk.s (a_wk.s (a_wk.d rfl a_wk.n)))))) ?_
          exact ih r (by omega) (by omega) (by omega) (by omega) (by omega) (by omega) (by omega) k
        · have k := kp g4 k
          refine x_iload i_20_46 rfl ?_
          refine x_sh (r := []) (lj := [some _]) i_20_48 ws_265 [_] rfl rfl (Nat.le_of_ble_eq_true rfl) (Nat.le_of_ble_eq_true rfl) rfl ?_
          refine k_265 (by omega)  (fun q5 => rt_i ?_)
          refine x_iload_n i_20_51 rfl ?_
          refine x_ineN (by omega) (by omega) i_20_52 ⟨fun g6 => ?_, fun g6 => ?_⟩
          · have k := kn g6 k
            refine n_iconst 0 i_20_59 rfl ?_
            refine x_istore i_20_60 rfl rfl ?_
            refine x_iload i_20_62 rfl ?_
            refine x_ifT i_20_64 (by decide +kernel) ?_
            refine n_iinc 1 i_20_86 rfl rfl rfl rfl ?_
            refine x_goto i_20_89 ?_
            refine x_wk (a_wk.s (a_wk.s (a_wk.s (a_wk.s (a_wk.s (a_wk.d rfl a_wk.n)))))) ?_
            exact ih r (by omega) (by omega) (by omega) (by omega) (by omega) (by omega) (by omega) k
          · have k := kp g6 k
            refine n_iconst 1 i_20_55 rfl ?_
            refine x_goto i_20_56 ?_
            refine x_istore i_20_60 rfl rfl ?_
            refine x_iload i_20_62 rfl ?_
            refine x_ifF i_20_64 (by decide +kernel) ?_
            refine x_aload_n i_20_67 rfl ?_
            refine x_gr i_20_68 ob_0 gr_0_0.1 gr_0_0.2 (rt_0_0 _) ?_
            refine x_iload_n i_20_71 rfl ?_
            refine x_iload i_20_72 rfl ?_
            refine n_iconst 4294967295 i_20_74 rfl ?_
            refine x_ixorN i_20_75 ?_
            refine x_iandN i_20_76 ?_
            have q7 : l2 &&& (l4 ^^^ 4294967295) ≤ 31 := Nat.le_trans Nat.and_le_left (by omega)
            have q8 : l2 &&& (l4 ^^^ 4294967295) ≤ l2 := Nat.and_le_left
            refine x_vh (r := []) (lj := [some _, some _, none, none, none]) i_20_77 w_86 hb1.ob [_] rfl rfl (Nat.le_of_ble_eq_true rfl) (Nat.le_of_ble_eq_true rfl) rfl ?_
            refine c_86 hb1 r (by omega)  (fun q9 => rt_i ?_)
            refine x_zneN (by omega) i_20_80 ⟨fun g10 => ?_, fun g10 => ?_⟩
            · have k := kn g10 k
              refine n_iinc 1 i_20_86 rfl rfl rfl rfl ?_
              refine x_goto i_20_89 ?_
              refine x_wk (a_wk.s (a_wk.s (a_wk.s (a_wk.s (a_wk.s (a_wk.d rfl a_wk.n)))))) ?_
              exact ih r (by omega) (by omega) (by omega) (by omega) (by omega) (by omega) (by omega) k
            · have k := kp g10 k
              refine n_iinc 1 i_20_83 rfl rfl rfl rfl ?_
              refine n_iinc 1 i_20_86 rfl rfl rfl rfl ?_
              refine x_goto i_20_89 ?_
              refine x_wk (a_wk.s (a_wk.s (a_wk.s (a_wk.s (a_wk.s (a_wk.d rfl a_wk.n)))))) ?_
              exact ih r (by omega) (by omega) (by omega) (by omega) (by omega) (by omega) (by omega) k
def s_20 (n : Nat) (A : HA) (l1 : Nat) : Nat :=
  (if 2147483648 ≤ l1 then 4294967293 else (if l1 < n then (s_20_31 n (33) A l1 (s_69 n A 1) 0 0) else 4294967293))
theorem c_20 {sc : a_Sc} {fd : Nat} {M : a_Mm} {A : HA} {Q : Option Value → a_Hp → Prop} {n : Nat} (r : RC M 1 n A) {l1 : Nat} (hl1 : l1 ≤ 4294967295) (k : KP 4294967295 Q (a_hp sc fd M) (s_20 n A l1)) : a_Ex 20 0 [some (.ref 0), some (.int (N l1)), none, none, none, none] [] (a_hp sc fd M) Q := by
  unfold s_20 at k
  have n5 := r.n5
  have n2 := r.n2
  refine x_iload_n i_20_0 rfl ?_
  refine n_zltU (by omega) i_20_1 ⟨fun g1 => ?_, fun g1 => ?_⟩
  · have k := kp g1 k
    refine n_bipush 4294967293 i_20_15 rfl ?_
    refine x_iret i_20_17 rn_20 rfl ?_
    exact k (show 4294967293 ≤ 4294967295 by omega)
  · have k := kn g1 k
    refine x_iload_n i_20_4 rfl ?_
    refine x_aload_n i_20_5 rfl ?_
    refine x_gr i_20_6 ob_0 gr_0_0.1 gr_0_0.2 (rt_0_0 _) ?_
    refine n_gi (x := n) i_20_9 hb1.ob gf_1_0.1 gf_1_0.2 r.nn ?_
    refine x_iltN (by omega) (by omega) i_20_12 ⟨fun g2 => ?_, fun g2 => ?_⟩
    · have k := kp g2 k
      refine x_aload_n i_20_18 rfl ?_
      refine x_gr i_20_19 ob_0 gr_0_0.1 gr_0_0.2 (rt_0_0 _) ?_
      refine x_vh (r := []) (lj := [some _]) i_20_22 w_68 hb1.ob [] rfl rfl (Nat.le_of_ble_eq_true rfl) (Nat.le_of_ble_eq_true rfl) rfl ?_
      refine x_aload_n i_68_0 rfl ?_
      refine n_iconst 1 i_68_1 rfl ?_
      refine x_vh (r := []) (lj := [some _, some _, none, none]) i_68_2 w_69 hb1.ob [_] rfl rfl (Nat.le_of_ble_eq_true rfl) (Nat.le_of_ble_eq_true rfl) rfl ?_
      refine c_69 hb1 r (by omega)  (fun q3 => rt_i ?_)
      refine x_iretI i_68_5 rn_68 rfl ?_
      refine x_istore_n i_20_25 rfl rfl ?_
      refine n_iconst 0 i_20_26 rfl ?_
      refine x_istore_n i_20_27 rfl rfl ?_
      refine n_iconst 0 i_20_28 rfl ?_
      refine x_istore i_20_29 rfl rfl ?_
      exact c_20_31 (33) r (by omega) (by omega) (by omega) (by omega) (by omega) (by omega) (by omega) k
    · have k := kn g2 k
      refine n_bipush 4294967293 i_20_15 rfl ?_
      refine x_iret i_20_17 rn_20 rfl ?_
      exact k (show 4294967293 ≤ 4294967295 by omega)
def s_21_41 (n : Nat) : Nat → HA → Nat → Nat → Nat → Nat → Nat
  | 0, _, _, _, _, _ => 0
  | d + 1, A, l1, l2, l3, l4 => (if (ev n) < l4 then l3 else (if (s_49 n A l4) < l2 then (s_21_41 n d A l1 l2 l3 (l4 + 1)) else (if l1 < 2 then (s_21_41 n d A l1 l2 (l3 + 1) (l4 + 1)) else (if (s_90 n A l4 l2) = 0 then (s_21_41 n d A l1 l2 l3 (l4 + 1)) else (s_21_41 n d A l1 l2 (l3 + 1) (l4 + 1))))))
theorem c_21_41 {sc : a_Sc} {fd : Nat} {Q : Option Value → a_Hp → Prop} {n : Nat} : ∀ (d : Nat) {M : a_Mm} {A : HA} {l1 l2 l3 l4 : Nat} (r : RC M 1 n A) (hl1 : l1 ≤ 3) (hl2 : l2 ≤ 15) (hl3 : l3 ≤ 31) (hl4 : l4 ≤ 32) (i0 : l3 < l4) (hm : 32 - l4 < d) (k : KP 4294967295 Q (a_hp sc fd M) (s_21_41 n d A l1 l2 l3 l4)), a_Ex 21 41 [some (.ref 0), some (.int (N l1)), some (.int (N l2)), some (.int (N l3)), some (.int (N l4))] [] (a_hp sc fd M) Q := by
  intro d
  induction d with
  | zero => intro M A l1 l2 l3 l4 r hl1 hl2 hl3 hl4 i0 hm k; exact absurd hm (Nat.not_lt_zero _)
  | succ d ih =>
      intro M A l1 l2 l3 l4 r hl1 hl2 hl3 hl4 i0 hm k
      unfold s_21_41 at k
      have n5 := r.n5
      have n2 := r.n2
      refine x_iload i_21_41 rfl ?_
      refine x_aload_n i_21_43 rfl ?_
      refine x_gr i_21_44 ob_0 gr_0_0.1 gr_0_0.2 (rt_0_0 _) ?_
      refine x_vh (r := [_]) (lj := [some _]) i_21_47 w_47 hb1.ob [] rfl rfl (Nat.le_of_ble_eq_true rfl) (Nat.le_of_ble_eq_true rfl) rfl ?_
      refine c_47 hb1 r   (fun q1 => rt_i ?_)
      refine x_igtN (by omega) (by omega) i_21_50 ⟨fun g2 => ?_, fun g2 => ?_⟩
      · have k := kp g2 k
        refine x_iload_n i_21_93 rfl ?_
        refine x_iret i_21_94 rn_21 rfl ?_
        exact k (show l3 ≤ 4294967295 by omega)
      · have k := kn g2 k
        refine x_aload_n i_21_53 rfl ?_
        refine x_gr i_21_54 ob_0 gr_0_0.1 gr_0_0.2 (rt_0_0 _) ?_
        refine x_iload i_21_57 rfl ?_
        refine x_vh (r := []) (lj := [some _, some _, none, none]) i_21_59 w_49 hb1.ob [_] rfl rfl (Nat.le_of_ble_eq_true rfl) (Nat.le_of_ble_eq_true rfl) rfl ?_
        refine c_49 hb1 r (by omega)  (fun q3 => rt_i ?_)
        refine x_iload_n i_21_62 rfl ?_
        refine x_iltN (by omega) (by omega) i_21_63 ⟨fun g4 => ?_, fun g4 => ?_⟩
        · have k := kp g4 k
          refine n_iinc 1 i_21_87 rfl rfl rfl rfl ?_
          refine x_goto i_21_90 ?_
          exact ih r (by omega) (by omega) (by omega) (by omega) (by omega) (by omega) k
        · have k := kn g4 k
          refine x_iload_n i_21_66 rfl ?_
          refine n_iconst 2 i_21_67 rfl ?_
          refine x_iltN (by omega) (by omega) i_21_68 ⟨fun g5 => ?_, fun g5 => ?_⟩
          · have k := kp g5 k
            refine n_iinc 1 i_21_84 rfl rfl rfl rfl ?_
            refine n_iinc 1 i_21_87 rfl rfl rfl rfl ?_
            refine x_goto i_21_90 ?_
            exact ih r (by omega) (by omega) (by omega) (by omega) (by omega) (by omega) k
          · have k := kn g5 k
            refine x_aload_n i_21_71 rfl ?_
            refine x_gr i_21_72 ob_0 gr_0_0.1 gr_0_0.2 (rt_0_0 _) ?_
            refine x_iload i_21_75 rfl ?_
            refine x_iload_n i_21_77 rfl ?_
            refine x_vh (r := []) (lj := [some _, some _, some _, none]) i_21_78 w_90 hb1.ob [_, _] rfl rfl (Nat.le_of_ble_eq_true rfl) (Nat.le_of_ble_eq_true rfl) rfl ?_
            refine c_90 hb1 r (by omega) (by omega)  (fun q6 => rt_i ?_)
            refine x_zeqN (by omega) i_21_81 ⟨fun g7 => ?_, fun g7 => ?_⟩
            · have k := kp g7 k
              refine n_iinc 1 i_21_87 rfl rfl rfl rfl ?_
              refine x_goto i_21_90 ?_
              exact ih r (by omega) (by omega) (by omega) (by omega) (by omega) (by omega) k
            · have k := kn g7 k
              refine n_iinc 1 i_21_84 rfl rfl rfl rfl ?_
              refine n_iinc 1 i_21_87 rfl rfl rfl rfl ?_
              refine x_goto i_21_90 ?_
              exact ih r (by omega) (by omega) (by omega) (by omega) (by omega) (by omega) k
def s_21 (n : Nat) (A : HA) (l1 : Nat) : Nat :=
  (if 2147483648 ≤ l1 then 4294967294 else (if l1 ≤ 3 then (if (l1 % 2) = 0 then (s_21_41 n (33) A l1 (A 6 3) 0 1) else (s_21_41 n (33) A l1 (A 6 4) 0 1)) else 4294967294))
theorem c_21 {sc : a_Sc} {fd : Nat} {M : a_Mm} {A : HA} {Q : Option Value → a_Hp → Prop} {n : Nat} (r : RC M 1 n A) {l1 : Nat} (hl1 : l1 ≤ 4294967295) (k : KP 4294967295 Q (a_hp sc fd M) (s_21 n A l1)) : a_Ex 21 0 [some (.ref 0), some (.int (N l1)), none, none, none] [] (a_hp sc fd M) Q := by
  unfold s_21 at k
  have n5 := r.n5
  have n2 := r.n2
  refine x_iload_n i_21_0 rfl ?_
  refine n_zltU (by omega) i_21_1 ⟨fun g1 => ?_, fun g1 => ?_⟩
  · have k := kp g1 k
    refine n_bipush 4294967294 i_21_9 rfl ?_
    refine x_iret i_21_11 rn_21 rfl ?_
    exact k (show 4294967294 ≤ 4294967295 by omega)
  · have k := kn g1 k
    refine x_iload_n i_21_4 rfl ?_
    refine n_iconst 3 i_21_5 rfl ?_
    refine x_ileN (by omega) (by omega) i_21_6 ⟨fun g2 => ?_, fun g2 => ?_⟩
    · have k := kp g2 k
      refine x_iload_n i_21_12 rfl ?_
      refine n_iconst 2 i_21_13 rfl ?_
      refine x_iremN (by omega) (by omega) (by omega) i_21_14 ?_
      refine x_zneN (by omega) i_21_15 ⟨fun g3 => ?_, fun g3 => ?_⟩
      · have k := kn g3 k
        refine x_aload_n i_21_28 rfl ?_
        refine x_gr i_21_29 ob_0 gr_0_0.1 gr_0_0.2 (rt_0_0 _) ?_
        refine n_gi (x := A 6 4) i_21_32 hb1.ob gf_1_4.1 gf_1_4.2 r.f4 ?_
        refine x_istore_n i_21_35 rfl rfl ?_
        refine n_iconst 0 i_21_36 rfl ?_
        refine x_istore_n i_21_37 rfl rfl ?_
        refine n_iconst 1 i_21_38 rfl ?_
        refine x_istore i_21_39 rfl rfl ?_
        have q4 : A 6 4 ≤ 15 := r.w.f4
        exact c_21_41 (33) r (by omega) (by omega) (by omega) (by omega) (by omega) (by omega) k
      · have k := kp g3 k
        refine x_aload_n i_21_18 rfl ?_
        refine x_gr i_21_19 ob_0 gr_0_0.1 gr_0_0.2 (rt_0_0 _) ?_
        refine n_gi (x := A 6 3) i_21_22 hb1.ob gf_1_3.1 gf_1_3.2 r.f3 ?_
        refine x_goto i_21_25 ?_
        refine x_istore_n i_21_35 rfl rfl ?_
        refine n_iconst 0 i_21_36 rfl ?_
        refine x_istore_n i_21_37 rfl rfl ?_
        refine n_iconst 1 i_21_38 rfl ?_
        refine x_istore i_21_39 rfl rfl ?_
        have q5 : A 6 3 ≤ 15 := r.w.f3
        exact c_21_41 (33) r (by omega) (by omega) (by omega) (by omega) (by omega) (by omega) k
    · have k := kn g2 k
      refine n_bipush 4294967294 i_21_9 rfl ?_
      refine x_iret i_21_11 rn_21 rfl ?_
      exact k (show 4294967294 ≤ 4294967295 by omega)
def s_25 (n : Nat) (A : HA) (l1 : Nat) : Nat :=
  (if (l1 < 1 ∨ 2147483648 ≤ l1) then 4294967294 else (if (ev n) < l1 then 4294967294 else s_84 n A l1))
theorem c_25 {sc : a_Sc} {fd : Nat} {M : a_Mm} {A : HA} {Q : Option Value → a_Hp → Prop} {n : Nat} (r : RC M 1 n A) {l1 : Nat} (hl1 : l1 ≤ 4294967295) (k : KP 4294967295 Q (a_hp sc fd M) (s_25 n A l1)) : a_Ex 25 0 [some (.ref 0), some (.int (N l1))] [] (a_hp sc fd M) Q := by
  unfold s_25 at k
  have n5 := r.n5
  have n2 := r.n2
  refine x_aload_n i_25_0 rfl ?_
  refine x_gr i_25_1 ob_0 gr_0_0.1 gr_0_0.2 (rt_0_0 _) ?_
  refine x_iload_n i_25_4 rfl ?_
  refine x_vh (r := []) (lj := [some _, some _]) i_25_5 w_87 hb1.ob [_] rfl rfl (Nat.le_of_ble_eq_true rfl) (Nat.le_of_ble_eq_true rfl) rfl ?_
  refine x_iload_n i_87_0 rfl ?_
  refine n_iconst 1 i_87_1 rfl ?_
  refine n_iltU (by omega) (by omega) i_87_2 ⟨fun g1 => ?_, fun g1 => ?_⟩
  · have k := kp g1 k
    refine n_iconst 0 i_87_17 rfl ?_
    refine x_iretI i_87_18 rn_87 (by decide +kernel) ?_
    refine x_ifT i_25_8 (by decide +kernel) ?_
    refine n_bipush 4294967294 i_25_22 rfl ?_
    refine x_iret i_25_24 rn_25 rfl ?_
    exact k (show 4294967294 ≤ 4294967295 by omega)
  · have k := kn g1 k
    refine x_iload_n i_87_5 rfl ?_
    refine x_aload_n i_87_6 rfl ?_
    refine x_vh (r := [_]) (lj := [some _]) i_87_7 w_47 hb1.ob [] rfl rfl (Nat.le_of_ble_eq_true rfl) (Nat.le_of_ble_eq_true rfl) rfl ?_
    refine c_47 hb1 r   (fun q2 => rt_i ?_)
    refine x_igtN (by omega) (by omega) i_87_10 ⟨fun g3 => ?_, fun g3 => ?_⟩
    · have k := kp g3 k
      refine n_iconst 0 i_87_17 rfl ?_
      refine x_iretI i_87_18 rn_87 (by decide +kernel) ?_
      refine x_ifT i_25_8 (by decide +kernel) ?_
      refine n_bipush 4294967294 i_25_22 rfl ?_
      refine x_iret i_25_24 rn_25 rfl ?_
      exact k (show 4294967294 ≤ 4294967295 by omega)
    · have k := kn g3 k
      refine n_iconst 1 i_87_13 rfl ?_
      refine x_goto i_87_14 ?_
      refine x_iretI i_87_18 rn_87 (by decide +kernel) ?_
      refine x_ifF i_25_8 (by decide +kernel) ?_
      refine x_aload_n i_25_11 rfl ?_
      refine x_gr i_25_12 ob_0 gr_0_0.1 gr_0_0.2 (rt_0_0 _) ?_
      refine x_iload_n i_25_15 rfl ?_
      refine x_vh (r := []) (lj := [some _, some _, none, none]) i_25_16 w_84 hb1.ob [_] rfl rfl (Nat.le_of_ble_eq_true rfl) (Nat.le_of_ble_eq_true rfl) rfl ?_
      refine c_84 hb1 r (by omega)  (fun q4 => rt_i ?_)
      refine x_goto i_25_19 ?_
      refine x_iret i_25_24 rn_25 rfl ?_
      exact k (show s_84 n A l1 ≤ 4294967295 by omega)
def s_26_7 (n : Nat) : Nat → HA → Nat → Nat → Nat → Nat
  | 0, _, _, _, _ => 0
  | d + 1, A, l1, l2, l3 => (if (ev n) < l3 then l1 else (if l2 ≤ (pop l3) then (s_26_7 n d A l1 l2 (l3 + 1)) else (if (s_83 n A l3) = 0 then (s_26_7 n d A l1 l2 (l3 + 1)) else (s_26_7 n d A l3 (pop l3) (l3 + 1)))))
theorem c_26_7 {sc : a_Sc} {fd : Nat} {Q : Option Value → a_Hp → Prop} {n : Nat} : ∀ (d : Nat) {M : a_Mm} {A : HA} {l1 l2 l3 : Nat} (r : RC M 1 n A) (hl1 : l1 ≤ 4294967295) (hl2 : l2 ≤ 6) (hl3 : l3 ≤ 32) (hm : 32 - l3 < d) (k : KP 4294967295 Q (a_hp sc fd M) (s_26_7 n d A l1 l2 l3)), a_Ex 26 7 [some (.ref 0), some (.int (N l1)), some (.int (N l2)), some (.int (N l3))] [] (a_hp sc fd M) Q := by
  intro d
  induction d with
  | zero => intro M A l1 l2 l3 r hl1 hl2 hl3 hm k; exact absurd hm (Nat.not_lt_zero _)
  | succ d ih =>
      intro M A l1 l2 l3 r hl1 hl2 hl3 hm k
      unfold s_26_7 at k
      have n5 := r.n5
      have n2 := r.n2
      refine x_iload_n i_26_7 rfl ?_
      refine x_aload_n i_26_8 rfl ?_
      refine x_gr i_26_9 ob_0 gr_0_0.1 gr_0_0.2 (rt_0_0 _) ?_
      refine x_vh (r := [_]) (lj := [some _]) i_26_12 w_47 hb1.ob [] rfl rfl (Nat.le_of_ble_eq_true rfl) (Nat.le_of_ble_eq_true rfl) rfl ?_
      refine c_47 hb1 r   (fun q1 => rt_i ?_)
      refine x_igtN (by omega) (by omega) i_26_15 ⟨fun g2 => ?_, fun g2 => ?_⟩
      · have k := kp g2 k
        refine x_iload_n i_26_50 rfl ?_
        refine x_iret i_26_51 rn_26 rfl ?_
        exact k (show l1 ≤ 4294967295 by omega)
      · have k := kn g2 k
        refine x_iload_n i_26_18 rfl ?_
        refine x_sh (r := []) (lj := [some _]) i_26_19 ws_265 [_] rfl rfl (Nat.le_of_ble_eq_true rfl) (Nat.le_of_ble_eq_true rfl) rfl ?_
        refine k_265 (by omega)  (fun q3 => rt_i ?_)
        refine x_iload_n i_26_22 rfl ?_
        refine x_igeN (by omega) (by omega) i_26_23 ⟨fun g4 => ?_, fun g4 => ?_⟩
        · have k := kp g4 k
          refine n_iinc 1 i_26_44 rfl rfl rfl rfl ?_
          refine x_goto i_26_47 ?_
          exact ih r (by omega) (by omega) (by omega) (by omega) k
        · have k := kn g4 k
          refine x_aload_n i_26_26 rfl ?_
          refine x_gr i_26_27 ob_0 gr_0_0.1 gr_0_0.2 (rt_0_0 _) ?_
          refine x_iload_n i_26_30 rfl ?_
          refine x_vh (r := []) (lj := [some _, some _, none]) i_26_31 w_83 hb1.ob [_] rfl rfl (Nat.le_of_ble_eq_true rfl) (Nat.le_of_ble_eq_true rfl) rfl ?_
          refine c_83 hb1 r (by omega)  (fun q5 => rt_i ?_)
          have m83 := s83_84 n A l3 n5
          refine x_zeqN (by omega) i_26_34 ⟨fun g6 => ?_, fun g6 => ?_⟩
          · have k := kp g6 k
            refine n_iinc 1 i_26_44 rfl rfl rfl rfl ?_
            refine x_goto i_26_47 ?_
            exact ih r (by omega) (by omega) (by omega) (by omega) k
          · have k := kn g6 k
            refine x_iload_n i_26_37 rfl ?_
            refine x_istore_n i_26_38 rfl rfl ?_
            refine x_iload_n i_26_39 rfl ?_
            refine x_sh (r := []) (lj := [some _]) i_26_40 ws_265 [_] rfl rfl (Nat.le_of_ble_eq_true rfl) (Nat.le_of_ble_eq_true rfl) rfl ?_
            refine k_265 (by omega)  (fun q7 => rt_i ?_)
            refine x_istore_n i_26_43 rfl rfl ?_
            refine n_iinc 1 i_26_44 rfl rfl rfl rfl ?_
            refine x_goto i_26_47 ?_
            exact ih r (by omega) (by omega) (by omega) (by omega) k
def s_26 (n : Nat) (A : HA) : Nat :=
  (s_26_7 n (33) A 4294967295 6 1)
theorem c_26 {sc : a_Sc} {fd : Nat} {M : a_Mm} {A : HA} {Q : Option Value → a_Hp → Prop} {n : Nat} (r : RC M 1 n A) (k : KP 4294967295 Q (a_hp sc fd M) (s_26 n A)) : a_Ex 26 0 [some (.ref 0), none, none, none] [] (a_hp sc fd M) Q := by
  unfold s_26 at k
  have n5 := r.n5
  have n2 := r.n2
  refine n_iconst 4294967295 i_26_0 rfl ?_
  refine x_istore_n i_26_1 rfl rfl ?_
  refine n_bipush 6 i_26_2 rfl ?_
  refine x_istore_n i_26_4 rfl rfl ?_
  refine n_iconst 1 i_26_5 rfl ?_
  refine x_istore_n i_26_6 rfl rfl ?_
  exact c_26_7 (33) r (by omega) (by omega) (by omega) (by omega) k
def s_27 (n : Nat) (A : HA) (l1 : Nat) : Nat :=
  (if l1 = 0 then s_65 n A 16 else (if l1 = 1 then s_65 n A 32 else (if l1 = 2 then s_69 n A 1 else (if l1 = 3 then (s_65 n A 48) &&& (s_69 n A 1) else 4294967294))))
theorem c_27 {sc : a_Sc} {fd : Nat} {M : a_Mm} {A : HA} {Q : Option Value → a_Hp → Prop} {n : Nat} (r : RC M 1 n A) {l1 : Nat} (hl1 : l1 ≤ 4294967295) (k : KP 4294967295 Q (a_hp sc fd M) (s_27 n A l1)) : a_Ex 27 0 [some (.ref 0), some (.int (N l1))] [] (a_hp sc fd M) Q := by
  unfold s_27 at k
  have n5 := r.n5
  have n2 := r.n2
  refine x_iload_n i_27_0 rfl ?_
  by_cases g1 : l1 = 0
  · have k := kp g1 k
    refine x_tswI (t := 32) (off := 31) i_27_1 (by rw [g1]; decide +kernel) (by rw [g1]; decide +kernel) (by decide) ?_
    refine x_aload_n i_27_32 rfl ?_
    refine x_gr i_27_33 ob_0 gr_0_0.1 gr_0_0.2 (rt_0_0 _) ?_
    refine n_bipush 16 i_27_36 rfl ?_
    refine x_vh (r := []) (lj := [some _, some _, none, none]) i_27_38 w_65 hb1.ob [_] rfl rfl (Nat.le_of_ble_eq_true rfl) (Nat.le_of_ble_eq_true rfl) rfl ?_
    refine c_65 hb1 r (by omega)  (fun q2 => rt_i ?_)
    refine x_iret i_27_41 rn_27 rfl ?_
    exact k (show s_65 n A 16 ≤ 4294967295 by omega)
  have k := kn g1 k
  by_cases g3 : l1 = 1
  · have k := kp g3 k
    refine x_tswI (t := 42) (off := 41) i_27_1 (by rw [g3]; decide +kernel) (by rw [g3]; decide +kernel) (by decide) ?_
    refine x_aload_n i_27_42 rfl ?_
    refine x_gr i_27_43 ob_0 gr_0_0.1 gr_0_0.2 (rt_0_0 _) ?_
    refine n_bipush 32 i_27_46 rfl ?_
    refine x_vh (r := []) (lj := [some _, some _, none, none]) i_27_48 w_65 hb1.ob [_] rfl rfl (Nat.le_of_ble_eq_true rfl) (Nat.le_of_ble_eq_true rfl) rfl ?_
    refine c_65 hb1 r (by omega)  (fun q4 => rt_i ?_)
    refine x_iret i_27_51 rn_27 rfl ?_
    exact k (show s_65 n A 32 ≤ 4294967295 by omega)
  have k := kn g3 k
  by_cases g5 : l1 = 2
  · have k := kp g5 k
    refine x_tswI (t := 52) (off := 51) i_27_1 (by rw [g5]; decide +kernel) (by rw [g5]; decide +kernel) (by decide) ?_
    refine x_aload_n i_27_52 rfl ?_
    refine x_gr i_27_53 ob_0 gr_0_0.1 gr_0_0.2 (rt_0_0 _) ?_
    refine x_vh (r := []) (lj := [some _]) i_27_56 w_68 hb1.ob [] rfl rfl (Nat.le_of_ble_eq_true rfl) (Nat.le_of_ble_eq_true rfl) rfl ?_
    refine x_aload_n i_68_0 rfl ?_
    refine n_iconst 1 i_68_1 rfl ?_
    refine x_vh (r := []) (lj := [some _, some _, none, none]) i_68_2 w_69 hb1.ob [_] rfl rfl (Nat.le_of_ble_eq_true rfl) (Nat.le_of_ble_eq_true rfl) rfl ?_
    refine c_69 hb1 r (by omega)  (fun q6 => rt_i ?_)
    refine x_iretI i_68_5 rn_68 rfl ?_
    refine x_iret i_27_59 rn_27 rfl ?_
    exact k (show s_69 n A 1 ≤ 4294967295 by omega)
  have k := kn g5 k
  by_cases g7 : l1 = 3
  · have k := kp g7 k
    refine x_tswI (t := 60) (off := 59) i_27_1 (by rw [g7]; decide +kernel) (by rw [g7]; decide +kernel) (by decide) ?_
    refine x_aload_n i_27_60 rfl ?_
    refine x_gr i_27_61 ob_0 gr_0_0.1 gr_0_0.2 (rt_0_0 _) ?_
    refine n_bipush 48 i_27_64 rfl ?_
    refine x_vh (r := []) (lj := [some _, some _, none, none]) i_27_66 w_65 hb1.ob [_] rfl rfl (Nat.le_of_ble_eq_true rfl) (Nat.le_of_ble_eq_true rfl) rfl ?_
    refine c_65 hb1 r (by omega)  (fun q8 => rt_i ?_)
    refine x_aload_n i_27_69 rfl ?_
    refine x_gr i_27_70 ob_0 gr_0_0.1 gr_0_0.2 (rt_0_0 _) ?_
    refine x_vh (r := [_]) (lj := [some _]) i_27_73 w_68 hb1.ob [] rfl rfl (Nat.le_of_ble_eq_true rfl) (Nat.le_of_ble_eq_true rfl) rfl ?_
    refine x_aload_n i_68_0 rfl ?_
    refine n_iconst 1 i_68_1 rfl ?_
    refine x_vh (r := []) (lj := [some _, some _, none, none]) i_68_2 w_69 hb1.ob [_] rfl rfl (Nat.le_of_ble_eq_true rfl) (Nat.le_of_ble_eq_true rfl) rfl ?_
    refine c_69 hb1 r (by omega)  (fun q9 => rt_i ?_)
    refine x_iretI i_68_5 rn_68 rfl ?_
    refine x_iandN i_27_76 ?_
    have q10 : (s_65 n A 48) &&& (s_69 n A 1) ≤ 31 := Nat.le_trans Nat.and_le_left (by omega)
    have q11 : (s_65 n A 48) &&& (s_69 n A 1) ≤ (s_65 n A 48) := Nat.and_le_left
    refine x_iret i_27_77 rn_27 rfl ?_
    exact k (show (s_65 n A 48) &&& (s_69 n A 1) ≤ 4294967295 by omega)
  have k := kn g7 k
  refine x_tswO (t := 78) i_27_1 (n_tswO (lo := 0) (hi := 3) (by omega) (by omega)) (by decide) ?_
  refine n_bipush 4294967294 i_27_78 rfl ?_
  refine x_iret i_27_80 rn_27 rfl ?_
  exact k (show 4294967294 ≤ 4294967295 by omega)
def s_39 (n : Nat) (A : HA) : Nat :=
  A 7 0
theorem c_39 {sc : a_Sc} {fd : Nat} {M : a_Mm} {A : HA} {Q : Option Value → a_Hp → Prop} {n : Nat} (r : RC M 1 n A) (k : KP 60 Q (a_hp sc fd M) (s_39 n A)) : a_Ex 39 0 [some (.ref 0)] [] (a_hp sc fd M) Q := by
  unfold s_39 at k
  have n5 := r.n5
  have n2 := r.n2
  refine x_aload_n i_39_0 rfl ?_
  refine x_gr i_39_1 ob_0 gr_0_0.1 gr_0_0.2 (rt_0_0 _) ?_
  refine x_gr i_39_4 hb1.ob gr_1_11.1 gr_1_11.2 (hb1.r11 _) ?_
  refine n_gi (x := A 7 0) i_39_7 hb1.lg gf_2_2.1 gf_2_2.2 r.lsz ?_
  have q1 : A 7 0 ≤ 60 := r.w.2.2.2.1
  refine x_iret i_39_10 rn_39 rfl ?_
  exact k (show A 7 0 ≤ 60 by omega)
