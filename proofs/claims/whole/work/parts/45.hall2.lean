/-! the methods of the class's hall as functions, by program -/
def s_52 (n : Nat) (A : HA) (l1 : Nat) (l2 : Nat) : Nat × HA :=
  (if 2147483648 ≤ l1 then (4294967294, A) else (if n ≤ l1 then (4294967294, A) else (if 2147483648 ≤ l2 then (4294967293, A) else (if l2 ≤ 1 then (if (A 0 l1) = 0 then (A 3 l1, (a_up A 3 l1 l2)) else (4294967291, A)) else (4294967293, A)))))
theorem c_52 {sc : a_Sc} {fd : Nat} {M : a_Mm} {A : HA} {Q : Option Value → a_Hp → Prop} {b n : Nat} (hb : HB b) (r : RC M b n A) {l1 l2 : Nat} (hl1 : l1 ≤ 4294967295) (hl2 : l2 ≤ 4294967295) (k : KR 4294967295 Q sc fd M b n (s_52 n A l1 l2)) : a_Ex 52 0 [some (.ref b), some (.int (N l1)), some (.int (N l2)), none] [] (a_hp sc fd M) Q := by
  unfold s_52 at k
  have n5 := r.n5
  have n2 := r.n2
  refine x_aload_n i_52_0 rfl ?_
  refine x_iload_n i_52_1 rfl ?_
  refine x_vh (r := []) (lj := [some _, some _]) i_52_2 w_53 hb.ob [_] rfl rfl (Nat.le_of_ble_eq_true rfl) (Nat.le_of_ble_eq_true rfl) rfl ?_
  refine x_iload_n i_53_0 rfl ?_
  refine n_zltU (by omega) i_53_1 ⟨fun g1 => ?_, fun g1 => ?_⟩
  · have k := kp g1 k
    refine n_iconst 0 i_53_16 rfl ?_
    refine x_iretI i_53_17 rn_53 (by decide +kernel) ?_
    refine x_ifF i_52_5 (by decide +kernel) ?_
    refine n_bipush 4294967294 i_52_8 rfl ?_
    refine x_iret i_52_10 rn_52 rfl ?_
    exact k (show 4294967294 ≤ 4294967295 by omega) _ r (FR.refl _ _)
  · have k := kn g1 k
    refine x_iload_n i_53_4 rfl ?_
    refine x_aload_n i_53_5 rfl ?_
    refine n_gi (x := n) i_53_6 hb.ob gf_1_0.1 gf_1_0.2 r.nn ?_
    refine x_igeN (by omega) (by omega) i_53_9 ⟨fun g2 => ?_, fun g2 => ?_⟩
    · have k := kp g2 k
      refine n_iconst 0 i_53_16 rfl ?_
      refine x_iretI i_53_17 rn_53 (by decide +kernel) ?_
      refine x_ifF i_52_5 (by decide +kernel) ?_
      refine n_bipush 4294967294 i_52_8 rfl ?_
      refine x_iret i_52_10 rn_52 rfl ?_
      exact k (show 4294967294 ≤ 4294967295 by omega) _ r (FR.refl _ _)
    · have k := kn g2 k
      refine n_iconst 1 i_53_12 rfl ?_
      refine x_goto i_53_13 ?_
      refine x_iretI i_53_17 rn_53 (by decide +kernel) ?_
      refine x_ifT i_52_5 (by decide +kernel) ?_
      refine x_iload_n i_52_11 rfl ?_
      refine n_zltU (by omega) i_52_12 ⟨fun g3 => ?_, fun g3 => ?_⟩
      · have k := kp g3 k
        refine n_bipush 4294967293 i_52_20 rfl ?_
        refine x_iret i_52_22 rn_52 rfl ?_
        exact k (show 4294967293 ≤ 4294967295 by omega) _ r (FR.refl _ _)
      · have k := kn g3 k
        refine x_iload_n i_52_15 rfl ?_
        refine n_iconst 1 i_52_16 rfl ?_
        refine x_ileN (by omega) (by omega) i_52_17 ⟨fun g4 => ?_, fun g4 => ?_⟩
        · have k := kp g4 k
          refine x_aload_n i_52_23 rfl ?_
          refine x_gr i_52_24 hb.ob gr_1_5.1 gr_1_5.2 (hb.r5 _) ?_
          refine x_iload_n i_52_27 rfl ?_
          refine n_ld (x := A 0 l1) i_52_28 hb.a1 (by omega) (by omega) (r.a0 (by omega)) ?_
          have q5 : A 0 l1 ≤ 5 := r.w.b0 (by omega)
          refine x_zeqN (by omega) i_52_29 ⟨fun g6 => ?_, fun g6 => ?_⟩
          · have k := kp g6 k
            refine x_aload_n i_52_35 rfl ?_
            refine x_gr i_52_36 hb.ob gr_1_8.1 gr_1_8.2 (hb.r8 _) ?_
            refine x_iload_n i_52_39 rfl ?_
            refine n_ld (x := A 3 l1) i_52_40 hb.a4 (by omega) (by omega) (r.a3 (by omega)) ?_
            refine x_istore_n i_52_41 rfl rfl ?_
            refine x_aload_n i_52_42 rfl ?_
            refine x_gr i_52_43 hb.ob gr_1_8.1 gr_1_8.2 (hb.r8 _) ?_
            refine x_iload_n i_52_46 rfl ?_
            refine x_iload_n i_52_47 rfl ?_
            refine n_stC i_52_48 hb r 3 (by omega) (by omega) (show l2 < 2 by omega) rfl (fun M7 r7 f7 => ?_)
            refine x_iload_n i_52_49 rfl ?_
            have q8 : A 3 l1 ≤ 1 := r.w.b3 (by omega)
            refine x_iret i_52_50 rn_52 rfl ?_
            exact k (show A 3 l1 ≤ 4294967295 by omega) _ r7 f7
          · have k := kn g6 k
            refine n_bipush 4294967291 i_52_32 rfl ?_
            refine x_iret i_52_34 rn_52 rfl ?_
            exact k (show 4294967291 ≤ 4294967295 by omega) _ r (FR.refl _ _)
        · have k := kn g4 k
          refine n_bipush 4294967293 i_52_20 rfl ?_
          refine x_iret i_52_22 rn_52 rfl ?_
          exact k (show 4294967293 ≤ 4294967295 by omega) _ r (FR.refl _ _)
def s_54 (n : Nat) (A : HA) (l1 : Nat) (l2 : Nat) : Nat × HA :=
  (if 2147483648 ≤ l1 then (4294967294, A) else (if n ≤ l1 then (4294967294, A) else (if (l2 < 1 ∨ 2147483648 ≤ l2) then (4294967293, A) else (if l2 ≤ 3 then (if (s_55 n A (ev n)) = 1 then (A 4 l1, s_48 n ((a_up A 4 l1 l2))) else (4294967291, A)) else (4294967293, A)))))
theorem c_54 {sc : a_Sc} {fd : Nat} {M : a_Mm} {A : HA} {Q : Option Value → a_Hp → Prop} {b n : Nat} (hb : HB b) (r : RC M b n A) {l1 l2 : Nat} (hl1 : l1 ≤ 4294967295) (hl2 : l2 ≤ 4294967295) (k : KR 4294967295 Q sc fd M b n (s_54 n A l1 l2)) : a_Ex 54 0 [some (.ref b), some (.int (N l1)), some (.int (N l2)), none] [] (a_hp sc fd M) Q := by
  unfold s_54 at k
  have n5 := r.n5
  have n2 := r.n2
  refine x_aload_n i_54_0 rfl ?_
  refine x_iload_n i_54_1 rfl ?_
  refine x_vh (r := []) (lj := [some _, some _]) i_54_2 w_53 hb.ob [_] rfl rfl (Nat.le_of_ble_eq_true rfl) (Nat.le_of_ble_eq_true rfl) rfl ?_
  refine x_iload_n i_53_0 rfl ?_
  refine n_zltU (by omega) i_53_1 ⟨fun g1 => ?_, fun g1 => ?_⟩
  · have k := kp g1 k
    refine n_iconst 0 i_53_16 rfl ?_
    refine x_iretI i_53_17 rn_53 (by decide +kernel) ?_
    refine x_ifF i_54_5 (by decide +kernel) ?_
    refine n_bipush 4294967294 i_54_8 rfl ?_
    refine x_iret i_54_10 rn_54 rfl ?_
    exact k (show 4294967294 ≤ 4294967295 by omega) _ r (FR.refl _ _)
  · have k := kn g1 k
    refine x_iload_n i_53_4 rfl ?_
    refine x_aload_n i_53_5 rfl ?_
    refine n_gi (x := n) i_53_6 hb.ob gf_1_0.1 gf_1_0.2 r.nn ?_
    refine x_igeN (by omega) (by omega) i_53_9 ⟨fun g2 => ?_, fun g2 => ?_⟩
    · have k := kp g2 k
      refine n_iconst 0 i_53_16 rfl ?_
      refine x_iretI i_53_17 rn_53 (by decide +kernel) ?_
      refine x_ifF i_54_5 (by decide +kernel) ?_
      refine n_bipush 4294967294 i_54_8 rfl ?_
      refine x_iret i_54_10 rn_54 rfl ?_
      exact k (show 4294967294 ≤ 4294967295 by omega) _ r (FR.refl _ _)
    · have k := kn g2 k
      refine n_iconst 1 i_53_12 rfl ?_
      refine x_goto i_53_13 ?_
      refine x_iretI i_53_17 rn_53 (by decide +kernel) ?_
      refine x_ifT i_54_5 (by decide +kernel) ?_
      refine x_iload_n i_54_11 rfl ?_
      refine n_iconst 1 i_54_12 rfl ?_
      refine n_iltU (by omega) (by omega) i_54_13 ⟨fun g3 => ?_, fun g3 => ?_⟩
      · have k := kp g3 k
        refine n_bipush 4294967293 i_54_21 rfl ?_
        refine x_iret i_54_23 rn_54 rfl ?_
        exact k (show 4294967293 ≤ 4294967295 by omega) _ r (FR.refl _ _)
      · have k := kn g3 k
        refine x_iload_n i_54_16 rfl ?_
        refine n_iconst 3 i_54_17 rfl ?_
        refine x_ileN (by omega) (by omega) i_54_18 ⟨fun g4 => ?_, fun g4 => ?_⟩
        · have k := kp g4 k
          refine x_aload_n i_54_24 rfl ?_
          refine x_aload_n i_54_25 rfl ?_
          refine x_vh (r := [_]) (lj := [some _]) i_54_26 w_47 hb.ob [] rfl rfl (Nat.le_of_ble_eq_true rfl) (Nat.le_of_ble_eq_true rfl) rfl ?_
          refine c_47 hb r   (fun q5 => rt_i ?_)
          refine x_vh (r := []) (lj := [some _, some _, none, none]) i_54_29 w_55 hb.ob [_] rfl rfl (Nat.le_of_ble_eq_true rfl) (Nat.le_of_ble_eq_true rfl) rfl ?_
          refine c_55 hb r (by omega)  (fun q6 => rt_i ?_)
          refine n_iconst 1 i_54_32 rfl ?_
          refine x_ieqN (by omega) (by omega) i_54_33 ⟨fun g7 => ?_, fun g7 => ?_⟩
          · have k := kp g7 k
            refine x_aload_n i_54_39 rfl ?_
            refine x_gr i_54_40 hb.ob gr_1_9.1 gr_1_9.2 (hb.r9 _) ?_
            refine x_iload_n i_54_43 rfl ?_
            refine n_ld (x := A 4 l1) i_54_44 hb.a5 (by omega) (by omega) (r.a4 (by omega)) ?_
            refine x_istore_n i_54_45 rfl rfl ?_
            refine x_aload_n i_54_46 rfl ?_
            refine x_gr i_54_47 hb.ob gr_1_9.1 gr_1_9.2 (hb.r9 _) ?_
            refine x_iload_n i_54_50 rfl ?_
            refine x_iload_n i_54_51 rfl ?_
            refine n_stC i_54_52 hb r 4 (by omega) (by omega) (show l2 < 4 by omega) rfl (fun M8 r8 f8 => ?_)
            refine x_aload_n i_54_53 rfl ?_
            refine x_vh (r := []) (lj := [some _, none]) i_54_54 w_48 hb.ob [] rfl rfl (Nat.le_of_ble_eq_true rfl) (Nat.le_of_ble_eq_true rfl) rfl ?_
            refine c_48 hb r8   (fun M9 r9 f9 => rt_n ?_)
            refine x_iload_n i_54_57 rfl ?_
            have q10 : A 4 l1 ≤ 3 := r.w.b4 (by omega)
            refine x_iret i_54_58 rn_54 rfl ?_
            exact k (show A 4 l1 ≤ 4294967295 by omega) _ r9 (f8.trans f9)
          · have k := kn g7 k
            refine n_bipush 4294967291 i_54_36 rfl ?_
            refine x_iret i_54_38 rn_54 rfl ?_
            exact k (show 4294967291 ≤ 4294967295 by omega) _ r (FR.refl _ _)
        · have k := kn g4 k
          refine n_bipush 4294967293 i_54_21 rfl ?_
          refine x_iret i_54_23 rn_54 rfl ?_
          exact k (show 4294967293 ≤ 4294967295 by omega) _ r (FR.refl _ _)
def s_56 (n : Nat) (A : HA) (l1 : Nat) (l2 : Nat) : Nat × HA :=
  (if (l1 < 1 ∨ 2147483648 ≤ l1) then (4294967293, A) else (if 15 < l1 then (4294967293, A) else (if (l2 < 1 ∨ 2147483648 ≤ l2) then (4294967293, A) else (if l2 ≤ 15 then (if (s_49 n A (ev n)) < (l1 + l2) then (if (s_55 n A (ev n)) = 1 then (s_49 n A (ev n), (a_up (a_up A 6 3 l1) 6 4 l2)) else (4294967291, A)) else (4294967293, A)) else (4294967293, A)))))
theorem c_56 {sc : a_Sc} {fd : Nat} {M : a_Mm} {A : HA} {Q : Option Value → a_Hp → Prop} {b n : Nat} (hb : HB b) (r : RC M b n A) {l1 l2 : Nat} (hl1 : l1 ≤ 4294967295) (hl2 : l2 ≤ 4294967295) (k : KR 4294967295 Q sc fd M b n (s_56 n A l1 l2)) : a_Ex 56 0 [some (.ref b), some (.int (N l1)), some (.int (N l2)), none] [] (a_hp sc fd M) Q := by
  unfold s_56 at k
  have n5 := r.n5
  have n2 := r.n2
  refine x_iload_n i_56_0 rfl ?_
  refine n_iconst 1 i_56_1 rfl ?_
  refine n_iltU (by omega) (by omega) i_56_2 ⟨fun g1 => ?_, fun g1 => ?_⟩
  · have k := kp g1 k
    refine n_bipush 4294967293 i_56_22 rfl ?_
    refine x_iret i_56_24 rn_56 rfl ?_
    exact k (show 4294967293 ≤ 4294967295 by omega) _ r (FR.refl _ _)
  · have k := kn g1 k
    refine x_iload_n i_56_5 rfl ?_
    refine n_bipush 15 i_56_6 rfl ?_
    refine x_igtN (by omega) (by omega) i_56_8 ⟨fun g2 => ?_, fun g2 => ?_⟩
    · have k := kp g2 k
      refine n_bipush 4294967293 i_56_22 rfl ?_
      refine x_iret i_56_24 rn_56 rfl ?_
      exact k (show 4294967293 ≤ 4294967295 by omega) _ r (FR.refl _ _)
    · have k := kn g2 k
      refine x_iload_n i_56_11 rfl ?_
      refine n_iconst 1 i_56_12 rfl ?_
      refine n_iltU (by omega) (by omega) i_56_13 ⟨fun g3 => ?_, fun g3 => ?_⟩
      · have k := kp g3 k
        refine n_bipush 4294967293 i_56_22 rfl ?_
        refine x_iret i_56_24 rn_56 rfl ?_
        exact k (show 4294967293 ≤ 4294967295 by omega) _ r (FR.refl _ _)
      · have k := kn g3 k
        refine x_iload_n i_56_16 rfl ?_
        refine n_bipush 15 i_56_17 rfl ?_
        refine x_ileN (by omega) (by omega) i_56_19 ⟨fun g4 => ?_, fun g4 => ?_⟩
        · have k := kp g4 k
          refine x_aload_n i_56_25 rfl ?_
          refine x_aload_n i_56_26 rfl ?_
          refine x_vh (r := [_]) (lj := [some _]) i_56_27 w_47 hb.ob [] rfl rfl (Nat.le_of_ble_eq_true rfl) (Nat.le_of_ble_eq_true rfl) rfl ?_
          refine c_47 hb r   (fun q5 => rt_i ?_)
          refine x_vh (r := []) (lj := [some _, some _, none, none]) i_56_30 w_49 hb.ob [_] rfl rfl (Nat.le_of_ble_eq_true rfl) (Nat.le_of_ble_eq_true rfl) rfl ?_
          refine c_49 hb r (by omega)  (fun q6 => rt_i ?_)
          refine x_istore_n i_56_33 rfl rfl ?_
          refine x_iload_n i_56_34 rfl ?_
          refine x_iload_n i_56_35 rfl ?_
          refine x_iaddN i_56_36 ?_
          refine x_iload_n i_56_37 rfl ?_
          refine x_igtN (by omega) (by omega) i_56_38 ⟨fun g7 => ?_, fun g7 => ?_⟩
          · have k := kp g7 k
            refine x_aload_n i_56_44 rfl ?_
            refine x_aload_n i_56_45 rfl ?_
            refine x_vh (r := [_]) (lj := [some _]) i_56_46 w_47 hb.ob [] rfl rfl (Nat.le_of_ble_eq_true rfl) (Nat.le_of_ble_eq_true rfl) rfl ?_
            refine c_47 hb r   (fun q8 => rt_i ?_)
            refine x_vh (r := []) (lj := [some _, some _, none, none]) i_56_49 w_55 hb.ob [_] rfl rfl (Nat.le_of_ble_eq_true rfl) (Nat.le_of_ble_eq_true rfl) rfl ?_
            refine c_55 hb r (by omega)  (fun q9 => rt_i ?_)
            refine n_iconst 1 i_56_52 rfl ?_
            refine x_ieqN (by omega) (by omega) i_56_53 ⟨fun g10 => ?_, fun g10 => ?_⟩
            · have k := kp g10 k
              refine x_aload_n i_56_59 rfl ?_
              refine x_iload_n i_56_60 rfl ?_
              refine n_pC i_56_61 hb r pf_1_3 (by omega) (by unfold okf; omega) (fun M11 r11 f11 => ?_)
              refine x_aload_n i_56_64 rfl ?_
              refine x_iload_n i_56_65 rfl ?_
              refine n_pC i_56_66 hb r11 pf_1_4 (by omega) (by unfold okf; omega) (fun M12 r12 f12 => ?_)
              refine x_iload_n i_56_69 rfl ?_
              refine x_iret i_56_70 rn_56 rfl ?_
              exact k (show s_49 n A (ev n) ≤ 4294967295 by omega) _ r12 (f11.trans f12)
            · have k := kn g10 k
              refine n_bipush 4294967291 i_56_56 rfl ?_
              refine x_iret i_56_58 rn_56 rfl ?_
              exact k (show 4294967291 ≤ 4294967295 by omega) _ r (FR.refl _ _)
          · have k := kn g7 k
            refine n_bipush 4294967293 i_56_41 rfl ?_
            refine x_iret i_56_43 rn_56 rfl ?_
            exact k (show 4294967293 ≤ 4294967295 by omega) _ r (FR.refl _ _)
        · have k := kn g4 k
          refine n_bipush 4294967293 i_56_22 rfl ?_
          refine x_iret i_56_24 rn_56 rfl ?_
          exact k (show 4294967293 ≤ 4294967295 by omega) _ r (FR.refl _ _)
def s_62 (n : Nat) (A : HA) (l1 : Nat) (l2 : Nat) (l3 : Nat) : HA :=
  (if l2 = 1 then (if (A 3 l1) = 0 then (if ((l3 >>> (A 0 l1)) &&& 1) = 0 then A else (if (A 0 l1) = 5 then A else ((lad ((a_up A 0 l1 5)) (l1 * 100 + (A 0 l1) * 10 + 5))))) else (if ((l3 >>> (A 0 l1)) &&& 1) = 0 then A else (if (A 0 l1) = l2 then A else ((lad ((a_up A 0 l1 l2)) (l1 * 100 + (A 0 l1) * 10 + l2)))))) else (if ((l3 >>> (A 0 l1)) &&& 1) = 0 then A else (if (A 0 l1) = l2 then A else ((lad ((a_up A 0 l1 l2)) (l1 * 100 + (A 0 l1) * 10 + l2))))))
theorem c_62 {sc : a_Sc} {fd : Nat} {M : a_Mm} {A : HA} {Q : Option Value → a_Hp → Prop} {b n : Nat} (hb : HB b) (r : RC M b n A) {l1 l2 l3 : Nat} (hl1 : l1 ≤ 4) (hl2 : l2 ≤ 5) (hl3 : l3 ≤ 63) (k : KV Q sc fd M b n (s_62 n A l1 l2 l3)) : a_Ex 62 0 [some (.ref b), some (.int (N l1)), some (.int (N l2)), some (.int (N l3)), none, none] [] (a_hp sc fd M) Q := by
  unfold s_62 at k
  have n5 := r.n5
  have n2 := r.n2
  refine x_aload_n i_62_0 rfl ?_
  refine x_gr i_62_1 hb.ob gr_1_5.1 gr_1_5.2 (hb.r5 _) ?_
  refine x_iload_n i_62_4 rfl ?_
  refine n_ld (x := A 0 l1) i_62_5 hb.a1 (by omega) (by omega) (r.a0 (by omega)) ?_
  refine x_istore i_62_6 rfl rfl ?_
  refine x_iload_n i_62_8 rfl ?_
  refine n_iconst 1 i_62_9 rfl ?_
  refine x_ineN (by omega) (by omega) i_62_10 ⟨fun g1 => ?_, fun g1 => ?_⟩
  · have k := kn g1 k
    refine x_iload_n i_62_26 rfl ?_
    refine x_istore i_62_27 rfl rfl ?_
    refine x_iload_n i_62_29 rfl ?_
    refine x_iload i_62_30 rfl ?_
    have q2 : A 0 l1 ≤ 5 := r.w.b0 (by omega)
    refine x_ishrN (by omega) (by omega) i_62_32 ?_
    refine n_iconst 1 i_62_33 rfl ?_
    refine x_iandN i_62_34 ?_
    have q3 : l3 >>> (A 0 l1) ≤ l3 := shr_le _ _
    have q4 : (l3 >>> (A 0 l1)) &&& 1 ≤ 1 := Nat.le_trans Nat.and_le_right (by omega)
    refine x_zeqN (by omega) i_62_35 ⟨fun g5 => ?_, fun g5 => ?_⟩
    · have k := kp g5 k
      refine x_vret i_62_45 rn_62 ?_
      exact k _ r (FR.refl _ _)
    · have k := kn g5 k
      refine x_iload i_62_38 rfl ?_
      refine x_iload i_62_40 rfl ?_
      refine x_ineN (by omega) (by omega) i_62_42 ⟨fun g6 => ?_, fun g6 => ?_⟩
      · have k := kn g6 k
        refine x_aload_n i_62_46 rfl ?_
        refine x_gr i_62_47 hb.ob gr_1_5.1 gr_1_5.2 (hb.r5 _) ?_
        refine x_iload_n i_62_50 rfl ?_
        refine x_iload i_62_51 rfl ?_
        refine n_stC i_62_53 hb r 0 (by omega) (by omega) (show l2 < 6 by omega) rfl (fun M7 r7 f7 => ?_)
        refine x_aload_n i_62_54 rfl ?_
        refine x_gr i_62_55 hb.ob gr_1_11.1 gr_1_11.2 (hb.r11 _) ?_
        refine x_iload_n i_62_58 rfl ?_
        refine x_iload i_62_59 rfl ?_
        refine x_iload i_62_61 rfl ?_
        refine x_vh (r := []) (lj := [some _, some _, some _, some _]) i_62_63 w_99 hb.lg [_, _, _] rfl rfl (Nat.le_of_ble_eq_true rfl) (Nat.le_of_ble_eq_true rfl) rfl ?_
        refine c_99 hb r7 (by omega) (by omega) (by omega)  (fun M8 r8 f8 => rt_n ?_)
        refine x_vret i_62_66 rn_62 ?_
        exact k _ r8 (f7.trans f8)
      · have k := kp g6 k
        refine x_vret i_62_45 rn_62 ?_
        exact k _ r (FR.refl _ _)
  · have k := kp g1 k
    refine x_aload_n i_62_13 rfl ?_
    refine x_gr i_62_14 hb.ob gr_1_8.1 gr_1_8.2 (hb.r8 _) ?_
    refine x_iload_n i_62_17 rfl ?_
    refine n_ld (x := A 3 l1) i_62_18 hb.a4 (by omega) (by omega) (r.a3 (by omega)) ?_
    have q9 : A 3 l1 ≤ 1 := r.w.b3 (by omega)
    refine x_zneN (by omega) i_62_19 ⟨fun g10 => ?_, fun g10 => ?_⟩
    · have k := kn g10 k
      refine x_iload_n i_62_26 rfl ?_
      refine x_istore i_62_27 rfl rfl ?_
      refine x_iload_n i_62_29 rfl ?_
      refine x_iload i_62_30 rfl ?_
      have q11 : A 0 l1 ≤ 5 := r.w.b0 (by omega)
      refine x_ishrN (by omega) (by omega) i_62_32 ?_
      refine n_iconst 1 i_62_33 rfl ?_
      refine x_iandN i_62_34 ?_
      have q12 : l3 >>> (A 0 l1) ≤ l3 := shr_le _ _
      have q13 : (l3 >>> (A 0 l1)) &&& 1 ≤ 1 := Nat.le_trans Nat.and_le_right (by omega)
      refine x_zeqN (by omega) i_62_35 ⟨fun g14 => ?_, fun g14 => ?_⟩
      · have k := kp g14 k
        refine x_vret i_62_45 rn_62 ?_
        exact k _ r (FR.refl _ _)
      · have k := kn g14 k
        refine x_iload i_62_38 rfl ?_
        refine x_iload i_62_40 rfl ?_
        refine x_ineN (by omega) (by omega) i_62_42 ⟨fun g15 => ?_, fun g15 => ?_⟩
        · have k := kn g15 k
          refine x_aload_n i_62_46 rfl ?_
          refine x_gr i_62_47 hb.ob gr_1_5.1 gr_1_5.2 (hb.r5 _) ?_
          refine x_iload_n i_62_50 rfl ?_
          refine x_iload i_62_51 rfl ?_
          refine n_stC i_62_53 hb r 0 (by omega) (by omega) (show l2 < 6 by omega) rfl (fun M16 r16 f16 => ?_)
          refine x_aload_n i_62_54 rfl ?_
          refine x_gr i_62_55 hb.ob gr_1_11.1 gr_1_11.2 (hb.r11 _) ?_
          refine x_iload_n i_62_58 rfl ?_
          refine x_iload i_62_59 rfl ?_
          refine x_iload i_62_61 rfl ?_
          refine x_vh (r := []) (lj := [some _, some _, some _, some _]) i_62_63 w_99 hb.lg [_, _, _] rfl rfl (Nat.le_of_ble_eq_true rfl) (Nat.le_of_ble_eq_true rfl) rfl ?_
          refine c_99 hb r16 (by omega) (by omega) (by omega)  (fun M17 r17 f17 => rt_n ?_)
          refine x_vret i_62_66 rn_62 ?_
          exact k _ r17 (f16.trans f17)
        · have k := kp g15 k
          refine x_vret i_62_45 rn_62 ?_
          exact k _ r (FR.refl _ _)
    · have k := kp g10 k
      refine n_iconst 5 i_62_22 rfl ?_
      refine x_goto i_62_23 ?_
      refine x_istore i_62_27 rfl rfl ?_
      refine x_iload_n i_62_29 rfl ?_
      refine x_iload i_62_30 rfl ?_
      have q18 : A 0 l1 ≤ 5 := r.w.b0 (by omega)
      refine x_ishrN (by omega) (by omega) i_62_32 ?_
      refine n_iconst 1 i_62_33 rfl ?_
      refine x_iandN i_62_34 ?_
      have q19 : l3 >>> (A 0 l1) ≤ l3 := shr_le _ _
      have q20 : (l3 >>> (A 0 l1)) &&& 1 ≤ 1 := Nat.le_trans Nat.and_le_right (by omega)
      refine x_zeqN (by omega) i_62_35 ⟨fun g21 => ?_, fun g21 => ?_⟩
      · have k := kp g21 k
        refine x_vret i_62_45 rn_62 ?_
        exact k _ r (FR.refl _ _)
      · have k := kn g21 k
        refine x_iload i_62_38 rfl ?_
        refine x_iload i_62_40 rfl ?_
        refine x_ineN (by omega) (by omega) i_62_42 ⟨fun g22 => ?_, fun g22 => ?_⟩
        · have k := kn g22 k
          refine x_aload_n i_62_46 rfl ?_
          refine x_gr i_62_47 hb.ob gr_1_5.1 gr_1_5.2 (hb.r5 _) ?_
          refine x_iload_n i_62_50 rfl ?_
          refine x_iload i_62_51 rfl ?_
          refine n_stC i_62_53 hb r 0 (by omega) (by omega) (show 5 < 6 by omega) rfl (fun M23 r23 f23 => ?_)
          refine x_aload_n i_62_54 rfl ?_
          refine x_gr i_62_55 hb.ob gr_1_11.1 gr_1_11.2 (hb.r11 _) ?_
          refine x_iload_n i_62_58 rfl ?_
          refine x_iload i_62_59 rfl ?_
          refine x_iload i_62_61 rfl ?_
          refine x_vh (r := []) (lj := [some _, some _, some _, some _]) i_62_63 w_99 hb.lg [_, _, _] rfl rfl (Nat.le_of_ble_eq_true rfl) (Nat.le_of_ble_eq_true rfl) rfl ?_
          refine c_99 hb r23 (by omega) (by omega) (by omega)  (fun M24 r24 f24 => rt_n ?_)
          refine x_vret i_62_66 rn_62 ?_
          exact k _ r24 (f23.trans f24)
        · have k := kp g22 k
          refine x_vret i_62_45 rn_62 ?_
          exact k _ r (FR.refl _ _)
def s_63_9 (n : Nat) : Nat → HA → Nat → Nat → HA
  | 0, A, _, _ => A
  | d + 1, A, l1, l2 => (if n ≤ l2 then (if l1 = 0 then ((a_up A 6 2 3)) else A) else (if (A 1 l2) = 1 then (if (A 2 l2) = (A 2 l1) then (s_63_9 n d (a_up A 5 l2 ((A 5 l2) &&& ((1 <<< l1) ^^^ 4294967295))) l1 (l2 + 1)) else (s_63_9 n d A l1 (l2 + 1))) else (s_63_9 n d A l1 (l2 + 1))))
theorem c_63_9 {sc : a_Sc} {fd : Nat} {Q : Option Value → a_Hp → Prop} {b n : Nat} (hb : HB b) : ∀ (d : Nat) {M : a_Mm} {A : HA} {l1 l2 : Nat} (r : RC M b n A) (hl1 : l1 ≤ 4) (hl2 : l2 ≤ 5) (i0 : l2 ≤ n) (hm : n - l2 < d) (k : KV Q sc fd M b n (s_63_9 n d A l1 l2)), a_Ex 63 9 [some (.ref b), some (.int (N l1)), some (.int (N l2))] [] (a_hp sc fd M) Q := by
  intro d
  induction d with
  | zero => intro M A l1 l2 r hl1 hl2 i0 hm k; exact absurd hm (Nat.not_lt_zero _)
  | succ d ih =>
      intro M A l1 l2 r hl1 hl2 i0 hm k
      unfold s_63_9 at k
      have n5 := r.n5
      have n2 := r.n2
      refine x_iload_n i_63_9 rfl ?_
      refine x_aload_n i_63_10 rfl ?_
      refine n_gi (x := n) i_63_11 hb.ob gf_1_0.1 gf_1_0.2 r.nn ?_
      refine x_igeN (by omega) (by omega) i_63_14 ⟨fun g1 => ?_, fun g1 => ?_⟩
      · have k := kp g1 k
        refine x_iload_n i_63_62 rfl ?_
        refine x_zneN (by omega) i_63_63 ⟨fun g2 => ?_, fun g2 => ?_⟩
        · have k := kn g2 k
          refine x_vret i_63_71 rn_63 ?_
          exact k _ r (FR.refl _ _)
        · have k := kp g2 k
          refine x_aload_n i_63_66 rfl ?_
          refine n_iconst 3 i_63_67 rfl ?_
          refine n_pC i_63_68 hb r pf_1_2 (by omega) (by unfold okf; omega) (fun M3 r3 f3 => ?_)
          refine x_vret i_63_71 rn_63 ?_
          exact k _ r3 f3
      · have k := kn g1 k
        refine x_aload_n i_63_17 rfl ?_
        refine x_gr i_63_18 hb.ob gr_1_6.1 gr_1_6.2 (hb.r6 _) ?_
        refine x_iload_n i_63_21 rfl ?_
        refine n_ld (x := A 1 l2) i_63_22 hb.a2 (by omega) (by omega) (r.a1 (by omega)) ?_
        refine n_iconst 1 i_63_23 rfl ?_
        have q4 : A 1 l2 ≤ 2 := r.w.b1 (by omega)
        refine x_ineN (by omega) (by omega) i_63_24 ⟨fun g5 => ?_, fun g5 => ?_⟩
        · have k := kn g5 k
          refine n_iinc 1 i_63_56 rfl rfl rfl rfl ?_
          refine x_goto i_63_59 ?_
          exact ih r (by omega) (by omega) (by omega) (by omega) k
        · have k := kp g5 k
          refine x_aload_n i_63_27 rfl ?_
          refine x_gr i_63_28 hb.ob gr_1_7.1 gr_1_7.2 (hb.r7 _) ?_
          refine x_iload_n i_63_31 rfl ?_
          refine n_ld (x := A 2 l2) i_63_32 hb.a3 (by omega) (by omega) (r.a2 (by omega)) ?_
          refine x_aload_n i_63_33 rfl ?_
          refine x_gr i_63_34 hb.ob gr_1_7.1 gr_1_7.2 (hb.r7 _) ?_
          refine x_iload_n i_63_37 rfl ?_
          refine n_ld (x := A 2 l1) i_63_38 hb.a3 (by omega) (by omega) (r.a2 (by omega)) ?_
          have q6 : A 2 l2 ≤ 4 := r.w.b2 (by omega)
          have q7 : A 2 l1 ≤ 4 := r.w.b2 (by omega)
          refine x_ineN (by omega) (by omega) i_63_39 ⟨fun g8 => ?_, fun g8 => ?_⟩
          · have k := kn g8 k
            refine n_iinc 1 i_63_56 rfl rfl rfl rfl ?_
            refine x_goto i_63_59 ?_
            exact ih r (by omega) (by omega) (by omega) (by omega) k
          · have k := kp g8 k
            refine x_aload_n i_63_42 rfl ?_
            refine x_gr i_63_43 hb.ob gr_1_10.1 gr_1_10.2 (hb.r10 _) ?_
            refine x_iload_n i_63_46 rfl ?_
            refine x_dup2 i_63_47 rfl rfl ?_
            refine n_ld (x := A 5 l2) i_63_48 hb.a6 (by omega) (by omega) (r.a5 (by omega)) ?_
            refine n_iconst 1 i_63_49 rfl ?_
            refine x_iload_n i_63_50 rfl ?_
            refine x_ishlN (by omega) i_63_51 ?_
            refine n_iconst 4294967295 i_63_52 rfl ?_
            refine x_ixorN i_63_53 ?_
            refine x_iandN i_63_54 ?_
            have q9 : A 5 l2 ≤ 31 := r.w.b5 (by omega)
            have q10 : 1 <<< l1 ≤ 16 := shl_le 4 (by omega)
            have q11 : (A 5 l2) &&& ((1 <<< l1) ^^^ 4294967295) ≤ 31 := Nat.le_trans Nat.and_le_left (by omega)
            refine n_stC i_63_55 hb r 5 (by omega) (by omega) (show (A 5 l2) &&& ((1 <<< l1) ^^^ 4294967295) < 32 by omega) rfl (fun M12 r12 f12 => ?_)
            refine n_iinc 1 i_63_56 rfl rfl rfl rfl ?_
            refine x_goto i_63_59 ?_
            exact ih r12 (by omega) (by omega) (by omega) (by omega) (k.tr f12)
def s_63 (n : Nat) (A : HA) (l1 : Nat) : HA :=
  (s_63_9 n (6) (a_up A 1 l1 0) l1 0)
theorem c_63 {sc : a_Sc} {fd : Nat} {M : a_Mm} {A : HA} {Q : Option Value → a_Hp → Prop} {b n : Nat} (hb : HB b) (r : RC M b n A) {l1 : Nat} (hl1 : l1 ≤ 4) (k : KV Q sc fd M b n (s_63 n A l1)) : a_Ex 63 0 [some (.ref b), some (.int (N l1)), none] [] (a_hp sc fd M) Q := by
  unfold s_63 at k
  have n5 := r.n5
  have n2 := r.n2
  refine x_aload_n i_63_0 rfl ?_
  refine x_gr i_63_1 hb.ob gr_1_6.1 gr_1_6.2 (hb.r6 _) ?_
  refine x_iload_n i_63_4 rfl ?_
  refine n_iconst 0 i_63_5 rfl ?_
  refine n_stC i_63_6 hb r 1 (by omega) (by omega) (show 0 < 3 by omega) rfl (fun M1 r1 f1 => ?_)
  refine n_iconst 0 i_63_7 rfl ?_
  refine x_istore_n i_63_8 rfl rfl ?_
  exact c_63_9 hb (6) r1 (by omega) (by omega) (by omega) (by omega) (k.tr f1)
def s_81_11 (n : Nat) : Nat → HA → Nat → Nat → Nat → HA
  | 0, A, _, _, _ => A
  | d + 1, A, l1, l2, l3 => (if n ≤ l3 then ((a_up A 5 l1 l2)) else (if (A 1 l3) = 1 then (if (A 2 l3) = (A 2 l1) then (s_81_11 n d (a_up A 5 l3 ((A 5 l3) ||| (1 <<< l1))) l1 (l2 ||| (1 <<< l3)) (l3 + 1)) else (s_81_11 n d A l1 l2 (l3 + 1))) else (s_81_11 n d A l1 l2 (l3 + 1))))
theorem c_81_11 {sc : a_Sc} {fd : Nat} {Q : Option Value → a_Hp → Prop} {b n : Nat} (hb : HB b) : ∀ (d : Nat) {M : a_Mm} {A : HA} {l1 l2 l3 : Nat} (r : RC M b n A) (hl1 : l1 ≤ 4) (hl2 : l2 ≤ 31) (hl3 : l3 ≤ 5) (i0 : l3 ≤ n) (hm : n - l3 < d) (k : KV Q sc fd M b n (s_81_11 n d A l1 l2 l3)), a_Ex 81 11 [some (.ref b), some (.int (N l1)), some (.int (N l2)), some (.int (N l3))] [] (a_hp sc fd M) Q := by
  intro d
  induction d with
  | zero => intro M A l1 l2 l3 r hl1 hl2 hl3 i0 hm k; exact absurd hm (Nat.not_lt_zero _)
  | succ d ih =>
      intro M A l1 l2 l3 r hl1 hl2 hl3 i0 hm k
      unfold s_81_11 at k
      have n5 := r.n5
      have n2 := r.n2
      refine x_iload_n i_81_11 rfl ?_
      refine x_aload_n i_81_12 rfl ?_
      refine n_gi (x := n) i_81_13 hb.ob gf_1_0.1 gf_1_0.2 r.nn ?_
      refine x_igeN (by omega) (by omega) i_81_16 ⟨fun g1 => ?_, fun g1 => ?_⟩
      · have k := kp g1 k
        refine x_aload_n i_81_68 rfl ?_
        refine x_gr i_81_69 hb.ob gr_1_10.1 gr_1_10.2 (hb.r10 _) ?_
        refine x_iload_n i_81_72 rfl ?_
        refine x_iload_n i_81_73 rfl ?_
        refine n_stC i_81_74 hb r 5 (by omega) (by omega) (show l2 < 32 by omega) rfl (fun M2 r2 f2 => ?_)
        refine x_vret i_81_75 rn_81 ?_
        exact k _ r2 f2
      · have k := kn g1 k
        refine x_aload_n i_81_19 rfl ?_
        refine x_gr i_81_20 hb.ob gr_1_6.1 gr_1_6.2 (hb.r6 _) ?_
        refine x_iload_n i_81_23 rfl ?_
        refine n_ld (x := A 1 l3) i_81_24 hb.a2 (by omega) (by omega) (r.a1 (by omega)) ?_
        refine n_iconst 1 i_81_25 rfl ?_
        have q3 : A 1 l3 ≤ 2 := r.w.b1 (by omega)
        refine x_ineN (by omega) (by omega) i_81_26 ⟨fun g4 => ?_, fun g4 => ?_⟩
        · have k := kn g4 k
          refine n_iinc 1 i_81_62 rfl rfl rfl rfl ?_
          refine x_goto i_81_65 ?_
          exact ih r (by omega) (by omega) (by omega) (by omega) (by omega) k
        · have k := kp g4 k
          refine x_aload_n i_81_29 rfl ?_
          refine x_gr i_81_30 hb.ob gr_1_7.1 gr_1_7.2 (hb.r7 _) ?_
          refine x_iload_n i_81_33 rfl ?_
          refine n_ld (x := A 2 l3) i_81_34 hb.a3 (by omega) (by omega) (r.a2 (by omega)) ?_
          refine x_aload_n i_81_35 rfl ?_
          refine x_gr i_81_36 hb.ob gr_1_7.1 gr_1_7.2 (hb.r7 _) ?_
          refine x_iload_n i_81_39 rfl ?_
          refine n_ld (x := A 2 l1) i_81_40 hb.a3 (by omega) (by omega) (r.a2 (by omega)) ?_
          have q5 : A 2 l3 ≤ 4 := r.w.b2 (by omega)
          have q6 : A 2 l1 ≤ 4 := r.w.b2 (by omega)
          refine x_ineN (by omega) (by omega) i_81_41 ⟨fun g7 => ?_, fun g7 => ?_⟩
          · have k := kn g7 k
            refine n_iinc 1 i_81_62 rfl rfl rfl rfl ?_
            refine x_goto i_81_65 ?_
            exact ih r (by omega) (by omega) (by omega) (by omega) (by omega) k
          · have k := kp g7 k
            refine x_aload_n i_81_44 rfl ?_
            refine x_gr i_81_45 hb.ob gr_1_10.1 gr_1_10.2 (hb.r10 _) ?_
            refine x_iload_n i_81_48 rfl ?_
            refine x_dup2 i_81_49 rfl rfl ?_
            refine n_ld (x := A 5 l3) i_81_50 hb.a6 (by omega) (by omega) (r.a5 (by omega)) ?_
            refine n_iconst 1 i_81_51 rfl ?_
            refine x_iload_n i_81_52 rfl ?_
            refine x_ishlN (by omega) i_81_53 ?_
            refine x_iorN i_81_54 ?_
            have q8 : A 5 l3 ≤ 31 := r.w.b5 (by omega)
            have q9 : 1 <<< l1 ≤ 16 := shl_le 4 (by omega)
            have q10 : (A 5 l3) ||| (1 <<< l1) ≤ 31 := or_le 5 (by omega) (by omega)
            refine n_stC i_81_55 hb r 5 (by omega) (by omega) (show (A 5 l3) ||| (1 <<< l1) < 32 by omega) rfl (fun M11 r11 f11 => ?_)
            refine x_iload_n i_81_56 rfl ?_
            refine n_iconst 1 i_81_57 rfl ?_
            refine x_iload_n i_81_58 rfl ?_
            refine x_ishlN (by omega) i_81_59 ?_
            refine x_iorN i_81_60 ?_
            refine x_istore_n i_81_61 rfl rfl ?_
            refine n_iinc 1 i_81_62 rfl rfl rfl rfl ?_
            refine x_goto i_81_65 ?_
            have q12 : 1 <<< l3 ≤ 16 := shl_le 4 (by omega)
            have q13 : l2 ||| (1 <<< l3) ≤ 31 := or_le 5 (by omega) (by omega)
            exact ih r11 (by omega) (by omega) (by omega) (by omega) (by omega) (k.tr f11)
def s_81 (n : Nat) (A : HA) (l1 : Nat) : HA :=
  (s_81_11 n (6) (a_up A 1 l1 1) l1 0 0)
theorem c_81 {sc : a_Sc} {fd : Nat} {M : a_Mm} {A : HA} {Q : Option Value → a_Hp → Prop} {b n : Nat} (hb : HB b) (r : RC M b n A) {l1 : Nat} (hl1 : l1 ≤ 4) (k : KV Q sc fd M b n (s_81 n A l1)) : a_Ex 81 0 [some (.ref b), some (.int (N l1)), none, none] [] (a_hp sc fd M) Q := by
  unfold s_81 at k
  have n5 := r.n5
  have n2 := r.n2
  refine x_aload_n i_81_0 rfl ?_
  refine x_gr i_81_1 hb.ob gr_1_6.1 gr_1_6.2 (hb.r6 _) ?_
  refine x_iload_n i_81_4 rfl ?_
  refine n_iconst 1 i_81_5 rfl ?_
  refine n_stC i_81_6 hb r 1 (by omega) (by omega) (show 1 < 3 by omega) rfl (fun M1 r1 f1 => ?_)
  refine n_iconst 0 i_81_7 rfl ?_
  refine x_istore_n i_81_8 rfl rfl ?_
  refine n_iconst 0 i_81_9 rfl ?_
  refine x_istore_n i_81_10 rfl rfl ?_
  exact c_81_11 hb (6) r1 (by omega) (by omega) (by omega) (by omega) (by omega) (k.tr f1)
def s_61_25 (n : Nat) : Nat → HA → Nat → Nat → Nat → Nat → Nat → Nat × HA
  | 0, A, _, _, _, _, _ => (0, A)
  | d + 1, A, l1, l2, l3, l4, l5 => (if n ≤ l5 then (0, A) else (if l5 = l1 then (s_61_25 n d A l1 l2 l3 l4 (l5 + 1)) else (if ((l2 >>> l5) &&& 1) = 0 then (s_61_25 n d A l1 l2 l3 l4 (l5 + 1)) else (if (A 1 l5) = 1 then (if (A 2 l5) = (A 2 l1) then (if N (((s_62 n ((a_up A 6 13 ((A 6 13) + 1))) l5 l3 l4)) 6 13) = N (((s_62 n ((a_up A 6 13 ((A 6 13) + 1))) l5 l3 l4)) 6 12) then (1, (s_63 n ((s_62 n ((a_up A 6 13 ((A 6 13) + 1))) l5 l3 l4)) l1)) else (s_61_25 n d (s_62 n ((a_up A 6 13 ((A 6 13) + 1))) l5 l3 l4) l1 l2 l3 l4 (l5 + 1))) else (if N ((A 6 13) + 1) = N (A 6 12) then (1, (s_63 n ((a_up A 6 13 ((A 6 13) + 1))) l1)) else (s_61_25 n d (a_up A 6 13 ((A 6 13) + 1)) l1 l2 l3 l4 (l5 + 1)))) else (if N ((A 6 13) + 1) = N (A 6 12) then (1, (s_63 n ((a_up A 6 13 ((A 6 13) + 1))) l1)) else (s_61_25 n d (a_up A 6 13 ((A 6 13) + 1)) l1 l2 l3 l4 (l5 + 1)))))))
theorem c_61_25 {sc : a_Sc} {fd : Nat} {Q : Option Value → a_Hp → Prop} {b n : Nat} (hb : HB b) : ∀ (d : Nat) {M : a_Mm} {A : HA} {l1 l2 l3 l4 l5 : Nat} (r : RC M b n A) (hl1 : l1 ≤ 4) (hl2 : l2 ≤ 31) (hl3 : l3 ≤ 5) (hl4 : l4 ≤ 63) (hl5 : l5 ≤ 5) (i0 : l5 ≤ n) (hm : n - l5 < d) (k : KR 1 Q sc fd M b n (s_61_25 n d A l1 l2 l3 l4 l5)), a_Ex 61 25 [some (.ref b), some (.int (N l1)), some (.int (N l2)), some (.int (N l3)), some (.int (N l4)), some (.int (N l5))] [] (a_hp sc fd M) Q := by
  intro d
  induction d with
  | zero => intro M A l1 l2 l3 l4 l5 r hl1 hl2 hl3 hl4 hl5 i0 hm k; exact absurd hm (Nat.not_lt_zero _)
  | succ d ih =>
      intro M A l1 l2 l3 l4 l5 r hl1 hl2 hl3 hl4 hl5 i0 hm k
      unfold s_61_25 at k
      have n5 := r.n5
      have n2 := r.n2
      refine x_iload i_61_25 rfl ?_
      refine x_aload_n i_61_27 rfl ?_
      refine n_gi (x := n) i_61_28 hb.ob gf_1_0.1 gf_1_0.2 r.nn ?_
      refine x_igeN (by omega) (by omega) i_61_31 ⟨fun g1 => ?_, fun g1 => ?_⟩
      · have k := kp g1 k
        refine n_iconst 0 i_61_122 rfl ?_
        refine x_iret i_61_123 rn_61 (by decide +kernel) ?_
        exact k (show 0 ≤ 1 by omega) _ r (FR.refl _ _)
      · have k := kn g1 k
        refine x_iload i_61_34 rfl ?_
        refine x_iload_n i_61_36 rfl ?_
        refine x_ieqN (by omega) (by omega) i_61_37 ⟨fun g2 => ?_, fun g2 => ?_⟩
        · have k := kp g2 k
          refine n_iinc 1 i_61_116 rfl rfl rfl rfl ?_
          refine x_goto i_61_119 ?_
          exact ih r (by omega) (by omega) (by omega) (by omega) (by omega) (by omega) (by omega) k
        · have k := kn g2 k
          refine x_iload_n i_61_40 rfl ?_
          refine x_iload i_61_41 rfl ?_
          refine x_ishrN (by omega) (by omega) i_61_43 ?_
          refine n_iconst 1 i_61_44 rfl ?_
          refine x_iandN i_61_45 ?_
          have q3 : l2 >>> l5 ≤ l2 := shr_le _ _
          have q4 : (l2 >>> l5) &&& 1 ≤ 1 := Nat.le_trans Nat.and_le_right (by omega)
          refine x_zneN (by omega) i_61_46 ⟨fun g5 => ?_, fun g5 => ?_⟩
          · have k := kn g5 k
            refine x_aload_n i_61_52 rfl ?_
            refine x_dup i_61_53 rfl ?_
            refine n_gi (x := A 6 13) i_61_54 hb.ob gf_1_13.1 gf_1_13.2 r.f13 ?_
            refine n_iconst 1 i_61_57 rfl ?_
            refine x_iaddN i_61_58 ?_
            refine n_pC i_61_59 hb r pf_1_13 (by omega) (by unfold okf; omega) (fun M6 r6 f6 => ?_)
            refine x_aload_n i_61_62 rfl ?_
            refine x_gr i_61_63 hb.ob gr_1_6.1 gr_1_6.2 (hb.r6 _) ?_
            refine x_iload i_61_66 rfl ?_
            refine n_ld (x := A 1 l5) i_61_68 hb.a2 (by omega) (by omega) (r6.a1 (by omega)) ?_
            refine n_iconst 1 i_61_69 rfl ?_
            have q7 : A 1 l5 ≤ 2 := r6.w.b1 (by omega)
            refine x_ineN (by omega) (by omega) i_61_70 ⟨fun g8 => ?_, fun g8 => ?_⟩
            · have k := kn g8 k
              refine x_aload_n i_61_98 rfl ?_
              refine n_gi (x := (A 6 13) + 1) i_61_99 hb.ob gf_1_13.1 gf_1_13.2 r6.f13 ?_
              refine x_aload_n i_61_102 rfl ?_
              refine n_gi (x := A 6 12) i_61_103 hb.ob gf_1_12.1 gf_1_12.2 r6.f12 ?_
              refine x_ine i_61_106 ⟨fun g9 => ?_, fun g9 => ?_⟩
              · have k := kn g9 k
                refine n_iinc 1 i_61_116 rfl rfl rfl rfl ?_
                refine x_goto i_61_119 ?_
                exact ih r6 (by omega) (by omega) (by omega) (by omega) (by omega) (by omega) (by omega) (k.tr f6)
              · have k := kp g9 k
                refine x_aload_n i_61_109 rfl ?_
                refine x_iload_n i_61_110 rfl ?_
                refine x_vh (r := []) (lj := [some _, some _, none]) i_61_111 w_63 hb.ob [_] rfl rfl (Nat.le_of_ble_eq_true rfl) (Nat.le_of_ble_eq_true rfl) rfl ?_
                refine c_63 hb r6 (by omega)  (fun M10 r10 f10 => rt_n ?_)
                refine n_iconst 1 i_61_114 rfl ?_
                refine x_iret i_61_115 rn_61 (by decide +kernel) ?_
                exact k (show 1 ≤ 1 by omega) _ r10 (f6.trans f10)
            · have k := kp g8 k
              refine x_aload_n i_61_73 rfl ?_
              refine x_gr i_61_74 hb.ob gr_1_7.1 gr_1_7.2 (hb.r7 _) ?_
              refine x_iload i_61_77 rfl ?_
              refine n_ld (x := A 2 l5) i_61_79 hb.a3 (by omega) (by omega) (r6.a2 (by omega)) ?_
              refine x_aload_n i_61_80 rfl ?_
              refine x_gr i_61_81 hb.ob gr_1_7.1 gr_1_7.2 (hb.r7 _) ?_
              refine x_iload_n i_61_84 rfl ?_
              refine n_ld (x := A 2 l1) i_61_85 hb.a3 (by omega) (by omega) (r6.a2 (by omega)) ?_
              have q11 : A 2 l5 ≤ 4 := r6.w.b2 (by omega)
              have q12 : A 2 l1 ≤ 4 := r6.w.b2 (by omega)
              refine x_ineN (by omega) (by omega) i_61_86 ⟨fun g13 => ?_, fun g13 => ?_⟩
              · have k := kn g13 k
                refine x_aload_n i_61_98 rfl ?_
                refine n_gi (x := (A 6 13) + 1) i_61_99 hb.ob gf_1_13.1 gf_1_13.2 r6.f13 ?_
                refine x_aload_n i_61_102 rfl ?_
                refine n_gi (x := A 6 12) i_61_103 hb.ob gf_1_12.1 gf_1_12.2 r6.f12 ?_
                refine x_ine i_61_106 ⟨fun g14 => ?_, fun g14 => ?_⟩
                · have k := kn g14 k
                  refine n_iinc 1 i_61_116 rfl rfl rfl rfl ?_
                  refine x_goto i_61_119 ?_
                  exact ih r6 (by omega) (by omega) (by omega) (by omega) (by omega) (by omega) (by omega) (k.tr f6)
                · have k := kp g14 k
                  refine x_aload_n i_61_109 rfl ?_
                  refine x_iload_n i_61_110 rfl ?_
                  refine x_vh (r := []) (lj := [some _, some _, none]) i_61_111 w_63 hb.ob [_] rfl rfl (Nat.le_of_ble_eq_true rfl) (Nat.le_of_ble_eq_true rfl) rfl ?_
                  refine c_63 hb r6 (by omega)  (fun M15 r15 f15 => rt_n ?_)
                  refine n_iconst 1 i_61_114 rfl ?_
                  refine x_iret i_61_115 rn_61 (by decide +kernel) ?_
                  exact k (show 1 ≤ 1 by omega) _ r15 (f6.trans f15)
              · have k := kp g13 k
                refine x_aload_n i_61_89 rfl ?_
                refine x_iload i_61_90 rfl ?_
                refine x_iload_n i_61_92 rfl ?_
                refine x_iload i_61_93 rfl ?_
                refine x_vh (r := []) (lj := [some _, some _, some _, some _, none, none]) i_61_95 w_62 hb.ob [_, _, _] rfl rfl (Nat.le_of_ble_eq_true rfl) (Nat.le_of_ble_eq_true rfl) rfl ?_
                refine c_62 hb r6 (by omega) (by omega) (by omega)  (fun M16 r16 f16 => rt_n ?_)
                refine x_aload_n i_61_98 rfl ?_
                refine n_gi (x := ((s_62 n ((a_up A 6 13 ((A 6 13) + 1))) l5 l3 l4)) 6 13) i_61_99 hb.ob gf_1_13.1 gf_1_13.2 r16.f13 ?_
                refine x_aload_n i_61_102 rfl ?_
                refine n_gi (x := ((s_62 n ((a_up A 6 13 ((A 6 13) + 1))) l5 l3 l4)) 6 12) i_61_103 hb.ob gf_1_12.1 gf_1_12.2 r16.f12 ?_
                refine x_ine i_61_106 ⟨fun g17 => ?_, fun g17 => ?_⟩
                · have k := kn g17 k
                  refine n_iinc 1 i_61_116 rfl rfl rfl rfl ?_
                  refine x_goto i_61_119 ?_
                  exact ih r16 (by omega) (by omega) (by omega) (by omega) (by omega) (by omega) (by omega) (k.tr (f6.trans f16))
                · have k := kp g17 k
                  refine x_aload_n i_61_109 rfl ?_
                  refine x_iload_n i_61_110 rfl ?_
                  refine x_vh (r := []) (lj := [some _, some _, none]) i_61_111 w_63 hb.ob [_] rfl rfl (Nat.le_of_ble_eq_true rfl) (Nat.le_of_ble_eq_true rfl) rfl ?_
                  refine c_63 hb r16 (by omega)  (fun M18 r18 f18 => rt_n ?_)
                  refine n_iconst 1 i_61_114 rfl ?_
                  refine x_iret i_61_115 rn_61 (by decide +kernel) ?_
                  exact k (show 1 ≤ 1 by omega) _ r18 ((f6.trans f16).trans f18)
          · have k := kp g5 k
            refine x_goto i_61_49 ?_
            refine n_iinc 1 i_61_116 rfl rfl rfl rfl ?_
            refine x_goto i_61_119 ?_
            exact ih r (by omega) (by omega) (by omega) (by omega) (by omega) (by omega) (by omega) k
def s_61 (n : Nat) (A : HA) (l1 : Nat) (l2 : Nat) (l3 : Nat) (l4 : Nat) : Nat × HA :=
  (if N (((s_62 n A l1 l3 l4)) 6 12) = 0 then (1, (s_63 n ((s_62 n A l1 l3 l4)) l1)) else (s_61_25 n (6) (s_62 n A l1 l3 l4) l1 l2 l3 l4 0))
theorem c_61 {sc : a_Sc} {fd : Nat} {M : a_Mm} {A : HA} {Q : Option Value → a_Hp → Prop} {b n : Nat} (hb : HB b) (r : RC M b n A) {l1 l2 l3 l4 : Nat} (hl1 : l1 ≤ 4) (hl2 : l2 ≤ 31) (hl3 : l3 ≤ 5) (hl4 : l4 ≤ 63) (k : KR 1 Q sc fd M b n (s_61 n A l1 l2 l3 l4)) : a_Ex 61 0 [some (.ref b), some (.int (N l1)), some (.int (N l2)), some (.int (N l3)), some (.int (N l4)), none] [] (a_hp sc fd M) Q := by
  unfold s_61 at k
  have n5 := r.n5
  have n2 := r.n2
  refine x_aload_n i_61_0 rfl ?_
  refine x_iload_n i_61_1 rfl ?_
  refine x_iload_n i_61_2 rfl ?_
  refine x_iload i_61_3 rfl ?_
  refine x_vh (r := []) (lj := [some _, some _, some _, some _, none, none]) i_61_5 w_62 hb.ob [_, _, _] rfl rfl (Nat.le_of_ble_eq_true rfl) (Nat.le_of_ble_eq_true rfl) rfl ?_
  refine c_62 hb r (by omega) (by omega) (by omega)  (fun M1 r1 f1 => rt_n ?_)
  refine x_aload_n i_61_8 rfl ?_
  refine n_gi (x := ((s_62 n A l1 l3 l4)) 6 12) i_61_9 hb.ob gf_1_12.1 gf_1_12.2 r1.f12 ?_
  refine x_zne i_61_12 ⟨fun g2 => ?_, fun g2 => ?_⟩
  · have k := kn g2 k
    refine n_iconst 0 i_61_22 rfl ?_
    refine x_istore i_61_23 rfl rfl ?_
    exact c_61_25 hb (6) r1 (by omega) (by omega) (by omega) (by omega) (by omega) (by omega) (by omega) (k.tr f1)
  · have k := kp g2 k
    refine x_aload_n i_61_15 rfl ?_
    refine x_iload_n i_61_16 rfl ?_
    refine x_vh (r := []) (lj := [some _, some _, none]) i_61_17 w_63 hb.ob [_] rfl rfl (Nat.le_of_ble_eq_true rfl) (Nat.le_of_ble_eq_true rfl) rfl ?_
    refine c_63 hb r1 (by omega)  (fun M3 r3 f3 => rt_n ?_)
    refine n_iconst 1 i_61_20 rfl ?_
    refine x_iret i_61_21 rn_61 (by decide +kernel) ?_
    exact k (show 1 ≤ 1 by omega) _ r3 (f1.trans f3)
def s_57 (n : Nat) (A : HA) (l1 : Nat) : Nat × HA :=
  (if (isK l1) = 0 then (4294967293, A) else (if (A 6 2) = 0 then (if (A 1 0) = 1 then (if (A 0 0) = 0 then (if (A 3 0) = 1 then (if ((s_61 n ((a_up (a_up A 6 12 l1) 6 13 0)) 0 (ev n) 1 1).1) = 0 then (if (s_55 n ((s_61 n ((a_up (a_up A 6 12 l1) 6 13 0)) 0 (ev n) 1 1).2) (ev n)) = 2 then (1, (a_up (s_61 n ((a_up (a_up A 6 12 l1) 6 13 0)) 0 (ev n) 1 1).2 6 2 1)) else (3, (a_up (s_61 n ((s_61 n ((a_up (a_up A 6 12 l1) 6 13 0)) 0 (ev n) 1 1).2) 0 (ev n) 5 15).2 6 2 3))) else (((s_61 n ((a_up (a_up A 6 12 l1) 6 13 0)) 0 (ev n) 1 1).2) 6 2, (s_61 n ((a_up (a_up A 6 12 l1) 6 13 0)) 0 (ev n) 1 1).2)) else (3, (a_up (s_61 n ((a_up (a_up A 6 12 l1) 6 13 0)) 0 (ev n) 5 15).2 6 2 3))) else (4294967291, A)) else (4294967291, A)) else (4294967291, A)))
theorem c_57 {sc : a_Sc} {fd : Nat} {M : a_Mm} {A : HA} {Q : Option Value → a_Hp → Prop} {b n : Nat} (hb : HB b) (r : RC M b n A) {l1 : Nat} (hl1 : l1 ≤ 4294967295) (k : KR 4294967295 Q sc fd M b n (s_57 n A l1)) : a_Ex 57 0 [some (.ref b), some (.int (N l1))] [] (a_hp sc fd M) Q := by
  unfold s_57 at k
  have n5 := r.n5
  have n2 := r.n2
  refine x_aload_n i_57_0 rfl ?_
  refine x_iload_n i_57_1 rfl ?_
  refine x_vh (r := []) (lj := [some _, some _]) i_57_2 w_58 hb.ob [_] rfl rfl (Nat.le_of_ble_eq_true rfl) (Nat.le_of_ble_eq_true rfl) rfl ?_
  refine c_58 hb r (by omega)  (fun q1 => rt_i ?_)
  refine x_zneN (by omega) i_57_5 ⟨fun g2 => ?_, fun g2 => ?_⟩
  · have k := kn g2 k
    refine x_aload_n i_57_11 rfl ?_
    refine n_iconst 0 i_57_12 rfl ?_
    refine n_iconst 0 i_57_13 rfl ?_
    refine x_vh (r := []) (lj := [some _, some _, some _]) i_57_14 w_59 hb.ob [_, _] rfl rfl (Nat.le_of_ble_eq_true rfl) (Nat.le_of_ble_eq_true rfl) rfl ?_
    refine x_aload_n i_59_0 rfl ?_
    refine n_gi (x := A 6 2) i_59_1 hb.ob gf_1_2.1 gf_1_2.2 r.f2 ?_
    refine x_iload_n i_59_4 rfl ?_
    have q3 : A 6 2 ≤ 3 := r.w.f2
    refine x_ineN (by omega) (by omega) i_59_5 ⟨fun g4 => ?_, fun g4 => ?_⟩
    · have k := kn g4 k
      refine n_iconst 0 i_59_32 rfl ?_
      refine x_iretI i_59_33 rn_59 (by decide +kernel) ?_
      refine x_ifF i_57_17 (by decide +kernel) ?_
      refine n_bipush 4294967291 i_57_20 rfl ?_
      refine x_iret i_57_22 rn_57 rfl ?_
      exact k (show 4294967291 ≤ 4294967295 by omega) _ r (FR.refl _ _)
    · have k := kp g4 k
      refine x_aload_n i_59_8 rfl ?_
      refine x_gr i_59_9 hb.ob gr_1_6.1 gr_1_6.2 (hb.r6 _) ?_
      refine n_iconst 0 i_59_12 rfl ?_
      refine n_ld (x := A 1 0) i_59_13 hb.a2 (by omega) (by omega) (r.a1 (by omega)) ?_
      refine n_iconst 1 i_59_14 rfl ?_
      have q5 : A 1 0 ≤ 2 := r.w.b1 (by omega)
      refine x_ineN (by omega) (by omega) i_59_15 ⟨fun g6 => ?_, fun g6 => ?_⟩
      · have k := kn g6 k
        refine n_iconst 0 i_59_32 rfl ?_
        refine x_iretI i_59_33 rn_59 (by decide +kernel) ?_
        refine x_ifF i_57_17 (by decide +kernel) ?_
        refine n_bipush 4294967291 i_57_20 rfl ?_
        refine x_iret i_57_22 rn_57 rfl ?_
        exact k (show 4294967291 ≤ 4294967295 by omega) _ r (FR.refl _ _)
      · have k := kp g6 k
        refine x_aload_n i_59_18 rfl ?_
        refine x_gr i_59_19 hb.ob gr_1_5.1 gr_1_5.2 (hb.r5 _) ?_
        refine n_iconst 0 i_59_22 rfl ?_
        refine n_ld (x := A 0 0) i_59_23 hb.a1 (by omega) (by omega) (r.a0 (by omega)) ?_
        refine x_iload_n i_59_24 rfl ?_
        have q7 : A 0 0 ≤ 5 := r.w.b0 (by omega)
        refine x_ineN (by omega) (by omega) i_59_25 ⟨fun g8 => ?_, fun g8 => ?_⟩
        · have k := kn g8 k
          refine n_iconst 0 i_59_32 rfl ?_
          refine x_iretI i_59_33 rn_59 (by decide +kernel) ?_
          refine x_ifF i_57_17 (by decide +kernel) ?_
          refine n_bipush 4294967291 i_57_20 rfl ?_
          refine x_iret i_57_22 rn_57 rfl ?_
          exact k (show 4294967291 ≤ 4294967295 by omega) _ r (FR.refl _ _)
        · have k := kp g8 k
          refine n_iconst 1 i_59_28 rfl ?_
          refine x_goto i_59_29 ?_
          refine x_iretI i_59_33 rn_59 (by decide +kernel) ?_
          refine x_ifT i_57_17 (by decide +kernel) ?_
          refine x_aload_n i_57_23 rfl ?_
          refine x_iload_n i_57_24 rfl ?_
          refine x_vh (r := []) (lj := [some _, some _]) i_57_25 w_60 hb.ob [_] rfl rfl (Nat.le_of_ble_eq_true rfl) (Nat.le_of_ble_eq_true rfl) rfl ?_
          refine x_aload_n i_60_0 rfl ?_
          refine x_iload_n i_60_1 rfl ?_
          refine n_pC i_60_2 hb r pf_1_12 (by omega) (by unfold okf; omega) (fun M9 r9 f9 => ?_)
          refine x_aload_n i_60_5 rfl ?_
          refine n_iconst 0 i_60_6 rfl ?_
          refine n_pC i_60_7 hb r9 pf_1_13 (by omega) (by unfold okf; omega) (fun M10 r10 f10 => ?_)
          refine x_vretI i_60_10 rn_60 ?_
          refine x_aload_n i_57_28 rfl ?_
          refine x_gr i_57_29 hb.ob gr_1_8.1 gr_1_8.2 (hb.r8 _) ?_
          refine n_iconst 0 i_57_32 rfl ?_
          refine n_ld (x := A 3 0) i_57_33 hb.a4 (by omega) (by omega) (r10.a3 (by omega)) ?_
          refine n_iconst 1 i_57_34 rfl ?_
          have q11 : A 3 0 ≤ 1 := r10.w.b3 (by omega)
          refine x_ineN (by omega) (by omega) i_57_35 ⟨fun g12 => ?_, fun g12 => ?_⟩
          · have k := kn g12 k
            refine x_aload_n i_57_79 rfl ?_
            refine n_iconst 0 i_57_80 rfl ?_
            refine x_aload_n i_57_81 rfl ?_
            refine x_vh (r := [_, _]) (lj := [some _]) i_57_82 w_47 hb.ob [] rfl rfl (Nat.le_of_ble_eq_true rfl) (Nat.le_of_ble_eq_true rfl) rfl ?_
            refine c_47 hb r10   (fun q13 => rt_i ?_)
            refine n_iconst 5 i_57_85 rfl ?_
            refine n_bipush 15 i_57_86 rfl ?_
            refine x_vh (r := []) (lj := [some _, some _, some _, some _, some _, none]) i_57_88 w_61 hb.ob [_, _, _, _] rfl rfl (Nat.le_of_ble_eq_true rfl) (Nat.le_of_ble_eq_true rfl) rfl ?_
            refine c_61 hb r10 (by omega) (by omega) (by omega) (by omega)  (fun q14 M14 r14 f14 => rt_i ?_)
            refine x_pop i_57_91 rfl ?_
            refine x_aload_n i_57_92 rfl ?_
            refine n_iconst 3 i_57_93 rfl ?_
            refine n_pC i_57_94 hb r14 pf_1_2 (by omega) (by unfold okf; omega) (fun M15 r15 f15 => ?_)
            refine x_aload_n i_57_97 rfl ?_
            refine n_gi (x := 3) i_57_98 hb.ob gf_1_2.1 gf_1_2.2 r15.f2 ?_
            refine x_iret i_57_101 rn_57 rfl ?_
            exact k (show 3 ≤ 4294967295 by omega) _ r15 (((f9.trans f10).trans f14).trans f15)
          · have k := kp g12 k
            refine x_aload_n i_57_38 rfl ?_
            refine n_iconst 0 i_57_39 rfl ?_
            refine x_aload_n i_57_40 rfl ?_
            refine x_vh (r := [_, _]) (lj := [some _]) i_57_41 w_47 hb.ob [] rfl rfl (Nat.le_of_ble_eq_true rfl) (Nat.le_of_ble_eq_true rfl) rfl ?_
            refine c_47 hb r10   (fun q16 => rt_i ?_)
            refine n_iconst 1 i_57_44 rfl ?_
            refine n_iconst 1 i_57_45 rfl ?_
            refine x_vh (r := []) (lj := [some _, some _, some _, some _, some _, none]) i_57_46 w_61 hb.ob [_, _, _, _] rfl rfl (Nat.le_of_ble_eq_true rfl) (Nat.le_of_ble_eq_true rfl) rfl ?_
            refine c_61 hb r10 (by omega) (by omega) (by omega) (by omega)  (fun q17 M17 r17 f17 => rt_i ?_)
            refine x_zeqN (by omega) i_57_49 ⟨fun g18 => ?_, fun g18 => ?_⟩
            · have k := kp g18 k
              refine x_aload_n i_57_57 rfl ?_
              refine x_aload_n i_57_58 rfl ?_
              refine x_vh (r := [_]) (lj := [some _]) i_57_59 w_47 hb.ob [] rfl rfl (Nat.le_of_ble_eq_true rfl) (Nat.le_of_ble_eq_true rfl) rfl ?_
              refine c_47 hb r17   (fun q19 => rt_i ?_)
              refine x_vh (r := []) (lj := [some _, some _, none, none]) i_57_62 w_55 hb.ob [_] rfl rfl (Nat.le_of_ble_eq_true rfl) (Nat.le_of_ble_eq_true rfl) rfl ?_
              refine c_55 hb r17 (by omega)  (fun q20 => rt_i ?_)
              refine n_iconst 2 i_57_65 rfl ?_
              refine x_ineN (by omega) (by omega) i_57_66 ⟨fun g21 => ?_, fun g21 => ?_⟩
              · have k := kn g21 k
                refine x_aload_n i_57_79 rfl ?_
                refine n_iconst 0 i_57_80 rfl ?_
                refine x_aload_n i_57_81 rfl ?_
                refine x_vh (r := [_, _]) (lj := [some _]) i_57_82 w_47 hb.ob [] rfl rfl (Nat.le_of_ble_eq_true rfl) (Nat.le_of_ble_eq_true rfl) rfl ?_
                refine c_47 hb r17   (fun q22 => rt_i ?_)
                refine n_iconst 5 i_57_85 rfl ?_
                refine n_bipush 15 i_57_86 rfl ?_
                refine x_vh (r := []) (lj := [some _, some _, some _, some _, some _, none]) i_57_88 w_61 hb.ob [_, _, _, _] rfl rfl (Nat.le_of_ble_eq_true rfl) (Nat.le_of_ble_eq_true rfl) rfl ?_
                refine c_61 hb r17 (by omega) (by omega) (by omega) (by omega)  (fun q23 M23 r23 f23 => rt_i ?_)
                refine x_pop i_57_91 rfl ?_
                refine x_aload_n i_57_92 rfl ?_
                refine n_iconst 3 i_57_93 rfl ?_
                refine n_pC i_57_94 hb r23 pf_1_2 (by omega) (by unfold okf; omega) (fun M24 r24 f24 => ?_)
                refine x_aload_n i_57_97 rfl ?_
                refine n_gi (x := 3) i_57_98 hb.ob gf_1_2.1 gf_1_2.2 r24.f2 ?_
                refine x_iret i_57_101 rn_57 rfl ?_
                exact k (show 3 ≤ 4294967295 by omega) _ r24 ((((f9.trans f10).trans f17).trans f23).trans f24)
              · have k := kp g21 k
                refine x_aload_n i_57_69 rfl ?_
                refine n_iconst 1 i_57_70 rfl ?_
                refine n_pC i_57_71 hb r17 pf_1_2 (by omega) (by unfold okf; omega) (fun M25 r25 f25 => ?_)
                refine x_aload_n i_57_74 rfl ?_
                refine n_gi (x := 1) i_57_75 hb.ob gf_1_2.1 gf_1_2.2 r25.f2 ?_
                refine x_iret i_57_78 rn_57 rfl ?_
                exact k (show 1 ≤ 4294967295 by omega) _ r25 (((f9.trans f10).trans f17).trans f25)
            · have k := kn g18 k
              refine x_aload_n i_57_52 rfl ?_
              refine n_gi (x := ((s_61 n ((a_up (a_up A 6 12 l1) 6 13 0)) 0 (ev n) 1 1).2) 6 2) i_57_53 hb.ob gf_1_2.1 gf_1_2.2 r17.f2 ?_
              have q26 : ((s_61 n ((a_up (a_up A 6 12 l1) 6 13 0)) 0 (ev n) 1 1).2) 6 2 ≤ 3 := r17.w.f2
              refine x_iret i_57_56 rn_57 rfl ?_
              exact k (show ((s_61 n ((a_up (a_up A 6 12 l1) 6 13 0)) 0 (ev n) 1 1).2) 6 2 ≤ 4294967295 by omega) _ r17 ((f9.trans f10).trans f17)
  · have k := kp g2 k
    refine n_bipush 4294967293 i_57_8 rfl ?_
    refine x_iret i_57_10 rn_57 rfl ?_
    exact k (show 4294967293 ≤ 4294967295 by omega) _ r (FR.refl _ _)
def s_64 (n : Nat) (A : HA) (l1 : Nat) : Nat × HA :=
  (if (isK l1) = 0 then (4294967293, A) else (if (A 6 2) = 1 then (if (A 1 0) = 1 then (if (A 0 0) = 1 then (if ((s_61 n ((a_up (a_up A 6 12 l1) 6 13 0)) 0 (ev n) 2 2).1) = 0 then (if (((s_61 n ((a_up (a_up A 6 12 l1) 6 13 0)) 0 (ev n) 2 2).2) 6 1) = 0 then (2, (a_up (s_61 n ((a_up (a_up A 6 12 l1) 6 13 0)) 0 (ev n) 2 2).2 6 2 2)) else (if (s_49 n ((s_61 n ((a_up (a_up A 6 12 l1) 6 13 0)) 0 (ev n) 2 2).2) ((s_65 n ((s_61 n ((a_up (a_up A 6 12 l1) 6 13 0)) 0 (ev n) 2 2).2) 4) &&& ((s_65 n A 4) ^^^ 4294967295))) < (((s_61 n ((a_up (a_up A 6 12 l1) 6 13 0)) 0 (ev n) 2 2).2) 6 3) then (3, (a_up (s_61 n ((a_up (a_up A 6 12 l1) 6 13 0)) 0 (ev n) 2 2).2 6 2 3)) else (2, (a_up (s_61 n ((a_up (a_up A 6 12 l1) 6 13 0)) 0 (ev n) 2 2).2 6 2 2)))) else (((s_61 n ((a_up (a_up A 6 12 l1) 6 13 0)) 0 (ev n) 2 2).2) 6 2, (s_61 n ((a_up (a_up A 6 12 l1) 6 13 0)) 0 (ev n) 2 2).2)) else (4294967291, A)) else (4294967291, A)) else (4294967291, A)))
theorem c_64 {sc : a_Sc} {fd : Nat} {M : a_Mm} {A : HA} {Q : Option Value → a_Hp → Prop} {b n : Nat} (hb : HB b) (r : RC M b n A) {l1 : Nat} (hl1 : l1 ≤ 4294967295) (k : KR 4294967295 Q sc fd M b n (s_64 n A l1)) : a_Ex 64 0 [some (.ref b), some (.int (N l1)), none, none] [] (a_hp sc fd M) Q := by
  unfold s_64 at k
  have n5 := r.n5
  have n2 := r.n2
  refine x_aload_n i_64_0 rfl ?_
  refine x_iload_n i_64_1 rfl ?_
  refine x_vh (r := []) (lj := [some _, some _]) i_64_2 w_58 hb.ob [_] rfl rfl (Nat.le_of_ble_eq_true rfl) (Nat.le_of_ble_eq_true rfl) rfl ?_
  refine c_58 hb r (by omega)  (fun q1 => rt_i ?_)
  refine x_zneN (by omega) i_64_5 ⟨fun g2 => ?_, fun g2 => ?_⟩
  · have k := kn g2 k
    refine x_aload_n i_64_11 rfl ?_
    refine n_iconst 1 i_64_12 rfl ?_
    refine n_iconst 1 i_64_13 rfl ?_
    refine x_vh (r := []) (lj := [some _, some _, some _]) i_64_14 w_59 hb.ob [_, _] rfl rfl (Nat.le_of_ble_eq_true rfl) (Nat.le_of_ble_eq_true rfl) rfl ?_
    refine x_aload_n i_59_0 rfl ?_
    refine n_gi (x := A 6 2) i_59_1 hb.ob gf_1_2.1 gf_1_2.2 r.f2 ?_
    refine x_iload_n i_59_4 rfl ?_
    have q3 : A 6 2 ≤ 3 := r.w.f2
    refine x_ineN (by omega) (by omega) i_59_5 ⟨fun g4 => ?_, fun g4 => ?_⟩
    · have k := kn g4 k
      refine n_iconst 0 i_59_32 rfl ?_
      refine x_iretI i_59_33 rn_59 (by decide +kernel) ?_
      refine x_ifF i_64_17 (by decide +kernel) ?_
      refine n_bipush 4294967291 i_64_20 rfl ?_
      refine x_iret i_64_22 rn_64 rfl ?_
      exact k (show 4294967291 ≤ 4294967295 by omega) _ r (FR.refl _ _)
    · have k := kp g4 k
      refine x_aload_n i_59_8 rfl ?_
      refine x_gr i_59_9 hb.ob gr_1_6.1 gr_1_6.2 (hb.r6 _) ?_
      refine n_iconst 0 i_59_12 rfl ?_
      refine n_ld (x := A 1 0) i_59_13 hb.a2 (by omega) (by omega) (r.a1 (by omega)) ?_
      refine n_iconst 1 i_59_14 rfl ?_
      have q5 : A 1 0 ≤ 2 := r.w.b1 (by omega)
      refine x_ineN (by omega) (by omega) i_59_15 ⟨fun g6 => ?_, fun g6 => ?_⟩
      · have k := kn g6 k
        refine n_iconst 0 i_59_32 rfl ?_
        refine x_iretI i_59_33 rn_59 (by decide +kernel) ?_
        refine x_ifF i_64_17 (by decide +kernel) ?_
        refine n_bipush 4294967291 i_64_20 rfl ?_
        refine x_iret i_64_22 rn_64 rfl ?_
        exact k (show 4294967291 ≤ 4294967295 by omega) _ r (FR.refl _ _)
      · have k := kp g6 k
        refine x_aload_n i_59_18 rfl ?_
        refine x_gr i_59_19 hb.ob gr_1_5.1 gr_1_5.2 (hb.r5 _) ?_
        refine n_iconst 0 i_59_22 rfl ?_
        refine n_ld (x := A 0 0) i_59_23 hb.a1 (by omega) (by omega) (r.a0 (by omega)) ?_
        refine x_iload_n i_59_24 rfl ?_
        have q7 : A 0 0 ≤ 5 := r.w.b0 (by omega)
        refine x_ineN (by omega) (by omega) i_59_25 ⟨fun g8 => ?_, fun g8 => ?_⟩
        · have k := kn g8 k
          refine n_iconst 0 i_59_32 rfl ?_
          refine x_iretI i_59_33 rn_59 (by decide +kernel) ?_
          refine x_ifF i_64_17 (by decide +kernel) ?_
          refine n_bipush 4294967291 i_64_20 rfl ?_
          refine x_iret i_64_22 rn_64 rfl ?_
          exact k (show 4294967291 ≤ 4294967295 by omega) _ r (FR.refl _ _)
        · have k := kp g8 k
          refine n_iconst 1 i_59_28 rfl ?_
          refine x_goto i_59_29 ?_
          refine x_iretI i_59_33 rn_59 (by decide +kernel) ?_
          refine x_ifT i_64_17 (by decide +kernel) ?_
          refine x_aload_n i_64_23 rfl ?_
          refine n_iconst 4 i_64_24 rfl ?_
          refine x_vh (r := []) (lj := [some _, some _, none, none]) i_64_25 w_65 hb.ob [_] rfl rfl (Nat.le_of_ble_eq_true rfl) (Nat.le_of_ble_eq_true rfl) rfl ?_
          refine c_65 hb r (by omega)  (fun q9 => rt_i ?_)
          refine x_istore_n i_64_28 rfl rfl ?_
          refine x_aload_n i_64_29 rfl ?_
          refine x_iload_n i_64_30 rfl ?_
          refine x_vh (r := []) (lj := [some _, some _]) i_64_31 w_60 hb.ob [_] rfl rfl (Nat.le_of_ble_eq_true rfl) (Nat.le_of_ble_eq_true rfl) rfl ?_
          refine x_aload_n i_60_0 rfl ?_
          refine x_iload_n i_60_1 rfl ?_
          refine n_pC i_60_2 hb r pf_1_12 (by omega) (by unfold okf; omega) (fun M10 r10 f10 => ?_)
          refine x_aload_n i_60_5 rfl ?_
          refine n_iconst 0 i_60_6 rfl ?_
          refine n_pC i_60_7 hb r10 pf_1_13 (by omega) (by unfold okf; omega) (fun M11 r11 f11 => ?_)
          refine x_vretI i_60_10 rn_60 ?_
          refine x_aload_n i_64_34 rfl ?_
          refine n_iconst 0 i_64_35 rfl ?_
          refine x_aload_n i_64_36 rfl ?_
          refine x_vh (r := [_, _]) (lj := [some _]) i_64_37 w_47 hb.ob [] rfl rfl (Nat.le_of_ble_eq_true rfl) (Nat.le_of_ble_eq_true rfl) rfl ?_
          refine c_47 hb r11   (fun q12 => rt_i ?_)
          refine n_iconst 2 i_64_40 rfl ?_
          refine n_iconst 2 i_64_41 rfl ?_
          refine x_vh (r := []) (lj := [some _, some _, some _, some _, some _, none]) i_64_42 w_61 hb.ob [_, _, _, _] rfl rfl (Nat.le_of_ble_eq_true rfl) (Nat.le_of_ble_eq_true rfl) rfl ?_
          refine c_61 hb r11 (by omega) (by omega) (by omega) (by omega)  (fun q13 M13 r13 f13 => rt_i ?_)
          refine x_zneN (by omega) i_64_45 ⟨fun g14 => ?_, fun g14 => ?_⟩
          · have k := kn g14 k
            refine x_aload_n i_64_86 rfl ?_
            refine n_gi (x := ((s_61 n ((a_up (a_up A 6 12 l1) 6 13 0)) 0 (ev n) 2 2).2) 6 2) i_64_87 hb.ob gf_1_2.1 gf_1_2.2 r13.f2 ?_
            have q15 : ((s_61 n ((a_up (a_up A 6 12 l1) 6 13 0)) 0 (ev n) 2 2).2) 6 2 ≤ 3 := r13.w.f2
            refine x_iret i_64_90 rn_64 rfl ?_
            exact k (show ((s_61 n ((a_up (a_up A 6 12 l1) 6 13 0)) 0 (ev n) 2 2).2) 6 2 ≤ 4294967295 by omega) _ r13 ((f10.trans f11).trans f13)
          · have k := kp g14 k
            refine x_aload_n i_64_48 rfl ?_
            refine n_iconst 4 i_64_49 rfl ?_
            refine x_vh (r := []) (lj := [some _, some _, none, none]) i_64_50 w_65 hb.ob [_] rfl rfl (Nat.le_of_ble_eq_true rfl) (Nat.le_of_ble_eq_true rfl) rfl ?_
            refine c_65 hb r13 (by omega)  (fun q16 => rt_i ?_)
            refine x_iload_n i_64_53 rfl ?_
            refine n_iconst 4294967295 i_64_54 rfl ?_
            refine x_ixorN i_64_55 ?_
            refine x_iandN i_64_56 ?_
            refine x_istore_n i_64_57 rfl rfl ?_
            refine x_aload_n i_64_58 rfl ?_
            refine x_aload_n i_64_59 rfl ?_
            refine n_gi (x := ((s_61 n ((a_up (a_up A 6 12 l1) 6 13 0)) 0 (ev n) 2 2).2) 6 1) i_64_60 hb.ob gf_1_1.1 gf_1_1.2 r13.f1 ?_
            have q17 : ((s_61 n ((a_up (a_up A 6 12 l1) 6 13 0)) 0 (ev n) 2 2).2) 6 1 ≤ 1 := r13.w.f1
            refine x_zeqN (by omega) i_64_63 ⟨fun g18 => ?_, fun g18 => ?_⟩
            · have k := kp g18 k
              refine n_iconst 2 i_64_78 rfl ?_
              refine x_goto i_64_79 ?_
              refine n_pC i_64_83 hb r13 pf_1_2 (by omega) (by unfold okf; omega) (fun M19 r19 f19 => ?_)
              refine x_aload_n i_64_86 rfl ?_
              refine n_gi (x := 2) i_64_87 hb.ob gf_1_2.1 gf_1_2.2 r19.f2 ?_
              refine x_iret i_64_90 rn_64 rfl ?_
              exact k (show 2 ≤ 4294967295 by omega) _ r19 (((f10.trans f11).trans f13).trans f19)
            · have k := kn g18 k
              refine x_aload_n i_64_66 rfl ?_
              refine x_iload_n i_64_67 rfl ?_
              have q20 : (s_65 n ((s_61 n ((a_up (a_up A 6 12 l1) 6 13 0)) 0 (ev n) 2 2).2) 4) &&& ((s_65 n A 4) ^^^ 4294967295) ≤ 31 := Nat.le_trans Nat.and_le_left (by omega)
              refine x_vh (r := [_]) (lj := [some _, some _, none, none]) i_64_68 w_49 hb.ob [_] rfl rfl (Nat.le_of_ble_eq_true rfl) (Nat.le_of_ble_eq_true rfl) rfl ?_
              refine c_49 hb r13 (by omega)  (fun q21 => rt_i ?_)
              refine x_aload_n i_64_71 rfl ?_
              refine n_gi (x := ((s_61 n ((a_up (a_up A 6 12 l1) 6 13 0)) 0 (ev n) 2 2).2) 6 3) i_64_72 hb.ob gf_1_3.1 gf_1_3.2 r13.f3 ?_
              have q22 : ((s_61 n ((a_up (a_up A 6 12 l1) 6 13 0)) 0 (ev n) 2 2).2) 6 3 ≤ 15 := r13.w.f3
              refine x_iltN (by omega) (by omega) i_64_75 ⟨fun g23 => ?_, fun g23 => ?_⟩
              · have k := kp g23 k
                refine n_iconst 3 i_64_82 rfl ?_
                refine n_pC i_64_83 hb r13 pf_1_2 (by omega) (by unfold okf; omega) (fun M24 r24 f24 => ?_)
                refine x_aload_n i_64_86 rfl ?_
                refine n_gi (x := 3) i_64_87 hb.ob gf_1_2.1 gf_1_2.2 r24.f2 ?_
                refine x_iret i_64_90 rn_64 rfl ?_
                exact k (show 3 ≤ 4294967295 by omega) _ r24 (((f10.trans f11).trans f13).trans f24)
              · have k := kn g23 k
                refine n_iconst 2 i_64_78 rfl ?_
                refine x_goto i_64_79 ?_
                refine n_pC i_64_83 hb r13 pf_1_2 (by omega) (by unfold okf; omega) (fun M25 r25 f25 => ?_)
                refine x_aload_n i_64_86 rfl ?_
                refine n_gi (x := 2) i_64_87 hb.ob gf_1_2.1 gf_1_2.2 r25.f2 ?_
                refine x_iret i_64_90 rn_64 rfl ?_
                exact k (show 2 ≤ 4294967295 by omega) _ r25 (((f10.trans f11).trans f13).trans f25)
  · have k := kp g2 k
    refine n_bipush 4294967293 i_64_8 rfl ?_
    refine x_iret i_64_10 rn_64 rfl ?_
    exact k (show 4294967293 ≤ 4294967295 by omega) _ r (FR.refl _ _)
def s_66 (n : Nat) (A : HA) (l1 : Nat) : Nat × HA :=
  (if (isK l1) = 0 then (4294967293, A) else (if (A 6 2) = 2 then (if (A 1 0) = 1 then (if (A 0 0) = 2 then ((pop (s_65 n ((a_up (s_61 n ((a_up (a_up A 6 12 l1) 6 13 0)) 0 (ev n) 4 31).2 6 2 3)) 16)), (a_up (s_61 n ((a_up (a_up A 6 12 l1) 6 13 0)) 0 (ev n) 4 31).2 6 2 3)) else (4294967291, A)) else (4294967291, A)) else (4294967291, A)))
theorem c_66 {sc : a_Sc} {fd : Nat} {M : a_Mm} {A : HA} {Q : Option Value → a_Hp → Prop} {b n : Nat} (hb : HB b) (r : RC M b n A) {l1 : Nat} (hl1 : l1 ≤ 4294967295) (k : KR 4294967295 Q sc fd M b n (s_66 n A l1)) : a_Ex 66 0 [some (.ref b), some (.int (N l1))] [] (a_hp sc fd M) Q := by
  unfold s_66 at k
  have n5 := r.n5
  have n2 := r.n2
  refine x_aload_n i_66_0 rfl ?_
  refine x_iload_n i_66_1 rfl ?_
  refine x_vh (r := []) (lj := [some _, some _]) i_66_2 w_58 hb.ob [_] rfl rfl (Nat.le_of_ble_eq_true rfl) (Nat.le_of_ble_eq_true rfl) rfl ?_
  refine c_58 hb r (by omega)  (fun q1 => rt_i ?_)
  refine x_zneN (by omega) i_66_5 ⟨fun g2 => ?_, fun g2 => ?_⟩
  · have k := kn g2 k
    refine x_aload_n i_66_11 rfl ?_
    refine n_iconst 2 i_66_12 rfl ?_
    refine n_iconst 2 i_66_13 rfl ?_
    refine x_vh (r := []) (lj := [some _, some _, some _]) i_66_14 w_59 hb.ob [_, _] rfl rfl (Nat.le_of_ble_eq_true rfl) (Nat.le_of_ble_eq_true rfl) rfl ?_
    refine x_aload_n i_59_0 rfl ?_
    refine n_gi (x := A 6 2) i_59_1 hb.ob gf_1_2.1 gf_1_2.2 r.f2 ?_
    refine x_iload_n i_59_4 rfl ?_
    have q3 : A 6 2 ≤ 3 := r.w.f2
    refine x_ineN (by omega) (by omega) i_59_5 ⟨fun g4 => ?_, fun g4 => ?_⟩
    · have k := kn g4 k
      refine n_iconst 0 i_59_32 rfl ?_
      refine x_iretI i_59_33 rn_59 (by decide +kernel) ?_
      refine x_ifF i_66_17 (by decide +kernel) ?_
      refine n_bipush 4294967291 i_66_20 rfl ?_
      refine x_iret i_66_22 rn_66 rfl ?_
      exact k (show 4294967291 ≤ 4294967295 by omega) _ r (FR.refl _ _)
    · have k := kp g4 k
      refine x_aload_n i_59_8 rfl ?_
      refine x_gr i_59_9 hb.ob gr_1_6.1 gr_1_6.2 (hb.r6 _) ?_
      refine n_iconst 0 i_59_12 rfl ?_
      refine n_ld (x := A 1 0) i_59_13 hb.a2 (by omega) (by omega) (r.a1 (by omega)) ?_
      refine n_iconst 1 i_59_14 rfl ?_
      have q5 : A 1 0 ≤ 2 := r.w.b1 (by omega)
      refine x_ineN (by omega) (by omega) i_59_15 ⟨fun g6 => ?_, fun g6 => ?_⟩
      · have k := kn g6 k
        refine n_iconst 0 i_59_32 rfl ?_
        refine x_iretI i_59_33 rn_59 (by decide +kernel) ?_
        refine x_ifF i_66_17 (by decide +kernel) ?_
        refine n_bipush 4294967291 i_66_20 rfl ?_
        refine x_iret i_66_22 rn_66 rfl ?_
        exact k (show 4294967291 ≤ 4294967295 by omega) _ r (FR.refl _ _)
      · have k := kp g6 k
        refine x_aload_n i_59_18 rfl ?_
        refine x_gr i_59_19 hb.ob gr_1_5.1 gr_1_5.2 (hb.r5 _) ?_
        refine n_iconst 0 i_59_22 rfl ?_
        refine n_ld (x := A 0 0) i_59_23 hb.a1 (by omega) (by omega) (r.a0 (by omega)) ?_
        refine x_iload_n i_59_24 rfl ?_
        have q7 : A 0 0 ≤ 5 := r.w.b0 (by omega)
        refine x_ineN (by omega) (by omega) i_59_25 ⟨fun g8 => ?_, fun g8 => ?_⟩
        · have k := kn g8 k
          refine n_iconst 0 i_59_32 rfl ?_
          refine x_iretI i_59_33 rn_59 (by decide +kernel) ?_
          refine x_ifF i_66_17 (by decide +kernel) ?_
          refine n_bipush 4294967291 i_66_20 rfl ?_
          refine x_iret i_66_22 rn_66 rfl ?_
          exact k (show 4294967291 ≤ 4294967295 by omega) _ r (FR.refl _ _)
        · have k := kp g8 k
          refine n_iconst 1 i_59_28 rfl ?_
          refine x_goto i_59_29 ?_
          refine x_iretI i_59_33 rn_59 (by decide +kernel) ?_
          refine x_ifT i_66_17 (by decide +kernel) ?_
          refine x_aload_n i_66_23 rfl ?_
          refine x_iload_n i_66_24 rfl ?_
          refine x_vh (r := []) (lj := [some _, some _]) i_66_25 w_60 hb.ob [_] rfl rfl (Nat.le_of_ble_eq_true rfl) (Nat.le_of_ble_eq_true rfl) rfl ?_
          refine x_aload_n i_60_0 rfl ?_
          refine x_iload_n i_60_1 rfl ?_
          refine n_pC i_60_2 hb r pf_1_12 (by omega) (by unfold okf; omega) (fun M9 r9 f9 => ?_)
          refine x_aload_n i_60_5 rfl ?_
          refine n_iconst 0 i_60_6 rfl ?_
          refine n_pC i_60_7 hb r9 pf_1_13 (by omega) (by unfold okf; omega) (fun M10 r10 f10 => ?_)
          refine x_vretI i_60_10 rn_60 ?_
          refine x_aload_n i_66_28 rfl ?_
          refine n_iconst 0 i_66_29 rfl ?_
          refine x_aload_n i_66_30 rfl ?_
          refine x_vh (r := [_, _]) (lj := [some _]) i_66_31 w_47 hb.ob [] rfl rfl (Nat.le_of_ble_eq_true rfl) (Nat.le_of_ble_eq_true rfl) rfl ?_
          refine c_47 hb r10   (fun q11 => rt_i ?_)
          refine n_iconst 4 i_66_34 rfl ?_
          refine n_bipush 31 i_66_35 rfl ?_
          refine x_vh (r := []) (lj := [some _, some _, some _, some _, some _, none]) i_66_37 w_61 hb.ob [_, _, _, _] rfl rfl (Nat.le_of_ble_eq_true rfl) (Nat.le_of_ble_eq_true rfl) rfl ?_
          refine c_61 hb r10 (by omega) (by omega) (by omega) (by omega)  (fun q12 M12 r12 f12 => rt_i ?_)
          refine x_pop i_66_40 rfl ?_
          refine x_aload_n i_66_41 rfl ?_
          refine n_iconst 3 i_66_42 rfl ?_
          refine n_pC i_66_43 hb r12 pf_1_2 (by omega) (by unfold okf; omega) (fun M13 r13 f13 => ?_)
          refine x_aload_n i_66_46 rfl ?_
          refine n_bipush 16 i_66_47 rfl ?_
          refine x_vh (r := []) (lj := [some _, some _, none, none]) i_66_49 w_65 hb.ob [_] rfl rfl (Nat.le_of_ble_eq_true rfl) (Nat.le_of_ble_eq_true rfl) rfl ?_
          refine c_65 hb r13 (by omega)  (fun q14 => rt_i ?_)
          refine x_sh (r := []) (lj := [some _]) i_66_52 ws_265 [_] rfl rfl (Nat.le_of_ble_eq_true rfl) (Nat.le_of_ble_eq_true rfl) rfl ?_
          refine k_265 (by omega)  (fun q15 => rt_i ?_)
          refine x_iret i_66_55 rn_66 rfl ?_
          exact k (show (pop (s_65 n ((a_up (s_61 n ((a_up (a_up A 6 12 l1) 6 13 0)) 0 (ev n) 4 31).2 6 2 3)) 16)) ≤ 4294967295 by omega) _ r13 (((f9.trans f10).trans f12).trans f13)
  · have k := kp g2 k
    refine n_bipush 4294967293 i_66_8 rfl ?_
    refine x_iret i_66_10 rn_66 rfl ?_
    exact k (show 4294967293 ≤ 4294967295 by omega) _ r (FR.refl _ _)
def s_67 (n : Nat) (A : HA) (l1 : Nat) : Nat × HA :=
  (if 2147483648 ≤ l1 then (4294967294, A) else (if n ≤ l1 then (4294967294, A) else (if (A 1 l1) = 0 then (4294967291, A) else ((pop (s_69 n ((s_63 n A l1)) 1)), (s_63 n A l1)))))
theorem c_67 {sc : a_Sc} {fd : Nat} {M : a_Mm} {A : HA} {Q : Option Value → a_Hp → Prop} {b n : Nat} (hb : HB b) (r : RC M b n A) {l1 : Nat} (hl1 : l1 ≤ 4294967295) (k : KR 4294967295 Q sc fd M b n (s_67 n A l1)) : a_Ex 67 0 [some (.ref b), some (.int (N l1))] [] (a_hp sc fd M) Q := by
  unfold s_67 at k
  have n5 := r.n5
  have n2 := r.n2
  refine x_aload_n i_67_0 rfl ?_
  refine x_iload_n i_67_1 rfl ?_
  refine x_vh (r := []) (lj := [some _, some _]) i_67_2 w_53 hb.ob [_] rfl rfl (Nat.le_of_ble_eq_true rfl) (Nat.le_of_ble_eq_true rfl) rfl ?_
  refine x_iload_n i_53_0 rfl ?_
  refine n_zltU (by omega) i_53_1 ⟨fun g1 => ?_, fun g1 => ?_⟩
  · have k := kp g1 k
    refine n_iconst 0 i_53_16 rfl ?_
    refine x_iretI i_53_17 rn_53 (by decide +kernel) ?_
    refine x_ifF i_67_5 (by decide +kernel) ?_
    refine n_bipush 4294967294 i_67_8 rfl ?_
    refine x_iret i_67_10 rn_67 rfl ?_
    exact k (show 4294967294 ≤ 4294967295 by omega) _ r (FR.refl _ _)
  · have k := kn g1 k
    refine x_iload_n i_53_4 rfl ?_
    refine x_aload_n i_53_5 rfl ?_
    refine n_gi (x := n) i_53_6 hb.ob gf_1_0.1 gf_1_0.2 r.nn ?_
    refine x_igeN (by omega) (by omega) i_53_9 ⟨fun g2 => ?_, fun g2 => ?_⟩
    · have k := kp g2 k
      refine n_iconst 0 i_53_16 rfl ?_
      refine x_iretI i_53_17 rn_53 (by decide +kernel) ?_
      refine x_ifF i_67_5 (by decide +kernel) ?_
      refine n_bipush 4294967294 i_67_8 rfl ?_
      refine x_iret i_67_10 rn_67 rfl ?_
      exact k (show 4294967294 ≤ 4294967295 by omega) _ r (FR.refl _ _)
    · have k := kn g2 k
      refine n_iconst 1 i_53_12 rfl ?_
      refine x_goto i_53_13 ?_
      refine x_iretI i_53_17 rn_53 (by decide +kernel) ?_
      refine x_ifT i_67_5 (by decide +kernel) ?_
      refine x_aload_n i_67_11 rfl ?_
      refine x_gr i_67_12 hb.ob gr_1_6.1 gr_1_6.2 (hb.r6 _) ?_
      refine x_iload_n i_67_15 rfl ?_
      refine n_ld (x := A 1 l1) i_67_16 hb.a2 (by omega) (by omega) (r.a1 (by omega)) ?_
      have q3 : A 1 l1 ≤ 2 := r.w.b1 (by omega)
      refine x_zneN (by omega) i_67_17 ⟨fun g4 => ?_, fun g4 => ?_⟩
      · have k := kn g4 k
        refine x_aload_n i_67_23 rfl ?_
        refine x_iload_n i_67_24 rfl ?_
        refine x_vh (r := []) (lj := [some _, some _, none]) i_67_25 w_63 hb.ob [_] rfl rfl (Nat.le_of_ble_eq_true rfl) (Nat.le_of_ble_eq_true rfl) rfl ?_
        refine c_63 hb r (by omega)  (fun M5 r5 f5 => rt_n ?_)
        refine x_aload_n i_67_28 rfl ?_
        refine x_vh (r := []) (lj := [some _]) i_67_29 w_68 hb.ob [] rfl rfl (Nat.le_of_ble_eq_true rfl) (Nat.le_of_ble_eq_true rfl) rfl ?_
        refine x_aload_n i_68_0 rfl ?_
        refine n_iconst 1 i_68_1 rfl ?_
        refine x_vh (r := []) (lj := [some _, some _, none, none]) i_68_2 w_69 hb.ob [_] rfl rfl (Nat.le_of_ble_eq_true rfl) (Nat.le_of_ble_eq_true rfl) rfl ?_
        refine c_69 hb r5 (by omega)  (fun q6 => rt_i ?_)
        refine x_iretI i_68_5 rn_68 rfl ?_
        refine x_sh (r := []) (lj := [some _]) i_67_32 ws_265 [_] rfl rfl (Nat.le_of_ble_eq_true rfl) (Nat.le_of_ble_eq_true rfl) rfl ?_
        refine k_265 (by omega)  (fun q7 => rt_i ?_)
        refine x_iret i_67_35 rn_67 rfl ?_
        exact k (show (pop (s_69 n ((s_63 n A l1)) 1)) ≤ 4294967295 by omega) _ r5 f5
      · have k := kp g4 k
        refine n_bipush 4294967291 i_67_20 rfl ?_
        refine x_iret i_67_22 rn_67 rfl ?_
        exact k (show 4294967291 ≤ 4294967295 by omega) _ r (FR.refl _ _)
def s_70 (n : Nat) (A : HA) (l1 : Nat) : Nat × HA :=
  (if 2147483648 ≤ l1 then (4294967294, A) else (if n ≤ l1 then (4294967294, A) else (if (A 1 l1) = 0 then (A 0 l1, (a_up A 1 l1 2)) else (4294967291, A))))
theorem c_70 {sc : a_Sc} {fd : Nat} {M : a_Mm} {A : HA} {Q : Option Value → a_Hp → Prop} {b n : Nat} (hb : HB b) (r : RC M b n A) {l1 : Nat} (hl1 : l1 ≤ 4294967295) (k : KR 4294967295 Q sc fd M b n (s_70 n A l1)) : a_Ex 70 0 [some (.ref b), some (.int (N l1))] [] (a_hp sc fd M) Q := by
  unfold s_70 at k
  have n5 := r.n5
  have n2 := r.n2
  refine x_aload_n i_70_0 rfl ?_
  refine x_iload_n i_70_1 rfl ?_
  refine x_vh (r := []) (lj := [some _, some _]) i_70_2 w_53 hb.ob [_] rfl rfl (Nat.le_of_ble_eq_true rfl) (Nat.le_of_ble_eq_true rfl) rfl ?_
  refine x_iload_n i_53_0 rfl ?_
  refine n_zltU (by omega) i_53_1 ⟨fun g1 => ?_, fun g1 => ?_⟩
  · have k := kp g1 k
    refine n_iconst 0 i_53_16 rfl ?_
    refine x_iretI i_53_17 rn_53 (by decide +kernel) ?_
    refine x_ifF i_70_5 (by decide +kernel) ?_
    refine n_bipush 4294967294 i_70_8 rfl ?_
    refine x_iret i_70_10 rn_70 rfl ?_
    exact k (show 4294967294 ≤ 4294967295 by omega) _ r (FR.refl _ _)
  · have k := kn g1 k
    refine x_iload_n i_53_4 rfl ?_
    refine x_aload_n i_53_5 rfl ?_
    refine n_gi (x := n) i_53_6 hb.ob gf_1_0.1 gf_1_0.2 r.nn ?_
    refine x_igeN (by omega) (by omega) i_53_9 ⟨fun g2 => ?_, fun g2 => ?_⟩
    · have k := kp g2 k
      refine n_iconst 0 i_53_16 rfl ?_
      refine x_iretI i_53_17 rn_53 (by decide +kernel) ?_
      refine x_ifF i_70_5 (by decide +kernel) ?_
      refine n_bipush 4294967294 i_70_8 rfl ?_
      refine x_iret i_70_10 rn_70 rfl ?_
      exact k (show 4294967294 ≤ 4294967295 by omega) _ r (FR.refl _ _)
    · have k := kn g2 k
      refine n_iconst 1 i_53_12 rfl ?_
      refine x_goto i_53_13 ?_
      refine x_iretI i_53_17 rn_53 (by decide +kernel) ?_
      refine x_ifT i_70_5 (by decide +kernel) ?_
      refine x_aload_n i_70_11 rfl ?_
      refine x_gr i_70_12 hb.ob gr_1_6.1 gr_1_6.2 (hb.r6 _) ?_
      refine x_iload_n i_70_15 rfl ?_
      refine n_ld (x := A 1 l1) i_70_16 hb.a2 (by omega) (by omega) (r.a1 (by omega)) ?_
      have q3 : A 1 l1 ≤ 2 := r.w.b1 (by omega)
      refine x_zeqN (by omega) i_70_17 ⟨fun g4 => ?_, fun g4 => ?_⟩
      · have k := kp g4 k
        refine x_aload_n i_70_23 rfl ?_
        refine x_gr i_70_24 hb.ob gr_1_6.1 gr_1_6.2 (hb.r6 _) ?_
        refine x_iload_n i_70_27 rfl ?_
        refine n_iconst 2 i_70_28 rfl ?_
        refine n_stC i_70_29 hb r 1 (by omega) (by omega) (show 2 < 3 by omega) rfl (fun M5 r5 f5 => ?_)
        refine x_aload_n i_70_30 rfl ?_
        refine x_gr i_70_31 hb.ob gr_1_5.1 gr_1_5.2 (hb.r5 _) ?_
        refine x_iload_n i_70_34 rfl ?_
        refine n_ld (x := A 0 l1) i_70_35 hb.a1 (by omega) (by omega) (r5.a0 (by omega)) ?_
        have q6 : A 0 l1 ≤ 5 := r5.w.b0 (by omega)
        refine x_iret i_70_36 rn_70 rfl ?_
        exact k (show A 0 l1 ≤ 4294967295 by omega) _ r5 f5
      · have k := kn g4 k
        refine n_bipush 4294967291 i_70_20 rfl ?_
        refine x_iret i_70_22 rn_70 rfl ?_
        exact k (show 4294967291 ≤ 4294967295 by omega) _ r (FR.refl _ _)
def s_79 (n : Nat) (A : HA) (l1 : Nat) (l2 : Nat) (l3 : Nat) (l4 : Nat) : HA :=
  (if l3 = 2 then (if (A 6 1) = 0 then (if ((s_61 n ((a_up (a_up A 6 12 l4) 6 13 0)) l1 l2 2 3).1) = 0 then (if l3 = 1 then (if l1 = 0 then ((a_up (s_61 n ((s_61 n ((a_up (a_up A 6 12 l4) 6 13 0)) l1 l2 2 3).2) l1 l2 4 63).2 6 2 3)) else ((s_61 n ((s_61 n ((a_up (a_up A 6 12 l4) 6 13 0)) l1 l2 2 3).2) l1 l2 4 63).2)) else (if l3 = 2 then (if l1 = 0 then ((a_up (s_61 n ((s_61 n ((a_up (a_up A 6 12 l4) 6 13 0)) l1 l2 2 3).2) l1 l2 4 63).2 6 2 3)) else ((s_61 n ((s_61 n ((a_up (a_up A 6 12 l4) 6 13 0)) l1 l2 2 3).2) l1 l2 4 63).2)) else (if l1 = 0 then ((a_up (s_61 n ((s_61 n ((a_up (a_up A 6 12 l4) 6 13 0)) l1 l2 2 3).2) l1 l2 5 63).2 6 2 3)) else ((s_61 n ((s_61 n ((a_up (a_up A 6 12 l4) 6 13 0)) l1 l2 2 3).2) l1 l2 5 63).2)))) else (if l1 = 0 then ((a_up (s_61 n ((a_up (a_up A 6 12 l4) 6 13 0)) l1 l2 2 3).2 6 2 3)) else ((s_61 n ((a_up (a_up A 6 12 l4) 6 13 0)) l1 l2 2 3).2))) else (if ((s_61 n ((a_up (a_up A 6 12 l4) 6 13 0)) l1 l2 2 2).1) = 0 then (if l3 = 1 then (if l1 = 0 then ((a_up (s_61 n ((s_61 n ((a_up (a_up A 6 12 l4) 6 13 0)) l1 l2 2 2).2) l1 l2 4 63).2 6 2 3)) else ((s_61 n ((s_61 n ((a_up (a_up A 6 12 l4) 6 13 0)) l1 l2 2 2).2) l1 l2 4 63).2)) else (if l3 = 2 then (if l1 = 0 then ((a_up (s_61 n ((s_61 n ((a_up (a_up A 6 12 l4) 6 13 0)) l1 l2 2 2).2) l1 l2 4 63).2 6 2 3)) else ((s_61 n ((s_61 n ((a_up (a_up A 6 12 l4) 6 13 0)) l1 l2 2 2).2) l1 l2 4 63).2)) else (if l1 = 0 then ((a_up (s_61 n ((s_61 n ((a_up (a_up A 6 12 l4) 6 13 0)) l1 l2 2 2).2) l1 l2 5 63).2 6 2 3)) else ((s_61 n ((s_61 n ((a_up (a_up A 6 12 l4) 6 13 0)) l1 l2 2 2).2) l1 l2 5 63).2)))) else (if l1 = 0 then ((a_up (s_61 n ((a_up (a_up A 6 12 l4) 6 13 0)) l1 l2 2 2).2 6 2 3)) else ((s_61 n ((a_up (a_up A 6 12 l4) 6 13 0)) l1 l2 2 2).2)))) else (if l3 = 3 then (if ((s_61 n ((a_up (a_up A 6 12 l4) 6 13 0)) l1 l2 3 3).1) = 0 then (if l3 = 1 then (if l1 = 0 then ((a_up (s_61 n ((s_61 n ((a_up (a_up A 6 12 l4) 6 13 0)) l1 l2 3 3).2) l1 l2 4 63).2 6 2 3)) else ((s_61 n ((s_61 n ((a_up (a_up A 6 12 l4) 6 13 0)) l1 l2 3 3).2) l1 l2 4 63).2)) else (if l3 = 2 then (if l1 = 0 then ((a_up (s_61 n ((s_61 n ((a_up (a_up A 6 12 l4) 6 13 0)) l1 l2 3 3).2) l1 l2 4 63).2 6 2 3)) else ((s_61 n ((s_61 n ((a_up (a_up A 6 12 l4) 6 13 0)) l1 l2 3 3).2) l1 l2 4 63).2)) else (if l1 = 0 then ((a_up (s_61 n ((s_61 n ((a_up (a_up A 6 12 l4) 6 13 0)) l1 l2 3 3).2) l1 l2 5 63).2 6 2 3)) else ((s_61 n ((s_61 n ((a_up (a_up A 6 12 l4) 6 13 0)) l1 l2 3 3).2) l1 l2 5 63).2)))) else (if l1 = 0 then ((a_up (s_61 n ((a_up (a_up A 6 12 l4) 6 13 0)) l1 l2 3 3).2 6 2 3)) else ((s_61 n ((a_up (a_up A 6 12 l4) 6 13 0)) l1 l2 3 3).2))) else (if l3 = 1 then (if l1 = 0 then ((a_up (s_61 n ((a_up (a_up A 6 12 l4) 6 13 0)) l1 l2 4 63).2 6 2 3)) else ((s_61 n ((a_up (a_up A 6 12 l4) 6 13 0)) l1 l2 4 63).2)) else (if l3 = 2 then (if l1 = 0 then ((a_up (s_61 n ((a_up (a_up A 6 12 l4) 6 13 0)) l1 l2 4 63).2 6 2 3)) else ((s_61 n ((a_up (a_up A 6 12 l4) 6 13 0)) l1 l2 4 63).2)) else (if l1 = 0 then ((a_up (s_61 n ((a_up (a_up A 6 12 l4) 6 13 0)) l1 l2 5 63).2 6 2 3)) else ((s_61 n ((a_up (a_up A 6 12 l4) 6 13 0)) l1 l2 5 63).2))))))
theorem c_79 {sc : a_Sc} {fd : Nat} {M : a_Mm} {A : HA} {Q : Option Value → a_Hp → Prop} {b n : Nat} (hb : HB b) (r : RC M b n A) {l1 l2 l3 l4 : Nat} (hl1 : l1 ≤ 4) (hl2 : l2 ≤ 31) (hl3 : l3 ≤ 3) (hl4 : l4 ≤ 4294967295) (k : KV Q sc fd M b n (s_79 n A l1 l2 l3 l4)) : a_Ex 79 0 [some (.ref b), some (.int (N l1)), some (.int (N l2)), some (.int (N l3)), some (.int (N l4)), none, none] [] (a_hp sc fd M) Q := by
  unfold s_79 at k
  have n5 := r.n5
  have n2 := r.n2
  refine x_aload_n i_79_0 rfl ?_
  refine x_iload i_79_1 rfl ?_
  refine x_vh (r := []) (lj := [some _, some _]) i_79_3 w_60 hb.ob [_] rfl rfl (Nat.le_of_ble_eq_true rfl) (Nat.le_of_ble_eq_true rfl) rfl ?_
  refine x_aload_n i_60_0 rfl ?_
  refine x_iload_n i_60_1 rfl ?_
  refine n_pC i_60_2 hb r pf_1_12 (by omega) (by unfold okf; omega) (fun M1 r1 f1 => ?_)
  refine x_aload_n i_60_5 rfl ?_
  refine n_iconst 0 i_60_6 rfl ?_
  refine n_pC i_60_7 hb r1 pf_1_13 (by omega) (by unfold okf; omega) (fun M2 r2 f2 => ?_)
  refine x_vretI i_60_10 rn_60 ?_
  refine n_iconst 0 i_79_6 rfl ?_
  refine x_istore i_79_7 rfl rfl ?_
  refine x_iload_n i_79_9 rfl ?_
  refine n_iconst 2 i_79_10 rfl ?_
  refine x_ineN (by omega) (by omega) i_79_11 ⟨fun g3 => ?_, fun g3 => ?_⟩
  · have k := kn g3 k
    refine x_iload_n i_79_30 rfl ?_
    refine n_iconst 3 i_79_31 rfl ?_
    refine x_ineN (by omega) (by omega) i_79_32 ⟨fun g4 => ?_, fun g4 => ?_⟩
    · have k := kn g4 k
      refine x_iload i_79_45 rfl ?_
      refine x_ifF i_79_47 (by decide +kernel) ?_
      refine x_iload_n i_79_50 rfl ?_
      refine n_iconst 1 i_79_51 rfl ?_
      refine x_ieqN (by omega) (by omega) i_79_52 ⟨fun g5 => ?_, fun g5 => ?_⟩
      · have k := kp g5 k
        refine n_iconst 1 i_79_60 rfl ?_
        refine x_goto i_79_61 ?_
        refine x_istore i_79_65 rfl rfl ?_
        refine x_aload_n i_79_67 rfl ?_
        refine x_iload_n i_79_68 rfl ?_
        refine x_iload_n i_79_69 rfl ?_
        refine x_iload i_79_70 rfl ?_
        refine x_ifF i_79_72 (by decide +kernel) ?_
        refine n_iconst 4 i_79_75 rfl ?_
        refine x_goto i_79_76 ?_
        refine n_bipush 63 i_79_80 rfl ?_
        refine x_vh (r := []) (lj := [some _, some _, some _, some _, some _, none]) i_79_82 w_61 hb.ob [_, _, _, _] rfl rfl (Nat.le_of_ble_eq_true rfl) (Nat.le_of_ble_eq_true rfl) rfl ?_
        refine c_61 hb r2 (by omega) (by omega) (by omega) (by omega)  (fun q6 M6 r6 f6 => rt_i ?_)
        refine x_pop i_79_85 rfl ?_
        refine x_iload_n i_79_86 rfl ?_
        refine x_zneN (by omega) i_79_87 ⟨fun g7 => ?_, fun g7 => ?_⟩
        · have k := kn g7 k
          refine x_vret i_79_95 rn_79 ?_
          exact k _ r6 ((f1.trans f2).trans f6)
        · have k := kp g7 k
          refine x_aload_n i_79_90 rfl ?_
          refine n_iconst 3 i_79_91 rfl ?_
          refine n_pC i_79_92 hb r6 pf_1_2 (by omega) (by unfold okf; omega) (fun M8 r8 f8 => ?_)
          refine x_vret i_79_95 rn_79 ?_
          exact k _ r8 (((f1.trans f2).trans f6).trans f8)
      · have k := kn g5 k
        refine x_iload_n i_79_55 rfl ?_
        refine n_iconst 2 i_79_56 rfl ?_
        refine x_ineN (by omega) (by omega) i_79_57 ⟨fun g9 => ?_, fun g9 => ?_⟩
        · have k := kn g9 k
          refine n_iconst 0 i_79_64 rfl ?_
          refine x_istore i_79_65 rfl rfl ?_
          refine x_aload_n i_79_67 rfl ?_
          refine x_iload_n i_79_68 rfl ?_
          refine x_iload_n i_79_69 rfl ?_
          refine x_iload i_79_70 rfl ?_
          refine x_ifT i_79_72 (by decide +kernel) ?_
          refine n_iconst 5 i_79_79 rfl ?_
          refine n_bipush 63 i_79_80 rfl ?_
          refine x_vh (r := []) (lj := [some _, some _, some _, some _, some _, none]) i_79_82 w_61 hb.ob [_, _, _, _] rfl rfl (Nat.le_of_ble_eq_true rfl) (Nat.le_of_ble_eq_true rfl) rfl ?_
          refine c_61 hb r2 (by omega) (by omega) (by omega) (by omega)  (fun q10 M10 r10 f10 => rt_i ?_)
          refine x_pop i_79_85 rfl ?_
          refine x_iload_n i_79_86 rfl ?_
          refine x_zneN (by omega) i_79_87 ⟨fun g11 => ?_, fun g11 => ?_⟩
          · have k := kn g11 k
            refine x_vret i_79_95 rn_79 ?_
            exact k _ r10 ((f1.trans f2).trans f10)
          · have k := kp g11 k
            refine x_aload_n i_79_90 rfl ?_
            refine n_iconst 3 i_79_91 rfl ?_
            refine n_pC i_79_92 hb r10 pf_1_2 (by omega) (by unfold okf; omega) (fun M12 r12 f12 => ?_)
            refine x_vret i_79_95 rn_79 ?_
            exact k _ r12 (((f1.trans f2).trans f10).trans f12)
        · have k := kp g9 k
          refine n_iconst 1 i_79_60 rfl ?_
          refine x_goto i_79_61 ?_
          refine x_istore i_79_65 rfl rfl ?_
          refine x_aload_n i_79_67 rfl ?_
          refine x_iload_n i_79_68 rfl ?_
          refine x_iload_n i_79_69 rfl ?_
          refine x_iload i_79_70 rfl ?_
          refine x_ifF i_79_72 (by decide +kernel) ?_
          refine n_iconst 4 i_79_75 rfl ?_
          refine x_goto i_79_76 ?_
          refine n_bipush 63 i_79_80 rfl ?_
          refine x_vh (r := []) (lj := [some _, some _, some _, some _, some _, none]) i_79_82 w_61 hb.ob [_, _, _, _] rfl rfl (Nat.le_of_ble_eq_true rfl) (Nat.le_of_ble_eq_true rfl) rfl ?_
          refine c_61 hb r2 (by omega) (by omega) (by omega) (by omega)  (fun q13 M13 r13 f13 => rt_i ?_)
          refine x_pop i_79_85 rfl ?_
          refine x_iload_n i_79_86 rfl ?_
          refine x_zneN (by omega) i_79_87 ⟨fun g14 => ?_, fun g14 => ?_⟩
          · have k := kn g14 k
            refine x_vret i_79_95 rn_79 ?_
            exact k _ r13 ((f1.trans f2).trans f13)
          · have k := kp g14 k
            refine x_aload_n i_79_90 rfl ?_
            refine n_iconst 3 i_79_91 rfl ?_
            refine n_pC i_79_92 hb r13 pf_1_2 (by omega) (by unfold okf; omega) (fun M15 r15 f15 => ?_)
            refine x_vret i_79_95 rn_79 ?_
            exact k _ r15 (((f1.trans f2).trans f13).trans f15)
    · have k := kp g4 k
      refine x_aload_n i_79_35 rfl ?_
      refine x_iload_n i_79_36 rfl ?_
      refine x_iload_n i_79_37 rfl ?_
      refine n_iconst 3 i_79_38 rfl ?_
      refine n_iconst 3 i_79_39 rfl ?_
      refine x_vh (r := []) (lj := [some _, some _, some _, some _, some _, none]) i_79_40 w_61 hb.ob [_, _, _, _] rfl rfl (Nat.le_of_ble_eq_true rfl) (Nat.le_of_ble_eq_true rfl) rfl ?_
      refine c_61 hb r2 (by omega) (by omega) (by omega) (by omega)  (fun q16 M16 r16 f16 => rt_i ?_)
      refine x_istore i_79_43 rfl rfl ?_
      refine x_iload i_79_45 rfl ?_
      refine x_zneN (by omega) i_79_47 ⟨fun g17 => ?_, fun g17 => ?_⟩
      · have k := kn g17 k
        refine x_iload_n i_79_86 rfl ?_
        refine x_zneN (by omega) i_79_87 ⟨fun g18 => ?_, fun g18 => ?_⟩
        · have k := kn g18 k
          refine x_vret i_79_95 rn_79 ?_
          exact k _ r16 ((f1.trans f2).trans f16)
        · have k := kp g18 k
          refine x_aload_n i_79_90 rfl ?_
          refine n_iconst 3 i_79_91 rfl ?_
          refine n_pC i_79_92 hb r16 pf_1_2 (by omega) (by unfold okf; omega) (fun M19 r19 f19 => ?_)
          refine x_vret i_79_95 rn_79 ?_
          exact k _ r19 (((f1.trans f2).trans f16).trans f19)
      · have k := kp g17 k
        refine x_iload_n i_79_50 rfl ?_
        refine n_iconst 1 i_79_51 rfl ?_
        refine x_ieqN (by omega) (by omega) i_79_52 ⟨fun g20 => ?_, fun g20 => ?_⟩
        · have k := kp g20 k
          refine n_iconst 1 i_79_60 rfl ?_
          refine x_goto i_79_61 ?_
          refine x_istore i_79_65 rfl rfl ?_
          refine x_aload_n i_79_67 rfl ?_
          refine x_iload_n i_79_68 rfl ?_
          refine x_iload_n i_79_69 rfl ?_
          refine x_iload i_79_70 rfl ?_
          refine x_ifF i_79_72 (by decide +kernel) ?_
          refine n_iconst 4 i_79_75 rfl ?_
          refine x_goto i_79_76 ?_
          refine n_bipush 63 i_79_80 rfl ?_
          refine x_vh (r := []) (lj := [some _, some _, some _, some _, some _, none]) i_79_82 w_61 hb.ob [_, _, _, _] rfl rfl (Nat.le_of_ble_eq_true rfl) (Nat.le_of_ble_eq_true rfl) rfl ?_
          refine c_61 hb r16 (by omega) (by omega) (by omega) (by omega)  (fun q21 M21 r21 f21 => rt_i ?_)
          refine x_pop i_79_85 rfl ?_
          refine x_iload_n i_79_86 rfl ?_
          refine x_zneN (by omega) i_79_87 ⟨fun g22 => ?_, fun g22 => ?_⟩
          · have k := kn g22 k
            refine x_vret i_79_95 rn_79 ?_
            exact k _ r21 (((f1.trans f2).trans f16).trans f21)
          · have k := kp g22 k
            refine x_aload_n i_79_90 rfl ?_
            refine n_iconst 3 i_79_91 rfl ?_
            refine n_pC i_79_92 hb r21 pf_1_2 (by omega) (by unfold okf; omega) (fun M23 r23 f23 => ?_)
            refine x_vret i_79_95 rn_79 ?_
            exact k _ r23 ((((f1.trans f2).trans f16).trans f21).trans f23)
        · have k := kn g20 k
          refine x_iload_n i_79_55 rfl ?_
          refine n_iconst 2 i_79_56 rfl ?_
          refine x_ineN (by omega) (by omega) i_79_57 ⟨fun g24 => ?_, fun g24 => ?_⟩
          · have k := kn g24 k
            refine n_iconst 0 i_79_64 rfl ?_
            refine x_istore i_79_65 rfl rfl ?_
            refine x_aload_n i_79_67 rfl ?_
            refine x_iload_n i_79_68 rfl ?_
            refine x_iload_n i_79_69 rfl ?_
            refine x_iload i_79_70 rfl ?_
            refine x_ifT i_79_72 (by decide +kernel) ?_
            refine n_iconst 5 i_79_79 rfl ?_
            refine n_bipush 63 i_79_80 rfl ?_
            refine x_vh (r := []) (lj := [some _, some _, some _, some _, some _, none]) i_79_82 w_61 hb.ob [_, _, _, _] rfl rfl (Nat.le_of_ble_eq_true rfl) (Nat.le_of_ble_eq_true rfl) rfl ?_
            refine c_61 hb r16 (by omega) (by omega) (by omega) (by omega)  (fun q25 M25 r25 f25 => rt_i ?_)
            refine x_pop i_79_85 rfl ?_
            refine x_iload_n i_79_86 rfl ?_
            refine x_zneN (by omega) i_79_87 ⟨fun g26 => ?_, fun g26 => ?_⟩
            · have k := kn g26 k
              refine x_vret i_79_95 rn_79 ?_
              exact k _ r25 (((f1.trans f2).trans f16).trans f25)
            · have k := kp g26 k
              refine x_aload_n i_79_90 rfl ?_
              refine n_iconst 3 i_79_91 rfl ?_
              refine n_pC i_79_92 hb r25 pf_1_2 (by omega) (by unfold okf; omega) (fun M27 r27 f27 => ?_)
              refine x_vret i_79_95 rn_79 ?_
              exact k _ r27 ((((f1.trans f2).trans f16).trans f25).trans f27)
          · have k := kp g24 k
            refine n_iconst 1 i_79_60 rfl ?_
            refine x_goto i_79_61 ?_
            refine x_istore i_79_65 rfl rfl ?_
            refine x_aload_n i_79_67 rfl ?_
            refine x_iload_n i_79_68 rfl ?_
            refine x_iload_n i_79_69 rfl ?_
            refine x_iload i_79_70 rfl ?_
            refine x_ifF i_79_72 (by decide +kernel) ?_
            refine n_iconst 4 i_79_75 rfl ?_
            refine x_goto i_79_76 ?_
            refine n_bipush 63 i_79_80 rfl ?_
            refine x_vh (r := []) (lj := [some _, some _, some _, some _, some _, none]) i_79_82 w_61 hb.ob [_, _, _, _] rfl rfl (Nat.le_of_ble_eq_true rfl) (Nat.le_of_ble_eq_true rfl) rfl ?_
            refine c_61 hb r16 (by omega) (by omega) (by omega) (by omega)  (fun q28 M28 r28 f28 => rt_i ?_)
            refine x_pop i_79_85 rfl ?_
            refine x_iload_n i_79_86 rfl ?_
            refine x_zneN (by omega) i_79_87 ⟨fun g29 => ?_, fun g29 => ?_⟩
            · have k := kn g29 k
              refine x_vret i_79_95 rn_79 ?_
              exact k _ r28 (((f1.trans f2).trans f16).trans f28)
            · have k := kp g29 k
              refine x_aload_n i_79_90 rfl ?_
              refine n_iconst 3 i_79_91 rfl ?_
              refine n_pC i_79_92 hb r28 pf_1_2 (by omega) (by unfold okf; omega) (fun M30 r30 f30 => ?_)
              refine x_vret i_79_95 rn_79 ?_
              exact k _ r30 ((((f1.trans f2).trans f16).trans f28).trans f30)
  · have k := kp g3 k
    refine x_aload_n i_79_14 rfl ?_
    refine x_iload_n i_79_15 rfl ?_
    refine x_iload_n i_79_16 rfl ?_
    refine n_iconst 2 i_79_17 rfl ?_
    refine x_aload_n i_79_18 rfl ?_
    refine x_vh (r := [_, _, _, _]) (lj := [some _]) i_79_19 w_78 hb.ob [] rfl rfl (Nat.le_of_ble_eq_true rfl) (Nat.le_of_ble_eq_true rfl) rfl ?_
    refine x_aload_n i_78_0 rfl ?_
    refine n_gi (x := A 6 1) i_78_1 hb.ob gf_1_1.1 gf_1_1.2 r2.f1 ?_
    have q31 : A 6 1 ≤ 1 := r2.w.f1
    refine x_zneN (by omega) i_78_4 ⟨fun g32 => ?_, fun g32 => ?_⟩
    · have k := kn g32 k
      refine n_iconst 2 i_78_11 rfl ?_
      refine x_iretI i_78_12 rn_78 rfl ?_
      refine x_vh (r := []) (lj := [some _, some _, some _, some _, some _, none]) i_79_22 w_61 hb.ob [_, _, _, _] rfl rfl (Nat.le_of_ble_eq_true rfl) (Nat.le_of_ble_eq_true rfl) rfl ?_
      refine c_61 hb r2 (by omega) (by omega) (by omega) (by omega)  (fun q33 M33 r33 f33 => rt_i ?_)
      refine x_istore i_79_25 rfl rfl ?_
      refine x_goto i_79_27 ?_
      refine x_iload i_79_45 rfl ?_
      refine x_zneN (by omega) i_79_47 ⟨fun g34 => ?_, fun g34 => ?_⟩
      · have k := kn g34 k
        refine x_iload_n i_79_86 rfl ?_
        refine x_zneN (by omega) i_79_87 ⟨fun g35 => ?_, fun g35 => ?_⟩
        · have k := kn g35 k
          refine x_vret i_79_95 rn_79 ?_
          exact k _ r33 ((f1.trans f2).trans f33)
        · have k := kp g35 k
          refine x_aload_n i_79_90 rfl ?_
          refine n_iconst 3 i_79_91 rfl ?_
          refine n_pC i_79_92 hb r33 pf_1_2 (by omega) (by unfold okf; omega) (fun M36 r36 f36 => ?_)
          refine x_vret i_79_95 rn_79 ?_
          exact k _ r36 (((f1.trans f2).trans f33).trans f36)
      · have k := kp g34 k
        refine x_iload_n i_79_50 rfl ?_
        refine n_iconst 1 i_79_51 rfl ?_
        refine x_ieqN (by omega) (by omega) i_79_52 ⟨fun g37 => ?_, fun g37 => ?_⟩
        · have k := kp g37 k
          refine n_iconst 1 i_79_60 rfl ?_
          refine x_goto i_79_61 ?_
          refine x_istore i_79_65 rfl rfl ?_
          refine x_aload_n i_79_67 rfl ?_
          refine x_iload_n i_79_68 rfl ?_
          refine x_iload_n i_79_69 rfl ?_
          refine x_iload i_79_70 rfl ?_
          refine x_ifF i_79_72 (by decide +kernel) ?_
          refine n_iconst 4 i_79_75 rfl ?_
          refine x_goto i_79_76 ?_
          refine n_bipush 63 i_79_80 rfl ?_
          refine x_vh (r := []) (lj := [some _, some _, some _, some _, some _, none]) i_79_82 w_61 hb.ob [_, _, _, _] rfl rfl (Nat.le_of_ble_eq_true rfl) (Nat.le_of_ble_eq_true rfl) rfl ?_
          refine c_61 hb r33 (by omega) (by omega) (by omega) (by omega)  (fun q38 M38 r38 f38 => rt_i ?_)
          refine x_pop i_79_85 rfl ?_
          refine x_iload_n i_79_86 rfl ?_
          refine x_zneN (by omega) i_79_87 ⟨fun g39 => ?_, fun g39 => ?_⟩
          · have k := kn g39 k
            refine x_vret i_79_95 rn_79 ?_
            exact k _ r38 (((f1.trans f2).trans f33).trans f38)
          · have k := kp g39 k
            refine x_aload_n i_79_90 rfl ?_
            refine n_iconst 3 i_79_91 rfl ?_
            refine n_pC i_79_92 hb r38 pf_1_2 (by omega) (by unfold okf; omega) (fun M40 r40 f40 => ?_)
            refine x_vret i_79_95 rn_79 ?_
            exact k _ r40 ((((f1.trans f2).trans f33).trans f38).trans f40)
        · have k := kn g37 k
          refine x_iload_n i_79_55 rfl ?_
          refine n_iconst 2 i_79_56 rfl ?_
          refine x_ineN (by omega) (by omega) i_79_57 ⟨fun g41 => ?_, fun g41 => ?_⟩
          · have k := kn g41 k
            refine n_iconst 0 i_79_64 rfl ?_
            refine x_istore i_79_65 rfl rfl ?_
            refine x_aload_n i_79_67 rfl ?_
            refine x_iload_n i_79_68 rfl ?_
            refine x_iload_n i_79_69 rfl ?_
            refine x_iload i_79_70 rfl ?_
            refine x_ifT i_79_72 (by decide +kernel) ?_
            refine n_iconst 5 i_79_79 rfl ?_
            refine n_bipush 63 i_79_80 rfl ?_
            refine x_vh (r := []) (lj := [some _, some _, some _, some _, some _, none]) i_79_82 w_61 hb.ob [_, _, _, _] rfl rfl (Nat.le_of_ble_eq_true rfl) (Nat.le_of_ble_eq_true rfl) rfl ?_
            refine c_61 hb r33 (by omega) (by omega) (by omega) (by omega)  (fun q42 M42 r42 f42 => rt_i ?_)
            refine x_pop i_79_85 rfl ?_
            refine x_iload_n i_79_86 rfl ?_
            refine x_zneN (by omega) i_79_87 ⟨fun g43 => ?_, fun g43 => ?_⟩
            · have k := kn g43 k
              refine x_vret i_79_95 rn_79 ?_
              exact k _ r42 (((f1.trans f2).trans f33).trans f42)
            · have k := kp g43 k
              refine x_aload_n i_79_90 rfl ?_
              refine n_iconst 3 i_79_91 rfl ?_
              refine n_pC i_79_92 hb r42 pf_1_2 (by omega) (by unfold okf; omega) (fun M44 r44 f44 => ?_)
              refine x_vret i_79_95 rn_79 ?_
              exact k _ r44 ((((f1.trans f2).trans f33).trans f42).trans f44)
          · have k := kp g41 k
            refine n_iconst 1 i_79_60 rfl ?_
            refine x_goto i_79_61 ?_
            refine x_istore i_79_65 rfl rfl ?_
            refine x_aload_n i_79_67 rfl ?_
            refine x_iload_n i_79_68 rfl ?_
            refine x_iload_n i_79_69 rfl ?_
            refine x_iload i_79_70 rfl ?_
            refine x_ifF i_79_72 (by decide +kernel) ?_
            refine n_iconst 4 i_79_75 rfl ?_
            refine x_goto i_79_76 ?_
            refine n_bipush 63 i_79_80 rfl ?_
            refine x_vh (r := []) (lj := [some _, some _, some _, some _, some _, none]) i_79_82 w_61 hb.ob [_, _, _, _] rfl rfl (Nat.le_of_ble_eq_true rfl) (Nat.le_of_ble_eq_true rfl) rfl ?_
            refine c_61 hb r33 (by omega) (by omega) (by omega) (by omega)  (fun q45 M45 r45 f45 => rt_i ?_)
            refine x_pop i_79_85 rfl ?_
            refine x_iload_n i_79_86 rfl ?_
            refine x_zneN (by omega) i_79_87 ⟨fun g46 => ?_, fun g46 => ?_⟩
            · have k := kn g46 k
              refine x_vret i_79_95 rn_79 ?_
              exact k _ r45 (((f1.trans f2).trans f33).trans f45)
            · have k := kp g46 k
              refine x_aload_n i_79_90 rfl ?_
              refine n_iconst 3 i_79_91 rfl ?_
              refine n_pC i_79_92 hb r45 pf_1_2 (by omega) (by unfold okf; omega) (fun M47 r47 f47 => ?_)
              refine x_vret i_79_95 rn_79 ?_
              exact k _ r47 ((((f1.trans f2).trans f33).trans f45).trans f47)
    · have k := kp g32 k
      refine n_iconst 3 i_78_7 rfl ?_
      refine x_goto i_78_8 ?_
      refine x_iretI i_78_12 rn_78 rfl ?_
      refine x_vh (r := []) (lj := [some _, some _, some _, some _, some _, none]) i_79_22 w_61 hb.ob [_, _, _, _] rfl rfl (Nat.le_of_ble_eq_true rfl) (Nat.le_of_ble_eq_true rfl) rfl ?_
      refine c_61 hb r2 (by omega) (by omega) (by omega) (by omega)  (fun q48 M48 r48 f48 => rt_i ?_)
      refine x_istore i_79_25 rfl rfl ?_
      refine x_goto i_79_27 ?_
      refine x_iload i_79_45 rfl ?_
      refine x_zneN (by omega) i_79_47 ⟨fun g49 => ?_, fun g49 => ?_⟩
      · have k := kn g49 k
        refine x_iload_n i_79_86 rfl ?_
        refine x_zneN (by omega) i_79_87 ⟨fun g50 => ?_, fun g50 => ?_⟩
        · have k := kn g50 k
          refine x_vret i_79_95 rn_79 ?_
          exact k _ r48 ((f1.trans f2).trans f48)
        · have k := kp g50 k
          refine x_aload_n i_79_90 rfl ?_
          refine n_iconst 3 i_79_91 rfl ?_
          refine n_pC i_79_92 hb r48 pf_1_2 (by omega) (by unfold okf; omega) (fun M51 r51 f51 => ?_)
          refine x_vret i_79_95 rn_79 ?_
          exact k _ r51 (((f1.trans f2).trans f48).trans f51)
      · have k := kp g49 k
        refine x_iload_n i_79_50 rfl ?_
        refine n_iconst 1 i_79_51 rfl ?_
        refine x_ieqN (by omega) (by omega) i_79_52 ⟨fun g52 => ?_, fun g52 => ?_⟩
        · have k := kp g52 k
          refine n_iconst 1 i_79_60 rfl ?_
          refine x_goto i_79_61 ?_
          refine x_istore i_79_65 rfl rfl ?_
          refine x_aload_n i_79_67 rfl ?_
          refine x_iload_n i_79_68 rfl ?_
          refine x_iload_n i_79_69 rfl ?_
          refine x_iload i_79_70 rfl ?_
          refine x_ifF i_79_72 (by decide +kernel) ?_
          refine n_iconst 4 i_79_75 rfl ?_
          refine x_goto i_79_76 ?_
          refine n_bipush 63 i_79_80 rfl ?_
          refine x_vh (r := []) (lj := [some _, some _, some _, some _, some _, none]) i_79_82 w_61 hb.ob [_, _, _, _] rfl rfl (Nat.le_of_ble_eq_true rfl) (Nat.le_of_ble_eq_true rfl) rfl ?_
          refine c_61 hb r48 (by omega) (by omega) (by omega) (by omega)  (fun q53 M53 r53 f53 => rt_i ?_)
          refine x_pop i_79_85 rfl ?_
          refine x_iload_n i_79_86 rfl ?_
          refine x_zneN (by omega) i_79_87 ⟨fun g54 => ?_, fun g54 => ?_⟩
          · have k := kn g54 k
            refine x_vret i_79_95 rn_79 ?_
            exact k _ r53 (((f1.trans f2).trans f48).trans f53)
          · have k := kp g54 k
            refine x_aload_n i_79_90 rfl ?_
            refine n_iconst 3 i_79_91 rfl ?_
            refine n_pC i_79_92 hb r53 pf_1_2 (by omega) (by unfold okf; omega) (fun M55 r55 f55 => ?_)
            refine x_vret i_79_95 rn_79 ?_
            exact k _ r55 ((((f1.trans f2).trans f48).trans f53).trans f55)
        · have k := kn g52 k
          refine x_iload_n i_79_55 rfl ?_
          refine n_iconst 2 i_79_56 rfl ?_
          refine x_ineN (by omega) (by omega) i_79_57 ⟨fun g56 => ?_, fun g56 => ?_⟩
          · have k := kn g56 k
            refine n_iconst 0 i_79_64 rfl ?_
            refine x_istore i_79_65 rfl rfl ?_
            refine x_aload_n i_79_67 rfl ?_
            refine x_iload_n i_79_68 rfl ?_
            refine x_iload_n i_79_69 rfl ?_
            refine x_iload i_79_70 rfl ?_
            refine x_ifT i_79_72 (by decide +kernel) ?_
            refine n_iconst 5 i_79_79 rfl ?_
            refine n_bipush 63 i_79_80 rfl ?_
            refine x_vh (r := []) (lj := [some _, some _, some _, some _, some _, none]) i_79_82 w_61 hb.ob [_, _, _, _] rfl rfl (Nat.le_of_ble_eq_true rfl) (Nat.le_of_ble_eq_true rfl) rfl ?_
            refine c_61 hb r48 (by omega) (by omega) (by omega) (by omega)  (fun q57 M57 r57 f57 => rt_i ?_)
            refine x_pop i_79_85 rfl ?_
            refine x_iload_n i_79_86 rfl ?_
            refine x_zneN (by omega) i_79_87 ⟨fun g58 => ?_, fun g58 => ?_⟩
            · have k := kn g58 k
              refine x_vret i_79_95 rn_79 ?_
              exact k _ r57 (((f1.trans f2).trans f48).trans f57)
            · have k := kp g58 k
              refine x_aload_n i_79_90 rfl ?_
              refine n_iconst 3 i_79_91 rfl ?_
              refine n_pC i_79_92 hb r57 pf_1_2 (by omega) (by unfold okf; omega) (fun M59 r59 f59 => ?_)
              refine x_vret i_79_95 rn_79 ?_
              exact k _ r59 ((((f1.trans f2).trans f48).trans f57).trans f59)
          · have k := kp g56 k
            refine n_iconst 1 i_79_60 rfl ?_
            refine x_goto i_79_61 ?_
            refine x_istore i_79_65 rfl rfl ?_
            refine x_aload_n i_79_67 rfl ?_
            refine x_iload_n i_79_68 rfl ?_
            refine x_iload_n i_79_69 rfl ?_
            refine x_iload i_79_70 rfl ?_
            refine x_ifF i_79_72 (by decide +kernel) ?_
            refine n_iconst 4 i_79_75 rfl ?_
            refine x_goto i_79_76 ?_
            refine n_bipush 63 i_79_80 rfl ?_
            refine x_vh (r := []) (lj := [some _, some _, some _, some _, some _, none]) i_79_82 w_61 hb.ob [_, _, _, _] rfl rfl (Nat.le_of_ble_eq_true rfl) (Nat.le_of_ble_eq_true rfl) rfl ?_
            refine c_61 hb r48 (by omega) (by omega) (by omega) (by omega)  (fun q60 M60 r60 f60 => rt_i ?_)
            refine x_pop i_79_85 rfl ?_
            refine x_iload_n i_79_86 rfl ?_
            refine x_zneN (by omega) i_79_87 ⟨fun g61 => ?_, fun g61 => ?_⟩
            · have k := kn g61 k
              refine x_vret i_79_95 rn_79 ?_
              exact k _ r60 (((f1.trans f2).trans f48).trans f60)
            · have k := kp g61 k
              refine x_aload_n i_79_90 rfl ?_
              refine n_iconst 3 i_79_91 rfl ?_
              refine n_pC i_79_92 hb r60 pf_1_2 (by omega) (by unfold okf; omega) (fun M62 r62 f62 => ?_)
              refine x_vret i_79_95 rn_79 ?_
              exact k _ r62 ((((f1.trans f2).trans f48).trans f60).trans f62)
