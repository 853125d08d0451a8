/-! what the reference tells of its hall, by program -/
def s_200 (n : Nat) (A : HA) (l1 : Nat) (l2 : Nat) : Nat × HA :=
  (if (0 ≤ l1 ∧ l1 ≤ (n - 1)) then (if (0 ≤ l2 ∧ l2 ≤ 5) then (A l2 l1, (a_up A 9 0 0)) else (4294967294, (a_up A 9 0 0))) else (4294967294, (a_up A 9 0 0)))
theorem c_200 {sc : a_Sc} {fd : Nat} {M : a_Mm} {A : HA} {Q : Option Value → a_Hp → Prop} {n : Nat} (r : RM M n A) {l1 l2 : Nat} (hl1 : l1 ≤ 4294967295) (hl2 : l2 ≤ 4294967295) (k : MR 4294967295 Q sc fd M n (s_200 n A l1 l2)) : a_Ex 200 0 [some (.ref 170), some (.int (N l1)), some (.int (N l2))] [] (a_hp sc fd M) Q := by
  unfold s_200 at k
  have n5 := r.n5
  have n2 := r.n2
  refine x_aload_n i_200_0 rfl ?_
  refine n_iconst 0 i_200_1 rfl ?_
  refine n_pM i_200_2 r pf_8_0 (by omega) (fun M1 r1 f1 => ?_)
  refine x_aload_n i_200_5 rfl ?_
  refine x_iload_n i_200_6 rfl ?_
  refine x_vh (r := []) (lj := [some _, some _]) i_200_7 w_154 ob_170 [_] rfl rfl (Nat.le_of_ble_eq_true rfl) (Nat.le_of_ble_eq_true rfl) rfl ?_
  refine x_iload_n i_154_0 rfl ?_
  refine x_i2l i_154_1 ?_
  refine n_lconst 0 i_154_2 rfl ?_
  refine x_aload_n i_154_3 rfl ?_
  refine x_gr i_154_4 ob_170 gr_8_1.1 gr_8_1.2 (rt_170_1 _) ?_
  refine n_iconst 0 i_154_7 rfl ?_
  refine n_ld (x := n) i_154_8 ar_171 (by omega) (by omega) r1.nn ?_
  refine n_iconst 1 i_154_9 rfl ?_
  refine x_isubN (by omega) i_154_10 ?_
  refine x_i2l i_154_11 ?_
  refine n_within i_154_12 (Nat.le_of_ble_eq_true rfl) (by omega) (by omega) (by omega) ⟨fun g2 => ?_, fun g2 => ?_⟩
  · have k := kp g2 k
    refine x_iretI i_154_15 rn_154 (by decide +kernel) ?_
    refine x_ifF i_200_10 (by decide +kernel) ?_
    refine x_iload_n i_200_13 rfl ?_
    refine x_i2l i_200_14 ?_
    refine n_lconst 0 i_200_15 rfl ?_
    refine n_ldc2 5 i_200_16 rfl ?_
    refine n_within i_200_19 (Nat.le_of_ble_eq_true rfl) (by omega) (by omega) (by omega) ⟨fun g3 => ?_, fun g3 => ?_⟩
    · have k := kp g3 k
      refine x_ifF i_200_22 (by decide +kernel) ?_
      refine x_aload_n i_200_25 rfl ?_
      refine x_iload_n i_200_26 rfl ?_
      refine x_iload_n i_200_27 rfl ?_
      refine n_atx (A l2 l1) i_200_28 r1 l2 (by omega) (by omega) (Nat.le_of_ble_eq_true rfl) (a_up_o (by omega)) ?_
      refine x_goto i_200_31 ?_
      have q4 : A l2 l1 ≤ 31 := (show WN n A from r1.w).ball (by omega) (by omega)
      refine x_iret i_200_36 rn_200 rfl ?_
      exact k (show A l2 l1 ≤ 4294967295 by omega) _ r1 f1
    · have k := kn g3 k
      refine x_ifT i_200_22 (by decide +kernel) ?_
      refine n_bipush 4294967294 i_200_34 rfl ?_
      refine x_iret i_200_36 rn_200 rfl ?_
      exact k (show 4294967294 ≤ 4294967295 by omega) _ r1 f1
  · have k := kn g2 k
    refine x_iretI i_154_15 rn_154 (by decide +kernel) ?_
    refine x_ifT i_200_10 (by decide +kernel) ?_
    refine n_bipush 4294967294 i_200_34 rfl ?_
    refine x_iret i_200_36 rn_200 rfl ?_
    exact k (show 4294967294 ≤ 4294967295 by omega) _ r1 f1
def s_201 (n : Nat) (A : HA) (l1 : Nat) : Nat × HA :=
  (if (0 ≤ l1 ∧ l1 ≤ (n - 1)) then (if (A 1 l1) = 1 then (s_202 n ((a_up A 9 0 0)) (s_172 n ((a_up A 9 0 0)) l1), (a_up A 9 0 0)) else (4294967291, (a_up A 9 0 0))) else (4294967294, (a_up A 9 0 0)))
theorem c_201 {sc : a_Sc} {fd : Nat} {M : a_Mm} {A : HA} {Q : Option Value → a_Hp → Prop} {n : Nat} (r : RM M n A) {l1 : Nat} (hl1 : l1 ≤ 4294967295) (k : MR 4294967295 Q sc fd M n (s_201 n A l1)) : a_Ex 201 0 [some (.ref 170), some (.int (N l1))] [] (a_hp sc fd M) Q := by
  unfold s_201 at k
  have n5 := r.n5
  have n2 := r.n2
  refine x_aload_n i_201_0 rfl ?_
  refine n_iconst 0 i_201_1 rfl ?_
  refine n_pM i_201_2 r pf_8_0 (by omega) (fun M1 r1 f1 => ?_)
  refine x_aload_n i_201_5 rfl ?_
  refine x_iload_n i_201_6 rfl ?_
  refine x_vh (r := []) (lj := [some _, some _]) i_201_7 w_154 ob_170 [_] rfl rfl (Nat.le_of_ble_eq_true rfl) (Nat.le_of_ble_eq_true rfl) rfl ?_
  refine x_iload_n i_154_0 rfl ?_
  refine x_i2l i_154_1 ?_
  refine n_lconst 0 i_154_2 rfl ?_
  refine x_aload_n i_154_3 rfl ?_
  refine x_gr i_154_4 ob_170 gr_8_1.1 gr_8_1.2 (rt_170_1 _) ?_
  refine n_iconst 0 i_154_7 rfl ?_
  refine n_ld (x := n) i_154_8 ar_171 (by omega) (by omega) r1.nn ?_
  refine n_iconst 1 i_154_9 rfl ?_
  refine x_isubN (by omega) i_154_10 ?_
  refine x_i2l i_154_11 ?_
  refine n_within i_154_12 (Nat.le_of_ble_eq_true rfl) (by omega) (by omega) (by omega) ⟨fun g2 => ?_, fun g2 => ?_⟩
  · have k := kp g2 k
    refine x_iretI i_154_15 rn_154 (by decide +kernel) ?_
    refine x_ifT i_201_10 (by decide +kernel) ?_
    refine x_aload_n i_201_16 rfl ?_
    refine x_iload_n i_201_17 rfl ?_
    refine n_iconst 1 i_201_18 rfl ?_
    refine n_atx (A 1 l1) i_201_19 r1 1 (by omega) (by omega) (Nat.le_of_ble_eq_true rfl) rfl ?_
    refine n_iconst 1 i_201_22 rfl ?_
    have q3 : A 1 l1 ≤ 2 := r1.w.b1 (by omega)
    refine x_ineN (by omega) (by omega) i_201_23 ⟨fun g4 => ?_, fun g4 => ?_⟩
    · have k := kn g4 k
      refine n_bipush 4294967291 i_201_38 rfl ?_
      refine x_iret i_201_40 rn_201 rfl ?_
      exact k (show 4294967291 ≤ 4294967295 by omega) _ r1 f1
    · have k := kp g4 k
      refine x_aload_n i_201_26 rfl ?_
      refine x_aload_n i_201_27 rfl ?_
      refine x_iload_n i_201_28 rfl ?_
      refine x_vh (r := [_]) (lj := [some _, some _]) i_201_29 w_172 ob_170 [_] rfl rfl (Nat.le_of_ble_eq_true rfl) (Nat.le_of_ble_eq_true rfl) rfl ?_
      refine c_172 r1 (by omega) (by omega) (fun q5 => rt_i ?_)
      have m172a := s172_ne n ((a_up A 9 0 0)) l1 n5
      have m172b := s172_lt n ((a_up A 9 0 0)) l1 n5
      refine x_vh (r := []) (lj := [some _, some _]) i_201_32 w_202 ob_170 [_] rfl rfl (Nat.le_of_ble_eq_true rfl) (Nat.le_of_ble_eq_true rfl) rfl ?_
      refine c_202 r1 (by omega)  (fun q6 => rt_i ?_)
      refine x_goto i_201_35 ?_
      refine x_iret i_201_40 rn_201 rfl ?_
      exact k (show s_202 n ((a_up A 9 0 0)) (s_172 n ((a_up A 9 0 0)) l1) ≤ 4294967295 by omega) _ r1 f1
  · have k := kn g2 k
    refine x_iretI i_154_15 rn_154 (by decide +kernel) ?_
    refine x_ifF i_201_10 (by decide +kernel) ?_
    refine n_bipush 4294967294 i_201_13 rfl ?_
    refine x_iret i_201_15 rn_201 rfl ?_
    exact k (show 4294967294 ≤ 4294967295 by omega) _ r1 f1
def s_203 (n : Nat) (A : HA) (l1 : Nat) : Nat × HA :=
  (if (0 ≤ l1 ∧ l1 ≤ (n - 1)) then (if (A 1 l1) = 1 then (if (s_202 n ((a_up A 9 0 0)) (s_172 n ((a_up A 9 0 0)) l1)) = 4294967295 then (4294967295, (a_up A 9 0 0)) else (if (2 ≤ (s_202 n ((a_up A 9 0 0)) (s_172 n ((a_up A 9 0 0)) l1)) ∧ (s_202 n ((a_up A 9 0 0)) (s_172 n ((a_up A 9 0 0)) l1)) < 2147483648) then (2 * ((pop (s_172 n ((a_up A 9 0 0)) l1)) + 4294967295), (a_up A 9 0 0)) else ((pop (s_172 n ((a_up A 9 0 0)) l1)) + 4294967295, (a_up A 9 0 0)))) else (4294967291, (a_up A 9 0 0))) else (4294967294, (a_up A 9 0 0)))
theorem c_203 {sc : a_Sc} {fd : Nat} {M : a_Mm} {A : HA} {Q : Option Value → a_Hp → Prop} {n : Nat} (r : RM M n A) {l1 : Nat} (hl1 : l1 ≤ 4294967295) (k : MU Q sc fd M n (s_203 n A l1)) : a_Ex 203 0 [some (.ref 170), some (.int (N l1)), none, none] [] (a_hp sc fd M) Q := by
  unfold s_203 at k
  have n5 := r.n5
  have n2 := r.n2
  refine x_aload_n i_203_0 rfl ?_
  refine n_iconst 0 i_203_1 rfl ?_
  refine n_pM i_203_2 r pf_8_0 (by omega) (fun M1 r1 f1 => ?_)
  refine x_aload_n i_203_5 rfl ?_
  refine x_iload_n i_203_6 rfl ?_
  refine x_vh (r := []) (lj := [some _, some _]) i_203_7 w_154 ob_170 [_] rfl rfl (Nat.le_of_ble_eq_true rfl) (Nat.le_of_ble_eq_true rfl) rfl ?_
  refine x_iload_n i_154_0 rfl ?_
  refine x_i2l i_154_1 ?_
  refine n_lconst 0 i_154_2 rfl ?_
  refine x_aload_n i_154_3 rfl ?_
  refine x_gr i_154_4 ob_170 gr_8_1.1 gr_8_1.2 (rt_170_1 _) ?_
  refine n_iconst 0 i_154_7 rfl ?_
  refine n_ld (x := n) i_154_8 ar_171 (by omega) (by omega) r1.nn ?_
  refine n_iconst 1 i_154_9 rfl ?_
  refine x_isubN (by omega) i_154_10 ?_
  refine x_i2l i_154_11 ?_
  refine n_within i_154_12 (Nat.le_of_ble_eq_true rfl) (by omega) (by omega) (by omega) ⟨fun g2 => ?_, fun g2 => ?_⟩
  · have k := kp g2 k
    refine x_iretI i_154_15 rn_154 (by decide +kernel) ?_
    refine x_ifT i_203_10 (by decide +kernel) ?_
    refine x_aload_n i_203_16 rfl ?_
    refine x_iload_n i_203_17 rfl ?_
    refine n_iconst 1 i_203_18 rfl ?_
    refine n_atx (A 1 l1) i_203_19 r1 1 (by omega) (by omega) (Nat.le_of_ble_eq_true rfl) rfl ?_
    refine n_iconst 1 i_203_22 rfl ?_
    have q3 : A 1 l1 ≤ 2 := r1.w.b1 (by omega)
    refine x_ieqN (by omega) (by omega) i_203_23 ⟨fun g4 => ?_, fun g4 => ?_⟩
    · have k := kp g4 k
      refine x_aload_n i_203_29 rfl ?_
      refine x_aload_n i_203_30 rfl ?_
      refine x_iload_n i_203_31 rfl ?_
      refine x_vh (r := [_]) (lj := [some _, some _]) i_203_32 w_172 ob_170 [_] rfl rfl (Nat.le_of_ble_eq_true rfl) (Nat.le_of_ble_eq_true rfl) rfl ?_
      refine c_172 r1 (by omega) (by omega) (fun q5 => rt_i ?_)
      have m172a := s172_ne n ((a_up A 9 0 0)) l1 n5
      have m172b := s172_lt n ((a_up A 9 0 0)) l1 n5
      refine x_vh (r := []) (lj := [some _, some _]) i_203_35 w_202 ob_170 [_] rfl rfl (Nat.le_of_ble_eq_true rfl) (Nat.le_of_ble_eq_true rfl) rfl ?_
      refine c_202 r1 (by omega)  (fun q6 => rt_i ?_)
      refine x_istore_n i_203_38 rfl rfl ?_
      refine x_aload_n i_203_39 rfl ?_
      refine x_iload_n i_203_40 rfl ?_
      refine x_vh (r := []) (lj := [some _, some _]) i_203_41 w_172 ob_170 [_] rfl rfl (Nat.le_of_ble_eq_true rfl) (Nat.le_of_ble_eq_true rfl) rfl ?_
      refine c_172 r1 (by omega) (by omega) (fun q7 => rt_i ?_)
      have m172a := s172_ne n ((a_up A 9 0 0)) l1 n5
      have m172b := s172_lt n ((a_up A 9 0 0)) l1 n5
      refine x_sh (r := []) (lj := [some _, none, none]) i_203_44 ws_179 [_] rfl rfl (Nat.le_of_ble_eq_true rfl) (Nat.le_of_ble_eq_true rfl) rfl ?_
      refine k_179 (by omega)  (fun q8 => rt_i ?_)
      refine n_iconst 1 i_203_47 rfl ?_
      refine n_isubK 4294967295 rfl i_203_48 ?_
      refine x_istore_n i_203_49 rfl rfl ?_
      refine x_iload_n i_203_50 rfl ?_
      refine n_iconst 4294967295 i_203_51 rfl ?_
      refine n_ineU (by omega) (by omega) i_203_52 ⟨fun g9 => ?_, fun g9 => ?_⟩
      · have k := kn g9 k
        refine x_iload_n i_203_59 rfl ?_
        refine n_iconst 2 i_203_60 rfl ?_
        refine n_igeU (by omega) (by omega) i_203_61 ⟨fun g10 => ?_, fun g10 => ?_⟩
        · have k := kp g10 k
          refine n_iconst 2 i_203_68 rfl ?_
          refine x_iload_n i_203_69 rfl ?_
          refine x_imulN i_203_70 ?_
          refine x_iret i_203_71 rn_203 rfl ?_
          exact k _ r1 f1
        · have k := kn g10 k
          refine x_iload_n i_203_64 rfl ?_
          refine x_goto i_203_65 ?_
          refine x_iret i_203_71 rn_203 rfl ?_
          exact k _ r1 f1
      · have k := kp g9 k
        refine n_iconst 4294967295 i_203_55 rfl ?_
        refine x_goto i_203_56 ?_
        refine x_iret i_203_71 rn_203 rfl ?_
        exact k _ r1 f1
    · have k := kn g4 k
      refine n_bipush 4294967291 i_203_26 rfl ?_
      refine x_iret i_203_28 rn_203 rfl ?_
      exact k _ r1 f1
  · have k := kn g2 k
    refine x_iretI i_154_15 rn_154 (by decide +kernel) ?_
    refine x_ifF i_203_10 (by decide +kernel) ?_
    refine n_bipush 4294967294 i_203_13 rfl ?_
    refine x_iret i_203_15 rn_203 rfl ?_
    exact k _ r1 f1
def s_204_9 (n : Nat) : Nat → HA → Nat → Nat → Nat × HA
  | 0, A, _, _ => (0, A)
  | d + 1, A, l1, l2 => (if n ≤ l2 then (l1, A) else (if (A 1 l2) = 1 then (if (s_205 n A (s_172 n A l2)) = 0 then (s_204_9 n d A (l1 ||| 0) (l2 + 1)) else (s_204_9 n d A (l1 ||| (1 <<< l2)) (l2 + 1))) else (s_204_9 n d A (l1 ||| 0) (l2 + 1))))
theorem c_204_9 {sc : a_Sc} {fd : Nat} {Q : Option Value → a_Hp → Prop} {n : Nat} : ∀ (d : Nat) {M : a_Mm} {A : HA} {l1 l2 : Nat} (r : RM M n A) (hl1 : l1 ≤ 31) (hl2 : l2 ≤ 5) (i0 : l2 ≤ n) (hm : n - l2 < d) (k : MR 31 Q sc fd M n (s_204_9 n d A l1 l2)), a_Ex 204 9 [some (.ref 170), some (.int (N l1)), some (.int (N l2))] [] (a_hp sc fd M) Q := by
  intro d
  induction d with
  | zero => intro M A l1 l2 r hl1 hl2 i0 hm k; exact absurd hm (Nat.not_lt_zero _)
  | succ d ih =>
      intro M A l1 l2 r hl1 hl2 i0 hm k
      unfold s_204_9 at k
      have n5 := r.n5
      have n2 := r.n2
      refine x_iload_n i_204_9 rfl ?_
      refine x_aload_n i_204_10 rfl ?_
      refine x_gr i_204_11 ob_170 gr_8_1.1 gr_8_1.2 (rt_170_1 _) ?_
      refine n_iconst 0 i_204_14 rfl ?_
      refine n_ld (x := n) i_204_15 ar_171 (by omega) (by omega) r.nn ?_
      refine x_igeN (by omega) (by omega) i_204_16 ⟨fun g1 => ?_, fun g1 => ?_⟩
      · have k := kp g1 k
        refine x_iload_n i_204_57 rfl ?_
        refine x_iret i_204_58 rn_204 rfl ?_
        exact k (show l1 ≤ 31 by omega) _ r (FM.refl _)
      · have k := kn g1 k
        refine x_iload_n i_204_19 rfl ?_
        refine x_aload_n i_204_20 rfl ?_
        refine x_iload_n i_204_21 rfl ?_
        refine n_iconst 1 i_204_22 rfl ?_
        refine n_atx (A 1 l2) i_204_23 r 1 (by omega) (by omega) (Nat.le_of_ble_eq_true rfl) rfl ?_
        refine n_iconst 1 i_204_26 rfl ?_
        have q2 : A 1 l2 ≤ 2 := r.w.b1 (by omega)
        refine x_ineN (by omega) (by omega) i_204_27 ⟨fun g3 => ?_, fun g3 => ?_⟩
        · have k := kn g3 k
          refine n_iconst 0 i_204_48 rfl ?_
          refine x_iorN i_204_49 ?_
          refine x_istore_n i_204_50 rfl rfl ?_
          refine n_iinc 1 i_204_51 rfl rfl rfl rfl ?_
          refine x_goto i_204_54 ?_
          have q4 : l1 ||| 0 ≤ 31 := or_le 5 (by omega) (by omega)
          exact ih r (by omega) (by omega) (by omega) (by omega) k
        · have k := kp g3 k
          refine x_aload_n i_204_30 rfl ?_
          refine x_aload_n i_204_31 rfl ?_
          refine x_iload_n i_204_32 rfl ?_
          refine x_vh (r := [_, _]) (lj := [some _, some _]) i_204_33 w_172 ob_170 [_] rfl rfl (Nat.le_of_ble_eq_true rfl) (Nat.le_of_ble_eq_true rfl) rfl ?_
          refine c_172 r (by omega) (by omega) (fun q5 => rt_i ?_)
          have m172a := s172_ne n A l2 n5
          have m172b := s172_lt n A l2 n5
          refine x_vh (r := [_]) (lj := [some _, some _]) i_204_36 w_205 ob_170 [_] rfl rfl (Nat.le_of_ble_eq_true rfl) (Nat.le_of_ble_eq_true rfl) rfl ?_
          refine c_205 r (by omega)  (fun q6 => rt_i ?_)
          refine x_zeqN (by omega) i_204_39 ⟨fun g7 => ?_, fun g7 => ?_⟩
          · have k := kp g7 k
            refine n_iconst 0 i_204_48 rfl ?_
            refine x_iorN i_204_49 ?_
            refine x_istore_n i_204_50 rfl rfl ?_
            refine n_iinc 1 i_204_51 rfl rfl rfl rfl ?_
            refine x_goto i_204_54 ?_
            have q8 : l1 ||| 0 ≤ 31 := or_le 5 (by omega) (by omega)
            exact ih r (by omega) (by omega) (by omega) (by omega) k
          · have k := kn g7 k
            refine n_iconst 1 i_204_42 rfl ?_
            refine x_iload_n i_204_43 rfl ?_
            refine x_ishlN (by omega) i_204_44 ?_
            refine x_goto i_204_45 ?_
            refine x_iorN i_204_49 ?_
            refine x_istore_n i_204_50 rfl rfl ?_
            refine n_iinc 1 i_204_51 rfl rfl rfl rfl ?_
            refine x_goto i_204_54 ?_
            have q9 : 1 <<< l2 ≤ 16 := shl_le 4 (by omega)
            have q10 : l1 ||| (1 <<< l2) ≤ 31 := or_le 5 (by omega) (by omega)
            exact ih r (by omega) (by omega) (by omega) (by omega) k
def s_204 (n : Nat) (A : HA) : Nat × HA :=
  (s_204_9 n (6) (a_up A 9 0 0) 0 0)
theorem c_204 {sc : a_Sc} {fd : Nat} {M : a_Mm} {A : HA} {Q : Option Value → a_Hp → Prop} {n : Nat} (r : RM M n A) (k : MR 31 Q sc fd M n (s_204 n A)) : a_Ex 204 0 [some (.ref 170), none, none] [] (a_hp sc fd M) Q := by
  unfold s_204 at k
  have n5 := r.n5
  have n2 := r.n2
  refine x_aload_n i_204_0 rfl ?_
  refine n_iconst 0 i_204_1 rfl ?_
  refine n_pM i_204_2 r pf_8_0 (by omega) (fun M1 r1 f1 => ?_)
  refine n_iconst 0 i_204_5 rfl ?_
  refine x_istore_n i_204_6 rfl rfl ?_
  refine n_iconst 0 i_204_7 rfl ?_
  refine x_istore_n i_204_8 rfl rfl ?_
  exact c_204_9 (6) r1 (by omega) (by omega) (by omega) (by omega) (k.tr f1)
def s_206 (n : Nat) (A : HA) (l1 : Nat) : Nat × HA :=
  (if (1 ≤ l1 ∧ l1 ≤ (ev n)) then (s_202 n ((a_up A 9 0 0)) l1, (a_up A 9 0 0)) else (4294967294, (a_up A 9 0 0)))
theorem c_206 {sc : a_Sc} {fd : Nat} {M : a_Mm} {A : HA} {Q : Option Value → a_Hp → Prop} {n : Nat} (r : RM M n A) {l1 : Nat} (hl1 : l1 ≤ 4294967295) (k : MR 4294967295 Q sc fd M n (s_206 n A l1)) : a_Ex 206 0 [some (.ref 170), some (.int (N l1))] [] (a_hp sc fd M) Q := by
  unfold s_206 at k
  have n5 := r.n5
  have n2 := r.n2
  refine x_aload_n i_206_0 rfl ?_
  refine n_iconst 0 i_206_1 rfl ?_
  refine n_pM i_206_2 r pf_8_0 (by omega) (fun M1 r1 f1 => ?_)
  refine x_aload_n i_206_5 rfl ?_
  refine x_iload_n i_206_6 rfl ?_
  refine x_vh (r := []) (lj := [some _, some _]) i_206_7 w_207 ob_170 [_] rfl rfl (Nat.le_of_ble_eq_true rfl) (Nat.le_of_ble_eq_true rfl) rfl ?_
  refine x_iload_n i_207_0 rfl ?_
  refine x_i2l i_207_1 ?_
  refine n_lconst 1 i_207_2 rfl ?_
  refine x_aload_n i_207_3 rfl ?_
  refine x_vh (r := [_, _]) (lj := [some _]) i_207_4 w_159 ob_170 [] rfl rfl (Nat.le_of_ble_eq_true rfl) (Nat.le_of_ble_eq_true rfl) rfl ?_
  refine c_159 r1   (fun q2 => rt_i ?_)
  refine x_i2l i_207_7 ?_
  refine n_within i_207_8 (Nat.le_of_ble_eq_true rfl) (by omega) (by omega) (by omega) ⟨fun g3 => ?_, fun g3 => ?_⟩
  · have k := kp g3 k
    refine x_iretI i_207_11 rn_207 (by decide +kernel) ?_
    refine x_ifF i_206_10 (by decide +kernel) ?_
    refine x_aload_n i_206_13 rfl ?_
    refine x_iload_n i_206_14 rfl ?_
    refine x_vh (r := []) (lj := [some _, some _]) i_206_15 w_202 ob_170 [_] rfl rfl (Nat.le_of_ble_eq_true rfl) (Nat.le_of_ble_eq_true rfl) rfl ?_
    refine c_202 r1 (by omega)  (fun q4 => rt_i ?_)
    refine x_goto i_206_18 ?_
    refine x_iret i_206_23 rn_206 rfl ?_
    exact k (show s_202 n ((a_up A 9 0 0)) l1 ≤ 4294967295 by omega) _ r1 f1
  · have k := kn g3 k
    refine x_iretI i_207_11 rn_207 (by decide +kernel) ?_
    refine x_ifT i_206_10 (by decide +kernel) ?_
    refine n_bipush 4294967294 i_206_21 rfl ?_
    refine x_iret i_206_23 rn_206 rfl ?_
    exact k (show 4294967294 ≤ 4294967295 by omega) _ r1 f1
def s_210_30 (n : Nat) : Nat → HA → Nat → Nat → Nat → Nat × HA
  | 0, A, _, _, _ => (0, A)
  | d + 1, A, l1, l2, l3 => (if (ev n) < l3 then (l2, A) else (if (pop l3) = l1 then (if (l3 &&& ((s_158 n A 1 1) ^^^ 4294967295)) = 0 then (if (s_211 n A l3) = 0 then (s_210_30 n d A l1 (l2 + 0) (l3 + 1)) else (s_210_30 n d A l1 (l2 + 1) (l3 + 1))) else (s_210_30 n d A l1 (l2 + 0) (l3 + 1))) else (s_210_30 n d A l1 (l2 + 0) (l3 + 1))))
theorem c_210_30 {sc : a_Sc} {fd : Nat} {Q : Option Value → a_Hp → Prop} {n : Nat} : ∀ (d : Nat) {M : a_Mm} {A : HA} {l1 l2 l3 : Nat} (r : RM M n A) (hl1 : l1 ≤ 4) (hl2 : l2 ≤ 32) (hl3 : l3 ≤ 32) (i0 : l2 ≤ l3) (hm : 32 - l3 < d) (k : MR 4294967295 Q sc fd M n (s_210_30 n d A l1 l2 l3)), a_Ex 210 30 [some (.ref 170), some (.int (N l1)), some (.int (N l2)), some (.int (N l3))] [] (a_hp sc fd M) Q := by
  intro d
  induction d with
  | zero => intro M A l1 l2 l3 r hl1 hl2 hl3 i0 hm k; exact absurd hm (Nat.not_lt_zero _)
  | succ d ih =>
      intro M A l1 l2 l3 r hl1 hl2 hl3 i0 hm k
      unfold s_210_30 at k
      have n5 := r.n5
      have n2 := r.n2
      refine x_iload_n i_210_30 rfl ?_
      refine x_aload_n i_210_31 rfl ?_
      refine x_vh (r := [_]) (lj := [some _]) i_210_32 w_159 ob_170 [] rfl rfl (Nat.le_of_ble_eq_true rfl) (Nat.le_of_ble_eq_true rfl) rfl ?_
      refine c_159 r   (fun q1 => rt_i ?_)
      refine x_igtN (by omega) (by omega) i_210_35 ⟨fun g2 => ?_, fun g2 => ?_⟩
      · have k := kp g2 k
        refine x_iload_n i_210_81 rfl ?_
        refine x_iret i_210_82 rn_210 rfl ?_
        exact k (show l2 ≤ 4294967295 by omega) _ r (FM.refl _)
      · have k := kn g2 k
        refine x_iload_n i_210_38 rfl ?_
        refine x_iload_n i_210_39 rfl ?_
        refine x_sh (r := [_]) (lj := [some _, none, none]) i_210_40 ws_179 [_] rfl rfl (Nat.le_of_ble_eq_true rfl) (Nat.le_of_ble_eq_true rfl) rfl ?_
        refine k_179 (by omega)  (fun q3 => rt_i ?_)
        refine x_iload_n i_210_43 rfl ?_
        refine x_ineN (by omega) (by omega) i_210_44 ⟨fun g4 => ?_, fun g4 => ?_⟩
        · have k := kn g4 k
          refine n_iconst 0 i_210_72 rfl ?_
          refine x_iaddN i_210_73 ?_
          refine x_istore_n i_210_74 rfl rfl ?_
          refine n_iinc 1 i_210_75 rfl rfl rfl rfl ?_
          refine x_goto i_210_78 ?_
          exact ih r (by omega) (by omega) (by omega) (by omega) (by omega) k
        · have k := kp g4 k
          refine x_iload_n i_210_47 rfl ?_
          refine x_aload_n i_210_48 rfl ?_
          refine n_iconst 1 i_210_49 rfl ?_
          refine n_iconst 1 i_210_50 rfl ?_
          refine x_vh (r := [_, _]) (lj := [some _, some _, some _, none, none]) i_210_51 w_158 ob_170 [_, _] rfl rfl (Nat.le_of_ble_eq_true rfl) (Nat.le_of_ble_eq_true rfl) rfl ?_
          refine c_158 r (by omega) (by omega)  (fun q5 => rt_i ?_)
          have m158a := s158_lt n A 1 1 n5
          refine n_iconst 4294967295 i_210_54 rfl ?_
          refine x_ixorN i_210_55 ?_
          refine x_iandN i_210_56 ?_
          have q6 : l3 &&& ((s_158 n A 1 1) ^^^ 4294967295) ≤ 31 := Nat.le_trans Nat.and_le_left (by omega)
          have q7 : l3 &&& ((s_158 n A 1 1) ^^^ 4294967295) ≤ l3 := Nat.and_le_left
          refine x_zneN (by omega) i_210_57 ⟨fun g8 => ?_, fun g8 => ?_⟩
          · have k := kn g8 k
            refine n_iconst 0 i_210_72 rfl ?_
            refine x_iaddN i_210_73 ?_
            refine x_istore_n i_210_74 rfl rfl ?_
            refine n_iinc 1 i_210_75 rfl rfl rfl rfl ?_
            refine x_goto i_210_78 ?_
            exact ih r (by omega) (by omega) (by omega) (by omega) (by omega) k
          · have k := kp g8 k
            refine x_aload_n i_210_60 rfl ?_
            refine x_iload_n i_210_61 rfl ?_
            refine x_vh (r := [_]) (lj := [some _, some _, none, none]) i_210_62 w_211 ob_170 [_] rfl rfl (Nat.le_of_ble_eq_true rfl) (Nat.le_of_ble_eq_true rfl) rfl ?_
            refine c_211 r (by omega)  (fun q9 => rt_i ?_)
            refine x_zeqN (by omega) i_210_65 ⟨fun g10 => ?_, fun g10 => ?_⟩
            · have k := kp g10 k
              refine n_iconst 0 i_210_72 rfl ?_
              refine x_iaddN i_210_73 ?_
              refine x_istore_n i_210_74 rfl rfl ?_
              refine n_iinc 1 i_210_75 rfl rfl rfl rfl ?_
              refine x_goto i_210_78 ?_
              exact ih r (by omega) (by omega) (by omega) (by omega) (by omega) k
            · have k := kn g10 k
              refine n_iconst 1 i_210_68 rfl ?_
              refine x_goto i_210_69 ?_
              refine x_iaddN i_210_73 ?_
              refine x_istore_n i_210_74 rfl rfl ?_
              refine n_iinc 1 i_210_75 rfl rfl rfl rfl ?_
              refine x_goto i_210_78 ?_
              exact ih r (by omega) (by omega) (by omega) (by omega) (by omega) k
def s_210 (n : Nat) (A : HA) (l1 : Nat) : Nat × HA :=
  (if (0 ≤ l1 ∧ l1 ≤ (n - 1)) then (s_210_30 n (33) (a_up A 9 0 0) l1 0 0) else (4294967293, (a_up A 9 0 0)))
theorem c_210 {sc : a_Sc} {fd : Nat} {M : a_Mm} {A : HA} {Q : Option Value → a_Hp → Prop} {n : Nat} (r : RM M n A) {l1 : Nat} (hl1 : l1 ≤ 4294967295) (k : MR 4294967295 Q sc fd M n (s_210 n A l1)) : a_Ex 210 0 [some (.ref 170), some (.int (N l1)), none, none] [] (a_hp sc fd M) Q := by
  unfold s_210 at k
  have n5 := r.n5
  have n2 := r.n2
  refine x_aload_n i_210_0 rfl ?_
  refine n_iconst 0 i_210_1 rfl ?_
  refine n_pM i_210_2 r pf_8_0 (by omega) (fun M1 r1 f1 => ?_)
  refine x_iload_n i_210_5 rfl ?_
  refine x_i2l i_210_6 ?_
  refine n_lconst 0 i_210_7 rfl ?_
  refine x_aload_n i_210_8 rfl ?_
  refine x_gr i_210_9 ob_170 gr_8_1.1 gr_8_1.2 (rt_170_1 _) ?_
  refine n_iconst 0 i_210_12 rfl ?_
  refine n_ld (x := n) i_210_13 ar_171 (by omega) (by omega) r1.nn ?_
  refine n_iconst 1 i_210_14 rfl ?_
  refine x_isubN (by omega) i_210_15 ?_
  refine x_i2l i_210_16 ?_
  refine n_within i_210_17 (Nat.le_of_ble_eq_true rfl) (by omega) (by omega) (by omega) ⟨fun g2 => ?_, fun g2 => ?_⟩
  · have k := kp g2 k
    refine x_ifT i_210_20 (by decide +kernel) ?_
    refine n_iconst 0 i_210_26 rfl ?_
    refine x_istore_n i_210_27 rfl rfl ?_
    refine n_iconst 0 i_210_28 rfl ?_
    refine x_istore_n i_210_29 rfl rfl ?_
    exact c_210_30 (33) r1 (by omega) (by omega) (by omega) (by omega) (by omega) (k.tr f1)
  · have k := kn g2 k
    refine x_ifF i_210_20 (by decide +kernel) ?_
    refine n_bipush 4294967293 i_210_23 rfl ?_
    refine x_iret i_210_25 rn_210 rfl ?_
    exact k (show 4294967293 ≤ 4294967295 by omega) _ r1 f1
def s_212 (n : Nat) (A : HA) (l1 : Nat) : Nat × HA :=
  (if (1 ≤ l1 ∧ l1 ≤ (ev n)) then (s_198 n ((a_up A 9 0 0)) l1, (a_up A 9 0 0)) else (4294967294, (a_up A 9 0 0)))
theorem c_212 {sc : a_Sc} {fd : Nat} {M : a_Mm} {A : HA} {Q : Option Value → a_Hp → Prop} {n : Nat} (r : RM M n A) {l1 : Nat} (hl1 : l1 ≤ 4294967295) (k : MR 4294967295 Q sc fd M n (s_212 n A l1)) : a_Ex 212 0 [some (.ref 170), some (.int (N l1))] [] (a_hp sc fd M) Q := by
  unfold s_212 at k
  have n5 := r.n5
  have n2 := r.n2
  refine x_aload_n i_212_0 rfl ?_
  refine n_iconst 0 i_212_1 rfl ?_
  refine n_pM i_212_2 r pf_8_0 (by omega) (fun M1 r1 f1 => ?_)
  refine x_aload_n i_212_5 rfl ?_
  refine x_iload_n i_212_6 rfl ?_
  refine x_vh (r := []) (lj := [some _, some _]) i_212_7 w_207 ob_170 [_] rfl rfl (Nat.le_of_ble_eq_true rfl) (Nat.le_of_ble_eq_true rfl) rfl ?_
  refine x_iload_n i_207_0 rfl ?_
  refine x_i2l i_207_1 ?_
  refine n_lconst 1 i_207_2 rfl ?_
  refine x_aload_n i_207_3 rfl ?_
  refine x_vh (r := [_, _]) (lj := [some _]) i_207_4 w_159 ob_170 [] rfl rfl (Nat.le_of_ble_eq_true rfl) (Nat.le_of_ble_eq_true rfl) rfl ?_
  refine c_159 r1   (fun q2 => rt_i ?_)
  refine x_i2l i_207_7 ?_
  refine n_within i_207_8 (Nat.le_of_ble_eq_true rfl) (by omega) (by omega) (by omega) ⟨fun g3 => ?_, fun g3 => ?_⟩
  · have k := kp g3 k
    refine x_iretI i_207_11 rn_207 (by decide +kernel) ?_
    refine x_ifF i_212_10 (by decide +kernel) ?_
    refine x_aload_n i_212_13 rfl ?_
    refine x_iload_n i_212_14 rfl ?_
    refine x_vh (r := []) (lj := [some _, some _, none, none]) i_212_15 w_198 ob_170 [_] rfl rfl (Nat.le_of_ble_eq_true rfl) (Nat.le_of_ble_eq_true rfl) rfl ?_
    refine c_198 r1 (by omega)  (fun q4 => rt_i ?_)
    have m198a := s198_lt n ((a_up A 9 0 0)) l1
    have m198b := s198_low n ((a_up A 9 0 0)) l1 n5
    refine x_goto i_212_18 ?_
    refine x_iret i_212_23 rn_212 rfl ?_
    exact k (show s_198 n ((a_up A 9 0 0)) l1 ≤ 4294967295 by omega) _ r1 f1
  · have k := kn g3 k
    refine x_iretI i_207_11 rn_207 (by decide +kernel) ?_
    refine x_ifT i_212_10 (by decide +kernel) ?_
    refine n_bipush 4294967294 i_212_21 rfl ?_
    refine x_iret i_212_23 rn_212 rfl ?_
    exact k (show 4294967294 ≤ 4294967295 by omega) _ r1 f1
def s_213_12 (n : Nat) : Nat → HA → Nat → Nat → Nat × HA
  | 0, A, _, _ => (0, A)
  | d + 1, A, l1, l2 => (if l2 ≤ 0 then (l1, A) else (if l1 = 4294967295 then (if (s_199 n A l2) = 0 then (s_213_12 n d A l1 (l2 - 1)) else (s_213_12 n d A l2 (l2 - 1))) else (if (pop l1) < (pop l2) then (s_213_12 n d A l1 (l2 - 1)) else (if (s_199 n A l2) = 0 then (s_213_12 n d A l1 (l2 - 1)) else (s_213_12 n d A l2 (l2 - 1))))))
theorem c_213_12 {sc : a_Sc} {fd : Nat} {Q : Option Value → a_Hp → Prop} {n : Nat} : ∀ (d : Nat) {M : a_Mm} {A : HA} {l1 l2 : Nat} (r : RM M n A) (hl1 : l1 ≤ 4294967295) (hl2 : l2 ≤ 31) (i0 : l1 ≤ 31 ∨ l1 = 4294967295) (hm : l2 < d) (k : MR 4294967295 Q sc fd M n (s_213_12 n d A l1 l2)), a_Ex 213 12 [some (.ref 170), some (.int (N l1)), some (.int (N l2))] [] (a_hp sc fd M) Q := by
  intro d
  induction d with
  | zero => intro M A l1 l2 r hl1 hl2 i0 hm k; exact absurd hm (Nat.not_lt_zero _)
  | succ d ih =>
      intro M A l1 l2 r hl1 hl2 i0 hm k
      unfold s_213_12 at k
      have n5 := r.n5
      have n2 := r.n2
      refine x_iload_n i_213_12 rfl ?_
      refine x_zleN (by omega) i_213_13 ⟨fun g1 => ?_, fun g1 => ?_⟩
      · have k := kp g1 k
        refine x_iload_n i_213_48 rfl ?_
        refine x_iret i_213_49 rn_213 rfl ?_
        exact k (show l1 ≤ 4294967295 by omega) _ r (FM.refl _)
      · have k := kn g1 k
        refine x_iload_n i_213_16 rfl ?_
        refine n_iconst 4294967295 i_213_17 rfl ?_
        refine n_ieqU (by omega) (by omega) i_213_18 ⟨fun g2 => ?_, fun g2 => ?_⟩
        · have k := kp g2 k
          refine x_aload_n i_213_32 rfl ?_
          refine x_iload_n i_213_33 rfl ?_
          refine x_vh (r := []) (lj := [some _, some _]) i_213_34 w_199 ob_170 [_] rfl rfl (Nat.le_of_ble_eq_true rfl) (Nat.le_of_ble_eq_true rfl) rfl ?_
          refine c_199 r (by omega)  (fun q3 => rt_i ?_)
          have m199a := s199_ne n A l2
          refine x_zeqN (by omega) i_213_37 ⟨fun g4 => ?_, fun g4 => ?_⟩
          · have k := kp g4 k
            refine n_iinc 4294967295 i_213_42 rfl rfl rfl rfl ?_
            rw [N_dec (x := l2) (by omega)]
            refine x_goto i_213_45 ?_
            exact ih r (by omega) (by omega) (by omega) (by omega) k
          · have k := kn g4 k
            refine x_iload_n i_213_40 rfl ?_
            refine x_istore_n i_213_41 rfl rfl ?_
            refine n_iinc 4294967295 i_213_42 rfl rfl rfl rfl ?_
            rw [N_dec (x := l2) (by omega)]
            refine x_goto i_213_45 ?_
            exact ih r (by omega) (by omega) (by omega) (by omega) k
        · have k := kn g2 k
          refine x_iload_n i_213_21 rfl ?_
          refine x_sh (r := []) (lj := [some _, none, none]) i_213_22 ws_179 [_] rfl rfl (Nat.le_of_ble_eq_true rfl) (Nat.le_of_ble_eq_true rfl) rfl ?_
          refine k_179 (by omega)  (fun q5 => rt_i ?_)
          refine x_iload_n i_213_25 rfl ?_
          refine x_sh (r := [_]) (lj := [some _, none, none]) i_213_26 ws_179 [_] rfl rfl (Nat.le_of_ble_eq_true rfl) (Nat.le_of_ble_eq_true rfl) rfl ?_
          refine k_179 (by omega)  (fun q6 => rt_i ?_)
          refine x_igtN (by omega) (by omega) i_213_29 ⟨fun g7 => ?_, fun g7 => ?_⟩
          · have k := kp g7 k
            refine n_iinc 4294967295 i_213_42 rfl rfl rfl rfl ?_
            rw [N_dec (x := l2) (by omega)]
            refine x_goto i_213_45 ?_
            exact ih r (by omega) (by omega) (by omega) (by omega) k
          · have k := kn g7 k
            refine x_aload_n i_213_32 rfl ?_
            refine x_iload_n i_213_33 rfl ?_
            refine x_vh (r := []) (lj := [some _, some _]) i_213_34 w_199 ob_170 [_] rfl rfl (Nat.le_of_ble_eq_true rfl) (Nat.le_of_ble_eq_true rfl) rfl ?_
            refine c_199 r (by omega)  (fun q8 => rt_i ?_)
            have m199a := s199_ne n A l2
            refine x_zeqN (by omega) i_213_37 ⟨fun g9 => ?_, fun g9 => ?_⟩
            · have k := kp g9 k
              refine n_iinc 4294967295 i_213_42 rfl rfl rfl rfl ?_
              rw [N_dec (x := l2) (by omega)]
              refine x_goto i_213_45 ?_
              exact ih r (by omega) (by omega) (by omega) (by omega) k
            · have k := kn g9 k
              refine x_iload_n i_213_40 rfl ?_
              refine x_istore_n i_213_41 rfl rfl ?_
              refine n_iinc 4294967295 i_213_42 rfl rfl rfl rfl ?_
              rw [N_dec (x := l2) (by omega)]
              refine x_goto i_213_45 ?_
              exact ih r (by omega) (by omega) (by omega) (by omega) k
def s_213 (n : Nat) (A : HA) : Nat × HA :=
  (s_213_12 n (32) (a_up A 9 0 0) 4294967295 (ev n))
theorem c_213 {sc : a_Sc} {fd : Nat} {M : a_Mm} {A : HA} {Q : Option Value → a_Hp → Prop} {n : Nat} (r : RM M n A) (k : MR 4294967295 Q sc fd M n (s_213 n A)) : a_Ex 213 0 [some (.ref 170), none, none] [] (a_hp sc fd M) Q := by
  unfold s_213 at k
  have n5 := r.n5
  have n2 := r.n2
  refine x_aload_n i_213_0 rfl ?_
  refine n_iconst 0 i_213_1 rfl ?_
  refine n_pM i_213_2 r pf_8_0 (by omega) (fun M1 r1 f1 => ?_)
  refine n_iconst 4294967295 i_213_5 rfl ?_
  refine x_istore_n i_213_6 rfl rfl ?_
  refine x_aload_n i_213_7 rfl ?_
  refine x_vh (r := []) (lj := [some _]) i_213_8 w_159 ob_170 [] rfl rfl (Nat.le_of_ble_eq_true rfl) (Nat.le_of_ble_eq_true rfl) rfl ?_
  refine c_159 r1   (fun q2 => rt_i ?_)
  refine x_istore_n i_213_11 rfl rfl ?_
  exact c_213_12 (32) r1 (by omega) (by omega) (by omega) (by omega) (k.tr f1)
def s_214_37 (n : Nat) : Nat → HA → Nat → Nat → Nat → Nat → Nat × HA
  | 0, A, _, _, _, _ => (0, A)
  | d + 1, A, l1, l2, l3, l4 => (if (ev n) < l4 then (l3, A) else (if 2 ≤ l1 then (if (s_216 n A l4 l2) = 0 then (s_214_37 n d A l1 l2 (l3 + 0) (l4 + 1)) else (s_214_37 n d A l1 l2 (l3 + 1) (l4 + 1))) else (if (s_215 n A l4 l2) = 0 then (s_214_37 n d A l1 l2 (l3 + 0) (l4 + 1)) else (s_214_37 n d A l1 l2 (l3 + 1) (l4 + 1)))))
theorem c_214_37 {sc : a_Sc} {fd : Nat} {Q : Option Value → a_Hp → Prop} {n : Nat} : ∀ (d : Nat) {M : a_Mm} {A : HA} {l1 l2 l3 l4 : Nat} (r : RM M n A) (hl1 : l1 ≤ 3) (hl2 : l2 ≤ 4) (hl3 : l3 ≤ 31) (hl4 : l4 ≤ 32) (i0 : 3 ≤ l2) (i1 : l3 < l4) (hm : 32 - l4 < d) (k : MR 4294967295 Q sc fd M n (s_214_37 n d A l1 l2 l3 l4)), a_Ex 214 37 [some (.ref 170), some (.int (N l1)), some (.int (N l2)), some (.int (N l3)), some (.int (N l4))] [] (a_hp sc fd M) Q := by
  intro d
  induction d with
  | zero => intro M A l1 l2 l3 l4 r hl1 hl2 hl3 hl4 i0 i1 hm k; exact absurd hm (Nat.not_lt_zero _)
  | succ d ih =>
      intro M A l1 l2 l3 l4 r hl1 hl2 hl3 hl4 i0 i1 hm k
      unfold s_214_37 at k
      have n5 := r.n5
      have n2 := r.n2
      refine x_iload i_214_37 rfl ?_
      refine x_aload_n i_214_39 rfl ?_
      refine x_vh (r := [_]) (lj := [some _]) i_214_40 w_159 ob_170 [] rfl rfl (Nat.le_of_ble_eq_true rfl) (Nat.le_of_ble_eq_true rfl) rfl ?_
      refine c_159 r   (fun q1 => rt_i ?_)
      refine x_igtN (by omega) (by omega) i_214_43 ⟨fun g2 => ?_, fun g2 => ?_⟩
      · have k := kp g2 k
        refine x_iload_n i_214_88 rfl ?_
        refine x_iret i_214_89 rn_214 rfl ?_
        exact k (show l3 ≤ 4294967295 by omega) _ r (FM.refl _)
      · have k := kn g2 k
        refine x_iload_n i_214_46 rfl ?_
        refine x_iload_n i_214_47 rfl ?_
        refine n_iconst 2 i_214_48 rfl ?_
        refine x_igeN (by omega) (by omega) i_214_49 ⟨fun g3 => ?_, fun g3 => ?_⟩
        · have k := kp g3 k
          refine x_aload_n i_214_65 rfl ?_
          refine x_iload i_214_66 rfl ?_
          refine x_iload_n i_214_68 rfl ?_
          refine x_vh (r := [_]) (lj := [some _, some _, some _, none]) i_214_69 w_216 ob_170 [_, _] rfl rfl (Nat.le_of_ble_eq_true rfl) (Nat.le_of_ble_eq_true rfl) rfl ?_
          refine c_216 r (by omega) (by omega) (by omega) (fun q4 => rt_i ?_)
          refine x_zeqN (by omega) i_214_72 ⟨fun g5 => ?_, fun g5 => ?_⟩
          · have k := kp g5 k
            refine n_iconst 0 i_214_79 rfl ?_
            refine x_iaddN i_214_80 ?_
            refine x_istore_n i_214_81 rfl rfl ?_
            refine n_iinc 1 i_214_82 rfl rfl rfl rfl ?_
            refine x_goto i_214_85 ?_
            exact ih r (by omega) (by omega) (by omega) (by omega) (by omega) (by omega) (by omega) k
          · have k := kn g5 k
            refine n_iconst 1 i_214_75 rfl ?_
            refine x_goto i_214_76 ?_
            refine x_iaddN i_214_80 ?_
            refine x_istore_n i_214_81 rfl rfl ?_
            refine n_iinc 1 i_214_82 rfl rfl rfl rfl ?_
            refine x_goto i_214_85 ?_
            exact ih r (by omega) (by omega) (by omega) (by omega) (by omega) (by omega) (by omega) k
        · have k := kn g3 k
          refine x_aload_n i_214_52 rfl ?_
          refine x_iload i_214_53 rfl ?_
          refine x_iload_n i_214_55 rfl ?_
          refine x_vh (r := [_]) (lj := [some _, some _, some _]) i_214_56 w_215 ob_170 [_, _] rfl rfl (Nat.le_of_ble_eq_true rfl) (Nat.le_of_ble_eq_true rfl) rfl ?_
          refine c_215 r (by omega) (by omega) (by omega) (fun q6 => rt_i ?_)
          refine x_zeqN (by omega) i_214_59 ⟨fun g7 => ?_, fun g7 => ?_⟩
          · have k := kp g7 k
            refine n_iconst 0 i_214_79 rfl ?_
            refine x_iaddN i_214_80 ?_
            refine x_istore_n i_214_81 rfl rfl ?_
            refine n_iinc 1 i_214_82 rfl rfl rfl rfl ?_
            refine x_goto i_214_85 ?_
            exact ih r (by omega) (by omega) (by omega) (by omega) (by omega) (by omega) (by omega) k
          · have k := kn g7 k
            refine x_goto i_214_62 ?_
            refine n_iconst 1 i_214_75 rfl ?_
            refine x_goto i_214_76 ?_
            refine x_iaddN i_214_80 ?_
            refine x_istore_n i_214_81 rfl rfl ?_
            refine n_iinc 1 i_214_82 rfl rfl rfl rfl ?_
            refine x_goto i_214_85 ?_
            exact ih r (by omega) (by omega) (by omega) (by omega) (by omega) (by omega) (by omega) k
def s_214 (n : Nat) (A : HA) (l1 : Nat) : Nat × HA :=
  (if (0 ≤ l1 ∧ l1 ≤ 3) then (if (l1 % 2) = 0 then (s_214_37 n (33) (a_up A 9 0 0) l1 3 0 1) else (s_214_37 n (33) (a_up A 9 0 0) l1 4 0 1)) else (4294967294, (a_up A 9 0 0)))
theorem c_214 {sc : a_Sc} {fd : Nat} {M : a_Mm} {A : HA} {Q : Option Value → a_Hp → Prop} {n : Nat} (r : RM M n A) {l1 : Nat} (hl1 : l1 ≤ 4294967295) (k : MR 4294967295 Q sc fd M n (s_214 n A l1)) : a_Ex 214 0 [some (.ref 170), some (.int (N l1)), none, none, none] [] (a_hp sc fd M) Q := by
  unfold s_214 at k
  have n5 := r.n5
  have n2 := r.n2
  refine x_aload_n i_214_0 rfl ?_
  refine n_iconst 0 i_214_1 rfl ?_
  refine n_pM i_214_2 r pf_8_0 (by omega) (fun M1 r1 f1 => ?_)
  refine x_iload_n i_214_5 rfl ?_
  refine x_i2l i_214_6 ?_
  refine n_lconst 0 i_214_7 rfl ?_
  refine n_ldc2 3 i_214_8 rfl ?_
  refine n_within i_214_11 (Nat.le_of_ble_eq_true rfl) (by omega) (by omega) (by omega) ⟨fun g2 => ?_, fun g2 => ?_⟩
  · have k := kp g2 k
    refine x_ifT i_214_14 (by decide +kernel) ?_
    refine x_iload_n i_214_20 rfl ?_
    refine n_iconst 2 i_214_21 rfl ?_
    refine x_iremN (by omega) (by omega) (by omega) i_214_22 ?_
    refine x_zneN (by omega) i_214_23 ⟨fun g3 => ?_, fun g3 => ?_⟩
    · have k := kn g3 k
      refine n_iconst 4 i_214_30 rfl ?_
      refine x_istore_n i_214_31 rfl rfl ?_
      refine n_iconst 0 i_214_32 rfl ?_
      refine x_istore_n i_214_33 rfl rfl ?_
      refine n_iconst 1 i_214_34 rfl ?_
      refine x_istore i_214_35 rfl rfl ?_
      exact c_214_37 (33) r1 (by omega) (by omega) (by omega) (by omega) (by omega) (by omega) (by omega) (k.tr f1)
    · have k := kp g3 k
      refine n_iconst 3 i_214_26 rfl ?_
      refine x_goto i_214_27 ?_
      refine x_istore_n i_214_31 rfl rfl ?_
      refine n_iconst 0 i_214_32 rfl ?_
      refine x_istore_n i_214_33 rfl rfl ?_
      refine n_iconst 1 i_214_34 rfl ?_
      refine x_istore i_214_35 rfl rfl ?_
      exact c_214_37 (33) r1 (by omega) (by omega) (by omega) (by omega) (by omega) (by omega) (by omega) (k.tr f1)
  · have k := kn g2 k
    refine x_ifF i_214_14 (by decide +kernel) ?_
    refine n_bipush 4294967294 i_214_17 rfl ?_
    refine x_iret i_214_19 rn_214 rfl ?_
    exact k (show 4294967294 ≤ 4294967295 by omega) _ r1 f1
def s_224 (n : Nat) (A : HA) (l1 : Nat) : Nat × HA :=
  (if l1 = 0 then (s_158 n ((a_up A 9 0 0)) 0 4, (a_up A 9 0 0)) else (if l1 = 1 then (s_158 n ((a_up A 9 0 0)) 0 5, (a_up A 9 0 0)) else (if l1 = 2 then (s_158 n ((a_up A 9 0 0)) 1 1, (a_up A 9 0 0)) else (if l1 = 3 then ((s_158 n ((a_up A 9 0 0)) 1 1) &&& (s_174 n ((a_up A 9 0 0))), (a_up A 9 0 0)) else (4294967294, (a_up A 9 0 0))))))
theorem c_224 {sc : a_Sc} {fd : Nat} {M : a_Mm} {A : HA} {Q : Option Value → a_Hp → Prop} {n : Nat} (r : RM M n A) {l1 : Nat} (hl1 : l1 ≤ 4294967295) (k : MR 4294967295 Q sc fd M n (s_224 n A l1)) : a_Ex 224 0 [some (.ref 170), some (.int (N l1)), none] [] (a_hp sc fd M) Q := by
  unfold s_224 at k
  have n5 := r.n5
  have n2 := r.n2
  refine x_aload_n i_224_0 rfl ?_
  refine n_iconst 0 i_224_1 rfl ?_
  refine n_pM i_224_2 r pf_8_0 (by omega) (fun M1 r1 f1 => ?_)
  refine x_aload_n i_224_5 rfl ?_
  refine n_iconst 1 i_224_6 rfl ?_
  refine n_iconst 1 i_224_7 rfl ?_
  refine x_vh (r := []) (lj := [some _, some _, some _, none, none]) i_224_8 w_158 ob_170 [_, _] rfl rfl (Nat.le_of_ble_eq_true rfl) (Nat.le_of_ble_eq_true rfl) rfl ?_
  refine c_158 r1 (by omega) (by omega)  (fun q2 => rt_i ?_)
  have m158a := s158_lt n ((a_up A 9 0 0)) 1 1 n5
  refine x_istore_n i_224_11 rfl rfl ?_
  refine x_iload_n i_224_12 rfl ?_
  by_cases g3 : l1 = 0
  · have k := kp g3 k
    refine x_tswI (t := 44) (off := 31) i_224_13 (by rw [g3]; decide +kernel) (by rw [g3]; decide +kernel) (by decide) ?_
    refine x_aload_n i_224_44 rfl ?_
    refine n_iconst 0 i_224_45 rfl ?_
    refine n_iconst 4 i_224_46 rfl ?_
    refine x_vh (r := []) (lj := [some _, some _, some _, none, none]) i_224_47 w_158 ob_170 [_, _] rfl rfl (Nat.le_of_ble_eq_true rfl) (Nat.le_of_ble_eq_true rfl) rfl ?_
    refine c_158 r1 (by omega) (by omega)  (fun q4 => rt_i ?_)
    have m158a := s158_lt n ((a_up A 9 0 0)) 0 4 n5
    refine x_iret i_224_50 rn_224 rfl ?_
    exact k (show s_158 n ((a_up A 9 0 0)) 0 4 ≤ 4294967295 by omega) _ r1 f1
  have k := kn g3 k
  by_cases g5 : l1 = 1
  · have k := kp g5 k
    refine x_tswI (t := 51) (off := 38) i_224_13 (by rw [g5]; decide +kernel) (by rw [g5]; decide +kernel) (by decide) ?_
    refine x_aload_n i_224_51 rfl ?_
    refine n_iconst 0 i_224_52 rfl ?_
    refine n_iconst 5 i_224_53 rfl ?_
    refine x_vh (r := []) (lj := [some _, some _, some _, none, none]) i_224_54 w_158 ob_170 [_, _] rfl rfl (Nat.le_of_ble_eq_true rfl) (Nat.le_of_ble_eq_true rfl) rfl ?_
    refine c_158 r1 (by omega) (by omega)  (fun q6 => rt_i ?_)
    have m158a := s158_lt n ((a_up A 9 0 0)) 0 5 n5
    refine x_iret i_224_57 rn_224 rfl ?_
    exact k (show s_158 n ((a_up A 9 0 0)) 0 5 ≤ 4294967295 by omega) _ r1 f1
  have k := kn g5 k
  by_cases g7 : l1 = 2
  · have k := kp g7 k
    refine x_tswI (t := 58) (off := 45) i_224_13 (by rw [g7]; decide +kernel) (by rw [g7]; decide +kernel) (by decide) ?_
    refine x_iload_n i_224_58 rfl ?_
    refine x_iret i_224_59 rn_224 rfl ?_
    exact k (show s_158 n ((a_up A 9 0 0)) 1 1 ≤ 4294967295 by omega) _ r1 f1
  have k := kn g7 k
  by_cases g8 : l1 = 3
  · have k := kp g8 k
    refine x_tswI (t := 60) (off := 47) i_224_13 (by rw [g8]; decide +kernel) (by rw [g8]; decide +kernel) (by decide) ?_
    refine x_iload_n i_224_60 rfl ?_
    refine x_aload_n i_224_61 rfl ?_
    refine x_vh (r := [_]) (lj := [some _]) i_224_62 w_174 ob_170 [] rfl rfl (Nat.le_of_ble_eq_true rfl) (Nat.le_of_ble_eq_true rfl) rfl ?_
    refine c_174 r1   (fun q9 => rt_i ?_)
    refine x_iandN i_224_65 ?_
    have q10 : (s_158 n ((a_up A 9 0 0)) 1 1) &&& (s_174 n ((a_up A 9 0 0))) ≤ 31 := Nat.le_trans Nat.and_le_left (by omega)
    have q11 : (s_158 n ((a_up A 9 0 0)) 1 1) &&& (s_174 n ((a_up A 9 0 0))) ≤ (s_158 n ((a_up A 9 0 0)) 1 1) := Nat.and_le_left
    refine x_iret i_224_66 rn_224 rfl ?_
    exact k (show (s_158 n ((a_up A 9 0 0)) 1 1) &&& (s_174 n ((a_up A 9 0 0))) ≤ 4294967295 by omega) _ r1 f1
  have k := kn g8 k
  refine x_tswO (t := 67) i_224_13 (n_tswO (lo := 0) (hi := 3) (by omega) (by omega)) (by decide) ?_
  refine n_bipush 4294967294 i_224_67 rfl ?_
  refine x_iret i_224_69 rn_224 rfl ?_
  exact k (show 4294967294 ≤ 4294967295 by omega) _ r1 f1
def s_254 (n : Nat) (A : HA) : Nat × HA :=
  (A 7 0, (a_up A 9 0 0))
theorem c_254 {sc : a_Sc} {fd : Nat} {M : a_Mm} {A : HA} {Q : Option Value → a_Hp → Prop} {n : Nat} (r : RM M n A) (k : MR 60 Q sc fd M n (s_254 n A)) : a_Ex 254 0 [some (.ref 170)] [] (a_hp sc fd M) Q := by
  unfold s_254 at k
  have n5 := r.n5
  have n2 := r.n2
  refine x_aload_n i_254_0 rfl ?_
  refine n_iconst 0 i_254_1 rfl ?_
  refine n_pM i_254_2 r pf_8_0 (by omega) (fun M1 r1 f1 => ?_)
  refine x_aload_n i_254_5 rfl ?_
  refine x_gr i_254_6 ob_170 gr_8_1.1 gr_8_1.2 (rt_170_1 _) ?_
  refine n_bipush 35 i_254_9 rfl ?_
  refine n_ld (x := A 7 0) i_254_11 ar_171 (by omega) (by omega) r1.f35 ?_
  have q2 : A 7 0 ≤ 60 := r1.w.2.2.2.1
  refine x_iret i_254_12 rn_254 rfl ?_
  exact k (show A 7 0 ≤ 60 by omega) _ r1 f1
