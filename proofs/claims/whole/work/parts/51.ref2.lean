/-! the methods of the reference as functions, by program -/
def s_171_15 (n : Nat) : Nat → HA → Nat → Nat → Nat → HA
  | 0, A, _, _, _ => A
  | d + 1, A, l1, l2, l3 => (if n ≤ l3 then (if l1 = 0 then ((a_up A 6 2 3)) else A) else (if ((l2 >>> l3) &&& 1) = 1 then (s_171_15 n d (a_up A 5 l3 ((A 5 l3) &&& ((1 <<< l1) ^^^ 4294967295))) l1 l2 (l3 + 1)) else (s_171_15 n d A l1 l2 (l3 + 1))))
theorem c_171_15 {sc : a_Sc} {fd : Nat} {Q : Option Value → a_Hp → Prop} {n : Nat} : ∀ (d : Nat) {M : a_Mm} {A : HA} {l1 l2 l3 : Nat} (r : RM M n A) (hl1 : l1 ≤ 4) (hl2 : l2 ≤ 31) (hl3 : l3 ≤ 5) (i0 : l1 < n) (i1 : l3 ≤ n) (hm : n - l3 < d) (k : MV Q sc fd M n (s_171_15 n d A l1 l2 l3)), a_Ex 171 15 [some (.ref 170), some (.int (N l1)), some (.int (N l2)), some (.int (N l3))] [] (a_hp sc fd M) Q := by
  intro d
  induction d with
  | zero => intro M A l1 l2 l3 r hl1 hl2 hl3 i0 i1 hm k; exact absurd hm (Nat.not_lt_zero _)
  | succ d ih =>
      intro M A l1 l2 l3 r hl1 hl2 hl3 i0 i1 hm k
      unfold s_171_15 at k
      have n5 := r.n5
      have n2 := r.n2
      refine x_iload_n i_171_15 rfl ?_
      refine x_aload_n i_171_16 rfl ?_
      refine x_gr i_171_17 ob_170 gr_8_1.1 gr_8_1.2 (rt_170_1 _) ?_
      refine n_iconst 0 i_171_20 rfl ?_
      refine n_ld (x := n) i_171_21 ar_171 (by omega) (by omega) r.nn ?_
      refine x_igeN (by omega) (by omega) i_171_22 ⟨fun g1 => ?_, fun g1 => ?_⟩
      · have k := kp g1 k
        refine x_iload_n i_171_57 rfl ?_
        refine x_zneN (by omega) i_171_58 ⟨fun g2 => ?_, fun g2 => ?_⟩
        · have k := kn g2 k
          refine x_vret i_171_68 rn_171 ?_
          exact k _ r (FM.refl _)
        · have k := kp g2 k
          refine x_aload_n i_171_61 rfl ?_
          refine x_gr i_171_62 ob_170 gr_8_1.1 gr_8_1.2 (rt_170_1 _) ?_
          refine n_iconst 2 i_171_65 rfl ?_
          refine n_iconst 3 i_171_66 rfl ?_
          refine n_stM i_171_67 r 2 (by omega) rfl (by unfold okf; omega) (fun M3 r3 f3 => ?_)
          refine x_vret i_171_68 rn_171 ?_
          exact k _ r3 f3
      · have k := kn g1 k
        refine x_iload_n i_171_25 rfl ?_
        refine x_iload_n i_171_26 rfl ?_
        refine x_sh (r := []) (lj := [some _, some _]) i_171_27 ws_161 [_, _] rfl rfl (Nat.le_of_ble_eq_true rfl) (Nat.le_of_ble_eq_true rfl) rfl ?_
        refine x_iload_n i_161_0 rfl ?_
        refine x_iload_n i_161_1 rfl ?_
        refine x_ishrN (by omega) (by omega) i_161_2 ?_
        refine n_iconst 1 i_161_3 rfl ?_
        refine x_iandN i_161_4 ?_
        refine n_iconst 1 i_161_5 rfl ?_
        have q4 : l2 >>> l3 ≤ l2 := shr_le _ _
        have q5 : (l2 >>> l3) &&& 1 ≤ 1 := Nat.le_trans Nat.and_le_right (by omega)
        have q6 : (l2 >>> l3) &&& 1 ≤ (l2 >>> l3) := Nat.and_le_left
        refine x_ineN (by omega) (by omega) i_161_6 ⟨fun g7 => ?_, fun g7 => ?_⟩
        · have k := kn g7 k
          refine n_iconst 0 i_161_13 rfl ?_
          refine x_iretI i_161_14 rn_161 (by decide +kernel) ?_
          refine x_ifT i_171_30 (by decide +kernel) ?_
          refine n_iinc 1 i_171_51 rfl rfl rfl rfl ?_
          refine x_goto i_171_54 ?_
          exact ih r (by omega) (by omega) (by omega) (by omega) (by omega) (by omega) k
        · have k := kp g7 k
          refine n_iconst 1 i_161_9 rfl ?_
          refine x_goto i_161_10 ?_
          refine x_iretI i_161_14 rn_161 (by decide +kernel) ?_
          refine x_ifF i_171_30 (by decide +kernel) ?_
          refine x_aload_n i_171_33 rfl ?_
          refine x_iload_n i_171_34 rfl ?_
          refine n_iconst 5 i_171_35 rfl ?_
          refine x_aload_n i_171_36 rfl ?_
          refine x_iload_n i_171_37 rfl ?_
          refine n_iconst 5 i_171_38 rfl ?_
          refine n_atx (A 5 l3) i_171_39 r 5 (by omega) (by omega) (Nat.le_of_ble_eq_true rfl) rfl ?_
          refine n_iconst 1 i_171_42 rfl ?_
          refine x_iload_n i_171_43 rfl ?_
          refine x_ishlN (by omega) i_171_44 ?_
          refine n_iconst 4294967295 i_171_45 rfl ?_
          refine x_ixorN i_171_46 ?_
          refine x_iandN i_171_47 ?_
          have q8 : A 5 l3 ≤ 31 := r.w.b5 (by omega)
          have q9 : 1 <<< l1 ≤ 16 := shl_le 4 (by omega)
          have q10 : (A 5 l3) &&& ((1 <<< l1) ^^^ 4294967295) ≤ 31 := Nat.le_trans Nat.and_le_left (by omega)
          have q11 : (A 5 l3) &&& ((1 <<< l1) ^^^ 4294967295) ≤ (A 5 l3) := Nat.and_le_left
          refine n_lays i_171_48 r 5 (by omega) (by omega) (show (A 5 l3) &&& ((1 <<< l1) ^^^ 4294967295) < 32 by omega) (Nat.le_of_ble_eq_true rfl) (fun M12 r12 f12 => ?_)
          refine n_iinc 1 i_171_51 rfl rfl rfl rfl ?_
          refine x_goto i_171_54 ?_
          exact ih r12 (by omega) (by omega) (by omega) (by omega) (by omega) (by omega) (k.tr f12)
def s_171 (n : Nat) (A : HA) (l1 : Nat) : HA :=
  (s_171_15 n (6) (a_up A 1 l1 0) l1 (s_172 n ((a_up A 1 l1 0)) l1) 0)
theorem c_171 {sc : a_Sc} {fd : Nat} {M : a_Mm} {A : HA} {Q : Option Value → a_Hp → Prop} {n : Nat} (r : RM M n A) {l1 : Nat} (hl1 : l1 ≤ 4) (i0 : l1 < n) (k : MV Q sc fd M n (s_171 n A l1)) : a_Ex 171 0 [some (.ref 170), some (.int (N l1)), none, none] [] (a_hp sc fd M) Q := by
  unfold s_171 at k
  have n5 := r.n5
  have n2 := r.n2
  refine x_aload_n i_171_0 rfl ?_
  refine x_iload_n i_171_1 rfl ?_
  refine n_iconst 1 i_171_2 rfl ?_
  refine n_iconst 0 i_171_3 rfl ?_
  refine n_lays i_171_4 r 1 (by omega) (by omega) (show 0 < 3 by omega) (Nat.le_of_ble_eq_true rfl) (fun M1 r1 f1 => ?_)
  refine x_aload_n i_171_7 rfl ?_
  refine x_iload_n i_171_8 rfl ?_
  refine x_vh (r := []) (lj := [some _, some _]) i_171_9 w_172 ob_170 [_] rfl rfl (Nat.le_of_ble_eq_true rfl) (Nat.le_of_ble_eq_true rfl) rfl ?_
  refine c_172 r1 (by omega) (by omega) (fun q2 => rt_i ?_)
  have m172a := s172_ne n ((a_up A 1 l1 0)) l1 n5
  have m172b := s172_lt n ((a_up A 1 l1 0)) l1 n5
  refine x_istore_n i_171_12 rfl rfl ?_
  refine n_iconst 0 i_171_13 rfl ?_
  refine x_istore_n i_171_14 rfl rfl ?_
  exact c_171_15 (6) r1 (by omega) (by omega) (by omega) (by omega) (by omega) (by omega) (k.tr f1)
def s_195_15 (n : Nat) : Nat → HA → Nat → Nat → Nat → HA
  | 0, A, _, _, _ => A
  | d + 1, A, l1, l2, l3 => (if n ≤ l3 then ((a_up A 5 l1 l2)) else (if ((l2 >>> l3) &&& 1) = 1 then (s_195_15 n d (a_up A 5 l3 ((A 5 l3) ||| (1 <<< l1))) l1 l2 (l3 + 1)) else (s_195_15 n d A l1 l2 (l3 + 1))))
theorem c_195_15 {sc : a_Sc} {fd : Nat} {Q : Option Value → a_Hp → Prop} {n : Nat} : ∀ (d : Nat) {M : a_Mm} {A : HA} {l1 l2 l3 : Nat} (r : RM M n A) (hl1 : l1 ≤ 4) (hl2 : l2 ≤ 31) (hl3 : l3 ≤ 5) (i0 : l1 < n) (i1 : l3 ≤ n) (hm : n - l3 < d) (k : MV Q sc fd M n (s_195_15 n d A l1 l2 l3)), a_Ex 195 15 [some (.ref 170), some (.int (N l1)), some (.int (N l2)), some (.int (N l3))] [] (a_hp sc fd M) Q := by
  intro d
  induction d with
  | zero => intro M A l1 l2 l3 r hl1 hl2 hl3 i0 i1 hm k; exact absurd hm (Nat.not_lt_zero _)
  | succ d ih =>
      intro M A l1 l2 l3 r hl1 hl2 hl3 i0 i1 hm k
      unfold s_195_15 at k
      have n5 := r.n5
      have n2 := r.n2
      refine x_iload_n i_195_15 rfl ?_
      refine x_aload_n i_195_16 rfl ?_
      refine x_gr i_195_17 ob_170 gr_8_1.1 gr_8_1.2 (rt_170_1 _) ?_
      refine n_iconst 0 i_195_20 rfl ?_
      refine n_ld (x := n) i_195_21 ar_171 (by omega) (by omega) r.nn ?_
      refine x_igeN (by omega) (by omega) i_195_22 ⟨fun g1 => ?_, fun g1 => ?_⟩
      · have k := kp g1 k
        refine x_aload_n i_195_55 rfl ?_
        refine x_iload_n i_195_56 rfl ?_
        refine n_iconst 5 i_195_57 rfl ?_
        refine x_iload_n i_195_58 rfl ?_
        refine n_lays i_195_59 r 5 (by omega) (by omega) (show l2 < 32 by omega) (Nat.le_of_ble_eq_true rfl) (fun M2 r2 f2 => ?_)
        refine x_vret i_195_62 rn_195 ?_
        exact k _ r2 f2
      · have k := kn g1 k
        refine x_iload_n i_195_25 rfl ?_
        refine x_iload_n i_195_26 rfl ?_
        refine x_sh (r := []) (lj := [some _, some _]) i_195_27 ws_161 [_, _] rfl rfl (Nat.le_of_ble_eq_true rfl) (Nat.le_of_ble_eq_true rfl) rfl ?_
        refine x_iload_n i_161_0 rfl ?_
        refine x_iload_n i_161_1 rfl ?_
        refine x_ishrN (by omega) (by omega) i_161_2 ?_
        refine n_iconst 1 i_161_3 rfl ?_
        refine x_iandN i_161_4 ?_
        refine n_iconst 1 i_161_5 rfl ?_
        have q3 : l2 >>> l3 ≤ l2 := shr_le _ _
        have q4 : (l2 >>> l3) &&& 1 ≤ 1 := Nat.le_trans Nat.and_le_right (by omega)
        have q5 : (l2 >>> l3) &&& 1 ≤ (l2 >>> l3) := Nat.and_le_left
        refine x_ineN (by omega) (by omega) i_161_6 ⟨fun g6 => ?_, fun g6 => ?_⟩
        · have k := kn g6 k
          refine n_iconst 0 i_161_13 rfl ?_
          refine x_iretI i_161_14 rn_161 (by decide +kernel) ?_
          refine x_ifT i_195_30 (by decide +kernel) ?_
          refine n_iinc 1 i_195_49 rfl rfl rfl rfl ?_
          refine x_goto i_195_52 ?_
          exact ih r (by omega) (by omega) (by omega) (by omega) (by omega) (by omega) k
        · have k := kp g6 k
          refine n_iconst 1 i_161_9 rfl ?_
          refine x_goto i_161_10 ?_
          refine x_iretI i_161_14 rn_161 (by decide +kernel) ?_
          refine x_ifF i_195_30 (by decide +kernel) ?_
          refine x_aload_n i_195_33 rfl ?_
          refine x_iload_n i_195_34 rfl ?_
          refine n_iconst 5 i_195_35 rfl ?_
          refine x_aload_n i_195_36 rfl ?_
          refine x_iload_n i_195_37 rfl ?_
          refine n_iconst 5 i_195_38 rfl ?_
          refine n_atx (A 5 l3) i_195_39 r 5 (by omega) (by omega) (Nat.le_of_ble_eq_true rfl) rfl ?_
          refine n_iconst 1 i_195_42 rfl ?_
          refine x_iload_n i_195_43 rfl ?_
          refine x_ishlN (by omega) i_195_44 ?_
          refine x_iorN i_195_45 ?_
          have q7 : A 5 l3 ≤ 31 := r.w.b5 (by omega)
          have q8 : 1 <<< l1 ≤ 16 := shl_le 4 (by omega)
          have q9 : (A 5 l3) ||| (1 <<< l1) ≤ 31 := or_le 5 (by omega) (by omega)
          refine n_lays i_195_46 r 5 (by omega) (by omega) (show (A 5 l3) ||| (1 <<< l1) < 32 by omega) (Nat.le_of_ble_eq_true rfl) (fun M10 r10 f10 => ?_)
          refine n_iinc 1 i_195_49 rfl rfl rfl rfl ?_
          refine x_goto i_195_52 ?_
          exact ih r10 (by omega) (by omega) (by omega) (by omega) (by omega) (by omega) (k.tr f10)
def s_195 (n : Nat) (A : HA) (l1 : Nat) : HA :=
  (s_195_15 n (6) (a_up A 1 l1 1) l1 (s_172 n ((a_up A 1 l1 1)) l1) 0)
theorem c_195 {sc : a_Sc} {fd : Nat} {M : a_Mm} {A : HA} {Q : Option Value → a_Hp → Prop} {n : Nat} (r : RM M n A) {l1 : Nat} (hl1 : l1 ≤ 4) (i0 : l1 < n) (k : MV Q sc fd M n (s_195 n A l1)) : a_Ex 195 0 [some (.ref 170), some (.int (N l1)), none, none] [] (a_hp sc fd M) Q := by
  unfold s_195 at k
  have n5 := r.n5
  have n2 := r.n2
  refine x_aload_n i_195_0 rfl ?_
  refine x_iload_n i_195_1 rfl ?_
  refine n_iconst 1 i_195_2 rfl ?_
  refine n_iconst 1 i_195_3 rfl ?_
  refine n_lays i_195_4 r 1 (by omega) (by omega) (show 1 < 3 by omega) (Nat.le_of_ble_eq_true rfl) (fun M1 r1 f1 => ?_)
  refine x_aload_n i_195_7 rfl ?_
  refine x_iload_n i_195_8 rfl ?_
  refine x_vh (r := []) (lj := [some _, some _]) i_195_9 w_172 ob_170 [_] rfl rfl (Nat.le_of_ble_eq_true rfl) (Nat.le_of_ble_eq_true rfl) rfl ?_
  refine c_172 r1 (by omega) (by omega) (fun q2 => rt_i ?_)
  have m172a := s172_ne n ((a_up A 1 l1 1)) l1 n5
  have m172b := s172_lt n ((a_up A 1 l1 1)) l1 n5
  refine x_istore_n i_195_12 rfl rfl ?_
  refine n_iconst 0 i_195_13 rfl ?_
  refine x_istore_n i_195_14 rfl rfl ?_
  exact c_195_15 (6) r1 (by omega) (by omega) (by omega) (by omega) (by omega) (by omega) (k.tr f1)
def s_166 (n : Nat) (A : HA) (l1 : Nat) : HA :=
  (if l1 = 4294967295 then ((a_up (a_up (a_up A 9 7 0) 9 8 1048576) 9 9 0)) else ((a_up (a_up (a_up A 9 7 0) 9 8 l1) 9 9 0)))
theorem c_166 {sc : a_Sc} {fd : Nat} {M : a_Mm} {A : HA} {Q : Option Value → a_Hp → Prop} {n : Nat} (r : RM M n A) {l1 : Nat} (hl1 : l1 ≤ 4294967295) (k : MV Q sc fd M n (s_166 n A l1)) : a_Ex 166 0 [some (.ref 170), some (.int (N l1))] [] (a_hp sc fd M) Q := by
  unfold s_166 at k
  have n5 := r.n5
  have n2 := r.n2
  refine x_aload_n i_166_0 rfl ?_
  refine n_iconst 0 i_166_1 rfl ?_
  refine n_pM i_166_2 r pf_8_7 (by omega) (fun M1 r1 f1 => ?_)
  refine x_aload_n i_166_5 rfl ?_
  refine x_iload_n i_166_6 rfl ?_
  refine n_iconst 4294967295 i_166_7 rfl ?_
  refine n_ineU (by omega) (by omega) i_166_8 ⟨fun g2 => ?_, fun g2 => ?_⟩
  · have k := kn g2 k
    refine x_iload_n i_166_16 rfl ?_
    refine n_pM i_166_17 r1 pf_8_8 (by omega) (fun M3 r3 f3 => ?_)
    refine x_aload_n i_166_20 rfl ?_
    refine n_iconst 0 i_166_21 rfl ?_
    refine n_pMz i_166_22 r3 pf_8_9 (by omega) (Or.inl rfl) (fun M4 r4 f4 => ?_)
    refine x_vret i_166_25 rn_166 ?_
    exact k _ r4 ((f1.trans f3).trans f4)
  · have k := kp g2 k
    refine n_ldc 1048576 i_166_11 rfl ?_
    refine x_goto i_166_13 ?_
    refine n_pM i_166_17 r1 pf_8_8 (by omega) (fun M5 r5 f5 => ?_)
    refine x_aload_n i_166_20 rfl ?_
    refine n_iconst 0 i_166_21 rfl ?_
    refine n_pMz i_166_22 r5 pf_8_9 (by omega) (Or.inl rfl) (fun M6 r6 f6 => ?_)
    refine x_vret i_166_25 rn_166 ?_
    exact k _ r6 ((f1.trans f5).trans f6)
