/-! the methods of the reference as functions, by program -/
def s_170 (n : Nat) (A : HA) (l1 : Nat) : HA :=
  (if N (A 9 9) = 0 then (if N (A 9 7) = N (A 9 8) then ((s_171 n ((a_up A 9 9 1)) l1)) else A) else A)
theorem c_170 {sc : a_Sc} {fd : Nat} {M : a_Mm} {A : HA} {Q : Option Value → a_Hp → Prop} {n : Nat} (r : RM M n A) {l1 : Nat} (hl1 : l1 ≤ 4) (i0 : l1 < n) (k : MV Q sc fd M n (s_170 n A l1)) : a_Ex 170 0 [some (.ref 170), some (.int (N l1))] [] (a_hp sc fd M) Q := by
  unfold s_170 at k
  have n5 := r.n5
  have n2 := r.n2
  refine x_aload_n i_170_0 rfl ?_
  refine n_gi (x := A 9 9) i_170_1 ob_170 gf_8_9.1 gf_8_9.2 (r.g (by omega)) ?_
  refine x_zne i_170_4 ⟨fun g1 => ?_, fun g1 => ?_⟩
  · have k := kn g1 k
    refine x_vret i_170_18 rn_170 ?_
    exact k _ r (FM.refl _)
  · have k := kp g1 k
    refine x_aload_n i_170_7 rfl ?_
    refine n_gi (x := A 9 7) i_170_8 ob_170 gf_8_7.1 gf_8_7.2 (r.g (by omega)) ?_
    refine x_aload_n i_170_11 rfl ?_
    refine n_gi (x := A 9 8) i_170_12 ob_170 gf_8_8.1 gf_8_8.2 (r.g (by omega)) ?_
    refine x_ieq i_170_15 ⟨fun g2 => ?_, fun g2 => ?_⟩
    · have k := kp g2 k
      refine x_aload_n i_170_19 rfl ?_
      refine n_iconst 1 i_170_20 rfl ?_
      refine n_pMz i_170_21 r pf_8_9 (by omega) (Or.inr rfl) (fun M3 r3 f3 => ?_)
      refine x_aload_n i_170_24 rfl ?_
      refine x_iload_n i_170_25 rfl ?_
      refine x_vh (r := []) (lj := [some _, some _, none, none]) i_170_26 w_171 ob_170 [_] rfl rfl (Nat.le_of_ble_eq_true rfl) (Nat.le_of_ble_eq_true rfl) rfl ?_
      refine c_171 r3 (by omega) (by omega) (fun M4 r4 f4 => rt_n ?_)
      refine x_vret i_170_29 rn_170 ?_
      exact k _ r4 (f3.trans f4)
    · have k := kn g2 k
      refine x_vret i_170_18 rn_170 ?_
      exact k _ r (FM.refl _)
def s_169 (n : Nat) (A : HA) (l1 : Nat) (l2 : Nat) : Nat × HA :=
  (if N (((s_170 n A l1)) 9 9) = 0 then (if (((s_170 n A l1)) 1 l2) = 1 then (if (((s_170 n A l1)) 2 l2) = (((s_170 n A l1)) 2 l1) then (1, (a_up (s_170 n A l1) 9 7 ((((s_170 n A l1)) 9 7) + 1))) else (0, (a_up (s_170 n A l1) 9 7 ((((s_170 n A l1)) 9 7) + 1)))) else (0, (a_up (s_170 n A l1) 9 7 ((((s_170 n A l1)) 9 7) + 1)))) else (0, (s_170 n A l1)))
theorem c_169 {sc : a_Sc} {fd : Nat} {M : a_Mm} {A : HA} {Q : Option Value → a_Hp → Prop} {n : Nat} (r : RM M n A) {l1 l2 : Nat} (hl1 : l1 ≤ 4) (hl2 : l2 ≤ 4) (i0 : l1 < n) (i1 : l2 < n) (k : MR 1 Q sc fd M n (s_169 n A l1 l2)) : a_Ex 169 0 [some (.ref 170), some (.int (N l1)), some (.int (N l2))] [] (a_hp sc fd M) Q := by
  unfold s_169 at k
  have n5 := r.n5
  have n2 := r.n2
  refine x_aload_n i_169_0 rfl ?_
  refine x_iload_n i_169_1 rfl ?_
  refine x_vh (r := []) (lj := [some _, some _]) i_169_2 w_170 ob_170 [_] rfl rfl (Nat.le_of_ble_eq_true rfl) (Nat.le_of_ble_eq_true rfl) rfl ?_
  refine c_170 r (by omega) (by omega) (fun M1 r1 f1 => rt_n ?_)
  refine x_aload_n i_169_5 rfl ?_
  refine n_gi (x := ((s_170 n A l1)) 9 9) i_169_6 ob_170 gf_8_9.1 gf_8_9.2 (r1.g (by omega)) ?_
  refine x_zeq i_169_9 ⟨fun g2 => ?_, fun g2 => ?_⟩
  · have k := kp g2 k
    refine x_aload_n i_169_14 rfl ?_
    refine x_dup i_169_15 rfl ?_
    refine n_gi (x := ((s_170 n A l1)) 9 7) i_169_16 ob_170 gf_8_7.1 gf_8_7.2 (r1.g (by omega)) ?_
    refine n_iconst 1 i_169_19 rfl ?_
    refine x_iaddN i_169_20 ?_
    refine n_pM i_169_21 r1 pf_8_7 (by omega) (fun M3 r3 f3 => ?_)
    refine x_aload_n i_169_24 rfl ?_
    refine x_iload_n i_169_25 rfl ?_
    refine n_iconst 1 i_169_26 rfl ?_
    refine n_atx (((s_170 n A l1)) 1 l2) i_169_27 r3 1 (by omega) (by omega) (Nat.le_of_ble_eq_true rfl) rfl ?_
    refine n_iconst 1 i_169_30 rfl ?_
    have q4 : ((s_170 n A l1)) 1 l2 ≤ 2 := r3.w.b1 (by omega)
    refine x_ineN (by omega) (by omega) i_169_31 ⟨fun g5 => ?_, fun g5 => ?_⟩
    · have k := kn g5 k
      refine n_iconst 0 i_169_53 rfl ?_
      refine x_iret i_169_54 rn_169 (by decide +kernel) ?_
      exact k (show 0 ≤ 1 by omega) _ r3 (f1.trans f3)
    · have k := kp g5 k
      refine x_aload_n i_169_34 rfl ?_
      refine x_iload_n i_169_35 rfl ?_
      refine n_iconst 2 i_169_36 rfl ?_
      refine n_atx (((s_170 n A l1)) 2 l2) i_169_37 r3 2 (by omega) (by omega) (Nat.le_of_ble_eq_true rfl) rfl ?_
      refine x_aload_n i_169_40 rfl ?_
      refine x_iload_n i_169_41 rfl ?_
      refine n_iconst 2 i_169_42 rfl ?_
      refine n_atx (((s_170 n A l1)) 2 l1) i_169_43 r3 2 (by omega) (by omega) (Nat.le_of_ble_eq_true rfl) rfl ?_
      have q6 : ((s_170 n A l1)) 2 l2 ≤ 4 := r3.w.b2 (by omega)
      have q7 : ((s_170 n A l1)) 2 l1 ≤ 4 := r3.w.b2 (by omega)
      refine x_ineN (by omega) (by omega) i_169_46 ⟨fun g8 => ?_, fun g8 => ?_⟩
      · have k := kn g8 k
        refine n_iconst 0 i_169_53 rfl ?_
        refine x_iret i_169_54 rn_169 (by decide +kernel) ?_
        exact k (show 0 ≤ 1 by omega) _ r3 (f1.trans f3)
      · have k := kp g8 k
        refine n_iconst 1 i_169_49 rfl ?_
        refine x_goto i_169_50 ?_
        refine x_iret i_169_54 rn_169 (by decide +kernel) ?_
        exact k (show 1 ≤ 1 by omega) _ r3 (f1.trans f3)
  · have k := kn g2 k
    refine n_iconst 0 i_169_12 rfl ?_
    refine x_iret i_169_13 rn_169 (by decide +kernel) ?_
    exact k (show 0 ≤ 1 by omega) _ r1 f1
def s_167_8 (n : Nat) : Nat → HA → Nat → HA
  | 0, A, _ => A
  | d + 1, A, l1 => (if n ≤ l1 then ((a_up (s_170 n A 0) 6 2 3)) else (if ((s_169 n A 0 l1).1) = 0 then (s_167_8 n d (s_169 n A 0 l1).2 (l1 + 1)) else (if (s_173 n ((s_169 n A 0 l1).2) (1 <<< l1)) = 0 then (s_167_8 n d (bec ((s_169 n A 0 l1).2) l1 5) (l1 + 1)) else (s_167_8 n d (s_169 n A 0 l1).2 (l1 + 1)))))
theorem c_167_8 {sc : a_Sc} {fd : Nat} {Q : Option Value → a_Hp → Prop} {n : Nat} : ∀ (d : Nat) {M : a_Mm} {A : HA} {l1 : Nat} (r : RM M n A) (hl1 : l1 ≤ 5) (i0 : 1 ≤ l1) (i1 : l1 ≤ n) (hm : n - l1 < d) (k : MV Q sc fd M n (s_167_8 n d A l1)), a_Ex 167 8 [some (.ref 170), some (.int (N l1))] [] (a_hp sc fd M) Q := by
  intro d
  induction d with
  | zero => intro M A l1 r hl1 i0 i1 hm k; exact absurd hm (Nat.not_lt_zero _)
  | succ d ih =>
      intro M A l1 r hl1 i0 i1 hm k
      unfold s_167_8 at k
      have n5 := r.n5
      have n2 := r.n2
      refine x_iload_n i_167_8 rfl ?_
      refine x_aload_n i_167_9 rfl ?_
      refine x_gr i_167_10 ob_170 gr_8_1.1 gr_8_1.2 (rt_170_1 _) ?_
      refine n_iconst 0 i_167_13 rfl ?_
      refine n_ld (x := n) i_167_14 ar_171 (by omega) (by omega) r.nn ?_
      refine x_igeN (by omega) (by omega) i_167_15 ⟨fun g1 => ?_, fun g1 => ?_⟩
      · have k := kp g1 k
        refine x_aload_n i_167_49 rfl ?_
        refine n_iconst 0 i_167_50 rfl ?_
        refine x_vh (r := []) (lj := [some _, some _]) i_167_51 w_170 ob_170 [_] rfl rfl (Nat.le_of_ble_eq_true rfl) (Nat.le_of_ble_eq_true rfl) rfl ?_
        refine c_170 r (by omega) (by omega) (fun M2 r2 f2 => rt_n ?_)
        refine x_aload_n i_167_54 rfl ?_
        refine x_gr i_167_55 ob_170 gr_8_1.1 gr_8_1.2 (rt_170_1 _) ?_
        refine n_iconst 2 i_167_58 rfl ?_
        refine n_iconst 3 i_167_59 rfl ?_
        refine n_stM i_167_60 r2 2 (by omega) rfl (by unfold okf; omega) (fun M3 r3 f3 => ?_)
        refine x_vret i_167_61 rn_167 ?_
        exact k _ r3 (f2.trans f3)
      · have k := kn g1 k
        refine x_aload_n i_167_18 rfl ?_
        refine n_iconst 0 i_167_19 rfl ?_
        refine x_iload_n i_167_20 rfl ?_
        refine x_vh (r := []) (lj := [some _, some _, some _]) i_167_21 w_169 ob_170 [_, _] rfl rfl (Nat.le_of_ble_eq_true rfl) (Nat.le_of_ble_eq_true rfl) rfl ?_
        refine c_169 r (by omega) (by omega) (by omega) (by omega) (fun q4 M4 r4 f4 => rt_i ?_)
        refine x_zeqN (by omega) i_167_24 ⟨fun g5 => ?_, fun g5 => ?_⟩
        · have k := kp g5 k
          refine n_iinc 1 i_167_43 rfl rfl rfl rfl ?_
          refine x_goto i_167_46 ?_
          exact ih r4 (by omega) (by omega) (by omega) (by omega) (k.tr f4)
        · have k := kn g5 k
          refine x_aload_n i_167_27 rfl ?_
          refine n_iconst 1 i_167_28 rfl ?_
          refine x_iload_n i_167_29 rfl ?_
          refine x_ishlN (by omega) i_167_30 ?_
          have q6 : 1 <<< l1 ≤ 16 := shl_le 4 (by omega)
          refine x_vh (r := []) (lj := [some _, some _]) i_167_31 w_173 ob_170 [_] rfl rfl (Nat.le_of_ble_eq_true rfl) (Nat.le_of_ble_eq_true rfl) rfl ?_
          refine c_173 r4 (by omega)  (fun q7 => rt_i ?_)
          refine x_zneN (by omega) i_167_34 ⟨fun g8 => ?_, fun g8 => ?_⟩
          · have k := kn g8 k
            refine n_iinc 1 i_167_43 rfl rfl rfl rfl ?_
            refine x_goto i_167_46 ?_
            exact ih r4 (by omega) (by omega) (by omega) (by omega) (k.tr f4)
          · have k := kp g8 k
            refine x_aload_n i_167_37 rfl ?_
            refine x_iload_n i_167_38 rfl ?_
            refine n_iconst 5 i_167_39 rfl ?_
            refine x_vh (r := []) (lj := [some _, some _, some _, none]) i_167_40 w_168 ob_170 [_, _] rfl rfl (Nat.le_of_ble_eq_true rfl) (Nat.le_of_ble_eq_true rfl) rfl ?_
            refine c_168 r4 (by omega) (by omega) (by omega) (fun M9 r9 f9 => rt_n ?_)
            refine n_iinc 1 i_167_43 rfl rfl rfl rfl ?_
            refine x_goto i_167_46 ?_
            exact ih r9 (by omega) (by omega) (by omega) (by omega) (k.tr (f4.trans f9))
def s_167 (n : Nat) (A : HA) : HA :=
  (s_167_8 n (6) (bec A 0 5) 1)
theorem c_167 {sc : a_Sc} {fd : Nat} {M : a_Mm} {A : HA} {Q : Option Value → a_Hp → Prop} {n : Nat} (r : RM M n A) (k : MV Q sc fd M n (s_167 n A)) : a_Ex 167 0 [some (.ref 170), none] [] (a_hp sc fd M) Q := by
  unfold s_167 at k
  have n5 := r.n5
  have n2 := r.n2
  refine x_aload_n i_167_0 rfl ?_
  refine n_iconst 0 i_167_1 rfl ?_
  refine n_iconst 5 i_167_2 rfl ?_
  refine x_vh (r := []) (lj := [some _, some _, some _, none]) i_167_3 w_168 ob_170 [_, _] rfl rfl (Nat.le_of_ble_eq_true rfl) (Nat.le_of_ble_eq_true rfl) rfl ?_
  refine c_168 r (by omega) (by omega) (by omega) (fun M1 r1 f1 => rt_n ?_)
  refine n_iconst 1 i_167_6 rfl ?_
  refine x_istore_n i_167_7 rfl rfl ?_
  exact c_167_8 (6) r1 (by omega) (by omega) (by omega) (by omega) (k.tr f1)
def s_164_76 (n : Nat) : Nat → HA → Nat → Nat → Nat × HA
  | 0, A, _, _ => (0, A)
  | d + 1, A, l2, l3 => (if n ≤ l3 then (if N (((s_170 n A 0)) 9 9) = 0 then (if l2 = (ev n) then (1, (a_up (s_170 n A 0) 6 2 1)) else ((s_167 n ((s_170 n A 0))) 6 2, s_167 n ((s_170 n A 0)))) else (((s_170 n A 0)) 6 2, (s_170 n A 0))) else (if ((s_169 n A 0 l3).1) = 0 then (s_164_76 n d (s_169 n A 0 l3).2 l2 (l3 + 1)) else (if (((s_169 n A 0 l3).2) 0 l3) = 0 then (if (((s_169 n A 0 l3).2) 3 l3) = 1 then (if (((bec ((s_169 n A 0 l3).2) l3 1)) 0 l3) = 1 then (s_164_76 n d (bec ((s_169 n A 0 l3).2) l3 1) (l2 ||| (1 <<< l3)) (l3 + 1)) else (s_164_76 n d (bec ((s_169 n A 0 l3).2) l3 1) (l2 ||| 0) (l3 + 1))) else (if (((bec ((s_169 n A 0 l3).2) l3 5)) 0 l3) = 1 then (s_164_76 n d (bec ((s_169 n A 0 l3).2) l3 5) (l2 ||| (1 <<< l3)) (l3 + 1)) else (s_164_76 n d (bec ((s_169 n A 0 l3).2) l3 5) (l2 ||| 0) (l3 + 1)))) else (s_164_76 n d (s_169 n A 0 l3).2 l2 (l3 + 1)))))
theorem c_164_76 {sc : a_Sc} {fd : Nat} {Q : Option Value → a_Hp → Prop} {n : Nat} : ∀ (d : Nat) {M : a_Mm} {A : HA} {l2 l3 : Nat} (r : RM M n A) (hl2 : l2 ≤ 31) (hl3 : l3 ≤ 5) (i0 : 1 ≤ l3) (i1 : l3 ≤ n) (hm : n - l3 < d) (k : MR 4294967295 Q sc fd M n (s_164_76 n d A l2 l3)), a_Ex 164 76 [some (.ref 170), none, some (.int (N l2)), some (.int (N l3))] [] (a_hp sc fd M) Q := by
  intro d
  induction d with
  | zero => intro M A l2 l3 r hl2 hl3 i0 i1 hm k; exact absurd hm (Nat.not_lt_zero _)
  | succ d ih =>
      intro M A l2 l3 r hl2 hl3 i0 i1 hm k
      unfold s_164_76 at k
      have n5 := r.n5
      have n2 := r.n2
      refine x_iload_n i_164_76 rfl ?_
      refine x_aload_n i_164_77 rfl ?_
      refine x_gr i_164_78 ob_170 gr_8_1.1 gr_8_1.2 (rt_170_1 _) ?_
      refine n_iconst 0 i_164_81 rfl ?_
      refine n_ld (x := n) i_164_82 ar_171 (by omega) (by omega) r.nn ?_
      refine x_igeN (by omega) (by omega) i_164_83 ⟨fun g1 => ?_, fun g1 => ?_⟩
      · have k := kp g1 k
        refine x_aload_n i_164_153 rfl ?_
        refine n_iconst 0 i_164_154 rfl ?_
        refine x_vh (r := []) (lj := [some _, some _]) i_164_155 w_170 ob_170 [_] rfl rfl (Nat.le_of_ble_eq_true rfl) (Nat.le_of_ble_eq_true rfl) rfl ?_
        refine c_170 r (by omega) (by omega) (fun M2 r2 f2 => rt_n ?_)
        refine x_aload_n i_164_158 rfl ?_
        refine n_gi (x := ((s_170 n A 0)) 9 9) i_164_159 ob_170 gf_8_9.1 gf_8_9.2 (r2.g (by omega)) ?_
        refine x_zeq i_164_162 ⟨fun g3 => ?_, fun g3 => ?_⟩
        · have k := kp g3 k
          refine x_iload_n i_164_172 rfl ?_
          refine x_aload_n i_164_173 rfl ?_
          refine x_vh (r := [_]) (lj := [some _]) i_164_174 w_159 ob_170 [] rfl rfl (Nat.le_of_ble_eq_true rfl) (Nat.le_of_ble_eq_true rfl) rfl ?_
          refine c_159 r2   (fun q4 => rt_i ?_)
          refine x_ineN (by omega) (by omega) i_164_177 ⟨fun g5 => ?_, fun g5 => ?_⟩
          · have k := kn g5 k
            refine x_aload_n i_164_190 rfl ?_
            refine x_vh (r := []) (lj := [some _, none]) i_164_191 w_167 ob_170 [] rfl rfl (Nat.le_of_ble_eq_true rfl) (Nat.le_of_ble_eq_true rfl) rfl ?_
            refine c_167 r2   (fun M6 r6 f6 => rt_n ?_)
            refine x_aload_n i_164_194 rfl ?_
            refine x_gr i_164_195 ob_170 gr_8_1.1 gr_8_1.2 (rt_170_1 _) ?_
            refine n_iconst 2 i_164_198 rfl ?_
            refine n_ld (x := (s_167 n ((s_170 n A 0))) 6 2) i_164_199 ar_171 (by omega) (by omega) r6.f2 ?_
            have q7 : (s_167 n ((s_170 n A 0))) 6 2 ≤ 3 := r6.w.f2
            refine x_iret i_164_200 rn_164 rfl ?_
            exact k (show (s_167 n ((s_170 n A 0))) 6 2 ≤ 4294967295 by omega) _ r6 (f2.trans f6)
          · have k := kp g5 k
            refine x_aload_n i_164_180 rfl ?_
            refine x_gr i_164_181 ob_170 gr_8_1.1 gr_8_1.2 (rt_170_1 _) ?_
            refine n_iconst 2 i_164_184 rfl ?_
            refine n_iconst 1 i_164_185 rfl ?_
            refine n_stM i_164_186 r2 2 (by omega) rfl (by unfold okf; omega) (fun M8 r8 f8 => ?_)
            refine x_goto i_164_187 ?_
            refine x_aload_n i_164_194 rfl ?_
            refine x_gr i_164_195 ob_170 gr_8_1.1 gr_8_1.2 (rt_170_1 _) ?_
            refine n_iconst 2 i_164_198 rfl ?_
            refine n_ld (x := 1) i_164_199 ar_171 (by omega) (by omega) r8.f2 ?_
            refine x_iret i_164_200 rn_164 rfl ?_
            exact k (show 1 ≤ 4294967295 by omega) _ r8 (f2.trans f8)
        · have k := kn g3 k
          refine x_aload_n i_164_165 rfl ?_
          refine x_gr i_164_166 ob_170 gr_8_1.1 gr_8_1.2 (rt_170_1 _) ?_
          refine n_iconst 2 i_164_169 rfl ?_
          refine n_ld (x := ((s_170 n A 0)) 6 2) i_164_170 ar_171 (by omega) (by omega) r2.f2 ?_
          have q9 : ((s_170 n A 0)) 6 2 ≤ 3 := r2.w.f2
          refine x_iret i_164_171 rn_164 rfl ?_
          exact k (show ((s_170 n A 0)) 6 2 ≤ 4294967295 by omega) _ r2 f2
      · have k := kn g1 k
        refine x_aload_n i_164_86 rfl ?_
        refine n_iconst 0 i_164_87 rfl ?_
        refine x_iload_n i_164_88 rfl ?_
        refine x_vh (r := []) (lj := [some _, some _, some _]) i_164_89 w_169 ob_170 [_, _] rfl rfl (Nat.le_of_ble_eq_true rfl) (Nat.le_of_ble_eq_true rfl) rfl ?_
        refine c_169 r (by omega) (by omega) (by omega) (by omega) (fun q10 M10 r10 f10 => rt_i ?_)
        refine x_zeqN (by omega) i_164_92 ⟨fun g11 => ?_, fun g11 => ?_⟩
        · have k := kp g11 k
          refine n_iinc 1 i_164_147 rfl rfl rfl rfl ?_
          refine x_goto i_164_150 ?_
          exact ih r10 (by omega) (by omega) (by omega) (by omega) (by omega) (k.tr f10)
        · have k := kn g11 k
          refine x_aload_n i_164_95 rfl ?_
          refine x_iload_n i_164_96 rfl ?_
          refine n_iconst 0 i_164_97 rfl ?_
          refine n_atx (((s_169 n A 0 l3).2) 0 l3) i_164_98 r10 0 (by omega) (by omega) (Nat.le_of_ble_eq_true rfl) rfl ?_
          have q12 : ((s_169 n A 0 l3).2) 0 l3 ≤ 5 := r10.w.b0 (by omega)
          refine x_zeqN (by omega) i_164_101 ⟨fun g13 => ?_, fun g13 => ?_⟩
          · have k := kp g13 k
            refine x_aload_n i_164_107 rfl ?_
            refine x_iload_n i_164_108 rfl ?_
            refine x_aload_n i_164_109 rfl ?_
            refine x_iload_n i_164_110 rfl ?_
            refine n_iconst 3 i_164_111 rfl ?_
            refine n_atx (((s_169 n A 0 l3).2) 3 l3) i_164_112 r10 3 (by omega) (by omega) (Nat.le_of_ble_eq_true rfl) rfl ?_
            refine n_iconst 1 i_164_115 rfl ?_
            have q14 : ((s_169 n A 0 l3).2) 3 l3 ≤ 1 := r10.w.b3 (by omega)
            refine x_ineN (by omega) (by omega) i_164_116 ⟨fun g15 => ?_, fun g15 => ?_⟩
            · have k := kn g15 k
              refine n_iconst 5 i_164_123 rfl ?_
              refine x_vh (r := []) (lj := [some _, some _, some _, none]) i_164_124 w_168 ob_170 [_, _] rfl rfl (Nat.le_of_ble_eq_true rfl) (Nat.le_of_ble_eq_true rfl) rfl ?_
              refine c_168 r10 (by omega) (by omega) (by omega) (fun M16 r16 f16 => rt_n ?_)
              refine x_iload_n i_164_127 rfl ?_
              refine x_aload_n i_164_128 rfl ?_
              refine x_iload_n i_164_129 rfl ?_
              refine n_iconst 0 i_164_130 rfl ?_
              refine n_atx (((bec ((s_169 n A 0 l3).2) l3 5)) 0 l3) i_164_131 r16 0 (by omega) (by omega) (Nat.le_of_ble_eq_true rfl) rfl ?_
              refine n_iconst 1 i_164_134 rfl ?_
              have q17 : ((bec ((s_169 n A 0 l3).2) l3 5)) 0 l3 ≤ 5 := r16.w.b0 (by omega)
              refine x_ineN (by omega) (by omega) i_164_135 ⟨fun g18 => ?_, fun g18 => ?_⟩
              · have k := kn g18 k
                refine n_iconst 0 i_164_144 rfl ?_
                refine x_iorN i_164_145 ?_
                refine x_istore_n i_164_146 rfl rfl ?_
                refine n_iinc 1 i_164_147 rfl rfl rfl rfl ?_
                refine x_goto i_164_150 ?_
                have q19 : l2 ||| 0 ≤ 31 := or_le 5 (by omega) (by omega)
                exact ih r16 (by omega) (by omega) (by omega) (by omega) (by omega) (k.tr (f10.trans f16))
              · have k := kp g18 k
                refine n_iconst 1 i_164_138 rfl ?_
                refine x_iload_n i_164_139 rfl ?_
                refine x_ishlN (by omega) i_164_140 ?_
                refine x_goto i_164_141 ?_
                refine x_iorN i_164_145 ?_
                refine x_istore_n i_164_146 rfl rfl ?_
                refine n_iinc 1 i_164_147 rfl rfl rfl rfl ?_
                refine x_goto i_164_150 ?_
                have q20 : 1 <<< l3 ≤ 16 := shl_le 4 (by omega)
                have q21 : l2 ||| (1 <<< l3) ≤ 31 := or_le 5 (by omega) (by omega)
                exact ih r16 (by omega) (by omega) (by omega) (by omega) (by omega) (k.tr (f10.trans f16))
            · have k := kp g15 k
              refine n_iconst 1 i_164_119 rfl ?_
              refine x_goto i_164_120 ?_
              refine x_vh (r := []) (lj := [some _, some _, some _, none]) i_164_124 w_168 ob_170 [_, _] rfl rfl (Nat.le_of_ble_eq_true rfl) (Nat.le_of_ble_eq_true rfl) rfl ?_
              refine c_168 r10 (by omega) (by omega) (by omega) (fun M22 r22 f22 => rt_n ?_)
              refine x_iload_n i_164_127 rfl ?_
              refine x_aload_n i_164_128 rfl ?_
              refine x_iload_n i_164_129 rfl ?_
              refine n_iconst 0 i_164_130 rfl ?_
              refine n_atx (((bec ((s_169 n A 0 l3).2) l3 1)) 0 l3) i_164_131 r22 0 (by omega) (by omega) (Nat.le_of_ble_eq_true rfl) rfl ?_
              refine n_iconst 1 i_164_134 rfl ?_
              have q23 : ((bec ((s_169 n A 0 l3).2) l3 1)) 0 l3 ≤ 5 := r22.w.b0 (by omega)
              refine x_ineN (by omega) (by omega) i_164_135 ⟨fun g24 => ?_, fun g24 => ?_⟩
              · have k := kn g24 k
                refine n_iconst 0 i_164_144 rfl ?_
                refine x_iorN i_164_145 ?_
                refine x_istore_n i_164_146 rfl rfl ?_
                refine n_iinc 1 i_164_147 rfl rfl rfl rfl ?_
                refine x_goto i_164_150 ?_
                have q25 : l2 ||| 0 ≤ 31 := or_le 5 (by omega) (by omega)
                exact ih r22 (by omega) (by omega) (by omega) (by omega) (by omega) (k.tr (f10.trans f22))
              · have k := kp g24 k
                refine n_iconst 1 i_164_138 rfl ?_
                refine x_iload_n i_164_139 rfl ?_
                refine x_ishlN (by omega) i_164_140 ?_
                refine x_goto i_164_141 ?_
                refine x_iorN i_164_145 ?_
                refine x_istore_n i_164_146 rfl rfl ?_
                refine n_iinc 1 i_164_147 rfl rfl rfl rfl ?_
                refine x_goto i_164_150 ?_
                have q26 : 1 <<< l3 ≤ 16 := shl_le 4 (by omega)
                have q27 : l2 ||| (1 <<< l3) ≤ 31 := or_le 5 (by omega) (by omega)
                exact ih r22 (by omega) (by omega) (by omega) (by omega) (by omega) (k.tr (f10.trans f22))
          · have k := kn g13 k
            refine x_goto i_164_104 ?_
            refine n_iinc 1 i_164_147 rfl rfl rfl rfl ?_
            refine x_goto i_164_150 ?_
            exact ih r10 (by omega) (by omega) (by omega) (by omega) (by omega) (k.tr f10)
def s_164 (n : Nat) (A : HA) (l1 : Nat) : Nat × HA :=
  (if (isK l1) = 0 then (4294967293, A) else (if (A 6 2) = 0 then (if (A 1 0) = 1 then (if (A 0 0) = 0 then (if (((s_166 n A l1)) 3 0) = 0 then ((s_167 n ((s_166 n A l1))) 6 2, s_167 n ((s_166 n A l1))) else (s_164_76 n (6) (bec ((s_166 n A l1)) 0 1) 1 1)) else (4294967291, A)) else (4294967291, A)) else (4294967291, A)))
theorem c_164 {sc : a_Sc} {fd : Nat} {M : a_Mm} {A : HA} {Q : Option Value → a_Hp → Prop} {n : Nat} (r : RM M n A) {l1 : Nat} (hl1 : l1 ≤ 4294967295) (k : MR 4294967295 Q sc fd M n (s_164 n A l1)) : a_Ex 164 0 [some (.ref 170), some (.int (N l1)), none, none] [] (a_hp sc fd M) Q := by
  unfold s_164 at k
  have n5 := r.n5
  have n2 := r.n2
  refine x_iload_n i_164_0 rfl ?_
  refine x_sh (r := []) (lj := [some _]) i_164_1 ws_165 [_] rfl rfl (Nat.le_of_ble_eq_true rfl) (Nat.le_of_ble_eq_true rfl) rfl ?_
  refine c_165 (by omega)  (fun q1 => rt_i ?_)
  refine x_zneN (by omega) i_164_4 ⟨fun g2 => ?_, fun g2 => ?_⟩
  · have k := kn g2 k
    refine x_aload_n i_164_10 rfl ?_
    refine x_gr i_164_11 ob_170 gr_8_1.1 gr_8_1.2 (rt_170_1 _) ?_
    refine n_iconst 2 i_164_14 rfl ?_
    refine n_ld (x := A 6 2) i_164_15 ar_171 (by omega) (by omega) r.f2 ?_
    have q3 : A 6 2 ≤ 3 := r.w.f2
    refine x_zneN (by omega) i_164_16 ⟨fun g4 => ?_, fun g4 => ?_⟩
    · have k := kn g4 k
      refine n_bipush 4294967291 i_164_38 rfl ?_
      refine x_iret i_164_40 rn_164 rfl ?_
      exact k (show 4294967291 ≤ 4294967295 by omega) _ r (FM.refl _)
    · have k := kp g4 k
      refine x_aload_n i_164_19 rfl ?_
      refine n_iconst 0 i_164_20 rfl ?_
      refine n_iconst 1 i_164_21 rfl ?_
      refine n_atx (A 1 0) i_164_22 r 1 (by omega) (by omega) (Nat.le_of_ble_eq_true rfl) rfl ?_
      refine n_iconst 1 i_164_25 rfl ?_
      have q5 : A 1 0 ≤ 2 := r.w.b1 (by omega)
      refine x_ineN (by omega) (by omega) i_164_26 ⟨fun g6 => ?_, fun g6 => ?_⟩
      · have k := kn g6 k
        refine n_bipush 4294967291 i_164_38 rfl ?_
        refine x_iret i_164_40 rn_164 rfl ?_
        exact k (show 4294967291 ≤ 4294967295 by omega) _ r (FM.refl _)
      · have k := kp g6 k
        refine x_aload_n i_164_29 rfl ?_
        refine n_iconst 0 i_164_30 rfl ?_
        refine n_iconst 0 i_164_31 rfl ?_
        refine n_atx (A 0 0) i_164_32 r 0 (by omega) (by omega) (Nat.le_of_ble_eq_true rfl) rfl ?_
        have q7 : A 0 0 ≤ 5 := r.w.b0 (by omega)
        refine x_zeqN (by omega) i_164_35 ⟨fun g8 => ?_, fun g8 => ?_⟩
        · have k := kp g8 k
          refine x_aload_n i_164_41 rfl ?_
          refine x_iload_n i_164_42 rfl ?_
          refine x_vh (r := []) (lj := [some _, some _]) i_164_43 w_166 ob_170 [_] rfl rfl (Nat.le_of_ble_eq_true rfl) (Nat.le_of_ble_eq_true rfl) rfl ?_
          refine c_166 r (by omega)  (fun M9 r9 f9 => rt_n ?_)
          refine x_aload_n i_164_46 rfl ?_
          refine n_iconst 0 i_164_47 rfl ?_
          refine n_iconst 3 i_164_48 rfl ?_
          refine n_atx (((s_166 n A l1)) 3 0) i_164_49 r9 3 (by omega) (by omega) (Nat.le_of_ble_eq_true rfl) rfl ?_
          have q10 : ((s_166 n A l1)) 3 0 ≤ 1 := r9.w.b3 (by omega)
          refine x_zneN (by omega) i_164_52 ⟨fun g11 => ?_, fun g11 => ?_⟩
          · have k := kn g11 k
            refine x_aload_n i_164_66 rfl ?_
            refine n_iconst 0 i_164_67 rfl ?_
            refine n_iconst 1 i_164_68 rfl ?_
            refine x_vh (r := []) (lj := [some _, some _, some _, none]) i_164_69 w_168 ob_170 [_, _] rfl rfl (Nat.le_of_ble_eq_true rfl) (Nat.le_of_ble_eq_true rfl) rfl ?_
            refine c_168 r9 (by omega) (by omega) (by omega) (fun M12 r12 f12 => rt_n ?_)
            refine n_iconst 1 i_164_72 rfl ?_
            refine x_istore_n i_164_73 rfl rfl ?_
            refine n_iconst 1 i_164_74 rfl ?_
            refine x_istore_n i_164_75 rfl rfl ?_
            refine x_wk (a_wk.s (a_wk.d rfl (a_wk.s (a_wk.s a_wk.n)))) ?_
            exact c_164_76 (6) r12 (by omega) (by omega) (by omega) (by omega) (by omega) (k.tr (f9.trans f12))
          · have k := kp g11 k
            refine x_aload_n i_164_55 rfl ?_
            refine x_vh (r := []) (lj := [some _, none]) i_164_56 w_167 ob_170 [] rfl rfl (Nat.le_of_ble_eq_true rfl) (Nat.le_of_ble_eq_true rfl) rfl ?_
            refine c_167 r9   (fun M13 r13 f13 => rt_n ?_)
            refine x_aload_n i_164_59 rfl ?_
            refine x_gr i_164_60 ob_170 gr_8_1.1 gr_8_1.2 (rt_170_1 _) ?_
            refine n_iconst 2 i_164_63 rfl ?_
            refine n_ld (x := (s_167 n ((s_166 n A l1))) 6 2) i_164_64 ar_171 (by omega) (by omega) r13.f2 ?_
            have q14 : (s_167 n ((s_166 n A l1))) 6 2 ≤ 3 := r13.w.f2
            refine x_iret i_164_65 rn_164 rfl ?_
            exact k (show (s_167 n ((s_166 n A l1))) 6 2 ≤ 4294967295 by omega) _ r13 (f9.trans f13)
        · have k := kn g8 k
          refine n_bipush 4294967291 i_164_38 rfl ?_
          refine x_iret i_164_40 rn_164 rfl ?_
          exact k (show 4294967291 ≤ 4294967295 by omega) _ r (FM.refl _)
  · have k := kp g2 k
    refine n_bipush 4294967293 i_164_7 rfl ?_
    refine x_iret i_164_9 rn_164 rfl ?_
    exact k (show 4294967293 ≤ 4294967295 by omega) _ r (FM.refl _)
def s_176_58 (n : Nat) : Nat → HA → Nat → Nat → Nat × HA
  | 0, A, _, _ => (0, A)
  | d + 1, A, l2, l3 => (if n ≤ l3 then (if N (((s_170 n A 0)) 9 9) = 0 then (if (((s_170 n A 0)) 6 1) = 0 then (2, (a_up (s_170 n A 0) 6 2 2)) else (if (s_160 n ((s_170 n A 0)) l2) < (((s_170 n A 0)) 6 3) then (3, (a_up (s_170 n A 0) 6 2 3)) else (2, (a_up (s_170 n A 0) 6 2 2)))) else (((s_170 n A 0)) 6 2, (s_170 n A 0))) else (if ((s_169 n A 0 l3).1) = 0 then (s_176_58 n d (s_169 n A 0 l3).2 l2 (l3 + 1)) else (if (((s_169 n A 0 l3).2) 0 l3) = 1 then (s_176_58 n d (bec ((s_169 n A 0 l3).2) l3 2) (l2 ||| (1 <<< l3)) (l3 + 1)) else (s_176_58 n d (s_169 n A 0 l3).2 l2 (l3 + 1)))))
theorem c_176_58 {sc : a_Sc} {fd : Nat} {Q : Option Value → a_Hp → Prop} {n : Nat} : ∀ (d : Nat) {M : a_Mm} {A : HA} {l2 l3 : Nat} (r : RM M n A) (hl2 : l2 ≤ 31) (hl3 : l3 ≤ 5) (i0 : 1 ≤ l3) (i1 : l3 ≤ n) (hm : n - l3 < d) (k : MR 4294967295 Q sc fd M n (s_176_58 n d A l2 l3)), a_Ex 176 58 [some (.ref 170), none, some (.int (N l2)), some (.int (N l3))] [] (a_hp sc fd M) Q := by
  intro d
  induction d with
  | zero => intro M A l2 l3 r hl2 hl3 i0 i1 hm k; exact absurd hm (Nat.not_lt_zero _)
  | succ d ih =>
      intro M A l2 l3 r hl2 hl3 i0 i1 hm k
      unfold s_176_58 at k
      have n5 := r.n5
      have n2 := r.n2
      refine x_iload_n i_176_58 rfl ?_
      refine x_aload_n i_176_59 rfl ?_
      refine x_gr i_176_60 ob_170 gr_8_1.1 gr_8_1.2 (rt_170_1 _) ?_
      refine n_iconst 0 i_176_63 rfl ?_
      refine n_ld (x := n) i_176_64 ar_171 (by omega) (by omega) r.nn ?_
      refine x_igeN (by omega) (by omega) i_176_65 ⟨fun g1 => ?_, fun g1 => ?_⟩
      · have k := kp g1 k
        refine x_aload_n i_176_108 rfl ?_
        refine n_iconst 0 i_176_109 rfl ?_
        refine x_vh (r := []) (lj := [some _, some _]) i_176_110 w_170 ob_170 [_] rfl rfl (Nat.le_of_ble_eq_true rfl) (Nat.le_of_ble_eq_true rfl) rfl ?_
        refine c_170 r (by omega) (by omega) (fun M2 r2 f2 => rt_n ?_)
        refine x_aload_n i_176_113 rfl ?_
        refine n_gi (x := ((s_170 n A 0)) 9 9) i_176_114 ob_170 gf_8_9.1 gf_8_9.2 (r2.g (by omega)) ?_
        refine x_zne i_176_117 ⟨fun g3 => ?_, fun g3 => ?_⟩
        · have k := kn g3 k
          refine x_aload_n i_176_154 rfl ?_
          refine x_gr i_176_155 ob_170 gr_8_1.1 gr_8_1.2 (rt_170_1 _) ?_
          refine n_iconst 2 i_176_158 rfl ?_
          refine n_ld (x := ((s_170 n A 0)) 6 2) i_176_159 ar_171 (by omega) (by omega) r2.f2 ?_
          have q4 : ((s_170 n A 0)) 6 2 ≤ 3 := r2.w.f2
          refine x_iret i_176_160 rn_176 rfl ?_
          exact k (show ((s_170 n A 0)) 6 2 ≤ 4294967295 by omega) _ r2 f2
        · have k := kp g3 k
          refine x_aload_n i_176_120 rfl ?_
          refine x_gr i_176_121 ob_170 gr_8_1.1 gr_8_1.2 (rt_170_1 _) ?_
          refine n_iconst 2 i_176_124 rfl ?_
          refine x_aload_n i_176_125 rfl ?_
          refine x_gr i_176_126 ob_170 gr_8_1.1 gr_8_1.2 (rt_170_1 _) ?_
          refine n_iconst 1 i_176_129 rfl ?_
          refine n_ld (x := ((s_170 n A 0)) 6 1) i_176_130 ar_171 (by omega) (by omega) r2.f1 ?_
          have q5 : ((s_170 n A 0)) 6 1 ≤ 1 := r2.w.f1
          refine x_zeqN (by omega) i_176_131 ⟨fun g6 => ?_, fun g6 => ?_⟩
          · have k := kp g6 k
            refine n_iconst 2 i_176_148 rfl ?_
            refine x_goto i_176_149 ?_
            refine n_stM i_176_153 r2 2 (by omega) rfl (by unfold okf; omega) (fun M7 r7 f7 => ?_)
            refine x_aload_n i_176_154 rfl ?_
            refine x_gr i_176_155 ob_170 gr_8_1.1 gr_8_1.2 (rt_170_1 _) ?_
            refine n_iconst 2 i_176_158 rfl ?_
            refine n_ld (x := 2) i_176_159 ar_171 (by omega) (by omega) r7.f2 ?_
            refine x_iret i_176_160 rn_176 rfl ?_
            exact k (show 2 ≤ 4294967295 by omega) _ r7 (f2.trans f7)
          · have k := kn g6 k
            refine x_aload_n i_176_134 rfl ?_
            refine x_iload_n i_176_135 rfl ?_
            refine x_vh (r := [_, _]) (lj := [some _, some _, none, none]) i_176_136 w_160 ob_170 [_] rfl rfl (Nat.le_of_ble_eq_true rfl) (Nat.le_of_ble_eq_true rfl) rfl ?_
            refine c_160 r2 (by omega)  (fun q8 => rt_i ?_)
            refine x_aload_n i_176_139 rfl ?_
            refine x_gr i_176_140 ob_170 gr_8_1.1 gr_8_1.2 (rt_170_1 _) ?_
            refine n_iconst 3 i_176_143 rfl ?_
            refine n_ld (x := ((s_170 n A 0)) 6 3) i_176_144 ar_171 (by omega) (by omega) r2.f3 ?_
            have q9 : ((s_170 n A 0)) 6 3 ≤ 15 := r2.w.f3
            refine x_iltN (by omega) (by omega) i_176_145 ⟨fun g10 => ?_, fun g10 => ?_⟩
            · have k := kp g10 k
              refine n_iconst 3 i_176_152 rfl ?_
              refine n_stM i_176_153 r2 2 (by omega) rfl (by unfold okf; omega) (fun M11 r11 f11 => ?_)
              refine x_aload_n i_176_154 rfl ?_
              refine x_gr i_176_155 ob_170 gr_8_1.1 gr_8_1.2 (rt_170_1 _) ?_
              refine n_iconst 2 i_176_158 rfl ?_
              refine n_ld (x := 3) i_176_159 ar_171 (by omega) (by omega) r11.f2 ?_
              refine x_iret i_176_160 rn_176 rfl ?_
              exact k (show 3 ≤ 4294967295 by omega) _ r11 (f2.trans f11)
            · have k := kn g10 k
              refine n_iconst 2 i_176_148 rfl ?_
              refine x_goto i_176_149 ?_
              refine n_stM i_176_153 r2 2 (by omega) rfl (by unfold okf; omega) (fun M12 r12 f12 => ?_)
              refine x_aload_n i_176_154 rfl ?_
              refine x_gr i_176_155 ob_170 gr_8_1.1 gr_8_1.2 (rt_170_1 _) ?_
              refine n_iconst 2 i_176_158 rfl ?_
              refine n_ld (x := 2) i_176_159 ar_171 (by omega) (by omega) r12.f2 ?_
              refine x_iret i_176_160 rn_176 rfl ?_
              exact k (show 2 ≤ 4294967295 by omega) _ r12 (f2.trans f12)
      · have k := kn g1 k
        refine x_aload_n i_176_68 rfl ?_
        refine n_iconst 0 i_176_69 rfl ?_
        refine x_iload_n i_176_70 rfl ?_
        refine x_vh (r := []) (lj := [some _, some _, some _]) i_176_71 w_169 ob_170 [_, _] rfl rfl (Nat.le_of_ble_eq_true rfl) (Nat.le_of_ble_eq_true rfl) rfl ?_
        refine c_169 r (by omega) (by omega) (by omega) (by omega) (fun q13 M13 r13 f13 => rt_i ?_)
        refine x_zeqN (by omega) i_176_74 ⟨fun g14 => ?_, fun g14 => ?_⟩
        · have k := kp g14 k
          refine n_iinc 1 i_176_102 rfl rfl rfl rfl ?_
          refine x_goto i_176_105 ?_
          exact ih r13 (by omega) (by omega) (by omega) (by omega) (by omega) (k.tr f13)
        · have k := kn g14 k
          refine x_aload_n i_176_77 rfl ?_
          refine x_iload_n i_176_78 rfl ?_
          refine n_iconst 0 i_176_79 rfl ?_
          refine n_atx (((s_169 n A 0 l3).2) 0 l3) i_176_80 r13 0 (by omega) (by omega) (Nat.le_of_ble_eq_true rfl) rfl ?_
          refine n_iconst 1 i_176_83 rfl ?_
          have q15 : ((s_169 n A 0 l3).2) 0 l3 ≤ 5 := r13.w.b0 (by omega)
          refine x_ieqN (by omega) (by omega) i_176_84 ⟨fun g16 => ?_, fun g16 => ?_⟩
          · have k := kp g16 k
            refine x_aload_n i_176_90 rfl ?_
            refine x_iload_n i_176_91 rfl ?_
            refine n_iconst 2 i_176_92 rfl ?_
            refine x_vh (r := []) (lj := [some _, some _, some _, none]) i_176_93 w_168 ob_170 [_, _] rfl rfl (Nat.le_of_ble_eq_true rfl) (Nat.le_of_ble_eq_true rfl) rfl ?_
            refine c_168 r13 (by omega) (by omega) (by omega) (fun M17 r17 f17 => rt_n ?_)
            refine x_iload_n i_176_96 rfl ?_
            refine n_iconst 1 i_176_97 rfl ?_
            refine x_iload_n i_176_98 rfl ?_
            refine x_ishlN (by omega) i_176_99 ?_
            refine x_iorN i_176_100 ?_
            refine x_istore_n i_176_101 rfl rfl ?_
            refine n_iinc 1 i_176_102 rfl rfl rfl rfl ?_
            refine x_goto i_176_105 ?_
            have q18 : 1 <<< l3 ≤ 16 := shl_le 4 (by omega)
            have q19 : l2 ||| (1 <<< l3) ≤ 31 := or_le 5 (by omega) (by omega)
            exact ih r17 (by omega) (by omega) (by omega) (by omega) (by omega) (k.tr (f13.trans f17))
          · have k := kn g16 k
            refine x_goto i_176_87 ?_
            refine n_iinc 1 i_176_102 rfl rfl rfl rfl ?_
            refine x_goto i_176_105 ?_
            exact ih r13 (by omega) (by omega) (by omega) (by omega) (by omega) (k.tr f13)
def s_176 (n : Nat) (A : HA) (l1 : Nat) : Nat × HA :=
  (if (isK l1) = 0 then (4294967293, A) else (if (A 6 2) = 1 then (if (A 1 0) = 1 then (if (A 0 0) = 1 then (s_176_58 n (6) (bec ((s_166 n A l1)) 0 2) 1 1) else (4294967291, A)) else (4294967291, A)) else (4294967291, A)))
theorem c_176 {sc : a_Sc} {fd : Nat} {M : a_Mm} {A : HA} {Q : Option Value → a_Hp → Prop} {n : Nat} (r : RM M n A) {l1 : Nat} (hl1 : l1 ≤ 4294967295) (k : MR 4294967295 Q sc fd M n (s_176 n A l1)) : a_Ex 176 0 [some (.ref 170), some (.int (N l1)), none, none] [] (a_hp sc fd M) Q := by
  unfold s_176 at k
  have n5 := r.n5
  have n2 := r.n2
  refine x_iload_n i_176_0 rfl ?_
  refine x_sh (r := []) (lj := [some _]) i_176_1 ws_165 [_] rfl rfl (Nat.le_of_ble_eq_true rfl) (Nat.le_of_ble_eq_true rfl) rfl ?_
  refine c_165 (by omega)  (fun q1 => rt_i ?_)
  refine x_zneN (by omega) i_176_4 ⟨fun g2 => ?_, fun g2 => ?_⟩
  · have k := kn g2 k
    refine x_aload_n i_176_10 rfl ?_
    refine x_gr i_176_11 ob_170 gr_8_1.1 gr_8_1.2 (rt_170_1 _) ?_
    refine n_iconst 2 i_176_14 rfl ?_
    refine n_ld (x := A 6 2) i_176_15 ar_171 (by omega) (by omega) r.f2 ?_
    refine n_iconst 1 i_176_16 rfl ?_
    have q3 : A 6 2 ≤ 3 := r.w.f2
    refine x_ineN (by omega) (by omega) i_176_17 ⟨fun g4 => ?_, fun g4 => ?_⟩
    · have k := kn g4 k
      refine n_bipush 4294967291 i_176_40 rfl ?_
      refine x_iret i_176_42 rn_176 rfl ?_
      exact k (show 4294967291 ≤ 4294967295 by omega) _ r (FM.refl _)
    · have k := kp g4 k
      refine x_aload_n i_176_20 rfl ?_
      refine n_iconst 0 i_176_21 rfl ?_
      refine n_iconst 1 i_176_22 rfl ?_
      refine n_atx (A 1 0) i_176_23 r 1 (by omega) (by omega) (Nat.le_of_ble_eq_true rfl) rfl ?_
      refine n_iconst 1 i_176_26 rfl ?_
      have q5 : A 1 0 ≤ 2 := r.w.b1 (by omega)
      refine x_ineN (by omega) (by omega) i_176_27 ⟨fun g6 => ?_, fun g6 => ?_⟩
      · have k := kn g6 k
        refine n_bipush 4294967291 i_176_40 rfl ?_
        refine x_iret i_176_42 rn_176 rfl ?_
        exact k (show 4294967291 ≤ 4294967295 by omega) _ r (FM.refl _)
      · have k := kp g6 k
        refine x_aload_n i_176_30 rfl ?_
        refine n_iconst 0 i_176_31 rfl ?_
        refine n_iconst 0 i_176_32 rfl ?_
        refine n_atx (A 0 0) i_176_33 r 0 (by omega) (by omega) (Nat.le_of_ble_eq_true rfl) rfl ?_
        refine n_iconst 1 i_176_36 rfl ?_
        have q7 : A 0 0 ≤ 5 := r.w.b0 (by omega)
        refine x_ieqN (by omega) (by omega) i_176_37 ⟨fun g8 => ?_, fun g8 => ?_⟩
        · have k := kp g8 k
          refine x_aload_n i_176_43 rfl ?_
          refine x_iload_n i_176_44 rfl ?_
          refine x_vh (r := []) (lj := [some _, some _]) i_176_45 w_166 ob_170 [_] rfl rfl (Nat.le_of_ble_eq_true rfl) (Nat.le_of_ble_eq_true rfl) rfl ?_
          refine c_166 r (by omega)  (fun M9 r9 f9 => rt_n ?_)
          refine x_aload_n i_176_48 rfl ?_
          refine n_iconst 0 i_176_49 rfl ?_
          refine n_iconst 2 i_176_50 rfl ?_
          refine x_vh (r := []) (lj := [some _, some _, some _, none]) i_176_51 w_168 ob_170 [_, _] rfl rfl (Nat.le_of_ble_eq_true rfl) (Nat.le_of_ble_eq_true rfl) rfl ?_
          refine c_168 r9 (by omega) (by omega) (by omega) (fun M10 r10 f10 => rt_n ?_)
          refine n_iconst 1 i_176_54 rfl ?_
          refine x_istore_n i_176_55 rfl rfl ?_
          refine n_iconst 1 i_176_56 rfl ?_
          refine x_istore_n i_176_57 rfl rfl ?_
          refine x_wk (a_wk.s (a_wk.d rfl (a_wk.s (a_wk.s a_wk.n)))) ?_
          exact c_176_58 (6) r10 (by omega) (by omega) (by omega) (by omega) (by omega) (k.tr (f9.trans f10))
        · have k := kn g8 k
          refine n_bipush 4294967291 i_176_40 rfl ?_
          refine x_iret i_176_42 rn_176 rfl ?_
          exact k (show 4294967291 ≤ 4294967295 by omega) _ r (FM.refl _)
  · have k := kp g2 k
    refine n_bipush 4294967293 i_176_7 rfl ?_
    refine x_iret i_176_9 rn_176 rfl ?_
    exact k (show 4294967293 ≤ 4294967295 by omega) _ r (FM.refl _)
def s_178_56 (n : Nat) : Nat → HA → Nat → Nat × HA
  | 0, A, _ => (0, A)
  | d + 1, A, l2 => (if n ≤ l2 then ((pop (s_158 n ((a_up (s_170 n A 0) 6 2 3)) 0 4)), (a_up (s_170 n A 0) 6 2 3)) else (if ((s_169 n A 0 l2).1) = 0 then (s_178_56 n d (s_169 n A 0 l2).2 (l2 + 1)) else (if (((s_169 n A 0 l2).2) 0 l2) = 5 then (s_178_56 n d (s_169 n A 0 l2).2 (l2 + 1)) else (s_178_56 n d (bec ((s_169 n A 0 l2).2) l2 4) (l2 + 1)))))
theorem c_178_56 {sc : a_Sc} {fd : Nat} {Q : Option Value → a_Hp → Prop} {n : Nat} : ∀ (d : Nat) {M : a_Mm} {A : HA} {l2 : Nat} (r : RM M n A) (hl2 : l2 ≤ 5) (i0 : 1 ≤ l2) (i1 : l2 ≤ n) (hm : n - l2 < d) (k : MR 4294967295 Q sc fd M n (s_178_56 n d A l2)), a_Ex 178 56 [some (.ref 170), none, some (.int (N l2))] [] (a_hp sc fd M) Q := by
  intro d
  induction d with
  | zero => intro M A l2 r hl2 i0 i1 hm k; exact absurd hm (Nat.not_lt_zero _)
  | succ d ih =>
      intro M A l2 r hl2 i0 i1 hm k
      unfold s_178_56 at k
      have n5 := r.n5
      have n2 := r.n2
      refine x_iload_n i_178_56 rfl ?_
      refine x_aload_n i_178_57 rfl ?_
      refine x_gr i_178_58 ob_170 gr_8_1.1 gr_8_1.2 (rt_170_1 _) ?_
      refine n_iconst 0 i_178_61 rfl ?_
      refine n_ld (x := n) i_178_62 ar_171 (by omega) (by omega) r.nn ?_
      refine x_igeN (by omega) (by omega) i_178_63 ⟨fun g1 => ?_, fun g1 => ?_⟩
      · have k := kp g1 k
        refine x_aload_n i_178_97 rfl ?_
        refine n_iconst 0 i_178_98 rfl ?_
        refine x_vh (r := []) (lj := [some _, some _]) i_178_99 w_170 ob_170 [_] rfl rfl (Nat.le_of_ble_eq_true rfl) (Nat.le_of_ble_eq_true rfl) rfl ?_
        refine c_170 r (by omega) (by omega) (fun M2 r2 f2 => rt_n ?_)
        refine x_aload_n i_178_102 rfl ?_
        refine x_gr i_178_103 ob_170 gr_8_1.1 gr_8_1.2 (rt_170_1 _) ?_
        refine n_iconst 2 i_178_106 rfl ?_
        refine n_iconst 3 i_178_107 rfl ?_
        refine n_stM i_178_108 r2 2 (by omega) rfl (by unfold okf; omega) (fun M3 r3 f3 => ?_)
        refine x_aload_n i_178_109 rfl ?_
        refine n_iconst 0 i_178_110 rfl ?_
        refine n_iconst 4 i_178_111 rfl ?_
        refine x_vh (r := []) (lj := [some _, some _, some _, none, none]) i_178_112 w_158 ob_170 [_, _] rfl rfl (Nat.le_of_ble_eq_true rfl) (Nat.le_of_ble_eq_true rfl) rfl ?_
        refine c_158 r3 (by omega) (by omega)  (fun q4 => rt_i ?_)
        have m158a := s158_lt n ((a_up (s_170 n A 0) 6 2 3)) 0 4 n5
        refine x_sh (r := []) (lj := [some _, none, none]) i_178_115 ws_179 [_] rfl rfl (Nat.le_of_ble_eq_true rfl) (Nat.le_of_ble_eq_true rfl) rfl ?_
        refine k_179 (by omega)  (fun q5 => rt_i ?_)
        refine x_iret i_178_118 rn_178 rfl ?_
        exact k (show (pop (s_158 n ((a_up (s_170 n A 0) 6 2 3)) 0 4)) ≤ 4294967295 by omega) _ r3 (f2.trans f3)
      · have k := kn g1 k
        refine x_aload_n i_178_66 rfl ?_
        refine n_iconst 0 i_178_67 rfl ?_
        refine x_iload_n i_178_68 rfl ?_
        refine x_vh (r := []) (lj := [some _, some _, some _]) i_178_69 w_169 ob_170 [_, _] rfl rfl (Nat.le_of_ble_eq_true rfl) (Nat.le_of_ble_eq_true rfl) rfl ?_
        refine c_169 r (by omega) (by omega) (by omega) (by omega) (fun q6 M6 r6 f6 => rt_i ?_)
        refine x_zeqN (by omega) i_178_72 ⟨fun g7 => ?_, fun g7 => ?_⟩
        · have k := kp g7 k
          refine n_iinc 1 i_178_91 rfl rfl rfl rfl ?_
          refine x_goto i_178_94 ?_
          exact ih r6 (by omega) (by omega) (by omega) (by omega) (k.tr f6)
        · have k := kn g7 k
          refine x_aload_n i_178_75 rfl ?_
          refine x_iload_n i_178_76 rfl ?_
          refine n_iconst 0 i_178_77 rfl ?_
          refine n_atx (((s_169 n A 0 l2).2) 0 l2) i_178_78 r6 0 (by omega) (by omega) (Nat.le_of_ble_eq_true rfl) rfl ?_
          refine n_iconst 5 i_178_81 rfl ?_
          have q8 : ((s_169 n A 0 l2).2) 0 l2 ≤ 5 := r6.w.b0 (by omega)
          refine x_ieqN (by omega) (by omega) i_178_82 ⟨fun g9 => ?_, fun g9 => ?_⟩
          · have k := kp g9 k
            refine n_iinc 1 i_178_91 rfl rfl rfl rfl ?_
            refine x_goto i_178_94 ?_
            exact ih r6 (by omega) (by omega) (by omega) (by omega) (k.tr f6)
          · have k := kn g9 k
            refine x_aload_n i_178_85 rfl ?_
            refine x_iload_n i_178_86 rfl ?_
            refine n_iconst 4 i_178_87 rfl ?_
            refine x_vh (r := []) (lj := [some _, some _, some _, none]) i_178_88 w_168 ob_170 [_, _] rfl rfl (Nat.le_of_ble_eq_true rfl) (Nat.le_of_ble_eq_true rfl) rfl ?_
            refine c_168 r6 (by omega) (by omega) (by omega) (fun M10 r10 f10 => rt_n ?_)
            refine n_iinc 1 i_178_91 rfl rfl rfl rfl ?_
            refine x_goto i_178_94 ?_
            exact ih r10 (by omega) (by omega) (by omega) (by omega) (k.tr (f6.trans f10))
def s_178 (n : Nat) (A : HA) (l1 : Nat) : Nat × HA :=
  (if (isK l1) = 0 then (4294967293, A) else (if (A 6 2) = 2 then (if (A 1 0) = 1 then (if (A 0 0) = 2 then (s_178_56 n (6) (bec ((s_166 n A l1)) 0 4) 1) else (4294967291, A)) else (4294967291, A)) else (4294967291, A)))
theorem c_178 {sc : a_Sc} {fd : Nat} {M : a_Mm} {A : HA} {Q : Option Value → a_Hp → Prop} {n : Nat} (r : RM M n A) {l1 : Nat} (hl1 : l1 ≤ 4294967295) (k : MR 4294967295 Q sc fd M n (s_178 n A l1)) : a_Ex 178 0 [some (.ref 170), some (.int (N l1)), none] [] (a_hp sc fd M) Q := by
  unfold s_178 at k
  have n5 := r.n5
  have n2 := r.n2
  refine x_iload_n i_178_0 rfl ?_
  refine x_sh (r := []) (lj := [some _]) i_178_1 ws_165 [_] rfl rfl (Nat.le_of_ble_eq_true rfl) (Nat.le_of_ble_eq_true rfl) rfl ?_
  refine c_165 (by omega)  (fun q1 => rt_i ?_)
  refine x_zneN (by omega) i_178_4 ⟨fun g2 => ?_, fun g2 => ?_⟩
  · have k := kn g2 k
    refine x_aload_n i_178_10 rfl ?_
    refine x_gr i_178_11 ob_170 gr_8_1.1 gr_8_1.2 (rt_170_1 _) ?_
    refine n_iconst 2 i_178_14 rfl ?_
    refine n_ld (x := A 6 2) i_178_15 ar_171 (by omega) (by omega) r.f2 ?_
    refine n_iconst 2 i_178_16 rfl ?_
    have q3 : A 6 2 ≤ 3 := r.w.f2
    refine x_ineN (by omega) (by omega) i_178_17 ⟨fun g4 => ?_, fun g4 => ?_⟩
    · have k := kn g4 k
      refine n_bipush 4294967291 i_178_40 rfl ?_
      refine x_iret i_178_42 rn_178 rfl ?_
      exact k (show 4294967291 ≤ 4294967295 by omega) _ r (FM.refl _)
    · have k := kp g4 k
      refine x_aload_n i_178_20 rfl ?_
      refine n_iconst 0 i_178_21 rfl ?_
      refine n_iconst 1 i_178_22 rfl ?_
      refine n_atx (A 1 0) i_178_23 r 1 (by omega) (by omega) (Nat.le_of_ble_eq_true rfl) rfl ?_
      refine n_iconst 1 i_178_26 rfl ?_
      have q5 : A 1 0 ≤ 2 := r.w.b1 (by omega)
      refine x_ineN (by omega) (by omega) i_178_27 ⟨fun g6 => ?_, fun g6 => ?_⟩
      · have k := kn g6 k
        refine n_bipush 4294967291 i_178_40 rfl ?_
        refine x_iret i_178_42 rn_178 rfl ?_
        exact k (show 4294967291 ≤ 4294967295 by omega) _ r (FM.refl _)
      · have k := kp g6 k
        refine x_aload_n i_178_30 rfl ?_
        refine n_iconst 0 i_178_31 rfl ?_
        refine n_iconst 0 i_178_32 rfl ?_
        refine n_atx (A 0 0) i_178_33 r 0 (by omega) (by omega) (Nat.le_of_ble_eq_true rfl) rfl ?_
        refine n_iconst 2 i_178_36 rfl ?_
        have q7 : A 0 0 ≤ 5 := r.w.b0 (by omega)
        refine x_ieqN (by omega) (by omega) i_178_37 ⟨fun g8 => ?_, fun g8 => ?_⟩
        · have k := kp g8 k
          refine x_aload_n i_178_43 rfl ?_
          refine x_iload_n i_178_44 rfl ?_
          refine x_vh (r := []) (lj := [some _, some _]) i_178_45 w_166 ob_170 [_] rfl rfl (Nat.le_of_ble_eq_true rfl) (Nat.le_of_ble_eq_true rfl) rfl ?_
          refine c_166 r (by omega)  (fun M9 r9 f9 => rt_n ?_)
          refine x_aload_n i_178_48 rfl ?_
          refine n_iconst 0 i_178_49 rfl ?_
          refine n_iconst 4 i_178_50 rfl ?_
          refine x_vh (r := []) (lj := [some _, some _, some _, none]) i_178_51 w_168 ob_170 [_, _] rfl rfl (Nat.le_of_ble_eq_true rfl) (Nat.le_of_ble_eq_true rfl) rfl ?_
          refine c_168 r9 (by omega) (by omega) (by omega) (fun M10 r10 f10 => rt_n ?_)
          refine n_iconst 1 i_178_54 rfl ?_
          refine x_istore_n i_178_55 rfl rfl ?_
          refine x_wk (a_wk.s (a_wk.d rfl (a_wk.s a_wk.n))) ?_
          exact c_178_56 (6) r10 (by omega) (by omega) (by omega) (by omega) (k.tr (f9.trans f10))
        · have k := kn g8 k
          refine n_bipush 4294967291 i_178_40 rfl ?_
          refine x_iret i_178_42 rn_178 rfl ?_
          exact k (show 4294967291 ≤ 4294967295 by omega) _ r (FM.refl _)
  · have k := kp g2 k
    refine n_bipush 4294967293 i_178_7 rfl ?_
    refine x_iret i_178_9 rn_178 rfl ?_
    exact k (show 4294967293 ≤ 4294967295 by omega) _ r (FM.refl _)
def s_181 (n : Nat) (A : HA) (l1 : Nat) : Nat × HA :=
  (if (0 ≤ l1 ∧ l1 ≤ (n - 1)) then (if (A 1 l1) = 0 then (4294967291, A) else ((pop (s_158 n ((s_171 n A l1)) 1 1)), (s_171 n A l1))) else (4294967294, A))
theorem c_181 {sc : a_Sc} {fd : Nat} {M : a_Mm} {A : HA} {Q : Option Value → a_Hp → Prop} {n : Nat} (r : RM M n A) {l1 : Nat} (hl1 : l1 ≤ 4294967295) (k : MR 4294967295 Q sc fd M n (s_181 n A l1)) : a_Ex 181 0 [some (.ref 170), some (.int (N l1))] [] (a_hp sc fd M) Q := by
  unfold s_181 at k
  have n5 := r.n5
  have n2 := r.n2
  refine x_aload_n i_181_0 rfl ?_
  refine x_iload_n i_181_1 rfl ?_
  refine x_vh (r := []) (lj := [some _, some _]) i_181_2 w_154 ob_170 [_] rfl rfl (Nat.le_of_ble_eq_true rfl) (Nat.le_of_ble_eq_true rfl) rfl ?_
  refine x_iload_n i_154_0 rfl ?_
  refine x_i2l i_154_1 ?_
  refine n_lconst 0 i_154_2 rfl ?_
  refine x_aload_n i_154_3 rfl ?_
  refine x_gr i_154_4 ob_170 gr_8_1.1 gr_8_1.2 (rt_170_1 _) ?_
  refine n_iconst 0 i_154_7 rfl ?_
  refine n_ld (x := n) i_154_8 ar_171 (by omega) (by omega) r.nn ?_
  refine n_iconst 1 i_154_9 rfl ?_
  refine x_isubN (by omega) i_154_10 ?_
  refine x_i2l i_154_11 ?_
  refine n_within i_154_12 (Nat.le_of_ble_eq_true rfl) (by omega) (by omega) (by omega) ⟨fun g1 => ?_, fun g1 => ?_⟩
  · have k := kp g1 k
    refine x_iretI i_154_15 rn_154 (by decide +kernel) ?_
    refine x_ifT i_181_5 (by decide +kernel) ?_
    refine x_aload_n i_181_11 rfl ?_
    refine x_iload_n i_181_12 rfl ?_
    refine n_iconst 1 i_181_13 rfl ?_
    refine n_atx (A 1 l1) i_181_14 r 1 (by omega) (by omega) (Nat.le_of_ble_eq_true rfl) rfl ?_
    have q2 : A 1 l1 ≤ 2 := r.w.b1 (by omega)
    refine x_zneN (by omega) i_181_17 ⟨fun g3 => ?_, fun g3 => ?_⟩
    · have k := kn g3 k
      refine x_aload_n i_181_23 rfl ?_
      refine x_iload_n i_181_24 rfl ?_
      refine x_vh (r := []) (lj := [some _, some _, none, none]) i_181_25 w_171 ob_170 [_] rfl rfl (Nat.le_of_ble_eq_true rfl) (Nat.le_of_ble_eq_true rfl) rfl ?_
      refine c_171 r (by omega) (by omega) (fun M4 r4 f4 => rt_n ?_)
      refine x_aload_n i_181_28 rfl ?_
      refine n_iconst 1 i_181_29 rfl ?_
      refine n_iconst 1 i_181_30 rfl ?_
      refine x_vh (r := []) (lj := [some _, some _, some _, none, none]) i_181_31 w_158 ob_170 [_, _] rfl rfl (Nat.le_of_ble_eq_true rfl) (Nat.le_of_ble_eq_true rfl) rfl ?_
      refine c_158 r4 (by omega) (by omega)  (fun q5 => rt_i ?_)
      have m158a := s158_lt n ((s_171 n A l1)) 1 1 n5
      refine x_sh (r := []) (lj := [some _, none, none]) i_181_34 ws_179 [_] rfl rfl (Nat.le_of_ble_eq_true rfl) (Nat.le_of_ble_eq_true rfl) rfl ?_
      refine k_179 (by omega)  (fun q6 => rt_i ?_)
      refine x_iret i_181_37 rn_181 rfl ?_
      exact k (show (pop (s_158 n ((s_171 n A l1)) 1 1)) ≤ 4294967295 by omega) _ r4 f4
    · have k := kp g3 k
      refine n_bipush 4294967291 i_181_20 rfl ?_
      refine x_iret i_181_22 rn_181 rfl ?_
      exact k (show 4294967291 ≤ 4294967295 by omega) _ r (FM.refl _)
  · have k := kn g1 k
    refine x_iretI i_154_15 rn_154 (by decide +kernel) ?_
    refine x_ifF i_181_5 (by decide +kernel) ?_
    refine n_bipush 4294967294 i_181_8 rfl ?_
    refine x_iret i_181_10 rn_181 rfl ?_
    exact k (show 4294967294 ≤ 4294967295 by omega) _ r (FM.refl _)
def s_183 (n : Nat) (A : HA) (l1 : Nat) : Nat × HA :=
  (if (0 ≤ l1 ∧ l1 ≤ (n - 1)) then (if (A 1 l1) = 0 then (A 0 l1, (a_up A 1 l1 2)) else (4294967291, A)) else (4294967294, A))
theorem c_183 {sc : a_Sc} {fd : Nat} {M : a_Mm} {A : HA} {Q : Option Value → a_Hp → Prop} {n : Nat} (r : RM M n A) {l1 : Nat} (hl1 : l1 ≤ 4294967295) (k : MR 4294967295 Q sc fd M n (s_183 n A l1)) : a_Ex 183 0 [some (.ref 170), some (.int (N l1))] [] (a_hp sc fd M) Q := by
  unfold s_183 at k
  have n5 := r.n5
  have n2 := r.n2
  refine x_aload_n i_183_0 rfl ?_
  refine x_iload_n i_183_1 rfl ?_
  refine x_vh (r := []) (lj := [some _, some _]) i_183_2 w_154 ob_170 [_] rfl rfl (Nat.le_of_ble_eq_true rfl) (Nat.le_of_ble_eq_true rfl) rfl ?_
  refine x_iload_n i_154_0 rfl ?_
  refine x_i2l i_154_1 ?_
  refine n_lconst 0 i_154_2 rfl ?_
  refine x_aload_n i_154_3 rfl ?_
  refine x_gr i_154_4 ob_170 gr_8_1.1 gr_8_1.2 (rt_170_1 _) ?_
  refine n_iconst 0 i_154_7 rfl ?_
  refine n_ld (x := n) i_154_8 ar_171 (by omega) (by omega) r.nn ?_
  refine n_iconst 1 i_154_9 rfl ?_
  refine x_isubN (by omega) i_154_10 ?_
  refine x_i2l i_154_11 ?_
  refine n_within i_154_12 (Nat.le_of_ble_eq_true rfl) (by omega) (by omega) (by omega) ⟨fun g1 => ?_, fun g1 => ?_⟩
  · have k := kp g1 k
    refine x_iretI i_154_15 rn_154 (by decide +kernel) ?_
    refine x_ifT i_183_5 (by decide +kernel) ?_
    refine x_aload_n i_183_11 rfl ?_
    refine x_iload_n i_183_12 rfl ?_
    refine n_iconst 1 i_183_13 rfl ?_
    refine n_atx (A 1 l1) i_183_14 r 1 (by omega) (by omega) (Nat.le_of_ble_eq_true rfl) rfl ?_
    have q2 : A 1 l1 ≤ 2 := r.w.b1 (by omega)
    refine x_zeqN (by omega) i_183_17 ⟨fun g3 => ?_, fun g3 => ?_⟩
    · have k := kp g3 k
      refine x_aload_n i_183_23 rfl ?_
      refine x_iload_n i_183_24 rfl ?_
      refine n_iconst 1 i_183_25 rfl ?_
      refine n_iconst 2 i_183_26 rfl ?_
      refine n_lays i_183_27 r 1 (by omega) (by omega) (show 2 < 3 by omega) (Nat.le_of_ble_eq_true rfl) (fun M4 r4 f4 => ?_)
      refine x_aload_n i_183_30 rfl ?_
      refine x_iload_n i_183_31 rfl ?_
      refine n_iconst 0 i_183_32 rfl ?_
      refine n_atx (A 0 l1) i_183_33 r4 0 (by omega) (by omega) (Nat.le_of_ble_eq_true rfl) rfl ?_
      have q5 : A 0 l1 ≤ 5 := r4.w.b0 (by omega)
      refine x_iret i_183_36 rn_183 rfl ?_
      exact k (show A 0 l1 ≤ 4294967295 by omega) _ r4 f4
    · have k := kn g3 k
      refine n_bipush 4294967291 i_183_20 rfl ?_
      refine x_iret i_183_22 rn_183 rfl ?_
      exact k (show 4294967291 ≤ 4294967295 by omega) _ r (FM.refl _)
  · have k := kn g1 k
    refine x_iretI i_154_15 rn_154 (by decide +kernel) ?_
    refine x_ifF i_183_5 (by decide +kernel) ?_
    refine n_bipush 4294967294 i_183_8 rfl ?_
    refine x_iret i_183_10 rn_183 rfl ?_
    exact k (show 4294967294 ≤ 4294967295 by omega) _ r (FM.refl _)
def s_153 (n : Nat) (A : HA) (l1 : Nat) (l2 : Nat) : Nat × HA :=
  (if (0 ≤ l1 ∧ l1 ≤ (n - 1)) then (if (0 ≤ l2 ∧ l2 ≤ 1) then (if (A 0 l1) = 0 then (A 3 l1, (a_up A 3 l1 l2)) else (4294967291, A)) else (4294967293, A)) else (4294967294, A))
theorem c_153 {sc : a_Sc} {fd : Nat} {M : a_Mm} {A : HA} {Q : Option Value → a_Hp → Prop} {n : Nat} (r : RM M n A) {l1 l2 : Nat} (hl1 : l1 ≤ 4294967295) (hl2 : l2 ≤ 4294967295) (k : MR 4294967295 Q sc fd M n (s_153 n A l1 l2)) : a_Ex 153 0 [some (.ref 170), some (.int (N l1)), some (.int (N l2)), none] [] (a_hp sc fd M) Q := by
  unfold s_153 at k
  have n5 := r.n5
  have n2 := r.n2
  refine x_aload_n i_153_0 rfl ?_
  refine x_iload_n i_153_1 rfl ?_
  refine x_vh (r := []) (lj := [some _, some _]) i_153_2 w_154 ob_170 [_] rfl rfl (Nat.le_of_ble_eq_true rfl) (Nat.le_of_ble_eq_true rfl) rfl ?_
  refine x_iload_n i_154_0 rfl ?_
  refine x_i2l i_154_1 ?_
  refine n_lconst 0 i_154_2 rfl ?_
  refine x_aload_n i_154_3 rfl ?_
  refine x_gr i_154_4 ob_170 gr_8_1.1 gr_8_1.2 (rt_170_1 _) ?_
  refine n_iconst 0 i_154_7 rfl ?_
  refine n_ld (x := n) i_154_8 ar_171 (by omega) (by omega) r.nn ?_
  refine n_iconst 1 i_154_9 rfl ?_
  refine x_isubN (by omega) i_154_10 ?_
  refine x_i2l i_154_11 ?_
  refine n_within i_154_12 (Nat.le_of_ble_eq_true rfl) (by omega) (by omega) (by omega) ⟨fun g1 => ?_, fun g1 => ?_⟩
  · have k := kp g1 k
    refine x_iretI i_154_15 rn_154 (by decide +kernel) ?_
    refine x_ifT i_153_5 (by decide +kernel) ?_
    refine x_iload_n i_153_11 rfl ?_
    refine x_i2l i_153_12 ?_
    refine n_lconst 0 i_153_13 rfl ?_
    refine n_lconst 1 i_153_14 rfl ?_
    refine n_within i_153_15 (Nat.le_of_ble_eq_true rfl) (by omega) (by omega) (by omega) ⟨fun g2 => ?_, fun g2 => ?_⟩
    · have k := kp g2 k
      refine x_ifT i_153_18 (by decide +kernel) ?_
      refine x_aload_n i_153_24 rfl ?_
      refine x_iload_n i_153_25 rfl ?_
      refine n_iconst 0 i_153_26 rfl ?_
      refine n_atx (A 0 l1) i_153_27 r 0 (by omega) (by omega) (Nat.le_of_ble_eq_true rfl) rfl ?_
      have q3 : A 0 l1 ≤ 5 := r.w.b0 (by omega)
      refine x_zeqN (by omega) i_153_30 ⟨fun g4 => ?_, fun g4 => ?_⟩
      · have k := kp g4 k
        refine x_aload_n i_153_36 rfl ?_
        refine x_iload_n i_153_37 rfl ?_
        refine n_iconst 3 i_153_38 rfl ?_
        refine n_atx (A 3 l1) i_153_39 r 3 (by omega) (by omega) (Nat.le_of_ble_eq_true rfl) rfl ?_
        refine x_istore_n i_153_42 rfl rfl ?_
        refine x_aload_n i_153_43 rfl ?_
        refine x_iload_n i_153_44 rfl ?_
        refine n_iconst 3 i_153_45 rfl ?_
        refine x_iload_n i_153_46 rfl ?_
        refine n_lays i_153_47 r 3 (by omega) (by omega) (show l2 < 2 by omega) (Nat.le_of_ble_eq_true rfl) (fun M5 r5 f5 => ?_)
        refine x_iload_n i_153_50 rfl ?_
        have q6 : A 3 l1 ≤ 1 := r.w.b3 (by omega)
        refine x_iret i_153_51 rn_153 rfl ?_
        exact k (show A 3 l1 ≤ 4294967295 by omega) _ r5 f5
      · have k := kn g4 k
        refine n_bipush 4294967291 i_153_33 rfl ?_
        refine x_iret i_153_35 rn_153 rfl ?_
        exact k (show 4294967291 ≤ 4294967295 by omega) _ r (FM.refl _)
    · have k := kn g2 k
      refine x_ifF i_153_18 (by decide +kernel) ?_
      refine n_bipush 4294967293 i_153_21 rfl ?_
      refine x_iret i_153_23 rn_153 rfl ?_
      exact k (show 4294967293 ≤ 4294967295 by omega) _ r (FM.refl _)
  · have k := kn g1 k
    refine x_iretI i_154_15 rn_154 (by decide +kernel) ?_
    refine x_ifF i_153_5 (by decide +kernel) ?_
    refine n_bipush 4294967294 i_153_8 rfl ?_
    refine x_iret i_153_10 rn_153 rfl ?_
    exact k (show 4294967294 ≤ 4294967295 by omega) _ r (FM.refl _)
