/-! the class's reading of a text: words, deeds -/
section RDD
variable {sc : a_Sc} {fd : Nat} {M M0 : a_Mm} {P : HA} {Q : Option Value → a_Hp → Prop} {n : Nat} {T : Nat → Nat}
theorem c_116_15 (c : CS M n T P) {k a : Nat} (hk : k < 36) {e : Nat} (ha : a + wl k ≤ n) : ∀ d i, wl k - i = d → i ≤ wl k → Q (some (.int (N (if wsm T k a d i = true then 1 else 0)))) (a_hp sc fd M) → a_Ex 116 15 [some (.ref 141), some (.ref (a_CB + 2 * k)), some (.int (N a)), some (.int (N e)), some (.int (N i))] [] (a_hp sc fd M) Q := by
  have h2 := c.n200
  have h7 := wl_le k hk
  intro d
  induction d with
  | zero =>
    intro i hd hi K
    have e1 : i = wl k := by omega
    subst e1
    rw [if_pos (show wsm T k a 0 (wl k) = true from rfl)] at K
    refine x_iload i_116_15 rfl ?_
    refine x_aload_n i_116_17 rfl ?_
    refine x_vS (r := [_]) (lj := [some _]) i_116_18 w_267 hk [] rfl rfl (Nat.le_of_ble_eq_true rfl) (Nat.le_of_ble_eq_true rfl) rfl ?_
    refine k_267 hk (rt_i ?_)
    refine x_igeN (by omega) (by omega) i_116_21 ⟨fun g1 => ?_, fun g1 => ?_⟩
    · refine n_iconst 1 i_116_50 rfl ?_
      refine x_iret i_116_51 rn_116 rfl ?_
      exact K
    · exact absurd (Nat.le_refl _) g1
  | succ d ih =>
    intro i hd hi K
    have hl : a + i < n := by omega
    have hj : i < wl k := by omega
    unfold wsm at K
    refine x_iload i_116_15 rfl ?_
    refine x_aload_n i_116_17 rfl ?_
    refine x_vS (r := [_]) (lj := [some _]) i_116_18 w_267 hk [] rfl rfl (Nat.le_of_ble_eq_true rfl) (Nat.le_of_ble_eq_true rfl) rfl ?_
    refine k_267 hk (rt_i ?_)
    refine x_igeN (by omega) (by omega) i_116_21 ⟨fun g1 => ?_, fun g1 => ?_⟩
    · exact absurd g1 (by omega)
    · refine x_aload_n i_116_24 rfl ?_
      refine x_gr i_116_25 ob_141 gr_4_7.1 gr_4_7.2 (rt_141_7 _) ?_
      refine x_iload_n i_116_28 rfl ?_
      refine x_iload i_116_29 rfl ?_
      refine x_iaddN i_116_31 ?_
      refine n_lds i_116_32 c hl ?_
      refine x_aload_n i_116_33 rfl ?_
      refine x_iload i_116_34 rfl ?_
      refine x_vS (r := [_]) (lj := [some _, some _]) i_116_36 w_269 hk [_] rfl rfl (Nat.le_of_ble_eq_true rfl) (Nat.le_of_ble_eq_true rfl) rfl ?_
      refine k_269 hk hj (rt_i ?_)
      refine x_ieq i_116_39 ⟨fun g2 => ?_, fun g2 => ?_⟩
      · rw [sx_e (c.t8 hl) (wc_ok k hk i hj).2] at g2
        rw [if_pos g2] at K
        refine n_iinc 1 i_116_44 rfl rfl rfl rfl ?_
        refine x_goto i_116_47 ?_
        exact ih (i + 1) (by omega) (by omega) K
      · rw [sx_e (c.t8 hl) (wc_ok k hk i hj).2] at g2
        rw [if_neg g2] at K
        refine n_iconst 0 i_116_42 rfl ?_
        refine x_iret i_116_43 rn_116 rfl ?_
        exact K
theorem c_116 (c : CS M n T P) {k a e : Nat} (hk : k < 36) (hae : a ≤ e) (hen : e ≤ n) (K : Q (some (.int (N (if isw T k a e = true then 1 else 0)))) (a_hp sc fd M)) : a_Ex 116 0 [some (.ref 141), some (.ref (a_CB + 2 * k)), some (.int (N a)), some (.int (N e)), none] [] (a_hp sc fd M) Q := by
  have h2 := c.n200
  have h7 := wl_le k hk
  unfold isw at K
  refine x_aload_n i_116_0 rfl ?_
  refine x_vS (r := []) (lj := [some _]) i_116_1 w_267 hk [] rfl rfl (Nat.le_of_ble_eq_true rfl) (Nat.le_of_ble_eq_true rfl) rfl ?_
  refine k_267 hk (rt_i ?_)
  refine x_iload_n i_116_4 rfl ?_
  refine x_iload_n i_116_5 rfl ?_
  refine x_isubN (by omega) i_116_6 ?_
  refine x_ieqN (by omega) (by omega) i_116_7 ⟨fun g1 => ?_, fun g1 => ?_⟩
  · rw [if_pos g1] at K
    refine n_iconst 0 i_116_12 rfl ?_
    refine x_istore i_116_13 rfl rfl ?_
    exact c_116_15 c hk (by omega) (wl k) 0 (by omega) (by omega) K
  · rw [if_neg g1] at K
    rw [if_neg (by decide)] at K
    refine n_iconst 0 i_116_10 rfl ?_
    refine x_iret i_116_11 rn_116 rfl ?_
    exact K
theorem c_115 {v : Nat} (hv : v < 10) (K : Q (some (.ref (a_CB + 2 * v))) (a_hp sc fd M)) : a_Ex 115 0 [some (.int (N v))] [] (a_hp sc fd M) Q := by
  refine x_iload_n i_115_0 rfl ?_
  by_cases g0 : v = 0
  · subst g0
    refine x_tswI (t := 52) (off := 51) i_115_1 (by decide +kernel) (by decide +kernel) (by decide) ?_
    refine x_ldcS i_115_52 ?_
    refine x_aret i_115_54 rn_115 rfl ?_
    exact K
  by_cases g1 : v = 1
  · subst g1
    refine x_tswI (t := 55) (off := 54) i_115_1 (by decide +kernel) (by decide +kernel) (by decide) ?_
    refine x_ldcS i_115_55 ?_
    refine x_aret i_115_57 rn_115 rfl ?_
    exact K
  by_cases g2 : v = 2
  · subst g2
    refine x_tswI (t := 58) (off := 57) i_115_1 (by decide +kernel) (by decide +kernel) (by decide) ?_
    refine x_ldcS i_115_58 ?_
    refine x_aret i_115_60 rn_115 rfl ?_
    exact K
  by_cases g3 : v = 3
  · subst g3
    refine x_tswI (t := 61) (off := 60) i_115_1 (by decide +kernel) (by decide +kernel) (by decide) ?_
    refine x_ldcS i_115_61 ?_
    refine x_aret i_115_63 rn_115 rfl ?_
    exact K
  by_cases g4 : v = 4
  · subst g4
    refine x_tswI (t := 64) (off := 63) i_115_1 (by decide +kernel) (by decide +kernel) (by decide) ?_
    refine x_ldcS i_115_64 ?_
    refine x_aret i_115_66 rn_115 rfl ?_
    exact K
  by_cases g5 : v = 5
  · subst g5
    refine x_tswI (t := 67) (off := 66) i_115_1 (by decide +kernel) (by decide +kernel) (by decide) ?_
    refine x_ldcS i_115_67 ?_
    refine x_aret i_115_69 rn_115 rfl ?_
    exact K
  by_cases g6 : v = 6
  · subst g6
    refine x_tswI (t := 70) (off := 69) i_115_1 (by decide +kernel) (by decide +kernel) (by decide) ?_
    refine x_ldcS i_115_70 ?_
    refine x_aret i_115_72 rn_115 rfl ?_
    exact K
  by_cases g7 : v = 7
  · subst g7
    refine x_tswI (t := 73) (off := 72) i_115_1 (by decide +kernel) (by decide +kernel) (by decide) ?_
    refine x_ldcS i_115_73 ?_
    refine x_aret i_115_75 rn_115 rfl ?_
    exact K
  by_cases g8 : v = 8
  · subst g8
    refine x_tswI (t := 76) (off := 75) i_115_1 (by decide +kernel) (by decide +kernel) (by decide) ?_
    refine x_ldcS i_115_76 ?_
    refine x_aret i_115_78 rn_115 rfl ?_
    exact K
  have e : v = 9 := by omega
  subst e
  refine x_tswO (t := 79) i_115_1 (by decide +kernel) (by decide) ?_
  refine x_ldcS i_115_79 ?_
  refine x_aret i_115_81 rn_115 rfl ?_
  exact K
theorem c_114_2 (c : CS M n T P) {a e : Nat} (hae : a ≤ e) (hen : e ≤ n) : ∀ d j, 10 - j = d → j ≤ 10 → Q (some (.int (N (kd T a e d j)))) (a_hp sc fd M) → a_Ex 114 2 [some (.ref 141), some (.int (N a)), some (.int (N e)), some (.int (N j))] [] (a_hp sc fd M) Q := by
  intro d
  induction d with
  | zero =>
    intro j hd hj K
    have e1 : j = 10 := by omega
    subst e1
    refine x_iload_n i_114_2 rfl ?_
    refine n_bipush 10 i_114_3 rfl ?_
    refine x_igeN (by omega) (by omega) i_114_5 ⟨fun g1 => ?_, fun g1 => ?_⟩
    · refine n_iconst 4294967295 i_114_29 rfl ?_
      refine x_iret i_114_30 rn_114 rfl ?_
      exact K
    · exact absurd (Nat.le_refl _) g1
  | succ d ih =>
    intro j hd hj K
    unfold kd at K
    refine x_iload_n i_114_2 rfl ?_
    refine n_bipush 10 i_114_3 rfl ?_
    refine x_igeN (by omega) (by omega) i_114_5 ⟨fun g1 => ?_, fun g1 => ?_⟩
    · exact absurd g1 (by omega)
    · refine x_aload_n i_114_8 rfl ?_
      refine x_iload_n i_114_9 rfl ?_
      refine x_sh (r := [_]) (lj := [some _]) i_114_10 ws_115 [_] rfl rfl (Nat.le_of_ble_eq_true rfl) (Nat.le_of_ble_eq_true rfl) rfl ?_
      refine c_115 (by omega) (rt_r ?_)
      refine x_iload_n i_114_13 rfl ?_
      refine x_iload_n i_114_14 rfl ?_
      refine x_vh (r := []) (lj := [some _, some _, some _, some _, none]) i_114_15 w_116 ob_141 [_, _, _] rfl rfl (Nat.le_of_ble_eq_true rfl) (Nat.le_of_ble_eq_true rfl) rfl ?_
      refine c_116 c (by omega) hae hen (rt_i ?_)
      by_cases gw : isw T j a e = true
      · rw [if_pos gw]
        rw [if_pos gw] at K
        refine x_ifF i_114_18 (by decide +kernel) ?_
        refine x_iload_n i_114_21 rfl ?_
        refine x_iret i_114_22 rn_114 rfl ?_
        exact K
      rw [if_neg gw]
      rw [if_neg gw] at K
      refine x_ifT i_114_18 (by decide +kernel) ?_
      refine n_iinc 1 i_114_23 rfl rfl rfl rfl ?_
      refine x_goto i_114_26 ?_
      exact ih (j + 1) (by omega) (by omega) K
theorem c_114 (c : CS M n T P) {a e : Nat} (hae : a ≤ e) (hen : e ≤ n) (K : Q (some (.int (N (kd T a e 10 0)))) (a_hp sc fd M)) : a_Ex 114 0 [some (.ref 141), some (.int (N a)), some (.int (N e)), none] [] (a_hp sc fd M) Q := by
  refine n_iconst 0 i_114_0 rfl ?_
  refine x_istore_n i_114_1 rfl rfl ?_
  exact c_114_2 c hae hen 10 0 rfl (by omega) K
theorem kd_lt {a e : Nat} : ∀ d j, j + d ≤ 10 → kd T a e d j < 10 ∨ kd T a e d j = 4294967295 := by
  intro d
  induction d with
  | zero => intro j _; exact Or.inr rfl
  | succ d ih =>
    intro j h
    unfold kd
    split
    · left; omega
    · exact ih (j + 1) (by omega)
theorem c_123_76 (c : CS M n T P) {e : Nat} (he : e ≤ n) (k : ∀ M', CS M' n T (a_up P 0 0 e) → FS M M' → Q (some (.int (N 1))) (a_hp sc fd M')) : a_Ex 123 76 [some (.ref 141), some (.int (N e))] [] (a_hp sc fd M) Q := by
  refine x_aload_n i_123_76 rfl ?_
  refine x_iload_n i_123_77 rfl ?_
  refine x_pi i_123_78 ob_141 pf_4_9.1 pf_4_9.2 ?_
  refine n_iconst 1 i_123_81 rfl ?_
  refine x_iret i_123_82 rn_123 rfl ?_
  exact k _ (c.put (by omega)) (FS.put (by omega))
theorem c_123 (c : CS M n T P) (hd : P 0 3 < 12) (k : ∀ M', CS M' n T (vtp T n P).2 → FS M M' → Q (some (.int (N (vtp T n P).1))) (a_hp sc fd M')) : a_Ex 123 0 [some (.ref 141), none] [] (a_hp sc fd M) Q := by
  have h2 := c.n200
  have hm := mst_d (T := T) (n := n) (P := P) (c := 32)
  have hv := mst_v (T := T) (n := n) (P := P) (c := 32)
  unfold vtp at k
  refine x_aload_n i_123_0 rfl ?_
  refine n_bipush 32 i_123_1 rfl ?_
  refine x_vh (r := []) (lj := [some _, some _]) i_123_3 w_122 ob_141 [_] rfl rfl (Nat.le_of_ble_eq_true rfl) (Nat.le_of_ble_eq_true rfl) rfl ?_
  refine c_122 c (by omega) (fun M1 c1 f1 => rt_i ?_)
  refine x_zneN (by omega) i_123_6 ⟨fun g1 => ?_, fun g1 => ?_⟩
  · rw [if_neg g1] at k
    generalize (mst T n 32 P).2 = P1 at c1 k hm
    have h4 := c1.w_le
    have h5 := w_ge (T := T) (n := n) (P := P1)
    unfold vtq at k
    refine x_aload_n i_123_11 rfl ?_
    refine x_vh (r := []) (lj := [some _, none]) i_123_12 w_111 ob_141 [] rfl rfl (Nat.le_of_ble_eq_true rfl) (Nat.le_of_ble_eq_true rfl) rfl ?_
    refine c_111 c1 (rt_i ?_)
    refine x_istore_n i_123_15 rfl rfl ?_
    refine x_aload_n i_123_16 rfl ?_
    refine x_ldcS i_123_17 ?_
    refine x_aload_n i_123_19 rfl ?_
    refine n_gi (x := P1 0 0) i_123_20 ob_141 gf_4_9.1 gf_4_9.2 c1.hat ?_
    refine x_iload_n i_123_23 rfl ?_
    refine x_vh (r := []) (lj := [some _, some _, some _, some _, none]) i_123_24 w_116 ob_141 [_, _, _] rfl rfl (Nat.le_of_ble_eq_true rfl) (Nat.le_of_ble_eq_true rfl) rfl ?_
    refine c_116 c1 (k := 10) (by omega) h5 h4 (rt_i ?_)
    by_cases gy : isw T 10 (P1 0 0) (wen T n P1) = true
    · rw [if_pos gy]
      rw [if_pos gy] at k
      refine x_ifF i_123_27 (by decide +kernel) ?_
      refine x_aload_n i_123_30 rfl ?_
      refine x_gr i_123_31 ob_141 gr_4_2.1 gr_4_2.2 (rt_141_2 _) ?_
      refine x_aload_n i_123_34 rfl ?_
      refine n_gi (x := P1 0 3) i_123_35 ob_141 gf_4_3.1 gf_4_3.2 c1.hdd ?_
      refine n_iconst 1 i_123_38 rfl ?_
      refine n_st i_123_39 ar_144 (by omega) (by omega) ?_
      refine x_goto i_123_40 ?_
      exact c_123_76 (c1.arr (w := 3) (by omega) (by omega) (by omega)) h4 (fun M2 c2 f2 => k M2 c2 ((f1.trans (FS.arr (w := 3) (by omega) (by omega))).trans f2))
    rw [if_neg gy]
    rw [if_neg gy] at k
    refine x_ifT i_123_27 (by decide +kernel) ?_
    refine x_aload_n i_123_43 rfl ?_
    refine x_ldcS i_123_44 ?_
    refine x_aload_n i_123_46 rfl ?_
    refine n_gi (x := P1 0 0) i_123_47 ob_141 gf_4_9.1 gf_4_9.2 c1.hat ?_
    refine x_iload_n i_123_50 rfl ?_
    refine x_vh (r := []) (lj := [some _, some _, some _, some _, none]) i_123_51 w_116 ob_141 [_, _, _] rfl rfl (Nat.le_of_ble_eq_true rfl) (Nat.le_of_ble_eq_true rfl) rfl ?_
    refine c_116 c1 (k := 11) (by omega) h5 h4 (rt_i ?_)
    by_cases gn : isw T 11 (P1 0 0) (wen T n P1) = true
    · rw [if_pos gn]
      rw [if_pos gn] at k
      refine x_ifF i_123_54 (by decide +kernel) ?_
      refine x_aload_n i_123_57 rfl ?_
      refine x_gr i_123_58 ob_141 gr_4_2.1 gr_4_2.2 (rt_141_2 _) ?_
      refine x_aload_n i_123_61 rfl ?_
      refine n_gi (x := P1 0 3) i_123_62 ob_141 gf_4_3.1 gf_4_3.2 c1.hdd ?_
      refine n_iconst 0 i_123_65 rfl ?_
      refine n_st i_123_66 ar_144 (by omega) (by omega) ?_
      refine x_goto i_123_67 ?_
      exact c_123_76 (c1.arr (w := 3) (by omega) (by omega) (by omega)) h4 (fun M2 c2 f2 => k M2 c2 ((f1.trans (FS.arr (w := 3) (by omega) (by omega))).trans f2))
    rw [if_neg gn]
    rw [if_neg gn] at k
    refine x_ifT i_123_54 (by decide +kernel) ?_
    refine x_aload_n i_123_70 rfl ?_
    refine x_vh (r := []) (lj := [some _]) i_123_71 w_112 ob_141 [] rfl rfl (Nat.le_of_ble_eq_true rfl) (Nat.le_of_ble_eq_true rfl) rfl ?_
    refine c_112 c1 (fun M2 c2 f2 => rt_n ?_)
    refine n_iconst 0 i_123_74 rfl ?_
    refine x_iret i_123_75 rn_123 rfl ?_
    exact k M2 c2 (f1.trans f2)
  · rw [if_pos g1] at k
    refine n_iconst 0 i_123_9 rfl ?_
    refine x_iret i_123_10 rn_123 rfl ?_
    exact k M1 c1 f1
theorem sit_d : (sit T n P).2 0 3 = P 0 3 := by
  unfold sit
  split
  · exact mst_d
  · exact (dgw_d (by omega)).trans mst_d
theorem lmt_d : (lmt T n P).2 0 3 = P 0 3 := by
  unfold lmt
  split
  · exact (dgw_d (by omega)).trans rfl
  · rfl
theorem vtp_d : (vtp T n P).2 0 3 = P 0 3 := by
  unfold vtp
  split
  · exact mst_d
  · refine Eq.trans ?_ (mst_d (T := T) (n := n) (c := 32))
    unfold vtq
    split
    · rfl
    · split
      · rfl
      · rfl
theorem rst_d {k : Nat} : (rst T n k P).2 0 3 = P 0 3 := by
  unfold rst
  repeat' split
  all_goals first | exact lmt_d | exact sit_d | exact lmt_d.trans sit_d | exact vtp_d.trans sit_d | rfl
theorem sit_v : (sit T n P).1 < 2 := by
  unfold sit dgw
  repeat' split
  all_goals first | exact (by omega : (1 : Nat) < 2) | exact (by omega : (0 : Nat) < 2) | exact mst_v
theorem lmt_v : (lmt T n P).1 < 2 := by
  unfold lmt dgw
  repeat' split
  all_goals first | exact (by omega : (1 : Nat) < 2) | exact (by omega : (0 : Nat) < 2) | exact mst_v
theorem vtp_v : (vtp T n P).1 < 2 := by
  unfold vtp vtq
  repeat' split
  all_goals first | exact (by omega : (1 : Nat) < 2) | exact (by omega : (0 : Nat) < 2)
theorem rst_v {k : Nat} : (rst T n k P).1 < 2 := by
  unfold rst
  repeat' split
  all_goals first | exact lmt_v | exact sit_v | exact vtp_v | exact (by omega : (1 : Nat) < 2) | exact (by omega : (0 : Nat) < 2)
theorem c_117_52 (c : CS M n T P) (hd : P 0 3 < 12) {v : Nat} (k : ∀ M', CS M' n T (lmt T n P).2 → FS M M' → Q (some (.int (N (lmt T n P).1))) (a_hp sc fd M')) : a_Ex 117 52 [some (.ref 141), some (.int (N v))] [] (a_hp sc fd M) Q := by
  have hv := lmt_v (T := T) (n := n) (P := P)
  refine x_aload_n i_117_52 rfl ?_
  refine x_vh (r := []) (lj := [some _]) i_117_53 w_118 ob_141 [] rfl rfl (Nat.le_of_ble_eq_true rfl) (Nat.le_of_ble_eq_true rfl) rfl ?_
  refine c_118 c hd (fun M1 c1 f1 => rt_i ?_)
  refine x_iret i_117_56 rn_117 (nb1 (by omega)) ?_
  exact k M1 c1 f1
theorem c_117_57 (c : CS M n T P) (hd : P 0 3 < 12) {v : Nat} (k : ∀ M', CS M' n T (sit T n P).2 → FS M M' → Q (some (.int (N (sit T n P).1))) (a_hp sc fd M')) : a_Ex 117 57 [some (.ref 141), some (.int (N v))] [] (a_hp sc fd M) Q := by
  have hv := sit_v (T := T) (n := n) (P := P)
  refine x_aload_n i_117_57 rfl ?_
  refine x_vh (r := []) (lj := [some _]) i_117_58 w_121 ob_141 [] rfl rfl (Nat.le_of_ble_eq_true rfl) (Nat.le_of_ble_eq_true rfl) rfl ?_
  refine c_121 c hd (fun M1 c1 f1 => rt_i ?_)
  refine x_iret i_117_61 rn_117 (nb1 (by omega)) ?_
  exact k M1 c1 f1
theorem c_117_62 (c : CS M n T P) (hd : P 0 3 < 12) {v : Nat} (k : ∀ M', CS M' n T (if (sit T n P).1 = 0 then (0, (sit T n P).2) else lmt T n (sit T n P).2).2 → FS M M' → Q (some (.int (N (if (sit T n P).1 = 0 then (0, (sit T n P).2) else lmt T n (sit T n P).2).1))) (a_hp sc fd M')) : a_Ex 117 62 [some (.ref 141), some (.int (N v))] [] (a_hp sc fd M) Q := by
  have hv := sit_v (T := T) (n := n) (P := P)
  have hd1 := sit_d (T := T) (n := n) (P := P)
  refine x_aload_n i_117_62 rfl ?_
  refine x_vh (r := []) (lj := [some _]) i_117_63 w_121 ob_141 [] rfl rfl (Nat.le_of_ble_eq_true rfl) (Nat.le_of_ble_eq_true rfl) rfl ?_
  refine c_121 c hd (fun M1 c1 f1 => rt_i ?_)
  refine x_zeqN (by omega) i_117_66 ⟨fun g1 => ?_, fun g1 => ?_⟩
  · rw [if_pos g1] at k
    refine n_iconst 0 i_117_80 rfl ?_
    refine x_iret i_117_81 rn_117 (by decide +kernel) ?_
    first | exact k M2 c2 (f1.trans f2) | exact k M1 c1 f1
  · rw [if_neg g1] at k
    have hw := lmt_v (T := T) (n := n) (P := (sit T n P).2)
    refine x_aload_n i_117_69 rfl ?_
    refine x_vh (r := []) (lj := [some _]) i_117_70 w_118 ob_141 [] rfl rfl (Nat.le_of_ble_eq_true rfl) (Nat.le_of_ble_eq_true rfl) rfl ?_
    refine c_118 c1 (by omega) (fun M2 c2 f2 => rt_i ?_)
    refine x_zeqN (by omega) i_117_73 ⟨fun g2 => ?_, fun g2 => ?_⟩
    · rw [g2] at k
      refine n_iconst 0 i_117_80 rfl ?_
      refine x_iret i_117_81 rn_117 (by decide +kernel) ?_
      first | exact k M2 c2 (f1.trans f2) | exact k M1 c1 f1
    · rw [show (lmt T n (sit T n P).2).1 = 1 by omega] at k
      refine n_iconst 1 i_117_76 rfl ?_
      refine x_goto i_117_77 ?_
      refine x_iret i_117_81 rn_117 (by decide +kernel) ?_
      first | exact k M2 c2 (f1.trans f2) | exact k M1 c1 f1
theorem c_117_82 (c : CS M n T P) (hd : P 0 3 < 12) {v : Nat} (k : ∀ M', CS M' n T (if (sit T n P).1 = 0 then (0, (sit T n P).2) else vtp T n (sit T n P).2).2 → FS M M' → Q (some (.int (N (if (sit T n P).1 = 0 then (0, (sit T n P).2) else vtp T n (sit T n P).2).1))) (a_hp sc fd M')) : a_Ex 117 82 [some (.ref 141), some (.int (N v))] [] (a_hp sc fd M) Q := by
  have hv := sit_v (T := T) (n := n) (P := P)
  have hd1 := sit_d (T := T) (n := n) (P := P)
  refine x_aload_n i_117_82 rfl ?_
  refine x_vh (r := []) (lj := [some _]) i_117_83 w_121 ob_141 [] rfl rfl (Nat.le_of_ble_eq_true rfl) (Nat.le_of_ble_eq_true rfl) rfl ?_
  refine c_121 c hd (fun M1 c1 f1 => rt_i ?_)
  refine x_zeqN (by omega) i_117_86 ⟨fun g1 => ?_, fun g1 => ?_⟩
  · rw [if_pos g1] at k
    refine n_iconst 0 i_117_100 rfl ?_
    refine x_iret i_117_101 rn_117 (by decide +kernel) ?_
    first | exact k M2 c2 (f1.trans f2) | exact k M1 c1 f1
  · rw [if_neg g1] at k
    have hw := vtp_v (T := T) (n := n) (P := (sit T n P).2)
    refine x_aload_n i_117_89 rfl ?_
    refine x_vh (r := []) (lj := [some _, none]) i_117_90 w_123 ob_141 [] rfl rfl (Nat.le_of_ble_eq_true rfl) (Nat.le_of_ble_eq_true rfl) rfl ?_
    refine c_123 c1 (by omega) (fun M2 c2 f2 => rt_i ?_)
    refine x_zeqN (by omega) i_117_93 ⟨fun g2 => ?_, fun g2 => ?_⟩
    · rw [g2] at k
      refine n_iconst 0 i_117_100 rfl ?_
      refine x_iret i_117_101 rn_117 (by decide +kernel) ?_
      first | exact k M2 c2 (f1.trans f2) | exact k M1 c1 f1
    · rw [show (vtp T n (sit T n P).2).1 = 1 by omega] at k
      refine n_iconst 1 i_117_96 rfl ?_
      refine x_goto i_117_97 ?_
      refine x_iret i_117_101 rn_117 (by decide +kernel) ?_
      first | exact k M2 c2 (f1.trans f2) | exact k M1 c1 f1
theorem c_117 (c : CS M n T P) (hd : P 0 3 < 12) {v : Nat} (hv : v < 10) (k : ∀ M', CS M' n T (rst T n v P).2 → FS M M' → Q (some (.int (N (rst T n v P).1))) (a_hp sc fd M')) : a_Ex 117 0 [some (.ref 141), some (.int (N v))] [] (a_hp sc fd M) Q := by
  unfold rst at k
  refine x_iload_n i_117_0 rfl ?_
  by_cases g0 : v = 0
  · subst g0
    repeat first | rw [if_pos (by omega)] at k | rw [if_neg (by omega)] at k
    refine x_tswI (t := 52) (off := 51) i_117_1 (by decide +kernel) (by decide +kernel) (by decide) ?_
    exact c_117_52 c hd k
  by_cases g1 : v = 1
  · subst g1
    repeat first | rw [if_pos (by omega)] at k | rw [if_neg (by omega)] at k
    refine x_tswI (t := 52) (off := 51) i_117_1 (by decide +kernel) (by decide +kernel) (by decide) ?_
    exact c_117_52 c hd k
  by_cases g2 : v = 2
  · subst g2
    repeat first | rw [if_pos (by omega)] at k | rw [if_neg (by omega)] at k
    refine x_tswI (t := 52) (off := 51) i_117_1 (by decide +kernel) (by decide +kernel) (by decide) ?_
    exact c_117_52 c hd k
  by_cases g3 : v = 3
  · subst g3
    repeat first | rw [if_pos (by omega)] at k | rw [if_neg (by omega)] at k
    refine x_tswI (t := 57) (off := 56) i_117_1 (by decide +kernel) (by decide +kernel) (by decide) ?_
    exact c_117_57 c hd k
  by_cases g4 : v = 4
  · subst g4
    repeat first | rw [if_pos (by omega)] at k | rw [if_neg (by omega)] at k
    refine x_tswI (t := 57) (off := 56) i_117_1 (by decide +kernel) (by decide +kernel) (by decide) ?_
    exact c_117_57 c hd k
  by_cases g5 : v = 5
  · subst g5
    repeat first | rw [if_pos (by omega)] at k | rw [if_neg (by omega)] at k
    refine x_tswI (t := 62) (off := 61) i_117_1 (by decide +kernel) (by decide +kernel) (by decide) ?_
    exact c_117_62 c hd k
  by_cases g6 : v = 6
  · subst g6
    repeat first | rw [if_pos (by omega)] at k | rw [if_neg (by omega)] at k
    refine x_tswI (t := 57) (off := 56) i_117_1 (by decide +kernel) (by decide +kernel) (by decide) ?_
    exact c_117_57 c hd k
  by_cases g7 : v = 7
  · subst g7
    repeat first | rw [if_pos (by omega)] at k | rw [if_neg (by omega)] at k
    refine x_tswI (t := 102) (off := 101) i_117_1 (by decide +kernel) (by decide +kernel) (by decide) ?_
    exact (by
      refine n_iconst 1 i_117_102 rfl ?_
      refine x_iret i_117_103 rn_117 (by decide +kernel) ?_
      exact k M c (FS.refl M))
  by_cases g8 : v = 8
  · subst g8
    repeat first | rw [if_pos (by omega)] at k | rw [if_neg (by omega)] at k
    refine x_tswI (t := 82) (off := 81) i_117_1 (by decide +kernel) (by decide +kernel) (by decide) ?_
    exact c_117_82 c hd k
  have e : v = 9 := by omega
  subst e
  repeat first | rw [if_pos (by omega)] at k | rw [if_neg (by omega)] at k
  refine x_tswO (t := 102) i_117_1 (by decide +kernel) (by decide) ?_
  refine n_iconst 1 i_117_102 rfl ?_
  refine x_iret i_117_103 rn_117 (by decide +kernel) ?_
  exact k M c (FS.refl M)
theorem c_110 (c : CS M n T P) (k : ∀ M', CS M' n T (ded T n P) → FS M M' → Q none (a_hp sc fd M')) : a_Ex 110 0 [some (.ref 141), none, none, none] [] (a_hp sc fd M) Q := by
  have h2 := c.n200
  have h3 := c.d12
  have h4 := c.w_le
  have h5 := w_ge (T := T) (n := n) (P := P)
  have h6 := kd_lt (T := T) (a := P 0 0) (e := wen T n P) 10 0 (by omega)
  unfold ded at k
  refine x_aload_n i_110_0 rfl ?_
  refine n_gi (x := P 0 0) i_110_1 ob_141 gf_4_9.1 gf_4_9.2 c.hat ?_
  refine x_istore_n i_110_4 rfl rfl ?_
  refine x_aload_n i_110_5 rfl ?_
  refine x_vh (r := []) (lj := [some _, none]) i_110_6 w_111 ob_141 [] rfl rfl (Nat.le_of_ble_eq_true rfl) (Nat.le_of_ble_eq_true rfl) rfl ?_
  refine c_111 c (rt_i ?_)
  refine x_istore_n i_110_9 rfl rfl ?_
  refine x_iload_n i_110_10 rfl ?_
  refine x_iload_n i_110_11 rfl ?_
  refine x_ineN (by omega) (by omega) i_110_12 ⟨fun g1 => ?_, fun g1 => ?_⟩
  · rw [if_neg g1] at k
    refine x_aload_n i_110_20 rfl ?_
    refine x_iload_n i_110_21 rfl ?_
    refine x_iload_n i_110_22 rfl ?_
    refine x_vh (r := []) (lj := [some _, some _, some _, none]) i_110_23 w_114 ob_141 [_, _] rfl rfl (Nat.le_of_ble_eq_true rfl) (Nat.le_of_ble_eq_true rfl) rfl ?_
    refine c_114 c h5 h4 (rt_i ?_)
    refine x_istore_n i_110_26 rfl rfl ?_
    refine x_iload_n i_110_27 rfl ?_
    refine n_iconst 4294967295 i_110_28 rfl ?_
    refine n_ineU (by omega) (by omega) i_110_29 ⟨fun g2 => ?_, fun g2 => ?_⟩
    · rw [if_neg g2] at k
      have h7 := h6.resolve_right g2
      refine x_aload_n i_110_39 rfl ?_
      refine n_gi (x := P 0 3) i_110_40 ob_141 gf_4_3.1 gf_4_3.2 c.hdd ?_
      refine n_bipush 12 i_110_43 rfl ?_
      refine x_iltN (by omega) (by omega) i_110_45 ⟨fun g3 => ?_, fun g3 => ?_⟩
      · rw [if_neg (by omega)] at k
        generalize kd T (P 0 0) (wen T n P) 10 0 = kk at h7 k ⊢
        generalize wen T n P = e at h4 h5 k ⊢
        have c1 := c.put (k := 9) (j := 0) (v := e) (by omega)
        have f1 : FS M (a_up M 141 9 (N e)) := FS.put (by omega)
        refine x_aload_n i_110_56 rfl ?_
        refine x_iload_n i_110_57 rfl ?_
        refine x_pi i_110_58 ob_141 pf_4_9.1 pf_4_9.2 ?_
        generalize a_up M 141 9 (N e) = M1 at c1 f1 ⊢
        refine x_aload_n i_110_61 rfl ?_
        refine x_gr i_110_62 ob_141 gr_4_0.1 gr_4_0.2 (rt_141_0 _) ?_
        refine x_aload_n i_110_65 rfl ?_
        refine n_gi (x := P 0 3) i_110_66 ob_141 gf_4_3.1 gf_4_3.2 c1.hdd ?_
        refine x_iload_n i_110_69 rfl ?_
        refine n_st i_110_70 ar_142 (by omega) (by omega) ?_
        have c2 := c1.arr (w := 1) (i := P 0 3) (v := kk) (by omega) (by omega) (by omega)
        have f2 := f1.trans (FS.arr (M := M1) (w := 1) (i := P 0 3) (v := N kk) (by omega) (by omega))
        generalize a_up M1 (141 + 1) (P 0 3) (N kk) = M2 at c2 f2 ⊢
        refine x_aload_n i_110_71 rfl ?_
        refine x_gr i_110_72 ob_141 gr_4_1.1 gr_4_1.2 (rt_141_1 _) ?_
        refine x_aload_n i_110_75 rfl ?_
        refine n_gi (x := P 0 3) i_110_76 ob_141 gf_4_3.1 gf_4_3.2 c2.hdd ?_
        refine n_iconst 0 i_110_79 rfl ?_
        refine n_st i_110_80 ar_143 (by omega) (by omega) ?_
        have c3 := c2.arr (w := 2) (i := P 0 3) (v := 0) (by omega) (by omega) (by omega)
        have f3 := f2.trans (FS.arr (M := M2) (w := 2) (i := P 0 3) (v := N 0) (by omega) (by omega))
        generalize a_up M2 (141 + 2) (P 0 3) (N 0) = M3 at c3 f3 ⊢
        refine x_aload_n i_110_81 rfl ?_
        refine x_gr i_110_82 ob_141 gr_4_2.1 gr_4_2.2 (rt_141_2 _) ?_
        refine x_aload_n i_110_85 rfl ?_
        refine n_gi (x := P 0 3) i_110_86 ob_141 gf_4_3.1 gf_4_3.2 c3.hdd ?_
        refine n_iconst 4294967295 i_110_89 rfl ?_
        refine n_st i_110_90 ar_144 (by omega) (by omega) ?_
        have c4 := c3.arr (w := 3) (i := P 0 3) (v := 4294967295) (by omega) (by omega) (by omega)
        have f4 := f3.trans (FS.arr (M := M3) (w := 3) (i := P 0 3) (v := N 4294967295) (by omega) (by omega))
        generalize a_up M3 (141 + 3) (P 0 3) (N 4294967295) = M4 at c4 f4 ⊢
        have hd1 : (dd1 P e kk) 0 3 = P 0 3 := rfl
        change CS M4 n T (dd1 P e kk) at c4
        generalize dd1 P e kk = P4 at c4 k hd1
        have hr := rst_v (T := T) (n := n) (P := P4) (k := kk)
        have hr2 := rst_d (T := T) (n := n) (P := P4) (k := kk)
        unfold dd2 at k
        refine x_aload_n i_110_91 rfl ?_
        refine x_iload_n i_110_92 rfl ?_
        refine x_vh (r := []) (lj := [some _, some _]) i_110_93 w_117 ob_141 [_] rfl rfl (Nat.le_of_ble_eq_true rfl) (Nat.le_of_ble_eq_true rfl) rfl ?_
        refine c_117 c4 (by omega) (by omega) (fun M5 c5 f5 => rt_i ?_)
        refine x_zeqN (by omega) i_110_96 ⟨fun g4 => ?_, fun g4 => ?_⟩
        · rw [if_pos g4] at k
          refine x_vret i_110_118 rn_110 ?_
          first | exact k M1 c1 f1 | exact k M5 c5 (f4.trans f5) | exact k M6 c6 ((f4.trans f5).trans f6) | exact k _ (c6.put (k := 3) (j := 3) (by omega)) (((f4.trans f5).trans f6).trans (FS.put (by omega)))
        · rw [if_neg g4] at k
          generalize (rst T n kk P4).2 = P5 at c5 k hr2
          have hm := mst_d (T := T) (n := n) (P := P5) (c := 59)
          have hv := mst_v (T := T) (n := n) (P := P5) (c := 59)
          refine x_aload_n i_110_99 rfl ?_
          refine n_bipush 59 i_110_100 rfl ?_
          refine x_vh (r := []) (lj := [some _, some _]) i_110_102 w_122 ob_141 [_] rfl rfl (Nat.le_of_ble_eq_true rfl) (Nat.le_of_ble_eq_true rfl) rfl ?_
          refine c_122 c5 (by omega) (fun M6 c6 f6 => rt_i ?_)
          refine x_zeqN (by omega) i_110_105 ⟨fun g5 => ?_, fun g5 => ?_⟩
          · rw [if_pos g5] at k
            refine x_vret i_110_118 rn_110 ?_
            first | exact k M1 c1 f1 | exact k M5 c5 (f4.trans f5) | exact k M6 c6 ((f4.trans f5).trans f6) | exact k _ (c6.put (k := 3) (j := 3) (by omega)) (((f4.trans f5).trans f6).trans (FS.put (by omega)))
          · rw [if_neg g5] at k
            refine x_aload_n i_110_108 rfl ?_
            refine x_dup i_110_109 rfl ?_
            refine n_gi (x := (mst T n 59 P5).2 0 3) i_110_110 ob_141 gf_4_3.1 gf_4_3.2 c6.hdd ?_
            refine n_iconst 1 i_110_113 rfl ?_
            refine x_iaddN i_110_114 ?_
            refine x_pi i_110_115 ob_141 pf_4_3.1 pf_4_3.2 ?_
            refine x_vret i_110_118 rn_110 ?_
            first | exact k M1 c1 f1 | exact k M5 c5 (f4.trans f5) | exact k M6 c6 ((f4.trans f5).trans f6) | exact k _ (c6.put (k := 3) (j := 3) (by omega)) (((f4.trans f5).trans f6).trans (FS.put (by omega)))
      · rw [if_pos (by omega)] at k
        refine x_aload_n i_110_48 rfl ?_
        refine n_iconst 3 i_110_49 rfl ?_
        refine x_vh (r := []) (lj := [some _, some _]) i_110_50 w_113 ob_141 [_] rfl rfl (Nat.le_of_ble_eq_true rfl) (Nat.le_of_ble_eq_true rfl) rfl ?_
        refine c_113 c (by decide) (fun M1 c1 f1 => rt_n ?_)
        refine x_goto i_110_53 ?_
        refine x_vret i_110_118 rn_110 ?_
        first | exact k M1 c1 f1 | exact k M5 c5 (f4.trans f5) | exact k M6 c6 ((f4.trans f5).trans f6) | exact k _ (c6.put (k := 3) (j := 3) (by omega)) (((f4.trans f5).trans f6).trans (FS.put (by omega)))
    · rw [if_pos g2] at k
      refine x_aload_n i_110_32 rfl ?_
      refine x_vh (r := []) (lj := [some _]) i_110_33 w_112 ob_141 [] rfl rfl (Nat.le_of_ble_eq_true rfl) (Nat.le_of_ble_eq_true rfl) rfl ?_
      refine c_112 c (fun M1 c1 f1 => rt_n ?_)
      refine x_goto i_110_36 ?_
      refine x_vret i_110_118 rn_110 ?_
      first | exact k M1 c1 f1 | exact k M5 c5 (f4.trans f5) | exact k M6 c6 ((f4.trans f5).trans f6) | exact k _ (c6.put (k := 3) (j := 3) (by omega)) (((f4.trans f5).trans f6).trans (FS.put (by omega)))
  · rw [if_pos g1] at k
    refine x_aload_n i_110_15 rfl ?_
    refine x_vh (r := []) (lj := [some _]) i_110_16 w_112 ob_141 [] rfl rfl (Nat.le_of_ble_eq_true rfl) (Nat.le_of_ble_eq_true rfl) rfl ?_
    refine c_112 c (fun M1 c1 f1 => rt_n ?_)
    refine x_vret i_110_19 rn_110 ?_
    first | exact k M1 c1 f1 | exact k M5 c5 (f4.trans f5) | exact k M6 c6 ((f4.trans f5).trans f6) | exact k _ (c6.put (k := 3) (j := 3) (by omega)) (((f4.trans f5).trans f6).trans (FS.put (by omega)))
def rds (T : Nat → Nat) (n : Nat) : Nat → HA → HA
  | 0, P => P
  | d + 1, P => if P 0 0 < n ∧ P 0 1 = 0 then rds T n d (ded T n P) else P
theorem fl_n0 (s : Nat) : ¬ flw T n s = 0 := by unfold flw; split <;> decide
theorem dd2_c {d : Nat} {q : Nat × HA} (hq : q.1 = 0 → ¬ q.2 0 1 = 0) (h3 : q.2 0 3 = d) : ¬ dd2 T n q 0 1 = 0 ∨ dd2 T n q 0 3 = d + 1 := by
  unfold dd2
  split
  · rename_i h; exact Or.inl (hq h)
  · split
    · rename_i h
      left
      unfold mst at h ⊢
      split at h
      · exact absurd h (show ¬ (1 : Nat) = 0 by decide)
      · rename_i h1
        rw [if_neg h1]
        exact fl_n0 _
    · right
      rw [a_up_def, if_pos ⟨rfl, rfl⟩, mst_d, h3]
theorem mst_f {c : Nat} (h : (mst T n c P).1 = 0) : ¬ (mst T n c P).2 0 1 = 0 := by
  unfold mst at h ⊢
  split at h
  · exact absurd h (show ¬ (1 : Nat) = 0 by decide)
  · rename_i h1
    rw [if_neg h1]
    exact fl_n0 _
theorem dgw_f {w : Nat} (h : (dgw T n w P).1 = 0) : ¬ (dgw T n w P).2 0 1 = 0 := by
  unfold dgw at h ⊢
  split at h
  · exact absurd h (show ¬ (1 : Nat) = 0 by decide)
  · rename_i h1
    rw [if_neg h1]
    exact fl_n0 _
theorem sit_f (h : (sit T n P).1 = 0) : ¬ (sit T n P).2 0 1 = 0 := by
  unfold sit at h ⊢
  split at h
  · rename_i h1; rw [if_pos h1]; exact mst_f h1
  · rename_i h1; rw [if_neg h1]; exact dgw_f h
theorem lmt_f (h : (lmt T n P).1 = 0) : ¬ (lmt T n P).2 0 1 = 0 := by
  unfold lmt at h ⊢
  split at h
  · rename_i h1; rw [if_pos h1]; exact dgw_f h
  · exact absurd h (show ¬ (1 : Nat) = 0 by decide)
theorem vtq_f (h : (vtq T n P).1 = 0) : ¬ (vtq T n P).2 0 1 = 0 := by
  unfold vtq at h ⊢
  split at h
  · exact absurd h (show ¬ (1 : Nat) = 0 by decide)
  · rename_i h1
    rw [if_neg h1]
    split at h
    · exact absurd h (show ¬ (1 : Nat) = 0 by decide)
    · rename_i h2
      rw [if_neg h2]
      exact fl_n0 _
theorem vtp_f (h : (vtp T n P).1 = 0) : ¬ (vtp T n P).2 0 1 = 0 := by
  unfold vtp at h ⊢
  split at h
  · rename_i h1; rw [if_pos h1]; exact mst_f h1
  · rename_i h1; rw [if_neg h1]; exact vtq_f h
theorem rst_f {k : Nat} (h : (rst T n k P).1 = 0) : ¬ (rst T n k P).2 0 1 = 0 := by
  unfold rst at h ⊢
  split at h
  · rename_i h1; rw [if_pos h1]; exact lmt_f h
  · rename_i h1
    rw [if_neg h1]
    split at h
    · rename_i h2; rw [if_pos h2]; exact sit_f h
    · rename_i h2
      rw [if_neg h2]
      split at h
      · rename_i h3
        rw [if_pos h3]
        split at h
        · rename_i h4; rw [if_pos h4]; exact sit_f h4
        · rename_i h4; rw [if_neg h4]; exact lmt_f h
      · rename_i h3
        rw [if_neg h3]
        split at h
        · rename_i h5
          rw [if_pos h5]
          split at h
          · rename_i h4; rw [if_pos h4]; exact sit_f h4
          · rename_i h4; rw [if_neg h4]; exact vtp_f h
        · exact absurd h (show ¬ (1 : Nat) = 0 by decide)
theorem ded_c (h12 : P 0 3 ≤ 12) : ¬ ded T n P 0 1 = 0 ∨ (ded T n P 0 3 = P 0 3 + 1 ∧ P 0 3 < 12) := by
  unfold ded
  split
  · exact Or.inl (fl_n0 _)
  · split
    · exact Or.inl (fl_n0 _)
    · split
      · exact Or.inl (show ¬ (3 : Nat) = 0 by decide)
      · rename_i h
        rcases dd2_c (T := T) (n := n) rst_f (rst_d (k := kd T (P 0 0) (wen T n P) 10 0) (P := dd1 P (wen T n P) (kd T (P 0 0) (wen T n P) 10 0))) with g | g
        · exact Or.inl g
        · exact Or.inr ⟨g, by omega⟩
theorem rds_f {d : Nat} (h : ¬ P 0 1 = 0) : rds T n d P = P := by
  cases d with
  | zero => rfl
  | succ d => unfold rds; rw [if_neg (fun q => h q.2)]
theorem rds_1 {d : Nat} : rds T n (d + 1) P = if P 0 0 < n ∧ P 0 1 = 0 then rds T n d (ded T n P) else P := rfl
theorem rds_s : ∀ d (P : HA), P 0 3 ≤ 12 → 13 ≤ d + P 0 3 → rds T n (d + 1) P = rds T n d P := by
  intro d
  induction d with
  | zero => intro P h1 h2; omega
  | succ d ih =>
    intro P h1 h2
    rw [rds_1 (P := P) (d := d + 1), rds_1 (P := P) (d := d)]
    split
    · rcases ded_c (T := T) (n := n) h1 with g | g
      · rw [rds_f g, rds_f g]
      · exact ih _ (by omega) (by omega)
    · rfl
theorem c_109_43 {l1 l2 : Nat} : ∀ d j {M : a_Mm} {P : HA}, 13 - j = d → j ≤ 13 → CS M n T P → (∀ M', CS M' n T (rds T n d P) → FS M M' → Q none (a_hp sc fd M')) → a_Ex 109 43 [some (.ref 141), some (.ref l1), some (.int (N l2)), some (.int (N j))] [] (a_hp sc fd M) Q := by
  intro d
  induction d with
  | zero =>
    intro j M P hd hj c k
    have e : j = 13 := by omega
    subst e
    refine x_iload_n i_109_43 rfl ?_
    refine n_bipush 12 i_109_44 rfl ?_
    refine x_igtN (by omega) (by omega) i_109_46 ⟨fun g1 => ?_, fun g1 => ?_⟩
    · refine x_vret i_109_77 rn_109 ?_
      exact k M c (FS.refl M)
    · exact absurd (show 12 < 13 by omega) g1
  | succ d ih =>
    intro j M P hd hj c k
    have h2 := c.n200
    have h3 := c.a_n
    have h4 := c.f3
    rw [rds_1] at k
    refine x_iload_n i_109_43 rfl ?_
    refine n_bipush 12 i_109_44 rfl ?_
    refine x_igtN (by omega) (by omega) i_109_46 ⟨fun g1 => ?_, fun g1 => ?_⟩
    · exact absurd g1 (by omega)
    · refine x_aload_n i_109_49 rfl ?_
      refine n_gi (x := P 0 0) i_109_50 ob_141 gf_4_9.1 gf_4_9.2 c.hat ?_
      refine x_aload_n i_109_53 rfl ?_
      refine n_gi (x := n) i_109_54 ob_141 gf_4_8.1 gf_4_8.2 c.hln ?_
      refine x_igeN (by omega) (by omega) i_109_57 ⟨fun g2 => ?_, fun g2 => ?_⟩
      · rw [if_neg (by omega)] at k
        refine x_vret i_109_77 rn_109 ?_
        exact k M c (FS.refl M)
      · refine x_aload_n i_109_60 rfl ?_
        refine n_gi (x := P 0 1) i_109_61 ob_141 gf_4_4.1 gf_4_4.2 c.hft ?_
        refine x_zneN (by omega) i_109_64 ⟨fun g3 => ?_, fun g3 => ?_⟩
        · rw [if_neg (by omega)] at k
          refine x_vret i_109_77 rn_109 ?_
          exact k M c (FS.refl M)
        · rw [if_pos (by omega)] at k
          refine x_aload_n i_109_67 rfl ?_
          refine x_vh (r := []) (lj := [some _, none, none, none]) i_109_68 w_110 ob_141 [] rfl rfl (Nat.le_of_ble_eq_true rfl) (Nat.le_of_ble_eq_true rfl) rfl ?_
          refine c_110 c (fun M1 c1 f1 => rt_n ?_)
          refine n_iinc 1 i_109_71 rfl rfl rfl rfl ?_
          refine x_goto i_109_74 ?_
          exact ih (j + 1) (by omega) (by omega) c1 (fun M2 c2 f2 => k M2 c2 (f1.trans f2))
end RDD
