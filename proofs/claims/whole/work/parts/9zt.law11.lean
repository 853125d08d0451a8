/-! lines as words: the reference's; the law's case -/
section RSG
variable {sc : a_Sc} {fd : Nat} {M : a_Mm} {A B : HA} {Q : Option Value → a_Hp → Prop} {n : Nat}
def chv (v j : Nat) : Nat := if j < lng v then chx v j else 4294967295
theorem k_257 {v j : Nat} (hv : v < 2147483648) (hj : j < 2147483648) (K : Q (some (.int (N (chv v j)))) (a_hp sc fd M)) : a_Ex 257 0 [some (.int (N v)), some (.int (N j)), none] [] (a_hp sc fd M) Q := by
  have hw : 30 + wx v < 36 := by have := wx_lt v; omega
  have hb := lng_b v
  have hl := lng_r v
  unfold chv at K
  have T : a_Ex 257 57 [some (.int (N v)), some (.int (N j)), none] [.ref (a_CB + 2 * (30 + wx v))] (a_hp sc fd M) Q := by
    refine x_astore_n i_257_57 rfl rfl ?_
    refine x_iload_n i_257_58 rfl ?_
    refine x_aload_n i_257_59 rfl ?_
    refine x_vS (r := [_]) (lj := [some _]) i_257_60 w_267 hw [] rfl rfl (Nat.le_of_ble_eq_true rfl) (Nat.le_of_ble_eq_true rfl) rfl ?_
    refine k_267 hw (rt_i ?_)
    rw [hl]
    refine x_igeN hj (by omega) i_257_63 ⟨fun c => ?_, fun c => ?_⟩
    · rw [if_neg (by omega)] at K
      refine n_iconst 4294967295 i_257_74 rfl ?_
      refine x_iret i_257_75 rn_257 rfl ?_
      exact K
    · have c : j < lng v := by omega
      rw [if_pos c] at K
      refine x_aload_n i_257_66 rfl ?_
      refine x_iload_n i_257_67 rfl ?_
      refine x_vS (r := []) (lj := [some _, some _]) i_257_68 w_269 hw [_] rfl rfl (Nat.le_of_ble_eq_true rfl) (Nat.le_of_ble_eq_true rfl) rfl ?_
      refine k_269 hw (by omega) (rt_i ?_)
      rw [chx_r v c]
      refine x_goto i_257_71 ?_
      refine x_iret i_257_75 rn_257 rfl ?_
      exact K
  refine x_iload_n i_257_0 rfl ?_
  refine x_zneN hv i_257_1 ⟨fun g0 => ?_, fun g0 => ?_⟩
  rotate_left
  · refine x_ldcwS i_257_4 ?_
    refine x_goto i_257_7 ?_
    rw [show wx v = 0 by unfold wx; rw [if_pos (by omega)]; omega] at T
    exact T
  refine x_iload_n i_257_10 rfl ?_
  refine n_iconst 1 i_257_11 rfl ?_
  refine x_ineN hv (by omega) i_257_12 ⟨fun g1 => ?_, fun g1 => ?_⟩
  rotate_left
  · refine x_ldcwS i_257_15 ?_
    refine x_goto i_257_18 ?_
    rw [show wx v = 1 by unfold wx; rw [if_pos (by omega)]; omega] at T
    exact T
  refine x_iload_n i_257_21 rfl ?_
  refine n_iconst 2 i_257_22 rfl ?_
  refine x_ineN hv (by omega) i_257_23 ⟨fun g2 => ?_, fun g2 => ?_⟩
  rotate_left
  · refine x_ldcwS i_257_26 ?_
    refine x_goto i_257_29 ?_
    rw [show wx v = 2 by unfold wx; rw [if_pos (by omega)]; omega] at T
    exact T
  refine x_iload_n i_257_32 rfl ?_
  refine n_iconst 3 i_257_33 rfl ?_
  refine x_ineN hv (by omega) i_257_34 ⟨fun g3 => ?_, fun g3 => ?_⟩
  rotate_left
  · refine x_ldcwS i_257_37 ?_
    refine x_goto i_257_40 ?_
    rw [show wx v = 3 by unfold wx; rw [if_pos (by omega)]; omega] at T
    exact T
  refine x_iload_n i_257_43 rfl ?_
  refine n_iconst 4 i_257_44 rfl ?_
  refine x_ineN hv (by omega) i_257_45 ⟨fun g4 => ?_, fun g4 => ?_⟩
  rotate_left
  · refine x_ldcwS i_257_48 ?_
    refine x_goto i_257_51 ?_
    rw [show wx v = 4 by unfold wx; rw [if_pos (by omega)]; omega] at T
    exact T
  refine x_ldcwS i_257_54 ?_
  rw [show wx v = 5 by unfold wx; rw [if_neg (by omega)]] at T
  exact T
theorem k_256 {v : Nat} (hv : v < 2147483648) (K : Q (some (.int (N (lng v)))) (a_hp sc fd M)) : a_Ex 256 0 [some (.int (N v)), none] [] (a_hp sc fd M) Q := by
  have hb := lng_b v
  have L : ∀ d t, lng v - t = d → t ≤ lng v → a_Ex 256 2 [some (.int (N v)), some (.int (N t))] [] (a_hp sc fd M) Q := by
    intro d
    induction d with
    | zero =>
      intro t hd ht
      have e : t = lng v := by omega
      subst e
      refine x_iload_n i_256_2 rfl ?_
      refine x_iload_n i_256_3 rfl ?_
      refine x_sh (r := []) (lj := [some _, some _, none]) i_256_4 ws_257 [_, _] rfl rfl (Nat.le_of_ble_eq_true rfl) (Nat.le_of_ble_eq_true rfl) rfl ?_
      refine k_257 hv (by omega) (rt_i ?_)
      unfold chv
      rw [if_neg (Nat.lt_irrefl _)]
      refine n_iconst 4294967295 i_256_7 rfl ?_
      refine n_ieqU (by omega) (by omega) i_256_8 ⟨fun _ => ?_, fun g => absurd rfl g⟩
      refine x_iload_n i_256_17 rfl ?_
      refine x_iret i_256_18 rn_256 rfl ?_
      exact K
    | succ d ih =>
      intro t hd ht
      have c : t < lng v := by omega
      have hc := chx_b c
      refine x_iload_n i_256_2 rfl ?_
      refine x_iload_n i_256_3 rfl ?_
      refine x_sh (r := []) (lj := [some _, some _, none]) i_256_4 ws_257 [_, _] rfl rfl (Nat.le_of_ble_eq_true rfl) (Nat.le_of_ble_eq_true rfl) rfl ?_
      refine k_257 hv (by omega) (rt_i ?_)
      unfold chv
      rw [if_pos c]
      refine n_iconst 4294967295 i_256_7 rfl ?_
      refine n_ieqU (by omega) (by omega) i_256_8 ⟨fun g => absurd g (by omega), fun _ => ?_⟩
      refine n_iinc 1 i_256_11 rfl rfl rfl rfl ?_
      refine x_goto i_256_14 ?_
      exact ih (t + 1) (by omega) (by omega)
  refine n_iconst 0 i_256_0 rfl ?_
  refine x_istore_n i_256_1 rfl rfl ?_
  exact L _ 0 rfl (Nat.zero_le _)
theorem wth_lt {a l : Nat} (ha : a ≤ 60) (hl : l < 4294967296) : (N 0 ≤ N l ∧ N l ≤ N (a + (4294967296 - 1))) = (l < a) := by
  by_cases c : a = 0
  · subst c
    rw [show 0 + (4294967296 - 1) = 4294967295 from rfl]
    refine propext ⟨fun g => ?_, fun g => absurd g (Nat.not_lt_zero _)⟩
    have h := Int32.le_trans g.1 g.2
    rw [Int32.le_iff_toInt_le, N_toIntU (show 2147483648 ≤ 4294967295 by omega) (by omega), N_toInt (show 0 < 2147483648 by omega)] at h
    omega
  · rw [show N (a + (4294967296 - 1)) = N (a - 1) by rw [← N_mod, show (a + (4294967296 - 1)) % 4294967296 = a - 1 by omega], N_leU hl (by omega), N_leV hl (by omega)]
    refine propext ⟨fun g => ?_, fun g => ?_⟩ <;> omega
theorem e_255 (r : RM M n B) {l1 l2 : Nat} (h1 : l1 < 4294967296) (h2 : l2 < 4294967296) (k : ∀ M', RM M' n (a_up B 9 0 0) → FM M M' → Q (some (.int (N (sgn B l1 l2)))) (a_hp sc fd M')) : a_Ex 255 0 [some (.ref 170), some (.int (N l1)), some (.int (N l2)), none, none] [] (a_hp sc fd M) Q := by
  have h60 := r.w.2.2.2.1
  have h5 : B 8 l1 < 500 := r.w.2.2.2.2 l1
  refine x_aload_n i_255_0 rfl ?_
  refine n_iconst 0 i_255_1 rfl ?_
  refine n_pM i_255_2 r pf_8_0 (by omega) (fun M1 r1 f1 => ?_)
  have K := k M1 r1 f1
  have q35 : M1 171 35 = N (B 7 0) := r1.f35
  have qr : l1 < B 7 0 → M1 171 (36 + 3 * l1) = N (B 8 l1 / 100) ∧ M1 171 (36 + 3 * l1 + 1) = N (B 8 l1 / 10 % 10) ∧ M1 171 (36 + 3 * l1 + 2) = N (B 8 l1 % 10) := fun h => r1.2.2.2.2.2.1 l1 h
  unfold sgn at K
  refine x_iload_n i_255_5 rfl ?_
  refine x_i2l i_255_6 ?_
  refine n_lconst 0 i_255_7 rfl ?_
  refine x_aload_n i_255_8 rfl ?_
  refine x_gr i_255_9 ob_170 gr_8_1.1 gr_8_1.2 (rt_170_1 _) ?_
  refine n_bipush 35 i_255_12 rfl ?_
  refine n_ld (x := B 7 0) i_255_14 ar_171 (by omega) (by omega) q35 ?_
  refine n_iconst 1 i_255_15 rfl ?_
  refine n_isubC i_255_16 (by omega) ?_
  refine x_i2l i_255_17 ?_
  refine x_within i_255_18 (Nat.le_of_ble_eq_true rfl) ?_
  rw [wth_lt h60 h1]
  refine ⟨fun g1 => ?_, fun g1 => ?_⟩
  rotate_left
  · rw [if_pos g1] at K
    refine x_ifF i_255_21 (by decide +kernel) ?_
    refine n_bipush 4294967294 i_255_24 rfl ?_
    refine x_iret i_255_26 rn_255 rfl ?_
    exact K
  rw [if_neg (by omega)] at K
  obtain ⟨b1, b2, b3⟩ := qr g1
  have g5 := lng_b (B 8 l1 / 10 % 10)
  have g6 := lng_b (B 8 l1 % 10)
  refine x_ifT i_255_21 (by decide +kernel) ?_
  refine x_iload_n i_255_27 rfl ?_
  refine n_iconst 4294967295 i_255_28 rfl ?_
  refine n_igeM h2 i_255_29 ⟨fun g2 => ?_, fun g2 => ?_⟩
  rotate_left
  · rw [if_pos g2] at K
    refine n_bipush 4294967293 i_255_32 rfl ?_
    refine x_iret i_255_34 rn_255 rfl ?_
    exact K
  rw [if_neg (by omega)] at K
  refine n_bipush 36 i_255_35 rfl ?_
  refine n_iconst 3 i_255_37 rfl ?_
  refine x_iload_n i_255_38 rfl ?_
  refine x_imulN i_255_39 ?_
  refine x_iaddN i_255_40 ?_
  refine x_istore_n i_255_41 rfl rfl ?_
  refine x_aload_n i_255_42 rfl ?_
  refine x_gr i_255_43 ob_170 gr_8_1.1 gr_8_1.2 (rt_170_1 _) ?_
  refine x_iload_n i_255_46 rfl ?_
  refine n_iconst 1 i_255_47 rfl ?_
  refine x_iaddN i_255_48 ?_
  refine n_ld (x := B 8 l1 / 10 % 10) i_255_49 ar_171 (by omega) (by omega) b2 ?_
  refine x_sh (r := []) (lj := [some _, none]) i_255_50 ws_256 [_] rfl rfl (Nat.le_of_ble_eq_true rfl) (Nat.le_of_ble_eq_true rfl) rfl ?_
  refine k_256 (by omega) (rt_i ?_)
  refine x_istore i_255_53 rfl rfl ?_
  refine x_iload_n i_255_55 rfl ?_
  refine n_iconst 4294967295 i_255_56 rfl ?_
  refine n_ineU h2 (by omega) i_255_57 ⟨fun g3 => ?_, fun g3 => ?_⟩
  rotate_left
  · rw [if_pos g3] at K
    refine n_iconst 3 i_255_60 rfl ?_
    refine x_iload i_255_61 rfl ?_
    refine x_iaddN i_255_63 ?_
    refine x_aload_n i_255_64 rfl ?_
    refine x_gr i_255_65 ob_170 gr_8_1.1 gr_8_1.2 (rt_170_1 _) ?_
    refine x_iload_n i_255_68 rfl ?_
    refine n_iconst 2 i_255_69 rfl ?_
    refine x_iaddN i_255_70 ?_
    refine n_ld (x := B 8 l1 % 10) i_255_71 ar_171 (by omega) (by omega) b3 ?_
    refine x_sh (r := [_]) (lj := [some _, none]) i_255_72 ws_256 [_] rfl rfl (Nat.le_of_ble_eq_true rfl) (Nat.le_of_ble_eq_true rfl) rfl ?_
    refine k_256 (by omega) (rt_i ?_)
    refine x_iaddN i_255_75 ?_
    refine x_iret i_255_76 rn_255 rfl ?_
    exact K
  rw [if_neg g3] at K
  have h2 : l2 < 2147483648 := by omega
  unfold byt at K
  refine x_iload_n i_255_77 rfl ?_
  refine x_zneN h2 i_255_78 ⟨fun g4 => ?_, fun g4 => ?_⟩
  rotate_left
  · rw [if_pos g4] at K
    refine n_bipush 48 i_255_81 rfl ?_
    refine x_aload_n i_255_83 rfl ?_
    refine x_gr i_255_84 ob_170 gr_8_1.1 gr_8_1.2 (rt_170_1 _) ?_
    refine x_iload_n i_255_87 rfl ?_
    refine n_ld (x := B 8 l1 / 100) i_255_88 ar_171 (by omega) (by omega) b1 ?_
    refine x_iaddN i_255_89 ?_
    refine x_iret i_255_90 rn_255 rfl ?_
    exact K
  rw [if_neg g4] at K
  have sp : Q (some (.int (N 32))) (a_hp sc fd M1) → a_Ex 255 104 [some (.ref 170), some (.int (N l1)), some (.int (N l2)), some (.int (N (36 + 3 * l1))), some (.int (N (lng (B 8 l1 / 10 % 10))))] [] (a_hp sc fd M1) Q := fun q => by
    refine n_bipush 32 i_255_104 rfl ?_
    refine x_iret i_255_106 rn_255 rfl ?_
    exact q
  refine x_iload_n i_255_91 rfl ?_
  refine n_iconst 1 i_255_92 rfl ?_
  refine x_ieqN h2 (by omega) i_255_93 ⟨fun g7 => ?_, fun g7 => ?_⟩
  · rw [if_pos g7] at K; exact sp K
  rw [if_neg g7] at K
  refine x_iload_n i_255_96 rfl ?_
  refine n_iconst 2 i_255_97 rfl ?_
  refine x_iload i_255_98 rfl ?_
  refine x_iaddN i_255_100 ?_
  refine x_ineN h2 (by omega) i_255_101 ⟨fun g8 => ?_, fun g8 => ?_⟩
  rotate_left
  · rw [if_pos g8] at K; exact sp K
  rw [if_neg g8] at K
  refine x_iload_n i_255_107 rfl ?_
  refine n_iconst 2 i_255_108 rfl ?_
  refine x_iload i_255_109 rfl ?_
  refine x_iaddN i_255_111 ?_
  refine x_igeN h2 (by omega) i_255_112 ⟨fun g9 => ?_, fun g9 => ?_⟩
  · rw [if_neg (by omega)] at K
    refine x_aload_n i_255_132 rfl ?_
    refine x_gr i_255_133 ob_170 gr_8_1.1 gr_8_1.2 (rt_170_1 _) ?_
    refine x_iload_n i_255_136 rfl ?_
    refine n_iconst 2 i_255_137 rfl ?_
    refine x_iaddN i_255_138 ?_
    refine n_ld (x := B 8 l1 % 10) i_255_139 ar_171 (by omega) (by omega) b3 ?_
    refine x_iload_n i_255_140 rfl ?_
    refine n_iconst 3 i_255_141 rfl ?_
    refine x_isubN (show 3 ≤ l2 by omega) i_255_142 ?_
    refine x_iload i_255_143 rfl ?_
    refine x_isubN (show lng (B 8 l1 / 10 % 10) ≤ l2 - 3 by omega) i_255_145 ?_
    refine x_sh (r := []) (lj := [some _, some _, none]) i_255_146 ws_257 [_, _] rfl rfl (Nat.le_of_ble_eq_true rfl) (Nat.le_of_ble_eq_true rfl) rfl ?_
    refine k_257 (by omega) (show l2 - 3 - lng (B 8 l1 / 10 % 10) < 2147483648 by omega) (rt_i ?_)
    refine x_iret i_255_149 rn_255 rfl ?_
    unfold chv
    rw [show l2 - 3 - lng (B 8 l1 / 10 % 10) = l2 - (2 + lng (B 8 l1 / 10 % 10)) - 1 by omega]
    exact K
  · rw [if_pos (by omega)] at K
    refine x_aload_n i_255_115 rfl ?_
    refine x_gr i_255_116 ob_170 gr_8_1.1 gr_8_1.2 (rt_170_1 _) ?_
    refine x_iload_n i_255_119 rfl ?_
    refine n_iconst 1 i_255_120 rfl ?_
    refine x_iaddN i_255_121 ?_
    refine n_ld (x := B 8 l1 / 10 % 10) i_255_122 ar_171 (by omega) (by omega) b2 ?_
    refine x_iload_n i_255_123 rfl ?_
    refine n_iconst 2 i_255_124 rfl ?_
    refine x_isubN (show 2 ≤ l2 by omega) i_255_125 ?_
    refine x_sh (r := []) (lj := [some _, some _, none]) i_255_126 ws_257 [_, _] rfl rfl (Nat.le_of_ble_eq_true rfl) (Nat.le_of_ble_eq_true rfl) rfl ?_
    refine k_257 (by omega) (show l2 - 2 < 2147483648 by omega) (rt_i ?_)
    refine x_goto i_255_129 ?_
    refine x_iret i_255_149 rn_255 rfl ?_
    unfold chv
    rw [if_pos (by omega)]
    exact K
end RSG
section LWG
variable {xs : Nat → Int32} {L s fd n k l : Nat} {A : HA} {M : a_Mm} {Q : Option Value → a_Hp → Prop}
theorem lw_1136 (hL : L ≤ 3072) (hs : s + 6 ≤ L) (I : INVE M) (K : ∀ M' fd', INVE M' → a_Ex 262 1261 [some (.ref (a_CB + 1000)), some (.ref 0), some (.ref 170), some (.int (N s))] [] (a_hp (L + 1, xs) fd' M') Q) : a_Ex 262 1136 [some (.ref (a_CB + 1000)), some (.ref 0), some (.ref 170), some (.int (N s))] [] (a_hp (L + 1, xs) fd M) Q := by
  obtain ⟨n, A, B, nx, sz, U, gi, xi, f, T, ff, I⟩ := I
  obtain ⟨⟨i1, i2, i3, i4⟩, ⟨j1, j2, j3⟩, k, ⟨l1, l2⟩, o, cm⟩ := id I
  refine x_aload_n i_262_1136 rfl ?_
  refine x_aload_n i_262_1137 rfl ?_
  refine x_iload_n i_262_1138 rfl ?_
  refine n_iconst 1 i_262_1139 rfl ?_
  refine x_iaddN i_262_1140 ?_
  refine n_ldL i_262_1141 (by omega) hL ?_
  refine x_aload_n i_262_1142 rfl ?_
  refine x_iload_n i_262_1143 rfl ?_
  refine n_iconst 2 i_262_1144 rfl ?_
  refine x_iaddN i_262_1145 ?_
  refine n_ldL i_262_1146 (by omega) hL ?_
  refine x_vh (r := []) (lj := [some _, some _, some _]) i_262_1147 w_40 ob_0 [_, _] rfl rfl (Nat.le_of_ble_eq_true rfl) (Nat.le_of_ble_eq_true rfl) rfl ?_
  refine d_40 (l1 := ax xs (s + 1)) (l2 := ax xs (s + 2)) i1 (ax_lt _ _) (ax_lt _ _) (rt_i ?_)
  refine x_aload_n i_262_1150 rfl ?_
  refine x_aload_n i_262_1151 rfl ?_
  refine x_iload_n i_262_1152 rfl ?_
  refine n_iconst 1 i_262_1153 rfl ?_
  refine x_iaddN i_262_1154 ?_
  refine n_ldL i_262_1155 (by omega) hL ?_
  refine x_aload_n i_262_1156 rfl ?_
  refine x_iload_n i_262_1157 rfl ?_
  refine n_iconst 2 i_262_1158 rfl ?_
  refine x_iaddN i_262_1159 ?_
  refine n_ldL i_262_1160 (by omega) hL ?_
  refine x_vh (r := [_]) (lj := [some _, some _, some _, none, none]) i_262_1161 w_255 ob_170 [_, _] rfl rfl (Nat.le_of_ble_eq_true rfl) (Nat.le_of_ble_eq_true rfl) rfl ?_
  refine e_255 (l1 := ax xs (s + 1)) (l2 := ax xs (s + 2)) i2 (ax_lt _ _) (ax_lt _ _) (fun M2 r2 f2 => rt_i ?_)
  rw [sgn_eq i3]
  refine x_ieq i_262_1164 ⟨fun g1 => ?_, fun g1 => ?_⟩
  · exact K _ _ (I.read2 r2 (i3.r 9 0 0 (Or.inl (Nat.le_refl _))) f2)
  · exact absurd rfl g1
end LWG
