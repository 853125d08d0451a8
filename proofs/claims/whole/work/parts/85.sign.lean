/-! lines as words -/
theorem N_toIntU {x : Nat} (h : 2147483648 ≤ x) (h2 : x < 4294967296) : (N x).toInt = (x : Int) - 4294967296 := by
  unfold N
  rw [Int32.toInt_ofNat']
  have e : ((x : Int)).bmod 4294967296 = (x : Int) - 4294967296 := by
    rw [Int.bmod_def]
    have : ((x : Int)) % 4294967296 = x := Int.emod_eq_of_lt (by omega) (by omega)
    rw [show ((4294967296 : Nat) : Int) = 4294967296 from rfl, this, if_neg (by omega)]
  show Int.bmod (x : Int) 4294967296 = _
  rw [e]
theorem N_geM {x : Nat} (h : x < 4294967296) : (N 4294967295 ≤ N x) = (x < 2147483648 ∨ x = 4294967295) := by
  by_cases c : x < 2147483648
  · refine propext ⟨fun _ => Or.inl c, fun _ => ?_⟩
    rw [Int32.le_iff_toInt_le, N_toIntU (by omega) (by omega), N_toInt c]
    omega
  · rw [Int32.le_iff_toInt_le, N_toIntU (by omega) (by omega), N_toIntU (by omega) h]
    refine propext ⟨fun q => Or.inr (by omega), fun q => by omega⟩
theorem n_igeM {i pc : Nat} {lc : a_Lc} {st : List Value} {h : a_Hp} {Q : Option Value → a_Hp → Prop} {n a b x : Nat} {v : Int32} {c : Int} (hx : x < 4294967296) (hi : a_ins i pc = some (.if_icmp .ge c, n, a, b, v)) (H : ((x < 2147483648 ∨ x = 4294967295) → a_Ex i a lc st h Q) ∧ (¬ (x < 2147483648 ∨ x = 4294967295) → a_Ex i (pc + n) lc st h Q)) : a_Ex i pc lc (.int (N 4294967295) :: .int (N x) :: st) h Q := x_ige hi (by rw [N_geM hx]; exact H)
theorem rt_r {i pc : Nat} {lc : a_Lc} {rs : List Value} {h : a_Hp} {Q : Option Value → a_Hp → Prop} {x : Nat} (k : a_Ex i pc lc (.ref x :: rs) h Q) : a_Rt i pc lc rs Q (some (.ref x)) h := k
def wx (v : Nat) : Nat := if v < 5 then v else 5
def lng (v : Nat) : Nat := wl (12 + wx v)
def chx (v j : Nat) : Nat := wc (12 + wx v) j
theorem wx_lt (v : Nat) : wx v < 6 := by unfold wx; split <;> omega
theorem lng_b (v : Nat) : 3 ≤ lng v ∧ lng v ≤ 5 := (by decide +kernel : ∀ u, u < 6 → 3 ≤ wl (12 + u) ∧ wl (12 + u) ≤ 5) _ (wx_lt v)
theorem chx_b {v j : Nat} (h : j < lng v) : chx v j < 123 := (wc_ok (12 + wx v) (by have := wx_lt v; omega) j h).2
theorem lng_r (v : Nat) : wl (30 + wx v) = lng v := (by decide +kernel : ∀ u, u < 6 → wl (30 + u) = wl (12 + u)) _ (wx_lt v)
theorem chx_r (v : Nat) {j : Nat} (h : j < lng v) : wc (30 + wx v) j = chx v j := (by decide +kernel : ∀ u, u < 6 → ∀ j, j < wl (12 + u) → wc (30 + u) j = wc (12 + u) j) _ (wx_lt v) j h
/-- what a line says -/
def byt (r i : Nat) : Nat := if i = 0 then 48 + r / 100 else if i = 1 then 32 else if i = 2 + lng (r / 10 % 10) then 32 else if i < 2 + lng (r / 10 % 10) then chx (r / 10 % 10) (i - 2) else if i - (2 + lng (r / 10 % 10)) - 1 < lng (r % 10) then chx (r % 10) (i - (2 + lng (r / 10 % 10)) - 1) else 4294967295
def sgn (A : HA) (l i : Nat) : Nat := if ¬ l < A 7 0 then 4294967294 else if ¬ (i < 2147483648 ∨ i = 4294967295) then 4294967293 else if i = 4294967295 then 3 + lng (A 8 l / 10 % 10) + lng (A 8 l % 10) else byt (A 8 l) i
theorem sgn_eq {A B : HA} (e : EQ A B) (l i : Nat) : sgn A l i = sgn B l i := by
  unfold sgn
  rw [e 7 0 (by omega) (by omega), e 8 l (by omega) (by omega)]
section SGN
variable {sc : a_Sc} {fd : Nat} {M : a_Mm} {A B : HA} {Q : Option Value → a_Hp → Prop} {n b : Nat}
theorem c_101 (hb : HB b) (r : RC M b n A) {l : Nat} (hl : l < A 7 0) (K : Q (some (.int (N (A 8 l)))) (a_hp sc fd M)) : a_Ex 101 0 [some (.ref (b + 7)), some (.int (N l))] [] (a_hp sc fd M) Q := by
  have h60 := r.w.2.2.2.1
  obtain ⟨h1, h2, h3, h4, e, he, h5, h6, h7⟩ := r
  refine x_aload_n i_101_0 rfl ?_
  refine x_gr i_101_1 hb.lg gr_2_0.1 gr_2_0.2 (hb.rl _) ?_
  refine x_aload_n i_101_4 rfl ?_
  refine n_gi (x := e) i_101_5 hb.lg gf_2_1.1 gf_2_1.2 h5 ?_
  refine x_iload_n i_101_8 rfl ?_
  refine x_iaddN i_101_9 ?_
  refine n_bipush 60 i_101_10 rfl ?_
  refine x_iremN (by omega) (by omega) (by omega) i_101_12 ?_
  refine n_ld (x := A 8 l) i_101_13 hb.a8 (by omega) (Nat.mod_lt _ (by omega)) (h7 l hl) ?_
  refine x_iret i_101_14 rn_101 rfl ?_
  exact K
theorem c_102 {v : Nat} (hv : v < 2147483648) (K : Q (some (.ref (a_CB + 2 * (12 + wx v)))) (a_hp sc fd M)) : a_Ex 102 0 [some (.int (N v))] [] (a_hp sc fd M) Q := by
  refine x_iload_n i_102_0 rfl ?_
  by_cases g0 : v = 0
  · refine x_tswI (t := 36) (off := 35) i_102_1 (by rw [g0]; decide +kernel) (by rw [g0]; decide +kernel) (by decide) ?_
    refine x_ldcS i_102_36 ?_
    refine x_aret i_102_38 rn_102 rfl ?_
    rw [show wx v = 0 by unfold wx; rw [if_pos (by omega)]; omega] at K
    exact K
  by_cases g1 : v = 1
  · refine x_tswI (t := 39) (off := 38) i_102_1 (by rw [g1]; decide +kernel) (by rw [g1]; decide +kernel) (by decide) ?_
    refine x_ldcS i_102_39 ?_
    refine x_aret i_102_41 rn_102 rfl ?_
    rw [show wx v = 1 by unfold wx; rw [if_pos (by omega)]; omega] at K
    exact K
  by_cases g2 : v = 2
  · refine x_tswI (t := 42) (off := 41) i_102_1 (by rw [g2]; decide +kernel) (by rw [g2]; decide +kernel) (by decide) ?_
    refine x_ldcS i_102_42 ?_
    refine x_aret i_102_44 rn_102 rfl ?_
    rw [show wx v = 2 by unfold wx; rw [if_pos (by omega)]; omega] at K
    exact K
  by_cases g3 : v = 3
  · refine x_tswI (t := 45) (off := 44) i_102_1 (by rw [g3]; decide +kernel) (by rw [g3]; decide +kernel) (by decide) ?_
    refine x_ldcS i_102_45 ?_
    refine x_aret i_102_47 rn_102 rfl ?_
    rw [show wx v = 3 by unfold wx; rw [if_pos (by omega)]; omega] at K
    exact K
  by_cases g4 : v = 4
  · refine x_tswI (t := 48) (off := 47) i_102_1 (by rw [g4]; decide +kernel) (by rw [g4]; decide +kernel) (by decide) ?_
    refine x_ldcS i_102_48 ?_
    refine x_aret i_102_50 rn_102 rfl ?_
    rw [show wx v = 4 by unfold wx; rw [if_pos (by omega)]; omega] at K
    exact K
  refine x_tswO (t := 51) i_102_1 (n_tswO (lo := 0) (hi := 4) (by omega) (by omega)) (by decide) ?_
  refine x_ldcS i_102_51 ?_
  refine x_aret i_102_53 rn_102 rfl ?_
  rw [show wx v = 5 by unfold wx; rw [if_neg (by omega)]] at K
  exact K
theorem c_100 (hb : HB b) (r : RC M b n A) {l : Nat} (hl : l < A 7 0) (K : Q (some (.int (N (3 + lng (A 8 l / 10 % 10) + lng (A 8 l % 10))))) (a_hp sc fd M)) : a_Ex 100 0 [some (.ref (b + 7)), some (.int (N l)), none] [] (a_hp sc fd M) Q := by
  have h5 : A 8 l < 500 := r.w.2.2.2.2 l
  refine x_aload_n i_100_0 rfl ?_
  refine x_iload_n i_100_1 rfl ?_
  refine x_vh (r := []) (lj := [some _, some _]) i_100_2 w_101 hb.lg [_] rfl rfl (Nat.le_of_ble_eq_true rfl) (Nat.le_of_ble_eq_true rfl) rfl ?_
  refine c_101 hb r hl (rt_i ?_)
  refine x_istore_n i_100_5 rfl rfl ?_
  refine n_iconst 3 i_100_6 rfl ?_
  refine x_iload_n i_100_7 rfl ?_
  refine n_bipush 10 i_100_8 rfl ?_
  refine x_idivN (by omega) (by omega) (by omega) i_100_10 ?_
  refine n_bipush 10 i_100_11 rfl ?_
  refine x_iremN (by omega) (by omega) (by omega) i_100_13 ?_
  refine x_sh (r := [_]) (lj := [some _]) i_100_14 ws_102 [_] rfl rfl (Nat.le_of_ble_eq_true rfl) (Nat.le_of_ble_eq_true rfl) rfl ?_
  refine c_102 (by omega) (rt_r ?_)
  refine x_vS (r := [_]) (lj := [some _]) i_100_17 w_267 (by have := wx_lt (A 8 l / 10 % 10); omega) [] rfl rfl (Nat.le_of_ble_eq_true rfl) (Nat.le_of_ble_eq_true rfl) rfl ?_
  refine k_267 (by have := wx_lt (A 8 l / 10 % 10); omega) (rt_i ?_)
  refine x_iaddN i_100_20 ?_
  refine x_iload_n i_100_21 rfl ?_
  refine n_bipush 10 i_100_22 rfl ?_
  refine x_iremN (by omega) (by omega) (by omega) i_100_24 ?_
  refine x_sh (r := [_]) (lj := [some _]) i_100_25 ws_102 [_] rfl rfl (Nat.le_of_ble_eq_true rfl) (Nat.le_of_ble_eq_true rfl) rfl ?_
  refine c_102 (by omega) (rt_r ?_)
  refine x_vS (r := [_]) (lj := [some _]) i_100_28 w_267 (by have := wx_lt (A 8 l % 10); omega) [] rfl rfl (Nat.le_of_ble_eq_true rfl) (Nat.le_of_ble_eq_true rfl) rfl ?_
  refine k_267 (by have := wx_lt (A 8 l % 10); omega) (rt_i ?_)
  refine x_iaddN i_100_31 ?_
  refine x_iret i_100_32 rn_100 rfl ?_
  exact K
theorem c_103 (hb : HB b) (r : RC M b n A) {l i : Nat} (hl : l < A 7 0) (hi : i < 2147483648) (K : Q (some (.int (N (byt (A 8 l) i)))) (a_hp sc fd M)) : a_Ex 103 0 [some (.ref (b + 7)), some (.int (N l)), some (.int (N i)), none, none, none, none, none] [] (a_hp sc fd M) Q := by
  have h5 : A 8 l < 500 := r.w.2.2.2.2 l
  have hw1 : 12 + wx (A 8 l / 10 % 10) < 36 := by have := wx_lt (A 8 l / 10 % 10); omega
  have hw2 : 12 + wx (A 8 l % 10) < 36 := by have := wx_lt (A 8 l % 10); omega
  have g1 := lng_b (A 8 l / 10 % 10)
  have g2 := lng_b (A 8 l % 10)
  unfold byt at K
  refine x_aload_n i_103_0 rfl ?_
  refine x_iload_n i_103_1 rfl ?_
  refine x_vh (r := []) (lj := [some _, some _]) i_103_2 w_101 hb.lg [_] rfl rfl (Nat.le_of_ble_eq_true rfl) (Nat.le_of_ble_eq_true rfl) rfl ?_
  refine c_101 hb r hl (rt_i ?_)
  refine x_istore_n i_103_5 rfl rfl ?_
  refine x_iload_n i_103_6 rfl ?_
  refine x_zneN (by omega) i_103_7 ⟨fun c0 => ?_, fun c0 => ?_⟩
  · rw [if_neg c0] at K
    refine x_iload_n i_103_18 rfl ?_
    refine n_bipush 10 i_103_19 rfl ?_
    refine x_idivN (by omega) (by omega) (by omega) i_103_21 ?_
    refine n_bipush 10 i_103_22 rfl ?_
    refine x_iremN (by omega) (by omega) (by omega) i_103_24 ?_
    refine x_sh (r := []) (lj := [some _]) i_103_25 ws_102 [_] rfl rfl (Nat.le_of_ble_eq_true rfl) (Nat.le_of_ble_eq_true rfl) rfl ?_
    refine c_102 (by omega) (rt_r ?_)
    refine x_astore i_103_28 rfl rfl ?_
    refine x_iload_n i_103_30 rfl ?_
    refine n_bipush 10 i_103_31 rfl ?_
    refine x_iremN (by omega) (by omega) (by omega) i_103_33 ?_
    refine x_sh (r := []) (lj := [some _]) i_103_34 ws_102 [_] rfl rfl (Nat.le_of_ble_eq_true rfl) (Nat.le_of_ble_eq_true rfl) rfl ?_
    refine c_102 (by omega) (rt_r ?_)
    refine x_astore i_103_37 rfl rfl ?_
    refine n_iconst 2 i_103_39 rfl ?_
    refine x_aload i_103_40 rfl ?_
    refine x_vS (r := [_]) (lj := [some _]) i_103_42 w_267 hw1 [] rfl rfl (Nat.le_of_ble_eq_true rfl) (Nat.le_of_ble_eq_true rfl) rfl ?_
    refine k_267 hw1 (rt_i ?_)
    refine x_iaddN i_103_45 ?_
    refine x_istore i_103_46 rfl rfl ?_
    refine x_iload_n i_103_48 rfl ?_
    refine n_iconst 1 i_103_49 rfl ?_
    have sp : Q (some (.int (N 32))) (a_hp sc fd M) → a_Ex 103 59 [some (.ref (b + 7)), some (.int (N l)), some (.int (N i)), some (.int (N (A 8 l))), some (.ref (a_CB + 2 * (12 + wx (A 8 l / 10 % 10)))), some (.ref (a_CB + 2 * (12 + wx (A 8 l % 10)))), some (.int (N (2 + lng (A 8 l / 10 % 10)))), none] [] (a_hp sc fd M) Q := fun q => by
      refine n_bipush 32 i_103_59 rfl ?_
      refine x_iret i_103_61 rn_103 rfl ?_
      exact q
    refine x_ieqN (by omega) (by omega) i_103_50 ⟨fun c1 => ?_, fun c1 => ?_⟩
    · rw [if_pos c1] at K; exact sp K
    rw [if_neg c1] at K
    refine x_iload_n i_103_53 rfl ?_
    refine x_iload i_103_54 rfl ?_
    refine x_ineN (by omega) (by unfold lng at *; omega) i_103_56 ⟨fun c2 => ?_, fun c2 => ?_⟩
    · have c2 : ¬ i = 2 + lng (A 8 l / 10 % 10) := c2
      rw [if_neg c2] at K
      refine x_iload_n i_103_62 rfl ?_
      refine x_iload i_103_63 rfl ?_
      refine x_igeN (by omega) (by unfold lng at *; omega) i_103_65 ⟨fun c3 => ?_, fun c3 => ?_⟩
      · have c3 : 2 + lng (A 8 l / 10 % 10) ≤ i := c3
        rw [if_neg (by omega)] at K
        refine x_iload_n i_103_77 rfl ?_
        refine x_iload i_103_78 rfl ?_
        refine x_isubN c3 i_103_80 ?_
        refine n_iconst 1 i_103_81 rfl ?_
        refine x_isubN (show 1 ≤ i - (2 + lng (A 8 l / 10 % 10)) by omega) i_103_82 ?_
        refine x_istore i_103_83 rfl rfl ?_
        refine x_iload i_103_85 rfl ?_
        refine x_zltN (show i - (2 + lng (A 8 l / 10 % 10)) - 1 < 2147483648 by omega) i_103_87 ?_
        refine x_iload i_103_90 rfl ?_
        refine x_aload i_103_92 rfl ?_
        refine x_vS (r := [_]) (lj := [some _]) i_103_94 w_267 hw2 [] rfl rfl (Nat.le_of_ble_eq_true rfl) (Nat.le_of_ble_eq_true rfl) rfl ?_
        refine k_267 hw2 (rt_i ?_)
        refine x_igeN (show i - (2 + lng (A 8 l / 10 % 10)) - 1 < 2147483648 by omega) (show lng (A 8 l % 10) < 2147483648 by omega) i_103_97 ⟨fun c4 => ?_, fun c4 => ?_⟩
        · have c4 : lng (A 8 l % 10) ≤ i - (2 + lng (A 8 l / 10 % 10)) - 1 := c4
          rw [if_neg (by omega)] at K
          refine n_iconst 4294967295 i_103_110 rfl ?_
          refine x_iret i_103_111 rn_103 rfl ?_
          exact K
        · have c4 : ¬ lng (A 8 l % 10) ≤ i - (2 + lng (A 8 l / 10 % 10)) - 1 := c4
          rw [if_pos (by omega)] at K
          refine x_aload i_103_100 rfl ?_
          refine x_iload i_103_102 rfl ?_
          refine x_vS (r := []) (lj := [some _, some _]) i_103_104 w_269 hw2 [_] rfl rfl (Nat.le_of_ble_eq_true rfl) (Nat.le_of_ble_eq_true rfl) rfl ?_
          refine k_269 hw2 (show i - (2 + lng (A 8 l / 10 % 10)) - 1 < lng (A 8 l % 10) by omega) (rt_i ?_)
          refine x_goto i_103_107 ?_
          refine x_iret i_103_111 rn_103 rfl ?_
          exact K
      · have c3 : ¬ 2 + lng (A 8 l / 10 % 10) ≤ i := c3
        rw [if_pos (by omega)] at K
        refine x_aload i_103_68 rfl ?_
        refine x_iload_n i_103_70 rfl ?_
        refine n_iconst 2 i_103_71 rfl ?_
        refine x_isubN (by omega) i_103_72 ?_
        refine x_vS (r := []) (lj := [some _, some _]) i_103_73 w_269 hw1 [_] rfl rfl (Nat.le_of_ble_eq_true rfl) (Nat.le_of_ble_eq_true rfl) rfl ?_
        refine k_269 hw1 (show i - 2 < lng (A 8 l / 10 % 10) by omega) (rt_i ?_)
        refine x_iret i_103_76 rn_103 rfl ?_
        exact K
    · rw [if_pos (show i = 2 + lng (A 8 l / 10 % 10) from c2)] at K; exact sp K
  · rw [if_pos c0] at K
    refine n_bipush 48 i_103_10 rfl ?_
    refine x_iload_n i_103_12 rfl ?_
    refine n_bipush 100 i_103_13 rfl ?_
    refine x_idivN (by omega) (by omega) (by omega) i_103_15 ?_
    refine x_iaddN i_103_16 ?_
    refine x_iret i_103_17 rn_103 rfl ?_
    exact K
theorem d_40 (r : RC M 1 n A) {l1 l2 : Nat} (h1 : l1 < 4294967296) (h2 : l2 < 4294967296) (K : Q (some (.int (N (sgn A l1 l2)))) (a_hp sc fd M)) : a_Ex 40 0 [some (.ref 0), some (.int (N l1)), some (.int (N l2))] [] (a_hp sc fd M) Q := by
  have h60 := r.w.2.2.2.1
  unfold sgn at K
  have no : ¬ l1 < A 7 0 → a_Ex 40 18 [some (.ref 0), some (.int (N l1)), some (.int (N l2))] [] (a_hp sc fd M) Q := fun g => by
    rw [if_pos g] at K
    refine n_bipush 4294967294 i_40_18 rfl ?_
    refine x_iret i_40_20 rn_40 rfl ?_
    exact K
  refine x_iload_n i_40_0 rfl ?_
  refine n_zltU h1 i_40_1 ⟨fun g => no (by omega), fun g1 => ?_⟩
  refine x_iload_n i_40_4 rfl ?_
  refine x_aload_n i_40_5 rfl ?_
  refine x_gr i_40_6 ob_0 gr_0_0.1 gr_0_0.2 (rt_0_0 _) ?_
  refine x_gr i_40_9 hb1.ob gr_1_11.1 gr_1_11.2 (hb1.r11 _) ?_
  refine n_gi (x := A 7 0) i_40_12 hb1.lg gf_2_2.1 gf_2_2.2 r.lsz ?_
  refine x_iltN (by omega) (by omega) i_40_15 ⟨fun g2 => ?_, fun g => no g⟩
  rw [if_neg (by omega)] at K
  refine x_iload_n i_40_21 rfl ?_
  refine n_iconst 4294967295 i_40_22 rfl ?_
  refine n_igeM h2 i_40_23 ⟨fun g3 => ?_, fun g3 => ?_⟩
  · rw [if_neg (by omega)] at K
    refine x_iload_n i_40_29 rfl ?_
    refine n_iconst 4294967295 i_40_30 rfl ?_
    refine n_ineU h2 (by omega) i_40_31 ⟨fun g4 => ?_, fun g4 => ?_⟩
    · rw [if_neg g4] at K
      refine x_aload_n i_40_48 rfl ?_
      refine x_gr i_40_49 ob_0 gr_0_0.1 gr_0_0.2 (rt_0_0 _) ?_
      refine x_gr i_40_52 hb1.ob gr_1_11.1 gr_1_11.2 (hb1.r11 _) ?_
      refine x_iload_n i_40_55 rfl ?_
      refine x_iload_n i_40_56 rfl ?_
      refine x_vh (r := []) (lj := [some _, some _, some _, none, none, none, none, none]) i_40_57 w_103 hb1.lg [_, _] rfl rfl (Nat.le_of_ble_eq_true rfl) (Nat.le_of_ble_eq_true rfl) rfl ?_
      refine c_103 hb1 r g2 (by omega) (rt_i ?_)
      refine x_iret i_40_60 rn_40 rfl ?_
      exact K
    · rw [if_pos g4] at K
      refine x_aload_n i_40_34 rfl ?_
      refine x_gr i_40_35 ob_0 gr_0_0.1 gr_0_0.2 (rt_0_0 _) ?_
      refine x_gr i_40_38 hb1.ob gr_1_11.1 gr_1_11.2 (hb1.r11 _) ?_
      refine x_iload_n i_40_41 rfl ?_
      refine x_vh (r := []) (lj := [some _, some _, none]) i_40_42 w_100 hb1.lg [_] rfl rfl (Nat.le_of_ble_eq_true rfl) (Nat.le_of_ble_eq_true rfl) rfl ?_
      refine c_100 hb1 r g2 (rt_i ?_)
      refine x_goto i_40_45 ?_
      refine x_iret i_40_60 rn_40 rfl ?_
      exact K
  · rw [if_pos g3] at K
    refine n_bipush 4294967293 i_40_26 rfl ?_
    refine x_iret i_40_28 rn_40 rfl ?_
    exact K
end SGN
