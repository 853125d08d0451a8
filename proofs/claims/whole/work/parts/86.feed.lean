/-! the tape: feeding it -/
def sx (t : Nat) : Int32 := (N t).toInt8.toInt32
def bt (u s : Nat) : Nat := ((N u >>> (N s &&& 31)) &&& N 255).toBitVec.toNat
theorem N_nat (x : Int32) : N x.toBitVec.toNat = x := by
  apply Int32.toBitVec_inj.mp
  rw [N_bv]
  apply BitVec.eq_of_toNat_eq
  rw [BitVec.toNat_ofNat]
  exact Nat.mod_eq_of_lt x.toBitVec.isLt
theorem bt_r (u s : Nat) : (N u >>> (N s &&& 31)) &&& N 255 = N (bt u s) := (N_nat _).symm
theorem btk_lt (u s : Nat) : bt u s < 256 := by
  unfold bt
  rw [Int32.toBitVec_and, BitVec.toNat_and, N_bv]
  have : (BitVec.ofNat 32 255).toNat = 255 := rfl
  rw [this]
  exact Nat.lt_succ_of_le Nat.and_le_right
theorem bt_c (u s : Nat) : (N u >>> (N s &&& 31)).toInt8.toInt32.toInt8.toInt32 = sx (bt u s) := by
  unfold sx
  rw [Int8.toInt8_toInt32, ← bt_r, Int32.toInt8_and, show (N 255).toInt8 = -1 by decide +kernel, Int8.and_neg_one]
/-- the class's tape, the reference's -/
def TC (M : a_Mm) (f : Nat) (T : Nat → Nat) : Prop := f ≤ 200 ∧ M 0 6 = N f ∧ ∀ k, k < f → M 140 k = sx (T k)
def TR (M : a_Mm) (f : Nat) (T : Nat → Nat) : Prop := f ≤ 200 ∧ M 170 18 = N f ∧ ∀ k, k < f → T k < 256 ∧ M 181 k = N (T k)
def pk5 (l1 l2 l3 l4 l5 i : Nat) : Nat := if i < 4 then l1 else if i < 8 then l2 else if i < 12 then l3 else if i < 16 then l4 else l5
def tf (T : Nat → Nat) (f l1 l2 l3 l4 l5 : Nat) : Nat → Nat := fun k => if k < f then T k else bt (pk5 l1 l2 l3 l4 l5 (k - f)) (24 - 8 * ((k - f) % 4))
theorem tf_lo {T : Nat → Nat} {f l1 l2 l3 l4 l5 k : Nat} (h : k < f) : tf T f l1 l2 l3 l4 l5 k = T k := by unfold tf; rw [if_pos h]
theorem tf_hi {T : Nat → Nat} {f l1 l2 l3 l4 l5 i : Nat} : tf T f l1 l2 l3 l4 l5 (f + i) = bt (pk5 l1 l2 l3 l4 l5 i) (24 - 8 * (i % 4)) := by unfold tf; rw [if_neg (by omega), show f + i - f = i by omega]
def FD (M M' : a_Mm) : Prop := ∀ o k, ¬ o = 140 → ¬ (o = 0 ∧ k = 6) → M' o k = M o k
section FEED
variable {sc : a_Sc} {fd : Nat} {M : a_Mm} {A B : HA} {Q : Option Value → a_Hp → Prop} {n f : Nat} {T : Nat → Nat}
theorem c_34_s {u s s' : Nat} (t : TC M f T) (hf : f < 200) (hT : T f = bt u s) (hs : s < 2147483648) (e : N (s + 4294967288) = N s') (k : ∀ M', TC M' (f + 1) T → FD M M' → a_Ex 34 3 [some (.ref 0), some (.int (N u)), some (.int (N s'))] [] (a_hp sc fd M') Q) : a_Ex 34 3 [some (.ref 0), some (.int (N u)), some (.int (N s))] [] (a_hp sc fd M) Q := by
  obtain ⟨t1, t2, t3⟩ := t
  refine x_iload_n i_34_3 rfl ?_
  refine x_zltN (by omega) i_34_4 ?_
  refine x_aload_n i_34_7 rfl ?_
  refine x_gr i_34_8 ob_0 gr_0_5.1 gr_0_5.2 (rt_0_5 _) ?_
  refine x_aload_n i_34_11 rfl ?_
  refine n_gi (x := f) i_34_12 ob_0 gf_0_6.1 gf_0_6.2 t2 ?_
  refine x_iload_n i_34_15 rfl ?_
  refine x_iload_n i_34_16 rfl ?_
  refine x_ishr i_34_17 ?_
  refine x_i2b i_34_18 ?_
  refine x_stb i_34_19 ar_140 (by rw [a_in_N (by omega)]; exact hf) ?_
  rw [N_toNat (by omega), bt_c, ← hT]
  refine x_aload_n i_34_20 rfl ?_
  refine x_dup i_34_21 rfl ?_
  refine n_gi (x := f) i_34_22 ob_0 gf_0_6.1 gf_0_6.2 (by rw [a_up_def, if_neg (by omega)]; exact t2) ?_
  refine n_iconst 1 i_34_25 rfl ?_
  refine x_iaddN i_34_26 ?_
  refine x_pi i_34_27 ob_0 pf_0_6.1 pf_0_6.2 ?_
  refine n_iinc 4294967288 i_34_30 rfl rfl rfl rfl ?_
  rw [e]
  refine x_goto i_34_33 ?_
  refine k _ ⟨by omega, by rw [a_up_def, if_pos ⟨rfl, rfl⟩], fun j hj => ?_⟩ (fun o j h1 h2 => by rw [a_up_def, if_neg h2, a_up_def, if_neg (fun q => h1 q.1)])
  rw [a_up_def, if_neg (by omega), a_up_def]
  by_cases c : j = f
  · rw [if_pos ⟨rfl, c⟩, c]
  · rw [if_neg (fun q => c q.2)]; exact t3 j (by omega)
theorem FD.trans {M M1 M2 : a_Mm} (h : FD M M1) (g : FD M1 M2) : FD M M2 := fun o k a b => (g o k a b).trans (h o k a b)
theorem c_34 {u : Nat} (t : TC M f T) (hf : f + 4 ≤ 200) (hT : ∀ i, i < 4 → T (f + i) = bt u (24 - 8 * i)) (k : ∀ M', TC M' (f + 4) T → FD M M' → Q none (a_hp sc fd M')) : a_Ex 34 0 [some (.ref 0), some (.int (N u)), none] [] (a_hp sc fd M) Q := by
  refine n_bipush 24 i_34_0 rfl ?_
  refine x_istore_n i_34_2 rfl rfl ?_
  refine c_34_s t (by omega) (hT 0 (by omega)) (by omega) (s' := 16) (by decide +kernel) (fun M1 t1 f1 => ?_)
  refine c_34_s t1 (by omega) (hT 1 (by omega)) (by omega) (s' := 8) (by decide +kernel) (fun M2 t2 f2 => ?_)
  refine c_34_s t2 (by omega) (hT 2 (by omega)) (by omega) (s' := 0) (by decide +kernel) (fun M3 t3 f3 => ?_)
  refine c_34_s t3 (by omega) (hT 3 (by omega)) (by omega) (s' := 4294967288) (by decide +kernel) (fun M4 t4 f4 => ?_)
  refine x_iload_n i_34_3 rfl ?_
  refine n_zltU (by omega) i_34_4 ⟨fun _ => ?_, fun g => absurd (show 2147483648 ≤ 4294967288 by omega) g⟩
  refine x_vret i_34_36 rn_34 ?_
  exact k M4 t4 (((f1.trans f2).trans f3).trans f4)
theorem d_33 {l1 l2 l3 l4 l5 : Nat} (t : TC M f T) (k0 : ¬ f + 20 ≤ 200 → Q (some (.int (N 4294967293))) (a_hp sc fd M)) (k : f + 20 ≤ 200 → ∀ M', TC M' (f + 20) (tf T f l1 l2 l3 l4 l5) → FD M M' → Q (some (.int (N (f + 20)))) (a_hp sc fd M')) : a_Ex 33 0 [some (.ref 0), some (.int (N l1)), some (.int (N l2)), some (.int (N l3)), some (.int (N l4)), some (.int (N l5))] [] (a_hp sc fd M) Q := by
  have hf := t.1
  refine x_aload_n i_33_0 rfl ?_
  refine n_gi (x := f) i_33_1 ob_0 gf_0_6.1 gf_0_6.2 t.2.1 ?_
  refine n_bipush 20 i_33_4 rfl ?_
  refine x_iaddN i_33_6 ?_
  refine n_sipush 200 i_33_7 rfl ?_
  refine x_ileN (by omega) (by omega) i_33_10 ⟨fun g1 => ?_, fun g1 => ?_⟩
  · have t0 : TC M f (tf T f l1 l2 l3 l4 l5) := ⟨t.1, t.2.1, fun j hj => (t.2.2 j hj).trans (by rw [tf_lo hj])⟩
    refine x_aload_n i_33_16 rfl ?_
    refine x_iload_n i_33_17 rfl ?_
    refine x_vh (r := []) (lj := [some _, some _, none]) i_33_18 w_34 ob_0 [_] rfl rfl (Nat.le_of_ble_eq_true rfl) (Nat.le_of_ble_eq_true rfl) rfl ?_
    refine c_34 t0 (by omega) (fun i hi => ?_) (fun M1 t1 f1 => rt_n ?_)
    · rw [tf_hi]; unfold pk5; rw [if_pos (by omega)]; rw [show i % 4 = i by omega]
    refine x_aload_n i_33_21 rfl ?_
    refine x_iload_n i_33_22 rfl ?_
    refine x_vh (r := []) (lj := [some _, some _, none]) i_33_23 w_34 ob_0 [_] rfl rfl (Nat.le_of_ble_eq_true rfl) (Nat.le_of_ble_eq_true rfl) rfl ?_
    refine c_34 t1 (by omega) (fun i hi => ?_) (fun M2 t2 f2 => rt_n ?_)
    · rw [show f + 4 + i = f + (4 + i) by omega, tf_hi]; unfold pk5; rw [if_neg (by omega)]; rw [if_pos (by omega)]; rw [show (4 + i) % 4 = i by omega]
    refine x_aload_n i_33_26 rfl ?_
    refine x_iload_n i_33_27 rfl ?_
    refine x_vh (r := []) (lj := [some _, some _, none]) i_33_28 w_34 ob_0 [_] rfl rfl (Nat.le_of_ble_eq_true rfl) (Nat.le_of_ble_eq_true rfl) rfl ?_
    refine c_34 t2 (by omega) (fun i hi => ?_) (fun M3 t3 f3 => rt_n ?_)
    · rw [show f + 4 + 4 + i = f + (8 + i) by omega, tf_hi]; unfold pk5; rw [if_neg (by omega)]; rw [if_neg (by omega)]; rw [if_pos (by omega)]; rw [show (8 + i) % 4 = i by omega]
    refine x_aload_n i_33_31 rfl ?_
    refine x_iload i_33_32 rfl ?_
    refine x_vh (r := []) (lj := [some _, some _, none]) i_33_34 w_34 ob_0 [_] rfl rfl (Nat.le_of_ble_eq_true rfl) (Nat.le_of_ble_eq_true rfl) rfl ?_
    refine c_34 t3 (by omega) (fun i hi => ?_) (fun M4 t4 f4 => rt_n ?_)
    · rw [show f + 4 + 4 + 4 + i = f + (12 + i) by omega, tf_hi]; unfold pk5; rw [if_neg (by omega)]; rw [if_neg (by omega)]; rw [if_neg (by omega)]; rw [if_pos (by omega)]; rw [show (12 + i) % 4 = i by omega]
    refine x_aload_n i_33_37 rfl ?_
    refine x_iload i_33_38 rfl ?_
    refine x_vh (r := []) (lj := [some _, some _, none]) i_33_40 w_34 ob_0 [_] rfl rfl (Nat.le_of_ble_eq_true rfl) (Nat.le_of_ble_eq_true rfl) rfl ?_
    refine c_34 t4 (by omega) (fun i hi => ?_) (fun M5 t5 f5 => rt_n ?_)
    · rw [show f + 4 + 4 + 4 + 4 + i = f + (16 + i) by omega, tf_hi]; unfold pk5; rw [if_neg (by omega)]; rw [if_neg (by omega)]; rw [if_neg (by omega)]; rw [if_neg (by omega)]; rw [show (16 + i) % 4 = i by omega]
    refine x_aload_n i_33_43 rfl ?_
    refine n_gi (x := f + 20) i_33_44 ob_0 gf_0_6.1 gf_0_6.2 t5.2.1 ?_
    refine x_iret i_33_47 rn_33 rfl ?_
    exact k g1 M5 t5 ((((f1.trans f2).trans f3).trans f4).trans f5)
  · have k0 := k0 g1
    refine n_bipush 4294967293 i_33_13 rfl ?_
    refine x_iret i_33_15 rn_33 rfl ?_
    exact k0
def FE (M M' : a_Mm) : Prop := ∀ o k, ¬ o = 181 → ¬ (o = 170 ∧ (k = 0 ∨ k = 18)) → M' o k = M o k
theorem FE.trans {M M1 M2 : a_Mm} (h : FE M M1) (g : FE M1 M2) : FE M M2 := fun o k a b => (g o k a b).trans (h o k a b)
def FE0 (M M' : a_Mm) : Prop := ∀ o k, ¬ o = 181 → ¬ (o = 170 ∧ k = 18) → M' o k = M o k
theorem FE0.trans {M M1 M2 : a_Mm} (h : FE0 M M1) (g : FE0 M1 M2) : FE0 M M2 := fun o k a b => (g o k a b).trans (h o k a b)
theorem e_239_24 {l1 l2 l3 l4 l5 : Nat} {T' : Nat → Nat} (hf : f + 20 ≤ 200) (hT : ∀ i, T' (f + i) = bt (pk5 l1 l2 l3 l4 l5 i) (24 - 8 * (i % 4))) {M0 : a_Mm} : ∀ (d i : Nat) {M : a_Mm} {l7 : Option Value} (hd : 20 - i = d) (hi : i ≤ 20) (t : TR M (f + i) T') (fr : FE0 M0 M) (k : ∀ M', TR M' (f + 20) T' → FE0 M0 M' → Q (some (.int (N (f + 20)))) (a_hp sc fd M')), a_Ex 239 24 [some (.ref 170), some (.int (N l1)), some (.int (N l2)), some (.int (N l3)), some (.int (N l4)), some (.int (N l5)), some (.int (N i)), l7] [] (a_hp sc fd M) Q := by
  intro d
  induction d with
  | zero =>
    intro i M l7 hd hi t fr k
    have e : i = 20 := by omega
    subst e
    refine x_iload i_239_24 rfl ?_
    refine n_bipush 20 i_239_26 rfl ?_
    refine x_igeN (by omega) (by omega) i_239_28 ⟨fun g1 => ?_, fun g1 => ?_⟩
    · refine x_aload_n i_239_121 rfl ?_
      refine n_gi (x := f + 20) i_239_122 ob_170 gf_8_18.1 gf_8_18.2 t.2.1 ?_
      refine x_iret i_239_125 rn_239 rfl ?_
      exact k M t fr
    · exact absurd (Nat.le_refl _) g1
  | succ d ih =>
    intro i M l7 hd hi t fr k
    obtain ⟨t1, t2, t3⟩ := t
    have C : ∀ v, pk5 l1 l2 l3 l4 l5 i = v → a_Ex 239 77 [some (.ref 170), some (.int (N l1)), some (.int (N l2)), some (.int (N l3)), some (.int (N l4)), some (.int (N l5)), some (.int (N i)), l7] [.int (N v)] (a_hp sc fd M) Q := by
      intro v hv
      have hb := hT i
      rw [hv] at hb
      refine x_istore i_239_77 rfl rfl ?_
      refine x_aload_n i_239_79 rfl ?_
      refine x_gr i_239_80 ob_170 gr_8_17.1 gr_8_17.2 (rt_170_17 _) ?_
      refine x_aload_n i_239_83 rfl ?_
      refine n_gi (x := f + i) i_239_84 ob_170 gf_8_18.1 gf_8_18.2 t2 ?_
      refine x_iload i_239_87 rfl ?_
      refine n_bipush 24 i_239_89 rfl ?_
      refine n_bipush 8 i_239_91 rfl ?_
      refine x_iload i_239_93 rfl ?_
      refine n_iconst 4 i_239_95 rfl ?_
      refine x_iremN (by omega) (by omega) (by omega) i_239_96 ?_
      refine x_imulN i_239_97 ?_
      refine x_isubN (by omega) i_239_98 ?_
      refine x_ishr i_239_99 ?_
      refine n_sipush 255 i_239_100 rfl ?_
      refine x_iand i_239_103 ?_
      rw [bt_r, ← hb]
      refine x_st i_239_104 ar_181 (by rw [a_in_N (by omega)]; omega) ?_
      rw [N_toNat (by omega)]
      refine x_aload_n i_239_105 rfl ?_
      refine x_dup i_239_106 rfl ?_
      refine n_gi (x := f + i) i_239_107 ob_170 gf_8_18.1 gf_8_18.2 (by rw [a_up_def, if_neg (by omega)]; exact t2) ?_
      refine n_iconst 1 i_239_110 rfl ?_
      refine x_iaddN i_239_111 ?_
      refine x_pi i_239_112 ob_170 pf_8_18.1 pf_8_18.2 ?_
      refine n_iinc 1 i_239_115 rfl rfl rfl rfl ?_
      refine x_goto i_239_118 ?_
      refine ih (i + 1) (by omega) (by omega) ⟨by omega, by rw [a_up_def, if_pos ⟨rfl, rfl⟩]; rfl, fun j hj => ?_⟩ (fr.trans (fun o j h1 h2 => by rw [a_up_def, if_neg h2, a_up_def, if_neg (fun q => h1 q.1)])) k
      rw [a_up_def, if_neg (by omega), a_up_def]
      by_cases c : j = f + i
      · rw [if_pos ⟨rfl, c⟩, c]; exact ⟨by rw [hb]; exact btk_lt _ _, rfl⟩
      · rw [if_neg (fun q => c q.2)]; exact t3 j (by omega)
    refine x_iload i_239_24 rfl ?_
    refine n_bipush 20 i_239_26 rfl ?_
    refine x_igeN (by omega) (by omega) i_239_28 ⟨fun g1 => ?_, fun g1 => ?_⟩
    · exact absurd g1 (by omega)
    · refine x_iload i_239_31 rfl ?_
      refine n_iconst 4 i_239_33 rfl ?_
      refine x_igeN (by omega) (by omega) i_239_34 ⟨fun g2 => ?_, fun g2 => ?_⟩
      · refine x_iload i_239_41 rfl ?_
        refine n_bipush 8 i_239_43 rfl ?_
        refine x_igeN (by omega) (by omega) i_239_45 ⟨fun g3 => ?_, fun g3 => ?_⟩
        · refine x_iload i_239_52 rfl ?_
          refine n_bipush 12 i_239_54 rfl ?_
          refine x_igeN (by omega) (by omega) i_239_56 ⟨fun g4 => ?_, fun g4 => ?_⟩
          · refine x_iload i_239_63 rfl ?_
            refine n_bipush 16 i_239_65 rfl ?_
            refine x_igeN (by omega) (by omega) i_239_67 ⟨fun g5 => ?_, fun g5 => ?_⟩
            · refine x_iload i_239_75 rfl ?_
              refine C _ ?_
              unfold pk5
              repeat first | rw [if_pos (by omega)] | rw [if_neg (by omega)]
            · refine x_iload i_239_70 rfl ?_
              refine x_goto i_239_72 ?_
              refine C _ ?_
              unfold pk5
              repeat first | rw [if_pos (by omega)] | rw [if_neg (by omega)]
          · refine x_iload_n i_239_59 rfl ?_
            refine x_goto i_239_60 ?_
            refine C _ ?_
            unfold pk5
            repeat first | rw [if_pos (by omega)] | rw [if_neg (by omega)]
        · refine x_iload_n i_239_48 rfl ?_
          refine x_goto i_239_49 ?_
          refine C _ ?_
          unfold pk5
          repeat first | rw [if_pos (by omega)] | rw [if_neg (by omega)]
      · refine x_iload_n i_239_37 rfl ?_
        refine x_goto i_239_38 ?_
        refine C _ ?_
        unfold pk5
        repeat first | rw [if_pos (by omega)] | rw [if_neg (by omega)]
theorem e_239 (r : RM M n B) {l1 l2 l3 l4 l5 : Nat} (t : TR M f T) (k0 : ¬ f + 20 ≤ 200 → ∀ M', RM M' n (a_up B 9 0 0) → TR M' f T → FE M M' → Q (some (.int (N 4294967293))) (a_hp sc fd M')) (k : f + 20 ≤ 200 → ∀ M', RM M' n (a_up B 9 0 0) → TR M' (f + 20) (tf T f l1 l2 l3 l4 l5) → FE M M' → Q (some (.int (N (f + 20)))) (a_hp sc fd M')) : a_Ex 239 0 [some (.ref 170), some (.int (N l1)), some (.int (N l2)), some (.int (N l3)), some (.int (N l4)), some (.int (N l5)), none, none] [] (a_hp sc fd M) Q := by
  have hf := t.1
  refine x_aload_n i_239_0 rfl ?_
  refine n_iconst 0 i_239_1 rfl ?_
  refine x_pi i_239_2 ob_170 pf_8_0.1 pf_8_0.2 ?_
  have r1 : RM (a_up M 170 0 (N 0)) n (a_up B 9 0 0) := r.putg
  have f1 : FE M (a_up M 170 0 (N 0)) := fun o j h1 h2 => by rw [a_up_def, if_neg (fun q => h2 ⟨q.1, Or.inl q.2⟩)]
  have t1 : TR (a_up M 170 0 (N 0)) f T := ⟨t.1, by rw [a_up_def, if_neg (by omega)]; exact t.2.1, fun j hj => by rw [a_up_def, if_neg (by omega)]; exact t.2.2 j hj⟩
  generalize a_up M 170 0 (N 0) = M1 at r1 f1 t1 ⊢
  refine x_aload_n i_239_5 rfl ?_
  refine n_gi (x := f) i_239_6 ob_170 gf_8_18.1 gf_8_18.2 t1.2.1 ?_
  refine n_bipush 20 i_239_9 rfl ?_
  refine x_iaddN i_239_11 ?_
  refine n_sipush 200 i_239_12 rfl ?_
  refine x_ileN (by omega) (by omega) i_239_15 ⟨fun g1 => ?_, fun g1 => ?_⟩
  · refine n_iconst 0 i_239_21 rfl ?_
    refine x_istore i_239_22 rfl rfl ?_
    have t2 : TR M1 (f + 0) (tf T f l1 l2 l3 l4 l5) := ⟨hf, t1.2.1, fun j hj => by rw [tf_lo (by omega)]; exact t1.2.2 j (by omega)⟩
    refine e_239_24 g1 (fun i => tf_hi) 20 0 rfl (by omega) t2 (fun _ _ _ _ => rfl) (fun M2 t3 f2 => k g1 M2 (r1.same (fun j hj => f2 _ _ (by omega) (by omega)) (fun j hj => f2 _ _ (by omega) (by omega))) t3 (f1.trans (fun o j h1 h2 => f2 o j h1 (fun q => h2 ⟨q.1, Or.inr q.2⟩))))
  · have k0 := k0 g1 M1 r1 t1 f1
    refine n_bipush 4294967293 i_239_18 rfl ?_
    refine x_iret i_239_20 rn_239 rfl ?_
    exact k0
end FEED
