/-! walks, by program -/
theorem v_69_0 {sc : a_Sc} {fd : Nat} {M : a_Mm} {Q : Option Value → a_Hp → Prop} {b : Nat} {l1 : Int32} (hb : HB b)
    (H : a_Ex 69 4 [some (.ref b), some (.int l1), some (.int (0)), some (.int (0))] [] (a_hp sc fd M) Q) :
    a_Ex 69 0 [some (.ref b), some (.int l1), none, none] [] (a_hp sc fd M) Q := by
  refine x_iconst i_69_0  ?_
  refine x_istore_n i_69_1 rfl rfl ?_
  refine x_iconst i_69_2  ?_
  refine x_istore_n i_69_3 rfl rfl ?_
  exact H
theorem v_69_4 {sc : a_Sc} {fd : Nat} {M : a_Mm} {Q : Option Value → a_Hp → Prop} {b : Nat} {l1 : Int32} {l2 : Int32} {l3 : Int32} (hb : HB b)
    (H : ((M b 0) ≤ l3 → Q (some (.int l2)) (a_hp sc fd M)) ∧ (¬ (M b 0) ≤ l3 → a_in (l3) 5 = true ∧ ((¬ (M (b + 2) (l3 : Int32).toNatClampNeg) = l1 → a_Ex 69 4 [some (.ref b), some (.int l1), some (.int l2), some (.int ((l3 + 1)))] [] (a_hp sc fd M) Q) ∧ ((M (b + 2) (l3 : Int32).toNatClampNeg) = l1 → a_Ex 69 4 [some (.ref b), some (.int l1), some (.int ((l2 ||| (1 <<< (l3 &&& 31))))), some (.int ((l3 + 1)))] [] (a_hp sc fd M) Q)))) :
    a_Ex 69 4 [some (.ref b), some (.int l1), some (.int l2), some (.int l3)] [] (a_hp sc fd M) Q := by
  refine x_iload_n i_69_4 rfl ?_
  refine x_aload_n i_69_5 rfl ?_
  refine x_gi i_69_6 hb.ob gf_1_0.1 gf_1_0.2 ?_
  refine x_ige i_69_9 ⟨fun g1 => ?_, fun g1 => ?_⟩
  · refine x_iload_n i_69_34 rfl ?_
    refine x_iret i_69_35 rn_69 rfl ?_
    exact (H.1 g1)
  · refine x_aload_n i_69_12 rfl ?_
    refine x_gr i_69_13 hb.ob gr_1_6.1 gr_1_6.2 (hb.r6 _) ?_
    refine x_iload_n i_69_16 rfl ?_
    refine x_ld i_69_17 rfl hb.a2 (H.2 g1).1 ?_
    refine x_iload_n i_69_18 rfl ?_
    refine x_ine i_69_19 ⟨fun g2 => ?_, fun g2 => ?_⟩
    · refine x_iinc i_69_28 rfl rfl rfl ?_
      refine x_goto i_69_31  ?_
      exact ((H.2 g1).2.1 g2)
    · refine x_iload_n i_69_22 rfl ?_
      refine x_iconst i_69_23  ?_
      refine x_iload_n i_69_24 rfl ?_
      refine x_ishl i_69_25  ?_
      refine x_ior i_69_26  ?_
      refine x_istore_n i_69_27 rfl rfl ?_
      refine x_iinc i_69_28 rfl rfl rfl ?_
      refine x_goto i_69_31  ?_
      exact ((H.2 g1).2.2 g2)
theorem v_49_0 {sc : a_Sc} {fd : Nat} {M : a_Mm} {Q : Option Value → a_Hp → Prop} {b : Nat} {l1 : Int32} (hb : HB b)
    (H : a_Ex 49 4 [some (.ref b), some (.int l1), some (.int (0)), some (.int (0))] [] (a_hp sc fd M) Q) :
    a_Ex 49 0 [some (.ref b), some (.int l1), none, none] [] (a_hp sc fd M) Q := by
  refine x_iconst i_49_0  ?_
  refine x_istore_n i_49_1 rfl rfl ?_
  refine x_iconst i_49_2  ?_
  refine x_istore_n i_49_3 rfl rfl ?_
  exact H
theorem v_49_4 {sc : a_Sc} {fd : Nat} {M : a_Mm} {Q : Option Value → a_Hp → Prop} {b : Nat} {l1 : Int32} {l2 : Int32} {l3 : Int32} (hb : HB b)
    (H : ((M b 0) ≤ l3 → Q (some (.int l2)) (a_hp sc fd M)) ∧ (¬ (M b 0) ≤ l3 → (¬ ((l1 >>> (l3 &&& 31)) &&& 1) = 1 → a_Ex 49 4 [some (.ref b), some (.int l1), some (.int l2), some (.int ((l3 + 1)))] [] (a_hp sc fd M) Q) ∧ (((l1 >>> (l3 &&& 31)) &&& 1) = 1 → a_in (l3) 5 = true ∧ (a_Ex 49 4 [some (.ref b), some (.int l1), some (.int ((l2 + (M (b + 5) (l3 : Int32).toNatClampNeg)))), some (.int ((l3 + 1)))] [] (a_hp sc fd M) Q)))) :
    a_Ex 49 4 [some (.ref b), some (.int l1), some (.int l2), some (.int l3)] [] (a_hp sc fd M) Q := by
  refine x_iload_n i_49_4 rfl ?_
  refine x_aload_n i_49_5 rfl ?_
  refine x_gi i_49_6 hb.ob gf_1_0.1 gf_1_0.2 ?_
  refine x_ige i_49_9 ⟨fun g1 => ?_, fun g1 => ?_⟩
  · refine x_iload_n i_49_36 rfl ?_
    refine x_iret i_49_37 rn_49 rfl ?_
    exact (H.1 g1)
  · refine x_iload_n i_49_12 rfl ?_
    refine x_iload_n i_49_13 rfl ?_
    refine x_ishr i_49_14  ?_
    refine x_iconst i_49_15  ?_
    refine x_iand i_49_16  ?_
    refine x_iconst i_49_17  ?_
    refine x_ine i_49_18 ⟨fun g2 => ?_, fun g2 => ?_⟩
    · refine x_iinc i_49_30 rfl rfl rfl ?_
      refine x_goto i_49_33  ?_
      exact ((H.2 g1).1 g2)
    · refine x_iload_n i_49_21 rfl ?_
      refine x_aload_n i_49_22 rfl ?_
      refine x_gr i_49_23 hb.ob gr_1_9.1 gr_1_9.2 (hb.r9 _) ?_
      refine x_iload_n i_49_26 rfl ?_
      refine x_ld i_49_27 rfl hb.a5 ((H.2 g1).2 g2).1 ?_
      refine x_iadd i_49_28  ?_
      refine x_istore_n i_49_29 rfl rfl ?_
      refine x_iinc i_49_30 rfl rfl rfl ?_
      refine x_goto i_49_33  ?_
      exact ((H.2 g1).2 g2).2
theorem v_55_0 {sc : a_Sc} {fd : Nat} {M : a_Mm} {Q : Option Value → a_Hp → Prop} {b : Nat} {l1 : Int32} (hb : HB b)
    (H : a_Ex 55 4 [some (.ref b), some (.int l1), some (.int (0)), some (.int (0))] [] (a_hp sc fd M) Q) :
    a_Ex 55 0 [some (.ref b), some (.int l1), none, none] [] (a_hp sc fd M) Q := by
  refine x_iconst i_55_0  ?_
  refine x_istore_n i_55_1 rfl rfl ?_
  refine x_iconst i_55_2  ?_
  refine x_istore_n i_55_3 rfl rfl ?_
  exact H
theorem v_55_4 {sc : a_Sc} {fd : Nat} {M : a_Mm} {Q : Option Value → a_Hp → Prop} {b : Nat} {l1 : Int32} {l2 : Int32} {l3 : Int32} (hb : HB b)
    (H : ((M b 0) ≤ l3 → Q (some (.int l2)) (a_hp sc fd M)) ∧ (¬ (M b 0) ≤ l3 → (¬ ((l1 >>> (l3 &&& 31)) &&& 1) = 1 → a_Ex 55 4 [some (.ref b), some (.int l1), some (.int l2), some (.int ((l3 + 1)))] [] (a_hp sc fd M) Q) ∧ (((l1 >>> (l3 &&& 31)) &&& 1) = 1 → a_in (l3) 5 = true ∧ (a_Ex 55 4 [some (.ref b), some (.int l1), some (.int ((l2 ||| (1 <<< ((M (b + 1) (l3 : Int32).toNatClampNeg) &&& 31))))), some (.int ((l3 + 1)))] [] (a_hp sc fd M) Q)))) :
    a_Ex 55 4 [some (.ref b), some (.int l1), some (.int l2), some (.int l3)] [] (a_hp sc fd M) Q := by
  refine x_iload_n i_55_4 rfl ?_
  refine x_aload_n i_55_5 rfl ?_
  refine x_gi i_55_6 hb.ob gf_1_0.1 gf_1_0.2 ?_
  refine x_ige i_55_9 ⟨fun g1 => ?_, fun g1 => ?_⟩
  · refine x_iload_n i_55_38 rfl ?_
    refine x_iret i_55_39 rn_55 rfl ?_
    exact (H.1 g1)
  · refine x_iload_n i_55_12 rfl ?_
    refine x_iload_n i_55_13 rfl ?_
    refine x_ishr i_55_14  ?_
    refine x_iconst i_55_15  ?_
    refine x_iand i_55_16  ?_
    refine x_iconst i_55_17  ?_
    refine x_ine i_55_18 ⟨fun g2 => ?_, fun g2 => ?_⟩
    · refine x_iinc i_55_32 rfl rfl rfl ?_
      refine x_goto i_55_35  ?_
      exact ((H.2 g1).1 g2)
    · refine x_iload_n i_55_21 rfl ?_
      refine x_iconst i_55_22  ?_
      refine x_aload_n i_55_23 rfl ?_
      refine x_gr i_55_24 hb.ob gr_1_5.1 gr_1_5.2 (hb.r5 _) ?_
      refine x_iload_n i_55_27 rfl ?_
      refine x_ld i_55_28 rfl hb.a1 ((H.2 g1).2 g2).1 ?_
      refine x_ishl i_55_29  ?_
      refine x_ior i_55_30  ?_
      refine x_istore_n i_55_31 rfl rfl ?_
      refine x_iinc i_55_32 rfl rfl rfl ?_
      refine x_goto i_55_35  ?_
      exact ((H.2 g1).2 g2).2
theorem v_65_0 {sc : a_Sc} {fd : Nat} {M : a_Mm} {Q : Option Value → a_Hp → Prop} {b : Nat} {l1 : Int32} (hb : HB b)
    (H : a_Ex 65 4 [some (.ref b), some (.int l1), some (.int (0)), some (.int (0))] [] (a_hp sc fd M) Q) :
    a_Ex 65 0 [some (.ref b), some (.int l1), none, none] [] (a_hp sc fd M) Q := by
  refine x_iconst i_65_0  ?_
  refine x_istore_n i_65_1 rfl rfl ?_
  refine x_iconst i_65_2  ?_
  refine x_istore_n i_65_3 rfl rfl ?_
  exact H
theorem v_65_4 {sc : a_Sc} {fd : Nat} {M : a_Mm} {Q : Option Value → a_Hp → Prop} {b : Nat} {l1 : Int32} {l2 : Int32} {l3 : Int32} (hb : HB b)
    (H : ((M b 0) ≤ l3 → Q (some (.int l2)) (a_hp sc fd M)) ∧ (¬ (M b 0) ≤ l3 → a_in (l3) 5 = true ∧ ((¬ ((l1 >>> ((M (b + 1) (l3 : Int32).toNatClampNeg) &&& 31)) &&& 1) = 1 → a_Ex 65 4 [some (.ref b), some (.int l1), some (.int l2), some (.int ((l3 + 1)))] [] (a_hp sc fd M) Q) ∧ (((l1 >>> ((M (b + 1) (l3 : Int32).toNatClampNeg) &&& 31)) &&& 1) = 1 → a_Ex 65 4 [some (.ref b), some (.int l1), some (.int ((l2 ||| (1 <<< (l3 &&& 31))))), some (.int ((l3 + 1)))] [] (a_hp sc fd M) Q)))) :
    a_Ex 65 4 [some (.ref b), some (.int l1), some (.int l2), some (.int l3)] [] (a_hp sc fd M) Q := by
  refine x_iload_n i_65_4 rfl ?_
  refine x_aload_n i_65_5 rfl ?_
  refine x_gi i_65_6 hb.ob gf_1_0.1 gf_1_0.2 ?_
  refine x_ige i_65_9 ⟨fun g1 => ?_, fun g1 => ?_⟩
  · refine x_iload_n i_65_38 rfl ?_
    refine x_iret i_65_39 rn_65 rfl ?_
    exact (H.1 g1)
  · refine x_iload_n i_65_12 rfl ?_
    refine x_aload_n i_65_13 rfl ?_
    refine x_gr i_65_14 hb.ob gr_1_5.1 gr_1_5.2 (hb.r5 _) ?_
    refine x_iload_n i_65_17 rfl ?_
    refine x_ld i_65_18 rfl hb.a1 (H.2 g1).1 ?_
    refine x_ishr i_65_19  ?_
    refine x_iconst i_65_20  ?_
    refine x_iand i_65_21  ?_
    refine x_iconst i_65_22  ?_
    refine x_ine i_65_23 ⟨fun g2 => ?_, fun g2 => ?_⟩
    · refine x_iinc i_65_32 rfl rfl rfl ?_
      refine x_goto i_65_35  ?_
      exact ((H.2 g1).2.1 g2)
    · refine x_iload_n i_65_26 rfl ?_
      refine x_iconst i_65_27  ?_
      refine x_iload_n i_65_28 rfl ?_
      refine x_ishl i_65_29  ?_
      refine x_ior i_65_30  ?_
      refine x_istore_n i_65_31 rfl rfl ?_
      refine x_iinc i_65_32 rfl rfl rfl ?_
      refine x_goto i_65_35  ?_
      exact ((H.2 g1).2.2 g2)
theorem v_74_0 {sc : a_Sc} {fd : Nat} {M : a_Mm} {Q : Option Value → a_Hp → Prop} {b : Nat} {l1 : Int32} (hb : HB b)
    (H : a_Ex 74 4 [some (.ref b), some (.int l1), some (.int (0)), some (.int (0))] [] (a_hp sc fd M) Q) :
    a_Ex 74 0 [some (.ref b), some (.int l1), none, none] [] (a_hp sc fd M) Q := by
  refine x_iconst i_74_0  ?_
  refine x_istore_n i_74_1 rfl rfl ?_
  refine x_iconst i_74_2  ?_
  refine x_istore_n i_74_3 rfl rfl ?_
  exact H
theorem v_74_4 {sc : a_Sc} {fd : Nat} {M : a_Mm} {Q : Option Value → a_Hp → Prop} {b : Nat} {l1 : Int32} {l2 : Int32} {l3 : Int32} (hb : HB b)
    (H : ((M b 0) ≤ l3 → Q (some (.int l2)) (a_hp sc fd M)) ∧ (¬ (M b 0) ≤ l3 → a_in (l3) 5 = true ∧ ((¬ (M (b + 3) (l3 : Int32).toNatClampNeg) = l1 → a_Ex 74 4 [some (.ref b), some (.int l1), some (.int l2), some (.int ((l3 + 1)))] [] (a_hp sc fd M) Q) ∧ ((M (b + 3) (l3 : Int32).toNatClampNeg) = l1 → a_Ex 74 4 [some (.ref b), some (.int l1), some (.int ((l2 ||| (1 <<< (l3 &&& 31))))), some (.int ((l3 + 1)))] [] (a_hp sc fd M) Q)))) :
    a_Ex 74 4 [some (.ref b), some (.int l1), some (.int l2), some (.int l3)] [] (a_hp sc fd M) Q := by
  refine x_iload_n i_74_4 rfl ?_
  refine x_aload_n i_74_5 rfl ?_
  refine x_gi i_74_6 hb.ob gf_1_0.1 gf_1_0.2 ?_
  refine x_ige i_74_9 ⟨fun g1 => ?_, fun g1 => ?_⟩
  · refine x_iload_n i_74_34 rfl ?_
    refine x_iret i_74_35 rn_74 rfl ?_
    exact (H.1 g1)
  · refine x_aload_n i_74_12 rfl ?_
    refine x_gr i_74_13 hb.ob gr_1_7.1 gr_1_7.2 (hb.r7 _) ?_
    refine x_iload_n i_74_16 rfl ?_
    refine x_ld i_74_17 rfl hb.a3 (H.2 g1).1 ?_
    refine x_iload_n i_74_18 rfl ?_
    refine x_ine i_74_19 ⟨fun g2 => ?_, fun g2 => ?_⟩
    · refine x_iinc i_74_28 rfl rfl rfl ?_
      refine x_goto i_74_31  ?_
      exact ((H.2 g1).2.1 g2)
    · refine x_iload_n i_74_22 rfl ?_
      refine x_iconst i_74_23  ?_
      refine x_iload_n i_74_24 rfl ?_
      refine x_ishl i_74_25  ?_
      refine x_ior i_74_26  ?_
      refine x_istore_n i_74_27 rfl rfl ?_
      refine x_iinc i_74_28 rfl rfl rfl ?_
      refine x_goto i_74_31  ?_
      exact ((H.2 g1).2.2 g2)
theorem v_75_0 {sc : a_Sc} {fd : Nat} {M : a_Mm} {Q : Option Value → a_Hp → Prop} {b : Nat} {l1 : Int32} (hb : HB b)
    (H : a_Ex 75 2 [some (.ref b), some (.int l1), some (.int (0))] [] (a_hp sc fd M) Q) :
    a_Ex 75 0 [some (.ref b), some (.int l1), none] [] (a_hp sc fd M) Q := by
  refine x_iconst i_75_0  ?_
  refine x_istore_n i_75_1 rfl rfl ?_
  exact H
theorem v_75_2 {sc : a_Sc} {fd : Nat} {M : a_Mm} {Q : Option Value → a_Hp → Prop} {b : Nat} {l1 : Int32} {l2 : Int32} (hb : HB b)
    (H : ((M b 0) ≤ l2 → Q (some (.int (-1))) (a_hp sc fd M)) ∧ (¬ (M b 0) ≤ l2 → (¬ ((l1 >>> (l2 &&& 31)) &&& 1) = 1 → a_Ex 75 2 [some (.ref b), some (.int l1), some (.int ((l2 + 1)))] [] (a_hp sc fd M) Q) ∧ (((l1 >>> (l2 &&& 31)) &&& 1) = 1 → Q (some (.int l2)) (a_hp sc fd M)))) :
    a_Ex 75 2 [some (.ref b), some (.int l1), some (.int l2)] [] (a_hp sc fd M) Q := by
  refine x_iload_n i_75_2 rfl ?_
  refine x_aload_n i_75_3 rfl ?_
  refine x_gi i_75_4 hb.ob gf_1_0.1 gf_1_0.2 ?_
  refine x_ige i_75_7 ⟨fun g1 => ?_, fun g1 => ?_⟩
  · refine x_iconst i_75_27  ?_
    refine x_iret i_75_28 rn_75 rfl ?_
    exact (H.1 g1)
  · refine x_iload_n i_75_10 rfl ?_
    refine x_iload_n i_75_11 rfl ?_
    refine x_ishr i_75_12  ?_
    refine x_iconst i_75_13  ?_
    refine x_iand i_75_14  ?_
    refine x_iconst i_75_15  ?_
    refine x_ine i_75_16 ⟨fun g2 => ?_, fun g2 => ?_⟩
    · refine x_iinc i_75_21 rfl rfl rfl ?_
      refine x_goto i_75_24  ?_
      exact ((H.2 g1).1 g2)
    · refine x_iload_n i_75_19 rfl ?_
      refine x_iret i_75_20 rn_75 rfl ?_
      exact ((H.2 g1).2 g2)
theorem v_84_0 {sc : a_Sc} {fd : Nat} {M : a_Mm} {Q : Option Value → a_Hp → Prop} {b : Nat} {l1 : Int32} (hb : HB b)
    (H : a_Ex 84 7 [some (.ref b), some (.int l1), some (.int (((1 <<< ((M b 0) &&& 31)) - 1))), some (.int (0))] [] (a_hp sc fd M) Q) :
    a_Ex 84 0 [some (.ref b), some (.int l1), none, none] [] (a_hp sc fd M) Q := by
  refine x_aload_n i_84_0 rfl ?_
  refine x_vh (r := []) (lj := [some _]) i_84_1 w_47 hb.ob [] rfl rfl (Nat.le_of_ble_eq_true rfl) (Nat.le_of_ble_eq_true rfl) rfl ?_
  refine x_iconst i_47_0  ?_
  refine x_aload_n i_47_1 rfl ?_
  refine x_gi i_47_2 hb.ob gf_1_0.1 gf_1_0.2 ?_
  refine x_ishl i_47_5  ?_
  refine x_iconst i_47_6  ?_
  refine x_isub i_47_7  ?_
  refine x_iretI i_47_8 rn_47 rfl ?_
  refine x_istore_n i_84_4 rfl rfl ?_
  refine x_iconst i_84_5  ?_
  refine x_istore_n i_84_6 rfl rfl ?_
  exact H
theorem v_84_7 {sc : a_Sc} {fd : Nat} {M : a_Mm} {Q : Option Value → a_Hp → Prop} {b : Nat} {l1 : Int32} {l2 : Int32} {l3 : Int32} (hb : HB b)
    (H : ((M b 0) ≤ l3 → Q (some (.int l2)) (a_hp sc fd M)) ∧ (¬ (M b 0) ≤ l3 → (¬ ((l1 >>> (l3 &&& 31)) &&& 1) = 1 → a_Ex 84 7 [some (.ref b), some (.int l1), some (.int l2), some (.int ((l3 + 1)))] [] (a_hp sc fd M) Q) ∧ (((l1 >>> (l3 &&& 31)) &&& 1) = 1 → a_in (l3) 5 = true ∧ (a_Ex 84 7 [some (.ref b), some (.int l1), some (.int ((l2 &&& (M (b + 6) (l3 : Int32).toNatClampNeg)))), some (.int ((l3 + 1)))] [] (a_hp sc fd M) Q)))) :
    a_Ex 84 7 [some (.ref b), some (.int l1), some (.int l2), some (.int l3)] [] (a_hp sc fd M) Q := by
  refine x_iload_n i_84_7 rfl ?_
  refine x_aload_n i_84_8 rfl ?_
  refine x_gi i_84_9 hb.ob gf_1_0.1 gf_1_0.2 ?_
  refine x_ige i_84_12 ⟨fun g1 => ?_, fun g1 => ?_⟩
  · refine x_iload_n i_84_39 rfl ?_
    refine x_iret i_84_40 rn_84 rfl ?_
    exact (H.1 g1)
  · refine x_iload_n i_84_15 rfl ?_
    refine x_iload_n i_84_16 rfl ?_
    refine x_ishr i_84_17  ?_
    refine x_iconst i_84_18  ?_
    refine x_iand i_84_19  ?_
    refine x_iconst i_84_20  ?_
    refine x_ine i_84_21 ⟨fun g2 => ?_, fun g2 => ?_⟩
    · refine x_iinc i_84_33 rfl rfl rfl ?_
      refine x_goto i_84_36  ?_
      exact ((H.2 g1).1 g2)
    · refine x_iload_n i_84_24 rfl ?_
      refine x_aload_n i_84_25 rfl ?_
      refine x_gr i_84_26 hb.ob gr_1_10.1 gr_1_10.2 (hb.r10 _) ?_
      refine x_iload_n i_84_29 rfl ?_
      refine x_ld i_84_30 rfl hb.a6 ((H.2 g1).2 g2).1 ?_
      refine x_iand i_84_31  ?_
      refine x_istore_n i_84_32 rfl rfl ?_
      refine x_iinc i_84_33 rfl rfl rfl ?_
      refine x_goto i_84_36  ?_
      exact ((H.2 g1).2 g2).2
theorem v_158_0 {sc : a_Sc} {fd : Nat} {M : a_Mm} {Q : Option Value → a_Hp → Prop} {l1 : Int32} {l2 : Int32}
    (H : a_Ex 158 5 [some (.ref 170), some (.int l1), some (.int l2), some (.int (0)), some (.int (0))] [] (a_hp sc fd M) Q) :
    a_Ex 158 0 [some (.ref 170), some (.int l1), some (.int l2), none, none] [] (a_hp sc fd M) Q := by
  refine x_iconst i_158_0  ?_
  refine x_istore_n i_158_1 rfl rfl ?_
  refine x_iconst i_158_2  ?_
  refine x_istore i_158_3 rfl rfl ?_
  exact H
theorem v_158_5 {sc : a_Sc} {fd : Nat} {M : a_Mm} {Q : Option Value → a_Hp → Prop} {l1 : Int32} {l2 : Int32} {l3 : Int32} {l4 : Int32}
    (H : ((M 171 (0 : Int32).toNatClampNeg) ≤ l4 → Q (some (.int l3)) (a_hp sc fd M)) ∧ (¬ (M 171 (0 : Int32).toNatClampNeg) ≤ l4 → a_in (((5 + (6 * l4)) + l1)) 648 = true ∧ ((¬ (M 171 (((5 + (6 * l4)) + l1) : Int32).toNatClampNeg) = l2 → a_Ex 158 5 [some (.ref 170), some (.int l1), some (.int l2), some (.int ((l3 ||| 0))), some (.int ((l4 + 1)))] [] (a_hp sc fd M) Q) ∧ ((M 171 (((5 + (6 * l4)) + l1) : Int32).toNatClampNeg) = l2 → a_Ex 158 5 [some (.ref 170), some (.int l1), some (.int l2), some (.int ((l3 ||| (1 <<< (l4 &&& 31))))), some (.int ((l4 + 1)))] [] (a_hp sc fd M) Q)))) :
    a_Ex 158 5 [some (.ref 170), some (.int l1), some (.int l2), some (.int l3), some (.int l4)] [] (a_hp sc fd M) Q := by
  refine x_iload i_158_5 rfl ?_
  refine x_aload_n i_158_7 rfl ?_
  refine x_gr i_158_8 ob_170 gr_8_1.1 gr_8_1.2 (rt_170_1 _) ?_
  refine x_iconst i_158_11  ?_
  refine x_ld i_158_12 rfl ar_171 (by decide) ?_
  refine x_ige i_158_13 ⟨fun g1 => ?_, fun g1 => ?_⟩
  · refine x_iload_n i_158_44 rfl ?_
    refine x_iret i_158_45 rn_158 rfl ?_
    exact (H.1 g1)
  · refine x_iload_n i_158_16 rfl ?_
    refine x_aload_n i_158_17 rfl ?_
    refine x_iload i_158_18 rfl ?_
    refine x_iload_n i_158_20 rfl ?_
    refine x_vh (r := [_]) (lj := [some _, some _, some _]) i_158_21 w_155 ob_170 [_, _] rfl rfl (Nat.le_of_ble_eq_true rfl) (Nat.le_of_ble_eq_true rfl) rfl ?_
    refine x_aload_n i_155_0 rfl ?_
    refine x_gr i_155_1 ob_170 gr_8_1.1 gr_8_1.2 (rt_170_1 _) ?_
    refine x_iconst i_155_4  ?_
    refine x_bipush i_155_5  ?_
    refine x_iload_n i_155_7 rfl ?_
    refine x_imul i_155_8  ?_
    refine x_iadd i_155_9  ?_
    refine x_iload_n i_155_10 rfl ?_
    refine x_iadd i_155_11  ?_
    refine x_ld i_155_12 rfl ar_171 (H.2 g1).1 ?_
    refine x_iretI i_155_13 rn_155 rfl ?_
    refine x_iload_n i_158_24 rfl ?_
    refine x_ine i_158_25 ⟨fun g2 => ?_, fun g2 => ?_⟩
    · refine x_iconst i_158_35  ?_
      refine x_ior i_158_36  ?_
      refine x_istore_n i_158_37 rfl rfl ?_
      refine x_iinc i_158_38 rfl rfl rfl ?_
      refine x_goto i_158_41  ?_
      exact ((H.2 g1).2.1 g2)
    · refine x_iconst i_158_28  ?_
      refine x_iload i_158_29 rfl ?_
      refine x_ishl i_158_31  ?_
      refine x_goto i_158_32  ?_
      refine x_ior i_158_36  ?_
      refine x_istore_n i_158_37 rfl rfl ?_
      refine x_iinc i_158_38 rfl rfl rfl ?_
      refine x_goto i_158_41  ?_
      exact ((H.2 g1).2.2 g2)
theorem v_160_0 {sc : a_Sc} {fd : Nat} {M : a_Mm} {Q : Option Value → a_Hp → Prop} {l1 : Int32}
    (H : a_Ex 160 4 [some (.ref 170), some (.int l1), some (.int (0)), some (.int (0))] [] (a_hp sc fd M) Q) :
    a_Ex 160 0 [some (.ref 170), some (.int l1), none, none] [] (a_hp sc fd M) Q := by
  refine x_iconst i_160_0  ?_
  refine x_istore_n i_160_1 rfl rfl ?_
  refine x_iconst i_160_2  ?_
  refine x_istore_n i_160_3 rfl rfl ?_
  exact H
theorem v_160_4 {sc : a_Sc} {fd : Nat} {M : a_Mm} {Q : Option Value → a_Hp → Prop} {l1 : Int32} {l2 : Int32} {l3 : Int32}
    (H : ((M 171 (0 : Int32).toNatClampNeg) ≤ l3 → Q (some (.int l2)) (a_hp sc fd M)) ∧ (¬ (M 171 (0 : Int32).toNatClampNeg) ≤ l3 → (¬ ((l1 >>> (l3 &&& 31)) &&& 1) = 1 → a_Ex 160 4 [some (.ref 170), some (.int l1), some (.int ((l2 + 0))), some (.int ((l3 + 1)))] [] (a_hp sc fd M) Q) ∧ (((l1 >>> (l3 &&& 31)) &&& 1) = 1 → a_in (((5 + (6 * l3)) + 4)) 648 = true ∧ (a_Ex 160 4 [some (.ref 170), some (.int l1), some (.int ((l2 + (M 171 (((5 + (6 * l3)) + 4) : Int32).toNatClampNeg)))), some (.int ((l3 + 1)))] [] (a_hp sc fd M) Q)))) :
    a_Ex 160 4 [some (.ref 170), some (.int l1), some (.int l2), some (.int l3)] [] (a_hp sc fd M) Q := by
  refine x_iload_n i_160_4 rfl ?_
  refine x_aload_n i_160_5 rfl ?_
  refine x_gr i_160_6 ob_170 gr_8_1.1 gr_8_1.2 (rt_170_1 _) ?_
  refine x_iconst i_160_9  ?_
  refine x_ld i_160_10 rfl ar_171 (by decide) ?_
  refine x_ige i_160_11 ⟨fun g1 => ?_, fun g1 => ?_⟩
  · refine x_iload_n i_160_41 rfl ?_
    refine x_iret i_160_42 rn_160 rfl ?_
    exact (H.1 g1)
  · refine x_iload_n i_160_14 rfl ?_
    refine x_iload_n i_160_15 rfl ?_
    refine x_iload_n i_160_16 rfl ?_
    refine x_sh (r := [_]) (lj := [some _, some _]) i_160_17 ws_161 [_, _] rfl rfl (Nat.le_of_ble_eq_true rfl) (Nat.le_of_ble_eq_true rfl) rfl ?_
    refine x_iload_n i_161_0 rfl ?_
    refine x_iload_n i_161_1 rfl ?_
    refine x_ishr i_161_2  ?_
    refine x_iconst i_161_3  ?_
    refine x_iand i_161_4  ?_
    refine x_iconst i_161_5  ?_
    refine x_ine i_161_6 ⟨fun g2 => ?_, fun g2 => ?_⟩
    · refine x_iconst i_161_13  ?_
      refine x_iretI i_161_14 rn_161 (by decide) ?_
      refine x_ifT i_160_20 (by decide) ?_
      refine x_iconst i_160_32  ?_
      refine x_iadd i_160_33  ?_
      refine x_istore_n i_160_34 rfl rfl ?_
      refine x_iinc i_160_35 rfl rfl rfl ?_
      refine x_goto i_160_38  ?_
      exact ((H.2 g1).1 g2)
    · refine x_iconst i_161_9  ?_
      refine x_goto i_161_10  ?_
      refine x_iretI i_161_14 rn_161 (by decide) ?_
      refine x_ifF i_160_20 (by decide) ?_
      refine x_aload_n i_160_23 rfl ?_
      refine x_iload_n i_160_24 rfl ?_
      refine x_iconst i_160_25  ?_
      refine x_vh (r := [_]) (lj := [some _, some _, some _]) i_160_26 w_155 ob_170 [_, _] rfl rfl (Nat.le_of_ble_eq_true rfl) (Nat.le_of_ble_eq_true rfl) rfl ?_
      refine x_aload_n i_155_0 rfl ?_
      refine x_gr i_155_1 ob_170 gr_8_1.1 gr_8_1.2 (rt_170_1 _) ?_
      refine x_iconst i_155_4  ?_
      refine x_bipush i_155_5  ?_
      refine x_iload_n i_155_7 rfl ?_
      refine x_imul i_155_8  ?_
      refine x_iadd i_155_9  ?_
      refine x_iload_n i_155_10 rfl ?_
      refine x_iadd i_155_11  ?_
      refine x_ld i_155_12 rfl ar_171 ((H.2 g1).2 g2).1 ?_
      refine x_iretI i_155_13 rn_155 rfl ?_
      refine x_goto i_160_29  ?_
      refine x_iadd i_160_33  ?_
      refine x_istore_n i_160_34 rfl rfl ?_
      refine x_iinc i_160_35 rfl rfl rfl ?_
      refine x_goto i_160_38  ?_
      exact ((H.2 g1).2 g2).2
theorem v_179_0 {sc : a_Sc} {fd : Nat} {M : a_Mm} {Q : Option Value → a_Hp → Prop} {l0 : Int32}
    (H : a_Ex 179 4 [some (.int l0), some (.int (0)), some (.int (0))] [] (a_hp sc fd M) Q) :
    a_Ex 179 0 [some (.int l0), none, none] [] (a_hp sc fd M) Q := by
  refine x_iconst i_179_0  ?_
  refine x_istore_n i_179_1 rfl rfl ?_
  refine x_iconst i_179_2  ?_
  refine x_istore_n i_179_3 rfl rfl ?_
  exact H
theorem v_179_4 {sc : a_Sc} {fd : Nat} {M : a_Mm} {Q : Option Value → a_Hp → Prop} {l0 : Int32} {l1 : Int32} {l2 : Int32}
    (H : (5 ≤ l2 → Q (some (.int l1)) (a_hp sc fd M)) ∧ (¬ 5 ≤ l2 → a_Ex 179 4 [some (.int l0), some (.int ((l1 + ((l0 >>> (l2 &&& 31)) &&& 1)))), some (.int ((l2 + 1)))] [] (a_hp sc fd M) Q)) :
    a_Ex 179 4 [some (.int l0), some (.int l1), some (.int l2)] [] (a_hp sc fd M) Q := by
  refine x_iload_n i_179_4 rfl ?_
  refine x_iconst i_179_5  ?_
  refine x_ige i_179_6 ⟨fun g1 => ?_, fun g1 => ?_⟩
  · refine x_iload_n i_179_23 rfl ?_
    refine x_iret i_179_24 rn_179 rfl ?_
    exact (H.1 g1)
  · refine x_iload_n i_179_9 rfl ?_
    refine x_iload_n i_179_10 rfl ?_
    refine x_iload_n i_179_11 rfl ?_
    refine x_ishr i_179_12  ?_
    refine x_iconst i_179_13  ?_
    refine x_iand i_179_14  ?_
    refine x_iadd i_179_15  ?_
    refine x_istore_n i_179_16 rfl rfl ?_
    refine x_iinc i_179_17 rfl rfl rfl ?_
    refine x_goto i_179_20  ?_
    exact (H.2 g1)
theorem v_188_0 {sc : a_Sc} {fd : Nat} {M : a_Mm} {Q : Option Value → a_Hp → Prop} {l0 : Int32}
    (H : a_Ex 188 2 [some (.int l0), some (.int (0))] [] (a_hp sc fd M) Q) :
    a_Ex 188 0 [some (.int l0), none] [] (a_hp sc fd M) Q := by
  refine x_iconst i_188_0  ?_
  refine x_istore_n i_188_1 rfl rfl ?_
  exact H
theorem v_188_2 {sc : a_Sc} {fd : Nat} {M : a_Mm} {Q : Option Value → a_Hp → Prop} {l0 : Int32} {l1 : Int32}
    (H : (¬ ((l0 >>> (l1 &&& 31)) &&& 1) = 1 → a_Ex 188 2 [some (.int l0), some (.int ((l1 + 1)))] [] (a_hp sc fd M) Q) ∧ (((l0 >>> (l1 &&& 31)) &&& 1) = 1 → Q (some (.int l1)) (a_hp sc fd M))) :
    a_Ex 188 2 [some (.int l0), some (.int l1)] [] (a_hp sc fd M) Q := by
  refine x_iload_n i_188_2 rfl ?_
  refine x_iload_n i_188_3 rfl ?_
  refine x_sh (r := []) (lj := [some _, some _]) i_188_4 ws_161 [_, _] rfl rfl (Nat.le_of_ble_eq_true rfl) (Nat.le_of_ble_eq_true rfl) rfl ?_
  refine x_iload_n i_161_0 rfl ?_
  refine x_iload_n i_161_1 rfl ?_
  refine x_ishr i_161_2  ?_
  refine x_iconst i_161_3  ?_
  refine x_iand i_161_4  ?_
  refine x_iconst i_161_5  ?_
  refine x_ine i_161_6 ⟨fun g1 => ?_, fun g1 => ?_⟩
  · refine x_iconst i_161_13  ?_
    refine x_iretI i_161_14 rn_161 (by decide) ?_
    refine x_ifF i_188_7 (by decide) ?_
    refine x_iinc i_188_10 rfl rfl rfl ?_
    refine x_goto i_188_13  ?_
    exact (H.1 g1)
  · refine x_iconst i_161_9  ?_
    refine x_goto i_161_10  ?_
    refine x_iretI i_161_14 rn_161 (by decide) ?_
    refine x_ifT i_188_7 (by decide) ?_
    refine x_iload_n i_188_16 rfl ?_
    refine x_iret i_188_17 rn_188 rfl ?_
    exact (H.2 g1)
theorem v_198_0 {sc : a_Sc} {fd : Nat} {M : a_Mm} {Q : Option Value → a_Hp → Prop} {l1 : Int32}
    (H : a_Ex 198 7 [some (.ref 170), some (.int l1), some (.int (((1 <<< ((M 171 (0 : Int32).toNatClampNeg) &&& 31)) - 1))), some (.int (0))] [] (a_hp sc fd M) Q) :
    a_Ex 198 0 [some (.ref 170), some (.int l1), none, none] [] (a_hp sc fd M) Q := by
  refine x_aload_n i_198_0 rfl ?_
  refine x_vh (r := []) (lj := [some _]) i_198_1 w_159 ob_170 [] rfl rfl (Nat.le_of_ble_eq_true rfl) (Nat.le_of_ble_eq_true rfl) rfl ?_
  refine x_iconst i_159_0  ?_
  refine x_aload_n i_159_1 rfl ?_
  refine x_gr i_159_2 ob_170 gr_8_1.1 gr_8_1.2 (rt_170_1 _) ?_
  refine x_iconst i_159_5  ?_
  refine x_ld i_159_6 rfl ar_171 (by decide) ?_
  refine x_ishl i_159_7  ?_
  refine x_iconst i_159_8  ?_
  refine x_isub i_159_9  ?_
  refine x_iretI i_159_10 rn_159 rfl ?_
  refine x_istore_n i_198_4 rfl rfl ?_
  refine x_iconst i_198_5  ?_
  refine x_istore_n i_198_6 rfl rfl ?_
  exact H
theorem v_198_7 {sc : a_Sc} {fd : Nat} {M : a_Mm} {Q : Option Value → a_Hp → Prop} {l1 : Int32} {l2 : Int32} {l3 : Int32}
    (H : ((M 171 (0 : Int32).toNatClampNeg) ≤ l3 → Q (some (.int l2)) (a_hp sc fd M)) ∧ (¬ (M 171 (0 : Int32).toNatClampNeg) ≤ l3 → (¬ ((l1 >>> (l3 &&& 31)) &&& 1) = 1 → a_Ex 198 7 [some (.ref 170), some (.int l1), some (.int l2), some (.int ((l3 + 1)))] [] (a_hp sc fd M) Q) ∧ (((l1 >>> (l3 &&& 31)) &&& 1) = 1 → a_in (((5 + (6 * l3)) + 5)) 648 = true ∧ (a_Ex 198 7 [some (.ref 170), some (.int l1), some (.int ((l2 &&& (M 171 (((5 + (6 * l3)) + 5) : Int32).toNatClampNeg)))), some (.int ((l3 + 1)))] [] (a_hp sc fd M) Q)))) :
    a_Ex 198 7 [some (.ref 170), some (.int l1), some (.int l2), some (.int l3)] [] (a_hp sc fd M) Q := by
  refine x_iload_n i_198_7 rfl ?_
  refine x_aload_n i_198_8 rfl ?_
  refine x_gr i_198_9 ob_170 gr_8_1.1 gr_8_1.2 (rt_170_1 _) ?_
  refine x_iconst i_198_12  ?_
  refine x_ld i_198_13 rfl ar_171 (by decide) ?_
  refine x_ige i_198_14 ⟨fun g1 => ?_, fun g1 => ?_⟩
  · refine x_iload_n i_198_40 rfl ?_
    refine x_iret i_198_41 rn_198 rfl ?_
    exact (H.1 g1)
  · refine x_iload_n i_198_17 rfl ?_
    refine x_iload_n i_198_18 rfl ?_
    refine x_sh (r := []) (lj := [some _, some _]) i_198_19 ws_161 [_, _] rfl rfl (Nat.le_of_ble_eq_true rfl) (Nat.le_of_ble_eq_true rfl) rfl ?_
    refine x_iload_n i_161_0 rfl ?_
    refine x_iload_n i_161_1 rfl ?_
    refine x_ishr i_161_2  ?_
    refine x_iconst i_161_3  ?_
    refine x_iand i_161_4  ?_
    refine x_iconst i_161_5  ?_
    refine x_ine i_161_6 ⟨fun g2 => ?_, fun g2 => ?_⟩
    · refine x_iconst i_161_13  ?_
      refine x_iretI i_161_14 rn_161 (by decide) ?_
      refine x_ifT i_198_22 (by decide) ?_
      refine x_iinc i_198_34 rfl rfl rfl ?_
      refine x_goto i_198_37  ?_
      exact ((H.2 g1).1 g2)
    · refine x_iconst i_161_9  ?_
      refine x_goto i_161_10  ?_
      refine x_iretI i_161_14 rn_161 (by decide) ?_
      refine x_ifF i_198_22 (by decide) ?_
      refine x_iload_n i_198_25 rfl ?_
      refine x_aload_n i_198_26 rfl ?_
      refine x_iload_n i_198_27 rfl ?_
      refine x_iconst i_198_28  ?_
      refine x_vh (r := [_]) (lj := [some _, some _, some _]) i_198_29 w_155 ob_170 [_, _] rfl rfl (Nat.le_of_ble_eq_true rfl) (Nat.le_of_ble_eq_true rfl) rfl ?_
      refine x_aload_n i_155_0 rfl ?_
      refine x_gr i_155_1 ob_170 gr_8_1.1 gr_8_1.2 (rt_170_1 _) ?_
      refine x_iconst i_155_4  ?_
      refine x_bipush i_155_5  ?_
      refine x_iload_n i_155_7 rfl ?_
      refine x_imul i_155_8  ?_
      refine x_iadd i_155_9  ?_
      refine x_iload_n i_155_10 rfl ?_
      refine x_iadd i_155_11  ?_
      refine x_ld i_155_12 rfl ar_171 ((H.2 g1).2 g2).1 ?_
      refine x_iretI i_155_13 rn_155 rfl ?_
      refine x_iand i_198_32  ?_
      refine x_istore_n i_198_33 rfl rfl ?_
      refine x_iinc i_198_34 rfl rfl rfl ?_
      refine x_goto i_198_37  ?_
      exact ((H.2 g1).2 g2).2
theorem v_265_0 {sc : a_Sc} {fd : Nat} {M : a_Mm} {Q : Option Value → a_Hp → Prop} {l0 : Int32}
    (H : Q (some (.int (((((((((l0 - (((l0 : Int32).toUInt32 >>> ((1 : Int32).toUInt32 &&& Int32.toUInt32 31)).toInt32 &&& 1431655765)) &&& 858993459) + ((((l0 - (((l0 : Int32).toUInt32 >>> ((1 : Int32).toUInt32 &&& Int32.toUInt32 31)).toInt32 &&& 1431655765)) : Int32).toUInt32 >>> ((2 : Int32).toUInt32 &&& Int32.toUInt32 31)).toInt32 &&& 858993459)) + (((((l0 - (((l0 : Int32).toUInt32 >>> ((1 : Int32).toUInt32 &&& Int32.toUInt32 31)).toInt32 &&& 1431655765)) &&& 858993459) + ((((l0 - (((l0 : Int32).toUInt32 >>> ((1 : Int32).toUInt32 &&& Int32.toUInt32 31)).toInt32 &&& 1431655765)) : Int32).toUInt32 >>> ((2 : Int32).toUInt32 &&& Int32.toUInt32 31)).toInt32 &&& 858993459)) : Int32).toUInt32 >>> ((4 : Int32).toUInt32 &&& Int32.toUInt32 31)).toInt32) &&& 252645135) + (((((((l0 - (((l0 : Int32).toUInt32 >>> ((1 : Int32).toUInt32 &&& Int32.toUInt32 31)).toInt32 &&& 1431655765)) &&& 858993459) + ((((l0 - (((l0 : Int32).toUInt32 >>> ((1 : Int32).toUInt32 &&& Int32.toUInt32 31)).toInt32 &&& 1431655765)) : Int32).toUInt32 >>> ((2 : Int32).toUInt32 &&& Int32.toUInt32 31)).toInt32 &&& 858993459)) + (((((l0 - (((l0 : Int32).toUInt32 >>> ((1 : Int32).toUInt32 &&& Int32.toUInt32 31)).toInt32 &&& 1431655765)) &&& 858993459) + ((((l0 - (((l0 : Int32).toUInt32 >>> ((1 : Int32).toUInt32 &&& Int32.toUInt32 31)).toInt32 &&& 1431655765)) : Int32).toUInt32 >>> ((2 : Int32).toUInt32 &&& Int32.toUInt32 31)).toInt32 &&& 858993459)) : Int32).toUInt32 >>> ((4 : Int32).toUInt32 &&& Int32.toUInt32 31)).toInt32) &&& 252645135) : Int32).toUInt32 >>> ((8 : Int32).toUInt32 &&& Int32.toUInt32 31)).toInt32) + ((((((((l0 - (((l0 : Int32).toUInt32 >>> ((1 : Int32).toUInt32 &&& Int32.toUInt32 31)).toInt32 &&& 1431655765)) &&& 858993459) + ((((l0 - (((l0 : Int32).toUInt32 >>> ((1 : Int32).toUInt32 &&& Int32.toUInt32 31)).toInt32 &&& 1431655765)) : Int32).toUInt32 >>> ((2 : Int32).toUInt32 &&& Int32.toUInt32 31)).toInt32 &&& 858993459)) + (((((l0 - (((l0 : Int32).toUInt32 >>> ((1 : Int32).toUInt32 &&& Int32.toUInt32 31)).toInt32 &&& 1431655765)) &&& 858993459) + ((((l0 - (((l0 : Int32).toUInt32 >>> ((1 : Int32).toUInt32 &&& Int32.toUInt32 31)).toInt32 &&& 1431655765)) : Int32).toUInt32 >>> ((2 : Int32).toUInt32 &&& Int32.toUInt32 31)).toInt32 &&& 858993459)) : Int32).toUInt32 >>> ((4 : Int32).toUInt32 &&& Int32.toUInt32 31)).toInt32) &&& 252645135) + (((((((l0 - (((l0 : Int32).toUInt32 >>> ((1 : Int32).toUInt32 &&& Int32.toUInt32 31)).toInt32 &&& 1431655765)) &&& 858993459) + ((((l0 - (((l0 : Int32).toUInt32 >>> ((1 : Int32).toUInt32 &&& Int32.toUInt32 31)).toInt32 &&& 1431655765)) : Int32).toUInt32 >>> ((2 : Int32).toUInt32 &&& Int32.toUInt32 31)).toInt32 &&& 858993459)) + (((((l0 - (((l0 : Int32).toUInt32 >>> ((1 : Int32).toUInt32 &&& Int32.toUInt32 31)).toInt32 &&& 1431655765)) &&& 858993459) + ((((l0 - (((l0 : Int32).toUInt32 >>> ((1 : Int32).toUInt32 &&& Int32.toUInt32 31)).toInt32 &&& 1431655765)) : Int32).toUInt32 >>> ((2 : Int32).toUInt32 &&& Int32.toUInt32 31)).toInt32 &&& 858993459)) : Int32).toUInt32 >>> ((4 : Int32).toUInt32 &&& Int32.toUInt32 31)).toInt32) &&& 252645135) : Int32).toUInt32 >>> ((8 : Int32).toUInt32 &&& Int32.toUInt32 31)).toInt32) : Int32).toUInt32 >>> ((16 : Int32).toUInt32 &&& Int32.toUInt32 31)).toInt32) &&& 63)))) (a_hp sc fd M)) :
    a_Ex 265 0 [some (.int l0)] [] (a_hp sc fd M) Q := by
  refine x_iload_n i_265_0 rfl ?_
  refine x_iload_n i_265_1 rfl ?_
  refine x_iconst i_265_2  ?_
  refine x_iushr i_265_3  ?_
  refine x_ldcw i_265_4  ?_
  refine x_iand i_265_7  ?_
  refine x_isub i_265_8  ?_
  refine x_istore_n i_265_9 rfl rfl ?_
  refine x_iload_n i_265_10 rfl ?_
  refine x_ldcw i_265_11  ?_
  refine x_iand i_265_14  ?_
  refine x_iload_n i_265_15 rfl ?_
  refine x_iconst i_265_16  ?_
  refine x_iushr i_265_17  ?_
  refine x_ldcw i_265_18  ?_
  refine x_iand i_265_21  ?_
  refine x_iadd i_265_22  ?_
  refine x_istore_n i_265_23 rfl rfl ?_
  refine x_iload_n i_265_24 rfl ?_
  refine x_iload_n i_265_25 rfl ?_
  refine x_iconst i_265_26  ?_
  refine x_iushr i_265_27  ?_
  refine x_iadd i_265_28  ?_
  refine x_ldcw i_265_29  ?_
  refine x_iand i_265_32  ?_
  refine x_istore_n i_265_33 rfl rfl ?_
  refine x_iload_n i_265_34 rfl ?_
  refine x_iload_n i_265_35 rfl ?_
  refine x_bipush i_265_36  ?_
  refine x_iushr i_265_38  ?_
  refine x_iadd i_265_39  ?_
  refine x_istore_n i_265_40 rfl rfl ?_
  refine x_iload_n i_265_41 rfl ?_
  refine x_iload_n i_265_42 rfl ?_
  refine x_bipush i_265_43  ?_
  refine x_iushr i_265_45  ?_
  refine x_iadd i_265_46  ?_
  refine x_istore_n i_265_47 rfl rfl ?_
  refine x_iload_n i_265_48 rfl ?_
  refine x_bipush i_265_49  ?_
  refine x_iand i_265_51  ?_
  refine x_iret i_265_52 rn_265 rfl ?_
  exact H
