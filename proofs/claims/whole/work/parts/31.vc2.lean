/-! walks, by program -/
theorem v_147_0 {sc : a_Sc} {fd : Nat} {M : a_Mm} {Q : Option Value → a_Hp → Prop} {l0 : Int64} {l2 : Int64} {l4 : Int64}
    (H : ((lg_cmp l0 l2) < 0 → Q (some (.int (0))) (a_hp sc fd M)) ∧ (¬ (lg_cmp l0 l2) < 0 → (0 < (lg_cmp l0 l4) → Q (some (.int (0))) (a_hp sc fd M)) ∧ (¬ 0 < (lg_cmp l0 l4) → Q (some (.int (1))) (a_hp sc fd M)))) :
    a_Ex 147 0 [some (.long (l0)), none, some (.long (l2)), none, some (.long (l4)), none] [] (a_hp sc fd M) Q := by
  refine x_lload_n i_147_0 rfl ?_
  refine x_lload_n i_147_1 rfl ?_
  refine x_lcmp i_147_2  ?_
  refine x_zlt i_147_3 ⟨fun g1 => ?_, fun g1 => ?_⟩
  · refine x_iconst i_147_17  ?_
    refine x_iret i_147_18 rn_147 (by decide) ?_
    exact (H.1 g1)
  · refine x_lload_n i_147_6 rfl ?_
    refine x_lload i_147_7 rfl ?_
    refine x_lcmp i_147_9  ?_
    refine x_zgt i_147_10 ⟨fun g2 => ?_, fun g2 => ?_⟩
    · refine x_iconst i_147_17  ?_
      refine x_iret i_147_18 rn_147 (by decide) ?_
      exact ((H.2 g1).1 g2)
    · refine x_iconst i_147_13  ?_
      refine x_goto i_147_14  ?_
      refine x_iret i_147_18 rn_147 (by decide) ?_
      exact ((H.2 g1).2 g2)
theorem v_263_0 {sc : a_Sc} {fd : Nat} {M : a_Mm} {Q : Option Value → a_Hp → Prop} {o0 m0 : Nat} {l1 : Int32} (ho0 : a_AR 0 o0 m0)
    (H : a_Ex 263 5 [some (.ref o0), some (.int l1), some (.int (0)), some (.int ((Int32.ofNat m0)))] [] (a_hp sc fd M) Q) :
    a_Ex 263 0 [some (.ref o0), some (.int l1), none, none] [] (a_hp sc fd M) Q := by
  refine x_iconst i_263_0  ?_
  refine x_istore_n i_263_1 rfl rfl ?_
  refine x_aload_n i_263_2 rfl ?_
  refine x_alen i_263_3 ho0 ?_
  refine x_istore_n i_263_4 rfl rfl ?_
  exact H
theorem v_263_5 {sc : a_Sc} {fd : Nat} {M : a_Mm} {Q : Option Value → a_Hp → Prop} {o0 m0 : Nat} {l1 : Int32} {l2 : Int32} {l3 : Int32} (ho0 : a_AR 0 o0 m0)
    (H : (l3 ≤ l2 → Q none (a_hp sc fd M)) ∧ (¬ l3 ≤ l2 → a_in (l2) m0 = true ∧ (a_Ex 263 5 [some (.ref o0), some (.int l1), some (.int ((l2 + 1))), some (.int l3)] [] (a_hp sc fd (a_up M o0 (l2 : Int32).toNatClampNeg (l1))) Q))) :
    a_Ex 263 5 [some (.ref o0), some (.int l1), some (.int l2), some (.int l3)] [] (a_hp sc fd M) Q := by
  refine x_iload_n i_263_5 rfl ?_
  refine x_iload_n i_263_6 rfl ?_
  refine x_ige i_263_7 ⟨fun g1 => ?_, fun g1 => ?_⟩
  · refine x_vret i_263_20 rn_263 ?_
    exact (H.1 g1)
  · refine x_aload_n i_263_10 rfl ?_
    refine x_iload_n i_263_11 rfl ?_
    refine x_iload_n i_263_12 rfl ?_
    refine x_st i_263_13 ho0 (H.2 g1).1 ?_
    refine x_iinc i_263_14 rfl rfl rfl ?_
    refine x_goto i_263_17  ?_
    exact (H.2 g1).2
