/-! the reference tells of its mixes -/
def FRt (M M' : a_Mm) : Prop := ∀ q k, ¬ (q = 170 ∧ (k = 0 ∨ (7 ≤ k ∧ k ≤ 10) ∨ k = 16)) → ¬ (q = 173 ∧ k < 216) → ¬ (176 ≤ q ∧ q ≤ 180) → M' q k = M q k
section REF
variable {sc : a_Sc} {fd : Nat} {M M0 : a_Mm} {n g x s c k p q z i a b m y w o l : Nat} {T A B C E F B0 : HA} {S : HA × Nat} {h : a_Hp} {Q : Option Value → a_Hp → Prop} {f : Nat → Nat} {l1 l2 : Option Value}
theorem BF_eq (hn : n = 2 ∨ n = 3) (e : EQ A B) : BF n A g = BF n B g := BF_tm hn ((TM.refl n B).es e.symm.es)
theorem FM.t {M1 : a_Mm} (h : ∀ q k, ¬ (q = 170 ∧ k = 0) → M1 q k = M q k) {M2 : a_Mm} (f : FRt M1 M2) : FRt M M2 := fun q k a b c => (f q k a b c).trans (h q k (by omega))
theorem b_226 (hn : n = 2 ∨ n = 3) (hg : g ≤ 1) (e : EQ B0 B) (r : RM M n B) (K : ∀ M' B', RM M' n B' → EQ B0 B' → SRr M' n (BF n B0 g) → MFr M' n (BF n B0 g).1 (BF n B0 g).2 → FRt M M' → Q none (a_hp sc fd M')) : a_Ex 226 0 [some (.ref 170), some (.int (N g)), none, none, none] [] (a_hp sc fd M) Q := by
  refine c_226 hn hg r (fun M1 B1 r1 e1 s1 m1 f1 => K M1 B1 r1 (e.trans e1) ?_ ?_ f1)
  · rw [BF_eq hn e]; exact s1
  · rw [BF_eq hn e]; exact m1
theorem q5_le (hb : ∀ m, f m ≤ 64 ∨ f m = 4294967295) : ∀ m, q5 f m ≤ 64 ∨ q5 f m = 4294967295 := by
  intro m
  induction m with
  | zero => exact Or.inr rfl
  | succ m ih =>
    have := hb m
    unfold q5
    repeat' split
    all_goals omega
theorem q6_le (hb : ∀ m, f m ≤ 64 ∨ f m = 4294967295) : ∀ m, q6 f m ≤ 64 := by
  intro m
  induction m with
  | zero => exact Nat.zero_le _
  | succ m ih =>
    have := hb m
    unfold q6
    repeat' split
    all_goals omega
theorem ulk_lt (m : Nat) : ulk m < 2 := by
  unfold ulk
  by_cases a : orr 4 3 0 (m / 8) = 0
  · rw [if_pos a]; omega
  · rw [if_neg a]
    by_cases b : orr 5 3 0 (m / 8) = 0
    · rw [if_pos b]; omega
    · rw [if_neg b]; omega
theorem c_225_65 (hf : ∀ m, m < 1728 → M 180 m = N (f m)) (hb : ∀ m, f m ≤ 64 ∨ f m = 4294967295) (K : a_Ex 225 168 [some (.ref 170), some (.int (N g)), some (.int (N w)), some (.int (N (q3 f 1728))), some (.int (N (q4 f 1728))), some (.int (N (q5 f 1728))), some (.int (N (q6 f 1728))), some (.int (N 1728))] [] (a_hp sc fd M) Q) : ∀ d m, m + d = 1728 → a_Ex 225 65 [some (.ref 170), some (.int (N g)), some (.int (N w)), some (.int (N (q3 f m))), some (.int (N (q4 f m))), some (.int (N (q5 f m))), some (.int (N (q6 f m))), some (.int (N m))] [] (a_hp sc fd M) Q := by
  intro d
  induction d with
  | zero =>
    intro m hd
    have e : m = 1728 := by omega
    subst e
    refine x_iload i_225_65 rfl ?_
    refine n_sipush 1728 i_225_67 rfl ?_
    refine x_igeN (by omega) (by omega) i_225_70 ⟨fun g1 => ?_, fun g1 => ?_⟩
    · exact K
    · exact absurd (Nat.le_refl _) g1
  | succ d ih =>
    intro m hd
    have ih := ih (m + 1) (by omega)
    have hm := hb m
    have h5 := q5_le hb m
    have h6 := q6_le hb m
    have u3 : q3 f (m + 1) = if f m = 4294967295 then q3 f m else q3 f m + 1 := rfl
    have u4 : q4 f (m + 1) = if f m = 4294967295 then q4 f m else if ulk m = 0 then q4 f m else q4 f m + 1 := rfl
    have u5 : q5 f (m + 1) = if f m = 4294967295 then q5 f m else if ulk m = 0 then q5 f m else min (q5 f m) (f m) := rfl
    have u6 : q6 f (m + 1) = if f m = 4294967295 then q6 f m else max (q6 f m) (f m) := rfl
    refine x_iload i_225_65 rfl ?_
    refine n_sipush 1728 i_225_67 rfl ?_
    refine x_igeN (by omega) (by omega) i_225_70 ⟨fun g1 => ?_, fun g1 => ?_⟩
    · exact absurd g1 (by omega)
    · refine x_aload_n i_225_73 rfl ?_
      refine x_gr i_225_74 ob_170 gr_8_15.1 gr_8_15.2 (rt_170_15 _) ?_
      refine x_iload i_225_77 rfl ?_
      refine n_ld (x := f m) i_225_79 ar_180 (by omega) (by omega) (hf m (by omega)) ?_
      refine n_iconst 4294967295 i_225_80 rfl ?_
      refine n_ineU (by omega) (by omega) i_225_81 ⟨fun g2 => ?_, fun g2 => ?_⟩
      · rw [if_neg g2] at u3 u4 u5 u6
        refine n_iinc 1 i_225_87 rfl rfl rfl rfl ?_
        refine x_aload_n i_225_90 rfl ?_
        refine x_gr i_225_91 ob_170 gr_8_15.1 gr_8_15.2 (rt_170_15 _) ?_
        refine x_iload i_225_94 rfl ?_
        refine n_ld (x := f m) i_225_96 ar_180 (by omega) (by omega) (hf m (by omega)) ?_
        refine x_iload i_225_97 rfl ?_
        refine x_ileN (by omega) (by omega) i_225_99 ⟨fun g3 => ?_, fun g3 => ?_⟩
        · have u6 : q6 f (m + 1) = q6 f m := by omega
          refine x_iload i_225_112 rfl ?_
          refine x_istore i_225_114 rfl rfl ?_
          refine x_iload i_225_116 rfl ?_
          refine x_sh (r := []) (lj := [some _, none, none, none, none]) i_225_118 ws_233 [_] rfl rfl (Nat.le_of_ble_eq_true rfl) (Nat.le_of_ble_eq_true rfl) rfl ?_
          refine c_233 (sc := sc) (fd := fd) (M := M) rfl (by omega) (rt_i ?_)
          have hu := ulk_lt m
          refine x_zneN (by omega) i_225_121 ⟨fun g4 => ?_, fun g4 => ?_⟩
          · rw [if_neg g4] at u4 u5
            refine n_iinc 1 i_225_127 rfl rfl rfl rfl ?_
            refine x_iload i_225_130 rfl ?_
            refine n_iconst 4294967295 i_225_132 rfl ?_
            refine n_ieqU (by omega) (by omega) i_225_133 ⟨fun g5 => ?_, fun g5 => ?_⟩
            · have u5 : q5 f (m + 1) = f m := by omega
              refine x_aload_n i_225_148 rfl ?_
              refine x_gr i_225_149 ob_170 gr_8_15.1 gr_8_15.2 (rt_170_15 _) ?_
              refine x_iload i_225_152 rfl ?_
              refine n_ld (x := f m) i_225_154 ar_180 (by omega) (by omega) (hf m (by omega)) ?_
              refine x_goto i_225_155 ?_
              refine x_istore i_225_160 rfl rfl ?_
              refine n_iinc 1 i_225_162 rfl rfl rfl rfl ?_
              refine x_goto i_225_165 ?_
              rw [u3, u4, u5, u6] at ih
              exact ih
            · refine x_aload_n i_225_136 rfl ?_
              refine x_gr i_225_137 ob_170 gr_8_15.1 gr_8_15.2 (rt_170_15 _) ?_
              refine x_iload i_225_140 rfl ?_
              refine n_ld (x := f m) i_225_142 ar_180 (by omega) (by omega) (hf m (by omega)) ?_
              refine x_iload i_225_143 rfl ?_
              refine x_igeN (by omega) (by omega) i_225_145 ⟨fun g6 => ?_, fun g6 => ?_⟩
              · have u5 : q5 f (m + 1) = q5 f m := by omega
                refine x_iload i_225_158 rfl ?_
                refine x_istore i_225_160 rfl rfl ?_
                refine n_iinc 1 i_225_162 rfl rfl rfl rfl ?_
                refine x_goto i_225_165 ?_
                rw [u3, u4, u5, u6] at ih
                exact ih
              · have u5 : q5 f (m + 1) = f m := by omega
                refine x_aload_n i_225_148 rfl ?_
                refine x_gr i_225_149 ob_170 gr_8_15.1 gr_8_15.2 (rt_170_15 _) ?_
                refine x_iload i_225_152 rfl ?_
                refine n_ld (x := f m) i_225_154 ar_180 (by omega) (by omega) (hf m (by omega)) ?_
                refine x_goto i_225_155 ?_
                refine x_istore i_225_160 rfl rfl ?_
                refine n_iinc 1 i_225_162 rfl rfl rfl rfl ?_
                refine x_goto i_225_165 ?_
                rw [u3, u4, u5, u6] at ih
                exact ih
          · rw [if_pos g4] at u4 u5
            refine x_goto i_225_124 ?_
            refine n_iinc 1 i_225_162 rfl rfl rfl rfl ?_
            refine x_goto i_225_165 ?_
            rw [u3, u4, u5, u6] at ih
            exact ih
        · have u6 : q6 f (m + 1) = f m := by omega
          refine x_aload_n i_225_102 rfl ?_
          refine x_gr i_225_103 ob_170 gr_8_15.1 gr_8_15.2 (rt_170_15 _) ?_
          refine x_iload i_225_106 rfl ?_
          refine n_ld (x := f m) i_225_108 ar_180 (by omega) (by omega) (hf m (by omega)) ?_
          refine x_goto i_225_109 ?_
          refine x_istore i_225_114 rfl rfl ?_
          refine x_iload i_225_116 rfl ?_
          refine x_sh (r := []) (lj := [some _, none, none, none, none]) i_225_118 ws_233 [_] rfl rfl (Nat.le_of_ble_eq_true rfl) (Nat.le_of_ble_eq_true rfl) rfl ?_
          refine c_233 (sc := sc) (fd := fd) (M := M) rfl (by omega) (rt_i ?_)
          have hu := ulk_lt m
          refine x_zneN (by omega) i_225_121 ⟨fun g4 => ?_, fun g4 => ?_⟩
          · rw [if_neg g4] at u4 u5
            refine n_iinc 1 i_225_127 rfl rfl rfl rfl ?_
            refine x_iload i_225_130 rfl ?_
            refine n_iconst 4294967295 i_225_132 rfl ?_
            refine n_ieqU (by omega) (by omega) i_225_133 ⟨fun g5 => ?_, fun g5 => ?_⟩
            · have u5 : q5 f (m + 1) = f m := by omega
              refine x_aload_n i_225_148 rfl ?_
              refine x_gr i_225_149 ob_170 gr_8_15.1 gr_8_15.2 (rt_170_15 _) ?_
              refine x_iload i_225_152 rfl ?_
              refine n_ld (x := f m) i_225_154 ar_180 (by omega) (by omega) (hf m (by omega)) ?_
              refine x_goto i_225_155 ?_
              refine x_istore i_225_160 rfl rfl ?_
              refine n_iinc 1 i_225_162 rfl rfl rfl rfl ?_
              refine x_goto i_225_165 ?_
              rw [u3, u4, u5, u6] at ih
              exact ih
            · refine x_aload_n i_225_136 rfl ?_
              refine x_gr i_225_137 ob_170 gr_8_15.1 gr_8_15.2 (rt_170_15 _) ?_
              refine x_iload i_225_140 rfl ?_
              refine n_ld (x := f m) i_225_142 ar_180 (by omega) (by omega) (hf m (by omega)) ?_
              refine x_iload i_225_143 rfl ?_
              refine x_igeN (by omega) (by omega) i_225_145 ⟨fun g6 => ?_, fun g6 => ?_⟩
              · have u5 : q5 f (m + 1) = q5 f m := by omega
                refine x_iload i_225_158 rfl ?_
                refine x_istore i_225_160 rfl rfl ?_
                refine n_iinc 1 i_225_162 rfl rfl rfl rfl ?_
                refine x_goto i_225_165 ?_
                rw [u3, u4, u5, u6] at ih
                exact ih
              · have u5 : q5 f (m + 1) = f m := by omega
                refine x_aload_n i_225_148 rfl ?_
                refine x_gr i_225_149 ob_170 gr_8_15.1 gr_8_15.2 (rt_170_15 _) ?_
                refine x_iload i_225_152 rfl ?_
                refine n_ld (x := f m) i_225_154 ar_180 (by omega) (by omega) (hf m (by omega)) ?_
                refine x_goto i_225_155 ?_
                refine x_istore i_225_160 rfl rfl ?_
                refine n_iinc 1 i_225_162 rfl rfl rfl rfl ?_
                refine x_goto i_225_165 ?_
                rw [u3, u4, u5, u6] at ih
                exact ih
          · rw [if_pos g4] at u4 u5
            refine x_goto i_225_124 ?_
            refine n_iinc 1 i_225_162 rfl rfl rfl rfl ?_
            refine x_goto i_225_165 ?_
            rw [u3, u4, u5, u6] at ih
            exact ih
      · rw [if_pos g2] at u3 u4 u5 u6
        refine x_goto i_225_84 ?_
        refine n_iinc 1 i_225_162 rfl rfl rfl rfl ?_
        refine x_goto i_225_165 ?_
        rw [u3, u4, u5, u6] at ih
        exact ih
theorem e_225 (hg : g < 4294967296) (hw : w < 4294967296) (r : RM M n B) (K : ∀ M' B', RM M' n B' → EQ B B' → FRt M M' → Q (some (.int (N (m28 n B g w)))) (a_hp sc fd M')) : a_Ex 225 0 [some (.ref 170), some (.int (N g)), some (.int (N w)), none, none, none, none, none] [] (a_hp sc fd M) Q := by
  have n5 := r.n5
  have n2 := r.n2
  refine x_aload_n i_225_0 rfl ?_
  refine n_iconst 0 i_225_1 rfl ?_
  refine x_pi i_225_2 ob_170 pf_8_0.1 pf_8_0.2 ?_
  have f1 : ∀ q k, ¬ (q = 170 ∧ k = 0) → a_up M 170 0 (N 0) q k = M q k := fun q k h => by rw [a_up_def, if_neg h]
  have r1 : RM (a_up M 170 0 (N 0)) n (a_up B 9 0 0) := r.putg
  generalize a_up M 170 0 (N 0) = M1 at f1 r1 ⊢
  have e1 : EQ B (a_up B 9 0 0) := (EQ.refl B).r 9 0 0 (by omega)
  have F1 : FRt M M1 := fun q k a b c => f1 q k (by omega)
  have K0 := K M1 _ r1 e1 F1
  unfold m28 at K0
  refine x_iload_n i_225_5 rfl ?_
  refine x_i2l i_225_6 ?_
  refine n_lconst 0 i_225_7 rfl ?_
  refine n_lconst 1 i_225_8 rfl ?_
  refine n_within i_225_9 (Nat.le_of_ble_eq_true rfl) hg (by omega) (by omega) ⟨fun g1 => ?_, fun g1 => ?_⟩
  · have hg1 : g ≤ 1 := g1.2
    rw [if_neg (fun q => q hg1)] at K0
    refine x_ifT i_225_12 (by decide +kernel) ?_
    refine x_iload_n i_225_18 rfl ?_
    refine x_i2l i_225_19 ?_
    refine n_lconst 0 i_225_20 rfl ?_
    refine n_ldc2 3 i_225_21 rfl ?_
    refine n_within i_225_24 (Nat.le_of_ble_eq_true rfl) hw (by omega) (by omega) ⟨fun g2 => ?_, fun g2 => ?_⟩
    · have hw3 : w ≤ 3 := g2.2
      rw [if_neg (fun q => q hw3)] at K0
      refine x_ifT i_225_27 (by decide +kernel) ?_
      refine x_aload_n i_225_33 rfl ?_
      refine x_gr i_225_34 ob_170 gr_8_1.1 gr_8_1.2 (rt_170_1 _) ?_
      refine n_iconst 0 i_225_37 rfl ?_
      refine n_ld (x := n) i_225_38 ar_171 (by omega) (by omega) r1.nn ?_
      refine n_iconst 3 i_225_39 rfl ?_
      refine x_ileN (by omega) (by omega) i_225_40 ⟨fun g3 => ?_, fun g3 => ?_⟩
      · have hn : n = 2 ∨ n = 3 := by omega
        refine x_aload_n i_225_46 rfl ?_
        refine x_iload_n i_225_47 rfl ?_
        refine x_vh (r := []) (lj := [some _, some _, none, none, none]) i_225_48 w_226 ob_170 [_] rfl rfl (Nat.le_of_ble_eq_true rfl) (Nat.le_of_ble_eq_true rfl) rfl ?_
        refine b_226 hn hg1 e1 r1 (fun M2 B2 r2 e2 s2 m2 f2 => rt_n ?_)
        have K := K M2 B2 r2 e2 (FM.t f1 f2)
        unfold m28 at K
        rw [if_neg (fun q => q hg1), if_neg (fun q => q hw3), if_neg (fun q => q (show n ≤ 3 by omega))] at K
        have v := bf_iv (g := g) hn r.w
        have sb := SB.of hn v
        have hb : ∀ m, rfr n (BF n B g).1 m (BF n B g).2 ≤ 64 ∨ rfr n (BF n B g).1 m (BF n B g).2 = 4294967295 := fun m => rfr_le (fun j hj => (sb.2 j hj).2.1)
        obtain ⟨Q3, Q4, Q5, Q6⟩ := q_all hn (E := (BF n B g).1) (BF n B g).2 (fun j hj => ⟨(sb.2 j hj).1, (sb.2 j hj).2.1⟩) v.2.2.2.2.1
        refine n_iconst 0 i_225_51 rfl ?_
        refine x_istore_n i_225_52 rfl rfl ?_
        refine n_iconst 0 i_225_53 rfl ?_
        refine x_istore i_225_54 rfl rfl ?_
        refine n_iconst 4294967295 i_225_56 rfl ?_
        refine x_istore i_225_57 rfl rfl ?_
        refine n_iconst 0 i_225_59 rfl ?_
        refine x_istore i_225_60 rfl rfl ?_
        refine n_iconst 0 i_225_62 rfl ?_
        refine x_istore i_225_63 rfl rfl ?_
        refine c_225_65 (f := fun m => rfr n (BF n B g).1 m (BF n B g).2) m2 hb ?_ 1728 0 rfl
        rw [Q3, Q4, Q5, Q6]
        refine x_iload_n i_225_168 rfl ?_
        refine x_zneN (by omega) i_225_169 ⟨fun g1 => ?_, fun g1 => ?_⟩
        · rw [if_neg g1] at K
          refine x_iload_n i_225_176 rfl ?_
          refine n_iconst 1 i_225_177 rfl ?_
          refine x_ineN (by omega) (by omega) i_225_178 ⟨fun g2 => ?_, fun g2 => ?_⟩
          · rw [if_neg g2] at K
            refine x_iload_n i_225_186 rfl ?_
            refine n_iconst 2 i_225_187 rfl ?_
            refine x_ineN (by omega) (by omega) i_225_188 ⟨fun g3 => ?_, fun g3 => ?_⟩
            · rw [if_neg g3] at K
              refine x_iload i_225_196 rfl ?_
              refine x_iret i_225_198 rn_225 rfl ?_
              exact K
            · rw [if_pos g3] at K
              refine x_iload i_225_191 rfl ?_
              refine x_goto i_225_193 ?_
              refine x_iret i_225_198 rn_225 rfl ?_
              exact K
          · rw [if_pos g2] at K
            refine x_iload i_225_181 rfl ?_
            refine x_goto i_225_183 ?_
            refine x_iret i_225_198 rn_225 rfl ?_
            exact K
        · rw [if_pos g1] at K
          refine x_iload_n i_225_172 rfl ?_
          refine x_goto i_225_173 ?_
          refine x_iret i_225_198 rn_225 rfl ?_
          exact K
      · rw [if_pos g3] at K0
        refine n_bipush 4294967291 i_225_43 rfl ?_
        refine x_iret i_225_45 rn_225 rfl ?_
        exact K0
    · rw [if_pos (fun q => g2 ⟨Nat.zero_le _, q⟩)] at K0
      refine x_ifF i_225_27 (by decide +kernel) ?_
      refine n_bipush 4294967294 i_225_30 rfl ?_
      refine x_iret i_225_32 rn_225 rfl ?_
      exact K0
  · rw [if_pos (fun q => g1 ⟨Nat.zero_le _, q⟩)] at K0
    refine x_ifF i_225_12 (by decide +kernel) ?_
    refine n_bipush 4294967293 i_225_15 rfl ?_
    refine x_iret i_225_17 rn_225 rfl ?_
    exact K0
end REF
