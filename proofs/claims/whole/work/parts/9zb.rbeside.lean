/-! the reference tells of states beside each other: its run -/
section BSR
variable {sc : a_Sc} {fd : Nat} {M M0 : a_Mm} {n g x s c k p q z i a b m y w o l u st t X : Nat} {T A B C E F B0 : HA} {S : HA × Nat} {h : a_Hp} {Q : Option Value → a_Hp → Prop} {f : Nat → Nat}
theorem c_234_102 (r : RM M n A) (hX : X < 216) (hx : x ≤ 5) (ha : a < n) (K : a_Ex 234 149 [some (.ref 170), some (.int (N x)), some (.int (N g)), some (.int (N (r7 X x a n 0 y))), some (.int (N m)), some (.int (N X)), some (.int (N a)), some (.int (N n))] [] (a_hp sc fd M) Q) : ∀ d b v, b + d = n → r7 X x a d b v = r7 X x a n 0 y → a_Ex 234 102 [some (.ref 170), some (.int (N x)), some (.int (N g)), some (.int (N v)), some (.int (N m)), some (.int (N X)), some (.int (N a)), some (.int (N b))] [] (a_hp sc fd M) Q := by
  have n5 := r.n5
  intro d
  induction d with
  | zero =>
    intro b v hd hv
    have e : b = n := by omega
    subst e
    have hv : v = r7 X x a b 0 y := hv
    rw [← hv] at K
    refine x_iload i_234_102 rfl ?_
    refine x_aload_n i_234_104 rfl ?_
    refine x_gr i_234_105 ob_170 gr_8_1.1 gr_8_1.2 (rt_170_1 _) ?_
    refine n_iconst 0 i_234_108 rfl ?_
    refine n_ld (x := b) i_234_109 ar_171 (by omega) (by omega) r.nn ?_
    refine x_igeN (by omega) (by omega) i_234_110 ⟨fun g1 => ?_, fun g1 => ?_⟩
    · exact K
    · exact absurd (Nat.le_refl _) g1
  | succ d ih =>
    intro b v hd hv
    have hv : r7 X x a d (b + 1) (if a = b then v else if sIn X a = x then v ||| 1 <<< sIn X b else v) = r7 X x a n 0 y := hv
    have s1 := sIn_le hX a
    have s2 := sIn_le hX b
    refine x_iload i_234_102 rfl ?_
    refine x_aload_n i_234_104 rfl ?_
    refine x_gr i_234_105 ob_170 gr_8_1.1 gr_8_1.2 (rt_170_1 _) ?_
    refine n_iconst 0 i_234_108 rfl ?_
    refine n_ld (x := n) i_234_109 ar_171 (by omega) (by omega) r.nn ?_
    refine x_igeN (by omega) (by omega) i_234_110 ⟨fun g1 => ?_, fun g1 => ?_⟩
    · exact absurd g1 (by omega)
    · refine x_iload i_234_113 rfl ?_
      refine x_iload i_234_115 rfl ?_
      refine x_ieqN (by omega) (by omega) i_234_117 ⟨fun g2 => ?_, fun g2 => ?_⟩
      · rw [if_pos g2] at hv
        refine n_iinc 1 i_234_143 rfl rfl rfl rfl ?_
        refine x_goto i_234_146 ?_
        exact ih (b + 1) _ (by omega) hv
      · rw [if_neg g2] at hv
        refine x_iload i_234_120 rfl ?_
        refine x_iload i_234_122 rfl ?_
        refine x_sh (r := []) (lj := [some _, some _]) i_234_124 ws_235 [_, _] rfl rfl (Nat.le_of_ble_eq_true rfl) (Nat.le_of_ble_eq_true rfl) rfl ?_
        refine c_235 (by omega) (by omega) (rt_i ?_)
        refine x_iload_n i_234_127 rfl ?_
        refine x_ineN (by omega) (by omega) i_234_128 ⟨fun g3 => ?_, fun g3 => ?_⟩
        · rw [if_neg g3] at hv
          refine n_iinc 1 i_234_143 rfl rfl rfl rfl ?_
          refine x_goto i_234_146 ?_
          exact ih (b + 1) _ (by omega) hv
        · rw [if_pos g3] at hv
          refine x_iload_n i_234_131 rfl ?_
          refine n_iconst 1 i_234_132 rfl ?_
          refine x_iload i_234_133 rfl ?_
          refine x_iload i_234_135 rfl ?_
          refine x_sh (r := [_, _]) (lj := [some _, some _]) i_234_137 ws_235 [_, _] rfl rfl (Nat.le_of_ble_eq_true rfl) (Nat.le_of_ble_eq_true rfl) rfl ?_
          refine c_235 (by omega) (by omega) (rt_i ?_)
          refine x_ishlN (by omega) i_234_140 ?_
          refine x_iorN i_234_141 ?_
          refine x_istore_n i_234_142 rfl rfl ?_
          refine n_iinc 1 i_234_143 rfl rfl rfl rfl ?_
          refine x_goto i_234_146 ?_
          exact ih (b + 1) _ (by omega) hv
theorem c_234_88 (r : RM M n A) (hX : X < 216) (hx : x ≤ 5) (K : ∀ l6 l7, a_Ex 234 155 [some (.ref 170), some (.int (N x)), some (.int (N g)), some (.int (N (r6 n X x n 0 y))), some (.int (N m)), some (.int (N X)), l6, l7] [] (a_hp sc fd M) Q) : ∀ d a v {l7 : Option Value}, a + d = n → r6 n X x d a v = r6 n X x n 0 y → a_Ex 234 88 [some (.ref 170), some (.int (N x)), some (.int (N g)), some (.int (N v)), some (.int (N m)), some (.int (N X)), some (.int (N a)), l7] [] (a_hp sc fd M) Q := by
  have n5 := r.n5
  intro d
  induction d with
  | zero =>
    intro a v l7 hd hv
    have e : a = n := by omega
    subst e
    have hv : v = r6 a X x a 0 y := hv
    rw [← hv] at K
    refine x_iload i_234_88 rfl ?_
    refine x_aload_n i_234_90 rfl ?_
    refine x_gr i_234_91 ob_170 gr_8_1.1 gr_8_1.2 (rt_170_1 _) ?_
    refine n_iconst 0 i_234_94 rfl ?_
    refine n_ld (x := a) i_234_95 ar_171 (by omega) (by omega) r.nn ?_
    refine x_igeN (by omega) (by omega) i_234_96 ⟨fun g1 => ?_, fun g1 => ?_⟩
    · exact K _ _
    · exact absurd (Nat.le_refl _) g1
  | succ d ih =>
    intro a v l7 hd hv
    have hv : r6 n X x d (a + 1) (r7 X x a n 0 v) = r6 n X x n 0 y := hv
    refine x_iload i_234_88 rfl ?_
    refine x_aload_n i_234_90 rfl ?_
    refine x_gr i_234_91 ob_170 gr_8_1.1 gr_8_1.2 (rt_170_1 _) ?_
    refine n_iconst 0 i_234_94 rfl ?_
    refine n_ld (x := n) i_234_95 ar_171 (by omega) (by omega) r.nn ?_
    refine x_igeN (by omega) (by omega) i_234_96 ⟨fun g1 => ?_, fun g1 => ?_⟩
    · exact absurd g1 (by omega)
    · refine n_iconst 0 i_234_99 rfl ?_
      refine x_istore i_234_100 rfl rfl ?_
      refine c_234_102 (y := v) r hX hx (by omega) ?_ n 0 v (by omega) rfl
      refine n_iinc 1 i_234_149 rfl rfl rfl rfl ?_
      refine x_goto i_234_152 ?_
      exact ih (a + 1) _ (by omega) hv
theorem c_234_56 (r : RM M n A) (hx : x ≤ 5) (hf : ∀ m, m < 1728 → M 180 m = N (f m)) (hb : ∀ m, f m ≤ 64 ∨ f m = 4294967295) (K : Q (some (.int (N (r4 n x f 1728)))) (a_hp sc fd M)) : ∀ d m {l5 l6 l7 : Option Value}, m + d = 1728 → a_Ex 234 56 [some (.ref 170), some (.int (N x)), some (.int (N g)), some (.int (N (r4 n x f m))), some (.int (N m)), l5, l6, l7] [] (a_hp sc fd M) Q := by
  intro d
  induction d with
  | zero =>
    intro m l5 l6 l7 hd
    have e : m = 1728 := by omega
    subst e
    refine x_iload i_234_56 rfl ?_
    refine n_sipush 1728 i_234_58 rfl ?_
    refine x_igeN (by omega) (by omega) i_234_61 ⟨fun g1 => ?_, fun g1 => ?_⟩
    · refine x_iload_n i_234_161 rfl ?_
      refine x_iret i_234_162 rn_234 rfl ?_
      exact K
    · exact absurd (Nat.le_refl _) g1
  | succ d ih =>
    intro m l5 l6 l7 hd
    have hm := hb m
    have u4 : r4 n x f (m + 1) = if f m = 4294967295 then r4 n x f m else r6 n (m / 8) x n 0 (r4 n x f m) := rfl
    have ih := fun l5 l6 l7 => ih (m + 1) (l5 := l5) (l6 := l6) (l7 := l7) (by omega)
    refine x_iload i_234_56 rfl ?_
    refine n_sipush 1728 i_234_58 rfl ?_
    refine x_igeN (by omega) (by omega) i_234_61 ⟨fun g1 => ?_, fun g1 => ?_⟩
    · exact absurd g1 (by omega)
    · refine x_aload_n i_234_64 rfl ?_
      refine x_gr i_234_65 ob_170 gr_8_15.1 gr_8_15.2 (rt_170_15 _) ?_
      refine x_iload i_234_68 rfl ?_
      refine n_ld (x := f m) i_234_70 ar_180 (by omega) (by omega) (hf m (by omega)) ?_
      refine n_iconst 4294967295 i_234_71 rfl ?_
      refine n_ineU (by omega) (by omega) i_234_72 ⟨fun g2 => ?_, fun g2 => ?_⟩
      · rw [if_neg g2] at u4
        refine x_iload i_234_78 rfl ?_
        refine n_bipush 8 i_234_80 rfl ?_
        refine x_idivN (by omega) (by omega) (by omega) i_234_82 ?_
        refine x_istore i_234_83 rfl rfl ?_
        refine n_iconst 0 i_234_85 rfl ?_
        refine x_istore i_234_86 rfl rfl ?_
        rw [u4] at ih
        refine c_234_88 (y := r4 n x f m) (X := m / 8) r (by omega) hx (fun l6 l7 => ?_) n 0 _ (by omega) rfl
        refine n_iinc 1 i_234_155 rfl rfl rfl rfl ?_
        refine x_goto i_234_158 ?_
        exact ih _ _ _
      · rw [if_pos g2] at u4
        rw [u4] at ih
        refine x_goto i_234_75 ?_
        refine n_iinc 1 i_234_155 rfl rfl rfl rfl ?_
        refine x_goto i_234_158 ?_
        exact ih _ _ _
theorem e_234 (hx : x < 4294967296) (hg : g < 4294967296) (r : RM M n B) (K : ∀ M' B', RM M' n B' → EQ B B' → FRt M M' → Q (some (.int (N (m31 n B x g)))) (a_hp sc fd M')) : a_Ex 234 0 [some (.ref 170), some (.int (N x)), some (.int (N g)), none, none, none, none, none] [] (a_hp sc fd M) Q := by
  have n5 := r.n5
  have n2 := r.n2
  refine x_aload_n i_234_0 rfl ?_
  refine n_iconst 0 i_234_1 rfl ?_
  refine x_pi i_234_2 ob_170 pf_8_0.1 pf_8_0.2 ?_
  have f1 : ∀ q k, ¬ (q = 170 ∧ k = 0) → a_up M 170 0 (N 0) q k = M q k := fun q k h => by rw [a_up_def, if_neg h]
  have r1 : RM (a_up M 170 0 (N 0)) n (a_up B 9 0 0) := r.putg
  generalize a_up M 170 0 (N 0) = M1 at f1 r1 ⊢
  have e1 : EQ B (a_up B 9 0 0) := (EQ.refl B).r 9 0 0 (by omega)
  have F1 : FRt M M1 := fun q k a b c => f1 q k (by omega)
  have K0 := K M1 _ r1 e1 F1
  unfold m31 at K0
  refine x_iload_n i_234_5 rfl ?_
  refine x_i2l i_234_6 ?_
  refine n_lconst 0 i_234_7 rfl ?_
  refine n_ldc2 5 i_234_8 rfl ?_
  refine n_within i_234_11 (Nat.le_of_ble_eq_true rfl) hx (by omega) (by omega) ⟨fun g1 => ?_, fun g1 => ?_⟩
  · have hx5 : x ≤ 5 := g1.2
    rw [if_neg (fun q => q hx5)] at K0
    refine x_ifT i_234_14 (by decide +kernel) ?_
    refine x_iload_n i_234_20 rfl ?_
    refine x_i2l i_234_21 ?_
    refine n_lconst 0 i_234_22 rfl ?_
    refine n_lconst 1 i_234_23 rfl ?_
    refine n_within i_234_24 (Nat.le_of_ble_eq_true rfl) hg (by omega) (by omega) ⟨fun g2 => ?_, fun g2 => ?_⟩
    · have hg1 : g ≤ 1 := g2.2
      rw [if_neg (fun q => q hg1)] at K0
      refine x_ifT i_234_27 (by decide +kernel) ?_
      refine x_aload_n i_234_33 rfl ?_
      refine x_gr i_234_34 ob_170 gr_8_1.1 gr_8_1.2 (rt_170_1 _) ?_
      refine n_iconst 0 i_234_37 rfl ?_
      refine n_ld (x := n) i_234_38 ar_171 (by omega) (by omega) r1.nn ?_
      refine n_iconst 3 i_234_39 rfl ?_
      refine x_ileN (by omega) (by omega) i_234_40 ⟨fun g3 => ?_, fun g3 => ?_⟩
      · have hn : n = 2 ∨ n = 3 := by omega
        refine x_aload_n i_234_46 rfl ?_
        refine x_iload_n i_234_47 rfl ?_
        refine x_vh (r := []) (lj := [some _, some _, none, none, none]) i_234_48 w_226 ob_170 [_] rfl rfl (Nat.le_of_ble_eq_true rfl) (Nat.le_of_ble_eq_true rfl) rfl ?_
        refine b_226 hn hg1 e1 r1 (fun M2 B2 r2 e2 s2 m2 f2 => rt_n ?_)
        have K := K M2 B2 r2 e2 (FM.t f1 f2)
        unfold m31 at K
        rw [if_neg (fun q => q hx5), if_neg (fun q => q hg1), if_neg (fun q => q (show n ≤ 3 by omega))] at K
        have v := bf_iv (g := g) hn r.w
        have sb := SB.of hn v
        have hb : ∀ m, rfr n (BF n B g).1 m (BF n B g).2 ≤ 64 ∨ rfr n (BF n B g).1 m (BF n B g).2 = 4294967295 := fun m => rfr_le (fun j hj => (sb.2 j hj).2.1)
        rw [← bes_eq hn (fun j hj => ⟨(sb.2 j hj).1, (sb.2 j hj).2.1⟩)] at K
        refine n_iconst 0 i_234_51 rfl ?_
        refine x_istore_n i_234_52 rfl rfl ?_
        refine n_iconst 0 i_234_53 rfl ?_
        refine x_istore i_234_54 rfl rfl ?_
        exact c_234_56 (f := fun m => rfr n (BF n B g).1 m (BF n B g).2) r2 hx5 m2 hb K 1728 0 rfl
      · rw [if_pos g3] at K0
        refine n_bipush 4294967291 i_234_43 rfl ?_
        refine x_iret i_234_45 rn_234 rfl ?_
        exact K0
    · rw [if_pos (fun q => g2 ⟨Nat.zero_le _, q⟩)] at K0
      refine x_ifF i_234_27 (by decide +kernel) ?_
      refine n_bipush 4294967293 i_234_30 rfl ?_
      refine x_iret i_234_32 rn_234 rfl ?_
      exact K0
  · rw [if_pos (fun q => g1 ⟨Nat.zero_le _, q⟩)] at K0
    refine x_ifF i_234_14 (by decide +kernel) ?_
    refine n_bipush 4294967294 i_234_17 rfl ?_
    refine x_iret i_234_19 rn_234 rfl ?_
    exact K0
end BSR
