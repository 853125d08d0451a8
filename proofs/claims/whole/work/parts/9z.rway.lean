/-! the reference tells of the way -/
section WYR
variable {sc : a_Sc} {fd : Nat} {M M0 : a_Mm} {n g x s c k p q z i a b m y w o l u st : Nat} {T A B C E F B0 : HA} {S : HA × Nat} {h : a_Hp} {Q : Option Value → a_Hp → Prop} {L : List Nat} {D : Nat → Prop}
theorem iv_anc (v : IV n T L S i D) {u : Nat} (hu : u < S.2) : ∀ t, t ≤ S.1 3 u → anc S.1 u t < S.2 ∧ S.1 3 (anc S.1 u t) + t = S.1 3 u := by
  obtain ⟨⟨a1, a2, a3, a4, a5⟩, b1, c1, d1, e1, f1, h1⟩ := v
  intro t
  induction t with
  | zero => intro _; exact ⟨hu, rfl⟩
  | succ t ih =>
    intro ht
    obtain ⟨i1, i2⟩ := ih (by omega)
    have hz : ¬ anc S.1 u t = 0 := fun q => by rw [q, a4] at i2; omega
    obtain ⟨q1, q2, q3, -⟩ := d1 (anc S.1 u t) (by omega) i1
    refine ⟨Nat.lt_trans q1 i1, ?_⟩
    show S.1 3 (S.1 1 (anc S.1 u t)) + (t + 1) = _
    omega
theorem fu_at (hj : i < z) (h1 : un n (E 0 i) = true) (h2 : ∀ u, u < i → ¬ un n (E 0 u) = true) : fu n E z = i := by
  obtain ⟨f1, f2, f3⟩ := fu_le (n := n) (E := E) z
  by_cases c : fu n E z < z
  · obtain ⟨g1, g2⟩ := f2 c
    rcases Nat.lt_trichotomy (fu n E z) i with h | h | h
    · exact absurd g1 (h2 _ h)
    · exact h
    · exact absurd h1 (g2 _ h)
  · exact absurd h1 (f3 (by omega) i hj)
theorem fu_no (h2 : ∀ u, u < z → ¬ un n (E 0 u) = true) : fu n E z = z := by
  obtain ⟨f1, f2, f3⟩ := fu_le (n := n) (E := E) z
  by_cases c : fu n E z < z
  · exact absurd (f2 c).1 (h2 _ c)
  · omega
theorem c_238_42 (hn : n = 2 ∨ n = 3) (sb : SB n (E, z)) (s2 : SRr M n (E, z)) (K : a_Ex 238 71 [some (.ref 170), some (.int (N g)), some (.int (N i)), some (.int (N (fu n E z))), none] [] (a_hp sc fd M) Q) : ∀ d j, j + d = z → (∀ u, u < j → ¬ un n (E 0 u) = true) → a_Ex 238 42 [some (.ref 170), some (.int (N g)), some (.int (N i)), some (.int (N j)), none] [] (a_hp sc fd M) Q := by
  have hz : z ≤ 4000 := sb.1
  have hcb2 : cb n ≤ 27648 := by unfold cb; split <;> omega
  intro d
  induction d with
  | zero =>
    intro j hd hj
    have e : j = z := by omega
    subst e
    rw [fu_no hj] at K
    refine x_iload_n i_238_42 rfl ?_
    refine x_aload_n i_238_43 rfl ?_
    refine n_gi (x := j) i_238_44 ob_170 gf_8_16.1 gf_8_16.2 s2.1 ?_
    refine x_igeN (by omega) (by omega) i_238_47 ⟨fun g1 => ?_, fun g1 => ?_⟩
    · exact K
    · exact absurd (Nat.le_refl _) g1
  | succ d ih =>
    intro j hd hj
    have hjz : j < z := by omega
    have hcj : E 0 j < cb n := (sb.2 j hjz).1
    have hp := phi_lt hcj hn
    have hun := un_ulk hn hcj
    have hul := ulk_lt (phi n (E 0 j) / 16)
    refine x_iload_n i_238_42 rfl ?_
    refine x_aload_n i_238_43 rfl ?_
    refine n_gi (x := z) i_238_44 ob_170 gf_8_16.1 gf_8_16.2 s2.1 ?_
    refine x_igeN (by omega) (by omega) i_238_47 ⟨fun g1 => ?_, fun g1 => ?_⟩
    · exact absurd g1 (by omega)
    · refine x_aload_n i_238_50 rfl ?_
      refine x_gr i_238_51 ob_170 gr_8_14.1 gr_8_14.2 (rt_170_14 _) ?_
      refine x_iload_n i_238_54 rfl ?_
      refine n_ld (x := phi n (E 0 j)) i_238_55 ar_179 (by omega) (by omega) (s2.2.1 j hjz).1 ?_
      refine x_sh (r := []) (lj := [some _]) i_238_56 ws_229 [_] rfl rfl (Nat.le_of_ble_eq_true rfl) (Nat.le_of_ble_eq_true rfl) rfl ?_
      refine c_229 (by omega) (rt_i ?_)
      refine x_sh (r := []) (lj := [some _, none, none, none, none]) i_238_59 ws_233 [_] rfl rfl (Nat.le_of_ble_eq_true rfl) (Nat.le_of_ble_eq_true rfl) rfl ?_
      refine c_233 (sc := sc) (fd := fd) (M := M) rfl (by omega) (rt_i ?_)
      refine x_zneN (by omega) i_238_62 ⟨fun g2 => ?_, fun g2 => ?_⟩
      · rw [fu_at hjz (by rw [hun]; exact g2) hj] at K
        exact K
      · refine n_iinc 1 i_238_65 rfl rfl rfl rfl ?_
        refine x_goto i_238_68 ?_
        refine ih (j + 1) (by omega) (fun u hu => ?_)
        by_cases y : u = j
        · rw [y, hun]; exact fun q => q (by assumption)
        · exact hj u (by omega)
theorem c_238_104 {l3 : Int32} (hn : n = 2 ∨ n = 3) (v : IV n T L (E, z) z D) (sb : SB n (E, z)) (s2 : SRr M n (E, z)) (hu : u < z) (hi : i < E 3 u) (K : Q (some (.int (N (E 2 (anc E u (E 3 u - 1 - i)))))) (a_hp sc fd M)) : ∀ d t, t + d = E 3 u - 1 - i → a_Ex 238 104 [some (.ref 170), some (.int (N g)), some (.int (N i)), some (.int l3), some (.int (N (phi n (E 0 (anc E u t)))))] [] (a_hp sc fd M) Q := by
  have hz : z ≤ 4000 := sb.1
  have hcb2 : cb n ≤ 27648 := by unfold cb; split <;> omega
  have key := iv_anc v (u := u) hu
  have h64 : E 3 u ≤ 64 := (sb.2 u hu).2.1
  have a4 : E 3 0 = 0 := v.1.2.2.2.1
  intro d
  induction d with
  | zero =>
    intro t hd
    have e : t = E 3 u - 1 - i := by omega
    have hk : anc E u t < z ∧ E 3 (anc E u t) + t = E 3 u := key t (by show t ≤ E 3 u; omega)
    rw [← e] at K
    generalize anc E u t = j at hk K ⊢
    have hcj : E 0 j < cb n := (sb.2 j hk.1).1
    have hp := phi_lt hcj hn
    have hj1 : 1 ≤ j := by
      by_cases y : j = 0
      · rw [y, a4] at hk; omega
      · omega
    refine x_aload_n i_238_104 rfl ?_
    refine x_gr i_238_105 ob_170 gr_8_11.1 gr_8_11.2 (rt_170_11 _) ?_
    refine x_iload i_238_108 rfl ?_
    refine n_ld (x := E 3 j) i_238_110 ar_176 (by omega) (by omega) (s2.2.1 j hk.1).2.1 ?_
    refine x_iload_n i_238_111 rfl ?_
    refine n_iconst 1 i_238_112 rfl ?_
    refine x_iaddN i_238_113 ?_
    refine x_ileN (by omega) (by omega) i_238_114 ⟨fun g1 => ?_, fun g1 => ?_⟩
    · refine x_aload_n i_238_129 rfl ?_
      refine x_gr i_238_130 ob_170 gr_8_12.1 gr_8_12.2 (rt_170_12 _) ?_
      refine x_iload i_238_133 rfl ?_
      refine n_ld (x := E 2 j) i_238_135 ar_177 (by omega) (by omega) ((s2.2.1 j hk.1).2.2.2 hj1) ?_
      refine x_iret i_238_136 rn_238 rfl ?_
      exact K
    · exact absurd (by omega) g1
  | succ d ih =>
    intro t hd
    have hk : anc E u t < z ∧ E 3 (anc E u t) + t = E 3 u := key t (by show t ≤ E 3 u; omega)
    have ih := ih (t + 1) (by omega)
    have et : anc E u (t + 1) = E 1 (anc E u t) := rfl
    rw [et] at ih
    generalize anc E u t = j at hk ih ⊢
    have hcj : E 0 j < cb n := (sb.2 j hk.1).1
    have hp := phi_lt hcj hn
    have hj1 : 1 ≤ j := by
      by_cases y : j = 0
      · rw [y, a4] at hk; omega
      · omega
    have hq : E 1 j < j := (v.2.2.2.1 j hj1 hk.1).1
    have env : nv n E (E 1 j) = phi n (E 0 (E 1 j)) := by unfold nv; rw [if_neg (by omega)]
    have h178 := (s2.2.1 j hk.1).2.2.1
    refine x_aload_n i_238_104 rfl ?_
    refine x_gr i_238_105 ob_170 gr_8_11.1 gr_8_11.2 (rt_170_11 _) ?_
    refine x_iload i_238_108 rfl ?_
    refine n_ld (x := E 3 j) i_238_110 ar_176 (by omega) (by omega) (s2.2.1 j hk.1).2.1 ?_
    refine x_iload_n i_238_111 rfl ?_
    refine n_iconst 1 i_238_112 rfl ?_
    refine x_iaddN i_238_113 ?_
    refine x_ileN (by omega) (by omega) i_238_114 ⟨fun g1 => ?_, fun g1 => ?_⟩
    · exact absurd g1 (by omega)
    · refine x_aload_n i_238_117 rfl ?_
      refine x_gr i_238_118 ob_170 gr_8_13.1 gr_8_13.2 (rt_170_13 _) ?_
      refine x_iload i_238_121 rfl ?_
      refine n_ld (x := phi n (E 0 (E 1 j))) i_238_123 ar_178 (by omega) (by omega) (h178.trans (by rw [← env])) ?_
      refine x_istore i_238_124 rfl rfl ?_
      refine x_goto i_238_126 ?_
      exact ih
theorem e_238 (hg : g < 4294967296) (hi : i < 4294967296) (r : RM M n B) (K : ∀ M' B', RM M' n B' → EQ B B' → FRt M M' → Q (some (.int (N (mw32 n B g i)))) (a_hp sc fd M')) : a_Ex 238 0 [some (.ref 170), some (.int (N g)), some (.int (N i)), none, none] [] (a_hp sc fd M) Q := by
  have n5 := r.n5
  have n2 := r.n2
  refine x_aload_n i_238_0 rfl ?_
  refine n_iconst 0 i_238_1 rfl ?_
  refine x_pi i_238_2 ob_170 pf_8_0.1 pf_8_0.2 ?_
  have f1 : ∀ q k, ¬ (q = 170 ∧ k = 0) → a_up M 170 0 (N 0) q k = M q k := fun q k h => by rw [a_up_def, if_neg h]
  have r1 : RM (a_up M 170 0 (N 0)) n (a_up B 9 0 0) := r.putg
  generalize a_up M 170 0 (N 0) = M1 at f1 r1 ⊢
  have e1 : EQ B (a_up B 9 0 0) := (EQ.refl B).r 9 0 0 (by omega)
  have F1 : FRt M M1 := fun q k a b c => f1 q k (by omega)
  have K0 := K M1 _ r1 e1 F1
  unfold mw32 at K0
  refine x_iload_n i_238_5 rfl ?_
  refine x_i2l i_238_6 ?_
  refine n_lconst 0 i_238_7 rfl ?_
  refine n_lconst 1 i_238_8 rfl ?_
  refine n_within i_238_9 (Nat.le_of_ble_eq_true rfl) hg (by omega) (by omega) ⟨fun g1 => ?_, fun g1 => ?_⟩
  · have hg1 : g ≤ 1 := g1.2
    refine x_ifF i_238_12 (by decide +kernel) ?_
    refine x_iload_n i_238_15 rfl ?_
    refine n_zgeU (by omega) i_238_16 ⟨fun g2 => ?_, fun g2 => ?_⟩
    · have hok : ¬ (¬ g ≤ 1 ∨ 2147483648 ≤ i) := by omega
      rw [if_neg hok] at K0
      refine x_aload_n i_238_22 rfl ?_
      refine x_gr i_238_23 ob_170 gr_8_1.1 gr_8_1.2 (rt_170_1 _) ?_
      refine n_iconst 0 i_238_26 rfl ?_
      refine n_ld (x := n) i_238_27 ar_171 (by omega) (by omega) r1.nn ?_
      refine n_iconst 3 i_238_28 rfl ?_
      refine x_ileN (by omega) (by omega) i_238_29 ⟨fun g3 => ?_, fun g3 => ?_⟩
      · have hn : n = 2 ∨ n = 3 := by omega
        refine x_aload_n i_238_35 rfl ?_
        refine x_iload_n i_238_36 rfl ?_
        refine x_vh (r := []) (lj := [some _, some _, none, none, none]) i_238_37 w_226 ob_170 [_] rfl rfl (Nat.le_of_ble_eq_true rfl) (Nat.le_of_ble_eq_true rfl) rfl ?_
        refine b_226 hn hg1 e1 r1 (fun M2 B2 r2 e2 s2 m2 f2 => rt_n ?_)
        have K := K M2 B2 r2 e2 (FM.t f1 f2)
        unfold mw32 at K
        rw [if_neg hok, if_neg (fun q => q (show n ≤ 3 by omega))] at K
        have v := bf_iv (g := g) hn r.w
        have sb := SB.of hn v
        have hcb2 : cb n ≤ 27648 := by unfold cb; split <;> omega
        clear K0
        generalize BF n B g = S at v sb K s2 m2
        obtain ⟨E, z⟩ := S
        have hz : z ≤ 4000 := sb.1
        have K : Q (some (.int (N (wy n E z i)))) (a_hp sc fd M2) := K
        unfold wy at K
        have fz := (fu_le (n := n) (E := E) z).1
        refine n_iconst 0 i_238_40 rfl ?_
        refine x_istore_n i_238_41 rfl rfl ?_
        refine c_238_42 hn sb s2 ?_ z 0 (by omega) (fun u hu => absurd hu (Nat.not_lt_zero _))
        refine x_iload_n i_238_71 rfl ?_
        refine x_aload_n i_238_72 rfl ?_
        refine n_gi (x := z) i_238_73 ob_170 gf_8_16.1 gf_8_16.2 s2.1 ?_
        refine x_ieqN (by omega) (by omega) i_238_76 ⟨fun g1 => ?_, fun g1 => ?_⟩
        · rw [if_neg (by omega)] at K
          refine n_iconst 4294967295 i_238_94 rfl ?_
          refine x_iret i_238_95 rn_238 rfl ?_
          exact K
        · have hu : fu n E z < z := by omega
          have hcj : E 0 (fu n E z) < cb n := (sb.2 _ hu).1
          have hp := phi_lt hcj hn
          have h64 : E 3 (fu n E z) ≤ 64 := (sb.2 _ hu).2.1
          refine x_iload_n i_238_79 rfl ?_
          refine x_aload_n i_238_80 rfl ?_
          refine x_gr i_238_81 ob_170 gr_8_11.1 gr_8_11.2 (rt_170_11 _) ?_
          refine x_aload_n i_238_84 rfl ?_
          refine x_gr i_238_85 ob_170 gr_8_14.1 gr_8_14.2 (rt_170_14 _) ?_
          refine x_iload_n i_238_88 rfl ?_
          refine n_ld (x := phi n (E 0 (fu n E z))) i_238_89 ar_179 (by omega) (by omega) (s2.2.1 _ hu).1 ?_
          refine n_ld (x := E 3 (fu n E z)) i_238_90 ar_176 (by omega) (by omega) (s2.2.1 _ hu).2.1 ?_
          refine x_iltN (by omega) (by omega) i_238_91 ⟨fun g2 => ?_, fun g2 => ?_⟩
          · rw [if_pos ⟨hu, g2⟩] at K
            refine x_aload_n i_238_96 rfl ?_
            refine x_gr i_238_97 ob_170 gr_8_14.1 gr_8_14.2 (rt_170_14 _) ?_
            refine x_iload_n i_238_100 rfl ?_
            refine n_ld (x := phi n (E 0 (fu n E z))) i_238_101 ar_179 (by omega) (by omega) (s2.2.1 _ hu).1 ?_
            refine x_istore i_238_102 rfl rfl ?_
            exact c_238_104 (u := fu n E z) hn v sb s2 hu (by assumption) K (E 3 (fu n E z) - 1 - i) 0 (Nat.zero_add _)
          · rw [if_neg (fun q => g2 q.2)] at K
            refine n_iconst 4294967295 i_238_94 rfl ?_
            refine x_iret i_238_95 rn_238 rfl ?_
            exact K
      · rw [if_pos g3] at K0
        refine n_bipush 4294967291 i_238_32 rfl ?_
        refine x_iret i_238_34 rn_238 rfl ?_
        exact K0
    · rw [if_pos (Or.inr (by omega))] at K0
      refine n_bipush 4294967293 i_238_19 rfl ?_
      refine x_iret i_238_21 rn_238 rfl ?_
      exact K0
  · rw [if_pos (Or.inl (fun q => g1 ⟨Nat.zero_le _, q⟩))] at K0
    refine x_ifT i_238_12 (by decide +kernel) ?_
    refine n_bipush 4294967293 i_238_19 rfl ?_
    refine x_iret i_238_21 rn_238 rfl ?_
    exact K0
end WYR
