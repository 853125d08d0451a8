/-! the deeds of a text are done: the reference's doing; both do the same -/
def drs (n : Nat) (K O1 O2 : Nat → Nat) : Nat → Nat → HA → Nat × Nat × HA
  | 0, i, A => (i, 0, A)
  | d + 1, i, A => if (dr n A (K i) (O1 i) (O2 i)).1 < 2147483648 then drs n K O1 O2 d (i + 1) (dr n A (K i) (O1 i) (O2 i)).2 else (i, (dr n A (K i) (O1 i) (O2 i)).1, (dr n A (K i) (O1 i) (O2 i)).2)
section DDT
variable {sc : a_Sc} {fd : Nat} {M M0 : a_Mm} {A B P : HA} {Q : Option Value → a_Hp → Prop} {n sz : Nat} {U : Nat → Nat × HA} {K O1 O2 : Nat → Nat}
theorem e_252 (r : RM M n A) {v s x : Nat} (hv : v < 10) (hs : s < 4294967296) (hx : x < 4294967296) (k : MR 4294967295 Q sc fd M n (dr n A v s x)) : a_Ex 252 0 [some (.ref 170), some (.int (N v)), some (.int (N s)), some (.int (N x))] [] (a_hp sc fd M) Q := by
  unfold dr at k
  refine x_iload_n i_252_0 rfl ?_
  by_cases g0 : v = 0
  · subst g0
    refine x_tswI (t := 52) (off := 51) i_252_1 (by decide +kernel) (by decide +kernel) (by decide) ?_
    refine x_aload_n i_252_52 rfl ?_
    refine x_iload_n i_252_53 rfl ?_
    refine x_vh (r := []) (lj := [some _, some _, none, none]) i_252_54 w_164 ob_170 [_] rfl rfl (Nat.le_of_ble_eq_true rfl) (Nat.le_of_ble_eq_true rfl) rfl ?_
    refine c_164 r (by omega) (fun hq M1 r1 f1 => rt_i ?_)
    refine x_iret i_252_57 rn_252 rfl ?_
    exact k hq M1 r1 f1
  by_cases g1 : v = 1
  · subst g1
    refine x_tswI (t := 58) (off := 57) i_252_1 (by decide +kernel) (by decide +kernel) (by decide) ?_
    refine x_aload_n i_252_58 rfl ?_
    refine x_iload_n i_252_59 rfl ?_
    refine x_vh (r := []) (lj := [some _, some _, none, none]) i_252_60 w_176 ob_170 [_] rfl rfl (Nat.le_of_ble_eq_true rfl) (Nat.le_of_ble_eq_true rfl) rfl ?_
    refine c_176 r (by omega) (fun hq M1 r1 f1 => rt_i ?_)
    refine x_iret i_252_63 rn_252 rfl ?_
    exact k hq M1 r1 f1
  by_cases g2 : v = 2
  · subst g2
    refine x_tswI (t := 64) (off := 63) i_252_1 (by decide +kernel) (by decide +kernel) (by decide) ?_
    refine x_aload_n i_252_64 rfl ?_
    refine x_iload_n i_252_65 rfl ?_
    refine x_vh (r := []) (lj := [some _, some _, none]) i_252_66 w_178 ob_170 [_] rfl rfl (Nat.le_of_ble_eq_true rfl) (Nat.le_of_ble_eq_true rfl) rfl ?_
    refine c_178 r (by omega) (fun hq M1 r1 f1 => rt_i ?_)
    refine x_iret i_252_69 rn_252 rfl ?_
    exact k hq M1 r1 f1
  by_cases g3 : v = 3
  · subst g3
    refine x_tswI (t := 70) (off := 69) i_252_1 (by decide +kernel) (by decide +kernel) (by decide) ?_
    refine x_aload_n i_252_70 rfl ?_
    refine x_iload_n i_252_71 rfl ?_
    refine x_vh (r := []) (lj := [some _, some _]) i_252_72 w_181 ob_170 [_] rfl rfl (Nat.le_of_ble_eq_true rfl) (Nat.le_of_ble_eq_true rfl) rfl ?_
    refine c_181 r (by omega) (fun hq M1 r1 f1 => rt_i ?_)
    refine x_iret i_252_75 rn_252 rfl ?_
    exact k hq M1 r1 f1
  by_cases g4 : v = 4
  · subst g4
    refine x_tswI (t := 76) (off := 75) i_252_1 (by decide +kernel) (by decide +kernel) (by decide) ?_
    refine x_aload_n i_252_76 rfl ?_
    refine x_iload_n i_252_77 rfl ?_
    refine x_vh (r := []) (lj := [some _, some _]) i_252_78 w_183 ob_170 [_] rfl rfl (Nat.le_of_ble_eq_true rfl) (Nat.le_of_ble_eq_true rfl) rfl ?_
    refine c_183 r (by omega) (fun hq M1 r1 f1 => rt_i ?_)
    refine x_iret i_252_81 rn_252 rfl ?_
    exact k hq M1 r1 f1
  by_cases g5 : v = 5
  · subst g5
    refine x_tswI (t := 82) (off := 81) i_252_1 (by decide +kernel) (by decide +kernel) (by decide) ?_
    refine x_aload_n i_252_82 rfl ?_
    refine x_iload_n i_252_83 rfl ?_
    refine x_iload_n i_252_84 rfl ?_
    refine x_vh (r := []) (lj := [some _, some _, some _, none, none]) i_252_85 w_187 ob_170 [_, _] rfl rfl (Nat.le_of_ble_eq_true rfl) (Nat.le_of_ble_eq_true rfl) rfl ?_
    refine c_187 r (by omega) (by omega) (fun hq M1 r1 f1 => rt_i ?_)
    refine x_iret i_252_88 rn_252 rfl ?_
    exact k hq M1 r1 f1
  by_cases g6 : v = 6
  · subst g6
    refine x_tswI (t := 89) (off := 88) i_252_1 (by decide +kernel) (by decide +kernel) (by decide) ?_
    refine x_aload_n i_252_89 rfl ?_
    refine x_iload_n i_252_90 rfl ?_
    refine x_vh (r := []) (lj := [some _, some _, none]) i_252_91 w_194 ob_170 [_] rfl rfl (Nat.le_of_ble_eq_true rfl) (Nat.le_of_ble_eq_true rfl) rfl ?_
    refine c_194 r (by omega) (fun hq M1 r1 f1 => rt_i ?_)
    refine x_iret i_252_94 rn_252 rfl ?_
    exact k hq M1 r1 f1
  by_cases g7 : v = 7
  · subst g7
    refine x_tswI (t := 95) (off := 94) i_252_1 (by decide +kernel) (by decide +kernel) (by decide) ?_
    refine x_aload_n i_252_95 rfl ?_
    refine n_iconst 0 i_252_96 rfl ?_
    refine x_vh (r := []) (lj := [some _, some _, none, none, none, none]) i_252_97 w_185 ob_170 [_] rfl rfl (Nat.le_of_ble_eq_true rfl) (Nat.le_of_ble_eq_true rfl) rfl ?_
    refine c_185 r (by omega) (fun hq M1 r1 f1 => rt_i ?_)
    refine x_iret i_252_100 rn_252 rfl ?_
    exact k hq M1 r1 f1
  by_cases g8 : v = 8
  · subst g8
    refine x_tswI (t := 101) (off := 100) i_252_1 (by decide +kernel) (by decide +kernel) (by decide) ?_
    refine x_aload_n i_252_101 rfl ?_
    refine x_iload_n i_252_102 rfl ?_
    refine x_iload_n i_252_103 rfl ?_
    refine x_vh (r := []) (lj := [some _, some _, some _, none]) i_252_104 w_153 ob_170 [_, _] rfl rfl (Nat.le_of_ble_eq_true rfl) (Nat.le_of_ble_eq_true rfl) rfl ?_
    refine c_153 r (by omega) (by omega) (fun hq M1 r1 f1 => rt_i ?_)
    refine x_iret i_252_107 rn_252 rfl ?_
    exact k hq M1 r1 f1
  have e9 : v = 9 := by omega
  subst e9
  refine x_tswO (t := 108) i_252_1 (by decide +kernel) (by decide) ?_
  refine x_aload_n i_252_108 rfl ?_
  refine n_iconst 4294967295 i_252_109 rfl ?_
  refine x_vh (r := []) (lj := [some _, some _, none, none, none]) i_252_110 w_197 ob_170 [_] rfl rfl (Nat.le_of_ble_eq_true rfl) (Nat.le_of_ble_eq_true rfl) rfl ?_
  refine c_197 r (by omega) (fun hq M1 r1 f1 => rt_i ?_)
  refine x_iret i_252_113 rn_252 rfl ?_
  exact k hq M1 r1 f1

theorem dr_le {v s x : Nat} (r : RM M n A) (hv : v < 10) (hs : s < 4294967296) (hx : x < 4294967296) : (dr n A v s x).1 < 4294967296 := by
  obtain ⟨f, w, h', -, h⟩ := e_252 (sc := (0, fun _ => 0)) (fd := 0) (Q := fun _ _ => (dr n A v s x).1 < 4294967296) r hv hs hx (fun hu M' r' f => by omega)
  exact h
def FL (M M' : a_Mm) : Prop := ∀ o k, (o < 170 ∨ 171 < o ∨ (o = 170 ∧ ¬ k = 0 ∧ ¬ k = 23 ∧ (k < 7 ∨ 10 < k)) ∨ (o = 171 ∧ 216 ≤ k)) → M' o k = M o k
/-- the reference's deeds -/
def RO (M : a_Mm) (D : Nat) (K O1 O2 : Nat → Nat) : Prop := M 170 27 = N D ∧ D ≤ 12 ∧ ∀ i, i < D → M 182 i = N (K i) ∧ M 183 i = N (O1 i) ∧ M 184 i = N (O2 i) ∧ K i < 10 ∧ O1 i < 4294967296 ∧ O2 i < 4294967296
theorem RO.same {M M' : a_Mm} {D : Nat} (h : RO M D K O1 O2) (f : FL M M') : RO M' D K O1 O2 := ⟨(f _ _ (by omega)).trans h.1, h.2.1, fun i hi => by
  obtain ⟨a, b, c, e⟩ := h.2.2 i hi
  exact ⟨(f _ _ (by omega)).trans a, (f _ _ (by omega)).trans b, (f _ _ (by omega)).trans c, e⟩⟩
theorem FL.trans {M M1 M2 : a_Mm} (h : FL M M1) (g : FL M1 M2) : FL M M2 := fun o k a => (g o k a).trans (h o k a)
theorem e_240_103 {D l1 : Nat} : ∀ d i {M : a_Mm} {A : HA} {l3 : Option Value}, D - i = d → i ≤ D → RM M n A → RO M D K O1 O2 → M 170 23 = N 0 → FL M0 M → (∀ M' l3', RM M' n (drs n K O1 O2 d i A).2.2 → M' 170 23 = N (drs n K O1 O2 d i A).2.1 → FL M0 M' → a_Ex 240 159 [some (.ref 170), some (.int (N l1)), some (.int (N (drs n K O1 O2 d i A).1)), l3'] [] (a_hp sc fd M') Q) → a_Ex 240 103 [some (.ref 170), some (.int (N l1)), some (.int (N i)), l3] [] (a_hp sc fd M) Q := by
  intro d
  induction d with
  | zero =>
    intro i M A l3 hd hi r s h6 fr k
    have e : D = i := by omega
    subst e
    have h12 := s.2.1
    refine x_iload_n i_240_103 rfl ?_
    refine x_aload_n i_240_104 rfl ?_
    refine n_gi (x := D) i_240_105 ob_170 gf_8_27.1 gf_8_27.2 s.1 ?_
    refine x_igeN (by omega) (by omega) i_240_108 ⟨fun g1 => ?_, fun g1 => ?_⟩
    · exact k M l3 r h6 fr
    · exact absurd (Nat.le_refl _) g1
  | succ d ih =>
    intro i M A l3 hd hi r s h6 fr k
    have h12 := s.2.1
    obtain ⟨e1, e2, e3, b1, b2, b3⟩ := s.2.2 i (by omega)
    have hq := dr_le (n := n) (A := A) r b1 b2 b3
    unfold drs at k
    refine x_iload_n i_240_103 rfl ?_
    refine x_aload_n i_240_104 rfl ?_
    refine n_gi (x := D) i_240_105 ob_170 gf_8_27.1 gf_8_27.2 s.1 ?_
    refine x_igeN (by omega) (by omega) i_240_108 ⟨fun g1 => ?_, fun g1 => ?_⟩
    · exact absurd g1 (by omega)
    · refine x_aload_n i_240_111 rfl ?_
      refine n_gi (x := 0) i_240_112 ob_170 gf_8_23.1 gf_8_23.2 h6 ?_
      refine x_ifF i_240_115 (by decide +kernel) ?_
      refine x_aload_n i_240_118 rfl ?_
      refine x_aload_n i_240_119 rfl ?_
      refine x_gr i_240_120 ob_170 gr_8_24.1 gr_8_24.2 (rt_170_24 _) ?_
      refine x_iload_n i_240_123 rfl ?_
      refine n_ld (x := K i) i_240_124 ar_182 (by omega) (by omega) e1 ?_
      refine x_aload_n i_240_125 rfl ?_
      refine x_gr i_240_126 ob_170 gr_8_25.1 gr_8_25.2 (rt_170_25 _) ?_
      refine x_iload_n i_240_129 rfl ?_
      refine n_ld (x := O1 i) i_240_130 ar_183 (by omega) (by omega) e2 ?_
      refine x_aload_n i_240_131 rfl ?_
      refine x_gr i_240_132 ob_170 gr_8_26.1 gr_8_26.2 (rt_170_26 _) ?_
      refine x_iload_n i_240_135 rfl ?_
      refine n_ld (x := O2 i) i_240_136 ar_184 (by omega) (by omega) e3 ?_
      refine x_vh (r := []) (lj := [some _, some _, some _, some _]) i_240_137 w_252 ob_170 [_, _, _] rfl rfl (Nat.le_of_ble_eq_true rfl) (Nat.le_of_ble_eq_true rfl) rfl ?_
      refine e_252 r b1 b2 b3 (fun _ M1 r1 f1 => rt_i ?_)
      have fl1 : FL M M1 := fun o j h => f1 o j (by omega)
      have fr1 := fr.trans fl1
      generalize dr n A (K i) (O1 i) (O2 i) = q at hq r1 k ⊢
      refine x_istore_n i_240_140 rfl rfl ?_
      refine x_iload_n i_240_141 rfl ?_
      refine n_zgeU hq i_240_142 ⟨fun g2 => ?_, fun g2 => ?_⟩
      · rw [if_pos (by omega)] at k
        refine n_iinc 1 i_240_153 rfl rfl rfl rfl ?_
        refine x_goto i_240_156 ?_
        exact ih (i + 1) (by omega) (by omega) r1 (s.same fl1) ((f1 _ _ (by omega)).trans h6) fr1 k
      · rw [if_neg (by omega)] at k
        refine x_aload_n i_240_145 rfl ?_
        refine x_iload_n i_240_146 rfl ?_
        refine x_pi i_240_147 ob_170 pf_8_23.1 pf_8_23.2 ?_
        have fl2 : FL M1 (a_up M1 170 23 (N q.1)) := fun o j h => by rw [a_up_def, if_neg (by omega)]
        have r2 : RM (a_up M1 170 23 (N q.1)) n q.2 := r1.same (fun j hj => by rw [a_up_def, if_neg (by omega)]) (fun j hj => by rw [a_up_def, if_neg (by omega)])
        have e23 : a_up M1 170 23 (N q.1) 170 23 = N q.1 := by rw [a_up_def, if_pos ⟨rfl, rfl⟩]
        generalize a_up M1 170 23 (N q.1) = M2 at fl2 r2 e23 ⊢
        have s2 := (s.same fl1).same fl2
        refine x_goto i_240_150 ?_
        refine x_goto i_240_156 ?_
        refine x_iload_n i_240_103 rfl ?_
        refine x_aload_n i_240_104 rfl ?_
        refine n_gi (x := D) i_240_105 ob_170 gf_8_27.1 gf_8_27.2 s2.1 ?_
        refine x_igeN (by omega) (by omega) i_240_108 ⟨fun w1 => ?_, fun w1 => ?_⟩
        · exact absurd w1 (by omega)
        · refine x_aload_n i_240_111 rfl ?_
          refine n_gi (x := q.1) i_240_112 ob_170 gf_8_23.1 gf_8_23.2 e23 ?_
          refine n_zneU hq i_240_115 ⟨fun w2 => ?_, fun w2 => ?_⟩
          · exact k M2 _ r2 e23 (fr1.trans fl2)
          · exact absurd w2 (by omega)
theorem drs_le : ∀ d i (A : HA), (drs n K O1 O2 d i A).1 ≤ i + d := by
  intro d
  induction d with
  | zero => intro i A; exact Nat.le_refl _
  | succ d ih =>
    intro i A
    unfold drs
    split
    · exact Nat.le_trans (ih _ _) (by omega)
    · exact Nat.le_add_right _ _
def FSr (M M' : a_Mm) : Prop := ∀ o k, (o < 170 ∨ (o = 170 ∧ ¬ k = 0 ∧ ¬ k = 5 ∧ (k < 7 ∨ 10 < k) ∧ (k < 18 ∨ 23 < k) ∧ ¬ k = 27) ∨ (o = 171 ∧ 216 ≤ k) ∨ o = 173 ∨ (175 ≤ o ∧ o ≤ 181) ∨ 185 ≤ o) → M' o k = M o k
theorem e_240 {f l1 : Nat} {T : Nat → Nat} (r : RM M n B) (d : DS M sz U) (t : TR M f T) (h1 : l1 < 4294967296) (p0 : P0 P)
  (k0 : ¬ l1 ≤ f → ∀ M', RM M' n (a_up B 9 0 0) → (∀ o k, ¬ (o = 170 ∧ k = 0) → M' o k = M o k) → Q (some (.int (N 4294967293))) (a_hp sc fd M'))
  (k1 : l1 ≤ f → ¬ rds T l1 13 P 0 1 = 0 → ∀ M', RM M' n (a_up B 9 0 0) → DS M' sz U → M' 170 18 = N 0 → M' 170 21 = N (rds T l1 13 P 0 1) → M' 170 22 = N (rds T l1 13 P 0 2) → M' 170 23 = N 0 → FSr M M' → Q (some (.int (N (4294967266 - rds T l1 13 P 0 1)))) (a_hp sc fd M'))
  (k2 : l1 ≤ f → rds T l1 13 P 0 1 = 0 → ∀ M' K O1 O2, (∀ i, i < rds T l1 13 P 0 3 → K i = rds T l1 13 P 1 i ∧ K i < 10 ∧ O1 i < 4294967296 ∧ O2 i < 4294967296 ∧ OO (K i) (rds T l1 13 P 2 i % 4294967296) (rds T l1 13 P 3 i % 4294967296) (O1 i) (O2 i)) → RM M' n (drs n K O1 O2 (rds T l1 13 P 0 3) 0 (a_up B 9 0 0)).2.2 → (if (drs n K O1 O2 (rds T l1 13 P 0 3) 0 (a_up B 9 0 0)).1 = 0 then DS M' sz U else DS M' (pss sz) (psh U sz (n, B))) → M' 170 18 = N 0 → M' 170 21 = N 0 → M' 170 22 = N (rds T l1 13 P 0 2) → M' 170 23 = N (drs n K O1 O2 (rds T l1 13 P 0 3) 0 (a_up B 9 0 0)).2.1 → FSr M M' → Q (some (.int (N (drs n K O1 O2 (rds T l1 13 P 0 3) 0 (a_up B 9 0 0)).1))) (a_hp sc fd M')) : a_Ex 240 0 [some (.ref 170), some (.int (N l1)), none, none] [] (a_hp sc fd M) Q := by
  have h2 := t.1
  refine x_aload_n i_240_0 rfl ?_
  refine n_iconst 0 i_240_1 rfl ?_
  refine x_pi i_240_2 ob_170 pf_8_0.1 pf_8_0.2 ?_
  have r1 : RM (a_up M 170 0 (N 0)) n (a_up B 9 0 0) := r.putg
  have f1 : ∀ o k, ¬ (o = 170 ∧ k = 0) → a_up M 170 0 (N 0) o k = M o k := fun o k h => by rw [a_up_def, if_neg h]
  generalize a_up M 170 0 (N 0) = M1 at r1 f1 ⊢
  refine x_iload_n i_240_5 rfl ?_
  refine x_i2l i_240_6 ?_
  refine n_lconst 0 i_240_7 rfl ?_
  refine x_aload_n i_240_8 rfl ?_
  refine n_gi (x := f) i_240_9 ob_170 gf_8_18.1 gf_8_18.2 ((f1 _ _ (by omega)).trans t.2.1) ?_
  refine x_i2l i_240_12 ?_
  refine n_within i_240_13 (Nat.le_of_ble_eq_true rfl) h1 (by omega) (by omega) ⟨fun g1 => ?_, fun g1 => ?_⟩
  · have k1 := k1 g1.2
    have k2 := k2 g1.2
    have hl : l1 ≤ f := g1.2
    refine x_ifT i_240_16 (by decide +kernel) ?_
    refine x_aload_n i_240_22 rfl ?_
    refine n_iconst 0 i_240_23 rfl ?_
    refine x_pi i_240_24 ob_170 pf_8_18.1 pf_8_18.2 ?_
    refine x_aload_n i_240_27 rfl ?_
    refine x_iload_n i_240_28 rfl ?_
    refine x_pi i_240_29 ob_170 pf_8_19.1 pf_8_19.2 ?_
    refine x_aload_n i_240_32 rfl ?_
    refine n_iconst 0 i_240_33 rfl ?_
    refine x_pi i_240_34 ob_170 pf_8_20.1 pf_8_20.2 ?_
    refine x_aload_n i_240_37 rfl ?_
    refine n_iconst 0 i_240_38 rfl ?_
    refine x_pi i_240_39 ob_170 pf_8_21.1 pf_8_21.2 ?_
    refine x_aload_n i_240_42 rfl ?_
    refine n_iconst 4294967295 i_240_43 rfl ?_
    refine x_pi i_240_44 ob_170 pf_8_22.1 pf_8_22.2 ?_
    refine x_aload_n i_240_47 rfl ?_
    refine n_iconst 0 i_240_48 rfl ?_
    refine x_pi i_240_49 ob_170 pf_8_23.1 pf_8_23.2 ?_
    refine x_aload_n i_240_52 rfl ?_
    refine n_iconst 0 i_240_53 rfl ?_
    refine x_pi i_240_54 ob_170 pf_8_27.1 pf_8_27.2 ?_
    have c0 : RDs (a_up (a_up (a_up (a_up (a_up (a_up (a_up M1 170 18 (N 0)) 170 19 (N l1)) 170 20 (N 0)) 170 21 (N 0)) 170 22 (N 4294967295)) 170 23 (N 0)) 170 27 (N 0)) l1 T P := by
      obtain ⟨q1, q2, q3, q4⟩ := p0
      refine ⟨⟨(0, 0, 4294967295), ⟨⟨by omega, Nat.zero_le _, Nat.zero_le _, by omega⟩, ⟨?_, ?_, ?_, ?_, ?_⟩, fun k hk => ⟨(t.2.2 k (by omega)).1, ?_⟩⟩, q2.symm, q3.symm, fun _ => q1.symm⟩, fun i hi => absurd hi (by omega)⟩
      · rw [a_up_def, if_neg (by omega), a_up_def, if_neg (by omega), a_up_def, if_neg (by omega), a_up_def, if_neg (by omega), a_up_def, if_neg (by omega)]; rw [a_up_def, if_pos ⟨rfl, rfl⟩]
      · rw [a_up_def, if_neg (by omega), a_up_def, if_neg (by omega), a_up_def, if_neg (by omega), a_up_def, if_neg (by omega)]; rw [a_up_def, if_pos ⟨rfl, rfl⟩]
      · rw [a_up_def, if_neg (by omega), a_up_def, if_neg (by omega), a_up_def, if_neg (by omega)]; rw [a_up_def, if_pos ⟨rfl, rfl⟩]
      · rw [a_up_def, if_neg (by omega), a_up_def, if_neg (by omega)]; rw [a_up_def, if_pos ⟨rfl, rfl⟩]
      · rw [a_up_def, if_pos ⟨rfl, rfl⟩, q4]
      · rw [a_up_def, if_neg (by omega), a_up_def, if_neg (by omega), a_up_def, if_neg (by omega), a_up_def, if_neg (by omega), a_up_def, if_neg (by omega), a_up_def, if_neg (by omega), a_up_def, if_neg (by omega)]; exact (f1 _ _ (by omega)).trans (t.2.2 k (by omega)).2
    have h18 : (a_up (a_up (a_up (a_up (a_up (a_up (a_up M1 170 18 (N 0)) 170 19 (N l1)) 170 20 (N 0)) 170 21 (N 0)) 170 22 (N 4294967295)) 170 23 (N 0)) 170 27 (N 0)) 170 18 = N 0 := by rw [a_up_def, if_neg (by omega), a_up_def, if_neg (by omega), a_up_def, if_neg (by omega), a_up_def, if_neg (by omega), a_up_def, if_neg (by omega), a_up_def, if_neg (by omega)]; rw [a_up_def, if_pos ⟨rfl, rfl⟩]
    have h23 : (a_up (a_up (a_up (a_up (a_up (a_up (a_up M1 170 18 (N 0)) 170 19 (N l1)) 170 20 (N 0)) 170 21 (N 0)) 170 22 (N 4294967295)) 170 23 (N 0)) 170 27 (N 0)) 170 23 = N 0 := by rw [a_up_def, if_neg (by omega)]; rw [a_up_def, if_pos ⟨rfl, rfl⟩]
    have fr : ∀ o k, ¬ (o = 170 ∧ (k = 0 ∨ (18 ≤ k ∧ k ≤ 23) ∨ k = 27)) → (a_up (a_up (a_up (a_up (a_up (a_up (a_up M1 170 18 (N 0)) 170 19 (N l1)) 170 20 (N 0)) 170 21 (N 0)) 170 22 (N 4294967295)) 170 23 (N 0)) 170 27 (N 0)) o k = M o k := fun o k h => by rw [a_up_def, if_neg (by omega), a_up_def, if_neg (by omega), a_up_def, if_neg (by omega), a_up_def, if_neg (by omega), a_up_def, if_neg (by omega), a_up_def, if_neg (by omega), a_up_def, if_neg (by omega)]; exact f1 _ _ (by omega)
    have rr : RM (a_up (a_up (a_up (a_up (a_up (a_up (a_up M1 170 18 (N 0)) 170 19 (N l1)) 170 20 (N 0)) 170 21 (N 0)) 170 22 (N 4294967295)) 170 23 (N 0)) 170 27 (N 0)) n (a_up B 9 0 0) := r1.same (fun k hk => by rw [a_up_def, if_neg (by omega), a_up_def, if_neg (by omega), a_up_def, if_neg (by omega), a_up_def, if_neg (by omega), a_up_def, if_neg (by omega), a_up_def, if_neg (by omega), a_up_def, if_neg (by omega)]) (fun k hk => by rw [a_up_def, if_neg (by omega), a_up_def, if_neg (by omega), a_up_def, if_neg (by omega), a_up_def, if_neg (by omega), a_up_def, if_neg (by omega), a_up_def, if_neg (by omega), a_up_def, if_neg (by omega)])
    generalize a_up (a_up (a_up (a_up (a_up (a_up (a_up M1 170 18 (N 0)) 170 19 (N l1)) 170 20 (N 0)) 170 21 (N 0)) 170 22 (N 4294967295)) 170 23 (N 0)) 170 27 (N 0) = M2 at c0 h18 h23 fr rr ⊢
    refine e_240_57 13 (fun _ => by omega) c0 (FX.refl M2) (fun M3 c3 f3 => ?_)
    generalize rds T l1 13 P = R at c3 k1 k2
    have fr3 : ∀ o k, ¬ (o = 170 ∧ (k = 0 ∨ (18 ≤ k ∧ k ≤ 23) ∨ k = 27)) → ¬ (182 ≤ o ∧ o ≤ 184) → M3 o k = M o k := fun o k a b => (f3 o k (by omega) b).trans (fr o k a)
    have r3 : RM M3 n (a_up B 9 0 0) := rr.same (fun k hk => f3 _ _ (by omega) (by omega)) (fun k hk => f3 _ _ (by omega) (by omega))
    have d3 : DS M3 sz U := d.same (fun k => fr3 _ _ (by omega) (by omega)) (fr3 _ _ (by omega) (by omega))
    have h183 := (f3 170 18 (by omega) (by omega)).trans h18
    have h233 := (f3 170 23 (by omega) (by omega)).trans h23
    obtain ⟨⟨t3, c4, c5⟩, c6⟩ := c3
    have e21 : M3 170 21 = N (R 0 1) := by rw [← c5.1]; exact c4.hft
    have e22 : M3 170 22 = N (R 0 2) := by rw [← c5.2.1]; exact c4.hpl
    have b3 : R 0 1 ≤ 3 := by rw [← c5.1]; exact c4.f3
    have fs3 : FSr M M3 := fun o k h => fr3 o k (by omega) (by omega)
    refine x_aload_n i_240_82 rfl ?_
    refine n_gi (x := R 0 1) i_240_83 ob_170 gf_8_21.1 gf_8_21.2 e21 ?_
    refine x_zeqN (by omega) i_240_86 ⟨fun g2 => ?_, fun g2 => ?_⟩
    · have k2 := k2 g2
      refine x_aload_n i_240_97 rfl ?_
      refine x_vh (r := []) (lj := [some _]) i_240_98 w_148 ob_170 [] rfl rfl (Nat.le_of_ble_eq_true rfl) (Nat.le_of_ble_eq_true rfl) rfl ?_
      refine c_148 (fun M4 g4 f4 => rt_n ?_)
      have ro : RO M4 (R 0 3) (fun i => R 1 i) (fun i => (M4 183 i).toBitVec.toNat) (fun i => (M4 184 i).toBitVec.toNat) := ⟨(f4 _ _ (by omega)).trans c4.hdd, c4.d12, fun i hi => ?_⟩
      rotate_left
      · obtain ⟨a0, o1, o2, a1, a2, a3, -⟩ := c6 i hi
        exact ⟨(f4 _ _ (by omega)).trans a1, (N_nat _).symm, (N_nat _).symm, a0, (M4 183 i).toBitVec.isLt, (M4 184 i).toBitVec.isLt⟩
      have hO : ∀ i, i < R 0 3 → R 1 i = R 1 i ∧ R 1 i < 10 ∧ (M4 183 i).toBitVec.toNat < 4294967296 ∧ (M4 184 i).toBitVec.toNat < 4294967296 ∧ OO (R 1 i) (R 2 i % 4294967296) (R 3 i % 4294967296) ((M4 183 i).toBitVec.toNat) ((M4 184 i).toBitVec.toNat) := fun i hi => by
        obtain ⟨a0, o1, o2, a1, a2, a3, a4⟩ := c6 i hi
        refine ⟨rfl, a0, (M4 183 i).toBitVec.isLt, (M4 184 i).toBitVec.isLt, ?_⟩
        have z1 : (M4 183 i).toBitVec.toNat = o1 % 4294967296 := by rw [(f4 _ _ (by omega)).trans a2, N_bv, BitVec.toNat_ofNat]
        have z2 : (M4 184 i).toBitVec.toNat = o2 % 4294967296 := by rw [(f4 _ _ (by omega)).trans a3, N_bv, BitVec.toNat_ofNat]
        rw [z1, z2]
        exact ⟨fun q => by rw [a4.1 q], fun q => by rw [a4.2.1 q], fun q => by rw [a4.2.2 q]⟩
      have k2 := fun M' => k2 M' _ _ _ hO
      have r4 : RM M4 n (a_up B 9 0 0) := r3.same (fun k hk => f4 _ _ (by omega)) (fun k hk => f4 _ _ (by omega))
      have rs4 : RS (M4 174) n B := (r3.rs.congr g4).eq ((EQ.refl B).l 9 0 0 (by omega))
      refine n_iconst 0 i_240_101 rfl ?_
      refine x_istore_n i_240_102 rfl rfl ?_
      refine e_240_103 (M0 := M4) (R 0 3) 0 rfl (by omega) r4 ro ((f4 _ _ (by omega)).trans h233) (fun _ _ _ => rfl) (fun M5 l3 r5 h5 f5 => ?_)
      have hle : (drs n (fun i => R 1 i) (fun i => (M4 183 i).toBitVec.toNat) (fun i => (M4 184 i).toBitVec.toNat) (R 0 3) 0 (a_up B 9 0 0)).1 ≤ 12 := Nat.le_trans (drs_le _ _ _) (by have := c4.d12; omega)
      generalize drs n (fun i => R 1 i) (fun i => (M4 183 i).toBitVec.toNat) (fun i => (M4 184 i).toBitVec.toNat) (R 0 3) 0 (a_up B 9 0 0) = q at r5 h5 hle k2 ⊢
      have d5 : DS M5 sz U := d3.same (fun k => (f5 _ _ (by omega)).trans (f4 _ _ (by omega))) ((f5 _ _ (by omega)).trans (f4 _ _ (by omega)))
      have rs5 : RS (M5 174) n B := rs4.congr (fun k hk => f5 _ _ (by omega))
      have fs5 : FSr M M5 := fun o k h => (f5 o k (by omega)).trans ((f4 o k (by omega)).trans (fs3 o k h))
      have e185 := (f5 170 18 (by omega)).trans ((f4 _ _ (by omega)).trans h183)
      have e215 := (f5 170 21 (by omega)).trans ((f4 _ _ (by omega)).trans (e21.trans (by rw [g2])))
      have e225 := (f5 170 22 (by omega)).trans ((f4 _ _ (by omega)).trans e22)
      refine x_iload_n i_240_159 rfl ?_
      refine x_zleN (by omega) i_240_160 ⟨fun y1 => ?_, fun y1 => ?_⟩
      · have q0 : q.1 = 0 := by omega
        refine x_iload_n i_240_167 rfl ?_
        refine x_iret i_240_168 rn_240 rfl ?_
        first | exact k2 M5 r5 (by rw [if_pos q0]; exact d5) e185 e215 e225 h5 fs5 | exact k2 M6 (r5.same (fun k hk => f6 _ _ (by omega) (by omega)) (fun k hk => f6 _ _ (by omega) (by omega))) (by rw [if_neg q0]; exact d6) ((f6 _ _ (by omega) (by omega)).trans e185) ((f6 _ _ (by omega) (by omega)).trans e215) ((f6 _ _ (by omega) (by omega)).trans e225) ((f6 _ _ (by omega) (by omega)).trans h5) (fun o k h => (f6 o k (by omega) (by omega)).trans (fs5 o k h))
      · have q0 : ¬ q.1 = 0 := by omega
        refine x_aload_n i_240_163 rfl ?_
        refine x_vh (r := []) (lj := [some _, none]) i_240_164 w_151 ob_170 [] rfl rfl (Nat.le_of_ble_eq_true rfl) (Nat.le_of_ble_eq_true rfl) rfl ?_
        refine c_151 d5 rs5 (fun M6 d6 f6 => rt_n ?_)
        refine x_iload_n i_240_167 rfl ?_
        refine x_iret i_240_168 rn_240 rfl ?_
        first | exact k2 M5 r5 (by rw [if_pos q0]; exact d5) e185 e215 e225 h5 fs5 | exact k2 M6 (r5.same (fun k hk => f6 _ _ (by omega) (by omega)) (fun k hk => f6 _ _ (by omega) (by omega))) (by rw [if_neg q0]; exact d6) ((f6 _ _ (by omega) (by omega)).trans e185) ((f6 _ _ (by omega) (by omega)).trans e215) ((f6 _ _ (by omega) (by omega)).trans e225) ((f6 _ _ (by omega) (by omega)).trans h5) (fun o k h => (f6 o k (by omega) (by omega)).trans (fs5 o k h))
    · have k1 := k1 g2
      refine n_bipush 4294967266 i_240_89 rfl ?_
      refine x_aload_n i_240_91 rfl ?_
      refine n_gi (x := R 0 1) i_240_92 ob_170 gf_8_21.1 gf_8_21.2 e21 ?_
      refine x_isubN (by omega) i_240_95 ?_
      refine x_iret i_240_96 rn_240 rfl ?_
      exact k1 M3 r3 d3 h183 e21 e22 h233 fs3
  · have k0 := k0 (fun q => g1 ⟨Nat.zero_le _, q⟩)
    refine x_ifF i_240_16 (by decide +kernel) ?_
    refine n_bipush 4294967293 i_240_19 rfl ?_
    refine x_iret i_240_21 rn_240 rfl ?_
    exact k0 M1 r1 f1
/-- the same deeds -/
theorem xdc {v s x o1 o2 : Nat} (e : EQ A B) (w : WN n A) (r : NR n A) (hv : v < 10) (hs : s < 4294967296) (hx : x < 4294967296) (ho : OO v s x o1 o2) : AE (dc n A v s x) (dr n B v o1 o2) ∧ WN n (dc n A v s x).2 ∧ NR n (dc n A v s x).2 := by
  have h5 := w.1.2
  obtain ⟨a1, a2, a3⟩ := ho
  unfold dc dr
  by_cases g0 : v = 0
  · rw [if_pos g0, if_pos g0, a1 (by omega)]; exact ⟨x57 e w r, wn57 w hx, nr57 h5 r⟩
  rw [if_neg g0, if_neg g0]
  by_cases g1 : v = 1
  · rw [if_pos g1, if_pos g1, a1 (by omega)]; exact ⟨x64 e w, wn64 w hx, nr64 h5 r⟩
  rw [if_neg g1, if_neg g1]
  by_cases g2 : v = 2
  · rw [if_pos g2, if_pos g2, a1 (by omega)]; exact ⟨x66 e w, wn66 w hx, nr66 h5 r⟩
  rw [if_neg g2, if_neg g2]
  by_cases g3 : v = 3
  · rw [if_pos g3, if_pos g3, a2 (by omega)]; exact ⟨x67 e w, wn67 w hs, nr67 h5 r⟩
  rw [if_neg g3, if_neg g3]
  by_cases g4 : v = 4
  · rw [if_pos g4, if_pos g4, a2 (by omega)]; exact ⟨x70 e w, wn70 w hs, nr70 r⟩
  rw [if_neg g4, if_neg g4]
  by_cases g5 : v = 5
  · rw [if_pos g5, if_pos g5, a2 (by omega), a3 (by omega)]; exact ⟨x72 e w, wn72 w hs hx, nr72 h5 r⟩
  rw [if_neg g5, if_neg g5]
  by_cases g6 : v = 6
  · rw [if_pos g6, if_pos g6, a2 (by omega)]; exact ⟨x80 e w, wn80 w hs, nr80 h5 r⟩
  rw [if_neg g6, if_neg g6]
  by_cases g7 : v = 7
  · rw [if_pos g7, if_pos g7]; exact ⟨x71 e, wn71 w (by omega), nr71 r⟩
  rw [if_neg g7, if_neg g7]
  by_cases g8 : v = 8
  · rw [if_pos g8, if_pos g8, a2 (by omega), a3 (by omega)]; exact ⟨x52 e w, wn52 w hs hx, nr52 r⟩
  rw [if_neg g8, if_neg g8]
  exact ⟨x82 e w, wn82 w (by omega), nr82 h5 r⟩
theorem xds {D : Nat} (hO : ∀ i, i < D → K i = P 1 i ∧ K i < 10 ∧ O1 i < 4294967296 ∧ O2 i < 4294967296 ∧ OO (K i) (P 2 i % 4294967296) (P 3 i % 4294967296) (O1 i) (O2 i)) : ∀ d i (A B : HA), i + d ≤ D → EQ A B → WN n A → NR n A → (dls n P d i A).1 = (drs n K O1 O2 d i B).1 ∧ (dls n P d i A).2.1 = (drs n K O1 O2 d i B).2.1 ∧ EQ (dls n P d i A).2.2 (drs n K O1 O2 d i B).2.2 ∧ WN n (dls n P d i A).2.2 ∧ NR n (dls n P d i A).2.2 := by
  intro d
  induction d with
  | zero => intro i A B _ e w r; exact ⟨rfl, rfl, e, w, r⟩
  | succ d ih =>
    intro i A B hi e w r
    obtain ⟨h1, h2, h3, h4, h5⟩ := hO i (by omega)
    rw [h1] at h2 h5
    obtain ⟨⟨x1, x2⟩, x3, x4⟩ := xdc e w r h2 (Nat.mod_lt _ (by omega)) (Nat.mod_lt _ (by omega)) h5
    unfold dls drs
    rw [h1, x1]
    split
    · exact ih (i + 1) _ _ (by omega) x2 x3 x4
    · exact ⟨rfl, rfl, x2, x3, x4⟩
/-- the last text's fault -/
def flt (f p t l : Nat) : Nat := if l = 0 then f else if l = 1 then p else if l = 2 then t else 4294967295
theorem d_38 {f p t l : Nat} (h4 : M 141 4 = N f) (h5 : M 141 5 = N p) (h6 : M 141 6 = N t) (hl : l < 4294967296) (K : Q (some (.int (N (flt f p t l)))) (a_hp sc fd M)) : a_Ex 38 0 [some (.ref 0), some (.int (N l))] [] (a_hp sc fd M) Q := by
  unfold flt at K
  refine x_iload_n i_38_0 rfl ?_
  by_cases g0 : l = 0
  · subst g0
    refine x_tswI (t := 28) (off := 27) i_38_1 (by decide +kernel) (by decide +kernel) (by decide) ?_
    refine x_aload_n i_38_28 rfl ?_
    refine x_gr i_38_29 ob_0 gr_0_7.1 gr_0_7.2 (rt_0_7 _) ?_
    refine n_gi (x := f) i_38_32 ob_141 gf_4_4.1 gf_4_4.2 h4 ?_
    refine x_iret i_38_35 rn_38 rfl ?_
    exact K
  by_cases g1 : l = 1
  · subst g1
    refine x_tswI (t := 36) (off := 35) i_38_1 (by decide +kernel) (by decide +kernel) (by decide) ?_
    refine x_aload_n i_38_36 rfl ?_
    refine x_gr i_38_37 ob_0 gr_0_7.1 gr_0_7.2 (rt_0_7 _) ?_
    refine n_gi (x := p) i_38_40 ob_141 gf_4_5.1 gf_4_5.2 h5 ?_
    refine x_iret i_38_43 rn_38 rfl ?_
    exact K
  by_cases g2 : l = 2
  · subst g2
    refine x_tswI (t := 44) (off := 43) i_38_1 (by decide +kernel) (by decide +kernel) (by decide) ?_
    refine x_aload_n i_38_44 rfl ?_
    refine x_gr i_38_45 ob_0 gr_0_7.1 gr_0_7.2 (rt_0_7 _) ?_
    refine n_gi (x := t) i_38_48 ob_141 gf_4_6.1 gf_4_6.2 h6 ?_
    refine x_iret i_38_51 rn_38 rfl ?_
    exact K
  rw [if_neg g0, if_neg g1, if_neg g2] at K
  refine x_tswO (t := 52) i_38_1 (n_tswO (lo := 0) (hi := 2) (by omega) (by omega)) (by decide) ?_
  refine n_iconst 4294967295 i_38_52 rfl ?_
  refine x_iret i_38_53 rn_38 rfl ?_
  exact K
theorem e_253 {f p t l : Nat} (r : RM M n B) (h4 : M 170 21 = N f) (h5 : M 170 22 = N p) (h6 : M 170 23 = N t) (hl : l < 4294967296) (k : ∀ M', RM M' n (a_up B 9 0 0) → (∀ o k, ¬ (o = 170 ∧ k = 0) → M' o k = M o k) → Q (some (.int (N (flt f p t l)))) (a_hp sc fd M')) : a_Ex 253 0 [some (.ref 170), some (.int (N l))] [] (a_hp sc fd M) Q := by
  unfold flt at k
  refine x_aload_n i_253_0 rfl ?_
  refine n_iconst 0 i_253_1 rfl ?_
  refine x_pi i_253_2 ob_170 pf_8_0.1 pf_8_0.2 ?_
  have r1 : RM (a_up M 170 0 (N 0)) n (a_up B 9 0 0) := r.putg
  have f1 : ∀ o k, ¬ (o = 170 ∧ k = 0) → a_up M 170 0 (N 0) o k = M o k := fun o k h => by rw [a_up_def, if_neg h]
  generalize a_up M 170 0 (N 0) = M1 at r1 f1 ⊢
  have k := k M1 r1 f1
  refine x_iload_n i_253_5 rfl ?_
  refine n_zneU hl i_253_6 ⟨fun g1 => ?_, fun g1 => ?_⟩
  · rw [if_neg g1] at k
    refine x_iload_n i_253_16 rfl ?_
    refine n_iconst 1 i_253_17 rfl ?_
    refine n_ineU hl (by omega) i_253_18 ⟨fun g2 => ?_, fun g2 => ?_⟩
    · rw [if_neg g2] at k
      refine x_iload_n i_253_28 rfl ?_
      refine n_iconst 2 i_253_29 rfl ?_
      refine n_ineU hl (by omega) i_253_30 ⟨fun g3 => ?_, fun g3 => ?_⟩
      · rw [if_neg g3] at k
        refine n_iconst 4294967295 i_253_40 rfl ?_
        refine x_iret i_253_41 rn_253 rfl ?_
        exact k
      · rw [if_pos g3] at k
        refine x_aload_n i_253_33 rfl ?_
        refine n_gi (x := t) i_253_34 ob_170 gf_8_23.1 gf_8_23.2 ((f1 _ _ (by omega)).trans h6) ?_
        refine x_goto i_253_37 ?_
        refine x_iret i_253_41 rn_253 rfl ?_
        exact k
    · rw [if_pos g2] at k
      refine x_aload_n i_253_21 rfl ?_
      refine n_gi (x := p) i_253_22 ob_170 gf_8_22.1 gf_8_22.2 ((f1 _ _ (by omega)).trans h5) ?_
      refine x_goto i_253_25 ?_
      refine x_iret i_253_41 rn_253 rfl ?_
      exact k
  · rw [if_pos g1] at k
    refine x_aload_n i_253_9 rfl ?_
    refine n_gi (x := f) i_253_10 ob_170 gf_8_21.1 gf_8_21.2 ((f1 _ _ (by omega)).trans h4) ?_
    refine x_goto i_253_13 ?_
    refine x_iret i_253_41 rn_253 rfl ?_
    exact k
end DDT
