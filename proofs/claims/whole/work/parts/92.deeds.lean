/-! the deeds of a text are done: what both do, the class's doing -/
def dc (n : Nat) (A : HA) (v s x : Nat) : Nat × HA := if v = 0 then s_57 n A x else if v = 1 then s_64 n A x else if v = 2 then s_66 n A x else if v = 3 then s_67 n A s else if v = 4 then s_70 n A s else if v = 5 then s_72 n A s x else if v = 6 then s_80 n A s else if v = 7 then s71 n A 0 else if v = 8 then s_52 n A s x else s_82 n A 4294967295
def dr (n : Nat) (A : HA) (v s x : Nat) : Nat × HA := if v = 0 then s_164 n A s else if v = 1 then s_176 n A s else if v = 2 then s_178 n A s else if v = 3 then s_181 n A s else if v = 4 then s_183 n A s else if v = 5 then s_187 n A s x else if v = 6 then s_194 n A s else if v = 7 then s71 n A 0 else if v = 8 then s_153 n A s x else s_197 n A 4294967295
def dls (n : Nat) (P : HA) : Nat → Nat → HA → Nat × Nat × HA
  | 0, i, A => (i, 0, A)
  | d + 1, i, A => if (dc n A (P 1 i) (P 2 i % 4294967296) (P 3 i % 4294967296)).1 < 2147483648 then dls n P d (i + 1) (dc n A (P 1 i) (P 2 i % 4294967296) (P 3 i % 4294967296)).2 else (i, (dc n A (P 1 i) (P 2 i % 4294967296) (P 3 i % 4294967296)).1, (dc n A (P 1 i) (P 2 i % 4294967296) (P 3 i % 4294967296)).2)
theorem N_mod (x : Nat) : N (x % 4294967296) = N x := by
  apply Int32.toBitVec_inj.mp
  rw [N_bv, N_bv]
  apply BitVec.eq_of_toNat_eq
  rw [BitVec.toNat_ofNat, BitVec.toNat_ofNat]
  exact Nat.mod_mod _ _
section DDS
variable {sc : a_Sc} {fd : Nat} {M M0 : a_Mm} {A B P : HA} {Q : Option Value → a_Hp → Prop} {n nx sz : Nat} {U : Nat → Nat × HA}
theorem c_37 (r : RC M 1 n A) {v s x : Nat} (hv : v < 10) (hs : s < 4294967296) (hx : x < 4294967296) (k : KR 4294967295 Q sc fd M 1 n (dc n A v s x)) : a_Ex 37 0 [some (.ref 0), some (.int (N v)), some (.int (N s)), some (.int (N x))] [] (a_hp sc fd M) Q := by
  unfold dc at k
  refine x_iload_n i_37_0 rfl ?_
  by_cases g0 : v = 0
  · subst g0
    refine x_tswI (t := 52) (off := 51) i_37_1 (by decide +kernel) (by decide +kernel) (by decide) ?_
    refine x_aload_n i_37_52 rfl ?_
    refine x_gr i_37_53 ob_0 gr_0_0.1 gr_0_0.2 (rt_0_0 _) ?_
    refine x_iload_n i_37_56 rfl ?_
    refine x_vh (r := []) (lj := [some _, some _]) i_37_57 w_57 hb1.ob [_] rfl rfl (Nat.le_of_ble_eq_true rfl) (Nat.le_of_ble_eq_true rfl) rfl ?_
    refine c_57 hb1 r (by omega) (fun hq M1 r1 f1 => rt_i ?_)
    refine x_iret i_37_60 rn_37 rfl ?_
    exact k hq M1 r1 f1
  by_cases g1 : v = 1
  · subst g1
    refine x_tswI (t := 61) (off := 60) i_37_1 (by decide +kernel) (by decide +kernel) (by decide) ?_
    refine x_aload_n i_37_61 rfl ?_
    refine x_gr i_37_62 ob_0 gr_0_0.1 gr_0_0.2 (rt_0_0 _) ?_
    refine x_iload_n i_37_65 rfl ?_
    refine x_vh (r := []) (lj := [some _, some _, none, none]) i_37_66 w_64 hb1.ob [_] rfl rfl (Nat.le_of_ble_eq_true rfl) (Nat.le_of_ble_eq_true rfl) rfl ?_
    refine c_64 hb1 r (by omega) (fun hq M1 r1 f1 => rt_i ?_)
    refine x_iret i_37_69 rn_37 rfl ?_
    exact k hq M1 r1 f1
  by_cases g2 : v = 2
  · subst g2
    refine x_tswI (t := 70) (off := 69) i_37_1 (by decide +kernel) (by decide +kernel) (by decide) ?_
    refine x_aload_n i_37_70 rfl ?_
    refine x_gr i_37_71 ob_0 gr_0_0.1 gr_0_0.2 (rt_0_0 _) ?_
    refine x_iload_n i_37_74 rfl ?_
    refine x_vh (r := []) (lj := [some _, some _]) i_37_75 w_66 hb1.ob [_] rfl rfl (Nat.le_of_ble_eq_true rfl) (Nat.le_of_ble_eq_true rfl) rfl ?_
    refine c_66 hb1 r (by omega) (fun hq M1 r1 f1 => rt_i ?_)
    refine x_iret i_37_78 rn_37 rfl ?_
    exact k hq M1 r1 f1
  by_cases g3 : v = 3
  · subst g3
    refine x_tswI (t := 79) (off := 78) i_37_1 (by decide +kernel) (by decide +kernel) (by decide) ?_
    refine x_aload_n i_37_79 rfl ?_
    refine x_gr i_37_80 ob_0 gr_0_0.1 gr_0_0.2 (rt_0_0 _) ?_
    refine x_iload_n i_37_83 rfl ?_
    refine x_vh (r := []) (lj := [some _, some _]) i_37_84 w_67 hb1.ob [_] rfl rfl (Nat.le_of_ble_eq_true rfl) (Nat.le_of_ble_eq_true rfl) rfl ?_
    refine c_67 hb1 r (by omega) (fun hq M1 r1 f1 => rt_i ?_)
    refine x_iret i_37_87 rn_37 rfl ?_
    exact k hq M1 r1 f1
  by_cases g4 : v = 4
  · subst g4
    refine x_tswI (t := 88) (off := 87) i_37_1 (by decide +kernel) (by decide +kernel) (by decide) ?_
    refine x_aload_n i_37_88 rfl ?_
    refine x_gr i_37_89 ob_0 gr_0_0.1 gr_0_0.2 (rt_0_0 _) ?_
    refine x_iload_n i_37_92 rfl ?_
    refine x_vh (r := []) (lj := [some _, some _]) i_37_93 w_70 hb1.ob [_] rfl rfl (Nat.le_of_ble_eq_true rfl) (Nat.le_of_ble_eq_true rfl) rfl ?_
    refine c_70 hb1 r (by omega) (fun hq M1 r1 f1 => rt_i ?_)
    refine x_iret i_37_96 rn_37 rfl ?_
    exact k hq M1 r1 f1
  by_cases g5 : v = 5
  · subst g5
    refine x_tswI (t := 97) (off := 96) i_37_1 (by decide +kernel) (by decide +kernel) (by decide) ?_
    refine x_aload_n i_37_97 rfl ?_
    refine x_gr i_37_98 ob_0 gr_0_0.1 gr_0_0.2 (rt_0_0 _) ?_
    refine x_iload_n i_37_101 rfl ?_
    refine x_iload_n i_37_102 rfl ?_
    refine x_vh (r := []) (lj := [some _, some _, some _, none, none]) i_37_103 w_72 hb1.ob [_, _] rfl rfl (Nat.le_of_ble_eq_true rfl) (Nat.le_of_ble_eq_true rfl) rfl ?_
    refine c_72 hb1 r (by omega) (by omega) (fun hq M1 r1 f1 => rt_i ?_)
    refine x_iret i_37_106 rn_37 rfl ?_
    exact k hq M1 r1 f1
  by_cases g6 : v = 6
  · subst g6
    refine x_tswI (t := 107) (off := 106) i_37_1 (by decide +kernel) (by decide +kernel) (by decide) ?_
    refine x_aload_n i_37_107 rfl ?_
    refine x_gr i_37_108 ob_0 gr_0_0.1 gr_0_0.2 (rt_0_0 _) ?_
    refine x_iload_n i_37_111 rfl ?_
    refine x_vh (r := []) (lj := [some _, some _, none]) i_37_112 w_80 hb1.ob [_] rfl rfl (Nat.le_of_ble_eq_true rfl) (Nat.le_of_ble_eq_true rfl) rfl ?_
    refine c_80 hb1 r (by omega) (fun hq M1 r1 f1 => rt_i ?_)
    refine x_iret i_37_115 rn_37 rfl ?_
    exact k hq M1 r1 f1
  by_cases g7 : v = 7
  · subst g7
    refine x_tswI (t := 116) (off := 115) i_37_1 (by decide +kernel) (by decide +kernel) (by decide) ?_
    refine x_aload_n i_37_116 rfl ?_
    refine x_gr i_37_117 ob_0 gr_0_0.1 gr_0_0.2 (rt_0_0 _) ?_
    refine n_iconst 0 i_37_120 rfl ?_
    refine x_vh (r := []) (lj := [some _, some _, none, none, none]) i_37_121 w_71 hb1.ob [_] rfl rfl (Nat.le_of_ble_eq_true rfl) (Nat.le_of_ble_eq_true rfl) rfl ?_
    refine c_71 hb1 r (by omega) (fun hq M1 r1 f1 => rt_i ?_)
    refine x_iret i_37_124 rn_37 rfl ?_
    exact k hq M1 r1 f1
  by_cases g8 : v = 8
  · subst g8
    refine x_tswI (t := 125) (off := 124) i_37_1 (by decide +kernel) (by decide +kernel) (by decide) ?_
    refine x_aload_n i_37_125 rfl ?_
    refine x_gr i_37_126 ob_0 gr_0_0.1 gr_0_0.2 (rt_0_0 _) ?_
    refine x_iload_n i_37_129 rfl ?_
    refine x_iload_n i_37_130 rfl ?_
    refine x_vh (r := []) (lj := [some _, some _, some _, none]) i_37_131 w_52 hb1.ob [_, _] rfl rfl (Nat.le_of_ble_eq_true rfl) (Nat.le_of_ble_eq_true rfl) rfl ?_
    refine c_52 hb1 r (by omega) (by omega) (fun hq M1 r1 f1 => rt_i ?_)
    refine x_iret i_37_134 rn_37 rfl ?_
    exact k hq M1 r1 f1
  have e9 : v = 9 := by omega
  subst e9
  refine x_tswO (t := 135) i_37_1 (by decide +kernel) (by decide) ?_
  refine x_aload_n i_37_135 rfl ?_
  refine x_gr i_37_136 ob_0 gr_0_0.1 gr_0_0.2 (rt_0_0 _) ?_
  refine n_iconst 4294967295 i_37_139 rfl ?_
  refine x_vh (r := []) (lj := [some _, some _, none, none, none, none, none]) i_37_140 w_82 hb1.ob [_] rfl rfl (Nat.le_of_ble_eq_true rfl) (Nat.le_of_ble_eq_true rfl) rfl ?_
  refine c_82 hb1 r (by omega) (fun hq M1 r1 f1 => rt_i ?_)
  refine x_iret i_37_143 rn_37 rfl ?_
  exact k hq M1 r1 f1

/-- the script's deeds lie in the class -/
def SD (M : a_Mm) (D : Nat) (P : HA) : Prop := M 141 3 = N D ∧ D ≤ 12 ∧ ∀ w, 1 ≤ w → w < 4 → ∀ i, i < 12 → M (141 + w) i = N (P w i)
def FK (M M' : a_Mm) : Prop := ∀ o k, (o < 1 ∨ 10 ≤ o) → ¬ (o = 141 ∧ k = 6) → M' o k = M o k
theorem dc_le {v s x : Nat} (r : RC M 1 n A) (hv : v < 10) (hs : s < 4294967296) (hx : x < 4294967296) : (dc n A v s x).1 < 4294967296 := by
  obtain ⟨f, w, h', -, h⟩ := c_37 (sc := (0, fun _ => 0)) (fd := 0) (Q := fun _ _ => (dc n A v s x).1 < 4294967296) r hv hs hx (fun hu M' r' f => by omega)
  exact h
theorem c_36_4 {D : Nat} (hK : ∀ i, i < D → P 1 i < 10) : ∀ d i {M : a_Mm} {A : HA} {l3 : Option Value}, D - i = d → i ≤ D → RC M 1 n A → SD M D P → M 141 6 = N 0 → FK M0 M → (∀ M', RC M' 1 n (dls n P d i A).2.2 → M' 141 6 = N (dls n P d i A).2.1 → FK M0 M' → Q (some (.int (N (dls n P d i A).1))) (a_hp sc fd M')) → a_Ex 36 4 [some (.ref 0), some (.int (N i)), some (.int (N i)), l3] [] (a_hp sc fd M) Q := by
  intro d
  induction d with
  | zero =>
    intro i M A l3 hd hi r s h6 fr k
    have e : D = i := by omega
    subst e
    have h12 := s.2.1
    refine x_iload_n i_36_4 rfl ?_
    refine x_aload_n i_36_5 rfl ?_
    refine x_gr i_36_6 ob_0 gr_0_7.1 gr_0_7.2 (rt_0_7 _) ?_
    refine n_gi (x := D) i_36_9 ob_141 gf_4_3.1 gf_4_3.2 s.1 ?_
    refine x_igeN (by omega) (by omega) i_36_12 ⟨fun g1 => ?_, fun g1 => ?_⟩
    · refine x_iload_n i_36_71 rfl ?_
      refine x_iret i_36_72 rn_36 rfl ?_
      exact k M r h6 fr
    · exact absurd (Nat.le_refl _) g1
  | succ d ih =>
    intro i M A l3 hd hi r s h6 fr k
    have h12 := s.2.1
    have hk := hK i (by omega)
    have e1 := s.2.2 1 (by omega) (by omega) i (by omega)
    have e2 := (s.2.2 2 (by omega) (by omega) i (by omega)).trans (N_mod _).symm
    have e3 := (s.2.2 3 (by omega) (by omega) i (by omega)).trans (N_mod _).symm
    have b2 : P 2 i % 4294967296 < 4294967296 := Nat.mod_lt _ (by omega)
    have b3 : P 3 i % 4294967296 < 4294967296 := Nat.mod_lt _ (by omega)
    unfold dls at k
    generalize P 2 i % 4294967296 = s2 at e2 b2 k
    generalize P 3 i % 4294967296 = s3 at e3 b3 k
    have hq := dc_le (n := n) (A := A) r hk b2 b3
    refine x_iload_n i_36_4 rfl ?_
    refine x_aload_n i_36_5 rfl ?_
    refine x_gr i_36_6 ob_0 gr_0_7.1 gr_0_7.2 (rt_0_7 _) ?_
    refine n_gi (x := D) i_36_9 ob_141 gf_4_3.1 gf_4_3.2 s.1 ?_
    refine x_igeN (by omega) (by omega) i_36_12 ⟨fun g1 => ?_, fun g1 => ?_⟩
    · exact absurd g1 (by omega)
    · refine x_aload_n i_36_15 rfl ?_
      refine x_aload_n i_36_16 rfl ?_
      refine x_gr i_36_17 ob_0 gr_0_7.1 gr_0_7.2 (rt_0_7 _) ?_
      refine x_gr i_36_20 ob_141 gr_4_0.1 gr_4_0.2 (rt_141_0 _) ?_
      refine x_iload_n i_36_23 rfl ?_
      refine n_ld (x := P 1 i) i_36_24 ar_142 (by omega) (by omega) e1 ?_
      refine x_aload_n i_36_25 rfl ?_
      refine x_gr i_36_26 ob_0 gr_0_7.1 gr_0_7.2 (rt_0_7 _) ?_
      refine x_gr i_36_29 ob_141 gr_4_1.1 gr_4_1.2 (rt_141_1 _) ?_
      refine x_iload_n i_36_32 rfl ?_
      refine n_ld (x := s2) i_36_33 ar_143 (by omega) (by omega) e2 ?_
      refine x_aload_n i_36_34 rfl ?_
      refine x_gr i_36_35 ob_0 gr_0_7.1 gr_0_7.2 (rt_0_7 _) ?_
      refine x_gr i_36_38 ob_141 gr_4_2.1 gr_4_2.2 (rt_141_2 _) ?_
      refine x_iload_n i_36_41 rfl ?_
      refine n_ld (x := s3) i_36_42 ar_144 (by omega) (by omega) e3 ?_
      refine x_vh (r := []) (lj := [some _, some _, some _, some _]) i_36_43 w_37 ob_0 [_, _, _] rfl rfl (Nat.le_of_ble_eq_true rfl) (Nat.le_of_ble_eq_true rfl) rfl ?_
      refine c_37 r hk b2 b3 (fun _ M1 r1 f1 => rt_i ?_)
      have fr1 : FK M0 M1 := fun o j h1 h2 => (f1 o j h1).trans (fr o j h1 h2)
      generalize dc n A (P 1 i) s2 s3 = q at hq r1 k ⊢
      refine x_istore_n i_36_46 rfl rfl ?_
      refine x_iload_n i_36_47 rfl ?_
      refine n_zgeU hq i_36_48 ⟨fun g2 => ?_, fun g2 => ?_⟩
      · rw [if_pos (by omega)] at k
        refine n_iinc 1 i_36_62 rfl rfl rfl rfl ?_
        refine n_iinc 1 i_36_65 rfl rfl rfl rfl ?_
        refine x_goto i_36_68 ?_
        exact ih (i + 1) (by omega) (by omega) r1 ⟨(f1 _ _ (by omega)).trans s.1, s.2.1, fun w w1 w2 j hj => (f1 _ _ (by omega)).trans (s.2.2 w w1 w2 j hj)⟩ ((f1 _ _ (by omega)).trans h6) fr1 k
      · rw [if_neg (by omega)] at k
        refine x_aload_n i_36_51 rfl ?_
        refine x_gr i_36_52 ob_0 gr_0_7.1 gr_0_7.2 (rt_0_7 _) ?_
        refine x_iload_n i_36_55 rfl ?_
        refine x_pi i_36_56 ob_141 pf_4_6.1 pf_4_6.2 ?_
        refine x_goto i_36_59 ?_
        refine x_iload_n i_36_71 rfl ?_
        refine x_iret i_36_72 rn_36 rfl ?_
        exact k _ (r1.same (fun o j h1 h2 => by rw [a_up_def, if_neg (by omega)])) (by rw [a_up_def, if_pos ⟨rfl, rfl⟩]) (fun o j h1 h2 => by rw [a_up_def, if_neg h2]; exact fr1 o j h1 h2)
theorem c_36 {D : Nat} (hK : ∀ i, i < D → P 1 i < 10) (r : RC M 1 n A) (s : SD M D P) (h6 : M 141 6 = N 0) (k : ∀ M', RC M' 1 n (dls n P D 0 A).2.2 → M' 141 6 = N (dls n P D 0 A).2.1 → FK M M' → Q (some (.int (N (dls n P D 0 A).1))) (a_hp sc fd M')) : a_Ex 36 0 [some (.ref 0), none, none, none] [] (a_hp sc fd M) Q := by
  refine n_iconst 0 i_36_0 rfl ?_
  refine x_istore_n i_36_1 rfl rfl ?_
  refine n_iconst 0 i_36_2 rfl ?_
  refine x_istore_n i_36_3 rfl rfl ?_
  exact c_36_4 hK D 0 rfl (by omega) r s h6 (fun _ _ _ _ => rfl) k
/-- a text at its beginning -/
def P0 (P : HA) : Prop := P 0 0 = 0 ∧ P 0 1 = 0 ∧ P 0 2 = 4294967295 ∧ P 0 3 = 0
theorem c_109 {f l1 : Nat} {T : Nat → Nat} (t : TC M f T) (hT : ∀ k, k < f → T k < 256) (h1 : l1 ≤ f) (k : ∀ M' P, P0 P → CS M' l1 T (rds T l1 13 P) → M' 141 6 = N 0 → (∀ o k, ¬ o = 141 → ¬ (142 ≤ o ∧ o ≤ 145) → M' o k = M o k) → Q none (a_hp sc fd M')) : a_Ex 109 0 [some (.ref 141), some (.ref 140), some (.int (N l1)), none] [] (a_hp sc fd M) Q := by
  have h2 := t.1
  have ec : (N l1).toNatClampNeg = l1 := N_toNat (by omega)
  refine x_aload_n i_109_0 rfl ?_
  refine n_iconst 0 i_109_1 rfl ?_
  refine x_aload_n i_109_2 rfl ?_
  refine x_gr i_109_3 ob_141 gr_4_7.1 gr_4_7.2 (rt_141_7 _) ?_
  refine n_iconst 0 i_109_6 rfl ?_
  refine x_iload_n i_109_7 rfl ?_
  refine x_cpy' i_109_8 ar_140 ar_145 (by decide) (by unfold a_cpyOk; rw [ec, show (N 0).toNatClampNeg = 0 from rfl]; refine ⟨by decide, by decide, ?_, by omega, by omega⟩; rw [N_lt0 (by omega)]; omega) (Nat.le_of_ble_eq_true rfl) ?_
  rw [ec, show (N 0).toNatClampNeg = 0 from rfl]
  have g1 : ∀ k, k < l1 → a_row M 145 (va_cpy (M 140) (M 145) 0 0 l1) 145 k = sx (T k) := fun k hk => by
    unfold a_row va_cpy
    rw [if_pos rfl, if_pos (by omega), show 0 + (k - 0) = k by omega]
    exact t.2.2 k (by omega)
  have g2 : ∀ o k, ¬ o = 145 → a_row M 145 (va_cpy (M 140) (M 145) 0 0 l1) o k = M o k := fun o k h => by unfold a_row; rw [if_neg h]
  generalize a_row M 145 (va_cpy (M 140) (M 145) 0 0 l1) = M1 at g1 g2 ⊢
  refine x_aload_n i_109_11 rfl ?_
  refine x_iload_n i_109_12 rfl ?_
  refine x_pi i_109_13 ob_141 pf_4_8.1 pf_4_8.2 ?_
  refine x_aload_n i_109_16 rfl ?_
  refine n_iconst 0 i_109_17 rfl ?_
  refine x_pi i_109_18 ob_141 pf_4_9.1 pf_4_9.2 ?_
  refine x_aload_n i_109_21 rfl ?_
  refine n_iconst 0 i_109_22 rfl ?_
  refine x_pi i_109_23 ob_141 pf_4_3.1 pf_4_3.2 ?_
  refine x_aload_n i_109_26 rfl ?_
  refine n_iconst 0 i_109_27 rfl ?_
  refine x_pi i_109_28 ob_141 pf_4_4.1 pf_4_4.2 ?_
  refine x_aload_n i_109_31 rfl ?_
  refine n_iconst 4294967295 i_109_32 rfl ?_
  refine x_pi i_109_33 ob_141 pf_4_5.1 pf_4_5.2 ?_
  refine x_aload_n i_109_36 rfl ?_
  refine n_iconst 0 i_109_37 rfl ?_
  refine x_pi i_109_38 ob_141 pf_4_6.1 pf_4_6.2 ?_
  refine n_iconst 0 i_109_41 rfl ?_
  refine x_istore_n i_109_42 rfl rfl ?_
  have c0 : CS (a_up (a_up (a_up (a_up (a_up (a_up M1 141 8 (N l1)) 141 9 (N 0)) 141 3 (N 0)) 141 4 (N 0)) 141 5 (N 4294967295)) 141 6 (N 0)) l1 T (fun w i => if w = 0 then (if i = 2 then 4294967295 else 0) else (M (141 + w) i).toBitVec.toNat) := by
    refine ⟨⟨by omega, Nat.zero_le _, Nat.zero_le _, Nat.zero_le _⟩, ⟨?_, ?_, ?_, ?_, ?_⟩, fun k hk => ⟨hT k (by omega), ?_⟩, fun w w1 w2 i hi => ?_⟩
    · rw [a_up_def, if_neg (by omega), a_up_def, if_neg (by omega), a_up_def, if_neg (by omega), a_up_def, if_neg (by omega), a_up_def, if_neg (by omega), a_up_def, if_pos ⟨rfl, rfl⟩]
    · rw [a_up_def, if_neg (by omega), a_up_def, if_neg (by omega), a_up_def, if_neg (by omega), a_up_def, if_neg (by omega), a_up_def, if_pos ⟨rfl, rfl⟩]; rfl
    · rw [a_up_def, if_neg (by omega), a_up_def, if_neg (by omega), a_up_def, if_pos ⟨rfl, rfl⟩]; rfl
    · rw [a_up_def, if_neg (by omega), a_up_def, if_pos ⟨rfl, rfl⟩]; rfl
    · rw [a_up_def, if_neg (by omega), a_up_def, if_neg (by omega), a_up_def, if_neg (by omega), a_up_def, if_pos ⟨rfl, rfl⟩]; rfl
    · rw [a_up_def, if_neg (by omega), a_up_def, if_neg (by omega), a_up_def, if_neg (by omega), a_up_def, if_neg (by omega), a_up_def, if_neg (by omega), a_up_def, if_neg (by omega)]; exact g1 k hk
    · rw [a_up_def, if_neg (by omega), a_up_def, if_neg (by omega), a_up_def, if_neg (by omega), a_up_def, if_neg (by omega), a_up_def, if_neg (by omega), a_up_def, if_neg (by omega)]
      dsimp only
      rw [if_neg (by omega), N_nat]; exact g2 _ _ (by omega)
  have h6 : (a_up (a_up (a_up (a_up (a_up (a_up M1 141 8 (N l1)) 141 9 (N 0)) 141 3 (N 0)) 141 4 (N 0)) 141 5 (N 4294967295)) 141 6 (N 0)) 141 6 = N 0 := by rw [a_up_def, if_pos ⟨rfl, rfl⟩]
  have fr : ∀ o k, ¬ o = 141 → ¬ (142 ≤ o ∧ o ≤ 145) → (a_up (a_up (a_up (a_up (a_up (a_up M1 141 8 (N l1)) 141 9 (N 0)) 141 3 (N 0)) 141 4 (N 0)) 141 5 (N 4294967295)) 141 6 (N 0)) o k = M o k := fun o k a b => by
    rw [a_up_def, if_neg (by omega), a_up_def, if_neg (by omega), a_up_def, if_neg (by omega), a_up_def, if_neg (by omega), a_up_def, if_neg (by omega), a_up_def, if_neg (by omega)]; exact g2 _ _ (by omega)
  generalize a_up (a_up (a_up (a_up (a_up (a_up M1 141 8 (N l1)) 141 9 (N 0)) 141 3 (N 0)) 141 4 (N 0)) 141 5 (N 4294967295)) 141 6 (N 0) = M2 at c0 h6 fr ⊢
  refine c_109_43 13 0 rfl (by omega) c0 (fun M3 c3 f3 => k M3 _ ⟨rfl, rfl, rfl, rfl⟩ c3 ((f3 _ _ (by omega) (by omega)).trans h6) (fun o j a b => (f3 o j (by omega) (by omega)).trans (fr o j a b)))
def FZ (M M' : a_Mm) : Prop := ∀ o k, ¬ (o = 0 ∧ k = 6) → (o = 0 ∨ (10 ≤ o ∧ o < 19) ∨ (120 ≤ o ∧ o < 141) ∨ 146 ≤ o) → M' o k = M o k
theorem kdi {T : Nat → Nat} : ∀ d (P : HA), (∀ i, i < P 0 3 → P 1 i < 10) → P 0 3 ≤ 12 → ∀ i, i < rds T n d P 0 3 → rds T n d P 1 i < 10 := by
  intro d
  induction d with
  | zero => intro P h _; exact h
  | succ d ih =>
    intro P h h12
    rw [rds_1]
    split
    · rename_i g
      obtain ⟨-, m2, m3⟩ := cmpd (T := T) (n := n) g.2 h12
      by_cases z : ded T n P 0 1 = 0
      · obtain ⟨p1, p2, p3, -⟩ := m2 z
        have hc := ded_c (T := T) (n := n) (P := P) h12
        refine ih _ (fun i hi => ?_) (by omega)
        rw [p1] at hi
        by_cases e : i = P 0 3
        · rw [e, p2]; exact p3
        · rw [ded_o (by omega) e]; exact h i (by omega)
      · have p1 := m3 z
        refine ih _ (fun i hi => ?_) (by omega)
        rw [p1] at hi
        rw [ded_o (by omega) (by omega)]; exact h i hi
    · exact h
theorem dls_le : ∀ d i (A : HA), (dls n P d i A).1 ≤ i + d := by
  intro d
  induction d with
  | zero => intro i A; exact Nat.le_refl _
  | succ d ih =>
    intro i A
    unfold dls
    split
    · exact Nat.le_trans (ih _ _) (by omega)
    · exact Nat.le_add_right _ _
theorem d_35 {f l1 : Nat} {T : Nat → Nat} (r : RC M 1 n A) (p : PS M nx sz U) (t : TC M f T) (hT : ∀ k, k < f → T k < 256) (h1 : l1 < 4294967296) (k0 : ¬ l1 ≤ f → Q (some (.int (N 4294967293))) (a_hp sc fd M))
  (k1 : l1 ≤ f → ∀ M' P, P0 P → rds T l1 13 P 0 1 ≤ 3 → ¬ rds T l1 13 P 0 1 = 0 → RC M' 1 n A → PS M' nx sz U → M' 0 6 = N 0 → M' 141 4 = N (rds T l1 13 P 0 1) → M' 141 5 = N (rds T l1 13 P 0 2) → M' 141 6 = N 0 → FZ M M' → Q (some (.int (N (4294967266 - rds T l1 13 P 0 1)))) (a_hp sc fd M'))
  (k2 : l1 ≤ f → ∀ M' P, P0 P → rds T l1 13 P 0 1 = 0 → rds T l1 13 P 0 3 ≤ 12 → RC M' 1 n (dls n (rds T l1 13 P) (rds T l1 13 P 0 3) 0 A).2.2 → (if (dls n (rds T l1 13 P) (rds T l1 13 P 0 3) 0 A).1 = 0 then PS M' nx sz U else PS M' ((nx + 1) % 11) (pss sz) (psh U sz (n, A))) → M' 0 6 = N 0 → M' 141 4 = N 0 → M' 141 5 = N (rds T l1 13 P 0 2) → M' 141 6 = N (dls n (rds T l1 13 P) (rds T l1 13 P 0 3) 0 A).2.1 → FZ M M' → Q (some (.int (N (dls n (rds T l1 13 P) (rds T l1 13 P 0 3) 0 A).1))) (a_hp sc fd M')) : a_Ex 35 0 [some (.ref 0), some (.int (N l1)), none] [] (a_hp sc fd M) Q := by
  have h2 := t.1
  have no : ¬ l1 ≤ f → a_Ex 35 12 [some (.ref 0), some (.int (N l1)), none] [] (a_hp sc fd M) Q := fun g => by
    have k0 := k0 g
    refine n_bipush 4294967293 i_35_12 rfl ?_
    refine x_iret i_35_14 rn_35 rfl ?_
    exact k0
  refine x_iload_n i_35_0 rfl ?_
  refine n_zltU h1 i_35_1 ⟨fun g => no (by omega), fun g1 => ?_⟩
  refine x_iload_n i_35_4 rfl ?_
  refine x_aload_n i_35_5 rfl ?_
  refine n_gi (x := f) i_35_6 ob_0 gf_0_6.1 gf_0_6.2 t.2.1 ?_
  refine x_ileN (by omega) (by omega) i_35_9 ⟨fun g1 => ?_, fun g1 => ?_⟩
  · have k1 := k1 g1
    have k2 := k2 g1
    have hl : l1 ≤ f := g1
    refine x_aload_n i_35_15 rfl ?_
    refine x_gr i_35_16 ob_0 gr_0_7.1 gr_0_7.2 (rt_0_7 _) ?_
    refine x_aload_n i_35_19 rfl ?_
    refine x_gr i_35_20 ob_0 gr_0_5.1 gr_0_5.2 (rt_0_5 _) ?_
    refine x_iload_n i_35_23 rfl ?_
    refine x_vh (r := []) (lj := [some _, some _, some _, none]) i_35_24 w_109 ob_141 [_, _] rfl rfl (Nat.le_of_ble_eq_true rfl) (Nat.le_of_ble_eq_true rfl) rfl ?_
    refine c_109 t hT hl (fun M1 P p0 c1 h6 fr1 => rt_n ?_)
    have k1 := fun M' => k1 M' P p0 c1.f3
    have k2 := fun M' => k2 M' P p0
    have hK : ∀ i, i < rds T l1 13 P 0 3 → rds T l1 13 P 1 i < 10 := kdi 13 P (fun i hi => absurd hi (by rw [p0.2.2.2]; omega)) (by rw [p0.2.2.2]; omega)
    generalize rds T l1 13 P = R at c1 k1 k2 hK ⊢
    have hf3 := c1.f3
    refine x_aload_n i_35_27 rfl ?_
    refine n_iconst 0 i_35_28 rfl ?_
    refine x_pi i_35_29 ob_0 pf_0_6.1 pf_0_6.2 ?_
    have fr2 : ∀ o k, ¬ (o = 0 ∧ k = 6) → a_up M1 0 6 (N 0) o k = M1 o k := fun o k h => by rw [a_up_def, if_neg h]
    have h06 : a_up M1 0 6 (N 0) 0 6 = N 0 := by rw [a_up_def, if_pos ⟨rfl, rfl⟩]
    generalize a_up M1 0 6 (N 0) = M2 at fr2 h06 ⊢
    have r2 : RC M2 1 n A := r.same (fun o k q1 q2 => (fr2 o k (by omega)).trans (fr1 o k (by omega) (by omega)))
    have p2 : PS M2 nx sz U := p.same (fun o k q1 q2 => (fr2 o k (by omega)).trans (fr1 o k (by omega) (by omega)))
    have fz2 : FZ M M2 := fun o k a b => (fr2 o k a).trans (fr1 o k (by omega) (by omega))
    have e4 : M2 141 4 = N (R 0 1) := (fr2 _ _ (by omega)).trans c1.hft
    have e5 : M2 141 5 = N (R 0 2) := (fr2 _ _ (by omega)).trans c1.hpl
    have e6 : M2 141 6 = N 0 := (fr2 _ _ (by omega)).trans h6
    have sd : SD M2 (R 0 3) R := ⟨(fr2 _ _ (by omega)).trans c1.hdd, c1.d12, fun w w1 w2 i hi => (fr2 _ _ (by omega)).trans (c1.2.2.2 w w1 w2 i hi)⟩
    refine x_aload_n i_35_32 rfl ?_
    refine x_gr i_35_33 ob_0 gr_0_7.1 gr_0_7.2 (rt_0_7 _) ?_
    refine n_gi (x := R 0 1) i_35_36 ob_141 gf_4_4.1 gf_4_4.2 e4 ?_
    refine x_zeqN (by omega) i_35_39 ⟨fun g2 => ?_, fun g2 => ?_⟩
    · refine x_aload_n i_35_53 rfl ?_
      refine x_gr i_35_54 ob_0 gr_0_2.1 gr_0_2.2 (rt_0_2 _) ?_
      refine x_aload_n i_35_57 rfl ?_
      refine x_gr i_35_58 ob_0 gr_0_0.1 gr_0_0.2 (rt_0_0 _) ?_
      refine x_vh (r := []) (lj := [some _, some _]) i_35_61 w_105 ob_19 [_] rfl rfl (Nat.le_of_ble_eq_true rfl) (Nat.le_of_ble_eq_true rfl) rfl ?_
      have k2 := fun M' => k2 M' g2 c1.d12
      refine c_105 r2 p2 (fun M3 r3 p3 s3 f3 => rt_n ?_)
      refine x_aload_n i_35_64 rfl ?_
      refine x_vh (r := []) (lj := [some _, none, none, none]) i_35_65 w_36 ob_0 [] rfl rfl (Nat.le_of_ble_eq_true rfl) (Nat.le_of_ble_eq_true rfl) rfl ?_
      refine c_36 hK r3 (show SD M3 (R 0 3) R from ⟨(f3 _ _ (by omega)).trans sd.1, sd.2.1, fun w w1 w2 i hi => (f3 _ _ (by omega)).trans (sd.2.2 w w1 w2 i hi)⟩) ((f3 _ _ (by omega)).trans e6) (fun M4 r4 h4 f4 => rt_i ?_)
      have hle : (dls n R (R 0 3) 0 A).1 ≤ 12 := Nat.le_trans (dls_le _ _ _) (by have := c1.d12; omega)
      generalize dls n R (R 0 3) 0 A = q at r4 h4 hle k2 ⊢
      have e44 : M4 141 4 = N 0 := (f4 _ _ (by omega) (by omega)).trans ((f3 _ _ (by omega)).trans (e4.trans (by rw [g2])))
      have e45 : M4 141 5 = N (R 0 2) := (f4 _ _ (by omega) (by omega)).trans ((f3 _ _ (by omega)).trans e5)
      have p4 : PS M4 nx sz U := p3.same (fun o k q1 q2 => f4 o k (by omega) (by omega))
      have s4 : ∃ B, EQ B A ∧ RC M4 (21 + 9 * nx) n B := by
        obtain ⟨C, c2, c3⟩ := s3
        exact ⟨C, c2, c3.same (fun o k q1 q2 => f4 o k (by omega) (by have := p3.2.2.1; omega))⟩
      have h406 : M4 0 6 = N 0 := (f4 _ _ (by omega) (by omega)).trans ((f3 _ _ (by omega)).trans h06)
      have fz4 : FZ M M4 := fun o k a b => (f4 o k (by omega) (by omega)).trans ((f3 o k (by omega)).trans (fz2 o k a b))
      refine x_istore_n i_35_68 rfl rfl ?_
      refine x_iload_n i_35_69 rfl ?_
      refine x_zleN (by omega) i_35_70 ⟨fun g3 => ?_, fun g3 => ?_⟩
      · have q0 : q.1 = 0 := by omega
        refine x_iload_n i_35_82 rfl ?_
        refine x_iret i_35_83 rn_35 rfl ?_
        first | exact k2 M4 r4 (by rw [if_pos q0]; exact p4) h406 e44 e45 h4 fz4 | exact k2 M5 (r4.same (fun o k q1 q2 => f5 o k (by omega))) (by rw [if_neg q0]; exact p5) ((f5 _ _ (by omega)).trans h406) ((f5 _ _ (by omega)).trans e44) ((f5 _ _ (by omega)).trans e45) ((f5 _ _ (by omega)).trans h4) (fun o k a b => (f5 o k (by omega)).trans (fz4 o k a b))
      · have q0 : ¬ q.1 = 0 := by omega
        refine x_aload_n i_35_73 rfl ?_
        refine x_gr i_35_74 ob_0 gr_0_2.1 gr_0_2.2 (rt_0_2 _) ?_
        refine x_iload_n i_35_77 rfl ?_
        refine x_vh (r := []) (lj := [some _, some _]) i_35_78 w_106 ob_19 [_] rfl rfl (Nat.le_of_ble_eq_true rfl) (Nat.le_of_ble_eq_true rfl) rfl ?_
        refine c_106 (n := n) (A := A) (by omega) p4 s4 (fun M5 p5 f5 => rt_i ?_)
        rw [if_pos (by omega)] at p5
        refine x_pop i_35_81 rfl ?_
        refine x_iload_n i_35_82 rfl ?_
        refine x_iret i_35_83 rn_35 rfl ?_
        first | exact k2 M4 r4 (by rw [if_pos q0]; exact p4) h406 e44 e45 h4 fz4 | exact k2 M5 (r4.same (fun o k q1 q2 => f5 o k (by omega))) (by rw [if_neg q0]; exact p5) ((f5 _ _ (by omega)).trans h406) ((f5 _ _ (by omega)).trans e44) ((f5 _ _ (by omega)).trans e45) ((f5 _ _ (by omega)).trans h4) (fun o k a b => (f5 o k (by omega)).trans (fz4 o k a b))
    · refine n_bipush 4294967266 i_35_42 rfl ?_
      refine x_aload_n i_35_44 rfl ?_
      refine x_gr i_35_45 ob_0 gr_0_7.1 gr_0_7.2 (rt_0_7 _) ?_
      refine n_gi (x := R 0 1) i_35_48 ob_141 gf_4_4.1 gf_4_4.2 e4 ?_
      refine x_isubN (by omega) i_35_51 ?_
      refine x_iret i_35_52 rn_35 rfl ?_
      exact k1 M2 g2 r2 p2 h06 e4 e5 e6 fz2
  · exact no g1
end DDS
