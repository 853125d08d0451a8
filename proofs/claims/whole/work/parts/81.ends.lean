/-! counting; ends, years: on paper -/
def s_68 (n : Nat) (A : HA) : Nat :=
  s_69 n A 1
theorem c_68 {sc : a_Sc} {fd : Nat} {M : a_Mm} {A : HA} {Q : Option Value → a_Hp → Prop} {b n : Nat} (hb : HB b) (r : RC M b n A) (k : KP 31 Q (a_hp sc fd M) (s_68 n A)) : a_Ex 68 0 [some (.ref b)] [] (a_hp sc fd M) Q := by
  unfold s_68 at k
  have n5 := r.n5
  have n2 := r.n2
  refine x_aload_n i_68_0 rfl ?_
  refine n_iconst 1 i_68_1 rfl ?_
  refine x_vh (r := []) (lj := [some _, some _, none, none]) i_68_2 w_69 hb.ob [_] rfl rfl (Nat.le_of_ble_eq_true rfl) (Nat.le_of_ble_eq_true rfl) rfl ?_
  refine c_69 hb r (by omega)  (fun q1 => rt_i ?_)
  refine x_iret i_68_5 rn_68 rfl ?_
  exact k (show s_69 n A 1 ≤ 31 by omega)
def s_73 (n : Nat) (A : HA) (l1 : Nat) : Nat :=
  (s_68 n A) &&& (s_74 n A l1)
theorem c_73 {sc : a_Sc} {fd : Nat} {M : a_Mm} {A : HA} {Q : Option Value → a_Hp → Prop} {b n : Nat} (hb : HB b) (r : RC M b n A) {l1 : Nat} (hl1 : l1 ≤ 4) (k : KP 31 Q (a_hp sc fd M) (s_73 n A l1)) : a_Ex 73 0 [some (.ref b), some (.int (N l1))] [] (a_hp sc fd M) Q := by
  unfold s_73 at k
  have n5 := r.n5
  have n2 := r.n2
  refine x_aload_n i_73_0 rfl ?_
  refine x_vh (r := []) (lj := [some _]) i_73_1 w_68 hb.ob [] rfl rfl (Nat.le_of_ble_eq_true rfl) (Nat.le_of_ble_eq_true rfl) rfl ?_
  refine c_68 hb r   (fun q1 => rt_i ?_)
  refine x_aload_n i_73_4 rfl ?_
  refine x_iload_n i_73_5 rfl ?_
  refine x_vh (r := [_]) (lj := [some _, some _, none, none]) i_73_6 w_74 hb.ob [_] rfl rfl (Nat.le_of_ble_eq_true rfl) (Nat.le_of_ble_eq_true rfl) rfl ?_
  refine c_74 hb r (by omega)  (fun q2 => rt_i ?_)
  refine x_iandN i_73_9 ?_
  have q3 : (s_68 n A) &&& (s_74 n A l1) ≤ 31 := Nat.le_trans Nat.and_le_left (by omega)
  have q4 : (s_68 n A) &&& (s_74 n A l1) ≤ (s_68 n A) := Nat.and_le_left
  refine x_iret i_73_10 rn_73 rfl ?_
  exact k (show (s_68 n A) &&& (s_74 n A l1) ≤ 31 by omega)
def cnt (n : Nat) (A : HA) (sz fed l : Nat) : Nat := if l = 0 then n else if l = 1 then A 6 1 else if l = 2 then A 6 2 else if l = 3 then A 6 3 else if l = 4 then A 6 4 else if l = 5 then s_49 n A (ev n) else if l = 6 then sz else if l = 7 then fed else 4294967295
section CNT
variable {sc : a_Sc} {fd : Nat} {M : a_Mm} {A B : HA} {Q : Option Value → a_Hp → Prop} {n nx sz fed : Nat} {U : Nat → Nat × HA}
theorem d_44 (r : RC M 1 n A) (h2 : M 19 2 = N sz) (h6 : M 0 6 = N fed) {l1 : Nat} (h1 : l1 < 4294967296) (k : Q (some (.int (N (cnt n A sz fed l1)))) (a_hp sc fd M)) : a_Ex 44 0 [some (.ref 0), some (.int (N l1))] [] (a_hp sc fd M) Q := by
  unfold cnt at k
  refine x_iload_n i_44_0 rfl ?_
  by_cases g0 : l1 = 0
  · rw [if_pos g0] at k
    refine x_tswI (t := 48) (off := 47) i_44_1 (by rw [g0]; decide +kernel) (by rw [g0]; decide +kernel) (by decide) ?_
    refine x_aload_n i_44_48 rfl ?_
    refine x_gr i_44_49 ob_0 gr_0_0.1 gr_0_0.2 (rt_0_0 _) ?_
    refine n_gi i_44_52 hb1.ob gf_1_0.1 gf_1_0.2 r.nn ?_
    refine x_iret i_44_55 rn_44 rfl ?_
    exact k
  rw [if_neg g0] at k
  by_cases g1 : l1 = 1
  · rw [if_pos g1] at k
    refine x_tswI (t := 56) (off := 55) i_44_1 (by rw [g1]; decide +kernel) (by rw [g1]; decide +kernel) (by decide) ?_
    refine x_aload_n i_44_56 rfl ?_
    refine x_gr i_44_57 ob_0 gr_0_0.1 gr_0_0.2 (rt_0_0 _) ?_
    refine n_gi i_44_60 hb1.ob gf_1_1.1 gf_1_1.2 r.f1 ?_
    refine x_iret i_44_63 rn_44 rfl ?_
    exact k
  rw [if_neg g1] at k
  by_cases g2 : l1 = 2
  · rw [if_pos g2] at k
    refine x_tswI (t := 64) (off := 63) i_44_1 (by rw [g2]; decide +kernel) (by rw [g2]; decide +kernel) (by decide) ?_
    refine x_aload_n i_44_64 rfl ?_
    refine x_gr i_44_65 ob_0 gr_0_0.1 gr_0_0.2 (rt_0_0 _) ?_
    refine n_gi i_44_68 hb1.ob gf_1_2.1 gf_1_2.2 r.f2 ?_
    refine x_iret i_44_71 rn_44 rfl ?_
    exact k
  rw [if_neg g2] at k
  by_cases g3 : l1 = 3
  · rw [if_pos g3] at k
    refine x_tswI (t := 72) (off := 71) i_44_1 (by rw [g3]; decide +kernel) (by rw [g3]; decide +kernel) (by decide) ?_
    refine x_aload_n i_44_72 rfl ?_
    refine x_gr i_44_73 ob_0 gr_0_0.1 gr_0_0.2 (rt_0_0 _) ?_
    refine n_gi i_44_76 hb1.ob gf_1_3.1 gf_1_3.2 r.f3 ?_
    refine x_iret i_44_79 rn_44 rfl ?_
    exact k
  rw [if_neg g3] at k
  by_cases g4 : l1 = 4
  · rw [if_pos g4] at k
    refine x_tswI (t := 80) (off := 79) i_44_1 (by rw [g4]; decide +kernel) (by rw [g4]; decide +kernel) (by decide) ?_
    refine x_aload_n i_44_80 rfl ?_
    refine x_gr i_44_81 ob_0 gr_0_0.1 gr_0_0.2 (rt_0_0 _) ?_
    refine n_gi i_44_84 hb1.ob gf_1_4.1 gf_1_4.2 r.f4 ?_
    refine x_iret i_44_87 rn_44 rfl ?_
    exact k
  rw [if_neg g4] at k
  by_cases g5 : l1 = 5
  · rw [if_pos g5] at k
    refine x_tswI (t := 88) (off := 87) i_44_1 (by rw [g5]; decide +kernel) (by rw [g5]; decide +kernel) (by decide) ?_
    refine x_aload_n i_44_88 rfl ?_
    refine x_gr i_44_89 ob_0 gr_0_0.1 gr_0_0.2 (rt_0_0 _) ?_
    refine x_aload_n i_44_92 rfl ?_
    refine x_gr i_44_93 ob_0 gr_0_0.1 gr_0_0.2 (rt_0_0 _) ?_
    refine x_vh (r := [_]) (lj := [some _]) i_44_96 w_47 hb1.ob [] rfl rfl (Nat.le_of_ble_eq_true rfl) (Nat.le_of_ble_eq_true rfl) rfl ?_
    refine c_47 hb1 r (fun q47 => rt_i ?_)
    refine x_vh (r := []) (lj := [some _, some _, none, none]) i_44_99 w_49 hb1.ob [_] rfl rfl (Nat.le_of_ble_eq_true rfl) (Nat.le_of_ble_eq_true rfl) rfl ?_
    refine c_49 hb1 r (by omega) (fun _ => rt_i ?_)
    refine x_iret i_44_102 rn_44 rfl ?_
    exact k
  rw [if_neg g5] at k
  by_cases g6 : l1 = 6
  · rw [if_pos g6] at k
    refine x_tswI (t := 103) (off := 102) i_44_1 (by rw [g6]; decide +kernel) (by rw [g6]; decide +kernel) (by decide) ?_
    refine x_aload_n i_44_103 rfl ?_
    refine x_gr i_44_104 ob_0 gr_0_2.1 gr_0_2.2 (rt_0_2 _) ?_
    refine n_gi i_44_107 ob_19 gf_3_2.1 gf_3_2.2 h2 ?_
    refine x_iret i_44_110 rn_44 rfl ?_
    exact k
  rw [if_neg g6] at k
  by_cases g7 : l1 = 7
  · rw [if_pos g7] at k
    refine x_tswI (t := 111) (off := 110) i_44_1 (by rw [g7]; decide +kernel) (by rw [g7]; decide +kernel) (by decide) ?_
    refine x_aload_n i_44_111 rfl ?_
    refine n_gi i_44_112 ob_0 gf_0_6.1 gf_0_6.2 h6 ?_
    refine x_iret i_44_115 rn_44 rfl ?_
    exact k
  rw [if_neg g7] at k
  refine x_tswO (t := 116) i_44_1 (n_tswO (lo := 0) (hi := 7) (by omega) (by omega)) (by decide) ?_
  refine n_iconst 4294967295 i_44_116 rfl ?_
  refine x_iret i_44_117 rn_44 rfl ?_
  exact k
theorem e_261 (r : RM M n B) (h5 : M 170 5 = N sz) (h18 : M 170 18 = N fed) {l1 : Nat} (h1 : l1 < 4294967296) (k : ∀ M', RM M' n (a_up B 9 0 0) → FM M M' → Q (some (.int (N (cnt n (a_up B 9 0 0) sz fed l1)))) (a_hp sc fd M')) : a_Ex 261 0 [some (.ref 170), some (.int (N l1))] [] (a_hp sc fd M) Q := by
  unfold cnt at k
  refine x_aload_n i_261_0 rfl ?_
  refine n_iconst 0 i_261_1 rfl ?_
  refine n_pM i_261_2 r pf_8_0 (by omega) (fun M0 r0 f0 => ?_)
  refine x_iload_n i_261_5 rfl ?_
  have k := k M0 r0 f0
  rw [show s_49 n (a_up B 9 0 0) (ev n) = s_160 n (a_up B 9 0 0) (ev n) from (x49 (EQ.refl _) _).symm] at k
  by_cases g0 : l1 = 0
  · rw [if_pos g0] at k
    refine x_tswI (t := 52) (off := 46) i_261_6 (by rw [g0]; decide +kernel) (by rw [g0]; decide +kernel) (by decide) ?_
    refine x_aload_n i_261_52 rfl ?_
    refine x_gr i_261_53 ob_170 gr_8_1.1 gr_8_1.2 (rt_170_1 _) ?_
    refine n_iconst 0 i_261_56 rfl ?_
    refine n_ld i_261_57 ar_171 (by omega) (by omega) r0.nn ?_
    refine x_iret i_261_58 rn_261 rfl ?_
    exact k
  rw [if_neg g0] at k
  by_cases g1 : l1 = 1
  · rw [if_pos g1] at k
    refine x_tswI (t := 59) (off := 53) i_261_6 (by rw [g1]; decide +kernel) (by rw [g1]; decide +kernel) (by decide) ?_
    refine x_aload_n i_261_59 rfl ?_
    refine x_gr i_261_60 ob_170 gr_8_1.1 gr_8_1.2 (rt_170_1 _) ?_
    refine n_iconst 1 i_261_63 rfl ?_
    refine n_ld i_261_64 ar_171 (by omega) (by omega) r0.f1 ?_
    refine x_iret i_261_65 rn_261 rfl ?_
    exact k
  rw [if_neg g1] at k
  by_cases g2 : l1 = 2
  · rw [if_pos g2] at k
    refine x_tswI (t := 66) (off := 60) i_261_6 (by rw [g2]; decide +kernel) (by rw [g2]; decide +kernel) (by decide) ?_
    refine x_aload_n i_261_66 rfl ?_
    refine x_gr i_261_67 ob_170 gr_8_1.1 gr_8_1.2 (rt_170_1 _) ?_
    refine n_iconst 2 i_261_70 rfl ?_
    refine n_ld i_261_71 ar_171 (by omega) (by omega) r0.f2 ?_
    refine x_iret i_261_72 rn_261 rfl ?_
    exact k
  rw [if_neg g2] at k
  by_cases g3 : l1 = 3
  · rw [if_pos g3] at k
    refine x_tswI (t := 73) (off := 67) i_261_6 (by rw [g3]; decide +kernel) (by rw [g3]; decide +kernel) (by decide) ?_
    refine x_aload_n i_261_73 rfl ?_
    refine x_gr i_261_74 ob_170 gr_8_1.1 gr_8_1.2 (rt_170_1 _) ?_
    refine n_iconst 3 i_261_77 rfl ?_
    refine n_ld i_261_78 ar_171 (by omega) (by omega) r0.f3 ?_
    refine x_iret i_261_79 rn_261 rfl ?_
    exact k
  rw [if_neg g3] at k
  by_cases g4 : l1 = 4
  · rw [if_pos g4] at k
    refine x_tswI (t := 80) (off := 74) i_261_6 (by rw [g4]; decide +kernel) (by rw [g4]; decide +kernel) (by decide) ?_
    refine x_aload_n i_261_80 rfl ?_
    refine x_gr i_261_81 ob_170 gr_8_1.1 gr_8_1.2 (rt_170_1 _) ?_
    refine n_iconst 4 i_261_84 rfl ?_
    refine n_ld i_261_85 ar_171 (by omega) (by omega) r0.f4 ?_
    refine x_iret i_261_86 rn_261 rfl ?_
    exact k
  rw [if_neg g4] at k
  by_cases g5 : l1 = 5
  · rw [if_pos g5] at k
    refine x_tswI (t := 87) (off := 81) i_261_6 (by rw [g5]; decide +kernel) (by rw [g5]; decide +kernel) (by decide) ?_
    refine x_aload_n i_261_87 rfl ?_
    refine x_aload_n i_261_88 rfl ?_
    refine x_vh (r := [_]) (lj := [some _]) i_261_89 w_159 ob_170 [] rfl rfl (Nat.le_of_ble_eq_true rfl) (Nat.le_of_ble_eq_true rfl) rfl ?_
    refine c_159 r0 (fun q47 => rt_i ?_)
    refine x_vh (r := []) (lj := [some _, some _, none, none]) i_261_92 w_160 ob_170 [_] rfl rfl (Nat.le_of_ble_eq_true rfl) (Nat.le_of_ble_eq_true rfl) rfl ?_
    refine c_160 r0 (by omega) (fun _ => rt_i ?_)
    refine x_iret i_261_95 rn_261 rfl ?_
    exact k
  rw [if_neg g5] at k
  by_cases g6 : l1 = 6
  · rw [if_pos g6] at k
    refine x_tswI (t := 96) (off := 90) i_261_6 (by rw [g6]; decide +kernel) (by rw [g6]; decide +kernel) (by decide) ?_
    refine x_aload_n i_261_96 rfl ?_
    refine n_gi i_261_97 ob_170 gf_8_5.1 gf_8_5.2 ((f0 _ _ (by omega)).trans h5) ?_
    refine x_iret i_261_100 rn_261 rfl ?_
    exact k
  rw [if_neg g6] at k
  by_cases g7 : l1 = 7
  · rw [if_pos g7] at k
    refine x_tswI (t := 101) (off := 95) i_261_6 (by rw [g7]; decide +kernel) (by rw [g7]; decide +kernel) (by decide) ?_
    refine x_aload_n i_261_101 rfl ?_
    refine n_gi i_261_102 ob_170 gf_8_18.1 gf_8_18.2 ((f0 _ _ (by omega)).trans h18) ?_
    refine x_iret i_261_105 rn_261 rfl ?_
    exact k
  rw [if_neg g7] at k
  refine x_tswO (t := 106) i_261_6 (n_tswO (lo := 0) (hi := 7) (by omega) (by omega)) (by decide) ?_
  refine n_iconst 4294967295 i_261_106 rfl ?_
  refine x_iret i_261_107 rn_261 rfl ?_
  exact k
theorem cnt_eq (e : EQ A B) (l : Nat) : cnt n A sz fed l = cnt n (a_up B 9 0 0) sz fed l := by
  unfold cnt
  rw [e.z.f (k := 1) (by omega), e.z.f (k := 2) (by omega), e.z.f (k := 3) (by omega), e.z.f (k := 4) (by omega), ← x49 e.z, x49 (EQ.refl _)]
/-- ends, of a finishing p -/
def ens (n : Nat) (p : Nat × HA) (s what : Nat) : Nat := if 2147483648 ≤ p.1 then p.1 else if what = 0 then s_65 n p.2 48 else if what = 1 then s_69 n p.2 1 else s_85 n p.2 (s_69 n p.2 1 &&& s_74 n p.2 (p.2 2 s))
theorem s72_n {l k : Nat} : ¬ (s_72 n A l k).1 < 2147483648 ∨ l < n := by
  unfold s_72
  split
  · left; show ¬ (4294967294 : Nat) < 2147483648; omega
  · split
    · left; show ¬ (4294967294 : Nat) < 2147483648; omega
    · right; omega
theorem d_22 (r : RC M 1 n A) {l1 l2 l3 : Nat} (h1 : l1 < 4294967296) (h2 : l2 < 4294967296) (h3 : l3 < 4294967296) (k0 : ¬ l3 ≤ 2 → Q (some (.int (N 4294967294))) (a_hp sc fd M)) (k : l3 ≤ 2 → ∀ M' C, EQ C A → WN n C → FR 10 M M' → Q (some (.int (N (ens n (s_72 n C l1 l2) l1 l3)))) (a_hp sc fd M')) : a_Ex 22 0 [some (.ref 0), some (.int (N l1)), some (.int (N l2)), some (.int (N l3)), none] [] (a_hp sc fd M) Q := by
  have no : ¬ l3 ≤ 2 → a_Ex 22 9 [some (.ref 0), some (.int (N l1)), some (.int (N l2)), some (.int (N l3)), none] [] (a_hp sc fd M) Q := fun g => by
    refine n_bipush 4294967294 i_22_9 rfl ?_
    refine x_iret i_22_11 rn_22 rfl ?_
    exact k0 g
  refine x_iload_n i_22_0 rfl ?_
  refine n_zltU h3 i_22_1 ⟨fun g => no (by omega), fun g1 => ?_⟩
  refine x_iload_n i_22_4 rfl ?_
  refine n_iconst 2 i_22_5 rfl ?_
  refine x_ileN (by omega) (by omega) i_22_6 ⟨fun g2 => ?_, fun g => no g⟩
  refine x_aload_n i_22_12 rfl ?_
  refine x_gr i_22_13 ob_0 gr_0_1.1 gr_0_1.2 (rt_0_1 _) ?_
  refine x_aload_n i_22_16 rfl ?_
  refine x_gr i_22_17 ob_0 gr_0_0.1 gr_0_0.2 (rt_0_0 _) ?_
  refine x_vh (r := []) (lj := [some _, some _]) i_22_20 w_50 hb10.ob [_] rfl rfl (Nat.le_of_ble_eq_true rfl) (Nat.le_of_ble_eq_true rfl) rfl ?_
  refine c_50 hb10 hb1 (by omega) r (fun M1 C e1 r1 f1 => rt_n ?_)
  refine x_aload_n i_22_23 rfl ?_
  refine x_gr i_22_24 ob_0 gr_0_1.1 gr_0_1.2 (rt_0_1 _) ?_
  refine x_iload_n i_22_27 rfl ?_
  refine x_iload_n i_22_28 rfl ?_
  refine x_vh (r := []) (lj := [some _, some _, some _, none, none]) i_22_29 w_72 hb10.ob [_, _] rfl rfl (Nat.le_of_ble_eq_true rfl) (Nat.le_of_ble_eq_true rfl) rfl ?_
  refine c_72 hb10 r1 (by omega) (by omega) (fun q M2 r2 f2 => rt_i ?_)
  have k := k g2 M2 C e1 r1.w (f1.trans f2)
  have hn := s72_n (n := n) (A := C) (l := l1) (k := l2)
  generalize s_72 n C l1 l2 = p at q r2 k hn ⊢
  have n5 := r2.n5
  unfold ens at k
  refine x_istore i_22_32 rfl rfl ?_
  refine x_iload i_22_34 rfl ?_
  refine n_zgeU (by omega) i_22_36 ⟨fun g3 => ?_, fun g3 => ?_⟩
  · rw [if_neg g3] at k
    refine x_iload_n i_22_42 rfl ?_
    refine x_zneN (by omega) i_22_43 ⟨fun g4 => ?_, fun g4 => ?_⟩
    · rw [if_neg g4] at k
      refine x_iload_n i_22_56 rfl ?_
      refine n_iconst 1 i_22_57 rfl ?_
      refine x_ineN (by omega) (by omega) i_22_58 ⟨fun g5 => ?_, fun g5 => ?_⟩
      · rw [if_neg g5] at k
        refine x_aload_n i_22_69 rfl ?_
        refine x_gr i_22_70 ob_0 gr_0_1.1 gr_0_1.2 (rt_0_1 _) ?_
        refine x_aload_n i_22_73 rfl ?_
        refine x_gr i_22_74 ob_0 gr_0_1.1 gr_0_1.2 (rt_0_1 _) ?_
        refine x_aload_n i_22_77 rfl ?_
        refine x_gr i_22_78 ob_0 gr_0_1.1 gr_0_1.2 (rt_0_1 _) ?_
        refine x_gr i_22_81 hb10.ob gr_1_7.1 gr_1_7.2 (hb10.r7 _) ?_
        refine x_iload_n i_22_84 rfl ?_
        refine n_ld (x := p.2 2 l1) i_22_85 hb10.a3 (by omega) (by omega) (r2.a2 (by omega)) ?_
        refine x_vh (r := [_]) (lj := [some _, some _]) i_22_86 w_73 hb10.ob [_] rfl rfl (Nat.le_of_ble_eq_true rfl) (Nat.le_of_ble_eq_true rfl) rfl ?_
        have w2 := r2.w.b2 (s := l1) (by omega)
        refine c_73 hb10 r2 (by omega) (fun q73 => rt_i ?_)
        refine x_vh (r := []) (lj := [some _, some _]) i_22_89 w_85 hb10.ob [_] rfl rfl (Nat.le_of_ble_eq_true rfl) (Nat.le_of_ble_eq_true rfl) rfl ?_
        refine c_85 hb10 r2 (by omega) (fun _ => rt_i ?_)
        refine x_iret i_22_92 rn_22 rfl ?_
        exact k
      · rw [if_pos g5] at k
        refine x_aload_n i_22_61 rfl ?_
        refine x_gr i_22_62 ob_0 gr_0_1.1 gr_0_1.2 (rt_0_1 _) ?_
        refine x_vh (r := []) (lj := [some _]) i_22_65 w_68 hb10.ob [] rfl rfl (Nat.le_of_ble_eq_true rfl) (Nat.le_of_ble_eq_true rfl) rfl ?_
        refine c_68 hb10 r2 (fun _ => rt_i ?_)
        refine x_iret i_22_68 rn_22 rfl ?_
        exact k
    · rw [if_pos g4] at k
      refine x_aload_n i_22_46 rfl ?_
      refine x_gr i_22_47 ob_0 gr_0_1.1 gr_0_1.2 (rt_0_1 _) ?_
      refine n_bipush 48 i_22_50 rfl ?_
      refine x_vh (r := []) (lj := [some _, some _, none, none]) i_22_52 w_65 hb10.ob [_] rfl rfl (Nat.le_of_ble_eq_true rfl) (Nat.le_of_ble_eq_true rfl) rfl ?_
      refine c_65 hb10 r2 (by omega) (fun _ => rt_i ?_)
      refine x_iret i_22_55 rn_22 rfl ?_
      exact k
  · rw [if_pos (by omega)] at k
    refine x_iload i_22_39 rfl ?_
    refine x_iret i_22_41 rn_22 rfl ?_
    exact k
def enr (n : Nat) (p : Nat × HA) (s what : Nat) : Nat := if 2147483648 ≤ p.1 then p.1 else if what = 0 then s_174 n p.2 else if what = 1 then s_158 n p.2 1 1 else s_218 n p.2 (s_172 n p.2 s)
theorem s187_n (hn : 2 ≤ n) {l k : Nat} : ¬ (s_187 n A l k).1 < 2147483648 ∨ l < n := by
  unfold s_187
  rw [in2 hn]
  split
  · right; assumption
  · left; show ¬ (4294967294 : Nat) < 2147483648; omega
def FT (M M' : a_Mm) : Prop := ∀ o k, (o < 170 ∨ (o = 170 ∧ ¬ k = 0 ∧ (k < 7 ∨ 10 < k)) ∨ (o = 171 ∧ 216 ≤ k) ∨ o = 172 ∨ 173 < o) → M' o k = M o k
theorem e_217 (r : RM M n B) {l1 l2 l3 : Nat} (h1 : l1 < 4294967296) (h2 : l2 < 4294967296) (h3 : l3 < 4294967296) (k0 : ¬ (l1 < n ∧ l3 ≤ 2) → ∀ M', RM M' n (a_up B 9 0 0) → FT M M' → Q (some (.int (N 4294967294))) (a_hp sc fd M')) (k : l1 < n ∧ l3 ≤ 2 → ∀ M' C, EQ B C → RM M' n C → FT M M' → Q (some (.int (N (enr n (s_187 n (a_up B 9 0 0) l1 l2) l1 l3)))) (a_hp sc fd M')) : a_Ex 217 0 [some (.ref 170), some (.int (N l1)), some (.int (N l2)), some (.int (N l3)), none] [] (a_hp sc fd M) Q := by
  have n2 := r.n2
  have n5 := r.n5
  refine x_aload_n i_217_0 rfl ?_
  refine n_iconst 0 i_217_1 rfl ?_
  refine n_pM i_217_2 r pf_8_0 (by omega) (fun M0 r0 f0 => ?_)
  refine x_aload_n i_217_5 rfl ?_
  refine x_iload_n i_217_6 rfl ?_
  refine x_vh (r := []) (lj := [some _, some _]) i_217_7 w_154 ob_170 [_] rfl rfl (Nat.le_of_ble_eq_true rfl) (Nat.le_of_ble_eq_true rfl) rfl ?_
  have no : ¬ (l1 < n ∧ l3 ≤ 2) → a_Ex 217 25 [some (.ref 170), some (.int (N l1)), some (.int (N l2)), some (.int (N l3)), none] [] (a_hp sc fd M0) Q := fun g => by
    refine n_bipush 4294967294 i_217_25 rfl ?_
    refine x_iret i_217_27 rn_217 rfl ?_
    exact k0 g M0 r0 (fun o k h => f0 o k (by omega))
  refine c_154 r0 (by omega) (fun _ => rt_i ?_)
  rw [s154 n2]
  by_cases g1 : l1 < n
  · rw [if_pos g1]
    refine x_zeqN (by omega) i_217_10 ⟨fun q => absurd q (by omega), fun _ => ?_⟩
    refine x_iload_n i_217_13 rfl ?_
    refine x_i2l i_217_14 ?_
    refine n_lconst 0 i_217_15 rfl ?_
    refine n_ldc2 2 i_217_16 rfl ?_
    refine n_within i_217_19 (Nat.le_of_ble_eq_true rfl) h3 (by omega) (by omega) ⟨fun g2 => ?_, fun g2 => ?_⟩
    · refine x_zneN (by omega) i_217_22 ⟨fun _ => ?_, fun q => absurd q (by omega)⟩
      have k := k ⟨g1, g2.2⟩
      refine x_aload_n i_217_28 rfl ?_
      refine x_gr i_217_29 ob_170 gr_8_1.1 gr_8_1.2 (rt_170_1 _) ?_
      refine n_iconst 0 i_217_32 rfl ?_
      refine x_aload_n i_217_33 rfl ?_
      refine x_gr i_217_34 ob_170 gr_8_3.1 gr_8_3.2 (rt_170_3 _) ?_
      refine n_iconst 0 i_217_37 rfl ?_
      refine x_sh (r := []) (lj := [some _, some _, some _, some _, none]) i_217_38 ws_149 [_, _, _, _] rfl rfl (Nat.le_of_ble_eq_true rfl) (Nat.le_of_ble_eq_true rfl) rfl ?_
      refine c_149 ar_171 ar_173 (by omega) (by omega) (by omega) (by omega) (by omega) (rt_n ?_)
      have hc : ∀ o k, ¬ o = 173 → cpr M0 171 0 173 0 216 o k = M0 o k := fun o k h => by unfold cpr; rw [if_neg (by omega)]
      have hk : ∀ k, k < 216 → cpr M0 171 0 173 0 216 173 k = M0 171 k := fun k hk => by unfold cpr; rw [if_pos (by omega), show 0 + (k - 0) = k by omega]
      generalize cpr M0 171 0 173 0 216 = M1 at hc hk ⊢
      have r1 : RM M1 n (a_up B 9 0 0) := r0.same (fun k _ => hc _ _ (by omega)) (fun k _ => hc _ _ (by omega))
      have s1 : RS (M1 173) n B := (r0.rs.eq ((EQ.refl B).l 9 0 0 (by omega))).congr hk
      refine x_aload_n i_217_41 rfl ?_
      refine x_iload_n i_217_42 rfl ?_
      refine x_iload_n i_217_43 rfl ?_
      refine x_vh (r := []) (lj := [some _, some _, some _, none, none]) i_217_44 w_187 ob_170 [_, _] rfl rfl (Nat.le_of_ble_eq_true rfl) (Nat.le_of_ble_eq_true rfl) rfl ?_
      refine c_187 r1 (by omega) (by omega) (fun q M2 r2 f2 => rt_i ?_)
      have hn := s187_n (n := n) (A := a_up B 9 0 0) (l := l1) (k := l2) n2
      generalize s_187 n (a_up B 9 0 0) l1 l2 = p at q r2 k hn ⊢
      have fin : ∀ v : Nat, v = enr n p l1 l3 → a_Ex 217 90 [some (.ref 170), some (.int (N l1)), some (.int (N l2)), some (.int (N l3)), some (.int (N v))] [] (a_hp sc fd M2) Q := fun v hv => by
        subst hv
        refine x_aload_n i_217_90 rfl ?_
        refine x_gr i_217_91 ob_170 gr_8_3.1 gr_8_3.2 (rt_170_3 _) ?_
        refine n_iconst 0 i_217_94 rfl ?_
        refine x_aload_n i_217_95 rfl ?_
        refine x_gr i_217_96 ob_170 gr_8_1.1 gr_8_1.2 (rt_170_1 _) ?_
        refine n_iconst 0 i_217_99 rfl ?_
        refine x_sh (r := []) (lj := [some _, some _, some _, some _, none]) i_217_100 ws_149 [_, _, _, _] rfl rfl (Nat.le_of_ble_eq_true rfl) (Nat.le_of_ble_eq_true rfl) rfl ?_
        refine c_149 ar_173 ar_171 (by omega) (by omega) (by omega) (by omega) (by omega) (rt_n ?_)
        have hc3 : ∀ o k, ¬ (o = 171 ∧ k < 216) → cpr M2 173 0 171 0 216 o k = M2 o k := fun o k h => by unfold cpr; rw [if_neg (by omega)]
        have hk3 : ∀ k, k < 216 → cpr M2 173 0 171 0 216 171 k = M2 173 k := fun k hk => by unfold cpr; rw [if_pos (by omega), show 0 + (k - 0) = k by omega]
        generalize cpr M2 173 0 171 0 216 = M3 at hc3 hk3 ⊢
        refine x_iload i_217_103 rfl ?_
        refine x_iret i_217_105 rn_217 rfl ?_
        have s3 : RS (M3 171) n B := s1.congr (fun k hk' => (hk3 k hk').trans (f2 173 k (by omega)))
        obtain ⟨C, e1, rC⟩ := s3.rm
        exact k M3 C e1 rC (fun o k h => (hc3 o k (by omega)).trans ((f2 o k (by omega)).trans ((hc o k (by omega)).trans (f0 o k (by omega)))))
      refine x_istore i_217_47 rfl rfl ?_
      refine x_iload i_217_49 rfl ?_
      refine n_zltU (by omega) i_217_51 ⟨fun g3 => fin _ (by unfold enr; rw [if_pos g3]), fun g3 => ?_⟩
      refine x_iload_n i_217_54 rfl ?_
      refine x_zneN (by omega) i_217_55 ⟨fun g4 => ?_, fun g4 => ?_⟩
      · skip
        refine x_iload_n i_217_65 rfl ?_
        refine n_iconst 1 i_217_66 rfl ?_
        refine x_ineN (by omega) (by omega) i_217_67 ⟨fun g5 => ?_, fun g5 => ?_⟩
        · skip
          refine x_aload_n i_217_79 rfl ?_
          refine x_aload_n i_217_80 rfl ?_
          refine x_iload_n i_217_81 rfl ?_
          refine x_vh (r := [_]) (lj := [some _, some _]) i_217_82 w_172 ob_170 [_] rfl rfl (Nat.le_of_ble_eq_true rfl) (Nat.le_of_ble_eq_true rfl) rfl ?_
          refine c_172 r2 (by omega) (by omega) (fun q172 => rt_i ?_)
          refine x_vh (r := []) (lj := [some _, some _]) i_217_85 w_218 ob_170 [_] rfl rfl (Nat.le_of_ble_eq_true rfl) (Nat.le_of_ble_eq_true rfl) rfl ?_
          refine c_218 r2 (by omega) (fun _ => rt_i ?_)
          refine x_istore i_217_88 rfl rfl ?_
          exact fin _ (by unfold enr; rw [if_neg g3, if_neg g4, if_neg g5])
        · skip
          refine x_aload_n i_217_70 rfl ?_
          refine n_iconst 1 i_217_71 rfl ?_
          refine n_iconst 1 i_217_72 rfl ?_
          refine x_vh (r := []) (lj := [some _, some _, some _, none, none]) i_217_73 w_158 ob_170 [_, _] rfl rfl (Nat.le_of_ble_eq_true rfl) (Nat.le_of_ble_eq_true rfl) rfl ?_
          refine c_158 r2 (by omega) (by omega) (fun _ => rt_i ?_)
          refine x_goto i_217_76 ?_
          refine x_istore i_217_88 rfl rfl ?_
          exact fin _ (by unfold enr; rw [if_neg g3, if_neg g4, if_pos g5])
      · skip
        refine x_aload_n i_217_58 rfl ?_
        refine x_vh (r := []) (lj := [some _]) i_217_59 w_174 ob_170 [] rfl rfl (Nat.le_of_ble_eq_true rfl) (Nat.le_of_ble_eq_true rfl) rfl ?_
        refine c_174 r2 (fun _ => rt_i ?_)
        refine x_goto i_217_62 ?_
        refine x_istore i_217_88 rfl rfl ?_
        exact fin _ (by unfold enr; rw [if_neg g3, if_pos g4])
    · refine x_zneN (by omega) i_217_22 ⟨fun q => absurd rfl q, fun _ => no (by omega)⟩
  · rw [if_neg g1]
    refine x_zeqN (by omega) i_217_10 ⟨fun _ => no (by omega), fun q => absurd rfl q⟩
end CNT
theorem x22 {n l k what : Nat} {A B : HA} (e : EQ A B) (w : WN n A) (hl : l < 4294967296) (hk : k < 4294967296) : ens n (s_72 n A l k) l what = enr n (s_187 n B l k) l what := by
  have h5 := w.1.2
  have w2 := wn72 w hl hk
  obtain ⟨p1, p2⟩ := x72 (l := l) (k := k) e w
  unfold ens enr
  rw [← p1, s65_48 h5 w2 p2, x69 p2 h5]
  by_cases c : 2147483648 ≤ (s_72 n A l k).1
  · rw [if_pos c, if_pos c]
  rw [if_neg c, if_neg c]
  by_cases c1 : what = 0
  · rw [if_pos c1, if_pos c1]
  rw [if_neg c1, if_neg c1]
  by_cases c2 : what = 1
  · rw [if_pos c2, if_pos c2]
  rw [if_neg c2, if_neg c2, ← x172 p2 h5]
  unfold s_218
  by_cases c3 : s_172 n (s_187 n B l k).2 l = 0
  · rw [if_pos c3, c3]
    unfold s_85 s_76
    have : s_55 n (s_72 n A l k).2 0 &&& 15 = 0 := by rw [s55_0 h5]; intro s _ h; rw [Nat.zero_testBit] at h; exact absurd h (by simp)
    rw [if_pos this, if_neg (by omega)]
  · rw [if_neg c3, x85 p2 w2 (s172_lt n _ l h5)]
