/-! the reference reads a deed, all deeds -/
def G1 (T : Nat → Nat) (n w : Nat) (t : Nat × Nat × Nat) (o : Nat) : (Nat × Nat × Nat) × Nat := if (3 ≤ w ∧ w ≤ 6) ∨ w = 8 then ((dgR T n (mmr T n 32 t)).2, (dgR T n (mmr T n 32 t)).1) else (t, o)
def G2 (T : Nat → Nat) (n w : Nat) (t : Nat × Nat × Nat) (o : Nat) : (Nat × Nat × Nat) × Nat := if w = 8 then ((rdR T n 10 11 (mmr T n 32 t)).2, if (rdR T n 10 11 (mmr T n 32 t)).1 = 10 then 1 else 0) else (t, o)
def Gp (T : Nat → Nat) (n : Nat) (t : Nat × Nat × Nat) (o : Nat) : (Nat × Nat × Nat) × Nat := if (psR T n 32 t).1 = 0 then ((psR T n 32 t).2, o) else ((dgR T n (psR T n 32 t).2).2, (dgR T n (psR T n 32 t).2).1)
def G3 (T : Nat → Nat) (n w : Nat) (t : Nat × Nat × Nat) (o : Nat) : (Nat × Nat × Nat) × Nat := if w ≤ 2 then Gp T n t o else (t, o)
def G4 (T : Nat → Nat) (n w : Nat) (t : Nat × Nat × Nat) (o : Nat) : (Nat × Nat × Nat) × Nat := if w = 5 then Gp T n t o else (t, o)
/-- where one stands behind a deed, its two numbers -/
def G5 (T : Nat → Nat) (n w : Nat) (t : Nat × Nat × Nat) (o1 o2 : Nat) : (Nat × Nat × Nat) × Nat × Nat := (mmr T n 59 t, o1, o2)
def G34 (T : Nat → Nat) (n w : Nat) (t : Nat × Nat × Nat) (o1 o2 : Nat) : (Nat × Nat × Nat) × Nat × Nat := G5 T n w (G4 T n w (G3 T n w t o1).1 o2).1 (G3 T n w t o1).2 (G4 T n w (G3 T n w t o1).1 o2).2
def G24 (T : Nat → Nat) (n w : Nat) (t : Nat × Nat × Nat) (o1 o2 : Nat) : (Nat × Nat × Nat) × Nat × Nat := G34 T n w (G2 T n w t o2).1 o1 (G2 T n w t o2).2
def G14 (T : Nat → Nat) (n w : Nat) (t : Nat × Nat × Nat) (o1 o2 : Nat) : (Nat × Nat × Nat) × Nat × Nat := G24 T n w (G1 T n w t o1).1 (G1 T n w t o1).2 o2
def G0t (T : Nat → Nat) (n d : Nat) (t : Nat × Nat × Nat) : Nat × Nat × Nat := if d = 12 then fai 3 t.1 (rdR T n 0 9 t).2 else (rdR T n 0 9 t).2
def FW (d : Nat) (M M' : a_Mm) : Prop := ∀ o k, ¬ (o = 170 ∧ (k = 20 ∨ k = 21 ∨ k = 22 ∨ k = 27)) → ¬ (182 ≤ o ∧ o ≤ 184 ∧ k = d) → M' o k = M o k
theorem FV.fw {d : Nat} {M M' : a_Mm} (h : FV M M') : FW d M M' := fun o k a _ => h o k (fun q => a (by omega))
theorem FW.trans {d : Nat} {M M1 M2 : a_Mm} (h : FW d M M1) (g : FW d M1 M2) : FW d M M2 := fun o k a b => (g o k a b).trans (h o k a b)
section RDF
variable {sc : a_Sc} {fd : Nat} {M M0 : a_Mm} {Q : Option Value → a_Hp → Prop} {n d w o1 o2 l1 : Nat} {T : Nat → Nat} {t : Nat × Nat × Nat}
/-- what is left behind a deed -/
def KD (Q : Option Value → a_Hp → Prop) (sc : a_Sc) (fd : Nat) (M : a_Mm) (n : Nat) (T : Nat → Nat) (d w : Nat) (x : (Nat × Nat × Nat) × Nat × Nat) : Prop := ∀ M', RT M' n T x.1 (if x.1.2.1 = 0 then d + 1 else d) → (x.1.2.1 = 0 → M' 182 d = N w ∧ M' 183 d = N x.2.1 ∧ M' 184 d = N x.2.2) → FW d M M' → Q none (a_hp sc fd M')
theorem KD.tr {x : (Nat × Nat × Nat) × Nat × Nat} {M1 : a_Mm} (k : KD Q sc fd M n T d w x) (f : FV M M1) : KD Q sc fd M1 n T d w x := fun M' a b c => k M' a b (f.fw.trans c)
theorem mmr_0 {c : Nat} (h : (mmr T n c t).2.1 = 0) : t.2.1 = 0 := by
  unfold mmr at h
  split at h
  · assumption
  · exact h
theorem dgR_0 (h : (dgR T n t).2.2.1 = 0) : t.2.1 = 0 := by
  unfold dgR at h
  split at h
  · assumption
  · exact h
theorem psR_0 {c : Nat} (h : (psR T n c t).2.2.1 = 0) : t.2.1 = 0 := by
  unfold psR at h
  split at h
  · rename_i g; exact g.1
  · exact h
theorem rdR_0 {lo hi : Nat} (h : (rdR T n lo hi t).2.2.1 = 0) : t.2.1 = 0 := by
  unfold rdR at h
  split at h
  · assumption
  · exact h
theorem RT.dput (c : RT M n T t d) (hd : d < 12) {x y z : Nat} : RT (a_up (a_up (a_up (a_up M 182 d (N x)) 183 d (N y)) 184 d (N z)) 170 27 (N (d + 1))) n T t (d + 1) := by
  obtain ⟨⟨h1, h2, h3, h4⟩, ⟨g1, g2, g3, g4, g5⟩, h5⟩ := c
  refine ⟨⟨h1, h2, h3, by omega⟩, ⟨?_, ?_, ?_, ?_, ?_⟩, fun k hk => ⟨(h5 k hk).1, ?_⟩⟩
  · rw [a_up_def, if_neg (by omega), a_up_def, if_neg (by omega), a_up_def, if_neg (by omega), a_up_def, if_neg (by omega)]; exact g1
  · rw [a_up_def, if_neg (by omega), a_up_def, if_neg (by omega), a_up_def, if_neg (by omega), a_up_def, if_neg (by omega)]; exact g2
  · rw [a_up_def, if_neg (by omega), a_up_def, if_neg (by omega), a_up_def, if_neg (by omega), a_up_def, if_neg (by omega)]; exact g3
  · rw [a_up_def, if_neg (by omega), a_up_def, if_neg (by omega), a_up_def, if_neg (by omega), a_up_def, if_neg (by omega)]; exact g4
  · rw [a_up_def, if_pos ⟨rfl, rfl⟩]
  · rw [a_up_def, if_neg (by omega), a_up_def, if_neg (by omega), a_up_def, if_neg (by omega), a_up_def, if_neg (by omega)]; exact (h5 k hk).2
theorem e_241_142 (c : RT M n T t d) (hd : t.2.1 = 0 → d < 12) (k : KD Q sc fd M n T d w (G5 T n w t o1 o2)) : a_Ex 241 142 [some (.ref 170), some (.int (N l1)), some (.int (N w)), some (.int (N o1)), some (.int (N o2))] [] (a_hp sc fd M) Q := by
  unfold G5 at k
  refine x_aload_n i_241_142 rfl ?_
  refine n_bipush 59 i_241_143 rfl ?_
  refine x_vh (r := []) (lj := [some _, some _]) i_241_145 w_248 ob_170 [_] rfl rfl (Nat.le_of_ble_eq_true rfl) (Nat.le_of_ble_eq_true rfl) rfl ?_
  refine e_248 c (by omega) (fun M1 c1 f1 => rt_n ?_)
  have hf := c1.f3
  have k := k.tr f1
  unfold KD at k
  refine x_aload_n i_241_148 rfl ?_
  refine n_gi (x := (mmr T n 59 t).2.1) i_241_149 ob_170 gf_8_21.1 gf_8_21.2 c1.hft ?_
  refine x_zeqN (by omega) i_241_152 ⟨fun g1 => ?_, fun g1 => ?_⟩
  · have hd1 := hd (mmr_0 g1)
    have c2 := c1.dput hd1 (x := w) (y := o1) (z := o2)
    refine x_aload_n i_241_156 rfl ?_
    refine x_gr i_241_157 ob_170 gr_8_24.1 gr_8_24.2 (rt_170_24 _) ?_
    refine x_aload_n i_241_160 rfl ?_
    refine n_gi (x := d) i_241_161 ob_170 gf_8_27.1 gf_8_27.2 c1.hdd ?_
    refine x_iload_n i_241_164 rfl ?_
    refine n_st i_241_165 ar_182 (by omega) (by omega) ?_
    refine x_aload_n i_241_166 rfl ?_
    refine x_gr i_241_167 ob_170 gr_8_25.1 gr_8_25.2 (rt_170_25 _) ?_
    refine x_aload_n i_241_170 rfl ?_
    refine n_gi (x := d) i_241_171 ob_170 gf_8_27.1 gf_8_27.2 (by rw [a_up_def, if_neg (by omega)]; exact c1.hdd) ?_
    refine x_iload_n i_241_174 rfl ?_
    refine n_st i_241_175 ar_183 (by omega) (by omega) ?_
    refine x_aload_n i_241_176 rfl ?_
    refine x_gr i_241_177 ob_170 gr_8_26.1 gr_8_26.2 (rt_170_26 _) ?_
    refine x_aload_n i_241_180 rfl ?_
    refine n_gi (x := d) i_241_181 ob_170 gf_8_27.1 gf_8_27.2 (by rw [a_up_def, if_neg (by omega), a_up_def, if_neg (by omega)]; exact c1.hdd) ?_
    refine x_iload i_241_184 rfl ?_
    refine n_st i_241_186 ar_184 (by omega) (by omega) ?_
    refine x_aload_n i_241_187 rfl ?_
    refine x_dup i_241_188 rfl ?_
    refine n_gi (x := d) i_241_189 ob_170 gf_8_27.1 gf_8_27.2 (by rw [a_up_def, if_neg (by omega), a_up_def, if_neg (by omega), a_up_def, if_neg (by omega)]; exact c1.hdd) ?_
    refine n_iconst 1 i_241_192 rfl ?_
    refine x_iaddN i_241_193 ?_
    refine x_pi i_241_194 ob_170 pf_8_27.1 pf_8_27.2 ?_
    refine x_vret i_241_197 rn_241 ?_
    rw [if_pos g1] at k
    refine k _ c2 (fun _ => ⟨?_, ?_, ?_⟩) (fun o j h1 h2 => ?_)
    · rw [a_up_def, if_neg (by omega), a_up_def, if_neg (by omega), a_up_def, if_neg (by omega), a_up_def, if_pos ⟨rfl, rfl⟩]
    · rw [a_up_def, if_neg (by omega), a_up_def, if_neg (by omega), a_up_def, if_pos ⟨rfl, rfl⟩]
    · rw [a_up_def, if_neg (by omega), a_up_def, if_pos ⟨rfl, rfl⟩]
    · rw [a_up_def, if_neg (by omega), a_up_def, if_neg (by omega), a_up_def, if_neg (by omega), a_up_def, if_neg (by omega)]
  · rw [if_neg g1] at k
    refine x_vret i_241_155 rn_241 ?_
    exact k M1 c1 (fun q => absurd q g1) (fun _ _ _ _ => rfl)
theorem e_241_122 (c : RT M n T t d) (hd : t.2.1 = 0 → d < 12) (hw : w < 4294967296) (k : KD Q sc fd M n T d w (G5 T n w (G4 T n w t o2).1 o1 (G4 T n w t o2).2)) : a_Ex 241 122 [some (.ref 170), some (.int (N l1)), some (.int (N w)), some (.int (N o1)), some (.int (N o2))] [] (a_hp sc fd M) Q := by
  have hv : (psR T n 32 t).1 < 2 := by
    unfold psR
    split
    · exact (by omega : (1 : Nat) < 2)
    · exact (by omega : (0 : Nat) < 2)
  unfold G4 Gp at k
  refine x_iload_n i_241_122 rfl ?_
  refine n_iconst 5 i_241_123 rfl ?_
  refine n_ineU hw (by omega) i_241_124 ⟨fun g1 => ?_, fun g1 => ?_⟩
  · rw [if_neg g1] at k
    first | exact e_241_142 c hd k | exact e_241_142 c1 (fun q => hd (psR_0 q)) k | exact e_241_142 c2 (fun q => hd (psR_0 (dgR_0 q))) k
  · rw [if_pos g1] at k
    refine x_aload_n i_241_127 rfl ?_
    refine n_bipush 32 i_241_128 rfl ?_
    refine x_vh (r := []) (lj := [some _, some _]) i_241_130 w_251 ob_170 [_] rfl rfl (Nat.le_of_ble_eq_true rfl) (Nat.le_of_ble_eq_true rfl) rfl ?_
    refine e_251 c (by omega) (fun M1 c1 f1 => rt_i ?_)
    have k := k.tr f1
    refine x_zeqN (by omega) i_241_133 ⟨fun g2 => ?_, fun g2 => ?_⟩
    · rw [if_pos g2] at k
      first | exact e_241_142 c hd k | exact e_241_142 c1 (fun q => hd (psR_0 q)) k | exact e_241_142 c2 (fun q => hd (psR_0 (dgR_0 q))) k
    · rw [if_neg g2] at k
      refine x_aload_n i_241_136 rfl ?_
      refine x_vh (r := []) (lj := [some _]) i_241_137 w_249 ob_170 [] rfl rfl (Nat.le_of_ble_eq_true rfl) (Nat.le_of_ble_eq_true rfl) rfl ?_
      refine e_249 c1 (fun M2 c2 f2 => rt_i ?_)
      have k := k.tr f2
      refine x_istore i_241_140 rfl rfl ?_
      first | exact e_241_142 c hd k | exact e_241_142 c1 (fun q => hd (psR_0 q)) k | exact e_241_142 c2 (fun q => hd (psR_0 (dgR_0 q))) k
theorem e_241_96 (c : RT M n T t d) (hd : t.2.1 = 0 → d < 12) (hw : w < 4294967296) (k : KD Q sc fd M n T d w (G34 T n w t o1 o2)) : a_Ex 241 96 [some (.ref 170), some (.int (N l1)), some (.int (N w)), some (.int (N o1)), some (.int (N o2))] [] (a_hp sc fd M) Q := by
  have hv : (psR T n 32 t).1 < 2 := by
    unfold psR
    split
    · exact (by omega : (1 : Nat) < 2)
    · exact (by omega : (0 : Nat) < 2)
  unfold G34 G3 Gp at k
  refine x_iload_n i_241_96 rfl ?_
  refine x_i2l i_241_97 ?_
  refine n_lconst 0 i_241_98 rfl ?_
  refine n_ldc2 2 i_241_99 rfl ?_
  refine n_within i_241_102 (Nat.le_of_ble_eq_true rfl) hw (by omega) (by omega) ⟨fun g1 => ?_, fun g1 => ?_⟩
  · rw [if_pos g1.2] at k
    refine x_ifF i_241_105 (by decide +kernel) ?_
    refine x_aload_n i_241_108 rfl ?_
    refine n_bipush 32 i_241_109 rfl ?_
    refine x_vh (r := []) (lj := [some _, some _]) i_241_111 w_251 ob_170 [_] rfl rfl (Nat.le_of_ble_eq_true rfl) (Nat.le_of_ble_eq_true rfl) rfl ?_
    refine e_251 c (by omega) (fun M1 c1 f1 => rt_i ?_)
    have k := k.tr f1
    refine x_zeqN (by omega) i_241_114 ⟨fun g2 => ?_, fun g2 => ?_⟩
    · rw [if_pos g2] at k
      first | exact e_241_122 c hd hw k | exact e_241_122 c1 (fun q => hd (psR_0 q)) hw k | exact e_241_122 c2 (fun q => hd (psR_0 (dgR_0 q))) hw k
    · rw [if_neg g2] at k
      refine x_aload_n i_241_117 rfl ?_
      refine x_vh (r := []) (lj := [some _]) i_241_118 w_249 ob_170 [] rfl rfl (Nat.le_of_ble_eq_true rfl) (Nat.le_of_ble_eq_true rfl) rfl ?_
      refine e_249 c1 (fun M2 c2 f2 => rt_i ?_)
      have k := k.tr f2
      refine x_istore_n i_241_121 rfl rfl ?_
      first | exact e_241_122 c hd hw k | exact e_241_122 c1 (fun q => hd (psR_0 q)) hw k | exact e_241_122 c2 (fun q => hd (psR_0 (dgR_0 q))) hw k
  · rw [if_neg (by omega)] at k
    refine x_ifT i_241_105 (by decide +kernel) ?_
    first | exact e_241_122 c hd hw k | exact e_241_122 c1 (fun q => hd (psR_0 q)) hw k | exact e_241_122 c2 (fun q => hd (psR_0 (dgR_0 q))) hw k
theorem rdR_v {lo hi : Nat} : (rdR T n lo hi t).1 < 4294967296 := by
  have h := kd12 (T := T) (a := t.1) (e := wnr T n t) 12 0 (by omega)
  unfold rdR
  split
  · split
    · split
      · exact (by omega : kd T t.1 (wnr T n t) 12 0 < 4294967296)
      · exact (by omega : kd T t.1 (wnr T n t) 12 0 < 4294967296)
    · exact (by omega : (4294967295 : Nat) < 4294967296)
  · exact (by omega : (4294967295 : Nat) < 4294967296)
theorem e_241_64 (c : RT M n T t d) (hd : t.2.1 = 0 → d < 12) (hw : w < 4294967296) (k : KD Q sc fd M n T d w (G24 T n w t o1 o2)) : a_Ex 241 64 [some (.ref 170), some (.int (N l1)), some (.int (N w)), some (.int (N o1)), some (.int (N o2))] [] (a_hp sc fd M) Q := by
  unfold G24 G2 at k
  refine x_iload_n i_241_64 rfl ?_
  refine n_bipush 8 i_241_65 rfl ?_
  refine n_ineU hw (by omega) i_241_67 ⟨fun g1 => ?_, fun g1 => ?_⟩
  · rw [if_neg g1] at k
    first | exact e_241_96 c hd hw k | exact e_241_96 c2 (fun q => hd (mmr_0 (rdR_0 q))) hw k
  · rw [if_pos g1] at k
    refine x_aload_n i_241_70 rfl ?_
    refine n_bipush 32 i_241_71 rfl ?_
    refine x_vh (r := []) (lj := [some _, some _]) i_241_73 w_248 ob_170 [_] rfl rfl (Nat.le_of_ble_eq_true rfl) (Nat.le_of_ble_eq_true rfl) rfl ?_
    refine e_248 c (by omega) (fun M1 c1 f1 => rt_n ?_)
    have k := k.tr f1
    refine x_aload_n i_241_76 rfl ?_
    refine n_bipush 10 i_241_77 rfl ?_
    refine n_bipush 11 i_241_79 rfl ?_
    refine x_vh (r := []) (lj := [some _, some _, some _, none, none]) i_241_81 w_242 ob_170 [_, _] rfl rfl (Nat.le_of_ble_eq_true rfl) (Nat.le_of_ble_eq_true rfl) rfl ?_
    refine e_242 c1 (by omega) (by omega) (fun M2 c2 f2 => rt_i ?_)
    have k := k.tr f2
    have hv := rdR_v (T := T) (n := n) (lo := 10) (hi := 11) (t := mmr T n 32 t)
    refine n_bipush 10 i_241_84 rfl ?_
    refine n_ineU hv (by omega) i_241_86 ⟨fun g2 => ?_, fun g2 => ?_⟩
    · rw [if_neg g2] at k
      refine n_iconst 0 i_241_93 rfl ?_
      refine x_istore i_241_94 rfl rfl ?_
      first | exact e_241_96 c hd hw k | exact e_241_96 c2 (fun q => hd (mmr_0 (rdR_0 q))) hw k
    · rw [if_pos g2] at k
      refine n_iconst 1 i_241_89 rfl ?_
      refine x_goto i_241_90 ?_
      refine x_istore i_241_94 rfl rfl ?_
      first | exact e_241_96 c hd hw k | exact e_241_96 c2 (fun q => hd (mmr_0 (rdR_0 q))) hw k
theorem e_241_28 (c : RT M n T t d) (hd : t.2.1 = 0 → d < 12) (hw : w < 4294967296) (k : KD Q sc fd M n T d w (G14 T n w t 4294967295 4294967295)) : a_Ex 241 28 [some (.ref 170), some (.int (N l1)), some (.int (N w)), none, none] [] (a_hp sc fd M) Q := by
  unfold G14 G1 at k
  refine n_iconst 4294967295 i_241_28 rfl ?_
  refine x_istore_n i_241_29 rfl rfl ?_
  refine n_iconst 4294967295 i_241_30 rfl ?_
  refine x_istore i_241_31 rfl rfl ?_
  refine x_iload_n i_241_33 rfl ?_
  refine x_i2l i_241_34 ?_
  refine n_ldc2 3 i_241_35 rfl ?_
  refine n_ldc2 6 i_241_38 rfl ?_
  refine n_within i_241_41 (Nat.le_of_ble_eq_true rfl) hw (by omega) (by omega) ⟨fun g1 => ?_, fun g1 => ?_⟩
  · rw [if_pos (Or.inl g1)] at k
    refine x_ifT i_241_44 (by decide +kernel) ?_
    refine x_aload_n i_241_53 rfl ?_
    refine n_bipush 32 i_241_54 rfl ?_
    refine x_vh (r := []) (lj := [some _, some _]) i_241_56 w_248 ob_170 [_] rfl rfl (Nat.le_of_ble_eq_true rfl) (Nat.le_of_ble_eq_true rfl) rfl ?_
    refine e_248 c (by omega) (fun M1 c1 f1 => rt_n ?_)
    have k := k.tr f1
    refine x_aload_n i_241_59 rfl ?_
    refine x_vh (r := []) (lj := [some _]) i_241_60 w_249 ob_170 [] rfl rfl (Nat.le_of_ble_eq_true rfl) (Nat.le_of_ble_eq_true rfl) rfl ?_
    refine e_249 c1 (fun M2 c2 f2 => rt_i ?_)
    have k := k.tr f2
    refine x_istore_n i_241_63 rfl rfl ?_
    first | exact e_241_64 c hd hw k | exact e_241_64 c2 (fun q => hd (mmr_0 (dgR_0 q))) hw k
  · refine x_ifF i_241_44 (by decide +kernel) ?_
    refine x_iload_n i_241_47 rfl ?_
    refine n_bipush 8 i_241_48 rfl ?_
    refine n_ineU hw (by omega) i_241_50 ⟨fun g2 => ?_, fun g2 => ?_⟩
    · rw [if_neg (by omega)] at k
      first | exact e_241_64 c hd hw k | exact e_241_64 c2 (fun q => hd (mmr_0 (dgR_0 q))) hw k
    · rw [if_pos (Or.inr g2)] at k
      refine x_aload_n i_241_53 rfl ?_
      refine n_bipush 32 i_241_54 rfl ?_
      refine x_vh (r := []) (lj := [some _, some _]) i_241_56 w_248 ob_170 [_] rfl rfl (Nat.le_of_ble_eq_true rfl) (Nat.le_of_ble_eq_true rfl) rfl ?_
      refine e_248 c (by omega) (fun M1 c1 f1 => rt_n ?_)
      have k := k.tr f1
      refine x_aload_n i_241_59 rfl ?_
      refine x_vh (r := []) (lj := [some _]) i_241_60 w_249 ob_170 [] rfl rfl (Nat.le_of_ble_eq_true rfl) (Nat.le_of_ble_eq_true rfl) rfl ?_
      refine e_249 c1 (fun M2 c2 f2 => rt_i ?_)
      have k := k.tr f2
      refine x_istore_n i_241_63 rfl rfl ?_
      first | exact e_241_64 c hd hw k | exact e_241_64 c2 (fun q => hd (mmr_0 (dgR_0 q))) hw k
theorem fl3 {p : Nat} (q : (fai 3 p t).2.1 = 0) : False := by
  unfold fai at q
  split at q
  · exact absurd q (show ¬ (3 : Nat) = 0 by decide)
  · rename_i h; exact h q
theorem e_241 (c : RT M n T t d) (k : KD Q sc fd M n T d (rdR T n 0 9 t).1 (G14 T n (rdR T n 0 9 t).1 (G0t T n d t) 4294967295 4294967295)) : a_Ex 241 0 [some (.ref 170), none, none, none, none] [] (a_hp sc fd M) Q := by
  have h12 := c.d12
  have hv := rdR_v (T := T) (n := n) (lo := 0) (hi := 9) (t := t)
  unfold G0t at k
  refine x_aload_n i_241_0 rfl ?_
  refine n_gi (x := t.1) i_241_1 ob_170 gf_8_20.1 gf_8_20.2 c.hat ?_
  refine x_istore_n i_241_4 rfl rfl ?_
  refine x_aload_n i_241_5 rfl ?_
  refine n_iconst 0 i_241_6 rfl ?_
  refine n_bipush 9 i_241_7 rfl ?_
  refine x_vh (r := []) (lj := [some _, some _, some _, none, none]) i_241_9 w_242 ob_170 [_, _] rfl rfl (Nat.le_of_ble_eq_true rfl) (Nat.le_of_ble_eq_true rfl) rfl ?_
  refine e_242 c (by omega) (by omega) (fun M1 c1 f1 => rt_i ?_)
  have k := k.tr f1
  refine x_istore_n i_241_12 rfl rfl ?_
  refine x_aload_n i_241_13 rfl ?_
  refine n_gi (x := d) i_241_14 ob_170 gf_8_27.1 gf_8_27.2 c1.hdd ?_
  refine n_bipush 12 i_241_17 rfl ?_
  refine x_ineN (by omega) (by omega) i_241_19 ⟨fun g1 => ?_, fun g1 => ?_⟩
  · rw [if_neg g1] at k
    first | exact e_241_28 c1 (fun _ => by omega) hv k | exact e_241_28 c2 (fun q => (fl3 q).elim) hv k
  · rw [if_pos g1] at k
    refine x_aload_n i_241_22 rfl ?_
    refine n_iconst 3 i_241_23 rfl ?_
    refine x_iload_n i_241_24 rfl ?_
    refine x_vh (r := []) (lj := [some _, some _, some _]) i_241_25 w_245 ob_170 [_, _] rfl rfl (Nat.le_of_ble_eq_true rfl) (Nat.le_of_ble_eq_true rfl) rfl ?_
    refine e_245 c1 (by omega) (fun M2 c2 f2 => rt_n ?_)
    have k := k.tr f2
    first | exact e_241_28 c1 (fun _ => by omega) hv k | exact e_241_28 c2 (fun q => (fl3 q).elim) hv k
end RDF
