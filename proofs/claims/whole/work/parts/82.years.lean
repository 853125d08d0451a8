/-! years -/
theorem s125_o {G : HA} {m o k : Nat} (h : ¬ (o = 146 ∧ k = 0)) : (s_125 G m).2 o k = G o k := by
  unfold s_125
  split
  · show a_up G 146 0 _ o k = _; rw [a_up_def, if_neg h]
  · show a_up G 146 0 _ o k = _; rw [a_up_def, if_neg h]
theorem s126_2 (G : HA) : (s_126 G).2 = (s_125 G 6).2 := by unfold s_126; split <;> rfl
theorem s24_g (n : Nat) (A G : HA) : (s_24 n A G).2.2 = (if (s_125 G 8).1 < 3 then (s_125 (s_125 G 8).2 6).2 else if (s_125 G 8).1 < 6 then (s_125 (s_125 G 8).2 n).2 else (s_125 (s_125 (s_125 G 8).2 n).2 6).2) := by
  unfold s_24
  by_cases c : 3 ≤ (s_125 G 8).1
  · rw [if_pos c, if_neg (show ¬ (s_125 G 8).1 < 3 by omega)]
    by_cases c3 : (s_125 G 8).1 = 3
    · rw [if_pos c3, if_pos (by omega)]
    · rw [if_neg c3]
      by_cases c4 : (s_125 G 8).1 = 4
      · rw [if_pos c4, if_pos (by omega)]
      · rw [if_neg c4]
        by_cases c5 : (s_125 G 8).1 = 5
        · rw [if_pos c5, if_pos (by omega)]
        · rw [if_neg c5, if_neg (by omega), ← s126_2]
  · rw [if_neg c, if_pos (show (s_125 G 8).1 < 3 by omega), ← s126_2]
    split
    · dsimp only
    · split <;> dsimp only
theorem s24_o {n : Nat} {A G : HA} {o k : Nat} (h : ¬ (o = 146 ∧ k = 0)) : (s_24 n A G).2.2 o k = G o k := by
  rw [s24_g]
  split
  · rw [s125_o h, s125_o h]
  · split
    · rw [s125_o h, s125_o h]
    · rw [s125_o h, s125_o h, s125_o h]
theorem s24_le (n : Nat) (A G : HA) : (s_24 n A G).2.2 146 0 ≤ 30010 := by
  rw [s24_g]
  split
  · exact s125_le _ _
  · split <;> exact s125_le _ _
def yc (n : Nat) : Nat → HA → HA → Nat → Nat × HA × HA
  | 0, A, G, c => (c, A, G)
  | k + 1, A, G, c => yc n k (s_24 n A G).2.1 (s_24 n A G).2.2 (c + if (s_24 n A G).1 < 2147483648 then 1 else 0)
def yr (n : Nat) : Nat → HA → Nat → Nat × HA
  | 0, B, c => (c, B)
  | k + 1, B, c => yr n k (s_220 n B).2 (c + if (s_220 n B).1 < 2147483648 then 1 else 0)
def yrs (n what c : Nat) (A : HA) : Nat := if what = 0 then s_91 n A else if what = 1 then s_69 n A 1 else c
/-! the reference's acts leave its draws alone -/
section K10
variable {n : Nat}
theorem k170 (h : n ≤ 5) (B : HA) (fr : Nat) : s_170 n B fr 9 10 = B 9 10 := s170_o h B (by omega) (by omega) (by omega) (by omega)
theorem k169 (h : n ≤ 5) (B : HA) (fr t : Nat) : (s_169 n B fr t).2 9 10 = B 9 10 := by
  have e := k170 h B fr
  unfold s_169
  split
  · split
    · split
      · dsimp only; rw [a_up_def, if_neg (by omega), e]
      · dsimp only; rw [a_up_def, if_neg (by omega), e]
    · dsimp only; rw [a_up_def, if_neg (by omega), e]
  · exact e
theorem kbec (B : HA) (s v : Nat) : bec B s v 9 10 = B 9 10 := bec_o (by omega) (by omega) (by omega)
theorem k166 (B : HA) (k : Nat) : s_166 n B k 9 10 = B 9 10 := by unfold s_166; split <;> rfl
theorem k195 (B : HA) (s : Nat) : s_195 n B s 9 10 = B 9 10 := s195_o B (by omega) (by omega)
theorem k171 (h : n ≤ 5) (B : HA) (s : Nat) : s_171 n B s 9 10 = B 9 10 := s171_9 h B
theorem k167 (h : n ≤ 5) (B : HA) : s_167 n B 9 10 = B 9 10 := by
  have L : ∀ d (B : HA) t, s_167_8 n d B t 9 10 = B 9 10 := by
    intro d
    induction d with
    | zero => intro B t; rfl
    | succ d ih =>
      intro B t
      unfold s_167_8
      repeat' (first | (show a_up _ 6 2 3 9 10 = _; rw [a_up_o (by omega), k170 h]) | rw [ih, k169 h] | rw [ih, kbec, k169 h] | split)
  unfold s_167
  rw [L, kbec]
theorem k164 (h : n ≤ 5) (B : HA) (k : Nat) : (s_164 n B k).2 9 10 = B 9 10 := by
  have L : ∀ d (B : HA) x t, (s_164_76 n d B x t).2 9 10 = B 9 10 := by
    intro d
    induction d with
    | zero => intro B x t; rfl
    | succ d ih =>
      intro B x t
      unfold s_164_76
      repeat' (first | (show a_up _ 6 2 1 9 10 = _; rw [a_up_o (by omega), k170 h]) | (show s_167 n _ 9 10 = _; rw [k167 h, k170 h]) | (show s_170 n B 0 9 10 = _; exact k170 h B 0) | rw [ih, k169 h] | rw [ih, kbec, k169 h] | split)
  unfold s_164
  repeat' (first | rfl | (show s_167 n _ 9 10 = _; rw [k167 h, k166]) | rw [L, kbec, k166] | split)
theorem k176 (h : n ≤ 5) (B : HA) (k : Nat) : (s_176 n B k).2 9 10 = B 9 10 := by
  have L : ∀ d (B : HA) x t, (s_176_58 n d B x t).2 9 10 = B 9 10 := by
    intro d
    induction d with
    | zero => intro B x t; rfl
    | succ d ih =>
      intro B x t
      unfold s_176_58
      repeat' (first | (dsimp only; rw [a_up_o (by omega), k170 h]) | (show s_170 n B 0 9 10 = _; exact k170 h B 0) | rw [ih, k169 h] | rw [ih, kbec, k169 h] | split)
  unfold s_176
  repeat' (first | rfl | rw [L, kbec, k166] | split)
theorem k178 (h : n ≤ 5) (B : HA) (k : Nat) : (s_178 n B k).2 9 10 = B 9 10 := by
  have L : ∀ d (B : HA) t, (s_178_56 n d B t).2 9 10 = B 9 10 := by
    intro d
    induction d with
    | zero => intro B t; rfl
    | succ d ih =>
      intro B t
      unfold s_178_56
      repeat' (first | (dsimp only; rw [a_up_o (by omega), k170 h]) | rw [ih, k169 h] | rw [ih, kbec, k169 h] | split)
  unfold s_178
  repeat' (first | rfl | rw [L, kbec, k166] | split)
theorem k191 (h : n ≤ 5) (B : HA) (a b c : Nat) : s_191 n B a b c 9 10 = B 9 10 := by
  have L1 : ∀ l3 l5 d (B : HA) t, s_191_144 n d B a l3 l5 t 9 10 = B 9 10 := by
    intro l3 l5 d
    induction d with
    | zero => intro B t; rfl
    | succ d ih =>
      intro B t
      unfold s_191_144
      repeat' (first | (dsimp only; rw [a_up_o (by omega), k170 h]) | exact k170 h B a | exact ih _ _ | rw [ih, k169 h] | rw [ih, kbec, k169 h] | split)
  have L2 : ∀ l3 l4 l5 d (B : HA) t, s_191_44 n d B a b l3 l4 l5 t 9 10 = B 9 10 := by
    intro l3 l4 l5 d
    induction d with
    | zero => intro B t; rfl
    | succ d ih =>
      intro B t
      unfold s_191_44
      repeat' (first | exact k170 h B a | rw [L1, kbec, k170 h] | exact ih _ _ | rw [ih, k169 h] | rw [ih, kbec, k169 h] | split)
  unfold s_191
  repeat' (first | rfl | rw [L1, kbec] | rw [L2, kbec] | rw [L2] | split)
theorem k187 (h : n ≤ 5) (B : HA) (s k : Nat) : (s_187 n B s k).2 9 10 = B 9 10 := by
  unfold s_187
  repeat' (first | rfl | (show s_191 n _ _ _ _ 9 10 = _; rw [k191 h, k166]) | split)
theorem k181 (h : n ≤ 5) (B : HA) (s : Nat) : (s_181 n B s).2 9 10 = B 9 10 := by
  unfold s_181
  repeat' (first | rfl | exact k171 h B s | split)
theorem k183 (B : HA) (s : Nat) : (s_183 n B s).2 9 10 = B 9 10 := by
  unfold s_183
  repeat' (first | rfl | split)
theorem k194 (B : HA) (s : Nat) : (s_194 n B s).2 9 10 = B 9 10 := by
  unfold s_194
  repeat' (first | rfl | exact k195 B s | (show s_195 n (bec _ _ _) s 9 10 = _; rw [k195, kbec]) | split)
theorem s222_2 (B : HA) : (s_222 n B).2 = (s_221 n B 6).2 := by unfold s_222; split <;> rfl
/-- a drawn act, told apart -/
theorem s220_10 (h : n ≤ 5) (B : HA) : (s_220 n B).2 9 10 = (if (s_221 n B 8).1 < 3 then (s_221 n (s_221 n B 8).2 6).2 9 10 else if (s_221 n B 8).1 < 6 then (s_221 n (s_221 n B 8).2 n).2 9 10 else (s_221 n (s_221 n (s_221 n B 8).2 n).2 6).2 9 10) := by
  unfold s_220
  by_cases c : 3 ≤ (s_221 n B 8).1
  · rw [if_pos c, if_neg (show ¬ (s_221 n B 8).1 < 3 by omega)]
    by_cases c6 : 6 ≤ (s_221 n B 8).1
    · rw [if_pos c6, if_neg (show ¬ (s_221 n B 8).1 < 6 by omega)]
      dsimp only
      rw [k187 h, s222_2]
    · rw [if_neg c6, if_pos (show (s_221 n B 8).1 < 6 by omega)]
      split
      · dsimp only; rw [k181 h]
      · split
        · dsimp only; rw [k183]
        · dsimp only; rw [k194]
  · rw [if_neg c, if_pos (show (s_221 n B 8).1 < 3 by omega)]
    split
    · dsimp only; rw [k164 h, s222_2]
    · split
      · dsimp only; rw [k176 h, s222_2]
      · dsimp only; rw [k178 h, s222_2]
theorem s220_le (B : HA) (h5 : n ≤ 5) : (s_220 n B).2 9 10 ≤ 30010 := by
  rw [s220_10 h5]
  split
  · exact s221_le _ _ _
  · split <;> exact s221_le _ _ _
end K10
section YRS
variable {sc : a_Sc} {fd : Nat} {M : a_Mm} {A B : HA} {Q : Option Value → a_Hp → Prop} {n : Nat}
theorem d_23 (r : RC M 1 n A) {l1 l2 l3 : Nat} (h1 : l1 < 4294967296) (h2 : l2 < 4294967296) (h3 : l3 < 4294967296) (k0 : ¬ (l1 ≤ 9999 ∧ 1 ≤ l2 ∧ l2 ≤ 40) → Q (some (.int (N 4294967293))) (a_hp sc fd M)) (k1 : (l1 ≤ 9999 ∧ 1 ≤ l2 ∧ l2 ≤ 40) → ¬ l3 ≤ 2 → Q (some (.int (N 4294967294))) (a_hp sc fd M)) (k : (l1 ≤ 9999 ∧ 1 ≤ l2 ∧ l2 ≤ 40) → l3 ≤ 2 → ∀ M' C G, EQ C A → WN n C → G 146 0 = l1 → (∀ o k, (o < 10 ∨ 19 ≤ o) → ¬ (o = 146 ∧ k = 0) → M' o k = M o k) → Q (some (.int (N (yrs n l3 (yc n l2 C G 0).1 (yc n l2 C G 0).2.1)))) (a_hp sc fd M')) : a_Ex 23 0 [some (.ref 0), some (.int (N l1)), some (.int (N l2)), some (.int (N l3)), none, none] [] (a_hp sc fd M) Q := by
  have no : ¬ (l1 ≤ 9999 ∧ 1 ≤ l2 ∧ l2 ≤ 40) → a_Ex 23 22 [some (.ref 0), some (.int (N l1)), some (.int (N l2)), some (.int (N l3)), none, none] [] (a_hp sc fd M) Q := fun g => by
    refine n_bipush 4294967293 i_23_22 rfl ?_
    refine x_iret i_23_24 rn_23 rfl ?_
    exact k0 g
  refine x_iload_n i_23_0 rfl ?_
  refine n_zltU h1 i_23_1 ⟨fun g => no (by omega), fun g1 => ?_⟩
  refine x_iload_n i_23_4 rfl ?_
  refine n_sipush 9999 i_23_5 rfl ?_
  refine x_igtN (by omega) (by omega) i_23_8 ⟨fun g => no (by omega), fun g2 => ?_⟩
  refine x_iload_n i_23_11 rfl ?_
  refine n_iconst 1 i_23_12 rfl ?_
  refine n_iltU h2 (by omega) i_23_13 ⟨fun g => no (by omega), fun g3 => ?_⟩
  refine x_iload_n i_23_16 rfl ?_
  refine n_bipush 40 i_23_17 rfl ?_
  refine x_ileN (by omega) (by omega) i_23_19 ⟨fun g4 => ?_, fun g => no (by omega)⟩
  have ok : l1 ≤ 9999 ∧ 1 ≤ l2 ∧ l2 ≤ 40 := by omega
  have no2 : ¬ l3 ≤ 2 → a_Ex 23 34 [some (.ref 0), some (.int (N l1)), some (.int (N l2)), some (.int (N l3)), none, none] [] (a_hp sc fd M) Q := fun g => by
    refine n_bipush 4294967294 i_23_34 rfl ?_
    refine x_iret i_23_36 rn_23 rfl ?_
    exact k1 ok g
  refine x_iload_n i_23_25 rfl ?_
  refine n_zltU h3 i_23_26 ⟨fun g => no2 (by omega), fun g5 => ?_⟩
  refine x_iload_n i_23_29 rfl ?_
  refine n_iconst 2 i_23_30 rfl ?_
  refine x_ileN (by omega) (by omega) i_23_31 ⟨fun g6 => ?_, fun g => no2 g⟩
  refine x_aload_n i_23_37 rfl ?_
  refine x_gr i_23_38 ob_0 gr_0_1.1 gr_0_1.2 (rt_0_1 _) ?_
  refine x_aload_n i_23_41 rfl ?_
  refine x_gr i_23_42 ob_0 gr_0_0.1 gr_0_0.2 (rt_0_0 _) ?_
  refine x_vh (r := []) (lj := [some _, some _]) i_23_45 w_50 hb10.ob [_] rfl rfl (Nat.le_of_ble_eq_true rfl) (Nat.le_of_ble_eq_true rfl) rfl ?_
  refine c_50 hb10 hb1 (by omega) r (fun M1 C e1 r1 f1 => rt_n ?_)
  obtain ⟨G0, r2⟩ := RX.of r1
  refine x_aload_n i_23_48 rfl ?_
  refine x_gr i_23_49 ob_0 gr_0_8.1 gr_0_8.2 (rt_0_8 _) ?_
  refine x_iload_n i_23_52 rfl ?_
  refine n_pX i_23_53 r2 ob_146 pf_5_0 (by omega) (fun M2 r3 => ?_)
  have hG : (a_up G0 146 0 l1) 146 0 = l1 := by rw [a_up_def, if_pos ⟨rfl, rfl⟩]
  have f2 : ∀ o k, (o < 10 ∨ 19 ≤ o) → ¬ (o = 146 ∧ k = 0) → M o k = N ((a_up G0 146 0 l1) o k) := fun o k q1 q2 => by
    rw [a_up_def, if_neg q2, ← r2.g k (by omega)]
    exact (f1 o k (by omega)).symm
  have k := k ok g6
  have fin : ∀ (M' : a_Mm) (A' G' : HA) (c : Nat), RX M' 10 n A' G' → (∀ o k, (o < 10 ∨ 19 ≤ o) → ¬ (o = 146 ∧ k = 0) → M' o k = M o k) → yc n l2 C (a_up G0 146 0 l1) 0 = (c, A', G') → c ≤ 40 → a_Ex 23 84 [some (.ref 0), none, some (.int (N l2)), some (.int (N l3)), some (.int (N c)), none] [] (a_hp sc fd M') Q := fun M' A' G' c rX hf he hc => by
    have k := k M' C _ e1 r1.w hG hf
    rw [he] at k
    unfold yrs at k
    refine x_iload_n i_23_84 rfl ?_
    refine x_zneN (by omega) i_23_85 ⟨fun q => ?_, fun q => ?_⟩
    · rw [if_neg q] at k
      refine x_iload_n i_23_96 rfl ?_
      refine n_iconst 1 i_23_97 rfl ?_
      refine x_ineN (by omega) (by omega) i_23_98 ⟨fun q1 => ?_, fun q1 => ?_⟩
      · rw [if_neg q1] at k
        refine x_iload i_23_111 rfl ?_
        refine x_iret i_23_113 rn_23 rfl ?_
        exact k
      · rw [if_pos q1] at k
        refine x_aload_n i_23_101 rfl ?_
        refine x_gr i_23_102 ob_0 gr_0_1.1 gr_0_1.2 (rt_0_1 _) ?_
        refine x_vh (r := []) (lj := [some _]) i_23_105 w_68 hb10.ob [] rfl rfl (Nat.le_of_ble_eq_true rfl) (Nat.le_of_ble_eq_true rfl) rfl ?_
        refine c_68 hb10 rX.1 (fun _ => rt_i ?_)
        refine x_goto i_23_108 ?_
        refine x_iret i_23_113 rn_23 rfl ?_
        exact k
    · rw [if_pos q] at k
      refine x_aload_n i_23_88 rfl ?_
      refine x_gr i_23_89 ob_0 gr_0_1.1 gr_0_1.2 (rt_0_1 _) ?_
      refine x_vh (r := []) (lj := [some _, none, none]) i_23_92 w_91 hb10.ob [] rfl rfl (Nat.le_of_ble_eq_true rfl) (Nat.le_of_ble_eq_true rfl) rfl ?_
      refine c_91 hb10 rX.1 (rt_i ?_)
      refine x_iret i_23_95 rn_23 rfl ?_
      exact k
  have L : ∀ d i c (M' : a_Mm) (A' G' : HA), l2 - i = d → i ≤ l2 → c ≤ i → RX M' 10 n A' G' → G' 146 0 ≤ 30010 → (∀ o k, (o < 10 ∨ 19 ≤ o) → ¬ (o = 146 ∧ k = 0) → M' o k = M o k) → yc n l2 C (a_up G0 146 0 l1) 0 = yc n d A' G' c → a_Ex 23 62 [some (.ref 0), none, some (.int (N l2)), some (.int (N l3)), some (.int (N c)), some (.int (N i))] [] (a_hp sc fd M') Q := by
    intro d
    induction d with
    | zero =>
      intro i c M' A' G' hd hi hc rX hg hf he
      refine x_iload i_23_62 rfl ?_
      refine x_iload_n i_23_64 rfl ?_
      refine x_igeN (by omega) (by omega) i_23_65 ⟨fun _ => ?_, fun q => absurd (by omega) q⟩
      refine x_wk (a_wk.s (a_wk.s (a_wk.s (a_wk.s (a_wk.s (a_wk.d rfl a_wk.n)))))) ?_
      exact fin M' A' G' c rX hf he (by omega)
    | succ d ih =>
      intro i c M' A' G' hd hi hc rX hg hf he
      refine x_iload i_23_62 rfl ?_
      refine x_iload_n i_23_64 rfl ?_
      refine x_igeN (by omega) (by omega) i_23_65 ⟨fun q => absurd q (by omega), fun _ => ?_⟩
      refine x_aload_n i_23_68 rfl ?_
      refine x_vh (r := []) (lj := [some _, none, none]) i_23_69 w_24 ob_0 [] rfl rfl (Nat.le_of_ble_eq_true rfl) (Nat.le_of_ble_eq_true rfl) rfl ?_
      refine c_24 rX hg (fun q M3 r4 => rt_i ?_)
      have hf3 : ∀ o k, (o < 10 ∨ 19 ≤ o) → ¬ (o = 146 ∧ k = 0) → M3 o k = M o k := fun o k q1 q2 => by
        rw [r4.g k (by omega)]
        show N ((s_24 n A' G').2.2 o k) = _
        rw [s24_o q2, ← rX.g k (by omega)]
        exact hf o k q1 q2
      refine n_zltU (by omega) i_23_72 ⟨fun g => ?_, fun g => ?_⟩
      · skip
        refine n_iinc 1 i_23_78 rfl rfl rfl rfl ?_
        refine x_goto i_23_81 ?_
        exact ih (i + 1) c M3 _ _ (by omega) (by omega) (by omega) r4 (s24_le _ _ _) hf3 (he.trans (by show yc n d _ _ (c + if _ then 1 else 0) = _; rw [if_neg (by omega)]; rfl))
      · skip
        refine n_iinc 1 i_23_75 rfl rfl rfl rfl ?_
        refine n_iinc 1 i_23_78 rfl rfl rfl rfl ?_
        refine x_goto i_23_81 ?_
        exact ih (i + 1) (c + 1) M3 _ _ (by omega) (by omega) (by omega) r4 (s24_le _ _ _) hf3 (he.trans (by show yc n d _ _ (c + if _ then 1 else 0) = _; rw [if_pos (by omega)]))
  refine n_iconst 0 i_23_56 rfl ?_
  refine x_istore i_23_57 rfl rfl ?_
  refine n_iconst 0 i_23_59 rfl ?_
  refine x_istore i_23_60 rfl rfl ?_
  refine x_wk (a_wk.s (a_wk.d rfl (a_wk.s (a_wk.s (a_wk.s (a_wk.s a_wk.n)))))) ?_
  exact L l2 0 0 M2 C _ (by omega) (Nat.zero_le _) (Nat.le_refl _) r3 (by rw [hG]; omega) (fun o k q1 q2 => by rw [r3.g k (by omega), ← f2 o k q1 q2]) rfl
theorem e_219 (r : RM M n B) {l1 l2 l3 : Nat} (h1 : l1 < 4294967296) (h2 : l2 < 4294967296) (h3 : l3 < 4294967296) (k0 : ¬ (l1 ≤ 9999 ∧ 1 ≤ l2 ∧ l2 ≤ 40) → ∀ M', RM M' n (a_up B 9 0 0) → FT M M' → Q (some (.int (N 4294967293))) (a_hp sc fd M')) (k1 : (l1 ≤ 9999 ∧ 1 ≤ l2 ∧ l2 ≤ 40) → ¬ l3 ≤ 2 → ∀ M', RM M' n (a_up B 9 0 0) → FT M M' → Q (some (.int (N 4294967294))) (a_hp sc fd M')) (k : (l1 ≤ 9999 ∧ 1 ≤ l2 ∧ l2 ≤ 40) → l3 ≤ 2 → ∀ M' C, EQ B C → RM M' n C → FT M M' → Q (some (.int (N (if l3 = 0 then s_223 n (yr n l2 (a_up (a_up B 9 0 0) 9 10 l1) 0).2 else if l3 = 1 then s_158 n (yr n l2 (a_up (a_up B 9 0 0) 9 10 l1) 0).2 1 1 else (yr n l2 (a_up (a_up B 9 0 0) 9 10 l1) 0).1)))) (a_hp sc fd M')) : a_Ex 219 0 [some (.ref 170), some (.int (N l1)), some (.int (N l2)), some (.int (N l3)), none, none] [] (a_hp sc fd M) Q := by
  refine x_aload_n i_219_0 rfl ?_
  refine n_iconst 0 i_219_1 rfl ?_
  refine n_pM i_219_2 r pf_8_0 (by omega) (fun M0 r0 f0 => ?_)
  refine x_iload_n i_219_5 rfl ?_
  have q0 : FT M M0 := fun o k h => f0 o k (by omega)
  have no : ¬ (l1 ≤ 9999 ∧ 1 ≤ l2 ∧ l2 ≤ 40) → a_Ex 219 29 [some (.ref 170), some (.int (N l1)), some (.int (N l2)), some (.int (N l3)), none, none] [] (a_hp sc fd M0) Q := fun g => by
    refine n_bipush 4294967293 i_219_29 rfl ?_
    refine x_iret i_219_31 rn_219 rfl ?_
    exact k0 g M0 r0 q0
  refine x_i2l i_219_6 ?_
  refine n_lconst 0 i_219_7 rfl ?_
  refine n_ldc2 9999 i_219_8 rfl ?_
  refine n_within i_219_11 (Nat.le_of_ble_eq_true rfl) h1 (by omega) (by omega) ⟨fun g1 => ?_, fun g1 => ?_⟩
  · refine x_zeqN (by omega) i_219_14 ⟨fun q => absurd q (by omega), fun _ => ?_⟩
    refine x_iload_n i_219_17 rfl ?_
    refine x_i2l i_219_18 ?_
    refine n_lconst 1 i_219_19 rfl ?_
    refine n_ldc2 40 i_219_20 rfl ?_
    refine n_within i_219_23 (Nat.le_of_ble_eq_true rfl) h2 (by omega) (by omega) ⟨fun g2 => ?_, fun g2 => ?_⟩
    · have ok : l1 ≤ 9999 ∧ 1 ≤ l2 ∧ l2 ≤ 40 := by omega
      refine x_zneN (by omega) i_219_26 ⟨fun _ => ?_, fun q => absurd q (by omega)⟩
      refine x_iload_n i_219_32 rfl ?_
      refine x_i2l i_219_33 ?_
      refine n_lconst 0 i_219_34 rfl ?_
      refine n_ldc2 2 i_219_35 rfl ?_
      refine n_within i_219_38 (Nat.le_of_ble_eq_true rfl) h3 (by omega) (by omega) ⟨fun g3 => ?_, fun g3 => ?_⟩
      · refine x_zneN (by omega) i_219_41 ⟨fun _ => ?_, fun q => absurd q (by omega)⟩
        have k := k ok g3.2
        refine x_aload_n i_219_47 rfl ?_
        refine x_gr i_219_48 ob_170 gr_8_1.1 gr_8_1.2 (rt_170_1 _) ?_
        refine n_iconst 0 i_219_51 rfl ?_
        refine x_aload_n i_219_52 rfl ?_
        refine x_gr i_219_53 ob_170 gr_8_3.1 gr_8_3.2 (rt_170_3 _) ?_
        refine n_iconst 0 i_219_56 rfl ?_
        refine x_sh (r := []) (lj := [some _, some _, some _, some _, none]) i_219_57 ws_149 [_, _, _, _] rfl rfl (Nat.le_of_ble_eq_true rfl) (Nat.le_of_ble_eq_true rfl) rfl ?_
        refine c_149 ar_171 ar_173 (by omega) (by omega) (by omega) (by omega) (by omega) (rt_n ?_)
        have hc : ∀ o k, ¬ o = 173 → cpr M0 171 0 173 0 216 o k = M0 o k := fun o k h => by unfold cpr; rw [if_neg (by omega)]
        have hk : ∀ k, k < 216 → cpr M0 171 0 173 0 216 173 k = M0 171 k := fun k hk => by unfold cpr; rw [if_pos (by omega), show 0 + (k - 0) = k by omega]
        generalize cpr M0 171 0 173 0 216 = M1 at hc hk ⊢
        have r1 : RM M1 n (a_up B 9 0 0) := r0.same (fun k _ => hc _ _ (by omega)) (fun k _ => hc _ _ (by omega))
        have s1 : RS (M1 173) n B := (r0.rs.eq ((EQ.refl B).l 9 0 0 (by omega))).congr hk
        refine x_aload_n i_219_60 rfl ?_
        refine x_iload_n i_219_61 rfl ?_
        refine n_pM i_219_62 r1 pf_8_10 (by omega) (fun M2 r2 f2 => ?_)
        refine n_iconst 0 i_219_65 rfl ?_
        refine x_istore i_219_66 rfl rfl ?_
        refine n_iconst 0 i_219_68 rfl ?_
        refine x_istore i_219_69 rfl rfl ?_
        have q2 : FT M M2 := fun o k h => (f2 o k (by omega)).trans ((hc o k (by omega)).trans (f0 o k (by omega)))
        have s2 : RS (M2 173) n B := s1.congr (fun k _ => f2 _ _ (by omega))
        have fin : ∀ (M' : a_Mm) (B' : HA) (c : Nat), RM M' n B' → FT M M' → RS (M' 173) n B → yr n l2 (a_up (a_up B 9 0 0) 9 10 l1) 0 = (c, B') → c ≤ 40 → a_Ex 219 100 [some (.ref 170), none, none, some (.int (N l3)), some (.int (N c)), none] [] (a_hp sc fd M') Q := fun M' B' c rB hf hs he hc => by
          rw [he] at k
          have fin2 : ∀ v : Nat, v = (if l3 = 0 then s_223 n B' else if l3 = 1 then s_158 n B' 1 1 else c) → a_Ex 219 127 [some (.ref 170), none, none, some (.int (N l3)), some (.int (N c)), none] [.int (N v)] (a_hp sc fd M') Q := fun v hv => by
            subst hv
            refine x_istore i_219_127 rfl rfl ?_
            refine x_aload_n i_219_129 rfl ?_
            refine x_gr i_219_130 ob_170 gr_8_3.1 gr_8_3.2 (rt_170_3 _) ?_
            refine n_iconst 0 i_219_133 rfl ?_
            refine x_aload_n i_219_134 rfl ?_
            refine x_gr i_219_135 ob_170 gr_8_1.1 gr_8_1.2 (rt_170_1 _) ?_
            refine n_iconst 0 i_219_138 rfl ?_
            refine x_sh (r := []) (lj := [some _, some _, some _, some _, none]) i_219_139 ws_149 [_, _, _, _] rfl rfl (Nat.le_of_ble_eq_true rfl) (Nat.le_of_ble_eq_true rfl) rfl ?_
            refine c_149 ar_173 ar_171 (by omega) (by omega) (by omega) (by omega) (by omega) (rt_n ?_)
            have hc3 : ∀ o k, ¬ (o = 171 ∧ k < 216) → cpr M' 173 0 171 0 216 o k = M' o k := fun o k h => by unfold cpr; rw [if_neg (by omega)]
            have hk3 : ∀ k, k < 216 → cpr M' 173 0 171 0 216 171 k = M' 173 k := fun k hk => by unfold cpr; rw [if_pos (by omega), show 0 + (k - 0) = k by omega]
            generalize cpr M' 173 0 171 0 216 = M3 at hc3 hk3 ⊢
            refine x_iload i_219_142 rfl ?_
            refine x_iret i_219_144 rn_219 rfl ?_
            obtain ⟨C, e1, rC⟩ := (hs.congr hk3).rm
            exact k M3 C e1 rC (fun o k h => (hc3 o k (by omega)).trans (hf o k h))
          refine x_iload_n i_219_100 rfl ?_
          refine x_zneN (by omega) i_219_101 ⟨fun q => ?_, fun q => ?_⟩
          · skip
            refine x_iload_n i_219_111 rfl ?_
            refine n_iconst 1 i_219_112 rfl ?_
            refine x_ineN (by omega) (by omega) i_219_113 ⟨fun q1 => ?_, fun q1 => ?_⟩
            · skip
              refine x_iload i_219_125 rfl ?_
              exact fin2 c (by rw [if_neg q, if_neg q1])
            · skip
              refine x_aload_n i_219_116 rfl ?_
              refine n_iconst 1 i_219_117 rfl ?_
              refine n_iconst 1 i_219_118 rfl ?_
              refine x_vh (r := []) (lj := [some _, some _, some _, none, none]) i_219_119 w_158 ob_170 [_, _] rfl rfl (Nat.le_of_ble_eq_true rfl) (Nat.le_of_ble_eq_true rfl) rfl ?_
              refine c_158 rB (by omega) (by omega) (fun _ => rt_i ?_)
              refine x_goto i_219_122 ?_
              exact fin2 _ (by rw [if_neg q, if_pos q1])
          · skip
            refine x_aload_n i_219_104 rfl ?_
            refine x_vh (r := []) (lj := [some _, none, none]) i_219_105 w_223 ob_170 [] rfl rfl (Nat.le_of_ble_eq_true rfl) (Nat.le_of_ble_eq_true rfl) rfl ?_
            refine c_223 rB (rt_i ?_)
            refine x_goto i_219_108 ?_
            exact fin2 _ (by rw [if_pos q])
        have L : ∀ d i c (M' : a_Mm) (B' : HA), l2 - i = d → i ≤ l2 → c ≤ i → RM M' n B' → B' 9 10 ≤ 30010 → FT M M' → RS (M' 173) n B → yr n l2 (a_up (a_up B 9 0 0) 9 10 l1) 0 = yr n d B' c → a_Ex 219 71 [some (.ref 170), none, some (.int (N l2)), some (.int (N l3)), some (.int (N c)), some (.int (N i))] [] (a_hp sc fd M') Q := by
          intro d
          induction d with
          | zero =>
            intro i c M' B' hd hi hc rB hg hf hs he
            refine x_iload i_219_71 rfl ?_
            refine x_iload_n i_219_73 rfl ?_
            refine x_igeN (by omega) (by omega) i_219_74 ⟨fun _ => ?_, fun q => absurd (by omega) q⟩
            refine x_wk (a_wk.s (a_wk.s (a_wk.d rfl (a_wk.s (a_wk.s (a_wk.d rfl a_wk.n)))))) ?_
            exact fin M' B' c rB hf hs he (by omega)
          | succ d ih =>
            intro i c M' B' hd hi hc rB hg hf hs he
            refine x_iload i_219_71 rfl ?_
            refine x_iload_n i_219_73 rfl ?_
            refine x_igeN (by omega) (by omega) i_219_74 ⟨fun q => absurd q (by omega), fun _ => ?_⟩
            refine x_iload i_219_77 rfl ?_
            refine x_aload_n i_219_79 rfl ?_
            refine x_vh (r := [_]) (lj := [some _, none, none]) i_219_80 w_220 ob_170 [] rfl rfl (Nat.le_of_ble_eq_true rfl) (Nat.le_of_ble_eq_true rfl) rfl ?_
            refine c_220 rB hg (fun q M3 r4 f4 => rt_i ?_)
            have hf3 : FT M M3 := fun o k h => (f4 o k (by omega)).trans (hf o k h)
            have hs3 : RS (M3 173) n B := hs.congr (fun k _ => f4 _ _ (by omega))
            have le3 : (s_220 n B').2 9 10 ≤ 30010 := s220_le B' rB.n5
            refine n_zltU (by omega) i_219_83 ⟨fun g => ?_, fun g => ?_⟩
            · skip
              refine n_iconst 0 i_219_90 rfl ?_
              refine x_iaddN i_219_91 ?_
              refine x_istore i_219_92 rfl rfl ?_
              refine n_iinc 1 i_219_94 rfl rfl rfl rfl ?_
              refine x_goto i_219_97 ?_
              exact ih (i + 1) c M3 _ (by omega) (by omega) (by omega) r4 le3 hf3 hs3 (he.trans (by show yr n d _ (c + if _ then 1 else 0) = _; rw [if_neg (by omega)]; rfl))
            · skip
              refine n_iconst 1 i_219_86 rfl ?_
              refine x_goto i_219_87 ?_
              refine x_iaddN i_219_91 ?_
              refine x_istore i_219_92 rfl rfl ?_
              refine n_iinc 1 i_219_94 rfl rfl rfl rfl ?_
              refine x_goto i_219_97 ?_
              exact ih (i + 1) (c + 1) M3 _ (by omega) (by omega) (by omega) r4 le3 hf3 hs3 (he.trans (by show yr n d _ (c + if _ then 1 else 0) = _; rw [if_pos (by omega)]))
        refine x_wk (a_wk.s (a_wk.d rfl (a_wk.s (a_wk.s (a_wk.s (a_wk.s a_wk.n)))))) ?_
        exact L l2 0 0 M2 _ (by omega) (Nat.zero_le _) (Nat.le_refl _) r2 (by rw [a_up_def, if_pos ⟨rfl, rfl⟩]; omega) q2 s2 rfl
      · refine x_zneN (by omega) i_219_41 ⟨fun q => absurd rfl q, fun _ => ?_⟩
        refine n_bipush 4294967294 i_219_44 rfl ?_
        refine x_iret i_219_46 rn_219 rfl ?_
        exact k1 ok (by omega) M0 r0 q0
    · refine x_zneN (by omega) i_219_26 ⟨fun q => absurd rfl q, fun _ => no (by omega)⟩
  · refine x_zeqN (by omega) i_219_14 ⟨fun _ => no (by omega), fun q => absurd rfl q⟩
end YRS
theorem s221_e {n m : Nat} {G B : HA} (hm : 1 ≤ m) (h : G 146 0 = B 9 10) : (s_125 G m).1 = (s_221 n B m).1 ∧ (s_125 G m).2 146 0 = (s_221 n B m).2 9 10 := by
  unfold s_125 s_221
  rw [if_pos hm, h]
  exact ⟨rfl, by dsimp only; rw [a_up_def, if_pos ⟨rfl, rfl⟩, a_up_def, if_pos ⟨rfl, rfl⟩]⟩
theorem EQ.s221 {n m : Nat} {A B : HA} (e : EQ A B) : EQ A (s_221 n B m).2 := e.r 9 10 _ (by omega)
theorem x126 {n : Nat} {G B : HA} (h : G 146 0 = B 9 10) : (s_126 G).1 = (s_222 n B).1 := by
  have e := (s221_e (n := n) (m := 6) (by omega) h).1
  unfold s_126 s_222
  rw [e]
  split <;> rfl
theorem s126_lt (G : HA) : (s_126 G).1 < 4294967296 := by
  have h6 : ∀ m, 1 ≤ m → (s_125 G m).1 < m := fun m hm => by
    unfold s_125
    rw [if_pos hm]
    exact Nat.mod_lt _ (by omega)
  unfold s_126
  split
  · show 4294967295 < 4294967296; omega
  · have := h6 6 (by omega); show (s_125 G 6).1 < _; omega
/-- a drawn act is the same -/
theorem x24 {n : Nat} {A B G : HA} (e : EQ A B) (w : WN n A) (r : NR n A) (h : G 146 0 = B 9 10) : (s_24 n A G).1 = (s_220 n B).1 ∧ EQ (s_24 n A G).2.1 (s_220 n B).2 ∧ WN n (s_24 n A G).2.1 ∧ NR n (s_24 n A G).2.1 ∧ (s_24 n A G).2.2 146 0 = (s_220 n B).2 9 10 := by
  have h5 := w.1.2
  have hn := w.1.1
  obtain ⟨a1, a2⟩ := s221_e (n := n) (m := 8) (by omega) h
  obtain ⟨b1, b2⟩ := s221_e (n := n) (m := n) (by omega) a2
  have b6 := (s221_e (n := n) (m := 6) (by omega) a2).2
  have c6 := (s221_e (n := n) (m := 6) (by omega) b2).2
  have x1 := x126 (n := n) a2
  have x2 := x126 (n := n) b2
  have y1 := s126_lt (s_125 G 8).2
  have y2 := s126_lt (s_125 (s_125 G 8).2 n).2
  have l8 : (s_125 G 8).1 < 8 := by
    unfold s_125; rw [if_pos (by omega)]; exact Nat.mod_lt _ (by omega)
  have ln : (s_125 (s_125 G 8).2 n).1 < n := by
    rw [b1]; unfold s_221; exact Nat.mod_lt _ (by omega)
  have last : (s_24 n A G).2.2 146 0 = (s_220 n B).2 9 10 := by
    rw [s24_g, s220_10 h5, ← a1]
    by_cases c : (s_125 G 8).1 < 3
    · rw [if_pos c, if_pos c]; exact b6
    · rw [if_neg c, if_neg c]
      by_cases d : (s_125 G 8).1 < 6
      · rw [if_pos d, if_pos d]; exact b2
      · rw [if_neg d, if_neg d]; exact c6
  have e1 : EQ A (s_221 n B 8).2 := e.s221
  have e2 : EQ A (s_222 n (s_221 n B 8).2).2 := by rw [s222_2]; exact e1.s221
  have e3 : EQ A (s_221 n (s_221 n B 8).2 n).2 := e1.s221
  have e4 : EQ A (s_222 n (s_221 n (s_221 n B 8).2 n).2).2 := by rw [s222_2]; exact e3.s221
  suffices S : (s_24 n A G).1 = (s_220 n B).1 ∧ EQ (s_24 n A G).2.1 (s_220 n B).2 ∧ WN n (s_24 n A G).2.1 ∧ NR n (s_24 n A G).2.1 from ⟨S.1, S.2.1, S.2.2.1, S.2.2.2, last⟩
  clear last
  unfold s_24 s_220
  rw [← a1, ← b1, ← x1, ← x2]
  by_cases c : 3 ≤ (s_125 G 8).1
  · rw [if_pos c, if_pos c]
    by_cases c3 : (s_125 G 8).1 = 3
    · rw [if_pos c3, if_neg (show ¬ 6 ≤ (s_125 G 8).1 by omega), if_pos c3]
      obtain ⟨g1, g2⟩ := x67 (l := (s_125 (s_125 G 8).2 n).1) e3 w
      dsimp only
      exact ⟨g1, g2, wn67 w (by omega), nr67 h5 r⟩
    · rw [if_neg c3]
      by_cases c4 : (s_125 G 8).1 = 4
      · rw [if_pos c4, if_neg (show ¬ 6 ≤ (s_125 G 8).1 by omega), if_neg c3, if_pos c4]
        obtain ⟨g1, g2⟩ := x70 (l := (s_125 (s_125 G 8).2 n).1) e3 w
        dsimp only
        exact ⟨g1, g2, wn70 w (by omega), nr70 r⟩
      · rw [if_neg c4]
        by_cases c5 : (s_125 G 8).1 = 5
        · rw [if_pos c5, if_neg (show ¬ 6 ≤ (s_125 G 8).1 by omega), if_neg c3, if_neg c4]
          obtain ⟨g1, g2⟩ := x80 (l := (s_125 (s_125 G 8).2 n).1) e3 w
          dsimp only
          exact ⟨g1, g2, wn80 w (by omega), nr80 h5 r⟩
        · rw [if_neg c5, if_pos (show 6 ≤ (s_125 G 8).1 by omega)]
          obtain ⟨g1, g2⟩ := x72 (l := (s_125 (s_125 G 8).2 n).1) (k := (s_126 (s_125 (s_125 G 8).2 n).2).1) e4 w
          dsimp only
          exact ⟨g1, g2, wn72 w (by omega) y2, nr72 h5 r⟩
  · rw [if_neg c, if_neg c]
    by_cases c0 : (s_125 G 8).1 = 0
    · rw [if_pos c0, if_pos c0]
      obtain ⟨g1, g2⟩ := x57 (k := (s_126 (s_125 G 8).2).1) e2 w r
      dsimp only
      exact ⟨g1, g2, wn57 w y1, nr57 h5 r⟩
    · rw [if_neg c0, if_neg c0]
      by_cases c1 : (s_125 G 8).1 = 1
      · rw [if_pos c1, if_pos c1]
        obtain ⟨g1, g2⟩ := x64 (k := (s_126 (s_125 G 8).2).1) e2 w
        dsimp only
        exact ⟨g1, g2, wn64 w y1, nr64 h5 r⟩
      · rw [if_neg c1, if_neg c1]
        obtain ⟨g1, g2⟩ := x66 (k := (s_126 (s_125 G 8).2).1) e2 w
        dsimp only
        exact ⟨g1, g2, wn66 w y1, nr66 h5 r⟩
theorem xyc {n : Nat} : ∀ d (A B G : HA) c, EQ A B → WN n A → NR n A → G 146 0 = B 9 10 → (yc n d A G c).1 = (yr n d B c).1 ∧ EQ (yc n d A G c).2.1 (yr n d B c).2
  | 0, A, B, G, c, e, w, r, h => ⟨rfl, e⟩
  | d + 1, A, B, G, c, e, w, r, h => by
    obtain ⟨g1, g2, g3, g4, g5⟩ := x24 e w r h
    have := xyc d _ _ _ (c + if (s_24 n A G).1 < 2147483648 then 1 else 0) g2 g3 g4 g5
    rw [g1] at this
    show (yc n d _ _ (c + if (s_24 n A G).1 < 2147483648 then 1 else 0)).1 = _ ∧ EQ (yc n d _ _ (c + if (s_24 n A G).1 < 2147483648 then 1 else 0)).2.1 _
    rw [g1]
    exact this
theorem x91 {n : Nat} {A B : HA} (e : EQ A B) : s_91 n A = s_223 n B := by
  have L : ∀ d v s, s_91_4 n d A v s = s_223_4 n d B v s := by
    intro d
    induction d with
    | zero => intro v s; rfl
    | succ d ih =>
      intro v s
      unfold s_91_4 s_223_4
      rw [ih, e.a (w := 0) (by omega), Nat.mul_comm]
  exact L 6 0 0
theorem x23 {n l1 l2 l3 : Nat} {A B G : HA} (e : EQ A B) (w : WN n A) (r : NR n A) (h : G 146 0 = l1) : yrs n l3 (yc n l2 A G 0).1 (yc n l2 A G 0).2.1 = (if l3 = 0 then s_223 n (yr n l2 (a_up (a_up B 9 0 0) 9 10 l1) 0).2 else if l3 = 1 then s_158 n (yr n l2 (a_up (a_up B 9 0 0) 9 10 l1) 0).2 1 1 else (yr n l2 (a_up (a_up B 9 0 0) 9 10 l1) 0).1) := by
  have h5 := w.1.2
  obtain ⟨g1, g2⟩ := xyc l2 A (a_up (a_up B 9 0 0) 9 10 l1) G 0 (e.z.r 9 10 _ (by omega)) w r (by rw [a_up_def, if_pos ⟨rfl, rfl⟩]; exact h)
  unfold yrs
  rw [g1, x91 g2, x69 g2 h5]
