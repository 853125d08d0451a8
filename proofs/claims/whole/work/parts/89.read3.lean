/-! the reference's reading of a text -/
def fai (w p : Nat) (t : Nat × Nat × Nat) : Nat × Nat × Nat := if t.2.1 = 0 then (t.1, w, p) else t
def mmr (T : Nat → Nat) (n c : Nat) (t : Nat × Nat × Nat) : Nat × Nat × Nat := if t.2.1 = 0 then (if bth T n t.1 = c then (t.1 + 1, t.2) else (t.1, flw T n t.1, t.1)) else t
def dgR (T : Nat → Nat) (n : Nat) (t : Nat × Nat × Nat) : Nat × (Nat × Nat × Nat) := if t.2.1 = 0 then (if dgt T n t.1 = true then (T t.1 - 48, (t.1 + 1, t.2)) else (4294967295, (t.1, flw T n t.1, t.1))) else (4294967295, t)
def psR (T : Nat → Nat) (n c : Nat) (t : Nat × Nat × Nat) : Nat × (Nat × Nat × Nat) := if t.2.1 = 0 ∧ bth T n t.1 = c then (1, (t.1 + 1, t.2)) else (0, t)
def wnr (T : Nat → Nat) (n : Nat) (t : Nat × Nat × Nat) : Nat := wnd T n (n - t.1) t.1
def rdR (T : Nat → Nat) (n lo hi : Nat) (t : Nat × Nat × Nat) : Nat × (Nat × Nat × Nat) := if t.2.1 = 0 then (if ltr T n t.1 = true then (if lo ≤ kd T t.1 (wnr T n t) 12 0 ∧ kd T t.1 (wnr T n t) 12 0 ≤ hi then (kd T t.1 (wnr T n t) 12 0, (wnr T n t, t.2)) else (kd T t.1 (wnr T n t) 12 0, (wnr T n t, 1, t.1))) else (4294967295, (t.1, 2, t.1))) else (4294967295, t)
def RT (M : a_Mm) (n : Nat) (T : Nat → Nat) (t : Nat × Nat × Nat) (d : Nat) : Prop := (n ≤ 200 ∧ t.1 ≤ n ∧ t.2.1 ≤ 3 ∧ d ≤ 12) ∧ (M 170 19 = N n ∧ M 170 20 = N t.1 ∧ M 170 21 = N t.2.1 ∧ M 170 22 = N t.2.2 ∧ M 170 27 = N d) ∧ ∀ k, k < n → T k < 256 ∧ M 181 k = N (T k)
def FV (M M' : a_Mm) : Prop := ∀ o k, ¬ (o = 170 ∧ (k = 20 ∨ k = 21 ∨ k = 22)) → M' o k = M o k
theorem FV.refl (M : a_Mm) : FV M M := fun _ _ _ => rfl
theorem FV.trans {M M1 M2 : a_Mm} (h : FV M M1) (g : FV M1 M2) : FV M M2 := fun o k a => (g o k a).trans (h o k a)
theorem FV.put {M : a_Mm} {k : Nat} {v : Int32} (hk : k = 20 ∨ k = 21 ∨ k = 22) : FV M (a_up M 170 k v) := fun o j a => by rw [a_up_def, if_neg (by omega)]
section RDE
variable {sc : a_Sc} {fd : Nat} {M M0 : a_Mm} {Q : Option Value → a_Hp → Prop} {n d : Nat} {T : Nat → Nat} {t : Nat × Nat × Nat}
theorem RT.n200 (c : RT M n T t d) : n ≤ 200 := c.1.1
theorem RT.a_n (c : RT M n T t d) : t.1 ≤ n := c.1.2.1
theorem RT.f3 (c : RT M n T t d) : t.2.1 ≤ 3 := c.1.2.2.1
theorem RT.d12 (c : RT M n T t d) : d ≤ 12 := c.1.2.2.2
theorem RT.hln (c : RT M n T t d) : M 170 19 = N n := c.2.1.1
theorem RT.hat (c : RT M n T t d) : M 170 20 = N t.1 := c.2.1.2.1
theorem RT.hft (c : RT M n T t d) : M 170 21 = N t.2.1 := c.2.1.2.2.1
theorem RT.hpl (c : RT M n T t d) : M 170 22 = N t.2.2 := c.2.1.2.2.2.1
theorem RT.hdd (c : RT M n T t d) : M 170 27 = N d := c.2.1.2.2.2.2
theorem RT.t8 (c : RT M n T t d) {k : Nat} (h : k < n) : T k < 256 := (c.2.2 k h).1
theorem RT.tb (c : RT M n T t d) {k : Nat} (h : k < n) : M 181 k = N (T k) := (c.2.2 k h).2
theorem RT.p20 (c : RT M n T t d) {v : Nat} (hv : v ≤ n) : RT (a_up M 170 20 (N v)) n T (v, t.2) d := by
  obtain ⟨⟨h1, h2, h3, h4⟩, ⟨g1, g2, g3, g4, g5⟩, h5⟩ := c
  refine ⟨⟨h1, hv, h3, h4⟩, ⟨?_, ?_, ?_, ?_, ?_⟩, fun k hk => ⟨(h5 k hk).1, ?_⟩⟩
  · rw [a_up_def, if_neg (by omega)]; exact g1
  · rw [a_up_def, if_pos ⟨rfl, rfl⟩]
  · rw [a_up_def, if_neg (by omega)]; exact g3
  · rw [a_up_def, if_neg (by omega)]; exact g4
  · rw [a_up_def, if_neg (by omega)]; exact g5
  · rw [a_up_def, if_neg (by omega)]; exact (h5 k hk).2
theorem RT.p21 (c : RT M n T t d) {v : Nat} (hv : v ≤ 3) : RT (a_up M 170 21 (N v)) n T (t.1, v, t.2.2) d := by
  obtain ⟨⟨h1, h2, h3, h4⟩, ⟨g1, g2, g3, g4, g5⟩, h5⟩ := c
  refine ⟨⟨h1, h2, hv, h4⟩, ⟨?_, ?_, ?_, ?_, ?_⟩, fun k hk => ⟨(h5 k hk).1, ?_⟩⟩
  · rw [a_up_def, if_neg (by omega)]; exact g1
  · rw [a_up_def, if_neg (by omega)]; exact g2
  · rw [a_up_def, if_pos ⟨rfl, rfl⟩]
  · rw [a_up_def, if_neg (by omega)]; exact g4
  · rw [a_up_def, if_neg (by omega)]; exact g5
  · rw [a_up_def, if_neg (by omega)]; exact (h5 k hk).2
theorem RT.p22 (c : RT M n T t d) {v : Nat} : RT (a_up M 170 22 (N v)) n T (t.1, t.2.1, v) d := by
  obtain ⟨⟨h1, h2, h3, h4⟩, ⟨g1, g2, g3, g4, g5⟩, h5⟩ := c
  refine ⟨⟨h1, h2, h3, h4⟩, ⟨?_, ?_, ?_, ?_, ?_⟩, fun k hk => ⟨(h5 k hk).1, ?_⟩⟩
  · rw [a_up_def, if_neg (by omega)]; exact g1
  · rw [a_up_def, if_neg (by omega)]; exact g2
  · rw [a_up_def, if_neg (by omega)]; exact g3
  · rw [a_up_def, if_pos ⟨rfl, rfl⟩]
  · rw [a_up_def, if_neg (by omega)]; exact g5
  · rw [a_up_def, if_neg (by omega)]; exact (h5 k hk).2
theorem n_ldt {i pc : Nat} {lc : a_Lc} {st : List Value} {n' a b s : Nat} {v : Int32} (hi : a_ins i pc = some (.iaload, n', a, b, v)) (c : RT M n T t d) (hs : s < n) (k : a_Ex i (pc + n') lc (.int (N (T s)) :: st) (a_hp sc fd M) Q) : a_Ex i pc lc (.int (N s) :: .ref 181 :: st) (a_hp sc fd M) Q := by
  have := c.n200
  exact n_ld hi ar_181 (by omega) (by omega) (c.tb hs) k
theorem e_244 (c : RT M n T t d) (K : Q (some (.int (N (bth T n t.1)))) (a_hp sc fd M)) : a_Ex 244 0 [some (.ref 170)] [] (a_hp sc fd M) Q := by
  have h2 := c.n200
  have h4 := c.a_n
  unfold bth at K
  refine x_aload_n i_244_0 rfl ?_
  refine n_gi (x := t.1) i_244_1 ob_170 gf_8_20.1 gf_8_20.2 c.hat ?_
  refine x_aload_n i_244_4 rfl ?_
  refine n_gi (x := n) i_244_5 ob_170 gf_8_19.1 gf_8_19.2 c.hln ?_
  refine x_igeN (by omega) (by omega) i_244_8 ⟨fun g1 => ?_, fun g1 => ?_⟩
  · rw [if_neg (by omega)] at K
    refine n_iconst 4294967295 i_244_23 rfl ?_
    refine x_iret i_244_24 rn_244 rfl ?_
    exact K
  · rw [if_pos (by omega)] at K
    have hl : t.1 < n := by omega
    refine x_aload_n i_244_11 rfl ?_
    refine x_gr i_244_12 ob_170 gr_8_17.1 gr_8_17.2 (rt_170_17 _) ?_
    refine x_aload_n i_244_15 rfl ?_
    refine n_gi (x := t.1) i_244_16 ob_170 gf_8_20.1 gf_8_20.2 c.hat ?_
    refine n_ldt i_244_19 c hl ?_
    refine x_goto i_244_20 ?_
    refine x_iret i_244_24 rn_244 rfl ?_
    exact K
theorem rbth_lt (c : RT M n T t d) : bth T n t.1 < 4294967296 := by
  unfold bth
  split
  · rename_i h; have := c.t8 h; omega
  · omega
theorem rdgt_b : (dgt T n t.1 = true) = (48 ≤ bth T n t.1 ∧ bth T n t.1 ≤ 57) := by
  unfold dgt bth
  refine propext ⟨fun g => ?_, fun g => decide_eq_true ?_⟩
  · have := of_decide_eq_true g
    rw [if_pos this.1]; exact this.2
  · by_cases h : t.1 < n
    · rw [if_pos h] at g; exact ⟨h, g⟩
    · rw [if_neg h] at g; omega
theorem rltr_b : (ltr T n t.1 = true) = (97 ≤ bth T n t.1 ∧ bth T n t.1 ≤ 122) := by
  unfold ltr bth
  refine propext ⟨fun g => ?_, fun g => decide_eq_true ?_⟩
  · have := of_decide_eq_true g
    rw [if_pos this.1]; exact this.2
  · by_cases h : t.1 < n
    · rw [if_pos h] at g; exact ⟨h, g⟩
    · rw [if_neg h] at g; omega
theorem e_243 (c : RT M n T t d) (K : Q (some (.int (N (if ltr T n t.1 = true then 1 else 0)))) (a_hp sc fd M)) : a_Ex 243 0 [some (.ref 170)] [] (a_hp sc fd M) Q := by
  have h1 := rbth_lt c
  refine x_aload_n i_243_0 rfl ?_
  refine x_vh (r := []) (lj := [some _]) i_243_1 w_244 ob_170 [] rfl rfl (Nat.le_of_ble_eq_true rfl) (Nat.le_of_ble_eq_true rfl) rfl ?_
  refine e_244 c (rt_i ?_)
  refine x_i2l i_243_4 ?_
  refine n_ldc2 97 i_243_5 rfl ?_
  refine n_ldc2 122 i_243_8 rfl ?_
  refine n_within i_243_11 (Nat.le_of_ble_eq_true rfl) h1 (by omega) (by omega) ⟨fun g1 => ?_, fun g1 => ?_⟩
  · rw [if_pos (by rw [rltr_b]; exact g1)] at K
    refine x_iret i_243_14 rn_243 (by decide +kernel) ?_
    exact K
  · rw [if_neg (by rw [rltr_b]; exact g1)] at K
    refine x_iret i_243_14 rn_243 (by decide +kernel) ?_
    exact K
theorem e_250 (c : RT M n T t d) (K : Q (some (.int (N (if dgt T n t.1 = true then 1 else 0)))) (a_hp sc fd M)) : a_Ex 250 0 [some (.ref 170)] [] (a_hp sc fd M) Q := by
  have h1 := rbth_lt c
  refine x_aload_n i_250_0 rfl ?_
  refine x_vh (r := []) (lj := [some _]) i_250_1 w_244 ob_170 [] rfl rfl (Nat.le_of_ble_eq_true rfl) (Nat.le_of_ble_eq_true rfl) rfl ?_
  refine e_244 c (rt_i ?_)
  refine x_i2l i_250_4 ?_
  refine n_ldc2 48 i_250_5 rfl ?_
  refine n_ldc2 57 i_250_8 rfl ?_
  refine n_within i_250_11 (Nat.le_of_ble_eq_true rfl) h1 (by omega) (by omega) ⟨fun g1 => ?_, fun g1 => ?_⟩
  · rw [if_pos (by rw [rdgt_b]; exact g1)] at K
    refine x_iret i_250_14 rn_250 (by decide +kernel) ?_
    exact K
  · rw [if_neg (by rw [rdgt_b]; exact g1)] at K
    refine x_iret i_250_14 rn_250 (by decide +kernel) ?_
    exact K
theorem e_245 (c : RT M n T t d) {w p : Nat} (hw : w ≤ 3) (k : ∀ M', RT M' n T (fai w p t) d → FV M M' → Q none (a_hp sc fd M')) : a_Ex 245 0 [some (.ref 170), some (.int (N w)), some (.int (N p))] [] (a_hp sc fd M) Q := by
  have h3 := c.f3
  unfold fai at k
  refine x_aload_n i_245_0 rfl ?_
  refine n_gi (x := t.2.1) i_245_1 ob_170 gf_8_21.1 gf_8_21.2 c.hft ?_
  refine x_zeqN (by omega) i_245_4 ⟨fun g1 => ?_, fun g1 => ?_⟩
  · rw [if_pos g1] at k
    refine x_aload_n i_245_8 rfl ?_
    refine x_iload_n i_245_9 rfl ?_
    refine x_pi i_245_10 ob_170 pf_8_21.1 pf_8_21.2 ?_
    refine x_aload_n i_245_13 rfl ?_
    refine x_iload_n i_245_14 rfl ?_
    refine x_pi i_245_15 ob_170 pf_8_22.1 pf_8_22.2 ?_
    refine x_vret i_245_18 rn_245 ?_
    first | exact k M c (FV.refl M) | exact k _ (c.p21 hw).p22 ((FV.put (by omega)).trans (FV.put (by omega)))
  · rw [if_neg g1] at k
    refine x_vret i_245_7 rn_245 ?_
    first | exact k M c (FV.refl M) | exact k _ (c.p21 hw).p22 ((FV.put (by omega)).trans (FV.put (by omega)))
theorem fai_0 {w p : Nat} (h : t.2.1 = 0) : fai w p t = (t.1, w, p) := by unfold fai; rw [if_pos h]
theorem bth_in {c : Nat} (h : bth T n t.1 = c) (hc : c < 256) : t.1 < n := by
  unfold bth at h
  split at h
  · assumption
  · omega
theorem e_248 (c : RT M n T t d) {w : Nat} (hw : w < 256) (k : ∀ M', RT M' n T (mmr T n w t) d → FV M M' → Q none (a_hp sc fd M')) : a_Ex 248 0 [some (.ref 170), some (.int (N w))] [] (a_hp sc fd M) Q := by
  have h1 := rbth_lt c
  have h2 := c.n200
  have h3 := c.f3
  unfold mmr at k
  refine x_aload_n i_248_0 rfl ?_
  refine n_gi (x := t.2.1) i_248_1 ob_170 gf_8_21.1 gf_8_21.2 c.hft ?_
  refine x_zeqN (by omega) i_248_4 ⟨fun g1 => ?_, fun g1 => ?_⟩
  · rw [if_pos g1] at k
    refine x_aload_n i_248_8 rfl ?_
    refine x_vh (r := []) (lj := [some _]) i_248_9 w_244 ob_170 [] rfl rfl (Nat.le_of_ble_eq_true rfl) (Nat.le_of_ble_eq_true rfl) rfl ?_
    refine e_244 c (rt_i ?_)
    refine x_iload_n i_248_12 rfl ?_
    refine n_ineU h1 (by omega) i_248_13 ⟨fun g2 => ?_, fun g2 => ?_⟩
    · rw [if_neg g2] at k
      unfold flw at k
      refine x_aload_n i_248_29 rfl ?_
      refine x_aload_n i_248_30 rfl ?_
      refine x_vh (r := [_]) (lj := [some _]) i_248_31 w_243 ob_170 [] rfl rfl (Nat.le_of_ble_eq_true rfl) (Nat.le_of_ble_eq_true rfl) rfl ?_
      refine e_243 c (rt_i ?_)
      by_cases gl : ltr T n t.1 = true
      · rw [if_pos gl] at k
        rw [if_pos gl]
        refine x_ifF i_248_34 (by decide +kernel) ?_
        refine n_iconst 1 i_248_37 rfl ?_
        refine x_goto i_248_38 ?_
        refine x_aload_n i_248_42 rfl ?_
        refine n_gi (x := t.1) i_248_43 ob_170 gf_8_20.1 gf_8_20.2 c.hat ?_
        refine x_vh (r := []) (lj := [some _, some _, some _]) i_248_46 w_245 ob_170 [_, _] rfl rfl (Nat.le_of_ble_eq_true rfl) (Nat.le_of_ble_eq_true rfl) rfl ?_
        refine e_245 c (by decide) (fun M1 c1 f1 => rt_n ?_)
        refine x_vret i_248_49 rn_248 ?_
        rw [fai_0 g1] at c1
        exact k M1 c1 f1
      rw [if_neg gl] at k
      rw [if_neg gl]
      refine x_ifT i_248_34 (by decide +kernel) ?_
      refine n_iconst 2 i_248_41 rfl ?_
      refine x_aload_n i_248_42 rfl ?_
      refine n_gi (x := t.1) i_248_43 ob_170 gf_8_20.1 gf_8_20.2 c.hat ?_
      refine x_vh (r := []) (lj := [some _, some _, some _]) i_248_46 w_245 ob_170 [_, _] rfl rfl (Nat.le_of_ble_eq_true rfl) (Nat.le_of_ble_eq_true rfl) rfl ?_
      refine e_245 c (by decide) (fun M1 c1 f1 => rt_n ?_)
      rw [fai_0 g1] at c1
      refine x_vret i_248_49 rn_248 ?_
      first | exact k M1 c1 f1 | exact k M c (FV.refl M)
    · rw [if_pos g2] at k
      have hl := bth_in g2 hw
      refine x_aload_n i_248_16 rfl ?_
      refine x_dup i_248_17 rfl ?_
      refine n_gi (x := t.1) i_248_18 ob_170 gf_8_20.1 gf_8_20.2 c.hat ?_
      refine n_iconst 1 i_248_21 rfl ?_
      refine x_iaddN i_248_22 ?_
      refine x_pi i_248_23 ob_170 pf_8_20.1 pf_8_20.2 ?_
      refine x_goto i_248_26 ?_
      refine x_vret i_248_49 rn_248 ?_
      exact k _ (c.p20 (by omega)) (FV.put (by omega))
  · rw [if_neg g1] at k
    refine x_vret i_248_7 rn_248 ?_
    first | exact k M1 c1 f1 | exact k M c (FV.refl M)
theorem e_249 (c : RT M n T t d) (k : ∀ M', RT M' n T (dgR T n t).2 d → FV M M' → Q (some (.int (N (dgR T n t).1))) (a_hp sc fd M')) : a_Ex 249 0 [some (.ref 170)] [] (a_hp sc fd M) Q := by
  have h2 := c.n200
  have h3 := c.f3
  unfold dgR at k
  refine x_aload_n i_249_0 rfl ?_
  refine n_gi (x := t.2.1) i_249_1 ob_170 gf_8_21.1 gf_8_21.2 c.hft ?_
  refine x_zeqN (by omega) i_249_4 ⟨fun g1 => ?_, fun g1 => ?_⟩
  · rw [if_pos g1] at k
    refine x_aload_n i_249_9 rfl ?_
    refine x_vh (r := []) (lj := [some _]) i_249_10 w_250 ob_170 [] rfl rfl (Nat.le_of_ble_eq_true rfl) (Nat.le_of_ble_eq_true rfl) rfl ?_
    refine e_250 c (rt_i ?_)
    by_cases gd : dgt T n t.1 = true
    · rw [if_pos gd] at k
      rw [if_pos gd]
      have g2 : t.1 < n ∧ 48 ≤ T t.1 ∧ T t.1 ≤ 57 := of_decide_eq_true gd
      refine x_ifT i_249_13 (by decide +kernel) ?_
      have c1 := c.p20 (v := t.1 + 1) (by omega)
      have f1 : FV M (a_up M 170 20 (N (t.1 + 1))) := FV.put (by omega)
      refine x_aload_n i_249_38 rfl ?_
      refine x_dup i_249_39 rfl ?_
      refine n_gi (x := t.1) i_249_40 ob_170 gf_8_20.1 gf_8_20.2 c.hat ?_
      refine n_iconst 1 i_249_43 rfl ?_
      refine x_iaddN i_249_44 ?_
      refine x_pi i_249_45 ob_170 pf_8_20.1 pf_8_20.2 ?_
      generalize a_up M 170 20 (N (t.1 + 1)) = M1 at c1 f1 ⊢
      refine x_aload_n i_249_48 rfl ?_
      refine x_gr i_249_49 ob_170 gr_8_17.1 gr_8_17.2 (rt_170_17 _) ?_
      refine x_aload_n i_249_52 rfl ?_
      refine n_gi (x := t.1 + 1) i_249_53 ob_170 gf_8_20.1 gf_8_20.2 c1.hat ?_
      refine n_iconst 1 i_249_56 rfl ?_
      refine x_isubN (by omega) i_249_57 ?_
      rw [show t.1 + 1 - 1 = t.1 by omega]
      refine n_ldt i_249_58 c1 g2.1 ?_
      refine n_bipush 48 i_249_59 rfl ?_
      refine x_isubN (by omega) i_249_61 ?_
      refine x_iret i_249_62 rn_249 rfl ?_
      exact k M1 c1 f1
    rw [if_neg gd] at k
    rw [if_neg gd]
    unfold flw at k
    refine x_ifF i_249_13 (by decide +kernel) ?_
    refine x_aload_n i_249_16 rfl ?_
    refine x_aload_n i_249_17 rfl ?_
    refine x_vh (r := [_]) (lj := [some _]) i_249_18 w_243 ob_170 [] rfl rfl (Nat.le_of_ble_eq_true rfl) (Nat.le_of_ble_eq_true rfl) rfl ?_
    refine e_243 c (rt_i ?_)
    by_cases gl : ltr T n t.1 = true
    · rw [if_pos gl] at k
      rw [if_pos gl]
      refine x_ifF i_249_21 (by decide +kernel) ?_
      refine n_iconst 1 i_249_24 rfl ?_
      refine x_goto i_249_25 ?_
      refine x_aload_n i_249_29 rfl ?_
      refine n_gi (x := t.1) i_249_30 ob_170 gf_8_20.1 gf_8_20.2 c.hat ?_
      refine x_vh (r := []) (lj := [some _, some _, some _]) i_249_33 w_245 ob_170 [_, _] rfl rfl (Nat.le_of_ble_eq_true rfl) (Nat.le_of_ble_eq_true rfl) rfl ?_
      refine e_245 c (by decide) (fun M1 c1 f1 => rt_n ?_)
      refine n_iconst 4294967295 i_249_36 rfl ?_
      refine x_iret i_249_37 rn_249 rfl ?_
      rw [fai_0 g1] at c1
      exact k M1 c1 f1
    rw [if_neg gl] at k
    rw [if_neg gl]
    refine x_ifT i_249_21 (by decide +kernel) ?_
    refine n_iconst 2 i_249_28 rfl ?_
    refine x_aload_n i_249_29 rfl ?_
    refine n_gi (x := t.1) i_249_30 ob_170 gf_8_20.1 gf_8_20.2 c.hat ?_
    refine x_vh (r := []) (lj := [some _, some _, some _]) i_249_33 w_245 ob_170 [_, _] rfl rfl (Nat.le_of_ble_eq_true rfl) (Nat.le_of_ble_eq_true rfl) rfl ?_
    refine e_245 c (by decide) (fun M1 c1 f1 => rt_n ?_)
    rw [fai_0 g1] at c1
    refine n_iconst 4294967295 i_249_36 rfl ?_
    refine x_iret i_249_37 rn_249 rfl ?_
    exact k M1 c1 f1
  · rw [if_neg g1] at k
    refine n_iconst 4294967295 i_249_7 rfl ?_
    refine x_iret i_249_8 rn_249 rfl ?_
    exact k M c (FV.refl M)
theorem e_251 (c : RT M n T t d) {w : Nat} (hw : w < 256) (k : ∀ M', RT M' n T (psR T n w t).2 d → FV M M' → Q (some (.int (N (psR T n w t).1))) (a_hp sc fd M')) : a_Ex 251 0 [some (.ref 170), some (.int (N w))] [] (a_hp sc fd M) Q := by
  have h1 := rbth_lt c
  have h2 := c.n200
  have h3 := c.f3
  unfold psR at k
  refine x_aload_n i_251_0 rfl ?_
  refine n_gi (x := t.2.1) i_251_1 ob_170 gf_8_21.1 gf_8_21.2 c.hft ?_
  refine x_zneN (by omega) i_251_4 ⟨fun g1 => ?_, fun g1 => ?_⟩
  · rw [if_neg (fun q => g1 q.1)] at k
    refine n_iconst 0 i_251_15 rfl ?_
    refine x_iret i_251_16 rn_251 (by decide +kernel) ?_
    exact k M c (FV.refl M)
  · refine x_aload_n i_251_7 rfl ?_
    refine x_vh (r := []) (lj := [some _]) i_251_8 w_244 ob_170 [] rfl rfl (Nat.le_of_ble_eq_true rfl) (Nat.le_of_ble_eq_true rfl) rfl ?_
    refine e_244 c (rt_i ?_)
    refine x_iload_n i_251_11 rfl ?_
    refine n_ieqU h1 (by omega) i_251_12 ⟨fun g2 => ?_, fun g2 => ?_⟩
    · rw [if_pos ⟨g1, g2⟩] at k
      have hl := bth_in g2 hw
      refine x_aload_n i_251_17 rfl ?_
      refine x_dup i_251_18 rfl ?_
      refine n_gi (x := t.1) i_251_19 ob_170 gf_8_20.1 gf_8_20.2 c.hat ?_
      refine n_iconst 1 i_251_22 rfl ?_
      refine x_iaddN i_251_23 ?_
      refine x_pi i_251_24 ob_170 pf_8_20.1 pf_8_20.2 ?_
      refine n_iconst 1 i_251_27 rfl ?_
      refine x_iret i_251_28 rn_251 (by decide +kernel) ?_
      exact k _ (c.p20 (by omega)) (FV.put (by omega))
    · rw [if_neg (fun q => g2 q.2)] at k
      refine n_iconst 0 i_251_15 rfl ?_
      refine x_iret i_251_16 rn_251 (by decide +kernel) ?_
      exact k M c (FV.refl M)
theorem e_247_15 (c : RT M n T t d) {k a : Nat} (hk : k < 36) {e : Nat} (ha : a + wl k ≤ n) : ∀ d' i, wl k - i = d' → i ≤ wl k → Q (some (.int (N (if wsm T k a d' i = true then 1 else 0)))) (a_hp sc fd M) → a_Ex 247 15 [some (.ref 170), some (.int (N a)), some (.int (N e)), some (.ref (a_CB + 2 * k)), some (.int (N i))] [] (a_hp sc fd M) Q := by
  have h2 := c.n200
  have h7 := wl_le k hk
  intro d'
  induction d' with
  | zero =>
    intro i hd hi K
    have e1 : i = wl k := by omega
    subst e1
    rw [if_pos (show wsm T k a 0 (wl k) = true from rfl)] at K
    refine x_iload i_247_15 rfl ?_
    refine x_aload_n i_247_17 rfl ?_
    refine x_vS (r := [_]) (lj := [some _]) i_247_18 w_267 hk [] rfl rfl (Nat.le_of_ble_eq_true rfl) (Nat.le_of_ble_eq_true rfl) rfl ?_
    refine k_267 hk (rt_i ?_)
    refine x_igeN (by omega) (by omega) i_247_21 ⟨fun g1 => ?_, fun g1 => ?_⟩
    · refine n_iconst 1 i_247_50 rfl ?_
      refine x_iret i_247_51 rn_247 rfl ?_
      exact K
    · exact absurd (Nat.le_refl _) g1
  | succ d' ih =>
    intro i hd hi K
    have hl : a + i < n := by omega
    have hj : i < wl k := by omega
    have h8 := c.t8 hl
    have hw := (wc_ok k hk i hj).2
    unfold wsm at K
    refine x_iload i_247_15 rfl ?_
    refine x_aload_n i_247_17 rfl ?_
    refine x_vS (r := [_]) (lj := [some _]) i_247_18 w_267 hk [] rfl rfl (Nat.le_of_ble_eq_true rfl) (Nat.le_of_ble_eq_true rfl) rfl ?_
    refine k_267 hk (rt_i ?_)
    refine x_igeN (by omega) (by omega) i_247_21 ⟨fun g1 => ?_, fun g1 => ?_⟩
    · exact absurd g1 (by omega)
    · refine x_aload_n i_247_24 rfl ?_
      refine x_gr i_247_25 ob_170 gr_8_17.1 gr_8_17.2 (rt_170_17 _) ?_
      refine x_iload_n i_247_28 rfl ?_
      refine x_iload i_247_29 rfl ?_
      refine x_iaddN i_247_31 ?_
      refine n_ldt i_247_32 c hl ?_
      refine x_aload_n i_247_33 rfl ?_
      refine x_iload i_247_34 rfl ?_
      refine x_vS (r := [_]) (lj := [some _, some _]) i_247_36 w_269 hk [_] rfl rfl (Nat.le_of_ble_eq_true rfl) (Nat.le_of_ble_eq_true rfl) rfl ?_
      refine k_269 hk hj (rt_i ?_)
      refine x_ieqN (by omega) (by omega) i_247_39 ⟨fun g2 => ?_, fun g2 => ?_⟩
      · rw [if_pos g2] at K
        refine n_iinc 1 i_247_44 rfl rfl rfl rfl ?_
        refine x_goto i_247_47 ?_
        exact ih (i + 1) (by omega) (by omega) K
      · rw [if_neg g2] at K
        refine n_iconst 0 i_247_42 rfl ?_
        refine x_iret i_247_43 rn_247 rfl ?_
        exact K
theorem e_247 (c : RT M n T t d) {k a e : Nat} (hk : k < 36) (hae : a ≤ e) (hen : e ≤ n) (K : Q (some (.int (N (if isw T k a e = true then 1 else 0)))) (a_hp sc fd M)) : a_Ex 247 0 [some (.ref 170), some (.int (N a)), some (.int (N e)), some (.ref (a_CB + 2 * k)), none] [] (a_hp sc fd M) Q := by
  have h2 := c.n200
  have h7 := wl_le k hk
  unfold isw at K
  refine x_iload_n i_247_0 rfl ?_
  refine x_iload_n i_247_1 rfl ?_
  refine x_isubN (by omega) i_247_2 ?_
  refine x_aload_n i_247_3 rfl ?_
  refine x_vS (r := [_]) (lj := [some _]) i_247_4 w_267 hk [] rfl rfl (Nat.le_of_ble_eq_true rfl) (Nat.le_of_ble_eq_true rfl) rfl ?_
  refine k_267 hk (rt_i ?_)
  refine x_ieqN (by omega) (by omega) i_247_7 ⟨fun g1 => ?_, fun g1 => ?_⟩
  · rw [if_pos g1.symm] at K
    refine n_iconst 0 i_247_12 rfl ?_
    refine x_istore i_247_13 rfl rfl ?_
    exact e_247_15 c hk (by omega) (wl k) 0 (by omega) (by omega) K
  · rw [if_neg (show ¬ (if wl k = e - a then wsm T k a (wl k) 0 else false) = true by rw [if_neg (fun q => g1 q.symm)]; decide)] at K
    refine n_iconst 0 i_247_10 rfl ?_
    refine x_iret i_247_11 rn_247 rfl ?_
    exact K
theorem wsm_r {j a : Nat} (hj : j < 12) : ∀ d i, i + d ≤ wl j → wsm T (18 + j) a d i = wsm T j a d i := by
  have hc := (by decide +kernel : ∀ j, j < 12 → ∀ i, i < wl j → wc (18 + j) i = wc j i) j hj
  intro d
  induction d with
  | zero => intro i _; rfl
  | succ d ih =>
    intro i hi
    unfold wsm
    rw [hc i (by omega), ih (i + 1) (by omega)]
theorem isw_r {j a e : Nat} (hj : j < 12) : isw T (18 + j) a e = isw T j a e := by
  have hl := (by decide +kernel : ∀ j, j < 12 → wl (18 + j) = wl j) j hj
  unfold isw
  rw [hl, wsm_r hj _ _ (by omega)]
theorem kd_s {a e d j : Nat} : kd T a e (d + 1) j = if isw T j a e = true then j else kd T a e d (j + 1) := rfl
theorem e_246 (c : RT M n T t d) {a e : Nat} (hae : a ≤ e) (hen : e ≤ n) (K : Q (some (.int (N (kd T a e 12 0)))) (a_hp sc fd M)) : a_Ex 246 0 [some (.ref 170), some (.int (N a)), some (.int (N e))] [] (a_hp sc fd M) Q := by
  refine x_aload_n i_246_0 rfl ?_
  refine x_iload_n i_246_1 rfl ?_
  refine x_iload_n i_246_2 rfl ?_
  refine x_ldcwS i_246_3 ?_
  refine x_vh (r := []) (lj := [some _, some _, some _, some _, none]) i_246_6 w_247 ob_170 [_, _, _] rfl rfl (Nat.le_of_ble_eq_true rfl) (Nat.le_of_ble_eq_true rfl) rfl ?_
  refine e_247 c (k := 18) (by omega) hae hen (rt_i ?_)
  rw [show isw T 18 a e = isw T 0 a e from isw_r (j := 0) (by omega)]
  rw [kd_s] at K
  by_cases gw0 : isw T 0 a e = true
  · rw [if_pos gw0]
    rw [if_pos gw0] at K
    refine x_ifF i_246_9 (by decide +kernel) ?_
    refine n_iconst 0 i_246_12 rfl ?_
    refine x_iret i_246_13 rn_246 rfl ?_
    exact K
  rw [if_neg gw0]
  rw [if_neg gw0] at K
  refine x_ifT i_246_9 (by decide +kernel) ?_
  refine x_aload_n i_246_14 rfl ?_
  refine x_iload_n i_246_15 rfl ?_
  refine x_iload_n i_246_16 rfl ?_
  refine x_ldcwS i_246_17 ?_
  refine x_vh (r := []) (lj := [some _, some _, some _, some _, none]) i_246_20 w_247 ob_170 [_, _, _] rfl rfl (Nat.le_of_ble_eq_true rfl) (Nat.le_of_ble_eq_true rfl) rfl ?_
  refine e_247 c (k := 19) (by omega) hae hen (rt_i ?_)
  rw [show isw T 19 a e = isw T 1 a e from isw_r (j := 1) (by omega)]
  rw [kd_s] at K
  by_cases gw1 : isw T 1 a e = true
  · rw [if_pos gw1]
    rw [if_pos gw1] at K
    refine x_ifF i_246_23 (by decide +kernel) ?_
    refine n_iconst 1 i_246_26 rfl ?_
    refine x_iret i_246_27 rn_246 rfl ?_
    exact K
  rw [if_neg gw1]
  rw [if_neg gw1] at K
  refine x_ifT i_246_23 (by decide +kernel) ?_
  refine x_aload_n i_246_28 rfl ?_
  refine x_iload_n i_246_29 rfl ?_
  refine x_iload_n i_246_30 rfl ?_
  refine x_ldcwS i_246_31 ?_
  refine x_vh (r := []) (lj := [some _, some _, some _, some _, none]) i_246_34 w_247 ob_170 [_, _, _] rfl rfl (Nat.le_of_ble_eq_true rfl) (Nat.le_of_ble_eq_true rfl) rfl ?_
  refine e_247 c (k := 20) (by omega) hae hen (rt_i ?_)
  rw [show isw T 20 a e = isw T 2 a e from isw_r (j := 2) (by omega)]
  rw [kd_s] at K
  by_cases gw2 : isw T 2 a e = true
  · rw [if_pos gw2]
    rw [if_pos gw2] at K
    refine x_ifF i_246_37 (by decide +kernel) ?_
    refine n_iconst 2 i_246_40 rfl ?_
    refine x_iret i_246_41 rn_246 rfl ?_
    exact K
  rw [if_neg gw2]
  rw [if_neg gw2] at K
  refine x_ifT i_246_37 (by decide +kernel) ?_
  refine x_aload_n i_246_42 rfl ?_
  refine x_iload_n i_246_43 rfl ?_
  refine x_iload_n i_246_44 rfl ?_
  refine x_ldcwS i_246_45 ?_
  refine x_vh (r := []) (lj := [some _, some _, some _, some _, none]) i_246_48 w_247 ob_170 [_, _, _] rfl rfl (Nat.le_of_ble_eq_true rfl) (Nat.le_of_ble_eq_true rfl) rfl ?_
  refine e_247 c (k := 21) (by omega) hae hen (rt_i ?_)
  rw [show isw T 21 a e = isw T 3 a e from isw_r (j := 3) (by omega)]
  rw [kd_s] at K
  by_cases gw3 : isw T 3 a e = true
  · rw [if_pos gw3]
    rw [if_pos gw3] at K
    refine x_ifF i_246_51 (by decide +kernel) ?_
    refine n_iconst 3 i_246_54 rfl ?_
    refine x_iret i_246_55 rn_246 rfl ?_
    exact K
  rw [if_neg gw3]
  rw [if_neg gw3] at K
  refine x_ifT i_246_51 (by decide +kernel) ?_
  refine x_aload_n i_246_56 rfl ?_
  refine x_iload_n i_246_57 rfl ?_
  refine x_iload_n i_246_58 rfl ?_
  refine x_ldcwS i_246_59 ?_
  refine x_vh (r := []) (lj := [some _, some _, some _, some _, none]) i_246_62 w_247 ob_170 [_, _, _] rfl rfl (Nat.le_of_ble_eq_true rfl) (Nat.le_of_ble_eq_true rfl) rfl ?_
  refine e_247 c (k := 22) (by omega) hae hen (rt_i ?_)
  rw [show isw T 22 a e = isw T 4 a e from isw_r (j := 4) (by omega)]
  rw [kd_s] at K
  by_cases gw4 : isw T 4 a e = true
  · rw [if_pos gw4]
    rw [if_pos gw4] at K
    refine x_ifF i_246_65 (by decide +kernel) ?_
    refine n_iconst 4 i_246_68 rfl ?_
    refine x_iret i_246_69 rn_246 rfl ?_
    exact K
  rw [if_neg gw4]
  rw [if_neg gw4] at K
  refine x_ifT i_246_65 (by decide +kernel) ?_
  refine x_aload_n i_246_70 rfl ?_
  refine x_iload_n i_246_71 rfl ?_
  refine x_iload_n i_246_72 rfl ?_
  refine x_ldcwS i_246_73 ?_
  refine x_vh (r := []) (lj := [some _, some _, some _, some _, none]) i_246_76 w_247 ob_170 [_, _, _] rfl rfl (Nat.le_of_ble_eq_true rfl) (Nat.le_of_ble_eq_true rfl) rfl ?_
  refine e_247 c (k := 23) (by omega) hae hen (rt_i ?_)
  rw [show isw T 23 a e = isw T 5 a e from isw_r (j := 5) (by omega)]
  rw [kd_s] at K
  by_cases gw5 : isw T 5 a e = true
  · rw [if_pos gw5]
    rw [if_pos gw5] at K
    refine x_ifF i_246_79 (by decide +kernel) ?_
    refine n_iconst 5 i_246_82 rfl ?_
    refine x_iret i_246_83 rn_246 rfl ?_
    exact K
  rw [if_neg gw5]
  rw [if_neg gw5] at K
  refine x_ifT i_246_79 (by decide +kernel) ?_
  refine x_aload_n i_246_84 rfl ?_
  refine x_iload_n i_246_85 rfl ?_
  refine x_iload_n i_246_86 rfl ?_
  refine x_ldcwS i_246_87 ?_
  refine x_vh (r := []) (lj := [some _, some _, some _, some _, none]) i_246_90 w_247 ob_170 [_, _, _] rfl rfl (Nat.le_of_ble_eq_true rfl) (Nat.le_of_ble_eq_true rfl) rfl ?_
  refine e_247 c (k := 24) (by omega) hae hen (rt_i ?_)
  rw [show isw T 24 a e = isw T 6 a e from isw_r (j := 6) (by omega)]
  rw [kd_s] at K
  by_cases gw6 : isw T 6 a e = true
  · rw [if_pos gw6]
    rw [if_pos gw6] at K
    refine x_ifF i_246_93 (by decide +kernel) ?_
    refine n_bipush 6 i_246_96 rfl ?_
    refine x_iret i_246_98 rn_246 rfl ?_
    exact K
  rw [if_neg gw6]
  rw [if_neg gw6] at K
  refine x_ifT i_246_93 (by decide +kernel) ?_
  refine x_aload_n i_246_99 rfl ?_
  refine x_iload_n i_246_100 rfl ?_
  refine x_iload_n i_246_101 rfl ?_
  refine x_ldcwS i_246_102 ?_
  refine x_vh (r := []) (lj := [some _, some _, some _, some _, none]) i_246_105 w_247 ob_170 [_, _, _] rfl rfl (Nat.le_of_ble_eq_true rfl) (Nat.le_of_ble_eq_true rfl) rfl ?_
  refine e_247 c (k := 25) (by omega) hae hen (rt_i ?_)
  rw [show isw T 25 a e = isw T 7 a e from isw_r (j := 7) (by omega)]
  rw [kd_s] at K
  by_cases gw7 : isw T 7 a e = true
  · rw [if_pos gw7]
    rw [if_pos gw7] at K
    refine x_ifF i_246_108 (by decide +kernel) ?_
    refine n_bipush 7 i_246_111 rfl ?_
    refine x_iret i_246_113 rn_246 rfl ?_
    exact K
  rw [if_neg gw7]
  rw [if_neg gw7] at K
  refine x_ifT i_246_108 (by decide +kernel) ?_
  refine x_aload_n i_246_114 rfl ?_
  refine x_iload_n i_246_115 rfl ?_
  refine x_iload_n i_246_116 rfl ?_
  refine x_ldcwS i_246_117 ?_
  refine x_vh (r := []) (lj := [some _, some _, some _, some _, none]) i_246_120 w_247 ob_170 [_, _, _] rfl rfl (Nat.le_of_ble_eq_true rfl) (Nat.le_of_ble_eq_true rfl) rfl ?_
  refine e_247 c (k := 26) (by omega) hae hen (rt_i ?_)
  rw [show isw T 26 a e = isw T 8 a e from isw_r (j := 8) (by omega)]
  rw [kd_s] at K
  by_cases gw8 : isw T 8 a e = true
  · rw [if_pos gw8]
    rw [if_pos gw8] at K
    refine x_ifF i_246_123 (by decide +kernel) ?_
    refine n_bipush 8 i_246_126 rfl ?_
    refine x_iret i_246_128 rn_246 rfl ?_
    exact K
  rw [if_neg gw8]
  rw [if_neg gw8] at K
  refine x_ifT i_246_123 (by decide +kernel) ?_
  refine x_aload_n i_246_129 rfl ?_
  refine x_iload_n i_246_130 rfl ?_
  refine x_iload_n i_246_131 rfl ?_
  refine x_ldcwS i_246_132 ?_
  refine x_vh (r := []) (lj := [some _, some _, some _, some _, none]) i_246_135 w_247 ob_170 [_, _, _] rfl rfl (Nat.le_of_ble_eq_true rfl) (Nat.le_of_ble_eq_true rfl) rfl ?_
  refine e_247 c (k := 27) (by omega) hae hen (rt_i ?_)
  rw [show isw T 27 a e = isw T 9 a e from isw_r (j := 9) (by omega)]
  rw [kd_s] at K
  by_cases gw9 : isw T 9 a e = true
  · rw [if_pos gw9]
    rw [if_pos gw9] at K
    refine x_ifF i_246_138 (by decide +kernel) ?_
    refine n_bipush 9 i_246_141 rfl ?_
    refine x_iret i_246_143 rn_246 rfl ?_
    exact K
  rw [if_neg gw9]
  rw [if_neg gw9] at K
  refine x_ifT i_246_138 (by decide +kernel) ?_
  refine x_aload_n i_246_144 rfl ?_
  refine x_iload_n i_246_145 rfl ?_
  refine x_iload_n i_246_146 rfl ?_
  refine x_ldcwS i_246_147 ?_
  refine x_vh (r := []) (lj := [some _, some _, some _, some _, none]) i_246_150 w_247 ob_170 [_, _, _] rfl rfl (Nat.le_of_ble_eq_true rfl) (Nat.le_of_ble_eq_true rfl) rfl ?_
  refine e_247 c (k := 28) (by omega) hae hen (rt_i ?_)
  rw [show isw T 28 a e = isw T 10 a e from isw_r (j := 10) (by omega)]
  rw [kd_s] at K
  by_cases gw10 : isw T 10 a e = true
  · rw [if_pos gw10]
    rw [if_pos gw10] at K
    refine x_ifF i_246_153 (by decide +kernel) ?_
    refine n_bipush 10 i_246_156 rfl ?_
    refine x_iret i_246_158 rn_246 rfl ?_
    exact K
  rw [if_neg gw10]
  rw [if_neg gw10] at K
  refine x_ifT i_246_153 (by decide +kernel) ?_
  refine x_aload_n i_246_159 rfl ?_
  refine x_iload_n i_246_160 rfl ?_
  refine x_iload_n i_246_161 rfl ?_
  refine x_ldcwS i_246_162 ?_
  refine x_vh (r := []) (lj := [some _, some _, some _, some _, none]) i_246_165 w_247 ob_170 [_, _, _] rfl rfl (Nat.le_of_ble_eq_true rfl) (Nat.le_of_ble_eq_true rfl) rfl ?_
  refine e_247 c (k := 29) (by omega) hae hen (rt_i ?_)
  rw [show isw T 29 a e = isw T 11 a e from isw_r (j := 11) (by omega)]
  rw [kd_s] at K
  by_cases gw11 : isw T 11 a e = true
  · rw [if_pos gw11]
    rw [if_pos gw11] at K
    refine x_ifF i_246_168 (by decide +kernel) ?_
    refine n_bipush 11 i_246_171 rfl ?_
    refine x_goto i_246_173 ?_
    refine x_iret i_246_177 rn_246 rfl ?_
    exact K
  rw [if_neg gw11]
  rw [if_neg gw11] at K
  refine x_ifT i_246_168 (by decide +kernel) ?_
  refine n_iconst 4294967295 i_246_176 rfl ?_
  refine x_iret i_246_177 rn_246 rfl ?_
  exact K
theorem kd12 {a e : Nat} : ∀ d j, j + d ≤ 12 → kd T a e d j < 12 ∨ kd T a e d j = 4294967295 := by
  intro d
  induction d with
  | zero => intro j _; exact Or.inr rfl
  | succ d ih =>
    intro j h
    unfold kd
    split
    · left; omega
    · exact ih (j + 1) (by omega)
/-- the letters from where one stands on -/
theorem e_242_L {f p l1 l2 l3 e : Nat} (k : ∀ M', RT M' n T (e, f, p) d → FV M0 M' → a_Ex 242 49 [some (.ref 170), some (.int (N l1)), some (.int (N l2)), some (.int (N l3)), none] [] (a_hp sc fd M') Q) : ∀ d' s {M : a_Mm}, n - s = d' → wnd T n d' s = e → RT M n T (s, f, p) d → FV M0 M → a_Ex 242 29 [some (.ref 170), some (.int (N l1)), some (.int (N l2)), some (.int (N l3)), none] [] (a_hp sc fd M) Q := by
  intro d'
  induction d' with
  | zero =>
    intro s M hd he c fr
    have e1 : s = e := he
    subst e1
    have g : ¬ ltr T n s = true := fun q => by have := of_decide_eq_true q; omega
    refine x_aload_n i_242_29 rfl ?_
    refine x_vh (r := []) (lj := [some _]) i_242_30 w_243 ob_170 [] rfl rfl (Nat.le_of_ble_eq_true rfl) (Nat.le_of_ble_eq_true rfl) rfl ?_
    refine e_243 c (rt_i ?_)
    rw [if_neg g]
    refine x_ifT i_242_33 (by decide +kernel) ?_
    exact k M c fr
  | succ d' ih =>
    intro s M hd he c fr
    unfold wnd at he
    by_cases g : ltr T n s = true
    · rw [if_pos g] at he
      have hl := of_decide_eq_true g
      have h2 := c.n200
      refine x_aload_n i_242_29 rfl ?_
      refine x_vh (r := []) (lj := [some _]) i_242_30 w_243 ob_170 [] rfl rfl (Nat.le_of_ble_eq_true rfl) (Nat.le_of_ble_eq_true rfl) rfl ?_
      refine e_243 c (rt_i ?_)
      rw [if_pos g]
      refine x_ifF i_242_33 (by decide +kernel) ?_
      refine x_aload_n i_242_36 rfl ?_
      refine x_dup i_242_37 rfl ?_
      refine n_gi (x := (s, f, p).1) i_242_38 ob_170 gf_8_20.1 gf_8_20.2 c.hat ?_
      refine n_iconst 1 i_242_41 rfl ?_
      refine x_iaddN i_242_42 ?_
      refine x_pi i_242_43 ob_170 pf_8_20.1 pf_8_20.2 ?_
      refine x_goto i_242_46 ?_
      exact ih (s + 1) (by omega) he (c.p20 (v := s + 1) (by omega)) (fr.trans (FV.put (by omega)))
    · rw [if_neg g] at he
      subst he
      refine x_aload_n i_242_29 rfl ?_
      refine x_vh (r := []) (lj := [some _]) i_242_30 w_243 ob_170 [] rfl rfl (Nat.le_of_ble_eq_true rfl) (Nat.le_of_ble_eq_true rfl) rfl ?_
      refine e_243 c (rt_i ?_)
      rw [if_neg g]
      refine x_ifT i_242_33 (by decide +kernel) ?_
      exact k M c fr
theorem e_242 (c : RT M n T t d) {lo hi : Nat} (hlo : lo < 256) (hhi : hi < 256) (k : ∀ M', RT M' n T (rdR T n lo hi t).2 d → FV M M' → Q (some (.int (N (rdR T n lo hi t).1))) (a_hp sc fd M')) : a_Ex 242 0 [some (.ref 170), some (.int (N lo)), some (.int (N hi)), none, none] [] (a_hp sc fd M) Q := by
  have h2 := c.n200
  have h3 := c.f3
  have h4 := c.a_n
  unfold rdR at k
  refine x_aload_n i_242_0 rfl ?_
  refine n_gi (x := t.2.1) i_242_1 ob_170 gf_8_21.1 gf_8_21.2 c.hft ?_
  refine x_zeqN (by omega) i_242_4 ⟨fun g1 => ?_, fun g1 => ?_⟩
  · rw [if_pos g1] at k
    refine x_aload_n i_242_9 rfl ?_
    refine n_gi (x := t.1) i_242_10 ob_170 gf_8_20.1 gf_8_20.2 c.hat ?_
    refine x_istore_n i_242_13 rfl rfl ?_
    refine x_aload_n i_242_14 rfl ?_
    refine x_vh (r := []) (lj := [some _]) i_242_15 w_243 ob_170 [] rfl rfl (Nat.le_of_ble_eq_true rfl) (Nat.le_of_ble_eq_true rfl) rfl ?_
    refine e_243 c (rt_i ?_)
    by_cases gl : ltr T n t.1 = true
    · rw [if_pos gl]
      rw [if_pos gl] at k
      refine x_ifT i_242_18 (by decide +kernel) ?_
      have hge : t.1 ≤ wnr T n t := wnd_ge _ _
      have hle : wnr T n t ≤ n := wnd_le _ _ h4
      have hk := kd12 (T := T) (a := t.1) (e := wnr T n t) 12 0 (by omega)
      refine e_242_L (e := wnr T n t) (f := t.2.1) (p := t.2.2) (M0 := M) (fun M1 c1 f1 => ?_) _ _ rfl rfl c (FV.refl M)
      generalize wnr T n t = e at hge hle hk k c1
      refine x_aload_n i_242_49 rfl ?_
      refine x_iload_n i_242_50 rfl ?_
      refine x_aload_n i_242_51 rfl ?_
      refine n_gi (x := (e, t.2.1, t.2.2).1) i_242_52 ob_170 gf_8_20.1 gf_8_20.2 c1.hat ?_
      refine x_vh (r := []) (lj := [some _, some _, some _]) i_242_55 w_246 ob_170 [_, _] rfl rfl (Nat.le_of_ble_eq_true rfl) (Nat.le_of_ble_eq_true rfl) rfl ?_
      refine e_246 c1 hge hle (rt_i ?_)
      generalize kd T t.1 e 12 0 = w at hk k ⊢
      refine x_istore i_242_58 rfl rfl ?_
      refine x_iload i_242_60 rfl ?_
      refine x_i2l i_242_62 ?_
      refine x_iload_n i_242_63 rfl ?_
      refine x_i2l i_242_64 ?_
      refine x_iload_n i_242_65 rfl ?_
      refine x_i2l i_242_66 ?_
      refine n_within i_242_67 (Nat.le_of_ble_eq_true rfl) (by omega) (by omega) (by omega) ⟨fun w1 => ?_, fun w1 => ?_⟩
      · rw [if_pos w1] at k
        refine x_ifT i_242_70 (by decide +kernel) ?_
        refine x_iload i_242_79 rfl ?_
        refine x_iret i_242_81 rn_242 rfl ?_
        first | exact k M2 c2 (f1.trans f2) | exact k M1 c1 f1
      · rw [if_neg w1] at k
        refine x_ifF i_242_70 (by decide +kernel) ?_
        refine x_aload_n i_242_73 rfl ?_
        refine n_iconst 1 i_242_74 rfl ?_
        refine x_iload_n i_242_75 rfl ?_
        refine x_vh (r := []) (lj := [some _, some _, some _]) i_242_76 w_245 ob_170 [_, _] rfl rfl (Nat.le_of_ble_eq_true rfl) (Nat.le_of_ble_eq_true rfl) rfl ?_
        refine e_245 c1 (by decide) (fun M2 c2 f2 => rt_n ?_)
        rw [fai_0 (show ((e, t.2.1, t.2.2) : Nat × Nat × Nat).2.1 = 0 from g1)] at c2
        refine x_iload i_242_79 rfl ?_
        refine x_iret i_242_81 rn_242 rfl ?_
        first | exact k M2 c2 (f1.trans f2) | exact k M1 c1 f1
    rw [if_neg gl]
    rw [if_neg gl] at k
    refine x_ifF i_242_18 (by decide +kernel) ?_
    refine x_aload_n i_242_21 rfl ?_
    refine n_iconst 2 i_242_22 rfl ?_
    refine x_iload_n i_242_23 rfl ?_
    refine x_vh (r := []) (lj := [some _, some _, some _]) i_242_24 w_245 ob_170 [_, _] rfl rfl (Nat.le_of_ble_eq_true rfl) (Nat.le_of_ble_eq_true rfl) rfl ?_
    refine e_245 c (by decide) (fun M1 c1 f1 => rt_n ?_)
    rw [fai_0 g1] at c1
    refine n_iconst 4294967295 i_242_27 rfl ?_
    refine x_iret i_242_28 rn_242 rfl ?_
    exact k M1 c1 f1
  · rw [if_neg g1] at k
    refine n_iconst 4294967295 i_242_7 rfl ?_
    refine x_iret i_242_8 rn_242 rfl ?_
    exact k M c (FV.refl M)
end RDE
