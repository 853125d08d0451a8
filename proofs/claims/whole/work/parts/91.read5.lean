/-! class and reference read the same deeds -/
def trp (P : HA) : Nat × Nat × Nat := (P 0 0, P 0 1, P 0 2)
def TE (t : Nat × Nat × Nat) (P : HA) : Prop := t.2.1 = P 0 1 ∧ t.2.2 = P 0 2 ∧ (P 0 1 = 0 → t.1 = P 0 0)
def OO (w s x o1 o2 : Nat) : Prop := (w ≤ 2 → o1 = x) ∧ ((w = 3 ∨ w = 4 ∨ w = 5 ∨ w = 6 ∨ w = 8) → o1 = s) ∧ ((w = 5 ∨ w = 8) → o2 = x)
theorem TE.tr (P : HA) : TE (trp P) P := ⟨rfl, rfl, fun _ => rfl⟩
theorem TE.eq {t : Nat × Nat × Nat} {P : HA} (h : TE t P) (h0 : P 0 1 = 0) : t = trp P := by
  obtain ⟨a, f, p⟩ := t
  obtain ⟨h1, h2, h3⟩ := h
  have h3 := h3 h0
  dsimp only at h1 h2 h3
  unfold trp
  rw [h1, h2, h3]
section CMP
variable {n w o o1 o2 c : Nat} {T : Nat → Nat} {t : Nat × Nat × Nat} {P : HA}
theorem mmr_n (h : ¬ t.2.1 = 0) : mmr T n c t = t := by unfold mmr; rw [if_neg h]
theorem dgR_n (h : ¬ t.2.1 = 0) : dgR T n t = (4294967295, t) := by unfold dgR; rw [if_neg h]
theorem psR_n (h : ¬ t.2.1 = 0) : psR T n c t = (0, t) := by unfold psR; rw [if_neg (fun q => h q.1)]
theorem rdR_n {lo hi : Nat} (h : ¬ t.2.1 = 0) : rdR T n lo hi t = (4294967295, t) := by unfold rdR; rw [if_neg h]
theorem Gp_n (h : ¬ t.2.1 = 0) : Gp T n t o = (t, o) := by unfold Gp; rw [psR_n h, if_pos rfl]
theorem G1_n (h : ¬ t.2.1 = 0) : (G1 T n w t o).1 = t := by
  unfold G1
  split
  · rw [mmr_n h, dgR_n h]
  · rfl
theorem G2_n (h : ¬ t.2.1 = 0) : (G2 T n w t o).1 = t := by
  unfold G2
  split
  · rw [mmr_n h, rdR_n h]
  · rfl
theorem G3_n (h : ¬ t.2.1 = 0) : (G3 T n w t o).1 = t := by
  unfold G3
  split
  · rw [Gp_n h]
  · rfl
theorem G4_n (h : ¬ t.2.1 = 0) : (G4 T n w t o).1 = t := by
  unfold G4
  split
  · rw [Gp_n h]
  · rfl
theorem G14_n (h : ¬ t.2.1 = 0) : (G14 T n w t o1 o2).1 = t := by
  unfold G14 G24 G34 G5
  show mmr T n 59 (G4 T n w (G3 T n w (G2 T n w (G1 T n w t o1).1 o2).1 (G1 T n w t o1).2).1 (G2 T n w (G1 T n w t o1).1 o2).2).1 = t
  rw [G1_n h, G2_n h, G3_n h, G4_n h, mmr_n h]
theorem cmm (h : P 0 1 = 0) : mmr T n c (trp P) = trp (mst T n c P).2 := by
  unfold mmr mst trp
  rw [if_pos h]
  dsimp only
  split <;> rfl
theorem cdg (h : P 0 1 = 0) (hw : w = 2 ∨ w = 3) : dgR T n (trp P) = (if (dgw T n w P).1 = 0 then 4294967295 else T (P 0 0) - 48, trp (dgw T n w P).2) := by
  unfold dgR dgw trp
  rw [if_pos h]
  dsimp only
  rcases hw with rfl | rfl
  · split <;> rfl
  · split <;> rfl
theorem dgw_x (hw : ¬ w = 0) (h : ¬ (dgw T n w P).1 = 0) : (dgw T n w P).2 w (P 0 3) = T (P 0 0) - 48 := by
  unfold dgw at h ⊢
  split
  · show a_up (a_up P w (P 0 3) (T (P 0 0) - 48)) 0 0 (P 0 0 + 1) w (P 0 3) = _
    rw [a_up_def, if_neg (by omega), a_up_def, if_pos ⟨rfl, rfl⟩]
  · rename_i g; rw [if_neg g] at h; exact absurd rfl h
theorem mst_k (h : ¬ (mst T n c P).1 = 0) : (mst T n c P).2 0 1 = P 0 1 := by
  unfold mst at h ⊢
  split
  · rfl
  · rename_i g; rw [if_neg g] at h; exact absurd rfl h
theorem dgw_k (hw : ¬ w = 0) (h : ¬ (dgw T n w P).1 = 0) : (dgw T n w P).2 0 1 = P 0 1 := by
  unfold dgw at h ⊢
  split
  · show a_up (a_up P w (P 0 3) (T (P 0 0) - 48)) 0 0 (P 0 0 + 1) 0 1 = _
    rw [a_up_def, if_neg (by omega), a_up_def, if_neg (by omega)]
  · rename_i g; rw [if_neg g] at h; exact absurd rfl h
theorem sit_k (h : ¬ (sit T n P).1 = 0) : (sit T n P).2 0 1 = P 0 1 := by
  unfold sit at h ⊢
  split
  · rename_i g; rw [if_pos g] at h; exact absurd rfl h
  · rename_i g; rw [if_neg g] at h; rw [dgw_k (by omega) h, mst_k g]
theorem lmt_k (h : ¬ (lmt T n P).1 = 0) : (lmt T n P).2 0 1 = P 0 1 := by
  unfold lmt at h ⊢
  split
  · rename_i g; rw [if_pos g] at h; rw [dgw_k (by omega) h]; rfl
  · rfl
theorem vtq_k (h : ¬ (vtq T n P).1 = 0) : (vtq T n P).2 0 1 = P 0 1 := by
  unfold vtq at h ⊢
  split
  · rfl
  · rename_i g
    rw [if_neg g] at h
    split
    · rfl
    · rename_i g2; rw [if_neg g2] at h; exact absurd rfl h
theorem vtp_k (h : ¬ (vtp T n P).1 = 0) : (vtp T n P).2 0 1 = P 0 1 := by
  unfold vtp at h ⊢
  split
  · rename_i g; rw [if_pos g] at h; exact absurd rfl h
  · rename_i g; rw [if_neg g] at h; rw [vtq_k h, mst_k g]
/-- what isn't touched -/
theorem flh_o {i : Nat} (hw : ¬ w = 0) : flh T n P w i = P w i := by
  unfold flh flp
  rw [a_up_def, if_neg (by omega), a_up_def, if_neg (by omega)]
theorem mst_o {i : Nat} (hw : ¬ w = 0) : (mst T n c P).2 w i = P w i := by
  unfold mst
  split
  · show a_up P 0 0 (P 0 0 + 1) w i = _
    rw [a_up_def, if_neg (by omega)]
  · exact flh_o hw
theorem dgw_o {v i : Nat} (hw : ¬ w = 0) (h : ¬ (w = v ∧ i = P 0 3)) : (dgw T n v P).2 w i = P w i := by
  unfold dgw
  split
  · show a_up (a_up P v (P 0 3) (T (P 0 0) - 48)) 0 0 (P 0 0 + 1) w i = _
    rw [a_up_def, if_neg (by omega), a_up_def, if_neg h]
  · exact flh_o hw
theorem sit_o {i : Nat} (hw : ¬ w = 0) (h : ¬ (w = 2 ∧ i = P 0 3)) : (sit T n P).2 w i = P w i := by
  unfold sit
  split
  · exact mst_o hw
  · rw [dgw_o hw (by rw [mst_d]; exact h), mst_o hw]
theorem lmt_o {i : Nat} (hw : ¬ w = 0) (h : ¬ (w = 3 ∧ i = P 0 3)) : (lmt T n P).2 w i = P w i := by
  unfold lmt
  split
  · have := dgw_o (T := T) (n := n) (P := a_up P 0 0 (P 0 0 + 1)) (v := 3) (i := i) hw h
    rw [this, a_up_def, if_neg (by omega)]
  · rfl
theorem vtq_o {i : Nat} (hw : ¬ w = 0) (h : ¬ (w = 3 ∧ i = P 0 3)) : (vtq T n P).2 w i = P w i := by
  unfold vtq
  split
  · show a_up (a_up P 3 (P 0 3) 1) 0 0 (wen T n P) w i = _
    rw [a_up_def, if_neg (by omega), a_up_def, if_neg h]
  · split
    · show a_up (a_up P 3 (P 0 3) 0) 0 0 (wen T n P) w i = _
      rw [a_up_def, if_neg (by omega), a_up_def, if_neg h]
    · exact flh_o hw
theorem vtp_o {i : Nat} (hw : ¬ w = 0) (h : ¬ (w = 3 ∧ i = P 0 3)) : (vtp T n P).2 w i = P w i := by
  unfold vtp
  split
  · exact mst_o hw
  · rw [vtq_o hw (by rw [mst_d]; exact h), mst_o hw]
theorem rst_o {k i : Nat} (hw : ¬ w = 0) (h : ¬ (w = 2 ∧ i = P 0 3)) (h' : ¬ (w = 3 ∧ i = P 0 3)) : (rst T n k P).2 w i = P w i := by
  unfold rst
  repeat' split
  all_goals first
    | exact lmt_o hw h'
    | exact sit_o hw h
    | exact (lmt_o hw (by rw [sit_d]; exact h')).trans (sit_o hw h)
    | exact (vtp_o hw (by rw [sit_d]; exact h')).trans (sit_o hw h)
    | rfl
theorem dd1_o {e k i : Nat} (hw : ¬ w = 0) (h : ¬ i = P 0 3) : dd1 P e k w i = P w i := by
  unfold dd1
  rw [a_up_def, if_neg (fun q => h q.2), a_up_def, if_neg (fun q => h q.2), a_up_def, if_neg (fun q => h q.2), a_up_def, if_neg (by omega)]
theorem dd2_o {q : Nat × HA} {i : Nat} (hw : ¬ w = 0) : dd2 T n q w i = q.2 w i := by
  unfold dd2
  split
  · rfl
  · split
    · exact mst_o hw
    · rw [a_up_def, if_neg (by omega), mst_o hw]
theorem ded_o {i : Nat} (hw : ¬ w = 0) (h : ¬ i = P 0 3) : ded T n P w i = P w i := by
  unfold ded
  split
  · exact flh_o hw
  · split
    · exact flh_o hw
    · split
      · unfold flp
        rw [a_up_def, if_neg (by omega), a_up_def, if_neg (by omega)]
      · have := rst_o (T := T) (n := n) (P := dd1 P (wen T n P) (kd T (P 0 0) (wen T n P) 10 0)) (k := kd T (P 0 0) (wen T n P) 10 0) (i := i) hw (fun q => h q.2) (fun q => h q.2)
        rw [dd2_o hw, this, dd1_o hw h]
/-- a site, a limit -/
theorem csit (h : P 0 1 = 0) : (dgR T n (mmr T n 32 (trp P))).2 = trp (sit T n P).2 ∧ (¬ (sit T n P).1 = 0 → (dgR T n (mmr T n 32 (trp P))).1 = (sit T n P).2 2 (P 0 3)) := by
  rw [cmm h]
  unfold sit
  by_cases g : (mst T n 32 P).1 = 0
  · rw [if_pos g, dgR_n (mst_f g)]
    exact ⟨rfl, fun q => absurd rfl q⟩
  · have h1 : (mst T n 32 P).2 0 1 = 0 := (mst_k g).trans h
    rw [if_neg g, cdg h1 (Or.inl rfl)]
    refine ⟨rfl, fun q => ?_⟩
    have := dgw_x (by omega) q
    rw [mst_d] at this
    dsimp only
    rw [if_neg q, this]
theorem cps (h : P 0 1 = 0) : psR T n 32 (trp P) = if bth T n (P 0 0) = 32 then (1, trp (a_up P 0 0 (P 0 0 + 1))) else (0, trp P) := by
  unfold psR
  by_cases g : bth T n (P 0 0) = 32
  · rw [if_pos g, if_pos ⟨h, g⟩]; rfl
  · rw [if_neg g, if_neg (fun q => g q.2)]
theorem clmt (h : P 0 1 = 0) : (Gp T n (trp P) o).1 = trp (lmt T n P).2 ∧ (¬ (lmt T n P).1 = 0 → o = P 3 (P 0 3) → (Gp T n (trp P) o).2 = (lmt T n P).2 3 (P 0 3)) := by
  unfold Gp lmt
  rw [cps h]
  by_cases g : bth T n (P 0 0) = 32
  · rw [if_pos g, if_pos g, if_neg (show ¬ (1 : Nat) = 0 by decide)]
    have h1 : (a_up P 0 0 (P 0 0 + 1)) 0 1 = 0 := h
    dsimp only
    rw [cdg h1 (Or.inr rfl)]
    refine ⟨rfl, fun q _ => ?_⟩
    have := dgw_x (by omega) q
    dsimp only
    rw [if_neg q]
    exact this.symm
  · rw [if_neg g, if_neg g, if_pos rfl]
    exact ⟨rfl, fun _ q => q⟩
theorem wnd_n {d s : Nat} (h : ¬ ltr T n s = true) : wnd T n d s = s := by
  cases d with
  | zero => rfl
  | succ d => unfold wnd; rw [if_neg h]
theorem isw_n {k a : Nat} (hk : 1 ≤ wl k) : ¬ isw T k a a = true := by
  unfold isw
  rw [if_neg (by omega)]
  decide
theorem wsm_x {k a : Nat} : ∀ d i, wsm T k a d i = true → ∀ j, i ≤ j → j < i + d → T (a + j) = wc k j := by
  intro d
  induction d with
  | zero => intro i _ j h1 h2; omega
  | succ d ih =>
    intro i h j h1 h2
    unfold wsm at h
    split at h
    · rename_i g
      by_cases e : j = i
      · rw [e]; exact g
      · exact ih (i + 1) h j (by omega) (by omega)
    · cases h
theorem isw_u {j k a e : Nat} (hj : j < 12) (hk : k < 12) (h : isw T j a e = true) (g : isw T k a e = true) : j = k := by
  unfold isw at h g
  split at h
  · rename_i h1
    split at g
    · rename_i g1
      have h2 := wsm_x _ _ h
      have g2 := wsm_x _ _ g
      have dis := (by decide +kernel : ∀ j, j < 12 → ∀ k, k < 12 → wl j = wl k → (∀ i, i < wl j → wc j i = wc k i) → j = k) j hj k hk (by omega)
      exact dis (fun i hi => (h2 i (by omega) (by omega)).symm.trans (g2 i (by omega) (by omega)))
    · cases g
  · cases h
theorem kd_is {a e : Nat} : ∀ d j, ¬ kd T a e d j = 4294967295 → isw T (kd T a e d j) a e = true ∧ j ≤ kd T a e d j ∧ kd T a e d j < j + d := by
  intro d
  induction d with
  | zero => intro j h; exact absurd rfl h
  | succ d ih =>
    intro j h
    unfold kd at h ⊢
    split
    · rename_i g; exact ⟨g, Nat.le_refl _, by omega⟩
    · rename_i g
      rw [if_neg g] at h
      have := ih (j + 1) h
      exact ⟨this.1, by omega, by omega⟩
theorem kd_no {a e : Nat} : ∀ d j, kd T a e d j = 4294967295 → j + d ≤ 12 → ∀ i, j ≤ i → i < j + d → ¬ isw T i a e = true := by
  intro d
  induction d with
  | zero => intro j _ _ i h1 h2; omega
  | succ d ih =>
    intro j h hd i h1 h2
    unfold kd at h
    split at h
    · omega
    · rename_i g
      by_cases c : i = j
      · rw [c]; exact g
      · exact ih (j + 1) h (by omega) i (by omega) (by omega)
theorem kd_eq {j a e : Nat} (hj : j < 12) (h : isw T j a e = true) : kd T a e 12 0 = j := by
  by_cases g : kd T a e 12 0 = 4294967295
  · exact absurd h (kd_no 12 0 g (by omega) j (by omega) (by omega))
  · obtain ⟨g1, g2, g3⟩ := kd_is 12 0 g
    exact isw_u (by omega) hj g1 h
theorem cvq (h : P 0 1 = 0) : TE (rdR T n 10 11 (trp P)).2 (vtq T n P).2 ∧ (¬ (vtq T n P).1 = 0 → (if (rdR T n 10 11 (trp P)).1 = 10 then 1 else 0) = (vtq T n P).2 3 (P 0 3)) := by
  have we : wnr T n (trp P) = wen T n P := rfl
  unfold rdR vtq
  rw [if_pos (show (trp P).2.1 = 0 from h), we]
  have e1 : (trp P).1 = P 0 0 := rfl
  rw [e1]
  by_cases gl : ltr T n (P 0 0) = true
  · rw [if_pos gl]
    by_cases g10 : isw T 10 (P 0 0) (wen T n P) = true
    · rw [kd_eq (by omega) g10, if_pos (by omega), if_pos g10, if_pos rfl]
      refine ⟨⟨rfl, rfl, fun _ => rfl⟩, fun _ => ?_⟩
      show 1 = a_up (a_up P 3 (P 0 3) 1) 0 0 (wen T n P) 3 (P 0 3)
      rw [a_up_def, if_neg (by omega), a_up_def, if_pos ⟨rfl, rfl⟩]
    · rw [if_neg g10]
      by_cases g11 : isw T 11 (P 0 0) (wen T n P) = true
      · rw [kd_eq (by omega) g11, if_pos (by omega), if_pos g11, if_neg (show ¬ (11 : Nat) = 10 by decide)]
        refine ⟨⟨rfl, rfl, fun _ => rfl⟩, fun _ => ?_⟩
        show 0 = a_up (a_up P 3 (P 0 3) 0) 0 0 (wen T n P) 3 (P 0 3)
        rw [a_up_def, if_neg (by omega), a_up_def, if_pos ⟨rfl, rfl⟩]
      · have hk : ¬ (10 ≤ kd T (P 0 0) (wen T n P) 12 0 ∧ kd T (P 0 0) (wen T n P) 12 0 ≤ 11) := fun q => by
          have := (kd_is (T := T) (a := P 0 0) (e := wen T n P) 12 0 (by omega)).1
          rcases (by omega : kd T (P 0 0) (wen T n P) 12 0 = 10 ∨ kd T (P 0 0) (wen T n P) 12 0 = 11) with e | e
          · rw [e] at this; exact g10 this
          · rw [e] at this; exact g11 this
        rw [if_neg hk, if_neg g11]
        have hf : flh T n P 0 1 = 1 := show flw T n (P 0 0) = 1 by unfold flw; rw [if_pos gl]
        exact ⟨⟨hf.symm, rfl, fun q => absurd (hf.symm.trans q) (by decide)⟩, fun q => absurd rfl q⟩
  · have e0 : wen T n P = P 0 0 := wnd_n gl
    rw [if_neg gl, e0, if_neg (isw_n (by decide +kernel)), if_neg (isw_n (by decide +kernel))]
    have hf : flh T n P 0 1 = 2 := show flw T n (P 0 0) = 2 by unfold flw; rw [if_neg gl]
    exact ⟨⟨hf.symm, rfl, fun q => absurd (hf.symm.trans q) (by decide)⟩, fun q => absurd rfl q⟩
theorem cvt (h : P 0 1 = 0) : TE (rdR T n 10 11 (mmr T n 32 (trp P))).2 (vtp T n P).2 ∧ (¬ (vtp T n P).1 = 0 → (if (rdR T n 10 11 (mmr T n 32 (trp P))).1 = 10 then 1 else 0) = (vtp T n P).2 3 (P 0 3)) := by
  rw [cmm h]
  unfold vtp
  by_cases g : (mst T n 32 P).1 = 0
  · rw [if_pos g, rdR_n (mst_f g)]
    exact ⟨TE.tr _, fun q => absurd rfl q⟩
  · have h1 : (mst T n 32 P).2 0 1 = 0 := (mst_k g).trans h
    rw [if_neg g]
    have := cvq (T := T) (n := n) h1
    rw [mst_d] at this
    exact this
theorem G1_f (h : ¬ ((3 ≤ w ∧ w ≤ 6) ∨ w = 8)) : G1 T n w t o = (t, o) := by unfold G1; rw [if_neg h]
theorem G1_t (h : (3 ≤ w ∧ w ≤ 6) ∨ w = 8) : G1 T n w t o = ((dgR T n (mmr T n 32 t)).2, (dgR T n (mmr T n 32 t)).1) := by unfold G1; rw [if_pos h]
theorem G2_f (h : ¬ w = 8) : G2 T n w t o = (t, o) := by unfold G2; rw [if_neg h]
theorem G2_t (h : w = 8) : G2 T n w t o = ((rdR T n 10 11 (mmr T n 32 t)).2, if (rdR T n 10 11 (mmr T n 32 t)).1 = 10 then 1 else 0) := by unfold G2; rw [if_pos h]
theorem G3_f (h : ¬ w ≤ 2) : G3 T n w t o = (t, o) := by unfold G3; rw [if_neg h]
theorem G3_t (h : w ≤ 2) : G3 T n w t o = Gp T n t o := by unfold G3; rw [if_pos h]
theorem G4_f (h : ¬ w = 5) : G4 T n w t o = (t, o) := by unfold G4; rw [if_neg h]
theorem G4_t (h : w = 5) : G4 T n w t o = Gp T n t o := by unfold G4; rw [if_pos h]
theorem rst_a (h : w ≤ 2) : rst T n w P = lmt T n P := by unfold rst; rw [if_pos h]
theorem rst_b (h : w = 3 ∨ w = 4 ∨ w = 6) : rst T n w P = sit T n P := by unfold rst; rw [if_neg (by omega), if_pos h]
theorem rst_c : rst T n 5 P = if (sit T n P).1 = 0 then (0, (sit T n P).2) else lmt T n (sit T n P).2 := by unfold rst; rw [if_neg (by omega), if_neg (by omega), if_pos rfl]
theorem rst_e : rst T n 8 P = if (sit T n P).1 = 0 then (0, (sit T n P).2) else vtp T n (sit T n P).2 := by unfold rst; rw [if_neg (by omega), if_neg (by omega), if_neg (by omega), if_pos rfl]
theorem rst_g (h : w = 7 ∨ w = 9) : rst T n w P = (1, P) := by unfold rst; rw [if_neg (by omega), if_neg (by omega), if_neg (by omega), if_neg (by omega)]
/-- what stands behind the word of a deed -/
theorem crst {d : Nat} (h : P 0 1 = 0) (hd : P 0 3 = d) (h3 : P 3 d = 4294967295) (hw : w < 10) : ∃ te o1 o2, G14 T n w (trp P) 4294967295 4294967295 = (mmr T n 59 te, o1, o2) ∧ TE te (rst T n w P).2 ∧ (¬ (rst T n w P).1 = 0 → (rst T n w P).2 0 1 = 0 ∧ OO w ((rst T n w P).2 2 d) ((rst T n w P).2 3 d) o1 o2) := by
  subst hd
  rcases (by omega : w ≤ 2 ∨ (w = 3 ∨ w = 4 ∨ w = 6) ∨ w = 5 ∨ w = 8 ∨ (w = 7 ∨ w = 9)) with c | c | c | c | c
  · obtain ⟨c1, c2⟩ := clmt (T := T) (n := n) (o := 4294967295) h
    refine ⟨(Gp T n (trp P) 4294967295).1, (Gp T n (trp P) 4294967295).2, 4294967295, ?_, ?_, ?_⟩
    · unfold G14 G24 G34 G5
      rw [G1_f (by omega), G2_f (by omega), G3_t c, G4_f (by omega)]
    · rw [rst_a c, c1]; exact TE.tr _
    · rw [rst_a c]
      exact fun q => ⟨(lmt_k q).trans h, fun _ => c2 q h3.symm, fun _ => by omega, fun _ => by omega⟩
  · obtain ⟨c1, c2⟩ := csit (T := T) (n := n) h
    refine ⟨(dgR T n (mmr T n 32 (trp P))).2, (dgR T n (mmr T n 32 (trp P))).1, 4294967295, ?_, ?_, ?_⟩
    · unfold G14 G24 G34 G5
      rw [G1_t (by omega), G2_f (by omega), G3_f (by omega), G4_f (by omega)]
    · rw [rst_b c, c1]; exact TE.tr _
    · rw [rst_b c]
      exact fun q => ⟨(sit_k q).trans h, fun _ => by omega, fun _ => c2 q, fun _ => by omega⟩
  · subst c
    obtain ⟨c1, c2⟩ := csit (T := T) (n := n) h
    refine ⟨(Gp T n (trp (sit T n P).2) 4294967295).1, (dgR T n (mmr T n 32 (trp P))).1, (Gp T n (trp (sit T n P).2) 4294967295).2, ?_, ?_⟩
    · unfold G14 G24 G34 G5
      rw [G1_t (by omega), G2_f (by omega), G3_f (by omega), G4_t rfl, c1]
    · rw [rst_c]
      by_cases g : (sit T n P).1 = 0
      · rw [if_pos g, Gp_n (sit_f g)]
        exact ⟨TE.tr _, fun q => absurd rfl q⟩
      · rw [if_neg g]
        have h1 : (sit T n P).2 0 1 = 0 := (sit_k g).trans h
        have hd := sit_d (T := T) (n := n) (P := P)
        obtain ⟨b1, b2⟩ := clmt (T := T) (n := n) (o := 4294967295) h1
        rw [hd] at b2
        rw [b1]
        refine ⟨TE.tr _, fun q => ⟨(lmt_k q).trans h1, fun _ => by omega, fun _ => ?_, fun _ => ?_⟩⟩
        · rw [c2 g, lmt_o (by omega) (by omega)]
        · exact b2 q (by rw [sit_o (by omega) (by omega), h3])
  · subst c
    obtain ⟨c1, c2⟩ := csit (T := T) (n := n) h
    refine ⟨(rdR T n 10 11 (mmr T n 32 (trp (sit T n P).2))).2, (dgR T n (mmr T n 32 (trp P))).1, if (rdR T n 10 11 (mmr T n 32 (trp (sit T n P).2))).1 = 10 then 1 else 0, ?_, ?_⟩
    · unfold G14 G24 G34 G5
      rw [G1_t (by omega), G2_t rfl, G3_f (by omega), G4_f (by omega), c1]
    · rw [rst_e]
      by_cases g : (sit T n P).1 = 0
      · rw [if_pos g, mmr_n (sit_f g), rdR_n (sit_f g)]
        exact ⟨TE.tr _, fun q => absurd rfl q⟩
      · rw [if_neg g]
        have h1 : (sit T n P).2 0 1 = 0 := (sit_k g).trans h
        have hd := sit_d (T := T) (n := n) (P := P)
        obtain ⟨b1, b2⟩ := cvt (T := T) (n := n) h1
        rw [hd] at b2
        refine ⟨b1, fun q => ⟨(vtp_k q).trans h1, fun _ => by omega, fun _ => ?_, fun _ => b2 q⟩⟩
        rw [c2 g, vtp_o (by omega) (by omega)]
  · refine ⟨trp P, 4294967295, 4294967295, ?_, ?_, ?_⟩
    · unfold G14 G24 G34 G5
      rw [G1_f (by omega), G2_f (by omega), G3_f (by omega), G4_f (by omega)]
    · rw [rst_g c]; exact TE.tr _
    · rw [rst_g c]
      exact fun _ => ⟨h, fun _ => by omega, fun _ => by omega, fun _ => by omega⟩
theorem dd1_w {e k : Nat} : dd1 P e k 0 1 = P 0 1 ∧ dd1 P e k 0 3 = P 0 3 ∧ dd1 P e k 3 (P 0 3) = 4294967295 ∧ dd1 P e k 1 (P 0 3) = k ∧ trp (dd1 P e k) = (e, P 0 1, P 0 2) := by
  refine ⟨rfl, rfl, ?_, ?_, rfl⟩
  · unfold dd1; rw [a_up_def, if_pos ⟨rfl, rfl⟩]
  · unfold dd1; rw [a_up_def, if_neg (by omega), a_up_def, if_neg (by omega), a_up_def, if_pos ⟨rfl, rfl⟩]
theorem cmpd (h : P 0 1 = 0) (h12 : P 0 3 ≤ 12) : TE (G14 T n (rdR T n 0 9 (trp P)).1 (G0t T n (P 0 3) (trp P)) 4294967295 4294967295).1 (ded T n P) ∧ (ded T n P 0 1 = 0 → ded T n P 0 3 = P 0 3 + 1 ∧ ded T n P 1 (P 0 3) = (rdR T n 0 9 (trp P)).1 ∧ (rdR T n 0 9 (trp P)).1 < 10 ∧ OO (rdR T n 0 9 (trp P)).1 (ded T n P 2 (P 0 3)) (ded T n P 3 (P 0 3)) (G14 T n (rdR T n 0 9 (trp P)).1 (G0t T n (P 0 3) (trp P)) 4294967295 4294967295).2.1 (G14 T n (rdR T n 0 9 (trp P)).1 (G0t T n (P 0 3) (trp P)) 4294967295 4294967295).2.2) ∧ (¬ ded T n P 0 1 = 0 → ded T n P 0 3 = P 0 3) := by
  have we : wnr T n (trp P) = wen T n P := rfl
  have e1 : (trp P).1 = P 0 0 := rfl
  have f0 : (trp P).2.1 = 0 := h
  by_cases gl : ltr T n (P 0 0) = true
  · have hgt : P 0 0 < wen T n P := by rw [w_gt (Nat.le_of_lt (of_decide_eq_true gl).1)]; exact gl
    by_cases gk : kd T (P 0 0) (wen T n P) 10 0 = 4294967295
    · -- no such word
      have hk : ¬ (0 ≤ kd T (P 0 0) (wen T n P) 12 0 ∧ kd T (P 0 0) (wen T n P) 12 0 ≤ 9) := fun q => by
        obtain ⟨g1, g2, g3⟩ := kd_is (T := T) (a := P 0 0) (e := wen T n P) 12 0 (by omega)
        exact kd_no 10 0 gk (by omega) _ (by omega) (by omega) g1
      have hr : (rdR T n 0 9 (trp P)).2 = (wen T n P, 1, P 0 0) := by
        unfold rdR
        rw [if_pos f0, e1, if_pos gl, we, if_neg hk]
      have ht : (G0t T n (P 0 3) (trp P)) = (wen T n P, 1, P 0 0) := by
        unfold G0t
        rw [hr]
        unfold fai
        rw [if_neg (show ¬ (1 : Nat) = 0 by decide), ite_self]
      have hD : ded T n P = flh T n P := by
        unfold ded
        rw [if_neg (by omega), if_pos gk]
      have hf : flh T n P 0 1 = 1 := show flw T n (P 0 0) = 1 by unfold flw; rw [if_pos gl]
      rw [ht, hD, G14_n (show ¬ (1 : Nat) = 0 by decide)]
      exact ⟨⟨hf.symm, rfl, fun q => absurd (hf.symm.trans q) (by decide)⟩, fun q => absurd (hf.symm.trans q) (by decide), fun _ => rfl⟩
    · obtain ⟨k1, k2, k3⟩ := kd_is (T := T) (a := P 0 0) (e := wen T n P) 10 0 gk
      have k4 := kd_eq (by omega) k1
      have hr : rdR T n 0 9 (trp P) = (kd T (P 0 0) (wen T n P) 10 0, (wen T n P, P 0 1, P 0 2)) := by
        unfold rdR
        rw [if_pos f0, e1, if_pos gl, we, k4, if_pos (by omega)]
        rfl
      by_cases gd : 12 ≤ P 0 3
      · have ht : G0t T n (P 0 3) (trp P) = (wen T n P, 3, P 0 0) := by
          unfold G0t
          rw [hr, if_pos (by omega), fai_0 (show ((wen T n P, P 0 1, P 0 2) : Nat × Nat × Nat).2.1 = 0 from h)]
          rfl
        have hD : ded T n P = flp P 3 := by
          unfold ded
          rw [if_neg (by omega), if_neg gk, if_pos gd]
        rw [ht, hD, G14_n (show ¬ (3 : Nat) = 0 by decide)]
        exact ⟨⟨rfl, rfl, fun q => absurd (show (3 : Nat) = 0 from q) (by decide)⟩, fun q => absurd (show (3 : Nat) = 0 from q) (by decide), fun _ => rfl⟩
      · have ht : G0t T n (P 0 3) (trp P) = trp (dd1 P (wen T n P) (kd T (P 0 0) (wen T n P) 10 0)) := by
          unfold G0t
          rw [hr, if_neg (by omega)]
          rfl
        have hD : ded T n P = dd2 T n (rst T n (kd T (P 0 0) (wen T n P) 10 0) (dd1 P (wen T n P) (kd T (P 0 0) (wen T n P) 10 0))) := by
          unfold ded
          rw [if_neg (by omega), if_neg gk, if_neg gd]
        have k5 : kd T (P 0 0) (wen T n P) 10 0 < 10 := by omega
        rw [ht, hD, hr]
        dsimp only
        generalize kd T (P 0 0) (wen T n P) 10 0 = k at k5 ⊢
        obtain ⟨d1, d2, d3, d4, -⟩ := dd1_w (P := P) (e := wen T n P) (k := k)
        generalize dd1 P (wen T n P) k = P1 at d1 d2 d3 d4 ⊢
        obtain ⟨te, o1, o2, q1, q2, q3⟩ := crst (T := T) (n := n) (w := k) (d1.trans h) d2 d3 k5
        rw [q1]
        have r1 : (rst T n k P1).2 1 (P 0 3) = k := by rw [rst_o (by omega) (by omega) (by omega), d4]
        have r3 := rst_d (T := T) (n := n) (k := k) (P := P1)
        rw [d2] at r3
        have rf := rst_f (T := T) (n := n) (k := k) (P := P1)
        generalize rst T n k P1 = q at q2 q3 r1 r3 rf ⊢
        unfold dd2
        by_cases z : q.1 = 0
        · rw [if_pos z, mmr_n (by rw [q2.1]; exact rf z)]
          exact ⟨q2, fun e => absurd e (rf z), fun _ => r3⟩
        · rw [if_neg z]
          obtain ⟨z1, z2⟩ := q3 z
          rw [q2.eq z1, cmm z1]
          by_cases y : (mst T n 59 q.2).1 = 0
          · rw [if_pos y]
            exact ⟨TE.tr _, fun e => absurd e (mst_f y), fun _ => mst_d.trans r3⟩
          · rw [if_neg y]
            have y1 := (mst_k y).trans z1
            refine ⟨⟨rfl, rfl, fun _ => rfl⟩, fun _ => ⟨?_, ?_, k5, ?_⟩, fun e => absurd (show a_up (mst T n 59 q.2).2 0 3 ((mst T n 59 q.2).2 0 3 + 1) 0 1 = 0 from y1) e⟩
            · rw [a_up_def, if_pos ⟨rfl, rfl⟩, mst_d, r3]
            · rw [a_up_def, if_neg (by omega), mst_o (by omega), r1]
            · rw [a_up_def, if_neg (by omega), a_up_def, if_neg (by omega), mst_o (by omega), mst_o (by omega)]
              exact z2
  · have e0 : wen T n P = P 0 0 := wnd_n gl
    have hr : (rdR T n 0 9 (trp P)).2 = (P 0 0, 2, P 0 0) := by
      unfold rdR
      rw [if_pos f0, e1, if_neg gl]
    have ht : (G0t T n (P 0 3) (trp P)) = (P 0 0, 2, P 0 0) := by
      unfold G0t
      rw [hr]
      unfold fai
      rw [if_neg (show ¬ (2 : Nat) = 0 by decide), ite_self]
    have hD : ded T n P = flh T n P := by
      unfold ded
      rw [if_pos e0]
    have hf : flh T n P 0 1 = 2 := show flw T n (P 0 0) = 2 by unfold flw; rw [if_neg gl]
    rw [ht, hD, G14_n (show ¬ (2 : Nat) = 0 by decide)]
    exact ⟨⟨hf.symm, rfl, fun q => absurd (hf.symm.trans q) (by decide)⟩, fun q => absurd (hf.symm.trans q) (by decide), fun _ => rfl⟩
end CMP
/-- what the reference has read -/
def RDs (M : a_Mm) (n : Nat) (T : Nat → Nat) (P : HA) : Prop := (∃ t, RT M n T t (P 0 3) ∧ TE t P) ∧ ∀ i, i < P 0 3 → P 1 i < 10 ∧ ∃ o1 o2, M 182 i = N (P 1 i) ∧ M 183 i = N o1 ∧ M 184 i = N o2 ∧ OO (P 1 i) (P 2 i) (P 3 i) o1 o2
def FX (M M' : a_Mm) : Prop := ∀ o k, ¬ (o = 170 ∧ (k = 20 ∨ k = 21 ∨ k = 22 ∨ k = 27)) → ¬ (182 ≤ o ∧ o ≤ 184) → M' o k = M o k
theorem FX.refl (M : a_Mm) : FX M M := fun _ _ _ _ => rfl
theorem FX.trans {M M1 M2 : a_Mm} (h : FX M M1) (g : FX M1 M2) : FX M M2 := fun o k a b => (g o k a b).trans (h o k a b)
section RDG
variable {sc : a_Sc} {fd : Nat} {Q : Option Value → a_Hp → Prop} {n l1 : Nat} {T : Nat → Nat}
theorem e_241_R {M : a_Mm} {P : HA} (c : RDs M n T P) (h0 : P 0 1 = 0) (k : ∀ M', RDs M' n T (ded T n P) → FX M M' → Q none (a_hp sc fd M')) : a_Ex 241 0 [some (.ref 170), none, none, none, none] [] (a_hp sc fd M) Q := by
  obtain ⟨⟨t, c1, c2⟩, c3⟩ := c
  rw [c2.eq h0] at c1
  obtain ⟨m1, m2, m3⟩ := cmpd (T := T) (n := n) h0 c1.d12
  refine e_241 c1 (fun M' a1 a2 a3 => ?_)
  rw [m1.1] at a1 a2
  have fx : FX M M' := fun o j h1 h2 => a3 o j h1 (fun q => h2 ⟨q.1, q.2.1⟩)
  have old : ∀ i, i < P 0 3 → ded T n P 1 i < 10 ∧ ∃ o1 o2, M' 182 i = N (ded T n P 1 i) ∧ M' 183 i = N o1 ∧ M' 184 i = N o2 ∧ OO (ded T n P 1 i) (ded T n P 2 i) (ded T n P 3 i) o1 o2 := fun i hi => by
    obtain ⟨b0, o1, o2, b1, b2, b3, b4⟩ := c3 i hi
    rw [ded_o (by omega) (by omega), ded_o (by omega) (by omega), ded_o (by omega) (by omega)]
    exact ⟨b0, o1, o2, (a3 _ _ (by omega) (by omega)).trans b1, (a3 _ _ (by omega) (by omega)).trans b2, (a3 _ _ (by omega) (by omega)).trans b3, b4⟩
  by_cases g : ded T n P 0 1 = 0
  · rw [if_pos g] at a1
    obtain ⟨p1, p2, p3, p4⟩ := m2 g
    obtain ⟨r1, r2, r3⟩ := a2 g
    refine k M' ⟨⟨_, by rw [p1]; exact a1, m1⟩, fun i hi => ?_⟩ fx
    rw [p1] at hi
    by_cases e : i = P 0 3
    · subst e
      rw [p2]
      exact ⟨p3, _, _, r1, r2, r3, p4⟩
    · exact old i (by omega)
  · rw [if_neg g] at a1
    exact k M' ⟨⟨_, by rw [m3 g]; exact a1, m1⟩, fun i hi => old i (by rw [m3 g] at hi; exact hi)⟩ fx
theorem e_240_57 : ∀ d {M M0 : a_Mm} {P : HA}, (P 0 1 = 0 → 13 ≤ d + P 0 3) → RDs M n T P → FX M0 M → (∀ M', RDs M' n T (rds T n d P) → FX M0 M' → a_Ex 240 82 [some (.ref 170), some (.int (N l1)), none, none] [] (a_hp sc fd M') Q) → a_Ex 240 57 [some (.ref 170), some (.int (N l1)), none, none] [] (a_hp sc fd M) Q := by
  intro d
  induction d with
  | zero =>
    intro M M0 P hd c fr k
    obtain ⟨⟨t, c1, c2⟩, c3⟩ := c
    have h12 := c1.d12
    have h3 := c1.f3
    have hz : ¬ t.2.1 = 0 := fun q => by have := hd (c2.1.symm.trans q); omega
    refine x_aload_n i_240_57 rfl ?_
    refine n_gi (x := t.2.1) i_240_58 ob_170 gf_8_21.1 gf_8_21.2 c1.hft ?_
    refine x_zneN (by omega) i_240_61 ⟨fun g1 => ?_, fun g1 => ?_⟩
    · exact k M ⟨⟨t, c1, c2⟩, c3⟩ fr
    · exact absurd g1 hz
  | succ d ih =>
    intro M M0 P hd c fr k
    have c' := c
    obtain ⟨⟨t, c1, c2⟩, c3⟩ := c
    have h12 := c1.d12
    have h3 := c1.f3
    have h2 := c1.n200
    have h4 := c1.a_n
    rw [rds_1] at k
    refine x_aload_n i_240_57 rfl ?_
    refine n_gi (x := t.2.1) i_240_58 ob_170 gf_8_21.1 gf_8_21.2 c1.hft ?_
    refine x_zneN (by omega) i_240_61 ⟨fun g1 => ?_, fun g1 => ?_⟩
    · rw [if_neg (fun q => g1 (c2.1.trans q.2))] at k
      exact k M c' fr
    · have hP : P 0 1 = 0 := c2.1.symm.trans g1
      have hA := c2.2.2 hP
      refine x_aload_n i_240_64 rfl ?_
      refine n_gi (x := t.1) i_240_65 ob_170 gf_8_20.1 gf_8_20.2 c1.hat ?_
      refine x_aload_n i_240_68 rfl ?_
      refine n_gi (x := n) i_240_69 ob_170 gf_8_19.1 gf_8_19.2 c1.hln ?_
      refine x_igeN (by omega) (by omega) i_240_72 ⟨fun g2 => ?_, fun g2 => ?_⟩
      · rw [if_neg (by omega)] at k
        exact k M c' fr
      · rw [if_pos ⟨by omega, hP⟩] at k
        refine x_aload_n i_240_75 rfl ?_
        refine x_vh (r := []) (lj := [some _, none, none, none, none]) i_240_76 w_241 ob_170 [] rfl rfl (Nat.le_of_ble_eq_true rfl) (Nat.le_of_ble_eq_true rfl) rfl ?_
        refine e_241_R c' hP (fun M1 r1 f1 => rt_n ?_)
        refine x_goto i_240_79 ?_
        refine ih (fun q => ?_) r1 (fr.trans f1) k
        rcases ded_c (T := T) (n := n) (P := P) h12 with z | z
        · exact absurd q z
        · have := hd hP; omega
end RDG
