/-! the law's start: what stands behind the two constructors -/
theorem run1_h : ∃ h, a_run1 = some (none, h) ∧ h.1 = a_SH.take 170 := by
  have q := a_run1_ok
  cases e : a_run1 with
  | none => rw [e] at q; exact absurd q Bool.false_ne_true
  | some w =>
    obtain ⟨v, h⟩ := w
    rw [e] at q
    cases v with
    | none => exact ⟨h, rfl, of_decide_eq_true q⟩
    | some _ => exact absurd q Bool.false_ne_true
theorem run2_h : ∃ h, a_run2 = some (none, h) ∧ h.1 = a_SH := by
  have q := a_run2_ok
  cases e : a_run2 with
  | none => rw [e] at q; exact absurd q Bool.false_ne_true
  | some w =>
    obtain ⟨v, h⟩ := w
    rw [e] at q
    cases v with
    | none => exact ⟨h, rfl, of_decide_eq_true q⟩
    | some _ => exact absurd q Bool.false_ne_true
theorem run1_e : a_run1 = some (none, a_h1) ∧ a_h1.1 = a_SH.take 170 := by
  obtain ⟨h, e, q⟩ := run1_h
  have : a_h1 = h := by unfold a_h1; rw [e]
  rw [this]
  exact ⟨e, q⟩
theorem run2_e : a_run2 = some (none, a_h2) ∧ a_h2.1 = a_SH := by
  obtain ⟨h, e, q⟩ := run2_h
  have : a_h2 = h := by unfold a_h2; rw [e]
  rw [this]
  exact ⟨e, q⟩
theorem run1_l : a_h1.1.length = 170 := by rw [run1_e.2]; decide +kernel
theorem mrf0 : a_mrf 148 = a_h2.2.1 := by
  have q : a_h2.2.1 147 10 = some 148 := a_rt_mem (by decide +kernel)
  funext o k
  unfold a_mrf a_up
  split
  · rename_i e
    subst e
    split
    · rename_i e
      subst e
      exact q.symm
    · rfl
  · rfl
theorem hp0 (sc : a_Sc) : a_wsc sc a_h2 = a_hp sc 148 a_h2.2.2.1 := by
  unfold a_wsc a_hp
  rw [run2_e.2, mrf0]
section STA
variable {i pc : Nat} {lc : a_Lc} {st r : List Value} {h : a_Hp} {Q : Option Value → a_Hp → Prop} {n a b z o : Nat} {v : Int32}
theorem x_newo (hi : a_ins i pc = some (.new z, n, a, b, v)) (hl : h.1.length < a_CB) (hc : a < 9) (k : a_Ex i (pc + n) lc (.ref h.1.length :: st) (a_push (10 + a) (a_fn a) h) Q) : a_Ex i pc lc st h Q := x_nx hi (by
  simp only [a_step, a_newo]
  rw [if_pos ⟨hl, hc⟩]
  rfl) k
theorem x_spcl (hi : a_ins i pc = some (.invokespecial z, n, a, b, v)) (hb : b = 1) (ha : a < 274) (hrv : o < a_CB ∧ a_own a < 9 ∧ h.1[o]? = some (10 + a_own a, a_fn (a_own a))) (hc : (r.map (fun v => v.category)).sum ≤ 8) (hsl : (a_slots [.ref o]).length ≤ a_maxL a) (k : a_Ex a 0 (a_ent a [.ref o]) [] h (a_Rt i (pc + n) lc r Q)) : a_Ex i pc lc (.ref o :: r) h Q := by
  subst hb
  refine x_call (j := a) (pc' := pc + n) (as := [.ref o]) (r := r) hi ?_ k
  have h1 : a_rcv a 1 (.ref o :: r) h = true := by
    unfold a_rcv
    show (decide _ || decide _) = true
    rw [Bool.or_eq_true]
    left
    exact decide_eq_true hrv
  simp only [a_step]
  rw [if_neg (show ¬ a = 1000 by omega), if_pos ⟨ha, Nat.succ_pos 0, h1⟩]
  unfold a_call
  rw [if_pos ⟨by simp, hc, by simpa using hsl⟩]
  rfl
end STA
theorem lw_start' {L : Nat} {xs : Nat → Int32} {Q : Option Value → a_Hp → Prop} {h1 h2 : a_Hp} (q1 : a_ex 9000 0 0 (a_ent 0 [.ref 0]) [] (a_push 10 10 a_hz) = some (none, h1)) (q2 : a_ex 9000 143 0 (a_ent 143 [.ref 170]) [] (a_push 18 28 h1) = some (none, h2)) (e1 : h1.1 = a_SH.take 170) (l1 : h1.1.length = 170) (g1 : (a_SH.take 170 ++ [(18, 28)])[170]? = some (10 + a_own 143, a_fn (a_own 143))) (k : a_Ex 262 18 [some (.ref (a_CB + 1000)), some (.ref 0), some (.ref 170), some (.int (N 0))] [] (a_wsc (L + 1, xs) h2) Q) : a_Ex 262 0 (a_ent 262 [.ref (a_CB + 1000)]) [] (a_h0 L xs) Q := by
  have z1 : h1.2.2.2.1 = 0 := by
    have m := a_ex_mo 9000 q1
    rw [m.2.2]
    rfl
  have w1 := a_ex_sc (L + 1, xs) 9000 (by rfl) q1
  have w2 : a_ex 9000 143 0 (a_ent 143 [.ref 170]) [] (a_wsc (L + 1, xs) (a_push 18 28 h1)) = some (none, a_wsc (L + 1, xs) h2) := a_ex_sc (L + 1, xs) 9000 z1 q2
  rw [show a_ent 262 [.ref (a_CB + 1000)] = [some (.ref (a_CB + 1000)), none, none, none] by rfl]
  refine x_newo i_262_0 (by show 0 < a_CB; decide) (by decide) ?_
  rw [show a_push (10 + 0) (a_fn 0) (a_h0 L xs) = a_wsc (L + 1, xs) (a_push 10 10 a_hz) by rfl]
  show a_Ex 262 3 _ [.ref 0] _ Q
  refine x_dup i_262_3 rfl ?_
  refine x_spcl i_262_4 rfl (by decide) ⟨by decide, by decide +kernel, by rfl⟩ (Nat.le_of_ble_eq_true rfl) (by decide +kernel) ?_
  refine ⟨9000, none, _, w1, ?_⟩
  refine rt_n ?_
  refine x_astore_n i_262_7 rfl rfl ?_
  refine x_newo i_262_8 (by show h1.1.length < a_CB; rw [l1]; decide) (by decide) ?_
  rw [show (a_wsc (L + 1, xs) h1).1.length = 170 from l1]
  rw [show a_push (10 + 8) (a_fn 8) (a_wsc (L + 1, xs) h1) = a_wsc (L + 1, xs) (a_push 18 28 h1) by rfl]
  refine x_dup i_262_11 rfl ?_
  refine x_spcl i_262_12 rfl (by decide) ⟨by decide, by decide +kernel, by show (h1.1 ++ [(18, 28)])[170]? = _; rw [e1]; exact g1⟩ (Nat.le_of_ble_eq_true rfl) (by decide +kernel) ?_
  refine ⟨9000, none, _, w2, ?_⟩
  refine rt_n ?_
  refine x_astore_n i_262_15 rfl rfl ?_
  refine n_iconst 0 i_262_16 rfl ?_
  refine x_istore_n i_262_17 rfl rfl ?_
  exact k
theorem lw_start {L : Nat} {xs : Nat → Int32} {Q : Option Value → a_Hp → Prop} (k : a_Ex 262 18 [some (.ref (a_CB + 1000)), some (.ref 0), some (.ref 170), some (.int (N 0))] [] (a_hp (L + 1, xs) 148 a_h2.2.2.1) Q) : a_Ex 262 0 (a_ent 262 [.ref (a_CB + 1000)]) [] (a_h0 L xs) Q := by
  have q1 : a_ex 9000 0 0 (a_ent 0 [.ref 0]) [] (a_push 10 10 a_hz) = some (none, a_h1) := by
    have := run1_e.1
    unfold a_run1 at this
    exact this
  have q2 : a_ex 9000 143 0 (a_ent 143 [.ref 170]) [] (a_push 18 28 a_h1) = some (none, a_h2) := by
    have := run2_e.1
    unfold a_run2 at this
    exact this
  rw [← hp0 (L + 1, xs)] at k
  exact lw_start' q1 q2 run1_e.2 run1_l (by decide +kernel) k
/-- the hall at first -/
def Z1 : HA := fun w k => if w = 1 ∨ w = 3 ∨ w = 4 then 1 else if w = 5 then 7 else if w = 6 ∧ (k = 3 ∨ k = 4) then 2 else 0
def a_iv : List (Nat × Nat × Nat) := [(0, 6, 0), (1, 0, 3), (1, 1, 0), (1, 2, 0), (1, 3, 2), (1, 4, 2), (1, 12, 0), (1, 13, 0), (2, 0, 0), (2, 1, 0), (2, 2, 0), (2, 3, 0), (2, 4, 0), (3, 0, 1), (3, 1, 1), (3, 2, 1), (3, 3, 1), (3, 4, 1), (4, 0, 0), (4, 1, 0), (4, 2, 0), (4, 3, 0), (4, 4, 0), (5, 0, 1), (5, 1, 1), (5, 2, 1), (5, 3, 1), (5, 4, 1), (6, 0, 1), (6, 1, 1), (6, 2, 1), (6, 3, 1), (6, 4, 1), (7, 0, 7), (7, 1, 7), (7, 2, 7), (7, 3, 7), (7, 4, 7), (8, 1, 0), (8, 2, 0), (19, 1, 0), (19, 2, 0), (139, 0, 0), (139, 1, 0), (141, 4, 0), (141, 5, 4294967295), (141, 6, 0), (148, 0, 4294967295), (152, 0, 4294967295), (156, 0, 2), (156, 1, 0), (156, 2, 0), (156, 3, 0), (156, 4, 0), (156, 12, 0), (156, 13, 0), (157, 0, 0), (157, 1, 0), (157, 2, 0), (157, 3, 0), (157, 4, 0), (158, 0, 0), (158, 1, 0), (158, 2, 0), (158, 3, 0), (158, 4, 0), (159, 0, 0), (159, 1, 0), (159, 2, 0), (159, 3, 0), (159, 4, 0), (160, 0, 0), (160, 1, 0), (160, 2, 0), (160, 3, 0), (160, 4, 0), (161, 0, 0), (161, 1, 0), (161, 2, 0), (161, 3, 0), (161, 4, 0), (162, 0, 0), (162, 1, 0), (162, 2, 0), (162, 3, 0), (162, 4, 0), (163, 1, 0), (163, 2, 0), (170, 0, 0), (170, 5, 0), (170, 7, 0), (170, 8, 0), (170, 9, 0), (170, 10, 0), (170, 18, 0), (170, 21, 0), (170, 22, 4294967295), (170, 23, 0), (171, 0, 3), (171, 1, 0), (171, 2, 0), (171, 3, 2), (171, 4, 2), (171, 5, 0), (171, 6, 1), (171, 7, 0), (171, 8, 1), (171, 9, 1), (171, 10, 7), (171, 11, 0), (171, 12, 1), (171, 13, 0), (171, 14, 1), (171, 15, 1), (171, 16, 7), (171, 17, 0), (171, 18, 1), (171, 19, 0), (171, 20, 1), (171, 21, 1), (171, 22, 7), (171, 35, 0), (175, 0, 0), (175, 1, 0)]
theorem a_iv_ok : a_iv.all (fun q => decide (a_h2.2.2.1 q.1 q.2.1 = N q.2.2)) = true := by decide +kernel
theorem ivm {M : a_Mm} {l : List (Nat × Nat × Nat)} (h : l.all (fun q => decide (M q.1 q.2.1 = N q.2.2)) = true) : ∀ o k v, (o, k, v) ∈ l → M o k = N v := fun o k v m => of_decide_eq_true (List.all_eq_true.mp h _ m)
theorem INVE0' {M : a_Mm} (hiv : ∀ o k v, (o, k, v) ∈ a_iv → M o k = N v) : INVE M := by
  have m1 : ∀ w, w < 6 → ∀ s, s < 5 → (1 + 1 + w, s, Z1 w s) ∈ a_iv := by decide +kernel
  have m2 : ∀ k, k < 14 → ((1 ≤ k ∧ k < 5) ∨ k = 12 ∨ k = 13) → (1, k, Z1 6 k) ∈ a_iv := by decide +kernel
  have m3 : ∀ w, w < 6 → ∀ s, s < 5 → (156 + 1 + w, s, 0) ∈ a_iv := by decide +kernel
  have m4 : ∀ k, k < 14 → ((1 ≤ k ∧ k < 5) ∨ k = 12 ∨ k = 13) → (156, k, 0) ∈ a_iv := by decide +kernel
  have m5 : ∀ w, w < 6 → ∀ s, s < 3 → (171, 5 + 6 * s + w, Z1 w s) ∈ a_iv := by decide +kernel
  have m6 : ∀ k, k < 5 → 1 ≤ k → (171, k, Z1 6 k) ∈ a_iv := by decide +kernel
  have m7 : ∀ k, k < 11 → k = 0 ∨ (7 ≤ k ∧ k ≤ 10) → (170, k, 0) ∈ a_iv := by decide +kernel
  have m8 : ∀ i, i < 2 → (139, i, 0) ∈ a_iv ∧ (175, i, 0) ∈ a_iv := by decide +kernel
  have m9 : ∀ j, j < 3 → (141, 4 + j, if j = 1 then 4294967295 else 0) ∈ a_iv ∧ (170, 21 + j, if j = 1 then 4294967295 else 0) ∈ a_iv := by decide +kernel
  have s1 : (1, 0, 3) ∈ a_iv ∧ (8, 1, 0) ∈ a_iv ∧ (8, 2, 0) ∈ a_iv ∧ (156, 0, 2) ∈ a_iv ∧ (163, 1, 0) ∈ a_iv ∧ (163, 2, 0) ∈ a_iv ∧ (171, 0, 3) ∈ a_iv ∧ (171, 35, 0) ∈ a_iv := by decide +kernel
  have s2 : (19, 1, 0) ∈ a_iv ∧ (19, 2, 0) ∈ a_iv ∧ (170, 5, 0) ∈ a_iv ∧ (0, 6, 0) ∈ a_iv ∧ (170, 18, 0) ∈ a_iv ∧ (148, 0, 4294967295) ∈ a_iv ∧ (152, 0, 4294967295) ∈ a_iv := by decide +kernel
  have wn : WN 3 Z1 := ⟨by omega, by decide +kernel, (by decide +kernel : ∀ s, s < 5 → Z1 0 s < 6 ∧ Z1 1 s < 3 ∧ Z1 2 s < 5 ∧ Z1 3 s < 2 ∧ Z1 4 s < 4 ∧ Z1 5 s < 32), by decide +kernel, fun j => by simp [Z1]⟩
  have wz : WN 2 (fun _ _ => 0) := ⟨by omega, by decide, fun s _ => ⟨(show (0 : Nat) < 6 by omega), (show (0 : Nat) < 3 by omega), (show (0 : Nat) < 5 by omega), (show (0 : Nat) < 2 by omega), (show (0 : Nat) < 4 by omega), (show (0 : Nat) < 32 by omega)⟩, by decide, fun j => (show (0 : Nat) < 500 by omega)⟩
  have z70 : Z1 7 0 = 0 := rfl
  have rc : RC M 1 3 Z1 := ⟨wn, hiv _ _ _ s1.1, fun k hk => hiv _ _ _ (m2 k (by omega) hk), fun w hw s hs => hiv _ _ _ (m1 w hw s hs), 0, by omega, hiv _ _ _ s1.2.1, hiv _ _ _ s1.2.2.1, fun j hj => absurd hj (by rw [z70]; exact Nat.not_lt_zero _)⟩
  have rm : RM M 3 Z1 := ⟨wn, hiv _ _ _ s1.2.2.2.2.2.2.1, fun k h1 h2 => hiv _ _ _ (m6 k h2 h1), fun w hw s hs => hiv _ _ _ (m5 w hw s hs), hiv _ _ _ s1.2.2.2.2.2.2.2, fun j hj => absurd hj (by rw [z70]; exact Nat.not_lt_zero _), fun k hk => by
    rw [show Z1 9 k = 0 by simp [Z1]]
    exact hiv _ _ _ (m7 k (by omega) hk)⟩
  have rz : RC M 156 2 (fun _ _ => 0) := ⟨wz, hiv _ _ _ s1.2.2.2.1, fun k hk => hiv _ _ _ (m4 k (by omega) hk), fun w hw s hs => hiv _ _ _ (m3 w hw s hs), 0, by omega, hiv _ _ _ s1.2.2.2.2.1, hiv _ _ _ s1.2.2.2.2.2.1, fun j hj => absurd hj (Nat.not_lt_zero _)⟩
  have z01 : ¬ (0 : Nat) = 1 := by omega
  have nr : NR 3 Z1 := fun _ s _ => by show ¬ Z1 0 s = 1; simp [Z1]
  refine ⟨3, Z1, Z1, 0, 0, fun _ => (3, Z1), fun _ => 0, fun _ => (3, Z1), 0, fun _ => 0, fun j => if j = 1 then 4294967295 else 0, ⟨rc, rm, EQ.refl _, nr⟩, ⟨⟨hiv _ _ _ s2.1, hiv _ _ _ s2.2.1, by omega, by omega, fun i hi => absurd hi (Nat.not_lt_zero _)⟩, ⟨hiv _ _ _ s2.2.2.1, by omega, fun i hi => absurd hi (Nat.not_lt_zero _)⟩, fun i hi => absurd hi (Nat.not_lt_zero _)⟩, fun i hi => ⟨⟨hiv _ _ _ (m8 i hi).1, Nat.zero_le _, fun h => absurd h z01⟩, ⟨hiv _ _ _ (m8 i hi).2, Nat.zero_le _, fun h => absurd h z01⟩, fun h => absurd h z01⟩, ⟨⟨by omega, hiv _ _ _ s2.2.2.2.1, fun k hk => absurd hk (Nat.not_lt_zero _)⟩, ⟨by omega, hiv _ _ _ s2.2.2.2.2.1, fun k hk => absurd hk (Nat.not_lt_zero _)⟩⟩, fun j hj => ⟨hiv _ _ _ (m9 j hj).1, hiv _ _ _ (m9 j hj).2, ?_⟩, ⟨Or.inl (hiv _ _ _ s2.2.2.2.2.2.1), Or.inl (hiv _ _ _ s2.2.2.2.2.2.2), 2, _, rz⟩⟩
  show (if j = 1 then 4294967295 else 0) < 4294967296
  split <;> omega
theorem INVE0 : INVE a_h2.2.2.1 := INVE0' (ivm a_iv_ok)
