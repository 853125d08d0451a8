/-! taking one hall over into another; copying the reference's rows -/
theorem HB.dj {b c : Nat} (h : HB b) (g : HB c) (ne : ¬ b = c) : c + 9 ≤ b ∨ b + 9 ≤ c := (by decide +kernel : ∀ b ∈ a_HL, ∀ c ∈ a_HL, ¬ b = c → c + 9 ≤ b ∨ b + 9 ≤ c) b h c g ne
/-- of the hall at b those places that D names hold what those of the hall at c held; nothing else changed -/
def CP (M0 M : a_Mm) (b c : Nat) (D : List (Nat × Nat × Nat)) : Prop := (c + 9 ≤ b ∨ b + 9 ≤ c) ∧ FR b M0 M ∧ ∀ q ∈ D, ∀ k, q.2.1 ≤ k → k < q.2.2 → M (b + q.1) k = M0 (c + q.1) k
theorem CP.nil {M : a_Mm} {b c : Nat} (h : c + 9 ≤ b ∨ b + 9 ≤ c) : CP M M b c [] := ⟨h, FR.refl _ _, fun q hq => absurd hq (by simp)⟩
theorem CP.f {M0 M : a_Mm} {b c : Nat} {D : List (Nat × Nat × Nat)} (h : CP M0 M b c D) (o j : Nat) (ho : o < 9) : CP M0 (a_up M (b + o) j (M (c + o) j)) b c ((o, j, j + 1) :: D) := by
  obtain ⟨h1, h2, h3⟩ := h
  refine ⟨h1, h2.trans (FR.put ho), fun q hq k hk1 hk2 => ?_⟩
  rw [a_up_def]
  by_cases e : b + q.1 = b + o ∧ k = j
  · rw [if_pos e, e.2, h2 _ _ (by omega), show q.1 = o by omega]
  · rw [if_neg e]
    rcases List.mem_cons.mp hq with g | g
    · subst g
      exact absurd ⟨rfl, by have h1 : j ≤ k := hk1; have h2 : k < j + 1 := hk2; omega⟩ e
    · exact h3 q g k hk1 hk2
theorem CP.a {M0 M : a_Mm} {b c : Nat} {D : List (Nat × Nat × Nat)} (h : CP M0 M b c D) (o l : Nat) (ho : o < 9) : CP M0 (a_row M (b + o) (va_cpy (M (c + o)) (M (b + o)) 0 0 l)) b c ((o, 0, l) :: D) := by
  obtain ⟨h1, h2, h3⟩ := h
  refine ⟨h1, fun o' k' g => ?_, fun q hq k hk1 hk2 => ?_⟩
  · unfold a_row
    rw [if_neg (by omega)]
    exact h2 o' k' g
  · unfold a_row
    by_cases e : b + q.1 = b + o
    · rw [if_pos e]
      unfold va_cpy
      by_cases e2 : 0 ≤ k ∧ k < 0 + l
      · rw [if_pos e2, h2 _ _ (by omega), show q.1 = o by omega, show 0 + (k - 0) = k by omega]
      · rw [if_neg e2]
        rcases List.mem_cons.mp hq with g | g
        · subst g
          exact absurd ⟨Nat.zero_le _, by have h2 : k < l := hk2; omega⟩ e2
        · have := h3 q g k hk1 hk2
          rw [e] at this
          exact this
    · rw [if_neg e]
      rcases List.mem_cons.mp hq with g | g
      · subst g; exact absurd rfl e
      · exact h3 q g k hk1 hk2
section CPY
variable {sc : a_Sc} {fd : Nat} {M M0 : a_Mm} {A B : HA} {Q : Option Value → a_Hp → Prop} {b c n n2 : Nat} {D : List (Nat × Nat × Nat)}
theorem t_51 (hb : HB b) (hc : HB c) (c0 : CP M0 M b c D) (k : ∀ M', CP M0 M' b c ((5, 0, 5) :: (4, 0, 5) :: (0, 4, 5) :: (0, 3, 4) :: (0, 1, 2) :: (0, 0, 1) :: D) → Q none (a_hp sc fd M')) : a_Ex 51 0 [some (.ref (b)), some (.ref (c))] [] (a_hp sc fd M) Q := by
  refine x_aload_n i_51_0 rfl ?_
  refine x_aload_n i_51_1 rfl ?_
  refine x_gi i_51_2 hc.ob gf_1_0.1 gf_1_0.2 ?_
  refine x_pi i_51_5 hb.ob pf_1_0.1 pf_1_0.2 ?_
  have c1 := c0.f 0 0 (by omega)
  generalize hM1 : a_up M (b + 0) 0 (M (c + 0) 0) = M1 at c1
  refine x_aload_n i_51_8 rfl ?_
  refine x_aload_n i_51_9 rfl ?_
  refine x_gi i_51_10 hc.ob gf_1_1.1 gf_1_1.2 ?_
  refine x_pi i_51_13 hb.ob pf_1_1.1 pf_1_1.2 ?_
  have c2 := c1.f 0 1 (by omega)
  generalize hM2 : a_up M1 (b + 0) 1 (M1 (c + 0) 1) = M2 at c2
  refine x_aload_n i_51_16 rfl ?_
  refine x_aload_n i_51_17 rfl ?_
  refine x_gi i_51_18 hc.ob gf_1_3.1 gf_1_3.2 ?_
  refine x_pi i_51_21 hb.ob pf_1_3.1 pf_1_3.2 ?_
  have c3 := c2.f 0 3 (by omega)
  generalize hM3 : a_up M2 (b + 0) 3 (M2 (c + 0) 3) = M3 at c3
  refine x_aload_n i_51_24 rfl ?_
  refine x_aload_n i_51_25 rfl ?_
  refine x_gi i_51_26 hc.ob gf_1_4.1 gf_1_4.2 ?_
  refine x_pi i_51_29 hb.ob pf_1_4.1 pf_1_4.2 ?_
  have c4 := c3.f 0 4 (by omega)
  generalize hM4 : a_up M3 (b + 0) 4 (M3 (c + 0) 4) = M4 at c4
  refine x_aload_n i_51_32 rfl ?_
  refine x_gr i_51_33 hc.ob gr_1_8.1 gr_1_8.2 (hc.r8 _) ?_
  refine x_iconst i_51_36 ?_
  refine x_aload_n i_51_37 rfl ?_
  refine x_gr i_51_38 hb.ob gr_1_8.1 gr_1_8.2 (hb.r8 _) ?_
  refine x_iconst i_51_41 ?_
  refine x_iconst i_51_42 ?_
  refine x_cpy' i_51_43 hc.a4 hb.a4 (by decide) (by unfold a_cpyOk; decide) (Nat.le_of_ble_eq_true rfl) ?_
  rw [show (0 : Int32).toNatClampNeg = 0 from rfl, show (5 : Int32).toNatClampNeg = 5 from rfl]
  have c5 := c4.a 4 5 (by omega)
  generalize hM5 : a_row M4 (b + 4) (va_cpy (M4 (c + 4)) (M4 (b + 4)) 0 0 5) = M5 at c5
  refine x_aload_n i_51_46 rfl ?_
  refine x_gr i_51_47 hc.ob gr_1_9.1 gr_1_9.2 (hc.r9 _) ?_
  refine x_iconst i_51_50 ?_
  refine x_aload_n i_51_51 rfl ?_
  refine x_gr i_51_52 hb.ob gr_1_9.1 gr_1_9.2 (hb.r9 _) ?_
  refine x_iconst i_51_55 ?_
  refine x_iconst i_51_56 ?_
  refine x_cpy' i_51_57 hc.a5 hb.a5 (by decide) (by unfold a_cpyOk; decide) (Nat.le_of_ble_eq_true rfl) ?_
  rw [show (0 : Int32).toNatClampNeg = 0 from rfl, show (5 : Int32).toNatClampNeg = 5 from rfl]
  have c6 := c5.a 5 5 (by omega)
  generalize hM6 : a_row M5 (b + 5) (va_cpy (M5 (c + 5)) (M5 (b + 5)) 0 0 5) = M6 at c6
  refine x_vret i_51_60 rn_51 ?_
  exact k _ c6
theorem t_98 (hb : HB b) (hc : HB c) (c0 : CP M0 M b c D) (k : ∀ M', CP M0 M' b c ((8, 0, 60) :: (7, 2, 3) :: (7, 1, 2) :: D) → Q none (a_hp sc fd M')) : a_Ex 98 0 [some (.ref (b + 7)), some (.ref (c + 7))] [] (a_hp sc fd M) Q := by
  refine x_aload_n i_98_0 rfl ?_
  refine x_aload_n i_98_1 rfl ?_
  refine x_gi i_98_2 hc.lg gf_2_1.1 gf_2_1.2 ?_
  refine x_pi i_98_5 hb.lg pf_2_1.1 pf_2_1.2 ?_
  have c1 := c0.f 7 1 (by omega)
  generalize hM1 : a_up M (b + 7) 1 (M (c + 7) 1) = M1 at c1
  refine x_aload_n i_98_8 rfl ?_
  refine x_aload_n i_98_9 rfl ?_
  refine x_gi i_98_10 hc.lg gf_2_2.1 gf_2_2.2 ?_
  refine x_pi i_98_13 hb.lg pf_2_2.1 pf_2_2.2 ?_
  have c2 := c1.f 7 2 (by omega)
  generalize hM2 : a_up M1 (b + 7) 2 (M1 (c + 7) 2) = M2 at c2
  refine x_aload_n i_98_16 rfl ?_
  refine x_gr i_98_17 hc.lg gr_2_0.1 gr_2_0.2 (hc.rl _) ?_
  refine x_iconst i_98_20 ?_
  refine x_aload_n i_98_21 rfl ?_
  refine x_gr i_98_22 hb.lg gr_2_0.1 gr_2_0.2 (hb.rl _) ?_
  refine x_iconst i_98_25 ?_
  refine x_bipush i_98_26 ?_
  refine x_cpy' i_98_28 hc.a8 hb.a8 (by decide) (by unfold a_cpyOk; decide) (Nat.le_of_ble_eq_true rfl) ?_
  rw [show (0 : Int32).toNatClampNeg = 0 from rfl, show (60 : Int32).toNatClampNeg = 60 from rfl]
  have c3 := c2.a 8 60 (by omega)
  generalize hM3 : a_row M2 (b + 8) (va_cpy (M2 (c + 8)) (M2 (b + 8)) 0 0 60) = M3 at c3
  refine x_vret i_98_31 rn_98 ?_
  exact k _ c3
theorem t_50 (hb : HB b) (hc : HB c) (c0 : CP M0 M b c D) (k : ∀ M', CP M0 M' b c ((8, 0, 60) :: (7, 2, 3) :: (7, 1, 2) :: (6, 0, 5) :: (3, 0, 5) :: (2, 0, 5) :: (1, 0, 5) :: (0, 2, 3) :: (5, 0, 5) :: (4, 0, 5) :: (0, 4, 5) :: (0, 3, 4) :: (0, 1, 2) :: (0, 0, 1) :: D) → Q none (a_hp sc fd M')) : a_Ex 50 0 [some (.ref (b)), some (.ref (c))] [] (a_hp sc fd M) Q := by
  refine x_aload_n i_50_0 rfl ?_
  refine x_aload_n i_50_1 rfl ?_
  refine x_vh (r := []) (lj := [some _, some _]) i_50_2 w_51 hb.ob [_] rfl rfl (Nat.le_of_ble_eq_true rfl) (Nat.le_of_ble_eq_true rfl) rfl ?_
  refine t_51 hb hc c0 (fun M1 c1 => rt_n ?_)
  refine x_aload_n i_50_5 rfl ?_
  refine x_aload_n i_50_6 rfl ?_
  refine x_gi i_50_7 hc.ob gf_1_2.1 gf_1_2.2 ?_
  refine x_pi i_50_10 hb.ob pf_1_2.1 pf_1_2.2 ?_
  have c2 := c1.f 0 2 (by omega)
  generalize hM2 : a_up M1 (b + 0) 2 (M1 (c + 0) 2) = M2 at c2
  refine x_aload_n i_50_13 rfl ?_
  refine x_gr i_50_14 hc.ob gr_1_5.1 gr_1_5.2 (hc.r5 _) ?_
  refine x_iconst i_50_17 ?_
  refine x_aload_n i_50_18 rfl ?_
  refine x_gr i_50_19 hb.ob gr_1_5.1 gr_1_5.2 (hb.r5 _) ?_
  refine x_iconst i_50_22 ?_
  refine x_iconst i_50_23 ?_
  refine x_cpy' i_50_24 hc.a1 hb.a1 (by decide) (by unfold a_cpyOk; decide) (Nat.le_of_ble_eq_true rfl) ?_
  rw [show (0 : Int32).toNatClampNeg = 0 from rfl, show (5 : Int32).toNatClampNeg = 5 from rfl]
  have c3 := c2.a 1 5 (by omega)
  generalize hM3 : a_row M2 (b + 1) (va_cpy (M2 (c + 1)) (M2 (b + 1)) 0 0 5) = M3 at c3
  refine x_aload_n i_50_27 rfl ?_
  refine x_gr i_50_28 hc.ob gr_1_6.1 gr_1_6.2 (hc.r6 _) ?_
  refine x_iconst i_50_31 ?_
  refine x_aload_n i_50_32 rfl ?_
  refine x_gr i_50_33 hb.ob gr_1_6.1 gr_1_6.2 (hb.r6 _) ?_
  refine x_iconst i_50_36 ?_
  refine x_iconst i_50_37 ?_
  refine x_cpy' i_50_38 hc.a2 hb.a2 (by decide) (by unfold a_cpyOk; decide) (Nat.le_of_ble_eq_true rfl) ?_
  rw [show (0 : Int32).toNatClampNeg = 0 from rfl, show (5 : Int32).toNatClampNeg = 5 from rfl]
  have c4 := c3.a 2 5 (by omega)
  generalize hM4 : a_row M3 (b + 2) (va_cpy (M3 (c + 2)) (M3 (b + 2)) 0 0 5) = M4 at c4
  refine x_aload_n i_50_41 rfl ?_
  refine x_gr i_50_42 hc.ob gr_1_7.1 gr_1_7.2 (hc.r7 _) ?_
  refine x_iconst i_50_45 ?_
  refine x_aload_n i_50_46 rfl ?_
  refine x_gr i_50_47 hb.ob gr_1_7.1 gr_1_7.2 (hb.r7 _) ?_
  refine x_iconst i_50_50 ?_
  refine x_iconst i_50_51 ?_
  refine x_cpy' i_50_52 hc.a3 hb.a3 (by decide) (by unfold a_cpyOk; decide) (Nat.le_of_ble_eq_true rfl) ?_
  rw [show (0 : Int32).toNatClampNeg = 0 from rfl, show (5 : Int32).toNatClampNeg = 5 from rfl]
  have c5 := c4.a 3 5 (by omega)
  generalize hM5 : a_row M4 (b + 3) (va_cpy (M4 (c + 3)) (M4 (b + 3)) 0 0 5) = M5 at c5
  refine x_aload_n i_50_55 rfl ?_
  refine x_gr i_50_56 hc.ob gr_1_10.1 gr_1_10.2 (hc.r10 _) ?_
  refine x_iconst i_50_59 ?_
  refine x_aload_n i_50_60 rfl ?_
  refine x_gr i_50_61 hb.ob gr_1_10.1 gr_1_10.2 (hb.r10 _) ?_
  refine x_iconst i_50_64 ?_
  refine x_iconst i_50_65 ?_
  refine x_cpy' i_50_66 hc.a6 hb.a6 (by decide) (by unfold a_cpyOk; decide) (Nat.le_of_ble_eq_true rfl) ?_
  rw [show (0 : Int32).toNatClampNeg = 0 from rfl, show (5 : Int32).toNatClampNeg = 5 from rfl]
  have c6 := c5.a 6 5 (by omega)
  generalize hM6 : a_row M5 (b + 6) (va_cpy (M5 (c + 6)) (M5 (b + 6)) 0 0 5) = M6 at c6
  refine x_aload_n i_50_69 rfl ?_
  refine x_gr i_50_70 hb.ob gr_1_11.1 gr_1_11.2 (hb.r11 _) ?_
  refine x_aload_n i_50_73 rfl ?_
  refine x_gr i_50_74 hc.ob gr_1_11.1 gr_1_11.2 (hc.r11 _) ?_
  refine x_vh (r := []) (lj := [some _, some _]) i_50_77 w_98 hb.lg [_] rfl rfl (Nat.le_of_ble_eq_true rfl) (Nat.le_of_ble_eq_true rfl) rfl ?_
  refine t_98 hb hc c6 (fun M7 c7 => rt_n ?_)
  refine x_vret i_50_80 rn_50 ?_
  exact k _ c7
theorem c_50 (hb : HB b) (hc : HB c) (ne : ¬ b = c) (r : RC M c n A) (k : ∀ M' B, EQ B A → RC M' b n B → FR b M M' → Q none (a_hp sc fd M')) : a_Ex 50 0 [some (.ref b), some (.ref c)] [] (a_hp sc fd M) Q := by
  refine t_50 hb hc (CP.nil (hb.dj hc ne)) (fun M' cc => ?_)
  obtain ⟨-, c2, c3'⟩ := cc
  have c3 : ∀ o lo hi, (o, lo, hi) ∈ _ → ∀ k, lo ≤ k → k < hi → M' (b + o) k = M (c + o) k := fun o lo hi h k => c3' (o, lo, hi) h k
  obtain ⟨h1, h2, h3, h4, e, he, h5, h6, h7⟩ := r
  have hA : ∀ w k, w ≤ 8 → (w = 6 → k < 5) → (fun w k => if w = 6 ∧ 5 ≤ k then (M' b k).toBitVec.toNat else A w k) w k = A w k := fun w k q1 q2 => if_neg (by omega)
  have hE : EQ (fun w k => if w = 6 ∧ 5 ≤ k then (M' b k).toBitVec.toNat else A w k) A := hA
  refine k M' _ hE ⟨hE.symm.wn h1, (c3 0 0 1 (by simp) 0 (by omega) (by omega)).trans h2, fun j hj => ?_, fun w hw s hs => ?_, e, he, (c3 7 1 2 (by simp) 1 (by omega) (by omega)).trans h5, (c3 7 2 3 (by simp) 2 (by omega) (by omega)).trans h6, fun j hj => ?_⟩ c2
  · by_cases g : 5 ≤ j
    · show M' b j = N (if _ then _ else _)
      rw [if_pos ⟨rfl, g⟩]
      apply Int32.toBitVec_inj.mp
      rw [N_bv]
      apply BitVec.eq_of_toNat_eq
      rw [BitVec.toNat_ofNat]
      exact (Nat.mod_eq_of_lt (M' b j).toBitVec.isLt).symm
    · rw [hA 6 j (by omega) (by omega), ← h3 j hj]
      rcases (by omega : j = 1 ∨ j = 2 ∨ j = 3 ∨ j = 4) with rfl | rfl | rfl | rfl
      · exact c3 0 1 2 (by simp) 1 (by omega) (by omega)
      · exact c3 0 2 3 (by simp) 2 (by omega) (by omega)
      · exact c3 0 3 4 (by simp) 3 (by omega) (by omega)
      · exact c3 0 4 5 (by simp) 4 (by omega) (by omega)
  · rw [hA w s (by omega) (by omega), ← h4 w hw s hs]
    rcases (by omega : w = 0 ∨ w = 1 ∨ w = 2 ∨ w = 3 ∨ w = 4 ∨ w = 5) with rfl | rfl | rfl | rfl | rfl | rfl
    · exact c3 1 0 5 (by simp) s (by omega) hs
    · exact c3 2 0 5 (by simp) s (by omega) hs
    · exact c3 3 0 5 (by simp) s (by omega) hs
    · exact c3 4 0 5 (by simp) s (by omega) hs
    · exact c3 5 0 5 (by simp) s (by omega) hs
    · exact c3 6 0 5 (by simp) s (by omega) hs
  · rw [hA 8 j (by omega) (by omega)]
    exact (c3 8 0 60 (by simp) _ (by omega) (Nat.mod_lt _ (by omega))).trans (h7 j hj)
end CPY
