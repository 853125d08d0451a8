/-! the class's search: its beginning -/
section BEG
variable {sc : a_Sc} {fd : Nat} {M M0 : a_Mm} {n g o i k : Nat} {T A B : HA} {S : HA × Nat} {Q : Option Value → a_Hp → Prop}
theorem c_139 (mb : MB o) (K : ∀ M', (∀ m, m < 1728 → M' (o + 1) m = N 4294967295) → (∀ x, x < 6 → M' (o + 2) x = N 0) → M' o 4 = N 4294967295 → M' o 5 = N 0 → M' o 6 = N 0 → M' o 7 = N 0 → M' o 0 = M o 0 → (∀ q j, ¬ q = o → ¬ q = o + 1 → ¬ q = o + 2 → M' q j = M q j) → Q none (a_hp sc fd M')) : a_Ex 139 0 [some (.ref o)] [] (a_hp sc fd M) Q := by
  refine x_aload_n i_139_0 rfl ?_
  refine x_gr i_139_1 mb.ob gr_7_1.1 gr_7_1.2 (mb.r1 _) ?_
  refine n_iconst 4294967295 i_139_4 rfl ?_
  refine x_fill i_139_5 mb.a1 (by decide) (Nat.le_of_ble_eq_true rfl) ?_
  have f1 : ∀ q j, ¬ q = o + 1 → a_row M (o + 1) (a_fil 1728 (N 4294967295) (M (o + 1))) q j = M q j := fun q j h => by unfold a_row; rw [if_neg h]
  have g1 : ∀ j, j < 1728 → a_row M (o + 1) (a_fil 1728 (N 4294967295) (M (o + 1))) (o + 1) j = N 4294967295 := fun j h => by unfold a_row a_fil; rw [if_pos rfl, if_pos h]
  generalize a_row M (o + 1) (a_fil 1728 (N 4294967295) (M (o + 1))) = M1 at f1 g1 ⊢
  refine x_aload_n i_139_8 rfl ?_
  refine x_gr i_139_9 mb.ob gr_7_2.1 gr_7_2.2 (mb.r2 _) ?_
  refine n_iconst 0 i_139_12 rfl ?_
  refine x_fill i_139_13 mb.a2 (by decide) (Nat.le_of_ble_eq_true rfl) ?_
  have f2 : ∀ q j, ¬ q = o + 2 → a_row M1 (o + 2) (a_fil 6 (N 0) (M1 (o + 2))) q j = M1 q j := fun q j h => by unfold a_row; rw [if_neg h]
  have g2 : ∀ j, j < 6 → a_row M1 (o + 2) (a_fil 6 (N 0) (M1 (o + 2))) (o + 2) j = N 0 := fun j h => by unfold a_row a_fil; rw [if_pos rfl, if_pos h]
  generalize a_row M1 (o + 2) (a_fil 6 (N 0) (M1 (o + 2))) = M2 at f2 g2 ⊢
  refine x_aload_n i_139_16 rfl ?_
  refine n_iconst 4294967295 i_139_17 rfl ?_
  refine x_pi i_139_18 mb.ob pf_7_4.1 pf_7_4.2 ?_
  refine x_aload_n i_139_21 rfl ?_
  refine n_iconst 0 i_139_22 rfl ?_
  refine x_pi i_139_23 mb.ob pf_7_5.1 pf_7_5.2 ?_
  refine x_aload_n i_139_26 rfl ?_
  refine n_iconst 0 i_139_27 rfl ?_
  refine x_pi i_139_28 mb.ob pf_7_6.1 pf_7_6.2 ?_
  refine x_aload_n i_139_31 rfl ?_
  refine n_iconst 0 i_139_32 rfl ?_
  refine x_pi i_139_33 mb.ob pf_7_7.1 pf_7_7.2 ?_
  refine x_vret i_139_36 rn_139 ?_
  have f3 : ∀ q j, ¬ (q = o ∧ 4 ≤ j ∧ j ≤ 7) → a_up (a_up (a_up (a_up M2 o 4 (N 4294967295)) o 5 (N 0)) o 6 (N 0)) o 7 (N 0) q j = M2 q j := fun q j h => by rw [a_up_def, if_neg (by omega), a_up_def, if_neg (by omega), a_up_def, if_neg (by omega), a_up_def, if_neg (by omega)]
  refine K _ (fun m hm => ?_) (fun x hx => ?_) ?_ ?_ ?_ ?_ ?_ (fun q j h1 h2 h3 => ?_)
  · rw [f3 _ _ (by omega), f2 _ _ (by omega)]; exact g1 m hm
  · rw [f3 _ _ (by omega)]; exact g2 x hx
  · rw [a_up_def, if_neg (by omega), a_up_def, if_neg (by omega), a_up_def, if_neg (by omega), a_up_def, if_pos ⟨rfl, rfl⟩]
  · rw [a_up_def, if_neg (by omega), a_up_def, if_neg (by omega), a_up_def, if_pos ⟨rfl, rfl⟩]
  · rw [a_up_def, if_neg (by omega), a_up_def, if_pos ⟨rfl, rfl⟩]
  · rw [a_up_def, if_pos ⟨rfl, rfl⟩]
  · rw [f3 _ _ (by omega), f2 _ _ (by omega)]; exact f1 _ _ (by omega)
  · rw [f3 _ _ (by omega), f2 _ _ h3]; exact f1 _ _ h2
theorem c_131 (hz : S.2 ≤ 4000) (s : SC M S i) (he : N (i + 1) = N k) (hk : k ≤ 4096) (K : ∀ M', SC M' S k → (∀ q j, ¬ (q = 147 ∧ j = 7) → M' q j = M q j) → Q (some (.int (N (if k < S.2 then 1 else 0)))) (a_hp sc fd M')) : a_Ex 131 0 [some (.ref 147)] [] (a_hp sc fd M) Q := by
  refine x_aload_n i_131_0 rfl ?_
  refine x_dup i_131_1 rfl ?_
  refine n_gi (x := i) i_131_2 ob_147 gf_6_7.1 gf_6_7.2 s.2.1 ?_
  refine n_iconst 1 i_131_5 rfl ?_
  refine x_iaddN i_131_6 ?_
  rw [he]
  refine x_pi i_131_7 ob_147 pf_6_7.1 pf_6_7.2 ?_
  have f1 : ∀ q j, ¬ (q = 147 ∧ j = 7) → a_up M 147 7 (N k) q j = M q j := fun q j h => by rw [a_up_def, if_neg h]
  have g1 : a_up M 147 7 (N k) 147 7 = N k := by rw [a_up_def, if_pos ⟨rfl, rfl⟩]
  generalize a_up M 147 7 (N k) = M1 at f1 g1 ⊢
  have s1 : SC M1 S k := by
    refine ⟨(f1 _ _ (by omega)).trans s.1, g1, fun j hj => ?_, fun c hc => ?_⟩
    · obtain ⟨y1, y2, y3, y4⟩ := s.2.2.1 j hj
      exact ⟨(f1 _ _ (by omega)).trans y1, (f1 _ _ (by omega)).trans y2, (f1 _ _ (by omega)).trans y3, (f1 _ _ (by omega)).trans y4⟩
    · rw [f1 _ _ (by omega)]; exact s.2.2.2 c hc
  refine x_aload_n i_131_10 rfl ?_
  refine n_gi (x := k) i_131_11 ob_147 gf_6_7.1 gf_6_7.2 s1.2.1 ?_
  refine x_aload_n i_131_14 rfl ?_
  refine n_gi (x := S.2) i_131_15 ob_147 gf_6_6.1 gf_6_6.2 s1.1 ?_
  refine x_igeN (by omega) (by omega) i_131_18 ⟨fun g1 => ?_, fun g1 => ?_⟩
  · have K := K M1 s1 f1
    rw [if_neg (by omega)] at K
    refine n_iconst 0 i_131_25 rfl ?_
    refine x_iret i_131_26 rn_131 rfl ?_
    exact K
  · have K := K M1 s1 f1
    rw [if_pos (by omega)] at K
    refine n_iconst 1 i_131_21 rfl ?_
    refine x_goto i_131_22 ?_
    refine x_iret i_131_26 rn_131 rfl ?_
    exact K
/-- a fresh hall with the terms of another -/
def frs (C A : HA) : HA := fun w k => if w = 3 ∨ w = 4 then A w k else if w = 6 ∧ (k = 1 ∨ k = 3 ∨ k = 4) then A 6 k else C w k
theorem frs_es (hn : n = 2 ∨ n = 3) (hA : A 6 1 < 2) (e : EQ B (opn n (A 6 1) T)) : ES n (frs B A) (std n A (c0 n)) := by
  have z0 : ∀ s, B 0 s = 0 := fun s => e 0 s (by omega) (by omega)
  have z1 : ∀ s, B 1 s = 1 := fun s => e 1 s (by omega) (by omega)
  have z2 : ∀ s, B 2 s = 0 := fun s => e 2 s (by omega) (by omega)
  have z3 : B 6 2 = 0 := e 6 2 (by omega) (by omega)
  rcases hn with rfl | rfl
  · refine ES.mk2 (fun w hw => ?_) ⟨rfl, z3, rfl, rfl⟩
    rcases (by omega : w = 0 ∨ w = 1 ∨ w = 2 ∨ w = 3 ∨ w = 4) with rfl | rfl | rfl | rfl | rfl
    · exact ⟨z0 0, z0 1⟩
    · exact ⟨z1 0, z1 1⟩
    · exact ⟨z2 0, z2 1⟩
    · exact ⟨rfl, rfl⟩
    · exact ⟨rfl, rfl⟩
  · refine ES.mk3 (fun w hw => ?_) ⟨rfl, z3, rfl, rfl⟩
    rcases (by omega : w = 0 ∨ w = 1 ∨ w = 2 ∨ w = 3 ∨ w = 4) with rfl | rfl | rfl | rfl | rfl
    · exact ⟨z0 0, z0 1, z0 2⟩
    · exact ⟨z1 0, z1 1, z1 2⟩
    · exact ⟨z2 0, z2 1, z2 2⟩
    · exact ⟨rfl, rfl, rfl⟩
    · exact ⟨rfl, rfl, rfl⟩
def CP2 (M0 M : a_Mm) (b c : Nat) (D : List (Nat × Nat × Nat)) : Prop := CP M0 M b c D ∧ ∀ o k, (∀ q, q ∈ D → ¬ (o = b + q.1 ∧ q.2.1 ≤ k ∧ k < q.2.2)) → M o k = M0 o k
theorem CP2.nil {b c : Nat} (h : c + 9 ≤ b ∨ b + 9 ≤ c) : CP2 M M b c [] := ⟨CP.nil h, fun _ _ _ => rfl⟩
theorem CP2.f {b c : Nat} {D : List (Nat × Nat × Nat)} (h : CP2 M0 M b c D) (o j : Nat) (ho : o < 9) : CP2 M0 (a_up M (b + o) j (M (c + o) j)) b c ((o, j, j + 1) :: D) := by
  refine ⟨h.1.f o j ho, fun o' k g => ?_⟩
  have g0 := g (o, j, j + 1) (by simp)
  have g0 : ¬ (o' = b + o ∧ j ≤ k ∧ k < j + 1) := g0
  rw [a_up_def, if_neg (by omega)]
  exact h.2 o' k (fun q hq => g q (by simp [hq]))
theorem CP2.a {b c : Nat} {D : List (Nat × Nat × Nat)} (h : CP2 M0 M b c D) (o l : Nat) (ho : o < 9) : CP2 M0 (a_row M (b + o) (va_cpy (M (c + o)) (M (b + o)) 0 0 l)) b c ((o, 0, l) :: D) := by
  refine ⟨h.1.a o l ho, fun o' k g => ?_⟩
  have g0 := g (o, 0, l) (by simp)
  have g0 : ¬ (o' = b + o ∧ 0 ≤ k ∧ k < l) := g0
  have h2 := h.2 o' k (fun q hq => g q (by simp [hq]))
  unfold a_row
  by_cases e : o' = b + o
  · rw [if_pos e]
    unfold va_cpy
    rw [if_neg (by omega), ← e]
    exact h2
  · rw [if_neg e]; exact h2
theorem u_51 {b c : Nat} {D : List (Nat × Nat × Nat)} (hb : HB b) (hc : HB c) (c0 : CP2 M0 M b c D) (k : ∀ M', CP2 M0 M' b c ((5, 0, 5) :: (4, 0, 5) :: (0, 4, 5) :: (0, 3, 4) :: (0, 1, 2) :: (0, 0, 1) :: D) → Q none (a_hp sc fd M')) : a_Ex 51 0 [some (.ref (b)), some (.ref (c))] [] (a_hp sc fd M) Q := by
  refine x_aload_n i_51_0 rfl ?_
  refine x_aload_n i_51_1 rfl ?_
  refine x_gi i_51_2 hc.ob gf_1_0.1 gf_1_0.2 ?_
  refine x_pi i_51_5 hb.ob pf_1_0.1 pf_1_0.2 ?_
  have c1 := c0.f 0 0 (by omega)
  generalize hM1 : a_up M (b + 0) 0 (M (c + 0) 0) = M1 at c1
  refine x_aload_n i_51_8 rfl ?_
  refine x_aload_n i_51_9 rfl ?_
  refine x_gi i_51_10 hc.ob gf_1_1.1 gf_1_1.2 ?_
  refine x_pi i_51_13 hb.ob pf_1_1.1 pf_1_1.2 ?_
  have c2 := c1.f 0 1 (by omega)
  generalize hM2 : a_up M1 (b + 0) 1 (M1 (c + 0) 1) = M2 at c2
  refine x_aload_n i_51_16 rfl ?_
  refine x_aload_n i_51_17 rfl ?_
  refine x_gi i_51_18 hc.ob gf_1_3.1 gf_1_3.2 ?_
  refine x_pi i_51_21 hb.ob pf_1_3.1 pf_1_3.2 ?_
  have c3 := c2.f 0 3 (by omega)
  generalize hM3 : a_up M2 (b + 0) 3 (M2 (c + 0) 3) = M3 at c3
  refine x_aload_n i_51_24 rfl ?_
  refine x_aload_n i_51_25 rfl ?_
  refine x_gi i_51_26 hc.ob gf_1_4.1 gf_1_4.2 ?_
  refine x_pi i_51_29 hb.ob pf_1_4.1 pf_1_4.2 ?_
  have c4 := c3.f 0 4 (by omega)
  generalize hM4 : a_up M3 (b + 0) 4 (M3 (c + 0) 4) = M4 at c4
  refine x_aload_n i_51_32 rfl ?_
  refine x_gr i_51_33 hc.ob gr_1_8.1 gr_1_8.2 (hc.r8 _) ?_
  refine x_iconst i_51_36 ?_
  refine x_aload_n i_51_37 rfl ?_
  refine x_gr i_51_38 hb.ob gr_1_8.1 gr_1_8.2 (hb.r8 _) ?_
  refine x_iconst i_51_41 ?_
  refine x_iconst i_51_42 ?_
  refine x_cpy' i_51_43 hc.a4 hb.a4 (by decide) (by unfold a_cpyOk; decide) (Nat.le_of_ble_eq_true rfl) ?_
  rw [show (0 : Int32).toNatClampNeg = 0 from rfl, show (5 : Int32).toNatClampNeg = 5 from rfl]
  have c5 := c4.a 4 5 (by omega)
  generalize hM5 : a_row M4 (b + 4) (va_cpy (M4 (c + 4)) (M4 (b + 4)) 0 0 5) = M5 at c5
  refine x_aload_n i_51_46 rfl ?_
  refine x_gr i_51_47 hc.ob gr_1_9.1 gr_1_9.2 (hc.r9 _) ?_
  refine x_iconst i_51_50 ?_
  refine x_aload_n i_51_51 rfl ?_
  refine x_gr i_51_52 hb.ob gr_1_9.1 gr_1_9.2 (hb.r9 _) ?_
  refine x_iconst i_51_55 ?_
  refine x_iconst i_51_56 ?_
  refine x_cpy' i_51_57 hc.a5 hb.a5 (by decide) (by unfold a_cpyOk; decide) (Nat.le_of_ble_eq_true rfl) ?_
  rw [show (0 : Int32).toNatClampNeg = 0 from rfl, show (5 : Int32).toNatClampNeg = 5 from rfl]
  have c6 := c5.a 5 5 (by omega)
  generalize hM6 : a_row M5 (b + 5) (va_cpy (M5 (c + 5)) (M5 (b + 5)) 0 0 5) = M6 at c6
  refine x_vret i_51_60 rn_51 ?_
  exact k _ c6
theorem c_51 {M1 : a_Mm} {C : HA} (r : RC M 1 n A) (r1 : RC M1 156 n C) (fr : FR 156 M M1) (K : ∀ M', RC M' 156 n (frs C A) → FR 156 M M' → Q none (a_hp sc fd M')) : a_Ex 51 0 [some (.ref 156), some (.ref 1)] [] (a_hp sc fd M1) Q := by
  refine u_51 hb156 hb1 (CP2.nil (Or.inl (by omega))) (fun M2 cp => ?_)
  obtain ⟨⟨-, c2, c3'⟩, gg⟩ := cp
  have c3 : ∀ o lo hi, (o, lo, hi) ∈ [(5, 0, 5), (4, 0, 5), (0, 4, 5), (0, 3, 4), (0, 1, 2), (0, 0, 1)] → ∀ k, lo ≤ k → k < hi → M2 (156 + o) k = M1 (1 + o) k := fun o lo hi h k => c3' (o, lo, hi) h k
  have g0 : ∀ j, ¬ (j = 0 ∨ j = 1 ∨ j = 3 ∨ j = 4) → M2 156 j = M1 156 j := fun j h => gg 156 j (fun q hq hx => by
    simp only [List.mem_cons, List.not_mem_nil, or_false] at hq
    rcases hq with rfl | rfl | rfl | rfl | rfl | rfl <;> simp at hx <;> omega)
  have g1 : ∀ o j, ¬ o = 156 → ¬ o = 160 → ¬ o = 161 → M2 o j = M1 o j := fun o j h1 h2 h3 => gg o j (fun q hq hx => by
    simp only [List.mem_cons, List.not_mem_nil, or_false] at hq
    rcases hq with rfl | rfl | rfl | rfl | rfl | rfl <;> simp at hx <;> omega)
  have m1 : ∀ q j, (q < 156 ∨ 165 ≤ q) → M1 q j = M q j := fun q j h => fr q j (by omega)
  obtain ⟨h1, h2, h3, h4, e, he, h5, h6, h7⟩ := r1
  have wA := r.w
  refine K M2 ⟨⟨h1.1, ⟨wA.2.1.1, h1.2.1.2.1, wA.2.1.2.2.1, wA.2.1.2.2.2⟩, fun s hs => ?_, h1.2.2.2.1, h1.2.2.2.2⟩, ?_, fun j hj => ?_, fun w hw s hs => ?_, e, he, ?_, ?_, fun j hj => ?_⟩ (fr.trans c2)
  · obtain ⟨x0, x1, x2, x3, x4, x5⟩ := h1.2.2.1 s hs
    obtain ⟨y0, y1, y2, y3, y4, y5⟩ := wA.2.2.1 s hs
    exact ⟨x0, x1, x2, y3, y4, x5⟩
  · rw [c3 0 0 1 (by simp) 0 (by omega) (by omega), m1 _ _ (by omega)]; exact r.nn
  · by_cases a : j = 1 ∨ j = 3 ∨ j = 4
    · show M2 156 j = N (if 6 = 3 ∨ 6 = 4 then A 6 j else if 6 = 6 ∧ (j = 1 ∨ j = 3 ∨ j = 4) then A 6 j else C 6 j)
      rw [if_neg (by omega), if_pos ⟨rfl, a⟩, ← r.2.2.1 j (by omega), ← m1 1 j (by omega)]
      rcases a with rfl | rfl | rfl
      · exact c3 0 1 2 (by simp) 1 (by omega) (by omega)
      · exact c3 0 3 4 (by simp) 3 (by omega) (by omega)
      · exact c3 0 4 5 (by simp) 4 (by omega) (by omega)
    · show M2 156 j = N (if 6 = 3 ∨ 6 = 4 then A 6 j else if 6 = 6 ∧ (j = 1 ∨ j = 3 ∨ j = 4) then A 6 j else C 6 j)
      rw [if_neg (by omega), if_neg (fun q => a q.2), ← h3 j hj]
      exact g0 j (by omega)
  · by_cases a : w = 3 ∨ w = 4
    · show M2 (156 + 1 + w) s = N (if w = 3 ∨ w = 4 then A w s else _)
      rw [if_pos a, ← r.2.2.2.1 w hw s hs, ← m1 (1 + 1 + w) s (by omega)]
      rcases a with rfl | rfl
      · exact c3 4 0 5 (by simp) s (by omega) hs
      · exact c3 5 0 5 (by simp) s (by omega) hs
    · show M2 (156 + 1 + w) s = N (if w = 3 ∨ w = 4 then A w s else if w = 6 ∧ _ then _ else C w s)
      rw [if_neg a, if_neg (fun q => absurd q.1 (by omega)), ← h4 w hw s hs]
      exact g1 _ _ (by omega) (by omega) (by omega)
  · rw [g1 _ _ (by omega) (by omega) (by omega)]; exact h5
  · rw [g1 _ _ (by omega) (by omega) (by omega)]; exact h6
  · rw [g1 _ _ (by omega) (by omega) (by omega)]; exact h7 j hj
end BEG
