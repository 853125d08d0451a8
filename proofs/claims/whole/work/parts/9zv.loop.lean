/-! the law's loop -/
def QL : Option Value → a_Hp → Prop := fun v h => v = some (.int 1) ∧ h.1 = a_SH
section LWL
variable {xs : Nat → Int32} {L : Nat}
theorem lw_end {s fd : Nat} {M : a_Mm} : a_Ex 262 1267 [some (.ref (a_CB + 1000)), some (.ref 0), some (.ref 170), some (.int (N s))] [] (a_hp (L + 1, xs) fd M) QL := by
  refine n_iconst 1 i_262_1267 rfl ?_
  refine x_iret i_262_1268 rn_262 (by decide +kernel) ?_
  exact ⟨rfl, rfl⟩
theorem lw_sw {s fd : Nat} {M : a_Mm} {Q : Option Value → a_Hp → Prop} (hL : L ≤ 3072) (hs : s + 6 ≤ L) (I : INVE M) (K : ∀ M' fd', INVE M' → a_Ex 262 1261 [some (.ref (a_CB + 1000)), some (.ref 0), some (.ref 170), some (.int (N s))] [] (a_hp (L + 1, xs) fd' M') Q) {v : Nat} (hv : v ≤ 63) : a_Ex 262 33 [some (.ref (a_CB + 1000)), some (.ref 0), some (.ref 170), some (.int (N s))] [.int (N v)] (a_hp (L + 1, xs) fd M) Q := by
  by_cases g0 : v = 0
  · subst g0
    refine x_tswI (t := 204) (off := 171) i_262_33 (by decide +kernel) (by decide +kernel) (by decide) ?_
    exact lw_204 hL hs I K
  by_cases g1 : v = 1
  · subst g1
    refine x_tswI (t := 237) (off := 204) i_262_33 (by decide +kernel) (by decide +kernel) (by decide) ?_
    exact lw_237 hL hs I K
  by_cases g2 : v = 2
  · subst g2
    refine x_tswI (t := 270) (off := 237) i_262_33 (by decide +kernel) (by decide +kernel) (by decide) ?_
    exact lw_270 hL hs I K
  by_cases g3 : v = 3
  · subst g3
    refine x_tswI (t := 303) (off := 270) i_262_33 (by decide +kernel) (by decide +kernel) (by decide) ?_
    exact lw_303 hL hs I K
  by_cases g4 : v = 4
  · subst g4
    refine x_tswI (t := 336) (off := 303) i_262_33 (by decide +kernel) (by decide +kernel) (by decide) ?_
    exact lw_336 hL hs I K
  by_cases g5 : v = 5
  · subst g5
    refine x_tswI (t := 359) (off := 326) i_262_33 (by decide +kernel) (by decide +kernel) (by decide) ?_
    exact lw_359 hL hs I K
  by_cases g6 : v = 6
  · subst g6
    refine x_tswI (t := 382) (off := 349) i_262_33 (by decide +kernel) (by decide +kernel) (by decide) ?_
    exact lw_382 hL hs I K
  by_cases g7 : v = 7
  · subst g7
    refine x_tswI (t := 405) (off := 372) i_262_33 (by decide +kernel) (by decide +kernel) (by decide) ?_
    exact lw_405 hL hs I K
  by_cases g8 : v = 8
  · subst g8
    refine x_tswI (t := 428) (off := 395) i_262_33 (by decide +kernel) (by decide +kernel) (by decide) ?_
    exact lw_428 hL hs I K
  by_cases g9 : v = 9
  · subst g9
    refine x_tswI (t := 451) (off := 418) i_262_33 (by decide +kernel) (by decide +kernel) (by decide) ?_
    exact lw_451 hL hs I K
  by_cases g10 : v = 10
  · subst g10
    refine x_tswI (t := 474) (off := 441) i_262_33 (by decide +kernel) (by decide +kernel) (by decide) ?_
    exact lw_474 hL hs I K
  by_cases g11 : v = 11
  · subst g11
    refine x_tswI (t := 507) (off := 474) i_262_33 (by decide +kernel) (by decide +kernel) (by decide) ?_
    exact lw_507 hL hs I K
  by_cases g12 : v = 12
  · subst g12
    refine x_tswI (t := 530) (off := 497) i_262_33 (by decide +kernel) (by decide +kernel) (by decide) ?_
    exact lw_530 hL hs I K
  by_cases g13 : v = 13
  · subst g13
    refine x_tswI (t := 553) (off := 520) i_262_33 (by decide +kernel) (by decide +kernel) (by decide) ?_
    exact lw_553 hL hs I K
  by_cases g14 : v = 14
  · subst g14
    refine x_tswI (t := 586) (off := 553) i_262_33 (by decide +kernel) (by decide +kernel) (by decide) ?_
    exact lw_586 hL hs I K
  by_cases g15 : v = 15
  · subst g15
    refine x_tswI (t := 609) (off := 576) i_262_33 (by decide +kernel) (by decide +kernel) (by decide) ?_
    exact lw_609 hL hs I K
  by_cases g16 : v = 16
  · subst g16
    refine x_tswI (t := 632) (off := 599) i_262_33 (by decide +kernel) (by decide +kernel) (by decide) ?_
    exact lw_632 hL hs I K
  by_cases g17 : v = 17
  · subst g17
    refine x_tswI (t := 645) (off := 612) i_262_33 (by decide +kernel) (by decide +kernel) (by decide) ?_
    exact lw_645 hL hs I K
  by_cases g18 : v = 18
  · subst g18
    refine x_tswI (t := 668) (off := 635) i_262_33 (by decide +kernel) (by decide +kernel) (by decide) ?_
    exact lw_668 hL hs I K
  by_cases g19 : v = 19
  · subst g19
    refine x_tswI (t := 681) (off := 648) i_262_33 (by decide +kernel) (by decide +kernel) (by decide) ?_
    exact lw_681 hL hs I K
  by_cases g20 : v = 20
  · subst g20
    refine x_tswI (t := 704) (off := 671) i_262_33 (by decide +kernel) (by decide +kernel) (by decide) ?_
    exact lw_704 hL hs I K
  by_cases g21 : v = 21
  · subst g21
    refine x_tswI (t := 727) (off := 694) i_262_33 (by decide +kernel) (by decide +kernel) (by decide) ?_
    exact lw_727 hL hs I K
  by_cases g22 : v = 22
  · subst g22
    refine x_tswI (t := 770) (off := 737) i_262_33 (by decide +kernel) (by decide +kernel) (by decide) ?_
    exact lw_770 hL hs I K
  by_cases g23 : v = 23
  · subst g23
    refine x_tswI (t := 813) (off := 780) i_262_33 (by decide +kernel) (by decide +kernel) (by decide) ?_
    exact lw_813 hL hs I K
  by_cases g24 : v = 24
  · subst g24
    refine x_tswI (t := 836) (off := 803) i_262_33 (by decide +kernel) (by decide +kernel) (by decide) ?_
    exact lw_836 hL hs I K
  by_cases g25 : v = 25
  · subst g25
    refine x_tswI (t := 849) (off := 816) i_262_33 (by decide +kernel) (by decide +kernel) (by decide) ?_
    exact lw_849 hL hs I K
  by_cases g26 : v = 26
  · subst g26
    refine x_tswI (t := 872) (off := 839) i_262_33 (by decide +kernel) (by decide +kernel) (by decide) ?_
    exact lw_872 hL hs I K
  by_cases g27 : v = 27
  · subst g27
    refine x_tswI (t := 905) (off := 872) i_262_33 (by decide +kernel) (by decide +kernel) (by decide) ?_
    exact lw_905 hL hs I K
  by_cases g28 : v = 28
  · subst g28
    refine x_tswI (t := 948) (off := 915) i_262_33 (by decide +kernel) (by decide +kernel) (by decide) ?_
    exact lw_948 hL hs I K
  by_cases g29 : v = 29
  · subst g29
    refine x_tswI (t := 981) (off := 948) i_262_33 (by decide +kernel) (by decide +kernel) (by decide) ?_
    exact lw_981 hL hs I K
  by_cases g30 : v = 30
  · subst g30
    refine x_tswI (t := 1014) (off := 981) i_262_33 (by decide +kernel) (by decide +kernel) (by decide) ?_
    exact lw_1014 hL hs I K
  by_cases g31 : v = 31
  · subst g31
    refine x_tswI (t := 1077) (off := 1044) i_262_33 (by decide +kernel) (by decide +kernel) (by decide) ?_
    exact lw_1077 hL hs I K
  by_cases g32 : v = 32
  · subst g32
    refine x_tswI (t := 1100) (off := 1067) i_262_33 (by decide +kernel) (by decide +kernel) (by decide) ?_
    exact lw_1100 hL hs I K
  by_cases g33 : v = 33
  · subst g33
    refine x_tswI (t := 1123) (off := 1090) i_262_33 (by decide +kernel) (by decide +kernel) (by decide) ?_
    exact lw_1123 hL hs I K
  by_cases g34 : v = 34
  · subst g34
    refine x_tswI (t := 1136) (off := 1103) i_262_33 (by decide +kernel) (by decide +kernel) (by decide) ?_
    exact lw_1136 hL hs I K
  by_cases g35 : v = 35
  · subst g35
    refine x_tswI (t := 1169) (off := 1136) i_262_33 (by decide +kernel) (by decide +kernel) (by decide) ?_
    exact lw_1169 hL hs I K
  by_cases g36 : v = 36
  · subst g36
    refine x_tswI (t := 1192) (off := 1159) i_262_33 (by decide +kernel) (by decide +kernel) (by decide) ?_
    exact lw_1192 hL hs I K
  by_cases g37 : v = 37
  · subst g37
    refine x_tswI (t := 1215) (off := 1182) i_262_33 (by decide +kernel) (by decide +kernel) (by decide) ?_
    exact lw_1215 hL hs I K
  by_cases g38 : v = 38
  · subst g38
    refine x_tswI (t := 1238) (off := 1205) i_262_33 (by decide +kernel) (by decide +kernel) (by decide) ?_
    exact lw_1238 hL hs I K
  refine x_tswO (t := 1261) i_262_33 (n_tswO (lo := 0) (hi := 38) (by omega) (by omega)) (by decide) ?_
  exact K M fd I
theorem lw_loop (hL : L ≤ 3072) : ∀ d s {fd : Nat} {M : a_Mm}, L + 6 - s ≤ d → s ≤ L → INVE M → a_Ex 262 18 [some (.ref (a_CB + 1000)), some (.ref 0), some (.ref 170), some (.int (N s))] [] (a_hp (L + 1, xs) fd M) QL := by
  intro d
  induction d with
  | zero => intro s fd M hd hs I; exact absurd hd (by omega)
  | succ d ih =>
    intro s fd M hd hs I
    refine x_iload_n i_262_18 rfl ?_
    refine x_aload_n i_262_19 rfl ?_
    refine x_alenL i_262_20 ?_
    refine n_bipush 6 i_262_21 rfl ?_
    by_cases c : 6 ≤ L
    · refine x_isubN c i_262_23 ?_
      refine x_igtN (by omega) (by omega) i_262_24 ⟨fun g => ?_, fun g => ?_⟩
      · exact lw_end
      · refine x_aload_n i_262_27 rfl ?_
        refine x_iload_n i_262_28 rfl ?_
        refine n_ldL i_262_29 (by omega) hL ?_
        refine n_bipush 63 i_262_30 rfl ?_
        refine x_iandN i_262_32 ?_
        refine lw_sw hL (by omega) I (fun M' fd' I' => ?_) (v := ax xs s &&& 63) Nat.and_le_right
        refine n_iinc 6 i_262_1261 rfl rfl rfl rfl ?_
        refine x_goto i_262_1264 ?_
        exact ih (s + 6) (by omega) (by omega) I'
    · refine n_isubC i_262_23 (by omega) ?_
      refine x_igt i_262_24 ⟨fun _ => lw_end, fun g => ?_⟩
      refine absurd ?_ g
      rw [Int32.lt_iff_toInt_lt, N_toIntU (show 2147483648 ≤ L + (4294967296 - 6) by omega) (by omega), N_toInt (show s < 2147483648 by omega)]
      omega
end LWL
theorem SH_sum : a_SH.length ≤ 600000 ∧ (a_SH.map (fun q => q.2)).sum ≤ 7302250 := by decide +kernel
theorem lw_run (L : Nat) (xs : Nat → Int32) (hL : L ≤ 3072) : ∃ (f : Nat) (h' : a_Hp), a_ex f 262 0 (a_ent 262 [.ref (a_CB + 1000)]) [] (a_h0 L xs) = some (some (.int 1), h') ∧ h'.1.length ≤ 600000 ∧ a_hs h' ≤ 7302250 := by
  obtain ⟨f, v, h', e, q1, q2⟩ := lw_start (L := L) (xs := xs) (Q := QL) (lw_loop hL (L + 6) 0 (by omega) (Nat.zero_le _) INVE0)
  subst q1
  refine ⟨f, h', e, ?_, ?_⟩
  · rw [q2]; exact SH_sum.1
  · unfold a_hs; rw [q2]; exact SH_sum.2
