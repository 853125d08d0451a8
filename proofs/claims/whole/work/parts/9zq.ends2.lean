/-! the law's cases: ends, told -/
section LWF
variable {xs : Nat → Int32} {L s fd n k l : Nat} {A : HA} {M : a_Mm} {Q : Option Value → a_Hp → Prop}
theorem ens_no {C : HA} {w : Nat} (h : ¬ l < n) : ens n (s_72 n C l k) l w = 4294967294 := by
  have e : s_72 n C l k = (4294967294, C) := by
    unfold s_72
    by_cases c0 : 2147483648 ≤ l
    · rw [if_pos c0]
    · rw [if_neg c0, if_pos (show n ≤ l by omega)]
  rw [e]
  unfold ens
  exact if_pos (by omega)
theorem lw_727 (hL : L ≤ 3072) (hs : s + 6 ≤ L) (I : INVE M) (K : ∀ M' fd', INVE M' → a_Ex 262 1261 [some (.ref (a_CB + 1000)), some (.ref 0), some (.ref 170), some (.int (N s))] [] (a_hp (L + 1, xs) fd' M') Q) : a_Ex 262 727 [some (.ref (a_CB + 1000)), some (.ref 0), some (.ref 170), some (.int (N s))] [] (a_hp (L + 1, xs) fd M) Q := by
  obtain ⟨n, A, B, nx, sz, U, gi, xi, f, T, ff, I⟩ := I
  obtain ⟨⟨i1, i2, i3, i4⟩, ⟨j1, j2, j3⟩, k, ⟨l1, l2⟩, o, cm⟩ := id I
  by_cases c : ax xs (s + 3) ≤ 2
  rotate_left
  · refine x_aload_n i_262_727 rfl ?_
    refine x_aload_n i_262_728 rfl ?_
    refine x_iload_n i_262_729 rfl ?_
    refine n_iconst 1 i_262_730 rfl ?_
    refine x_iaddN i_262_731 ?_
    refine n_ldL i_262_732 (by omega) hL ?_
    refine x_aload_n i_262_733 rfl ?_
    refine x_iload_n i_262_734 rfl ?_
    refine n_iconst 2 i_262_735 rfl ?_
    refine x_iaddN i_262_736 ?_
    refine n_ldL i_262_737 (by omega) hL ?_
    refine x_aload_n i_262_738 rfl ?_
    refine x_iload_n i_262_739 rfl ?_
    refine n_iconst 3 i_262_740 rfl ?_
    refine x_iaddN i_262_741 ?_
    refine n_ldL i_262_742 (by omega) hL ?_
    refine x_vh (r := []) (lj := [some _, some _, some _, some _, none]) i_262_743 w_22 ob_0 [_, _, _] rfl rfl (Nat.le_of_ble_eq_true rfl) (Nat.le_of_ble_eq_true rfl) rfl ?_
    refine d_22 i1 (ax_lt _ _) (ax_lt _ _) (ax_lt _ _) (fun _ => rt_i ?_) (fun h => absurd h c)
    refine x_aload_n i_262_746 rfl ?_
    refine x_aload_n i_262_747 rfl ?_
    refine x_iload_n i_262_748 rfl ?_
    refine n_iconst 1 i_262_749 rfl ?_
    refine x_iaddN i_262_750 ?_
    refine n_ldL i_262_751 (by omega) hL ?_
    refine x_aload_n i_262_752 rfl ?_
    refine x_iload_n i_262_753 rfl ?_
    refine n_iconst 2 i_262_754 rfl ?_
    refine x_iaddN i_262_755 ?_
    refine n_ldL i_262_756 (by omega) hL ?_
    refine x_aload_n i_262_757 rfl ?_
    refine x_iload_n i_262_758 rfl ?_
    refine n_iconst 3 i_262_759 rfl ?_
    refine x_iaddN i_262_760 ?_
    refine n_ldL i_262_761 (by omega) hL ?_
    refine x_vh (r := [_]) (lj := [some _, some _, some _, some _, none]) i_262_762 w_217 ob_170 [_, _, _] rfl rfl (Nat.le_of_ble_eq_true rfl) (Nat.le_of_ble_eq_true rfl) rfl ?_
    refine e_217 i2 (ax_lt _ _) (ax_lt _ _) (ax_lt _ _) (fun _ M2 r2 f2 => rt_i ?_) (fun h => absurd h.2 c)
    refine x_ieq i_262_765 ⟨fun g1 => ?_, fun g1 => ?_⟩
    · exact K _ _ (I.fr10 r2 (i3.r 9 0 0 (Or.inl (Nat.le_refl _))) (fun o k h => f2 _ _ (by omega)))
    · exact absurd rfl g1
  by_cases c2 : ax xs (s + 1) < n
  · refine x_aload_n i_262_727 rfl ?_
    refine x_aload_n i_262_728 rfl ?_
    refine x_iload_n i_262_729 rfl ?_
    refine n_iconst 1 i_262_730 rfl ?_
    refine x_iaddN i_262_731 ?_
    refine n_ldL i_262_732 (by omega) hL ?_
    refine x_aload_n i_262_733 rfl ?_
    refine x_iload_n i_262_734 rfl ?_
    refine n_iconst 2 i_262_735 rfl ?_
    refine x_iaddN i_262_736 ?_
    refine n_ldL i_262_737 (by omega) hL ?_
    refine x_aload_n i_262_738 rfl ?_
    refine x_iload_n i_262_739 rfl ?_
    refine n_iconst 3 i_262_740 rfl ?_
    refine x_iaddN i_262_741 ?_
    refine n_ldL i_262_742 (by omega) hL ?_
    refine x_vh (r := []) (lj := [some _, some _, some _, some _, none]) i_262_743 w_22 ob_0 [_, _, _] rfl rfl (Nat.le_of_ble_eq_true rfl) (Nat.le_of_ble_eq_true rfl) rfl ?_
    refine d_22 i1 (ax_lt _ _) (ax_lt _ _) (ax_lt _ _) (fun h => absurd c h) (fun _ M1 C e1 w1 f1 => rt_i ?_)
    refine x_aload_n i_262_746 rfl ?_
    refine x_aload_n i_262_747 rfl ?_
    refine x_iload_n i_262_748 rfl ?_
    refine n_iconst 1 i_262_749 rfl ?_
    refine x_iaddN i_262_750 ?_
    refine n_ldL i_262_751 (by omega) hL ?_
    refine x_aload_n i_262_752 rfl ?_
    refine x_iload_n i_262_753 rfl ?_
    refine n_iconst 2 i_262_754 rfl ?_
    refine x_iaddN i_262_755 ?_
    refine n_ldL i_262_756 (by omega) hL ?_
    refine x_aload_n i_262_757 rfl ?_
    refine x_iload_n i_262_758 rfl ?_
    refine n_iconst 3 i_262_759 rfl ?_
    refine x_iaddN i_262_760 ?_
    refine n_ldL i_262_761 (by omega) hL ?_
    refine x_vh (r := [_]) (lj := [some _, some _, some _, some _, none]) i_262_762 w_217 ob_170 [_, _, _] rfl rfl (Nat.le_of_ble_eq_true rfl) (Nat.le_of_ble_eq_true rfl) rfl ?_
    refine e_217 (i2.same (fun k _ => f1 _ _ (by omega)) (fun k _ => f1 _ _ (by omega))) (ax_lt _ _) (ax_lt _ _) (ax_lt _ _) (fun h => absurd ⟨c2, c⟩ h) (fun _ M2 D e2 r2 f2 => rt_i ?_)
    rw [x22 (e1.trans (i3.r 9 0 0 (Or.inl (Nat.le_refl _)))) w1 (ax_lt _ _) (ax_lt _ _)]
    refine x_ieq i_262_765 ⟨fun g1 => ?_, fun g1 => ?_⟩
    · exact K _ _ (I.fr10 r2 (i3.trans e2) (fun o k h => (f2 _ _ (by omega)).trans (f1 _ _ (by omega))))
    · exact absurd rfl g1
  · refine x_aload_n i_262_727 rfl ?_
    refine x_aload_n i_262_728 rfl ?_
    refine x_iload_n i_262_729 rfl ?_
    refine n_iconst 1 i_262_730 rfl ?_
    refine x_iaddN i_262_731 ?_
    refine n_ldL i_262_732 (by omega) hL ?_
    refine x_aload_n i_262_733 rfl ?_
    refine x_iload_n i_262_734 rfl ?_
    refine n_iconst 2 i_262_735 rfl ?_
    refine x_iaddN i_262_736 ?_
    refine n_ldL i_262_737 (by omega) hL ?_
    refine x_aload_n i_262_738 rfl ?_
    refine x_iload_n i_262_739 rfl ?_
    refine n_iconst 3 i_262_740 rfl ?_
    refine x_iaddN i_262_741 ?_
    refine n_ldL i_262_742 (by omega) hL ?_
    refine x_vh (r := []) (lj := [some _, some _, some _, some _, none]) i_262_743 w_22 ob_0 [_, _, _] rfl rfl (Nat.le_of_ble_eq_true rfl) (Nat.le_of_ble_eq_true rfl) rfl ?_
    refine d_22 i1 (ax_lt _ _) (ax_lt _ _) (ax_lt _ _) (fun h => absurd c h) (fun _ M1 C e1 w1 f1 => rt_i ?_)
    refine x_aload_n i_262_746 rfl ?_
    refine x_aload_n i_262_747 rfl ?_
    refine x_iload_n i_262_748 rfl ?_
    refine n_iconst 1 i_262_749 rfl ?_
    refine x_iaddN i_262_750 ?_
    refine n_ldL i_262_751 (by omega) hL ?_
    refine x_aload_n i_262_752 rfl ?_
    refine x_iload_n i_262_753 rfl ?_
    refine n_iconst 2 i_262_754 rfl ?_
    refine x_iaddN i_262_755 ?_
    refine n_ldL i_262_756 (by omega) hL ?_
    refine x_aload_n i_262_757 rfl ?_
    refine x_iload_n i_262_758 rfl ?_
    refine n_iconst 3 i_262_759 rfl ?_
    refine x_iaddN i_262_760 ?_
    refine n_ldL i_262_761 (by omega) hL ?_
    refine x_vh (r := [_]) (lj := [some _, some _, some _, some _, none]) i_262_762 w_217 ob_170 [_, _, _] rfl rfl (Nat.le_of_ble_eq_true rfl) (Nat.le_of_ble_eq_true rfl) rfl ?_
    refine e_217 (i2.same (fun k _ => f1 _ _ (by omega)) (fun k _ => f1 _ _ (by omega))) (ax_lt _ _) (ax_lt _ _) (ax_lt _ _) (fun _ M2 r2 f2 => rt_i ?_) (fun h => absurd h.1 c2)
    rw [ens_no c2]
    refine x_ieq i_262_765 ⟨fun g1 => ?_, fun g1 => ?_⟩
    · exact K _ _ (I.fr10 r2 (i3.r 9 0 0 (Or.inl (Nat.le_refl _))) (fun o k h => (f2 _ _ (by omega)).trans (f1 _ _ (by omega))))
    · exact absurd rfl g1
end LWF
