/-! the law's cases: years -/
section LWG
variable {xs : Nat → Int32} {L s fd n k l : Nat} {A : HA} {M : a_Mm} {Q : Option Value → a_Hp → Prop}
theorem lw_770 (hL : L ≤ 3072) (hs : s + 6 ≤ L) (I : INVE M) (K : ∀ M' fd', INVE M' → a_Ex 262 1261 [some (.ref (a_CB + 1000)), some (.ref 0), some (.ref 170), some (.int (N s))] [] (a_hp (L + 1, xs) fd' M') Q) : a_Ex 262 770 [some (.ref (a_CB + 1000)), some (.ref 0), some (.ref 170), some (.int (N s))] [] (a_hp (L + 1, xs) fd M) Q := by
  obtain ⟨n, A, B, nx, sz, U, gi, xi, f, T, ff, I⟩ := I
  obtain ⟨⟨i1, i2, i3, i4⟩, ⟨j1, j2, j3⟩, k, ⟨l1, l2⟩, o, cm⟩ := id I
  by_cases c : ax xs (s + 1) ≤ 9999 ∧ 1 ≤ ax xs (s + 2) ∧ ax xs (s + 2) ≤ 40
  rotate_left
  · refine x_aload_n i_262_770 rfl ?_
    refine x_aload_n i_262_771 rfl ?_
    refine x_iload_n i_262_772 rfl ?_
    refine n_iconst 1 i_262_773 rfl ?_
    refine x_iaddN i_262_774 ?_
    refine n_ldL i_262_775 (by omega) hL ?_
    refine x_aload_n i_262_776 rfl ?_
    refine x_iload_n i_262_777 rfl ?_
    refine n_iconst 2 i_262_778 rfl ?_
    refine x_iaddN i_262_779 ?_
    refine n_ldL i_262_780 (by omega) hL ?_
    refine x_aload_n i_262_781 rfl ?_
    refine x_iload_n i_262_782 rfl ?_
    refine n_iconst 3 i_262_783 rfl ?_
    refine x_iaddN i_262_784 ?_
    refine n_ldL i_262_785 (by omega) hL ?_
    refine x_vh (r := []) (lj := [some _, some _, some _, some _, none, none]) i_262_786 w_23 ob_0 [_, _, _] rfl rfl (Nat.le_of_ble_eq_true rfl) (Nat.le_of_ble_eq_true rfl) rfl ?_
    refine d_23 i1 (ax_lt _ _) (ax_lt _ _) (ax_lt _ _) (fun _ => rt_i ?_) (fun h => absurd h c) (fun h => absurd h c)
    refine x_aload_n i_262_789 rfl ?_
    refine x_aload_n i_262_790 rfl ?_
    refine x_iload_n i_262_791 rfl ?_
    refine n_iconst 1 i_262_792 rfl ?_
    refine x_iaddN i_262_793 ?_
    refine n_ldL i_262_794 (by omega) hL ?_
    refine x_aload_n i_262_795 rfl ?_
    refine x_iload_n i_262_796 rfl ?_
    refine n_iconst 2 i_262_797 rfl ?_
    refine x_iaddN i_262_798 ?_
    refine n_ldL i_262_799 (by omega) hL ?_
    refine x_aload_n i_262_800 rfl ?_
    refine x_iload_n i_262_801 rfl ?_
    refine n_iconst 3 i_262_802 rfl ?_
    refine x_iaddN i_262_803 ?_
    refine n_ldL i_262_804 (by omega) hL ?_
    refine x_vh (r := [_]) (lj := [some _, some _, some _, some _, none, none]) i_262_805 w_219 ob_170 [_, _, _] rfl rfl (Nat.le_of_ble_eq_true rfl) (Nat.le_of_ble_eq_true rfl) rfl ?_
    refine e_219 i2 (ax_lt _ _) (ax_lt _ _) (ax_lt _ _) (fun _ M2 r2 f2 => rt_i ?_) (fun h => absurd h c) (fun h => absurd h c)
    refine x_ieq i_262_808 ⟨fun g1 => ?_, fun g1 => ?_⟩
    · exact K _ _ (I.fr10 r2 (i3.r 9 0 0 (Or.inl (Nat.le_refl _))) (fun o k h => f2 _ _ (by omega)))
    · exact absurd rfl g1
  by_cases c2 : ax xs (s + 3) ≤ 2
  rotate_left
  · refine x_aload_n i_262_770 rfl ?_
    refine x_aload_n i_262_771 rfl ?_
    refine x_iload_n i_262_772 rfl ?_
    refine n_iconst 1 i_262_773 rfl ?_
    refine x_iaddN i_262_774 ?_
    refine n_ldL i_262_775 (by omega) hL ?_
    refine x_aload_n i_262_776 rfl ?_
    refine x_iload_n i_262_777 rfl ?_
    refine n_iconst 2 i_262_778 rfl ?_
    refine x_iaddN i_262_779 ?_
    refine n_ldL i_262_780 (by omega) hL ?_
    refine x_aload_n i_262_781 rfl ?_
    refine x_iload_n i_262_782 rfl ?_
    refine n_iconst 3 i_262_783 rfl ?_
    refine x_iaddN i_262_784 ?_
    refine n_ldL i_262_785 (by omega) hL ?_
    refine x_vh (r := []) (lj := [some _, some _, some _, some _, none, none]) i_262_786 w_23 ob_0 [_, _, _] rfl rfl (Nat.le_of_ble_eq_true rfl) (Nat.le_of_ble_eq_true rfl) rfl ?_
    refine d_23 i1 (ax_lt _ _) (ax_lt _ _) (ax_lt _ _) (fun h => absurd c h) (fun _ _ => rt_i ?_) (fun _ h => absurd h c2)
    refine x_aload_n i_262_789 rfl ?_
    refine x_aload_n i_262_790 rfl ?_
    refine x_iload_n i_262_791 rfl ?_
    refine n_iconst 1 i_262_792 rfl ?_
    refine x_iaddN i_262_793 ?_
    refine n_ldL i_262_794 (by omega) hL ?_
    refine x_aload_n i_262_795 rfl ?_
    refine x_iload_n i_262_796 rfl ?_
    refine n_iconst 2 i_262_797 rfl ?_
    refine x_iaddN i_262_798 ?_
    refine n_ldL i_262_799 (by omega) hL ?_
    refine x_aload_n i_262_800 rfl ?_
    refine x_iload_n i_262_801 rfl ?_
    refine n_iconst 3 i_262_802 rfl ?_
    refine x_iaddN i_262_803 ?_
    refine n_ldL i_262_804 (by omega) hL ?_
    refine x_vh (r := [_]) (lj := [some _, some _, some _, some _, none, none]) i_262_805 w_219 ob_170 [_, _, _] rfl rfl (Nat.le_of_ble_eq_true rfl) (Nat.le_of_ble_eq_true rfl) rfl ?_
    refine e_219 i2 (ax_lt _ _) (ax_lt _ _) (ax_lt _ _) (fun h => absurd c h) (fun _ _ M2 r2 f2 => rt_i ?_) (fun _ h => absurd h c2)
    refine x_ieq i_262_808 ⟨fun g1 => ?_, fun g1 => ?_⟩
    · exact K _ _ (I.fr10 r2 (i3.r 9 0 0 (Or.inl (Nat.le_refl _))) (fun o k h => f2 _ _ (by omega)))
    · exact absurd rfl g1
  · refine x_aload_n i_262_770 rfl ?_
    refine x_aload_n i_262_771 rfl ?_
    refine x_iload_n i_262_772 rfl ?_
    refine n_iconst 1 i_262_773 rfl ?_
    refine x_iaddN i_262_774 ?_
    refine n_ldL i_262_775 (by omega) hL ?_
    refine x_aload_n i_262_776 rfl ?_
    refine x_iload_n i_262_777 rfl ?_
    refine n_iconst 2 i_262_778 rfl ?_
    refine x_iaddN i_262_779 ?_
    refine n_ldL i_262_780 (by omega) hL ?_
    refine x_aload_n i_262_781 rfl ?_
    refine x_iload_n i_262_782 rfl ?_
    refine n_iconst 3 i_262_783 rfl ?_
    refine x_iaddN i_262_784 ?_
    refine n_ldL i_262_785 (by omega) hL ?_
    refine x_vh (r := []) (lj := [some _, some _, some _, some _, none, none]) i_262_786 w_23 ob_0 [_, _, _] rfl rfl (Nat.le_of_ble_eq_true rfl) (Nat.le_of_ble_eq_true rfl) rfl ?_
    refine d_23 i1 (ax_lt _ _) (ax_lt _ _) (ax_lt _ _) (fun h => absurd c h) (fun _ h => absurd c2 h) (fun _ _ M1 C G e1 w1 hG f1 => rt_i ?_)
    refine x_aload_n i_262_789 rfl ?_
    refine x_aload_n i_262_790 rfl ?_
    refine x_iload_n i_262_791 rfl ?_
    refine n_iconst 1 i_262_792 rfl ?_
    refine x_iaddN i_262_793 ?_
    refine n_ldL i_262_794 (by omega) hL ?_
    refine x_aload_n i_262_795 rfl ?_
    refine x_iload_n i_262_796 rfl ?_
    refine n_iconst 2 i_262_797 rfl ?_
    refine x_iaddN i_262_798 ?_
    refine n_ldL i_262_799 (by omega) hL ?_
    refine x_aload_n i_262_800 rfl ?_
    refine x_iload_n i_262_801 rfl ?_
    refine n_iconst 3 i_262_802 rfl ?_
    refine x_iaddN i_262_803 ?_
    refine n_ldL i_262_804 (by omega) hL ?_
    refine x_vh (r := [_]) (lj := [some _, some _, some _, some _, none, none]) i_262_805 w_219 ob_170 [_, _, _] rfl rfl (Nat.le_of_ble_eq_true rfl) (Nat.le_of_ble_eq_true rfl) rfl ?_
    refine e_219 (i2.same (fun k _ => f1 _ _ (by omega) (by omega)) (fun k _ => f1 _ _ (by omega) (by omega))) (ax_lt _ _) (ax_lt _ _) (ax_lt _ _) (fun h => absurd c h) (fun _ h => absurd c2 h) (fun _ _ M2 D e2 r2 f2 => rt_i ?_)
    rw [x23 (e1.trans i3) w1 (NR.eq e1.symm i4) hG]
    refine x_ieq i_262_808 ⟨fun g1 => ?_, fun g1 => ?_⟩
    · exact K _ _ (I.fr10 r2 (i3.trans e2) (fun o k h => (f2 _ _ (by omega)).trans (f1 _ _ (by omega) (by omega))))
    · exact absurd rfl g1
end LWG
