/-! the law's cases: what is told of the hall -/
section LWR
variable {xs : Nat → Int32} {L s fd : Nat} {M : a_Mm} {Q : Option Value → a_Hp → Prop}
/-- a read-only call of each: what is kept -/
theorem INV.read2 {M2 : a_Mm} {n nx sz f : Nat} {A B B' : HA} {U : Nat → Nat × HA} {gi : Nat → Nat} {xi : Nat → Nat × HA} {T ff : Nat → Nat} (I : INV M n A B nx sz U gi xi f T ff) (r2 : RM M2 n B') (e : EQ A B') (f2 : FM M M2) : INVE M2 := by
  refine I.keep (fun o k h => f2 _ _ (by omega)) r2 (I.1.2.2.1.symm.trans e) (fun o k h h' => f2 _ _ (by omega)) (I.2.2.2.2.2.same (fun q k a b => f2 _ _ (by omega)))
theorem lw_553 (hL : L ≤ 3072) (hs : s + 6 ≤ L) (I : INVE M) (K : ∀ M' fd', INVE M' → a_Ex 262 1261 [some (.ref (a_CB + 1000)), some (.ref 0), some (.ref 170), some (.int (N s))] [] (a_hp (L + 1, xs) fd' M') Q) : a_Ex 262 553 [some (.ref (a_CB + 1000)), some (.ref 0), some (.ref 170), some (.int (N s))] [] (a_hp (L + 1, xs) fd M) Q := by
  obtain ⟨n, A, B, nx, sz, U, gi, xi, f, T, ff, I⟩ := I
  obtain ⟨⟨i1, i2, i3, i4⟩, ⟨j1, j2, j3⟩, k, ⟨l1, l2⟩, o, cm⟩ := id I
  refine x_aload_n i_262_553 rfl ?_
  refine x_aload_n i_262_554 rfl ?_
  refine x_iload_n i_262_555 rfl ?_
  refine n_iconst 1 i_262_556 rfl ?_
  refine x_iaddN i_262_557 ?_
  refine n_ldL i_262_558 (by omega) hL ?_
  refine x_aload_n i_262_559 rfl ?_
  refine x_iload_n i_262_560 rfl ?_
  refine n_iconst 2 i_262_561 rfl ?_
  refine x_iaddN i_262_562 ?_
  refine n_ldL i_262_563 (by omega) hL ?_
  refine x_vh (r := []) (lj := [some _, some _, some _]) i_262_564 w_14 ob_0 [_, _] rfl rfl (Nat.le_of_ble_eq_true rfl) (Nat.le_of_ble_eq_true rfl) rfl ?_
  refine c_14 i1 (Nat.le_of_lt_succ (ax_lt _ _)) (Nat.le_of_lt_succ (ax_lt _ _)) (fun hq1 => rt_i ?_)
  refine x_aload_n i_262_567 rfl ?_
  refine x_aload_n i_262_568 rfl ?_
  refine x_iload_n i_262_569 rfl ?_
  refine n_iconst 1 i_262_570 rfl ?_
  refine x_iaddN i_262_571 ?_
  refine n_ldL i_262_572 (by omega) hL ?_
  refine x_aload_n i_262_573 rfl ?_
  refine x_iload_n i_262_574 rfl ?_
  refine n_iconst 2 i_262_575 rfl ?_
  refine x_iaddN i_262_576 ?_
  refine n_ldL i_262_577 (by omega) hL ?_
  refine x_vh (r := [_]) (lj := [some _, some _, some _]) i_262_578 w_200 ob_170 [_, _] rfl rfl (Nat.le_of_ble_eq_true rfl) (Nat.le_of_ble_eq_true rfl) rfl ?_
  refine c_200 i2 (Nat.le_of_lt_succ (ax_lt _ _)) (Nat.le_of_lt_succ (ax_lt _ _)) (fun hq2 M2 r2 f2 => rt_i ?_)
  have ap := x14 (l := ax xs (s + 1)) (m := ax xs (s + 2)) i3 i1.1
  rw [ap.1]
  refine x_ieq i_262_581 ⟨fun g1 => ?_, fun g1 => ?_⟩
  · exact K _ _ (I.read2 r2 ap.2 f2)
  · exact absurd rfl g1
theorem lw_586 (hL : L ≤ 3072) (hs : s + 6 ≤ L) (I : INVE M) (K : ∀ M' fd', INVE M' → a_Ex 262 1261 [some (.ref (a_CB + 1000)), some (.ref 0), some (.ref 170), some (.int (N s))] [] (a_hp (L + 1, xs) fd' M') Q) : a_Ex 262 586 [some (.ref (a_CB + 1000)), some (.ref 0), some (.ref 170), some (.int (N s))] [] (a_hp (L + 1, xs) fd M) Q := by
  obtain ⟨n, A, B, nx, sz, U, gi, xi, f, T, ff, I⟩ := I
  obtain ⟨⟨i1, i2, i3, i4⟩, ⟨j1, j2, j3⟩, k, ⟨l1, l2⟩, o, cm⟩ := id I
  refine x_aload_n i_262_586 rfl ?_
  refine x_aload_n i_262_587 rfl ?_
  refine x_iload_n i_262_588 rfl ?_
  refine n_iconst 1 i_262_589 rfl ?_
  refine x_iaddN i_262_590 ?_
  refine n_ldL i_262_591 (by omega) hL ?_
  refine x_vh (r := []) (lj := [some _, some _]) i_262_592 w_15 ob_0 [_] rfl rfl (Nat.le_of_ble_eq_true rfl) (Nat.le_of_ble_eq_true rfl) rfl ?_
  refine c_15 i1 (Nat.le_of_lt_succ (ax_lt _ _)) (fun hq1 => rt_i ?_)
  refine x_aload_n i_262_595 rfl ?_
  refine x_aload_n i_262_596 rfl ?_
  refine x_iload_n i_262_597 rfl ?_
  refine n_iconst 1 i_262_598 rfl ?_
  refine x_iaddN i_262_599 ?_
  refine n_ldL i_262_600 (by omega) hL ?_
  refine x_vh (r := [_]) (lj := [some _, some _]) i_262_601 w_201 ob_170 [_] rfl rfl (Nat.le_of_ble_eq_true rfl) (Nat.le_of_ble_eq_true rfl) rfl ?_
  refine c_201 i2 (Nat.le_of_lt_succ (ax_lt _ _)) (fun hq2 M2 r2 f2 => rt_i ?_)
  have ap := x15 (l := ax xs (s + 1)) i3 i1.1
  rw [ap.1]
  refine x_ieq i_262_604 ⟨fun g1 => ?_, fun g1 => ?_⟩
  · exact K _ _ (I.read2 r2 ap.2 f2)
  · exact absurd rfl g1
theorem lw_609 (hL : L ≤ 3072) (hs : s + 6 ≤ L) (I : INVE M) (K : ∀ M' fd', INVE M' → a_Ex 262 1261 [some (.ref (a_CB + 1000)), some (.ref 0), some (.ref 170), some (.int (N s))] [] (a_hp (L + 1, xs) fd' M') Q) : a_Ex 262 609 [some (.ref (a_CB + 1000)), some (.ref 0), some (.ref 170), some (.int (N s))] [] (a_hp (L + 1, xs) fd M) Q := by
  obtain ⟨n, A, B, nx, sz, U, gi, xi, f, T, ff, I⟩ := I
  obtain ⟨⟨i1, i2, i3, i4⟩, ⟨j1, j2, j3⟩, k, ⟨l1, l2⟩, o, cm⟩ := id I
  refine x_aload_n i_262_609 rfl ?_
  refine x_aload_n i_262_610 rfl ?_
  refine x_iload_n i_262_611 rfl ?_
  refine n_iconst 1 i_262_612 rfl ?_
  refine x_iaddN i_262_613 ?_
  refine n_ldL i_262_614 (by omega) hL ?_
  refine x_vh (r := []) (lj := [some _, some _, none, none]) i_262_615 w_16 ob_0 [_] rfl rfl (Nat.le_of_ble_eq_true rfl) (Nat.le_of_ble_eq_true rfl) rfl ?_
  refine c_16 i1 (Nat.le_of_lt_succ (ax_lt _ _)) (rt_i ?_)
  refine x_aload_n i_262_618 rfl ?_
  refine x_aload_n i_262_619 rfl ?_
  refine x_iload_n i_262_620 rfl ?_
  refine n_iconst 1 i_262_621 rfl ?_
  refine x_iaddN i_262_622 ?_
  refine n_ldL i_262_623 (by omega) hL ?_
  refine x_vh (r := [_]) (lj := [some _, some _, none, none]) i_262_624 w_203 ob_170 [_] rfl rfl (Nat.le_of_ble_eq_true rfl) (Nat.le_of_ble_eq_true rfl) rfl ?_
  refine c_203 i2 (Nat.le_of_lt_succ (ax_lt _ _)) (fun M2 r2 f2 => rt_i ?_)
  have ap := x16 (l := ax xs (s + 1)) i3 i1.1
  rw [ap.1]
  refine x_ieq i_262_627 ⟨fun g1 => ?_, fun g1 => ?_⟩
  · exact K _ _ (I.read2 r2 ap.2 f2)
  · exact absurd rfl g1
theorem lw_632 (hL : L ≤ 3072) (hs : s + 6 ≤ L) (I : INVE M) (K : ∀ M' fd', INVE M' → a_Ex 262 1261 [some (.ref (a_CB + 1000)), some (.ref 0), some (.ref 170), some (.int (N s))] [] (a_hp (L + 1, xs) fd' M') Q) : a_Ex 262 632 [some (.ref (a_CB + 1000)), some (.ref 0), some (.ref 170), some (.int (N s))] [] (a_hp (L + 1, xs) fd M) Q := by
  obtain ⟨n, A, B, nx, sz, U, gi, xi, f, T, ff, I⟩ := I
  obtain ⟨⟨i1, i2, i3, i4⟩, ⟨j1, j2, j3⟩, k, ⟨l1, l2⟩, o, cm⟩ := id I
  refine x_aload_n i_262_632 rfl ?_
  refine x_vh (r := []) (lj := [some _]) i_262_633 w_17 ob_0 [] rfl rfl (Nat.le_of_ble_eq_true rfl) (Nat.le_of_ble_eq_true rfl) rfl ?_
  refine c_17 i1  (fun hq1 => rt_i ?_)
  refine x_aload_n i_262_636 rfl ?_
  refine x_vh (r := [_]) (lj := [some _, none, none]) i_262_637 w_204 ob_170 [] rfl rfl (Nat.le_of_ble_eq_true rfl) (Nat.le_of_ble_eq_true rfl) rfl ?_
  refine c_204 i2  (fun hq2 M2 r2 f2 => rt_i ?_)
  have ap := x17 i3 i1.1
  rw [ap.1]
  refine x_ieq i_262_640 ⟨fun g1 => ?_, fun g1 => ?_⟩
  · exact K _ _ (I.read2 r2 ap.2 f2)
  · exact absurd rfl g1
theorem lw_645 (hL : L ≤ 3072) (hs : s + 6 ≤ L) (I : INVE M) (K : ∀ M' fd', INVE M' → a_Ex 262 1261 [some (.ref (a_CB + 1000)), some (.ref 0), some (.ref 170), some (.int (N s))] [] (a_hp (L + 1, xs) fd' M') Q) : a_Ex 262 645 [some (.ref (a_CB + 1000)), some (.ref 0), some (.ref 170), some (.int (N s))] [] (a_hp (L + 1, xs) fd M) Q := by
  obtain ⟨n, A, B, nx, sz, U, gi, xi, f, T, ff, I⟩ := I
  obtain ⟨⟨i1, i2, i3, i4⟩, ⟨j1, j2, j3⟩, k, ⟨l1, l2⟩, o, cm⟩ := id I
  refine x_aload_n i_262_645 rfl ?_
  refine x_aload_n i_262_646 rfl ?_
  refine x_iload_n i_262_647 rfl ?_
  refine n_iconst 1 i_262_648 rfl ?_
  refine x_iaddN i_262_649 ?_
  refine n_ldL i_262_650 (by omega) hL ?_
  refine x_vh (r := []) (lj := [some _, some _]) i_262_651 w_18 ob_0 [_] rfl rfl (Nat.le_of_ble_eq_true rfl) (Nat.le_of_ble_eq_true rfl) rfl ?_
  refine c_18 i1 (Nat.le_of_lt_succ (ax_lt _ _)) (fun hq1 => rt_i ?_)
  refine x_aload_n i_262_654 rfl ?_
  refine x_aload_n i_262_655 rfl ?_
  refine x_iload_n i_262_656 rfl ?_
  refine n_iconst 1 i_262_657 rfl ?_
  refine x_iaddN i_262_658 ?_
  refine n_ldL i_262_659 (by omega) hL ?_
  refine x_vh (r := [_]) (lj := [some _, some _]) i_262_660 w_206 ob_170 [_] rfl rfl (Nat.le_of_ble_eq_true rfl) (Nat.le_of_ble_eq_true rfl) rfl ?_
  refine c_206 i2 (Nat.le_of_lt_succ (ax_lt _ _)) (fun hq2 M2 r2 f2 => rt_i ?_)
  have ap := x18 (l := ax xs (s + 1)) i3 i1.1
  rw [ap.1]
  refine x_ieq i_262_663 ⟨fun g1 => ?_, fun g1 => ?_⟩
  · exact K _ _ (I.read2 r2 ap.2 f2)
  · exact absurd rfl g1
theorem lw_681 (hL : L ≤ 3072) (hs : s + 6 ≤ L) (I : INVE M) (K : ∀ M' fd', INVE M' → a_Ex 262 1261 [some (.ref (a_CB + 1000)), some (.ref 0), some (.ref 170), some (.int (N s))] [] (a_hp (L + 1, xs) fd' M') Q) : a_Ex 262 681 [some (.ref (a_CB + 1000)), some (.ref 0), some (.ref 170), some (.int (N s))] [] (a_hp (L + 1, xs) fd M) Q := by
  obtain ⟨n, A, B, nx, sz, U, gi, xi, f, T, ff, I⟩ := I
  obtain ⟨⟨i1, i2, i3, i4⟩, ⟨j1, j2, j3⟩, k, ⟨l1, l2⟩, o, cm⟩ := id I
  refine x_aload_n i_262_681 rfl ?_
  refine x_aload_n i_262_682 rfl ?_
  refine x_iload_n i_262_683 rfl ?_
  refine n_iconst 1 i_262_684 rfl ?_
  refine x_iaddN i_262_685 ?_
  refine n_ldL i_262_686 (by omega) hL ?_
  refine x_vh (r := []) (lj := [some _, some _, none, none, none, none]) i_262_687 w_20 ob_0 [_] rfl rfl (Nat.le_of_ble_eq_true rfl) (Nat.le_of_ble_eq_true rfl) rfl ?_
  refine c_20 i1 (Nat.le_of_lt_succ (ax_lt _ _)) (fun hq1 => rt_i ?_)
  refine x_aload_n i_262_690 rfl ?_
  refine x_aload_n i_262_691 rfl ?_
  refine x_iload_n i_262_692 rfl ?_
  refine n_iconst 1 i_262_693 rfl ?_
  refine x_iaddN i_262_694 ?_
  refine n_ldL i_262_695 (by omega) hL ?_
  refine x_vh (r := [_]) (lj := [some _, some _, none, none]) i_262_696 w_210 ob_170 [_] rfl rfl (Nat.le_of_ble_eq_true rfl) (Nat.le_of_ble_eq_true rfl) rfl ?_
  refine c_210 i2 (Nat.le_of_lt_succ (ax_lt _ _)) (fun hq2 M2 r2 f2 => rt_i ?_)
  have ap := x20 (f := ax xs (s + 1)) i3 i1.1
  rw [ap.1]
  refine x_ieq i_262_699 ⟨fun g1 => ?_, fun g1 => ?_⟩
  · exact K _ _ (I.read2 r2 ap.2 f2)
  · exact absurd rfl g1
theorem lw_704 (hL : L ≤ 3072) (hs : s + 6 ≤ L) (I : INVE M) (K : ∀ M' fd', INVE M' → a_Ex 262 1261 [some (.ref (a_CB + 1000)), some (.ref 0), some (.ref 170), some (.int (N s))] [] (a_hp (L + 1, xs) fd' M') Q) : a_Ex 262 704 [some (.ref (a_CB + 1000)), some (.ref 0), some (.ref 170), some (.int (N s))] [] (a_hp (L + 1, xs) fd M) Q := by
  obtain ⟨n, A, B, nx, sz, U, gi, xi, f, T, ff, I⟩ := I
  obtain ⟨⟨i1, i2, i3, i4⟩, ⟨j1, j2, j3⟩, k, ⟨l1, l2⟩, o, cm⟩ := id I
  refine x_aload_n i_262_704 rfl ?_
  refine x_aload_n i_262_705 rfl ?_
  refine x_iload_n i_262_706 rfl ?_
  refine n_iconst 1 i_262_707 rfl ?_
  refine x_iaddN i_262_708 ?_
  refine n_ldL i_262_709 (by omega) hL ?_
  refine x_vh (r := []) (lj := [some _, some _, none, none, none]) i_262_710 w_21 ob_0 [_] rfl rfl (Nat.le_of_ble_eq_true rfl) (Nat.le_of_ble_eq_true rfl) rfl ?_
  refine c_21 i1 (Nat.le_of_lt_succ (ax_lt _ _)) (fun hq1 => rt_i ?_)
  refine x_aload_n i_262_713 rfl ?_
  refine x_aload_n i_262_714 rfl ?_
  refine x_iload_n i_262_715 rfl ?_
  refine n_iconst 1 i_262_716 rfl ?_
  refine x_iaddN i_262_717 ?_
  refine n_ldL i_262_718 (by omega) hL ?_
  refine x_vh (r := [_]) (lj := [some _, some _, none, none, none]) i_262_719 w_214 ob_170 [_] rfl rfl (Nat.le_of_ble_eq_true rfl) (Nat.le_of_ble_eq_true rfl) rfl ?_
  refine c_214 i2 (Nat.le_of_lt_succ (ax_lt _ _)) (fun hq2 M2 r2 f2 => rt_i ?_)
  have ap := x21 (l := ax xs (s + 1)) i3 i1.1
  rw [ap.1]
  refine x_ieq i_262_722 ⟨fun g1 => ?_, fun g1 => ?_⟩
  · exact K _ _ (I.read2 r2 ap.2 f2)
  · exact absurd rfl g1
theorem lw_813 (hL : L ≤ 3072) (hs : s + 6 ≤ L) (I : INVE M) (K : ∀ M' fd', INVE M' → a_Ex 262 1261 [some (.ref (a_CB + 1000)), some (.ref 0), some (.ref 170), some (.int (N s))] [] (a_hp (L + 1, xs) fd' M') Q) : a_Ex 262 813 [some (.ref (a_CB + 1000)), some (.ref 0), some (.ref 170), some (.int (N s))] [] (a_hp (L + 1, xs) fd M) Q := by
  obtain ⟨n, A, B, nx, sz, U, gi, xi, f, T, ff, I⟩ := I
  obtain ⟨⟨i1, i2, i3, i4⟩, ⟨j1, j2, j3⟩, k, ⟨l1, l2⟩, o, cm⟩ := id I
  refine x_aload_n i_262_813 rfl ?_
  refine x_aload_n i_262_814 rfl ?_
  refine x_iload_n i_262_815 rfl ?_
  refine n_iconst 1 i_262_816 rfl ?_
  refine x_iaddN i_262_817 ?_
  refine n_ldL i_262_818 (by omega) hL ?_
  refine x_vh (r := []) (lj := [some _, some _]) i_262_819 w_25 ob_0 [_] rfl rfl (Nat.le_of_ble_eq_true rfl) (Nat.le_of_ble_eq_true rfl) rfl ?_
  refine c_25 i1 (Nat.le_of_lt_succ (ax_lt _ _)) (fun hq1 => rt_i ?_)
  refine x_aload_n i_262_822 rfl ?_
  refine x_aload_n i_262_823 rfl ?_
  refine x_iload_n i_262_824 rfl ?_
  refine n_iconst 1 i_262_825 rfl ?_
  refine x_iaddN i_262_826 ?_
  refine n_ldL i_262_827 (by omega) hL ?_
  refine x_vh (r := [_]) (lj := [some _, some _]) i_262_828 w_212 ob_170 [_] rfl rfl (Nat.le_of_ble_eq_true rfl) (Nat.le_of_ble_eq_true rfl) rfl ?_
  refine c_212 i2 (Nat.le_of_lt_succ (ax_lt _ _)) (fun hq2 M2 r2 f2 => rt_i ?_)
  have ap := x25 (l := ax xs (s + 1)) i3 i1.1
  rw [ap.1]
  refine x_ieq i_262_831 ⟨fun g1 => ?_, fun g1 => ?_⟩
  · exact K _ _ (I.read2 r2 ap.2 f2)
  · exact absurd rfl g1
theorem lw_836 (hL : L ≤ 3072) (hs : s + 6 ≤ L) (I : INVE M) (K : ∀ M' fd', INVE M' → a_Ex 262 1261 [some (.ref (a_CB + 1000)), some (.ref 0), some (.ref 170), some (.int (N s))] [] (a_hp (L + 1, xs) fd' M') Q) : a_Ex 262 836 [some (.ref (a_CB + 1000)), some (.ref 0), some (.ref 170), some (.int (N s))] [] (a_hp (L + 1, xs) fd M) Q := by
  obtain ⟨n, A, B, nx, sz, U, gi, xi, f, T, ff, I⟩ := I
  obtain ⟨⟨i1, i2, i3, i4⟩, ⟨j1, j2, j3⟩, k, ⟨l1, l2⟩, o, cm⟩ := id I
  refine x_aload_n i_262_836 rfl ?_
  refine x_vh (r := []) (lj := [some _, none, none, none]) i_262_837 w_26 ob_0 [] rfl rfl (Nat.le_of_ble_eq_true rfl) (Nat.le_of_ble_eq_true rfl) rfl ?_
  refine c_26 i1  (fun hq1 => rt_i ?_)
  refine x_aload_n i_262_840 rfl ?_
  refine x_vh (r := [_]) (lj := [some _, none, none]) i_262_841 w_213 ob_170 [] rfl rfl (Nat.le_of_ble_eq_true rfl) (Nat.le_of_ble_eq_true rfl) rfl ?_
  refine c_213 i2  (fun hq2 M2 r2 f2 => rt_i ?_)
  have ap := x26 i3 i1.1
  rw [ap.1]
  refine x_ieq i_262_844 ⟨fun g1 => ?_, fun g1 => ?_⟩
  · exact K _ _ (I.read2 r2 ap.2 f2)
  · exact absurd rfl g1
theorem lw_849 (hL : L ≤ 3072) (hs : s + 6 ≤ L) (I : INVE M) (K : ∀ M' fd', INVE M' → a_Ex 262 1261 [some (.ref (a_CB + 1000)), some (.ref 0), some (.ref 170), some (.int (N s))] [] (a_hp (L + 1, xs) fd' M') Q) : a_Ex 262 849 [some (.ref (a_CB + 1000)), some (.ref 0), some (.ref 170), some (.int (N s))] [] (a_hp (L + 1, xs) fd M) Q := by
  obtain ⟨n, A, B, nx, sz, U, gi, xi, f, T, ff, I⟩ := I
  obtain ⟨⟨i1, i2, i3, i4⟩, ⟨j1, j2, j3⟩, k, ⟨l1, l2⟩, o, cm⟩ := id I
  refine x_aload_n i_262_849 rfl ?_
  refine x_aload_n i_262_850 rfl ?_
  refine x_iload_n i_262_851 rfl ?_
  refine n_iconst 1 i_262_852 rfl ?_
  refine x_iaddN i_262_853 ?_
  refine n_ldL i_262_854 (by omega) hL ?_
  refine x_vh (r := []) (lj := [some _, some _]) i_262_855 w_27 ob_0 [_] rfl rfl (Nat.le_of_ble_eq_true rfl) (Nat.le_of_ble_eq_true rfl) rfl ?_
  refine c_27 i1 (Nat.le_of_lt_succ (ax_lt _ _)) (fun hq1 => rt_i ?_)
  refine x_aload_n i_262_858 rfl ?_
  refine x_aload_n i_262_859 rfl ?_
  refine x_iload_n i_262_860 rfl ?_
  refine n_iconst 1 i_262_861 rfl ?_
  refine x_iaddN i_262_862 ?_
  refine n_ldL i_262_863 (by omega) hL ?_
  refine x_vh (r := [_]) (lj := [some _, some _, none]) i_262_864 w_224 ob_170 [_] rfl rfl (Nat.le_of_ble_eq_true rfl) (Nat.le_of_ble_eq_true rfl) rfl ?_
  refine c_224 i2 (Nat.le_of_lt_succ (ax_lt _ _)) (fun hq2 M2 r2 f2 => rt_i ?_)
  have ap := x27 (m := ax xs (s + 1)) i3 i1.1
  rw [ap.1]
  refine x_ieq i_262_867 ⟨fun g1 => ?_, fun g1 => ?_⟩
  · exact K _ _ (I.read2 r2 ap.2 f2)
  · exact absurd rfl g1
theorem lw_1123 (hL : L ≤ 3072) (hs : s + 6 ≤ L) (I : INVE M) (K : ∀ M' fd', INVE M' → a_Ex 262 1261 [some (.ref (a_CB + 1000)), some (.ref 0), some (.ref 170), some (.int (N s))] [] (a_hp (L + 1, xs) fd' M') Q) : a_Ex 262 1123 [some (.ref (a_CB + 1000)), some (.ref 0), some (.ref 170), some (.int (N s))] [] (a_hp (L + 1, xs) fd M) Q := by
  obtain ⟨n, A, B, nx, sz, U, gi, xi, f, T, ff, I⟩ := I
  obtain ⟨⟨i1, i2, i3, i4⟩, ⟨j1, j2, j3⟩, k, ⟨l1, l2⟩, o, cm⟩ := id I
  refine x_aload_n i_262_1123 rfl ?_
  refine x_vh (r := []) (lj := [some _]) i_262_1124 w_39 ob_0 [] rfl rfl (Nat.le_of_ble_eq_true rfl) (Nat.le_of_ble_eq_true rfl) rfl ?_
  refine c_39 i1  (fun hq1 => rt_i ?_)
  refine x_aload_n i_262_1127 rfl ?_
  refine x_vh (r := [_]) (lj := [some _]) i_262_1128 w_254 ob_170 [] rfl rfl (Nat.le_of_ble_eq_true rfl) (Nat.le_of_ble_eq_true rfl) rfl ?_
  refine c_254 i2  (fun hq2 M2 r2 f2 => rt_i ?_)
  have ap := x39 (n := n) i3
  rw [ap.1]
  refine x_ieq i_262_1131 ⟨fun g1 => ?_, fun g1 => ?_⟩
  · exact K _ _ (I.read2 r2 ap.2 f2)
  · exact absurd rfl g1
end LWR
