/-! the law's cases: recovering -/
section LWP
variable {xs : Nat → Int32} {L s fd n k l : Nat} {A : HA} {M : a_Mm} {Q : Option Value → a_Hp → Prop}
theorem ne80 (w : WN n A) (hk : k < 4294967296) : ¬ (s_80 n A k).1 = 4294967295 := by
  have wb := wn80 w hk
  by_cases hn : k < n
  · have h0 := wb.b0 (show k < 5 by have := w.1.2; omega)
    have hv : (s_80 n A k).1 = (s_80 n A k).2 0 k ∨ (s_80 n A k).1 = 4294967294 ∨ (s_80 n A k).1 = 4294967291 ∨ (s_80 n A k).1 = 4294967292 := by
      unfold s_80
      repeat' split
      all_goals first
        | exact Or.inl rfl
        | exact Or.inr (Or.inl rfl)
        | exact Or.inr (Or.inr (Or.inl rfl))
        | exact Or.inr (Or.inr (Or.inr rfl))
    omega
  · unfold s_80
    by_cases c0 : 2147483648 ≤ k
    · rw [if_pos c0]; show ¬ (4294967294 : Nat) = 4294967295; omega
    · rw [if_neg c0, if_pos (show n ≤ k by omega)]; show ¬ (4294967294 : Nat) = 4294967295; omega
theorem lw_507 (hL : L ≤ 3072) (hs : s + 6 ≤ L) (I : INVE M) (K : ∀ M' fd', INVE M' → a_Ex 262 1261 [some (.ref (a_CB + 1000)), some (.ref 0), some (.ref 170), some (.int (N s))] [] (a_hp (L + 1, xs) fd' M') Q) : a_Ex 262 507 [some (.ref (a_CB + 1000)), some (.ref 0), some (.ref 170), some (.int (N s))] [] (a_hp (L + 1, xs) fd M) Q := by
  obtain ⟨n, A, B, nx, sz, U, gi, xi, f, T, ff, I⟩ := I
  obtain ⟨⟨i1, i2, i3, i4⟩, ⟨j1, j2, j3⟩, k, ⟨l1, l2⟩, o, cm⟩ := id I
  refine x_aload_n i_262_507 rfl ?_
  refine x_aload_n i_262_508 rfl ?_
  refine x_iload_n i_262_509 rfl ?_
  refine n_iconst 1 i_262_510 rfl ?_
  refine x_iaddN i_262_511 ?_
  refine n_ldL i_262_512 (by omega) hL ?_
  refine x_vh (r := []) (lj := [some _, some _]) i_262_513 w_12 ob_0 [_] rfl rfl (Nat.le_of_ble_eq_true rfl) (Nat.le_of_ble_eq_true rfl) rfl ?_
  refine d_12 i1 j1 (ax_lt _ _) (fun M1 r1 p1 f1 => rt_i ?_)
  have n5 : n ≤ 5 := i1.1.1.2
  have ap := x80 (l := ax xs (s + 1)) (i3.r 9 0 0 (Or.inl (Nat.le_refl _))) i1.1
  have hne := ne80 (k := ax xs (s + 1)) i1.1 (ax_lt _ _)
  have hnr := nr80 (l := ax xs (s + 1)) n5 i4
  have iq := I.mid f1
  rw [ap.1] at hne p1
  rw [ap.1]
  refine x_aload_n i_262_516 rfl ?_
  refine x_aload_n i_262_517 rfl ?_
  refine x_iload_n i_262_518 rfl ?_
  refine n_iconst 1 i_262_519 rfl ?_
  refine x_iaddN i_262_520 ?_
  refine n_ldL i_262_521 (by omega) hL ?_
  refine x_vh (r := [_]) (lj := [some _, some _]) i_262_522 w_193 ob_170 [_] rfl rfl (Nat.le_of_ble_eq_true rfl) (Nat.le_of_ble_eq_true rfl) rfl ?_
  refine e_193 iq.1 iq.2 (ax_lt _ _) hne (fun M2 r2 p2 f2 => rt_i ?_)
  refine x_ieq i_262_525 ⟨fun g1 => ?_, fun g1 => ?_⟩
  · exact K _ _ (I.tell r1 p1 f1 r2 p2 f2 ap.2 hnr)
  · exact absurd rfl g1
end LWP
