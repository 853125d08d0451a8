/-! the law's cases: telling, going on -/
section LWU
variable {xs : Nat → Int32} {L s fd n k l : Nat} {A : HA} {M : a_Mm} {Q : Option Value → a_Hp → Prop}
theorem ne71 : ¬ (s71 n A k).1 = 4294967295 := by
  unfold s71
  by_cases c : k < 2147483648 ∧ pd n k = true
  · rw [if_pos c]
    have := pl_le n A k 0
    omega
  · rw [if_neg c]; show ¬ (4294967293 : Nat) = 4294967295; omega
theorem ne72 : ¬ (s_72 n A k l).1 = 4294967295 := by
  unfold s_72
  by_cases c0 : 2147483648 ≤ k
  · rw [if_pos c0]; show ¬ (4294967294 : Nat) = 4294967295; omega
  rw [if_neg c0]
  by_cases c1 : n ≤ k
  · rw [if_pos c1]; show ¬ (4294967294 : Nat) = 4294967295; omega
  rw [if_neg c1]
  by_cases c2 : isK l = 0
  · rw [if_pos c2]; show ¬ (4294967293 : Nat) = 4294967295; omega
  rw [if_neg c2]
  by_cases c3 : A 1 k = 1
  · rw [if_pos c3]
    generalize s_69 n A 1 &&& s_74 n A (A 2 k) = X
    by_cases c4 : lw n X = k
    · rw [if_pos c4]
      by_cases c5 : s_76 n A X = 0
      · rw [if_pos c5]
        have hv := s77_le n A X X
        by_cases c6 : s_77 n A X X = 4294967295
        · rw [if_pos c6]; show ¬ (4294967292 : Nat) = 4294967295; omega
        · rw [if_neg c6]; show ¬ s_77 n A X X = 4294967295; exact c6
      · rw [if_neg c5]; show ¬ (4294967291 : Nat) = 4294967295; omega
    · rw [if_neg c4]; show ¬ (4294967291 : Nat) = 4294967295; omega
  · rw [if_neg c3]; show ¬ (4294967291 : Nat) = 4294967295; omega
theorem lw_451 (hL : L ≤ 3072) (hs : s + 6 ≤ L) (I : INVE M) (K : ∀ M' fd', INVE M' → a_Ex 262 1261 [some (.ref (a_CB + 1000)), some (.ref 0), some (.ref 170), some (.int (N s))] [] (a_hp (L + 1, xs) fd' M') Q) : a_Ex 262 451 [some (.ref (a_CB + 1000)), some (.ref 0), some (.ref 170), some (.int (N s))] [] (a_hp (L + 1, xs) fd M) Q := by
  obtain ⟨n, A, B, nx, sz, U, gi, xi, f, T, ff, I⟩ := I
  obtain ⟨⟨i1, i2, i3, i4⟩, ⟨j1, j2, j3⟩, k, ⟨l1, l2⟩, o, cm⟩ := id I
  refine x_aload_n i_262_451 rfl ?_
  refine x_aload_n i_262_452 rfl ?_
  refine x_iload_n i_262_453 rfl ?_
  refine n_iconst 1 i_262_454 rfl ?_
  refine x_iaddN i_262_455 ?_
  refine n_ldL i_262_456 (by omega) hL ?_
  refine x_vh (r := []) (lj := [some _, some _]) i_262_457 w_10 ob_0 [_] rfl rfl (Nat.le_of_ble_eq_true rfl) (Nat.le_of_ble_eq_true rfl) rfl ?_
  refine d_10 i1 j1 (ax_lt _ _) (fun M1 r1 p1 f1 => rt_i ?_)
  have n5 : n ≤ 5 := i1.1.1.2
  have ap := x71 (n := n) (l := ax xs (s + 1)) (i3.r 9 0 0 (Or.inl (Nat.le_refl _)))
  have hne := ne71 (n := n) (A := A) (k := ax xs (s + 1))
  have hnr := nr71 (l := ax xs (s + 1)) i4
  have iq := I.mid f1
  rw [ap.1] at hne p1
  rw [ap.1]
  refine x_aload_n i_262_460 rfl ?_
  refine x_aload_n i_262_461 rfl ?_
  refine x_iload_n i_262_462 rfl ?_
  refine n_iconst 1 i_262_463 rfl ?_
  refine x_iaddN i_262_464 ?_
  refine n_ldL i_262_465 (by omega) hL ?_
  refine x_vh (r := [_]) (lj := [some _, some _]) i_262_466 w_184 ob_170 [_] rfl rfl (Nat.le_of_ble_eq_true rfl) (Nat.le_of_ble_eq_true rfl) rfl ?_
  refine e_184 iq.1 iq.2 (ax_lt _ _) hne (fun M2 r2 p2 f2 => rt_i ?_)
  refine x_ieq i_262_469 ⟨fun g1 => ?_, fun g1 => ?_⟩
  · exact K _ _ (I.tell r1 p1 f1 r2 p2 f2 ap.2 hnr)
  · exact absurd rfl g1
theorem lw_474 (hL : L ≤ 3072) (hs : s + 6 ≤ L) (I : INVE M) (K : ∀ M' fd', INVE M' → a_Ex 262 1261 [some (.ref (a_CB + 1000)), some (.ref 0), some (.ref 170), some (.int (N s))] [] (a_hp (L + 1, xs) fd' M') Q) : a_Ex 262 474 [some (.ref (a_CB + 1000)), some (.ref 0), some (.ref 170), some (.int (N s))] [] (a_hp (L + 1, xs) fd M) Q := by
  obtain ⟨n, A, B, nx, sz, U, gi, xi, f, T, ff, I⟩ := I
  obtain ⟨⟨i1, i2, i3, i4⟩, ⟨j1, j2, j3⟩, k, ⟨l1, l2⟩, o, cm⟩ := id I
  refine x_aload_n i_262_474 rfl ?_
  refine x_aload_n i_262_475 rfl ?_
  refine x_iload_n i_262_476 rfl ?_
  refine n_iconst 1 i_262_477 rfl ?_
  refine x_iaddN i_262_478 ?_
  refine n_ldL i_262_479 (by omega) hL ?_
  refine x_aload_n i_262_480 rfl ?_
  refine x_iload_n i_262_481 rfl ?_
  refine n_iconst 2 i_262_482 rfl ?_
  refine x_iaddN i_262_483 ?_
  refine n_ldL i_262_484 (by omega) hL ?_
  refine x_vh (r := []) (lj := [some _, some _, some _]) i_262_485 w_11 ob_0 [_, _] rfl rfl (Nat.le_of_ble_eq_true rfl) (Nat.le_of_ble_eq_true rfl) rfl ?_
  refine d_11 i1 j1 (ax_lt _ _) (ax_lt _ _) (fun M1 r1 p1 f1 => rt_i ?_)
  have n5 : n ≤ 5 := i1.1.1.2
  have ap := x72 (l := ax xs (s + 1)) (k := ax xs (s + 2)) (i3.r 9 0 0 (Or.inl (Nat.le_refl _))) i1.1
  have hne := ne72 (n := n) (A := A) (k := ax xs (s + 1)) (l := ax xs (s + 2))
  have hnr := nr72 (l := ax xs (s + 1)) (k := ax xs (s + 2)) n5 i4
  have iq := I.mid f1
  rw [ap.1] at hne p1
  rw [ap.1]
  refine x_aload_n i_262_488 rfl ?_
  refine x_aload_n i_262_489 rfl ?_
  refine x_iload_n i_262_490 rfl ?_
  refine n_iconst 1 i_262_491 rfl ?_
  refine x_iaddN i_262_492 ?_
  refine n_ldL i_262_493 (by omega) hL ?_
  refine x_aload_n i_262_494 rfl ?_
  refine x_iload_n i_262_495 rfl ?_
  refine n_iconst 2 i_262_496 rfl ?_
  refine x_iaddN i_262_497 ?_
  refine n_ldL i_262_498 (by omega) hL ?_
  refine x_vh (r := [_]) (lj := [some _, some _, some _]) i_262_499 w_186 ob_170 [_, _] rfl rfl (Nat.le_of_ble_eq_true rfl) (Nat.le_of_ble_eq_true rfl) rfl ?_
  refine e_186 iq.1 iq.2 (ax_lt _ _) (ax_lt _ _) hne (fun M2 r2 p2 f2 => rt_i ?_)
  refine x_ieq i_262_502 ⟨fun g1 => ?_, fun g1 => ?_⟩
  · exact K _ _ (I.tell r1 p1 f1 r2 p2 f2 ap.2 hnr)
  · exact absurd rfl g1
theorem lw_270 (hL : L ≤ 3072) (hs : s + 6 ≤ L) (I : INVE M) (K : ∀ M' fd', INVE M' → a_Ex 262 1261 [some (.ref (a_CB + 1000)), some (.ref 0), some (.ref 170), some (.int (N s))] [] (a_hp (L + 1, xs) fd' M') Q) : a_Ex 262 270 [some (.ref (a_CB + 1000)), some (.ref 0), some (.ref 170), some (.int (N s))] [] (a_hp (L + 1, xs) fd M) Q := by
  obtain ⟨n, A, B, nx, sz, U, gi, xi, f, T, ff, I⟩ := I
  obtain ⟨⟨i1, i2, i3, i4⟩, ⟨j1, j2, j3⟩, k, ⟨l1, l2⟩, o, cm⟩ := id I
  refine x_aload_n i_262_270 rfl ?_
  refine x_aload_n i_262_271 rfl ?_
  refine x_iload_n i_262_272 rfl ?_
  refine n_iconst 1 i_262_273 rfl ?_
  refine x_iaddN i_262_274 ?_
  refine n_ldL i_262_275 (by omega) hL ?_
  refine x_aload_n i_262_276 rfl ?_
  refine x_iload_n i_262_277 rfl ?_
  refine n_iconst 2 i_262_278 rfl ?_
  refine x_iaddN i_262_279 ?_
  refine n_ldL i_262_280 (by omega) hL ?_
  refine x_vh (r := []) (lj := [some _, some _, some _]) i_262_281 w_3 ob_0 [_, _] rfl rfl (Nat.le_of_ble_eq_true rfl) (Nat.le_of_ble_eq_true rfl) rfl ?_
  refine d_3 i1 j1 (ax_lt _ _) (ax_lt _ _) (fun M1 r1 p1 f1 => rt_i ?_)
  have n5 : n ≤ 5 := i1.1.1.2
  have ap := x54 (l := ax xs (s + 1)) (m := ax xs (s + 2)) (i3.r 9 0 0 (Or.inl (Nat.le_refl _))) i1.1
  have hnr := nr54 (l := ax xs (s + 1)) (m := ax xs (s + 2)) i4
  have iq := I.mid f1
  rw [ap.1] at p1
  rw [ap.1]
  refine x_aload_n i_262_284 rfl ?_
  refine x_aload_n i_262_285 rfl ?_
  refine x_iload_n i_262_286 rfl ?_
  refine n_iconst 1 i_262_287 rfl ?_
  refine x_iaddN i_262_288 ?_
  refine n_ldL i_262_289 (by omega) hL ?_
  refine x_aload_n i_262_290 rfl ?_
  refine x_iload_n i_262_291 rfl ?_
  refine n_iconst 2 i_262_292 rfl ?_
  refine x_iaddN i_262_293 ?_
  refine n_ldL i_262_294 (by omega) hL ?_
  refine x_vh (r := [_]) (lj := [some _, some _, some _, none]) i_262_295 w_156 ob_170 [_, _] rfl rfl (Nat.le_of_ble_eq_true rfl) (Nat.le_of_ble_eq_true rfl) rfl ?_
  refine e_156 iq.1 iq.2 (ax_lt _ _) (ax_lt _ _) (fun M2 r2 p2 f2 => rt_i ?_)
  refine x_ieq i_262_298 ⟨fun g1 => ?_, fun g1 => ?_⟩
  · exact K _ _ (I.tell r1 p1 f1 r2 p2 f2 ap.2 hnr)
  · exact absurd rfl g1
theorem lw_303 (hL : L ≤ 3072) (hs : s + 6 ≤ L) (I : INVE M) (K : ∀ M' fd', INVE M' → a_Ex 262 1261 [some (.ref (a_CB + 1000)), some (.ref 0), some (.ref 170), some (.int (N s))] [] (a_hp (L + 1, xs) fd' M') Q) : a_Ex 262 303 [some (.ref (a_CB + 1000)), some (.ref 0), some (.ref 170), some (.int (N s))] [] (a_hp (L + 1, xs) fd M) Q := by
  obtain ⟨n, A, B, nx, sz, U, gi, xi, f, T, ff, I⟩ := I
  obtain ⟨⟨i1, i2, i3, i4⟩, ⟨j1, j2, j3⟩, k, ⟨l1, l2⟩, o, cm⟩ := id I
  refine x_aload_n i_262_303 rfl ?_
  refine x_aload_n i_262_304 rfl ?_
  refine x_iload_n i_262_305 rfl ?_
  refine n_iconst 1 i_262_306 rfl ?_
  refine x_iaddN i_262_307 ?_
  refine n_ldL i_262_308 (by omega) hL ?_
  refine x_aload_n i_262_309 rfl ?_
  refine x_iload_n i_262_310 rfl ?_
  refine n_iconst 2 i_262_311 rfl ?_
  refine x_iaddN i_262_312 ?_
  refine n_ldL i_262_313 (by omega) hL ?_
  refine x_vh (r := []) (lj := [some _, some _, some _]) i_262_314 w_4 ob_0 [_, _] rfl rfl (Nat.le_of_ble_eq_true rfl) (Nat.le_of_ble_eq_true rfl) rfl ?_
  refine d_4 i1 j1 (ax_lt _ _) (ax_lt _ _) (fun M1 r1 p1 f1 => rt_i ?_)
  have n5 : n ≤ 5 := i1.1.1.2
  have ap := x56 (l := ax xs (s + 1)) (m := ax xs (s + 2)) (i3.r 9 0 0 (Or.inl (Nat.le_refl _))) i1.1
  have hnr := nr56 (l := ax xs (s + 1)) (m := ax xs (s + 2)) i4
  have iq := I.mid f1
  rw [ap.1] at p1
  rw [ap.1]
  refine x_aload_n i_262_317 rfl ?_
  refine x_aload_n i_262_318 rfl ?_
  refine x_iload_n i_262_319 rfl ?_
  refine n_iconst 1 i_262_320 rfl ?_
  refine x_iaddN i_262_321 ?_
  refine n_ldL i_262_322 (by omega) hL ?_
  refine x_aload_n i_262_323 rfl ?_
  refine x_iload_n i_262_324 rfl ?_
  refine n_iconst 2 i_262_325 rfl ?_
  refine x_iaddN i_262_326 ?_
  refine n_ldL i_262_327 (by omega) hL ?_
  refine x_vh (r := [_]) (lj := [some _, some _, some _, none]) i_262_328 w_162 ob_170 [_, _] rfl rfl (Nat.le_of_ble_eq_true rfl) (Nat.le_of_ble_eq_true rfl) rfl ?_
  refine e_162 iq.1 iq.2 (ax_lt _ _) (ax_lt _ _) (fun M2 r2 p2 f2 => rt_i ?_)
  refine x_ieq i_262_331 ⟨fun g1 => ?_, fun g1 => ?_⟩
  · exact K _ _ (I.tell r1 p1 f1 r2 p2 f2 ap.2 hnr)
  · exact absurd rfl g1
theorem lw_668 (hL : L ≤ 3072) (hs : s + 6 ≤ L) (I : INVE M) (K : ∀ M' fd', INVE M' → a_Ex 262 1261 [some (.ref (a_CB + 1000)), some (.ref 0), some (.ref 170), some (.int (N s))] [] (a_hp (L + 1, xs) fd' M') Q) : a_Ex 262 668 [some (.ref (a_CB + 1000)), some (.ref 0), some (.ref 170), some (.int (N s))] [] (a_hp (L + 1, xs) fd M) Q := by
  obtain ⟨n, A, B, nx, sz, U, gi, xi, f, T, ff, I⟩ := I
  obtain ⟨⟨i1, i2, i3, i4⟩, ⟨j1, j2, j3⟩, k, ⟨l1, l2⟩, o, cm⟩ := id I
  refine x_aload_n i_262_668 rfl ?_
  refine x_vh (r := []) (lj := [some _, none, none, none, none]) i_262_669 w_19 ob_0 [] rfl rfl (Nat.le_of_ble_eq_true rfl) (Nat.le_of_ble_eq_true rfl) rfl ?_
  refine d_19 i1 (rt_i ?_)
  refine x_aload_n i_262_672 rfl ?_
  refine x_vh (r := [_]) (lj := [some _, none, none, none]) i_262_673 w_208 ob_170 [] rfl rfl (Nat.le_of_ble_eq_true rfl) (Nat.le_of_ble_eq_true rfl) rfl ?_
  refine e_208 i2 (fun M2 r2 f2 => rt_i ?_)
  rw [x19 (i3.r 9 0 0 (Or.inl (Nat.le_refl _))) i1.1]
  refine x_ieq i_262_676 ⟨fun g1 => ?_, fun g1 => ?_⟩
  · exact K _ _ (I.read2 r2 (i3.r 9 0 0 (Or.inl (Nat.le_refl _))) f2)
  · exact absurd rfl g1
theorem lw_1100 (hL : L ≤ 3072) (hs : s + 6 ≤ L) (I : INVE M) (K : ∀ M' fd', INVE M' → a_Ex 262 1261 [some (.ref (a_CB + 1000)), some (.ref 0), some (.ref 170), some (.int (N s))] [] (a_hp (L + 1, xs) fd' M') Q) : a_Ex 262 1100 [some (.ref (a_CB + 1000)), some (.ref 0), some (.ref 170), some (.int (N s))] [] (a_hp (L + 1, xs) fd M) Q := by
  obtain ⟨n, A, B, nx, sz, U, gi, xi, f, T, ff, I⟩ := I
  obtain ⟨⟨i1, i2, i3, i4⟩, ⟨j1, j2, j3⟩, k, ⟨l1, l2⟩, o, cm⟩ := id I
  refine x_aload_n i_262_1100 rfl ?_
  refine x_aload_n i_262_1101 rfl ?_
  refine x_iload_n i_262_1102 rfl ?_
  refine n_iconst 1 i_262_1103 rfl ?_
  refine x_iaddN i_262_1104 ?_
  refine n_ldL i_262_1105 (by omega) hL ?_
  refine x_vh (r := []) (lj := [some _, some _]) i_262_1106 w_38 ob_0 [_] rfl rfl (Nat.le_of_ble_eq_true rfl) (Nat.le_of_ble_eq_true rfl) rfl ?_
  have o0 := o 0 (by omega)
  have o1 := o 1 (by omega)
  have o2 := o 2 (by omega)
  refine d_38 (l := ax xs (s + 1)) o0.1 o1.1 o2.1 (ax_lt _ _) (rt_i ?_)
  refine x_aload_n i_262_1109 rfl ?_
  refine x_aload_n i_262_1110 rfl ?_
  refine x_iload_n i_262_1111 rfl ?_
  refine n_iconst 1 i_262_1112 rfl ?_
  refine x_iaddN i_262_1113 ?_
  refine n_ldL i_262_1114 (by omega) hL ?_
  refine x_vh (r := [_]) (lj := [some _, some _]) i_262_1115 w_253 ob_170 [_] rfl rfl (Nat.le_of_ble_eq_true rfl) (Nat.le_of_ble_eq_true rfl) rfl ?_
  refine e_253 (l := ax xs (s + 1)) i2 o0.2.1 o1.2.1 o2.2.1 (ax_lt _ _) (fun M2 r2 f2 => rt_i ?_)
  refine x_ieq i_262_1118 ⟨fun g1 => ?_, fun g1 => ?_⟩
  · exact K _ _ (I.read2 r2 (i3.r 9 0 0 (Or.inl (Nat.le_refl _))) (fun o k h => f2 o k (by omega)))
  · exact absurd rfl g1
end LWU
