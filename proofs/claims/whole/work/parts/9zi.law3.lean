/-! the law's cases: telling -/
section LWT
variable {xs : Nat → Int32} {L s fd n k l : Nat} {A : HA} {M : a_Mm} {Q : Option Value → a_Hp → Prop}
theorem ne57 (h5 : n ≤ 5) (f2 : A 6 2 ≤ 3) : ¬ (s_57 n A k).1 = 4294967295 := by
  by_cases acc : (s_57 n A k).1 < 2147483648
  · omega
  by_cases hk : isK k = 0
  · unfold s_57; rw [if_pos hk]; show ¬ (4294967293 : Nat) = 4294967295; omega
  rw [can57 hk f2 h5] at acc
  unfold s_57
  rw [if_neg hk]
  by_cases c1 : A 6 2 = 0
  · rw [if_pos c1]
    by_cases c2 : A 1 0 = 1
    · rw [if_pos c2, if_neg (fun c3 => acc ⟨c1, c2, c3⟩)]; show ¬ (4294967291 : Nat) = 4294967295; omega
    · rw [if_neg c2]; show ¬ (4294967291 : Nat) = 4294967295; omega
  · rw [if_neg c1]; show ¬ (4294967291 : Nat) = 4294967295; omega
theorem ne64 (h5 : n ≤ 5) (f2 : A 6 2 ≤ 3) : ¬ (s_64 n A k).1 = 4294967295 := by
  by_cases acc : (s_64 n A k).1 < 2147483648
  · omega
  by_cases hk : isK k = 0
  · unfold s_64; rw [if_pos hk]; show ¬ (4294967293 : Nat) = 4294967295; omega
  rw [can64 hk f2 h5] at acc
  unfold s_64
  rw [if_neg hk]
  by_cases c1 : A 6 2 = 1
  · rw [if_pos c1]
    by_cases c2 : A 1 0 = 1
    · rw [if_pos c2, if_neg (fun c3 => acc ⟨c1, c2, c3⟩)]; show ¬ (4294967291 : Nat) = 4294967295; omega
    · rw [if_neg c2]; show ¬ (4294967291 : Nat) = 4294967295; omega
  · rw [if_neg c1]; show ¬ (4294967291 : Nat) = 4294967295; omega
theorem ne66 (h5 : n ≤ 5) (f2 : A 6 2 ≤ 3) : ¬ (s_66 n A k).1 = 4294967295 := by
  by_cases acc : (s_66 n A k).1 < 2147483648
  · omega
  by_cases hk : isK k = 0
  · unfold s_66; rw [if_pos hk]; show ¬ (4294967293 : Nat) = 4294967295; omega
  rw [can66 hk] at acc
  unfold s_66
  rw [if_neg hk]
  by_cases c1 : A 6 2 = 2
  · rw [if_pos c1]
    by_cases c2 : A 1 0 = 1
    · rw [if_pos c2, if_neg (fun c3 => acc ⟨c1, c2, c3⟩)]; show ¬ (4294967291 : Nat) = 4294967295; omega
    · rw [if_neg c2]; show ¬ (4294967291 : Nat) = 4294967295; omega
  · rw [if_neg c1]; show ¬ (4294967291 : Nat) = 4294967295; omega
theorem ne67 : ¬ (s_67 n A k).1 = 4294967295 := by
  unfold s_67
  by_cases c0 : 2147483648 ≤ k
  · rw [if_pos c0]; show ¬ (4294967294 : Nat) = 4294967295; omega
  rw [if_neg c0]
  by_cases c1 : n ≤ k
  · rw [if_pos c1]; show ¬ (4294967294 : Nat) = 4294967295; omega
  rw [if_neg c1]
  by_cases c2 : A 1 k = 0
  · rw [if_pos c2]; show ¬ (4294967291 : Nat) = 4294967295; omega
  rw [if_neg c2]
  have := pop_le (s_69 n (s_63 n A k) 1)
  show ¬ pop (s_69 n (s_63 n A k) 1) = 4294967295
  omega
theorem ne70 (w : WN n A) : ¬ (s_70 n A k).1 = 4294967295 := by
  unfold s_70
  by_cases c0 : 2147483648 ≤ k
  · rw [if_pos c0]; show ¬ (4294967294 : Nat) = 4294967295; omega
  rw [if_neg c0]
  by_cases c1 : n ≤ k
  · rw [if_pos c1]; show ¬ (4294967294 : Nat) = 4294967295; omega
  rw [if_neg c1]
  have := w.b0 (show k < 5 by have := w.1.2; omega)
  by_cases c2 : A 1 k = 0
  · rw [if_pos c2]; show ¬ A 0 k = 4294967295; omega
  · rw [if_neg c2]; show ¬ (4294967291 : Nat) = 4294967295; omega
theorem ne52 (w : WN n A) : ¬ (s_52 n A k l).1 = 4294967295 := by
  unfold s_52
  by_cases c0 : 2147483648 ≤ k
  · rw [if_pos c0]; show ¬ (4294967294 : Nat) = 4294967295; omega
  rw [if_neg c0]
  by_cases c1 : n ≤ k
  · rw [if_pos c1]; show ¬ (4294967294 : Nat) = 4294967295; omega
  rw [if_neg c1]
  have := w.b3 (show k < 5 by have := w.1.2; omega)
  by_cases c2 : 2147483648 ≤ l
  · rw [if_pos c2]; show ¬ (4294967293 : Nat) = 4294967295; omega
  rw [if_neg c2]
  by_cases c3 : l ≤ 1
  · rw [if_pos c3]
    by_cases c4 : A 0 k = 0
    · rw [if_pos c4]; show ¬ A 3 k = 4294967295; omega
    · rw [if_neg c4]; show ¬ (4294967291 : Nat) = 4294967295; omega
  · rw [if_neg c3]; show ¬ (4294967293 : Nat) = 4294967295; omega
theorem lw_336 (hL : L ≤ 3072) (hs : s + 6 ≤ L) (I : INVE M) (K : ∀ M' fd', INVE M' → a_Ex 262 1261 [some (.ref (a_CB + 1000)), some (.ref 0), some (.ref 170), some (.int (N s))] [] (a_hp (L + 1, xs) fd' M') Q) : a_Ex 262 336 [some (.ref (a_CB + 1000)), some (.ref 0), some (.ref 170), some (.int (N s))] [] (a_hp (L + 1, xs) fd M) Q := by
  obtain ⟨n, A, B, nx, sz, U, gi, xi, f, T, ff, I⟩ := I
  obtain ⟨⟨i1, i2, i3, i4⟩, ⟨j1, j2, j3⟩, k, ⟨l1, l2⟩, o, cm⟩ := id I
  refine x_aload_n i_262_336 rfl ?_
  refine x_aload_n i_262_337 rfl ?_
  refine x_iload_n i_262_338 rfl ?_
  refine n_iconst 1 i_262_339 rfl ?_
  refine x_iaddN i_262_340 ?_
  refine n_ldL i_262_341 (by omega) hL ?_
  refine x_vh (r := []) (lj := [some _, some _]) i_262_342 w_5 ob_0 [_] rfl rfl (Nat.le_of_ble_eq_true rfl) (Nat.le_of_ble_eq_true rfl) rfl ?_
  refine d_5 i1 j1 (ax_lt _ _) (fun M1 r1 p1 f1 => rt_i ?_)
  have n5 : n ≤ 5 := i1.1.1.2
  have ap := x57 (k := ax xs (s + 1)) (i3.r 9 0 0 (Or.inl (Nat.le_refl _))) i1.1 i4
  have hne := ne57 (k := ax xs (s + 1)) n5 i1.1.f2
  have hnr := nr57 (k := ax xs (s + 1)) n5 i4
  have iq := I.mid f1
  rw [ap.1] at hne p1
  rw [ap.1]
  refine x_aload_n i_262_345 rfl ?_
  refine x_aload_n i_262_346 rfl ?_
  refine x_iload_n i_262_347 rfl ?_
  refine n_iconst 1 i_262_348 rfl ?_
  refine x_iaddN i_262_349 ?_
  refine n_ldL i_262_350 (by omega) hL ?_
  refine x_vh (r := [_]) (lj := [some _, some _]) i_262_351 w_163 ob_170 [_] rfl rfl (Nat.le_of_ble_eq_true rfl) (Nat.le_of_ble_eq_true rfl) rfl ?_
  refine e_163 iq.1 iq.2 (ax_lt _ _) hne (fun M2 r2 p2 f2 => rt_i ?_)
  refine x_ieq i_262_354 ⟨fun g1 => ?_, fun g1 => ?_⟩
  · exact K _ _ (I.tell r1 p1 f1 r2 p2 f2 ap.2 hnr)
  · exact absurd rfl g1
theorem lw_359 (hL : L ≤ 3072) (hs : s + 6 ≤ L) (I : INVE M) (K : ∀ M' fd', INVE M' → a_Ex 262 1261 [some (.ref (a_CB + 1000)), some (.ref 0), some (.ref 170), some (.int (N s))] [] (a_hp (L + 1, xs) fd' M') Q) : a_Ex 262 359 [some (.ref (a_CB + 1000)), some (.ref 0), some (.ref 170), some (.int (N s))] [] (a_hp (L + 1, xs) fd M) Q := by
  obtain ⟨n, A, B, nx, sz, U, gi, xi, f, T, ff, I⟩ := I
  obtain ⟨⟨i1, i2, i3, i4⟩, ⟨j1, j2, j3⟩, k, ⟨l1, l2⟩, o, cm⟩ := id I
  refine x_aload_n i_262_359 rfl ?_
  refine x_aload_n i_262_360 rfl ?_
  refine x_iload_n i_262_361 rfl ?_
  refine n_iconst 1 i_262_362 rfl ?_
  refine x_iaddN i_262_363 ?_
  refine n_ldL i_262_364 (by omega) hL ?_
  refine x_vh (r := []) (lj := [some _, some _]) i_262_365 w_6 ob_0 [_] rfl rfl (Nat.le_of_ble_eq_true rfl) (Nat.le_of_ble_eq_true rfl) rfl ?_
  refine d_6 i1 j1 (ax_lt _ _) (fun M1 r1 p1 f1 => rt_i ?_)
  have n5 : n ≤ 5 := i1.1.1.2
  have ap := x64 (k := ax xs (s + 1)) (i3.r 9 0 0 (Or.inl (Nat.le_refl _))) i1.1
  have hne := ne64 (k := ax xs (s + 1)) n5 i1.1.f2
  have hnr := nr64 (k := ax xs (s + 1)) n5 i4
  have iq := I.mid f1
  rw [ap.1] at hne p1
  rw [ap.1]
  refine x_aload_n i_262_368 rfl ?_
  refine x_aload_n i_262_369 rfl ?_
  refine x_iload_n i_262_370 rfl ?_
  refine n_iconst 1 i_262_371 rfl ?_
  refine x_iaddN i_262_372 ?_
  refine n_ldL i_262_373 (by omega) hL ?_
  refine x_vh (r := [_]) (lj := [some _, some _]) i_262_374 w_175 ob_170 [_] rfl rfl (Nat.le_of_ble_eq_true rfl) (Nat.le_of_ble_eq_true rfl) rfl ?_
  refine e_175 iq.1 iq.2 (ax_lt _ _) hne (fun M2 r2 p2 f2 => rt_i ?_)
  refine x_ieq i_262_377 ⟨fun g1 => ?_, fun g1 => ?_⟩
  · exact K _ _ (I.tell r1 p1 f1 r2 p2 f2 ap.2 hnr)
  · exact absurd rfl g1
theorem lw_382 (hL : L ≤ 3072) (hs : s + 6 ≤ L) (I : INVE M) (K : ∀ M' fd', INVE M' → a_Ex 262 1261 [some (.ref (a_CB + 1000)), some (.ref 0), some (.ref 170), some (.int (N s))] [] (a_hp (L + 1, xs) fd' M') Q) : a_Ex 262 382 [some (.ref (a_CB + 1000)), some (.ref 0), some (.ref 170), some (.int (N s))] [] (a_hp (L + 1, xs) fd M) Q := by
  obtain ⟨n, A, B, nx, sz, U, gi, xi, f, T, ff, I⟩ := I
  obtain ⟨⟨i1, i2, i3, i4⟩, ⟨j1, j2, j3⟩, k, ⟨l1, l2⟩, o, cm⟩ := id I
  refine x_aload_n i_262_382 rfl ?_
  refine x_aload_n i_262_383 rfl ?_
  refine x_iload_n i_262_384 rfl ?_
  refine n_iconst 1 i_262_385 rfl ?_
  refine x_iaddN i_262_386 ?_
  refine n_ldL i_262_387 (by omega) hL ?_
  refine x_vh (r := []) (lj := [some _, some _]) i_262_388 w_7 ob_0 [_] rfl rfl (Nat.le_of_ble_eq_true rfl) (Nat.le_of_ble_eq_true rfl) rfl ?_
  refine d_7 i1 j1 (ax_lt _ _) (fun M1 r1 p1 f1 => rt_i ?_)
  have n5 : n ≤ 5 := i1.1.1.2
  have ap := x66 (k := ax xs (s + 1)) (i3.r 9 0 0 (Or.inl (Nat.le_refl _))) i1.1
  have hne := ne66 (k := ax xs (s + 1)) n5 i1.1.f2
  have hnr := nr66 (k := ax xs (s + 1)) n5 i4
  have iq := I.mid f1
  rw [ap.1] at hne p1
  rw [ap.1]
  refine x_aload_n i_262_391 rfl ?_
  refine x_aload_n i_262_392 rfl ?_
  refine x_iload_n i_262_393 rfl ?_
  refine n_iconst 1 i_262_394 rfl ?_
  refine x_iaddN i_262_395 ?_
  refine n_ldL i_262_396 (by omega) hL ?_
  refine x_vh (r := [_]) (lj := [some _, some _]) i_262_397 w_177 ob_170 [_] rfl rfl (Nat.le_of_ble_eq_true rfl) (Nat.le_of_ble_eq_true rfl) rfl ?_
  refine e_177 iq.1 iq.2 (ax_lt _ _) hne (fun M2 r2 p2 f2 => rt_i ?_)
  refine x_ieq i_262_400 ⟨fun g1 => ?_, fun g1 => ?_⟩
  · exact K _ _ (I.tell r1 p1 f1 r2 p2 f2 ap.2 hnr)
  · exact absurd rfl g1
theorem lw_405 (hL : L ≤ 3072) (hs : s + 6 ≤ L) (I : INVE M) (K : ∀ M' fd', INVE M' → a_Ex 262 1261 [some (.ref (a_CB + 1000)), some (.ref 0), some (.ref 170), some (.int (N s))] [] (a_hp (L + 1, xs) fd' M') Q) : a_Ex 262 405 [some (.ref (a_CB + 1000)), some (.ref 0), some (.ref 170), some (.int (N s))] [] (a_hp (L + 1, xs) fd M) Q := by
  obtain ⟨n, A, B, nx, sz, U, gi, xi, f, T, ff, I⟩ := I
  obtain ⟨⟨i1, i2, i3, i4⟩, ⟨j1, j2, j3⟩, k, ⟨l1, l2⟩, o, cm⟩ := id I
  refine x_aload_n i_262_405 rfl ?_
  refine x_aload_n i_262_406 rfl ?_
  refine x_iload_n i_262_407 rfl ?_
  refine n_iconst 1 i_262_408 rfl ?_
  refine x_iaddN i_262_409 ?_
  refine n_ldL i_262_410 (by omega) hL ?_
  refine x_vh (r := []) (lj := [some _, some _]) i_262_411 w_8 ob_0 [_] rfl rfl (Nat.le_of_ble_eq_true rfl) (Nat.le_of_ble_eq_true rfl) rfl ?_
  refine d_8 i1 j1 (ax_lt _ _) (fun M1 r1 p1 f1 => rt_i ?_)
  have n5 : n ≤ 5 := i1.1.1.2
  have ap := x67 (l := ax xs (s + 1)) (i3.r 9 0 0 (Or.inl (Nat.le_refl _))) i1.1
  have hne := ne67 (n := n) (A := A) (k := ax xs (s + 1))
  have hnr := nr67 (l := ax xs (s + 1)) n5 i4
  have iq := I.mid f1
  rw [ap.1] at hne p1
  rw [ap.1]
  refine x_aload_n i_262_414 rfl ?_
  refine x_aload_n i_262_415 rfl ?_
  refine x_iload_n i_262_416 rfl ?_
  refine n_iconst 1 i_262_417 rfl ?_
  refine x_iaddN i_262_418 ?_
  refine n_ldL i_262_419 (by omega) hL ?_
  refine x_vh (r := [_]) (lj := [some _, some _]) i_262_420 w_180 ob_170 [_] rfl rfl (Nat.le_of_ble_eq_true rfl) (Nat.le_of_ble_eq_true rfl) rfl ?_
  refine e_180 iq.1 iq.2 (ax_lt _ _) hne (fun M2 r2 p2 f2 => rt_i ?_)
  refine x_ieq i_262_423 ⟨fun g1 => ?_, fun g1 => ?_⟩
  · exact K _ _ (I.tell r1 p1 f1 r2 p2 f2 ap.2 hnr)
  · exact absurd rfl g1
theorem lw_428 (hL : L ≤ 3072) (hs : s + 6 ≤ L) (I : INVE M) (K : ∀ M' fd', INVE M' → a_Ex 262 1261 [some (.ref (a_CB + 1000)), some (.ref 0), some (.ref 170), some (.int (N s))] [] (a_hp (L + 1, xs) fd' M') Q) : a_Ex 262 428 [some (.ref (a_CB + 1000)), some (.ref 0), some (.ref 170), some (.int (N s))] [] (a_hp (L + 1, xs) fd M) Q := by
  obtain ⟨n, A, B, nx, sz, U, gi, xi, f, T, ff, I⟩ := I
  obtain ⟨⟨i1, i2, i3, i4⟩, ⟨j1, j2, j3⟩, k, ⟨l1, l2⟩, o, cm⟩ := id I
  refine x_aload_n i_262_428 rfl ?_
  refine x_aload_n i_262_429 rfl ?_
  refine x_iload_n i_262_430 rfl ?_
  refine n_iconst 1 i_262_431 rfl ?_
  refine x_iaddN i_262_432 ?_
  refine n_ldL i_262_433 (by omega) hL ?_
  refine x_vh (r := []) (lj := [some _, some _]) i_262_434 w_9 ob_0 [_] rfl rfl (Nat.le_of_ble_eq_true rfl) (Nat.le_of_ble_eq_true rfl) rfl ?_
  refine d_9 i1 j1 (ax_lt _ _) (fun M1 r1 p1 f1 => rt_i ?_)
  have n5 : n ≤ 5 := i1.1.1.2
  have ap := x70 (l := ax xs (s + 1)) (i3.r 9 0 0 (Or.inl (Nat.le_refl _))) i1.1
  have hne := ne70 (k := ax xs (s + 1)) i1.1
  have hnr := nr70 (l := ax xs (s + 1)) i4
  have iq := I.mid f1
  rw [ap.1] at hne p1
  rw [ap.1]
  refine x_aload_n i_262_437 rfl ?_
  refine x_aload_n i_262_438 rfl ?_
  refine x_iload_n i_262_439 rfl ?_
  refine n_iconst 1 i_262_440 rfl ?_
  refine x_iaddN i_262_441 ?_
  refine n_ldL i_262_442 (by omega) hL ?_
  refine x_vh (r := [_]) (lj := [some _, some _]) i_262_443 w_182 ob_170 [_] rfl rfl (Nat.le_of_ble_eq_true rfl) (Nat.le_of_ble_eq_true rfl) rfl ?_
  refine e_182 iq.1 iq.2 (ax_lt _ _) hne (fun M2 r2 p2 f2 => rt_i ?_)
  refine x_ieq i_262_446 ⟨fun g1 => ?_, fun g1 => ?_⟩
  · exact K _ _ (I.tell r1 p1 f1 r2 p2 f2 ap.2 hnr)
  · exact absurd rfl g1
theorem lw_237 (hL : L ≤ 3072) (hs : s + 6 ≤ L) (I : INVE M) (K : ∀ M' fd', INVE M' → a_Ex 262 1261 [some (.ref (a_CB + 1000)), some (.ref 0), some (.ref 170), some (.int (N s))] [] (a_hp (L + 1, xs) fd' M') Q) : a_Ex 262 237 [some (.ref (a_CB + 1000)), some (.ref 0), some (.ref 170), some (.int (N s))] [] (a_hp (L + 1, xs) fd M) Q := by
  obtain ⟨n, A, B, nx, sz, U, gi, xi, f, T, ff, I⟩ := I
  obtain ⟨⟨i1, i2, i3, i4⟩, ⟨j1, j2, j3⟩, k, ⟨l1, l2⟩, o, cm⟩ := id I
  refine x_aload_n i_262_237 rfl ?_
  refine x_aload_n i_262_238 rfl ?_
  refine x_iload_n i_262_239 rfl ?_
  refine n_iconst 1 i_262_240 rfl ?_
  refine x_iaddN i_262_241 ?_
  refine n_ldL i_262_242 (by omega) hL ?_
  refine x_aload_n i_262_243 rfl ?_
  refine x_iload_n i_262_244 rfl ?_
  refine n_iconst 2 i_262_245 rfl ?_
  refine x_iaddN i_262_246 ?_
  refine n_ldL i_262_247 (by omega) hL ?_
  refine x_vh (r := []) (lj := [some _, some _, some _]) i_262_248 w_2 ob_0 [_, _] rfl rfl (Nat.le_of_ble_eq_true rfl) (Nat.le_of_ble_eq_true rfl) rfl ?_
  refine d_2 i1 j1 (ax_lt _ _) (ax_lt _ _) (fun M1 r1 p1 f1 => rt_i ?_)
  have n5 : n ≤ 5 := i1.1.1.2
  have ap := x52 (l := ax xs (s + 1)) (m := ax xs (s + 2)) (i3.r 9 0 0 (Or.inl (Nat.le_refl _))) i1.1
  have hne := ne52 (k := ax xs (s + 1)) (l := ax xs (s + 2)) i1.1
  have hnr := nr52 (l := ax xs (s + 1)) (m := ax xs (s + 2)) i4
  have iq := I.mid f1
  rw [ap.1] at hne p1
  rw [ap.1]
  refine x_aload_n i_262_251 rfl ?_
  refine x_aload_n i_262_252 rfl ?_
  refine x_iload_n i_262_253 rfl ?_
  refine n_iconst 1 i_262_254 rfl ?_
  refine x_iaddN i_262_255 ?_
  refine n_ldL i_262_256 (by omega) hL ?_
  refine x_aload_n i_262_257 rfl ?_
  refine x_iload_n i_262_258 rfl ?_
  refine n_iconst 2 i_262_259 rfl ?_
  refine x_iaddN i_262_260 ?_
  refine n_ldL i_262_261 (by omega) hL ?_
  refine x_vh (r := [_]) (lj := [some _, some _, some _]) i_262_262 w_152 ob_170 [_, _] rfl rfl (Nat.le_of_ble_eq_true rfl) (Nat.le_of_ble_eq_true rfl) rfl ?_
  refine e_152 iq.1 iq.2 (ax_lt _ _) (ax_lt _ _) hne (fun M2 r2 p2 f2 => rt_i ?_)
  refine x_ieq i_262_265 ⟨fun g1 => ?_, fun g1 => ?_⟩
  · exact K _ _ (I.tell r1 p1 f1 r2 p2 f2 ap.2 hnr)
  · exact absurd rfl g1
end LWT
