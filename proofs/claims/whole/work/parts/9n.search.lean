/-! the class's search: all of it -/
section ALL
variable {sc : a_Sc} {fd : Nat} {M M0 : a_Mm} {n n0 g o i k : Nat} {T A B : HA} {S : HA × Nat} {Q : Option Value → a_Hp → Prop}
theorem frs_tm {C : HA} : TM n A (frs C A) := by
  refine ⟨fun w h1 h2 s hs => ?_, fun k h1 h2 h3 => ?_⟩
  · unfold frs; rw [if_pos (by omega)]
  · unfold frs; rw [if_neg (by omega), if_pos (by omega)]
theorem ad_0 (n : Nat) : adE ((S0 n).1, 0) (c0 n) 4294967295 0 = S0 n := by
  unfold adE
  rw [if_neg (by show ¬ false = true; decide)]
  show (exE (S0 n).1 0 (c0 n) 4294967295 0, 0 + 1) = S0 n
  refine Prod.ext (funext fun w => funext fun j => ?_) rfl
  show exE (S0 n).1 0 (c0 n) 4294967295 0 w j = (S0 n).1 w j
  unfold exE
  rw [a_up_def, a_up_def, a_up_def, a_up_def, if_pos rfl]
  unfold S0
  dsimp only
  by_cases e3 : w = 3 ∧ j = 0
  · rw [if_pos e3, if_neg (by omega), if_neg (by omega)]
  rw [if_neg e3]
  by_cases e2 : w = 2 ∧ j = 0
  · rw [if_pos e2, if_neg (by omega), if_neg (by omega)]
  rw [if_neg e2]
  by_cases e1 : w = 1 ∧ j = 0
  · rw [if_pos e1, if_neg (by omega), if_pos e1.1]
  rw [if_neg e1]
  by_cases e0 : w = 0 ∧ j = 0
  · rw [if_pos e0, if_pos e0.1]
  rw [if_neg e0]
theorem c_128 (mb : MB o) (hn : n = 2 ∨ n = 3) (r : RC M 1 n A) (r0 : RC M 156 n0 B) (K : ∀ M' A', RC M' 156 n A' → TM n A A' → SC M' (S0 n) 4294967295 → MXS M' o n (S0 n).1 (S0 n).2 → FRh o M M' → M' o 0 = M o 0 → Q none (a_hp sc o M')) : a_Ex 128 0 [some (.ref 147), some (.ref 1), some (.ref o)] [] (a_hp sc fd M) Q := by
  have hlt := mb.lt
  have wA := r.w
  refine x_aload_n i_128_0 rfl ?_
  refine x_gr i_128_1 ob_147 gr_6_1.1 gr_6_1.2 (rt_147_1 _) ?_
  refine n_iconst 0 i_128_4 rfl ?_
  refine x_fill i_128_5 ar_165 (by decide) (Nat.le_of_ble_eq_true rfl) ?_
  have f1 : ∀ q j, ¬ q = 165 → a_row M 165 (a_fil 864 (N 0) (M 165)) q j = M q j := fun q j h => by unfold a_row; rw [if_neg h]
  have g1 : ∀ j, j < 864 → a_row M 165 (a_fil 864 (N 0) (M 165)) 165 j = N 0 := fun j h => by unfold a_row a_fil; rw [if_pos rfl, if_pos h]
  generalize a_row M 165 (a_fil 864 (N 0) (M 165)) = M1 at f1 g1 ⊢
  refine x_aload_n i_128_8 rfl ?_
  refine n_iconst 0 i_128_9 rfl ?_
  refine x_pi i_128_10 ob_147 pf_6_6.1 pf_6_6.2 ?_
  refine x_aload_n i_128_13 rfl ?_
  refine n_iconst 4294967295 i_128_14 rfl ?_
  refine x_pi i_128_15 ob_147 pf_6_7.1 pf_6_7.2 ?_
  have f2 : ∀ q j, ¬ (q = 147 ∧ (j = 6 ∨ j = 7)) → a_up (a_up M1 147 6 (N 0)) 147 7 (N 4294967295) q j = M1 q j := fun q j h => by rw [a_up_def, if_neg (by omega), a_up_def, if_neg (by omega)]
  have g2 : a_up (a_up M1 147 6 (N 0)) 147 7 (N 4294967295) 147 6 = N 0 := by rw [a_up_def, if_neg (by omega), a_up_def, if_pos ⟨rfl, rfl⟩]
  have g3 : a_up (a_up M1 147 6 (N 0)) 147 7 (N 4294967295) 147 7 = N 4294967295 := by rw [a_up_def, if_pos ⟨rfl, rfl⟩]
  generalize a_up (a_up M1 147 6 (N 0)) 147 7 (N 4294967295) = M2 at f2 g2 g3 ⊢
  refine x_aload_n i_128_18 rfl ?_
  refine x_aload_n i_128_19 rfl ?_
  refine x_pfound i_128_20 (by omega) ?_
  refine x_aload_n i_128_23 rfl ?_
  refine x_gr i_128_24 ob_147 gr_6_10.1 gr_6_10.2 (a_mrf_found _) ?_
  refine x_vh (r := []) (lj := [some _]) i_128_27 w_139 mb.ob [] rfl rfl (Nat.le_of_ble_eq_true rfl) (Nat.le_of_ble_eq_true rfl) rfl ?_
  refine c_139 mb (fun M3 x1 x2 x4 x5 x6 x7 x0 f3 => rt_n ?_)
  have fr3 : ∀ q j, ¬ q = 165 → ¬ q = 147 → ¬ q = o → ¬ q = o + 1 → ¬ q = o + 2 → M3 q j = M q j := fun q j h1 h2 h3 h4 h5 => by rw [f3 q j h3 h4 h5, f2 q j (by omega)]; exact f1 q j h1
  have r3 : RC M3 1 n A := r.same (fun q j h1 h2 => fr3 q j (by omega) (by omega) (by rcases mb with rfl | rfl <;> omega) (by rcases mb with rfl | rfl <;> omega) (by rcases mb with rfl | rfl <;> omega))
  have r03 : RC M3 156 n0 B := r0.same (fun q j h1 h2 => fr3 q j (by omega) (by omega) (by rcases mb with rfl | rfl <;> omega) (by rcases mb with rfl | rfl <;> omega) (by rcases mb with rfl | rfl <;> omega))
  refine x_aload_n i_128_30 rfl ?_
  refine x_gr i_128_31 ob_147 gr_6_0.1 gr_6_0.2 (rt_147_0 _) ?_
  refine x_aload_n i_128_34 rfl ?_
  refine n_gi (x := n) i_128_35 hb1.ob gf_1_0.1 gf_1_0.2 r3.nn ?_
  refine x_aload_n i_128_38 rfl ?_
  refine n_gi (x := A 6 1) i_128_39 hb1.ob gf_1_1.1 gf_1_1.2 r3.f1 ?_
  refine x_vh (r := []) (lj := [some _, some _, some _]) i_128_42 w_46 hb156.ob [_, _] rfl rfl (Nat.le_of_ble_eq_true rfl) (Nat.le_of_ble_eq_true rfl) rfl ?_
  refine c_46 (A := A) hb156 ⟨by omega, by omega⟩ wA.2.1.1 ⟨B 6 3, B 6 4, r0.1.2.1.2.2.1, r0.1.2.1.2.2.2, r03.f3, r03.f4⟩ (fun M4 D e4 r4 f4 => rt_n ?_)
  refine x_aload_n i_128_45 rfl ?_
  refine x_gr i_128_46 ob_147 gr_6_0.1 gr_6_0.2 (rt_147_0 _) ?_
  refine x_aload_n i_128_49 rfl ?_
  refine x_vh (r := []) (lj := [some _, some _]) i_128_50 w_51 hb156.ob [_] rfl rfl (Nat.le_of_ble_eq_true rfl) (Nat.le_of_ble_eq_true rfl) rfl ?_
  refine c_51 r3 r4 f4 (fun M5 r5 f5 => rt_n ?_)
  have es := frs_es hn wA.2.1.1 e4
  have iv := iv_0 (L := AL n 0) (T := A) hn r.w
  have i0 := (iv.2.1 0 (Nat.lt_succ_self 0)).1
  have v0 : IHs n A (std n A (c0 n)) := i0
  have hv : vl n (std n A (c0 n)) = c0 n := (iv.2.1 0 (Nat.lt_succ_self 0)).2
  have v5 : VS n (frs D A) := v0.1.es es.symm
  have e5 : vl n (frs D A) = c0 n := (es.vlq hn).trans hv
  have t5 : TM n A (frs D A) := frs_tm
  have f0 : ∀ q j, ¬ (156 ≤ q ∧ q ≤ 164) → M5 q j = M3 q j := fun q j h => f5 q j (by omega)
  have sc5 : SC M5 ((S0 n).1, 0) 4294967295 := by
    refine ⟨(f0 _ _ (by omega)).trans ((f3 _ _ (by rcases mb with rfl | rfl <;> omega) (by rcases mb with rfl | rfl <;> omega) (by rcases mb with rfl | rfl <;> omega)).trans g2), (f0 _ _ (by omega)).trans ((f3 _ _ (by rcases mb with rfl | rfl <;> omega) (by rcases mb with rfl | rfl <;> omega) (by rcases mb with rfl | rfl <;> omega)).trans g3), fun j hj => absurd hj (Nat.not_lt_zero _), fun c hc => ?_⟩
    rw [f0 _ _ (by omega), f3 _ _ (by rcases mb with rfl | rfl <;> omega) (by rcases mb with rfl | rfl <;> omega) (by rcases mb with rfl | rfl <;> omega), f2 _ _ (by omega), g1 _ (by omega)]
    exact Nat.zero_testBit _
  have mx5 : MXS M5 o n (S0 n).1 0 := by
    refine ⟨fun m hm => (f0 _ _ (by rcases mb with rfl | rfl <;> omega)).trans (x1 m hm), (f0 _ _ (by rcases mb with rfl | rfl <;> omega)).trans x5, (f0 _ _ (by rcases mb with rfl | rfl <;> omega)).trans x6, (f0 _ _ (by rcases mb with rfl | rfl <;> omega)).trans x7, (f0 _ _ (by rcases mb with rfl | rfl <;> omega)).trans x4, fun x hx => (f0 _ _ (by rcases mb with rfl | rfl <;> omega)).trans (x2 x hx), fun u hu => absurd hu (Nat.not_lt_zero _)⟩
  have ch : CH (S0 n) := iv_ch iv
  have ead := ad_0 n
  refine x_aload_n i_128_53 rfl ?_
  refine n_iconst 0 i_128_54 rfl ?_
  refine x_vh (r := []) (lj := [some _, some _, none, none, none]) i_128_55 w_129 ob_147 [_] rfl rfl (Nat.le_of_ble_eq_true rfl) (Nat.le_of_ble_eq_true rfl) rfl ?_
  refine c_129 (T := A) (S := ((S0 n).1, 0)) mb (Nat.zero_le _) v5 t5 r5 sc5 (Or.inl rfl) (fun u hu => absurd hu (Nat.not_lt_zero _)) (by rw [e5, ead]; exact ch) mx5 (fun M6 r6 s6 m6 f6 => rt_n ?_)
  rw [e5, ead] at s6 m6
  refine x_vret i_128_58 rn_128 ?_
  refine K M6 _ r6 t5 s6 m6 (fun q j h1 h2 h3 h4 => ?_) ?_
  · by_cases y : q = 147
    · rw [f6 _ _ (by omega) (by omega) (by omega) (by omega), f0 _ _ (by omega), f3 _ _ (by rcases mb with rfl | rfl <;> omega) (by rcases mb with rfl | rfl <;> omega) (by rcases mb with rfl | rfl <;> omega), f2 _ _ (by omega)]; exact f1 _ _ (by omega)
    · by_cases z : q = o
      · have : j = 0 := by omega
        subst this
        rw [f6 _ _ (by rcases mb with rfl | rfl <;> omega) (by omega) (by omega) (by omega), f0 _ _ (by omega), z, x0, f2 _ _ (by rcases mb with rfl | rfl <;> omega)]; exact f1 _ _ (by rcases mb with rfl | rfl <;> omega)
      · rw [f6 _ _ (by omega) (by omega) (by omega) (by omega), f0 _ _ (by omega)]; exact fr3 _ _ (by omega) y z (by omega) (by omega)
  · rw [f6 _ _ (by rcases mb with rfl | rfl <;> omega) (by rcases mb with rfl | rfl <;> omega) (by omega) (by omega), f0 _ _ (by rcases mb with rfl | rfl <;> omega), x0, f2 _ _ (by rcases mb with rfl | rfl <;> omega)]; exact f1 _ _ (by rcases mb with rfl | rfl <;> omega)
/-- the search hangs on the terms of the sites that are -/
theorem stq_tm (hn : n = 2 ∨ n = 3) (t : TM n T A) (a : Nat) : stq n A i S a = stq n T i S a := by
  have e := act_es (by omega) (by omega) (std_es (c := S.1 0 i) t) a
  unfold stq
  rw [e.1, e.2.vlq hn]
theorem bfs_tm (hn : n = 2 ∨ n = 3) (t : TM n T A) : ∀ d i S, bfs n A g d i S = bfs n T g d i S := by
  intro d
  induction d with
  | zero => intro i S; rfl
  | succ d ih =>
    intro i S
    have ef : stq n A i = stq n T i := funext fun S => funext fun a => stq_tm hn t a
    unfold bfs
    rw [ef, ih]
theorem BF_tm (hn : n = 2 ∨ n = 3) (t : TM n T A) : BF n A g = BF n T g := bfs_tm hn t _ _ _
/-- the key tells the terms -/
theorem s92_v (n : Nat) (A : HA) : s_92 n A = (((((n * 2 + A 6 1) * 8 + A 3 0 * 4 + A 4 0) * 8 + A 3 1 * 4 + A 4 1) * 8 + A 3 2 * 4 + A 4 2) * 16 + A 6 3) * 16 + A 6 4 := rfl
theorem s92_lt (hn : n = 2 ∨ n = 3) (w : WN n A) : s_92 n A < 2147483648 := by
  have a := w.b3 (show 0 < 5 by omega); have b := w.b3 (show 1 < 5 by omega); have c := w.b3 (show 2 < 5 by omega)
  have d := w.b4 (show 0 < 5 by omega); have e := w.b4 (show 1 < 5 by omega); have f := w.b4 (show 2 < 5 by omega)
  have p := w.f1; have q := w.f3; have s := w.f4
  rw [s92_v]
  omega
theorem s92_tm {m : Nat} (hn : n = 2 ∨ n = 3) (hm : m = 2 ∨ m = 3) (w : WN n A) (u : WN m T) (h : s_92 n A = s_92 m T) : m = n ∧ TM n T A := by
  have a := w.b3 (show 0 < 5 by omega); have b := w.b3 (show 1 < 5 by omega); have c := w.b3 (show 2 < 5 by omega)
  have d := w.b4 (show 0 < 5 by omega); have e := w.b4 (show 1 < 5 by omega); have f := w.b4 (show 2 < 5 by omega)
  have p := w.f1; have q := w.f3; have s := w.f4
  have a' := u.b3 (show 0 < 5 by omega); have b' := u.b3 (show 1 < 5 by omega); have c' := u.b3 (show 2 < 5 by omega)
  have d' := u.b4 (show 0 < 5 by omega); have e' := u.b4 (show 1 < 5 by omega); have f' := u.b4 (show 2 < 5 by omega)
  have p' := u.f1; have q' := u.f3; have s' := u.f4
  rw [s92_v, s92_v] at h
  have h1 : A 6 4 = T 6 4 := by omega
  have h2 : A 6 3 = T 6 3 := by omega
  have h3 : A 4 2 = T 4 2 ∧ A 3 2 = T 3 2 := by omega
  have h4 : A 4 1 = T 4 1 ∧ A 3 1 = T 3 1 := by omega
  have h5 : A 4 0 = T 4 0 ∧ A 3 0 = T 3 0 := by omega
  have h6 : m = n ∧ A 6 1 = T 6 1 := by omega
  refine ⟨h6.1, fun x h7 h8 s hs => ?_, fun k h7 h8 h9 => ?_⟩
  · have hx : x = 3 ∨ x = 4 := by omega
    have : s = 0 ∨ s = 1 ∨ s = 2 := by omega
    rcases hx with rfl | rfl <;> rcases this with rfl | rfl | rfl
    · exact h5.2
    · exact h4.2
    · exact h3.2
    · exact h5.1
    · exact h4.1
    · exact h3.1
  · rcases (by omega : k = 1 ∨ k = 3 ∨ k = 4) with rfl | rfl | rfl
    · exact h6.2
    · exact h2
    · exact h1
/-- what a store of mixes may hold between calls -/
def MCI (M : a_Mm) (o g : Nat) : Prop := M o 0 = N 4294967295 ∨ ∃ n T, (n = 2 ∨ n = 3) ∧ WN n T ∧ M o 0 = N (s_92 n T) ∧ MXS M o n (BF n T g).1 (BF n T g).2
end ALL
