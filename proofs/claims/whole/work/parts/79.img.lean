/-! begin, images, undoing -/
theorem hbi {j : Nat} (h : j < 2) : HB (121 + 9 * j) := (by unfold HB; decide : ∀ j, j < 2 → HB (121 + 9 * j)) j h
theorem mri (fd : Nat) {j : Nat} (h : j < 2) : a_mrf fd 120 j = some (121 + 9 * j) := by
  have := (a_hall120 (x := N j) fd (by rw [a_in_N (by omega)]; exact h)).1
  rw [N_toNat (by omega)] at this
  exact this
theorem n_stz {i pc : Nat} {lc : a_Lc} {st : List Value} {sc : a_Sc} {fd : Nat} {M : a_Mm} {Q : Option Value → a_Hp → Prop} {m n a b o s : Nat} {v : Int32} (hi : a_ins i pc = some (.bastore, n, a, b, v)) (ho : a_AR 2 o m) (hm : m < 2147483648) (hs : s < m) (k : a_Ex i (pc + n) lc st (a_hp sc fd (a_up M o s (N 1))) Q) : a_Ex i pc lc (.int (N 1) :: .int (N s) :: .ref o :: st) (a_hp sc fd M) Q := by
  refine x_stz hi ho (by rw [a_in_N (by omega)]; exact hs) ?_
  rw [N_toNat (by omega), show vp_nar .boolean (N 1) = N 1 by decide +kernel]
  exact k
/-- an image i, in the class, the reference: whether it was made, what it holds -/
def IC (M : a_Mm) (i g : Nat) (x : Nat × HA) : Prop := M 139 i = N g ∧ g ≤ 1 ∧ (g = 1 → ∃ B, EQ B x.2 ∧ RC M (121 + 9 * i) x.1 B)
def IR (M : a_Mm) (i g : Nat) (x : Nat × HA) : Prop := M 175 i = N g ∧ g ≤ 1 ∧ (g = 1 → RS (fun k => M 171 (216 * (i + 1) + k)) x.1 x.2)
section IMG
variable {sc : a_Sc} {fd : Nat} {M : a_Mm} {A B : HA} {Q : Option Value → a_Hp → Prop} {n nx sz : Nat} {U : Nat → Nat × HA}
theorem d_1 (r : RC M 1 n A) (p : PS M nx sz U) {l1 l2 : Nat} (h1 : l1 < 4294967296) (h2 : l2 < 4294967296) (k0 : ¬ ((2 ≤ l1 ∧ l1 ≤ 5) ∧ l2 ≤ 1) → Q (some (.int (N 4294967293))) (a_hp sc fd M)) (k : (2 ≤ l1 ∧ l1 ≤ 5) ∧ l2 ≤ 1 → ∀ M' C, EQ C (opn l1 l2 A) → RC M' 1 l1 C → PS M' ((nx + 1) % 11) (pss sz) (psh U sz (n, A)) → FP M M' → Q (some (.int (N l1))) (a_hp sc fd M')) : a_Ex 1 0 [some (.ref 0), some (.int (N l1)), some (.int (N l2))] [] (a_hp sc fd M) Q := by
  have no : ¬ ((2 ≤ l1 ∧ l1 ≤ 5) ∧ l2 ≤ 1) → a_Ex 1 19 [some (.ref 0), some (.int (N l1)), some (.int (N l2))] [] (a_hp sc fd M) Q := fun g => by
    refine n_bipush 4294967293 i_1_19 rfl ?_
    refine x_iret i_1_21 rn_1 rfl ?_
    exact k0 g
  refine x_iload_n i_1_0 rfl ?_
  refine n_iconst 2 i_1_1 rfl ?_
  refine n_iltU h1 (by omega) i_1_2 ⟨fun g => no (by omega), fun g1 => ?_⟩
  refine x_iload_n i_1_5 rfl ?_
  refine n_iconst 5 i_1_6 rfl ?_
  refine x_igtN (by omega) (by omega) i_1_7 ⟨fun g => no (by omega), fun g2 => ?_⟩
  refine x_iload_n i_1_10 rfl ?_
  refine n_zltU h2 i_1_11 ⟨fun g => no (by omega), fun g3 => ?_⟩
  refine x_iload_n i_1_14 rfl ?_
  refine n_iconst 1 i_1_15 rfl ?_
  refine x_ileN (by omega) (by omega) i_1_16 ⟨fun g4 => ?_, fun g => no (by omega)⟩
  have ok : (2 ≤ l1 ∧ l1 ≤ 5) ∧ l2 ≤ 1 := by omega
  refine x_aload_n i_1_22 rfl ?_
  refine x_gr i_1_23 ob_0 gr_0_2.1 gr_0_2.2 (rt_0_2 _) ?_
  refine x_aload_n i_1_26 rfl ?_
  refine x_gr i_1_27 ob_0 gr_0_0.1 gr_0_0.2 (rt_0_0 _) ?_
  refine x_vh (r := []) (lj := [some _, some _]) i_1_30 w_105 ob_19 [_] rfl rfl (Nat.le_of_ble_eq_true rfl) (Nat.le_of_ble_eq_true rfl) rfl ?_
  refine c_105 r p (fun M1 r1 p1 s1 f1 => rt_n ?_)
  refine x_aload_n i_1_33 rfl ?_
  refine x_gr i_1_34 ob_0 gr_0_0.1 gr_0_0.2 (rt_0_0 _) ?_
  refine x_iload_n i_1_37 rfl ?_
  refine x_iload_n i_1_38 rfl ?_
  refine x_vh (r := []) (lj := [some _, some _, some _]) i_1_39 w_46 hb1.ob [_, _] rfl rfl (Nat.le_of_ble_eq_true rfl) (Nat.le_of_ble_eq_true rfl) rfl ?_
  refine c_46 (A := A) hb1 ok.1 (by omega) ⟨A 6 3, A 6 4, by have := r.w.2.1; omega, by have := r.w.2.1; omega, r1.f3, r1.f4⟩ (fun M2 C e2 r2 f2 => rt_n ?_)
  refine x_aload_n i_1_42 rfl ?_
  refine x_gr i_1_43 ob_0 gr_0_2.1 gr_0_2.2 (rt_0_2 _) ?_
  refine x_iload_n i_1_46 rfl ?_
  refine x_vh (r := []) (lj := [some _, some _]) i_1_47 w_106 ob_19 [_] rfl rfl (Nat.le_of_ble_eq_true rfl) (Nat.le_of_ble_eq_true rfl) rfl ?_
  refine c_106 (n := n) (A := A) h1 (p1.same (fun o k h1 h2 => f2 o k (by omega))) ?_ (fun M3 p3 f3 => rt_i ?_)
  · obtain ⟨D, c1, c2⟩ := s1
    exact ⟨D, c1, c2.same (fun o k h1 h2 => f2 o k (by omega))⟩
  refine x_iret i_1_50 rn_1 rfl ?_
  rw [if_pos (by omega)] at p3
  exact k ok M3 C e2 (r2.same (fun o k h1 h2 => f3 o k (by omega))) p3 (fun o k h => (f3 o k (by omega)).trans ((f2 o k (by omega)).trans (f1 o k (by omega))))
theorem e_146 (r : RM M n B) (d : DS M sz U) {l1 l2 : Nat} (h1 : l1 < 4294967296) (h2 : l2 < 4294967296) (k0 : ¬ ((2 ≤ l1 ∧ l1 ≤ 5) ∧ l2 ≤ 1) → ∀ M', RM M' n (a_up B 9 0 0) → DS M' sz U → FQ M M' → Q (some (.int (N 4294967293))) (a_hp sc fd M')) (k : (2 ≤ l1 ∧ l1 ≤ 5) ∧ l2 ≤ 1 → ∀ M', RM M' l1 (opn l1 l2 (a_up B 9 0 0)) → DS M' (pss sz) (psh U sz (n, B)) → FQ M M' → Q (some (.int (N l1))) (a_hp sc fd M')) : a_Ex 146 0 [some (.ref 170), some (.int (N l1)), some (.int (N l2))] [] (a_hp sc fd M) Q := by
  refine x_aload_n i_146_0 rfl ?_
  refine n_iconst 0 i_146_1 rfl ?_
  refine n_pM i_146_2 r pf_8_0 (by omega) (fun M0 r0 f0 => ?_)
  refine x_iload_n i_146_5 rfl ?_
  have d0 : DS M0 sz U := d.same (fun k => f0 172 k (by omega)) (f0 170 5 (by omega))
  have q0 : FQ M M0 := fun o k h => f0 o k (by omega)
  have no : ¬ ((2 ≤ l1 ∧ l1 ≤ 5) ∧ l2 ≤ 1) → a_Ex 146 29 [some (.ref 170), some (.int (N l1)), some (.int (N l2))] [] (a_hp sc fd M0) Q := fun g => by
    refine n_bipush 4294967293 i_146_29 rfl ?_
    refine x_iret i_146_31 rn_146 rfl ?_
    exact k0 g M0 r0 d0 q0
  refine x_i2l i_146_6 ?_
  refine n_ldc2 2 i_146_7 rfl ?_
  refine n_ldc2 5 i_146_10 rfl ?_
  refine n_within i_146_13 (Nat.le_of_ble_eq_true rfl) h1 (by omega) (by omega) ⟨fun g1 => ?_, fun g1 => ?_⟩
  · refine x_zeqN (by omega) i_146_16 ⟨fun q => absurd q (by omega), fun _ => ?_⟩
    refine x_iload_n i_146_19 rfl ?_
    refine x_i2l i_146_20 ?_
    refine n_lconst 0 i_146_21 rfl ?_
    refine n_lconst 1 i_146_22 rfl ?_
    refine n_within i_146_23 (Nat.le_of_ble_eq_true rfl) h2 (by omega) (by omega) ⟨fun g2 => ?_, fun g2 => ?_⟩
    · refine x_zneN (by omega) i_146_26 ⟨fun _ => ?_, fun q => absurd q (by omega)⟩
      have ok : (2 ≤ l1 ∧ l1 ≤ 5) ∧ l2 ≤ 1 := by omega
      refine x_aload_n i_146_32 rfl ?_
      refine x_vh (r := []) (lj := [some _]) i_146_33 w_148 ob_170 [] rfl rfl (Nat.le_of_ble_eq_true rfl) (Nat.le_of_ble_eq_true rfl) rfl ?_
      refine c_148 (fun M1 g3 f1 => rt_n ?_)
      have r1 : RM M1 n (a_up B 9 0 0) := r0.same (fun k _ => f1 171 k (by omega)) (fun k _ => f1 170 k (by omega))
      refine x_aload_n i_146_36 rfl ?_
      refine x_iload_n i_146_37 rfl ?_
      refine x_iload_n i_146_38 rfl ?_
      refine x_vh (r := []) (lj := [some _, some _, some _, none]) i_146_39 w_144 ob_170 [_, _] rfl rfl (Nat.le_of_ble_eq_true rfl) (Nat.le_of_ble_eq_true rfl) rfl ?_
      refine c_144 ok.1 (by omega) r1 (fun M2 r2 f2 => rt_n ?_)
      refine x_aload_n i_146_42 rfl ?_
      refine x_iload_n i_146_43 rfl ?_
      have hd2 : DS M2 sz U := d0.same (fun k => (f2 172 k (by omega)).trans (f1 172 k (by omega))) ((f2 170 5 (by omega)).trans (f1 170 5 (by omega)))
      have ha2 : RS (M2 174) n (a_up B 9 0 0) := r0.rs.congr (fun k hk => (f2 174 k (by omega)).trans (g3 k hk))
      refine x_vh (r := []) (lj := [some _, some _]) i_146_44 w_150 ob_170 [_] rfl rfl (Nat.le_of_ble_eq_true rfl) (Nat.le_of_ble_eq_true rfl) rfl ?_
      refine c_150 (A := B) (by omega) hd2 (ha2.eq ((EQ.refl B).l 9 0 0 (by omega))) (fun M3 d3 f3 => rt_i ?_)
      refine x_iret i_146_47 rn_146 rfl ?_
      rw [if_pos (by omega)] at d3
      exact k ok M3 (r2.same (fun k _ => f3 171 k (by omega) (by omega)) (fun k h => f3 170 k (by omega) (by omega))) d3 (fun o k h => (f3 o k (by omega) (by omega)).trans ((f2 o k (by omega)).trans ((f1 o k (by omega)).trans (f0 o k (by omega)))))
    · refine x_zneN (by omega) i_146_26 ⟨fun q => absurd rfl q, fun _ => no (by omega)⟩
  · refine x_zeqN (by omega) i_146_16 ⟨fun _ => no (by omega), fun q => absurd rfl q⟩
theorem d_42 (r : RC M 1 n A) {l1 : Nat} (h1 : l1 < 4294967296) (k0 : ¬ l1 < 2 → Q (some (.int (N 4294967294))) (a_hp sc fd M)) (k : l1 < 2 → ∀ M', IC M' l1 1 (n, A) → (∀ o k, (o < 121 + 9 * l1 ∨ 121 + 9 * l1 + 9 ≤ o) → ¬ (o = 139 ∧ k = l1) → M' o k = M o k) → Q (some (.int (N 0))) (a_hp sc fd M')) : a_Ex 42 0 [some (.ref 0), some (.int (N l1))] [] (a_hp sc fd M) Q := by
  have no : ¬ l1 < 2 → a_Ex 42 9 [some (.ref 0), some (.int (N l1))] [] (a_hp sc fd M) Q := fun g => by
    refine n_bipush 4294967294 i_42_9 rfl ?_
    refine x_iret i_42_11 rn_42 rfl ?_
    exact k0 g
  refine x_iload_n i_42_0 rfl ?_
  refine n_zltU h1 i_42_1 ⟨fun g => no (by omega), fun g1 => ?_⟩
  refine x_iload_n i_42_4 rfl ?_
  refine n_iconst 2 i_42_5 rfl ?_
  refine x_iltN (by omega) (by omega) i_42_6 ⟨fun g2 => ?_, fun g => no g⟩
  refine x_aload_n i_42_12 rfl ?_
  refine x_gr i_42_13 ob_0 gr_0_3.1 gr_0_3.2 (rt_0_3 _) ?_
  refine x_iload_n i_42_16 rfl ?_
  refine x_lda i_42_17 ar_120 (by rw [a_in_N (by omega)]; exact g2) (by rw [N_toNat (by omega)]; exact mri fd g2) ?_
  refine x_aload_n i_42_18 rfl ?_
  refine x_gr i_42_19 ob_0 gr_0_0.1 gr_0_0.2 (rt_0_0 _) ?_
  refine x_vh (r := []) (lj := [some _, some _]) i_42_22 w_50 (hbi g2).ob [_] rfl rfl (Nat.le_of_ble_eq_true rfl) (Nat.le_of_ble_eq_true rfl) rfl ?_
  refine c_50 (hbi g2) hb1 (by omega) r (fun M1 C e1 r1 f1 => rt_n ?_)
  refine x_aload_n i_42_25 rfl ?_
  refine x_gr i_42_26 ob_0 gr_0_4.1 gr_0_4.2 (rt_0_4 _) ?_
  refine x_iload_n i_42_29 rfl ?_
  refine n_iconst 1 i_42_30 rfl ?_
  refine n_stz i_42_31 ar_139 (by omega) (by omega) ?_
  refine n_iconst 0 i_42_32 rfl ?_
  refine x_iret i_42_33 rn_42 rfl ?_
  refine k g2 _ ⟨by rw [a_up_def, if_pos ⟨rfl, rfl⟩], Nat.le_refl _, fun _ => ⟨C, e1, r1.same (fun o k h1 h2 => by rw [a_up_def, if_neg (by omega)])⟩⟩ (fun o k h1 h2 => by rw [a_up_def, if_neg h2]; exact f1 o k h1)
theorem e_259 (r : RM M n B) {l1 : Nat} (h1 : l1 < 4294967296) (k0 : ¬ l1 < 2 → ∀ M', RM M' n (a_up B 9 0 0) → FM M M' → Q (some (.int (N 4294967294))) (a_hp sc fd M')) (k : l1 < 2 → ∀ M', RM M' n (a_up B 9 0 0) → IR M' l1 1 (n, B) → (∀ o k, ¬ (o = 170 ∧ k = 0) → ¬ (o = 175 ∧ k = l1) → ¬ (o = 171 ∧ 216 * (l1 + 1) ≤ k ∧ k < 216 * (l1 + 1) + 216) → M' o k = M o k) → Q (some (.int (N 0))) (a_hp sc fd M')) : a_Ex 259 0 [some (.ref 170), some (.int (N l1))] [] (a_hp sc fd M) Q := by
  refine x_aload_n i_259_0 rfl ?_
  refine n_iconst 0 i_259_1 rfl ?_
  refine x_pi i_259_2 ob_170 pf_8_0.1 pf_8_0.2 ?_
  refine x_iload_n i_259_5 rfl ?_
  have r0 : RM (a_up M 170 0 (N 0)) n (a_up B 9 0 0) := r.putg
  have f0 : ∀ o k, ¬ (o = 170 ∧ k = 0) → a_up M 170 0 (N 0) o k = M o k := fun o k h => by rw [a_up_def, if_neg h]
  generalize a_up M 170 0 (N 0) = M0 at r0 f0 ⊢
  refine x_i2l i_259_6 ?_
  refine n_lconst 0 i_259_7 rfl ?_
  refine n_lconst 1 i_259_8 rfl ?_
  refine n_within i_259_9 (Nat.le_of_ble_eq_true rfl) h1 (by omega) (by omega) ⟨fun g1 => ?_, fun g1 => ?_⟩
  · refine x_zneN (by omega) i_259_12 ⟨fun _ => ?_, fun q => absurd q (by omega)⟩
    refine x_aload_n i_259_18 rfl ?_
    refine x_gr i_259_19 ob_170 gr_8_1.1 gr_8_1.2 (rt_170_1 _) ?_
    refine n_iconst 0 i_259_22 rfl ?_
    refine x_aload_n i_259_23 rfl ?_
    refine x_gr i_259_24 ob_170 gr_8_1.1 gr_8_1.2 (rt_170_1 _) ?_
    refine n_sipush 216 i_259_27 rfl ?_
    refine x_iload_n i_259_30 rfl ?_
    refine n_iconst 1 i_259_31 rfl ?_
    refine x_iaddN i_259_32 ?_
    refine x_imulN i_259_33 ?_
    refine x_sh (r := []) (lj := [some _, some _, some _, some _, none]) i_259_34 ws_149 [_, _, _, _] rfl rfl (Nat.le_of_ble_eq_true rfl) (Nat.le_of_ble_eq_true rfl) rfl ?_
    refine c_149 ar_171 ar_171 (by omega) (by omega) (by omega) (by omega) (by omega) (rt_n ?_)
    have hc : ∀ o k, ¬ (o = 171 ∧ 216 * (l1 + 1) ≤ k ∧ k < 216 * (l1 + 1) + 216) → cpr M0 171 0 171 (216 * (l1 + 1)) 216 o k = M0 o k := fun o k h => by unfold cpr; rw [if_neg h]
    have hk : ∀ k, k < 216 → cpr M0 171 0 171 (216 * (l1 + 1)) 216 171 (216 * (l1 + 1) + k) = M0 171 k := fun k hk => by unfold cpr; rw [if_pos (by omega), show 0 + (216 * (l1 + 1) + k - 216 * (l1 + 1)) = k by omega]
    generalize cpr M0 171 0 171 (216 * (l1 + 1)) 216 = M1 at hc hk ⊢
    refine x_aload_n i_259_37 rfl ?_
    refine x_gr i_259_38 ob_170 gr_8_6.1 gr_8_6.2 (rt_170_6 _) ?_
    refine x_iload_n i_259_41 rfl ?_
    refine n_iconst 1 i_259_42 rfl ?_
    refine n_stz i_259_43 ar_175 (by omega) (by omega) ?_
    refine n_iconst 0 i_259_44 rfl ?_
    refine x_iret i_259_45 rn_259 rfl ?_
    have hz : ∀ o k, ¬ (o = 175 ∧ k = l1) → a_up M1 175 l1 (N 1) o k = M1 o k := fun o k h => by rw [a_up_def, if_neg h]
    refine k (by omega) _ (r0.same (fun k hk => (hz _ _ (by omega)).trans (hc _ _ (by omega))) (fun k _ => (hz _ _ (by omega)).trans (hc _ _ (by omega)))) ⟨by rw [a_up_def, if_pos ⟨rfl, rfl⟩], Nat.le_refl _, fun _ => (r0.rs.eq ((EQ.refl B).l 9 0 0 (by omega))).congr (fun k hk' => (hz _ _ (by omega)).trans (hk k hk'))⟩ (fun o k q1 q2 q3 => (hz _ _ q2).trans ((hc _ _ q3).trans (f0 _ _ q1)))
  · refine x_zneN (by omega) i_259_12 ⟨fun q => absurd rfl q, fun _ => ?_⟩
    refine n_bipush 4294967294 i_259_15 rfl ?_
    refine x_iret i_259_17 rn_259 rfl ?_
    exact k0 (by omega) M0 r0 (fun o k h => f0 o k (by omega))
theorem d_43 (r : RC M 1 n A) {l1 g nx sz : Nat} {x : Nat × HA} (h1 : l1 < 4294967296) (hi : l1 < 2 → IC M l1 g x) (p1 : M 19 1 = N nx) (hnx : nx < 11) (k0 : ¬ l1 < 2 → Q (some (.int (N 4294967294))) (a_hp sc fd M)) (k1 : l1 < 2 → g = 0 → Q (some (.int (N 4294967290))) (a_hp sc fd M)) (k : l1 < 2 → g = 1 → ∀ M', (∃ B, EQ B x.2 ∧ RC M' 1 x.1 B) → PS M' nx 0 U → (∀ o k, (o < 1 ∨ 10 ≤ o) → ¬ (o = 19 ∧ k = 2) → M' o k = M o k) → Q (some (.int (N 0))) (a_hp sc fd M')) : a_Ex 43 0 [some (.ref 0), some (.int (N l1))] [] (a_hp sc fd M) Q := by
  have no : ¬ l1 < 2 → a_Ex 43 9 [some (.ref 0), some (.int (N l1))] [] (a_hp sc fd M) Q := fun g => by
    refine n_bipush 4294967294 i_43_9 rfl ?_
    refine x_iret i_43_11 rn_43 rfl ?_
    exact k0 g
  refine x_iload_n i_43_0 rfl ?_
  refine n_zltU h1 i_43_1 ⟨fun g => no (by omega), fun g1 => ?_⟩
  refine x_iload_n i_43_4 rfl ?_
  refine n_iconst 2 i_43_5 rfl ?_
  refine x_iltN (by omega) (by omega) i_43_6 ⟨fun g2 => ?_, fun g => no g⟩
  obtain ⟨i1, i2, i3⟩ := hi g2
  refine x_aload_n i_43_12 rfl ?_
  refine x_gr i_43_13 ob_0 gr_0_4.1 gr_0_4.2 (rt_0_4 _) ?_
  refine x_iload_n i_43_16 rfl ?_
  refine n_ldb (x := g) i_43_17 ar_139 (Or.inr rfl) (by omega) (by omega) i1 ?_
  refine x_zneN (by omega) i_43_18 ⟨fun g3 => ?_, fun g3 => ?_⟩
  · obtain ⟨C, c1, c2⟩ := i3 (by omega)
    refine x_aload_n i_43_24 rfl ?_
    refine x_gr i_43_25 ob_0 gr_0_0.1 gr_0_0.2 (rt_0_0 _) ?_
    refine x_aload_n i_43_28 rfl ?_
    refine x_gr i_43_29 ob_0 gr_0_3.1 gr_0_3.2 (rt_0_3 _) ?_
    refine x_iload_n i_43_32 rfl ?_
    refine x_lda i_43_33 ar_120 (by rw [a_in_N (by omega)]; exact g2) (by rw [N_toNat (by omega)]; exact mri fd g2) ?_
    refine x_vh (r := []) (lj := [some _, some _]) i_43_34 w_50 hb1.ob [_] rfl rfl (Nat.le_of_ble_eq_true rfl) (Nat.le_of_ble_eq_true rfl) rfl ?_
    refine c_50 hb1 (hbi g2) (by omega) c2 (fun M1 D e1 r1 f1 => rt_n ?_)
    refine x_aload_n i_43_37 rfl ?_
    refine x_gr i_43_38 ob_0 gr_0_2.1 gr_0_2.2 (rt_0_2 _) ?_
    refine n_iconst 0 i_43_41 rfl ?_
    refine x_pi i_43_42 ob_19 pf_3_2.1 pf_3_2.2 ?_
    refine n_iconst 0 i_43_45 rfl ?_
    refine x_iret i_43_46 rn_43 rfl ?_
    have hz : ∀ o k, ¬ (o = 19 ∧ k = 2) → a_up M1 19 2 (N 0) o k = M1 o k := fun o k h => by rw [a_up_def, if_neg h]
    refine k g2 (by omega) _ ⟨D, e1.trans c1, r1.same (fun o k h1 h2 => hz o k (by omega))⟩ ⟨(hz _ _ (by omega)).trans ((f1 _ _ (by omega)).trans p1), by rw [a_up_def, if_pos ⟨rfl, rfl⟩], hnx, by omega, fun i hi => absurd hi (Nat.not_lt_zero _)⟩ (fun o k q1 q2 => (hz o k q2).trans (f1 o k (by omega)))
  · skip
    refine n_bipush 4294967290 i_43_21 rfl ?_
    refine x_iret i_43_23 rn_43 rfl ?_
    exact k1 g2 g3
theorem e_260 (r : RM M n B) (d5 : ∃ z, M 170 5 = N z) {l1 g : Nat} {x : Nat × HA} (h1 : l1 < 4294967296) (hi : l1 < 2 → IR M l1 g x) (k0 : ¬ l1 < 2 → ∀ M', RM M' n (a_up B 9 0 0) → (∀ o k, ¬ (o = 170 ∧ k = 0) → M' o k = M o k) → Q (some (.int (N 4294967294))) (a_hp sc fd M')) (k1 : l1 < 2 → g = 0 → ∀ M', RM M' n (a_up B 9 0 0) → (∀ o k, ¬ (o = 170 ∧ k = 0) → M' o k = M o k) → Q (some (.int (N 4294967290))) (a_hp sc fd M')) (k : l1 < 2 → g = 1 → ∀ M' C, EQ C x.2 → RM M' x.1 C → DS M' 0 U → (∀ o k, ¬ (o = 170 ∧ (k = 0 ∨ k = 5)) → ¬ (o = 171 ∧ k < 216) → M' o k = M o k) → Q (some (.int (N 0))) (a_hp sc fd M')) : a_Ex 260 0 [some (.ref 170), some (.int (N l1))] [] (a_hp sc fd M) Q := by
  refine x_aload_n i_260_0 rfl ?_
  refine n_iconst 0 i_260_1 rfl ?_
  refine x_pi i_260_2 ob_170 pf_8_0.1 pf_8_0.2 ?_
  refine x_iload_n i_260_5 rfl ?_
  have r0 : RM (a_up M 170 0 (N 0)) n (a_up B 9 0 0) := r.putg
  have f0 : ∀ o k, ¬ (o = 170 ∧ k = 0) → a_up M 170 0 (N 0) o k = M o k := fun o k h => by rw [a_up_def, if_neg h]
  generalize a_up M 170 0 (N 0) = M0 at r0 f0 ⊢
  refine x_i2l i_260_6 ?_
  refine n_lconst 0 i_260_7 rfl ?_
  refine n_lconst 1 i_260_8 rfl ?_
  refine n_within i_260_9 (Nat.le_of_ble_eq_true rfl) h1 (by omega) (by omega) ⟨fun g1 => ?_, fun g1 => ?_⟩
  · refine x_zneN (by omega) i_260_12 ⟨fun _ => ?_, fun q => absurd q (by omega)⟩
    obtain ⟨i1, i2, i3⟩ := hi (by omega)
    refine x_aload_n i_260_18 rfl ?_
    refine x_gr i_260_19 ob_170 gr_8_6.1 gr_8_6.2 (rt_170_6 _) ?_
    refine x_iload_n i_260_22 rfl ?_
    refine n_ldb (x := g) i_260_23 ar_175 (Or.inr rfl) (by omega) (by omega) ((f0 _ _ (by omega)).trans i1) ?_
    refine x_zneN (by omega) i_260_24 ⟨fun g3 => ?_, fun g3 => ?_⟩
    · have ri := i3 (by omega)
      refine x_aload_n i_260_30 rfl ?_
      refine x_gr i_260_31 ob_170 gr_8_1.1 gr_8_1.2 (rt_170_1 _) ?_
      refine n_sipush 216 i_260_34 rfl ?_
      refine x_iload_n i_260_37 rfl ?_
      refine n_iconst 1 i_260_38 rfl ?_
      refine x_iaddN i_260_39 ?_
      refine x_imulN i_260_40 ?_
      refine x_aload_n i_260_41 rfl ?_
      refine x_gr i_260_42 ob_170 gr_8_1.1 gr_8_1.2 (rt_170_1 _) ?_
      refine n_iconst 0 i_260_45 rfl ?_
      refine x_sh (r := []) (lj := [some _, some _, some _, some _, none]) i_260_46 ws_149 [_, _, _, _] rfl rfl (Nat.le_of_ble_eq_true rfl) (Nat.le_of_ble_eq_true rfl) rfl ?_
      refine c_149 ar_171 ar_171 (by omega) (by omega) (by omega) (by omega) (by omega) (rt_n ?_)
      have hc : ∀ o k, ¬ (o = 171 ∧ k < 216) → cpr M0 171 (216 * (l1 + 1)) 171 0 216 o k = M0 o k := fun o k h => by unfold cpr; rw [if_neg (by omega)]
      have hk : ∀ k, k < 216 → cpr M0 171 (216 * (l1 + 1)) 171 0 216 171 k = M0 171 (216 * (l1 + 1) + k) := fun k hk => by unfold cpr; rw [if_pos (by omega), show k - 0 = k by omega]
      generalize cpr M0 171 (216 * (l1 + 1)) 171 0 216 = M1 at hc hk ⊢
      refine x_aload_n i_260_49 rfl ?_
      refine n_iconst 0 i_260_50 rfl ?_
      refine x_pi i_260_51 ob_170 pf_8_5.1 pf_8_5.2 ?_
      refine n_iconst 0 i_260_54 rfl ?_
      refine x_iret i_260_55 rn_260 rfl ?_
      have hz : ∀ o k, ¬ (o = 170 ∧ k = 5) → a_up M1 170 5 (N 0) o k = M1 o k := fun o k h => by rw [a_up_def, if_neg h]
      have rs2 : RS (a_up M1 170 5 (N 0) 171) x.1 x.2 := ri.congr (fun k hk' => (hz _ _ (by omega)).trans ((hk k hk').trans (f0 _ _ (by omega))))
      obtain ⟨C, e1, rC⟩ := rs2.rm
      exact k (by omega) (by omega) _ C e1.symm rC ⟨by rw [a_up_def, if_pos ⟨rfl, rfl⟩], by omega, fun i hi => absurd hi (Nat.not_lt_zero _)⟩ (fun o k q1 q2 => (hz o k (by omega)).trans ((hc o k q2).trans (f0 o k (by omega))))
    · skip
      refine n_bipush 4294967290 i_260_27 rfl ?_
      refine x_iret i_260_29 rn_260 rfl ?_
      exact k1 (by omega) g3 M0 r0 f0
  · refine x_zneN (by omega) i_260_12 ⟨fun q => absurd rfl q, fun _ => ?_⟩
    refine n_bipush 4294967294 i_260_15 rfl ?_
    refine x_iret i_260_17 rn_260 rfl ?_
    exact k0 (by omega) M0 r0 f0
theorem d_41 (r : RC M 1 n A) (p : PS M nx sz U) {l1 : Nat} (h1 : l1 < 4294967296) (k0 : ¬ (1 ≤ l1 ∧ l1 ≤ sz) → Q (some (.int (N 4294967293))) (a_hp sc fd M)) (k : 1 ≤ l1 ∧ l1 ≤ sz → ∀ M', (∃ B, EQ B (U (sz - l1)).2 ∧ RC M' 1 (U (sz - l1)).1 B) → PS M' ((nx + 11 - l1) % 11) (sz - l1) U → (∀ o k, ¬ o = 19 → (o < 1 ∨ 10 ≤ o) → M' o k = M o k) → Q (some (.int (N (sz - l1)))) (a_hp sc fd M')) : a_Ex 41 0 [some (.ref 0), some (.int (N l1))] [] (a_hp sc fd M) Q := by
  have p2 := p.2.1
  have p4 := p.2.2.2.1
  have no : ¬ (1 ≤ l1 ∧ l1 ≤ sz) → a_Ex 41 16 [some (.ref 0), some (.int (N l1))] [] (a_hp sc fd M) Q := fun g => by
    refine n_bipush 4294967293 i_41_16 rfl ?_
    refine x_iret i_41_18 rn_41 rfl ?_
    exact k0 g
  refine x_iload_n i_41_0 rfl ?_
  refine n_iconst 1 i_41_1 rfl ?_
  refine n_iltU h1 (by omega) i_41_2 ⟨fun g => no (by omega), fun g1 => ?_⟩
  refine x_iload_n i_41_5 rfl ?_
  refine x_aload_n i_41_6 rfl ?_
  refine x_gr i_41_7 ob_0 gr_0_2.1 gr_0_2.2 (rt_0_2 _) ?_
  refine n_gi (x := sz) i_41_10 ob_19 gf_3_2.1 gf_3_2.2 p2 ?_
  refine x_ileN (by omega) (by omega) i_41_13 ⟨fun g2 => ?_, fun g => no (by omega)⟩
  refine x_aload_n i_41_19 rfl ?_
  refine x_gr i_41_20 ob_0 gr_0_2.1 gr_0_2.2 (rt_0_2 _) ?_
  refine x_aload_n i_41_23 rfl ?_
  refine x_gr i_41_24 ob_0 gr_0_0.1 gr_0_0.2 (rt_0_0 _) ?_
  refine x_iload_n i_41_27 rfl ?_
  refine x_vh (r := []) (lj := [some _, some _, some _]) i_41_28 w_107 ob_19 [_, _] rfl rfl (Nat.le_of_ble_eq_true rfl) (Nat.le_of_ble_eq_true rfl) rfl ?_
  refine c_107 (by omega) p (fun M1 r1 q1 f1 => rt_n ?_)
  refine x_aload_n i_41_31 rfl ?_
  refine x_gr i_41_32 ob_0 gr_0_2.1 gr_0_2.2 (rt_0_2 _) ?_
  refine n_gi (x := sz - l1) i_41_35 ob_19 gf_3_2.1 gf_3_2.2 q1.2.1 ?_
  refine x_iret i_41_38 rn_41 rfl ?_
  exact k (by omega) M1 r1 q1 f1
theorem e_258 (r : RM M n B) (d : DS M sz U) {l1 : Nat} (h1 : l1 < 4294967296) (k0 : ¬ (1 ≤ l1 ∧ l1 ≤ sz) → ∀ M', RM M' n (a_up B 9 0 0) → DS M' sz U → (∀ o k, ¬ (o = 170 ∧ k = 0) → M' o k = M o k) → Q (some (.int (N 4294967293))) (a_hp sc fd M')) (k : 1 ≤ l1 ∧ l1 ≤ sz → ∀ M' C, EQ C (U (sz - l1)).2 → RM M' (U (sz - l1)).1 C → DS M' (sz - l1) U → (∀ o k, ¬ (o = 170 ∧ (k = 0 ∨ k = 5)) → ¬ (o = 171 ∧ k < 216) → M' o k = M o k) → Q (some (.int (N (sz - l1)))) (a_hp sc fd M')) : a_Ex 258 0 [some (.ref 170), some (.int (N l1))] [] (a_hp sc fd M) Q := by
  obtain ⟨d5, ds, dd⟩ := d
  refine x_aload_n i_258_0 rfl ?_
  refine n_iconst 0 i_258_1 rfl ?_
  refine x_pi i_258_2 ob_170 pf_8_0.1 pf_8_0.2 ?_
  refine x_iload_n i_258_5 rfl ?_
  have r0 : RM (a_up M 170 0 (N 0)) n (a_up B 9 0 0) := r.putg
  have f0 : ∀ o k, ¬ (o = 170 ∧ k = 0) → a_up M 170 0 (N 0) o k = M o k := fun o k h => by rw [a_up_def, if_neg h]
  generalize a_up M 170 0 (N 0) = M0 at r0 f0 ⊢
  have d0 : DS M0 sz U := ⟨(f0 _ _ (by omega)).trans d5, ds, fun i hi => (dd i hi).congr (fun k _ => f0 _ _ (by omega))⟩
  have no : ¬ (1 ≤ l1 ∧ l1 ≤ sz) → a_Ex 258 25 [some (.ref 170), some (.int (N l1))] [] (a_hp sc fd M0) Q := fun g => by
    refine n_bipush 4294967293 i_258_25 rfl ?_
    refine x_iret i_258_27 rn_258 rfl ?_
    exact k0 g M0 r0 d0 f0
  refine x_i2l i_258_6 ?_
  refine n_lconst 1 i_258_7 rfl ?_
  refine n_ldc2 10 i_258_8 rfl ?_
  refine n_within i_258_11 (Nat.le_of_ble_eq_true rfl) h1 (by omega) (by omega) ⟨fun g1 => ?_, fun g1 => ?_⟩
  · refine x_zeqN (by omega) i_258_14 ⟨fun q => absurd q (by omega), fun _ => ?_⟩
    refine x_iload_n i_258_17 rfl ?_
    refine x_aload_n i_258_18 rfl ?_
    refine n_gi (x := sz) i_258_19 ob_170 gf_8_5.1 gf_8_5.2 d0.1 ?_
    refine x_ileN (by omega) (by omega) i_258_22 ⟨fun g2 => ?_, fun g => no (by omega)⟩
    refine x_aload_n i_258_28 rfl ?_
    refine x_dup i_258_29 rfl ?_
    refine n_gi (x := sz) i_258_30 ob_170 gf_8_5.1 gf_8_5.2 d0.1 ?_
    refine x_iload_n i_258_33 rfl ?_
    refine x_isubN (by omega) i_258_34 ?_
    refine x_pi i_258_35 ob_170 pf_8_5.1 pf_8_5.2 ?_
    refine x_aload_n i_258_38 rfl ?_
    refine x_gr i_258_39 ob_170 gr_8_2.1 gr_8_2.2 (rt_170_2 _) ?_
    refine n_sipush 216 i_258_42 rfl ?_
    refine x_aload_n i_258_45 rfl ?_
    refine n_gi (x := sz - l1) i_258_46 ob_170 gf_8_5.1 gf_8_5.2 (by rw [a_up_def, if_pos ⟨rfl, rfl⟩]) ?_
    refine x_imulN i_258_49 ?_
    refine x_aload_n i_258_50 rfl ?_
    refine x_gr i_258_51 ob_170 gr_8_1.1 gr_8_1.2 (rt_170_1 _) ?_
    refine n_iconst 0 i_258_54 rfl ?_
    refine x_sh (r := []) (lj := [some _, some _, some _, some _, none]) i_258_55 ws_149 [_, _, _, _] rfl rfl (Nat.le_of_ble_eq_true rfl) (Nat.le_of_ble_eq_true rfl) rfl ?_
    refine c_149 ar_172 ar_171 (by omega) (by omega) (by omega) (by omega) (by omega) (rt_n ?_)
    have hz : ∀ o k, ¬ (o = 170 ∧ k = 5) → a_up M0 170 5 (N (sz - l1)) o k = M0 o k := fun o k h => by rw [a_up_def, if_neg h]
    have hz5 : a_up M0 170 5 (N (sz - l1)) 170 5 = N (sz - l1) := by rw [a_up_def, if_pos ⟨rfl, rfl⟩]
    generalize a_up M0 170 5 (N (sz - l1)) = M1 at hz hz5 ⊢
    have hc : ∀ o k, ¬ (o = 171 ∧ k < 216) → cpr M1 172 (216 * (sz - l1)) 171 0 216 o k = M1 o k := fun o k h => by unfold cpr; rw [if_neg (by omega)]
    have hk : ∀ k, k < 216 → cpr M1 172 (216 * (sz - l1)) 171 0 216 171 k = M1 172 (216 * (sz - l1) + k) := fun k hk => by unfold cpr; rw [if_pos (by omega), show k - 0 = k by omega]
    generalize cpr M1 172 (216 * (sz - l1)) 171 0 216 = M2 at hc hk ⊢
    refine x_aload_n i_258_58 rfl ?_
    refine n_gi (x := sz - l1) i_258_59 ob_170 gf_8_5.1 gf_8_5.2 ((hc _ _ (by omega)).trans hz5) ?_
    refine x_iret i_258_62 rn_258 rfl ?_
    have rs2 : RS (M2 171) (U (sz - l1)).1 (U (sz - l1)).2 := (d0.2.2 (sz - l1) (by omega)).congr (fun k hk' => (hk k hk').trans (hz _ _ (by omega)))
    obtain ⟨C, e1, rC⟩ := rs2.rm
    exact k (by omega) M2 C e1.symm rC ⟨(hc _ _ (by omega)).trans hz5, by omega, fun i hi => (d0.2.2 i (by omega)).congr (fun k _ => (hc _ _ (by omega)).trans (hz _ _ (by omega)))⟩ (fun o k q1 q2 => (hc o k q2).trans ((hz o k (by omega)).trans (f0 o k (by omega))))
  · refine x_zeqN (by omega) i_258_14 ⟨fun _ => no (by omega), fun q => absurd rfl q⟩
end IMG
