/-! the class's past -/
def s_264 (l0 : Nat) (l1 : Nat) : Nat :=
  (if l1 < l0 then l1 else l0)
theorem c_264 {sc : a_Sc} {fd : Nat} {M : a_Mm} {Q : Option Value → a_Hp → Prop} {l0 l1 : Nat} (hl0 : l0 ≤ 100) (hl1 : l1 ≤ 100) (k : KP 100 Q (a_hp sc fd M) (s_264 l0 l1)) : a_Ex 264 0 [some (.int (N l0)), some (.int (N l1))] [] (a_hp sc fd M) Q := by
  unfold s_264 at k
  refine x_iload_n i_264_0 rfl ?_
  refine x_iload_n i_264_1 rfl ?_
  refine x_igtN (by omega) (by omega) i_264_2 ⟨fun g1 => ?_, fun g1 => ?_⟩
  · have k := kp g1 k
    refine x_iload_n i_264_9 rfl ?_
    refine x_iret i_264_10 rn_264 rfl ?_
    exact k (show l1 ≤ 100 by omega)
  · have k := kn g1 k
    refine x_iload_n i_264_5 rfl ?_
    refine x_goto i_264_6 ?_
    refine x_iret i_264_10 rn_264 rfl ?_
    exact k (show l0 ≤ 100 by omega)
theorem s264 (a b : Nat) : s_264 a b = min a b := by
  unfold s_264
  split <;> omega
def fmod (a k : Nat) : Int32 := N a - N k
theorem fmod_ok : ∀ a, a < 11 → ∀ k, k < 11 → (let x := N a - N k; let m := x - x / N 11 * N 11; (if (0 ≤ x ^^^ N 11) then m else if m = 0 then m else m + N 11) = N ((a + 11 - k) % 11)) := by decide +kernel
section CPS
variable {sc : a_Sc} {fd : Nat} {M : a_Mm} {A : HA} {Q : Option Value → a_Hp → Prop} {n : Nat}
theorem c_266 {a k : Nat} (ha : a < 11) (hk : k < 11) (K : Q (some (.int (N ((a + 11 - k) % 11)))) (a_hp sc fd M)) : a_Ex 266 0 [some (.int (N a - N k)), some (.int (N 11)), none] [] (a_hp sc fd M) Q := by
  have e := fmod_ok a ha k hk
  dsimp only at e
  generalize N a - N k = x at e ⊢
  refine x_iload_n i_266_0 rfl ?_
  refine x_iload_n i_266_1 rfl ?_
  refine x_irem i_266_2 (by decide +kernel) ?_
  refine x_istore_n i_266_3 rfl rfl ?_
  refine x_iload_n i_266_4 rfl ?_
  refine x_iload_n i_266_5 rfl ?_
  refine x_ixor i_266_6 ?_
  refine x_zge i_266_7 ⟨fun g => ?_, fun g => ?_⟩
  · rw [if_pos g] at e
    refine x_iload_n i_266_18 rfl ?_
    refine x_iret i_266_19 rn_266 rfl ?_
    rw [e]; exact K
  · rw [if_neg g] at e
    refine x_iload_n i_266_10 rfl ?_
    refine x_zeq i_266_11 ⟨fun g2 => ?_, fun g2 => ?_⟩
    · rw [if_pos g2] at e
      refine x_iload_n i_266_18 rfl ?_
      refine x_iret i_266_19 rn_266 rfl ?_
      rw [e]; exact K
    · rw [if_neg g2] at e
      refine x_iload_n i_266_14 rfl ?_
      refine x_iload_n i_266_15 rfl ?_
      refine x_iadd i_266_16 ?_
      refine x_iret i_266_17 rn_266 rfl ?_
      rw [e]; exact K
/-- what the class can undo: its halls lie round and round -/
def PS (M : a_Mm) (nx sz : Nat) (U : Nat → Nat × HA) : Prop := M 19 1 = N nx ∧ M 19 2 = N sz ∧ nx < 11 ∧ sz ≤ 10 ∧ ∀ i, i < sz → ∃ B, EQ B (U i).2 ∧ RC M (21 + 9 * ((nx + 11 - sz + i) % 11)) (U i).1 B
theorem hbp {j : Nat} (h : j < 11) : HB (21 + 9 * j) := (by unfold HB; decide : ∀ j, j < 11 → HB (21 + 9 * j)) j h
theorem mrp (fd : Nat) {j : Nat} (h : j < 11) : a_mrf fd 20 j = some (21 + 9 * j) := by
  have := (a_hall20 (x := N j) fd (by rw [a_in_N (by omega)]; exact h)).1
  rw [N_toNat (by omega)] at this
  exact this
theorem c_105 {nx sz : Nat} {U : Nat → Nat × HA} (r : RC M 1 n A) (p : PS M nx sz U) (k : ∀ M', RC M' 1 n A → PS M' nx sz U → (∃ B, EQ B A ∧ RC M' (21 + 9 * nx) n B) → (∀ o k, (o < 21 ∨ 120 ≤ o) → M' o k = M o k) → Q none (a_hp sc fd M')) : a_Ex 105 0 [some (.ref 19), some (.ref 1)] [] (a_hp sc fd M) Q := by
  obtain ⟨p1, p2, p3, p4, p5⟩ := p
  refine x_aload_n i_105_0 rfl ?_
  refine x_gr i_105_1 ob_19 gr_3_0.1 gr_3_0.2 (rt_19_0 _) ?_
  refine x_aload_n i_105_4 rfl ?_
  refine n_gi (x := nx) i_105_5 ob_19 gf_3_1.1 gf_3_1.2 p1 ?_
  refine x_lda i_105_8 ar_20 (by rw [a_in_N (by omega)]; exact p3) (by rw [N_toNat (by omega)]; exact mrp fd p3) ?_
  refine x_aload_n i_105_9 rfl ?_
  refine x_vh (r := []) (lj := [some _, some _]) i_105_10 w_50 (hbp p3).ob [_] rfl rfl (Nat.le_of_ble_eq_true rfl) (Nat.le_of_ble_eq_true rfl) rfl ?_
  refine c_50 (hbp p3) hb1 (by omega) r (fun M' B e r' f => rt_n ?_)
  refine x_vret i_105_13 rn_105 ?_
  refine k M' (r.same (fun o k h1 h2 => f o k (by omega))) ⟨(f _ _ (by omega)).trans p1, (f _ _ (by omega)).trans p2, p3, p4, fun i hi => ?_⟩ ⟨B, e, r'⟩ (fun o k h => f o k (by omega))
  obtain ⟨C, c1, c2⟩ := p5 i hi
  exact ⟨C, c1, c2.same (fun o k h1 h2 => f o k (by omega))⟩
theorem c_106 {nx sz v : Nat} {U : Nat → Nat × HA} (hv : v < 4294967296) (p : PS M nx sz U) (hs : ∃ B, EQ B A ∧ RC M (21 + 9 * nx) n B) (k : ∀ M', (if v < 2147483648 then PS M' ((nx + 1) % 11) (pss sz) (psh U sz (n, A)) else PS M' nx sz U) → (∀ o k, ¬ o = 19 → M' o k = M o k) → Q (some (.int (N v))) (a_hp sc fd M')) : a_Ex 106 0 [some (.ref 19), some (.int (N v))] [] (a_hp sc fd M) Q := by
  have p0 := p
  obtain ⟨p1, p2, p3, p4, p5⟩ := p
  refine x_iload_n i_106_0 rfl ?_
  refine n_zltU hv i_106_1 ⟨fun g => ?_, fun g => ?_⟩
  · refine x_iload_n i_106_32 rfl ?_
    refine x_iret i_106_33 rn_106 rfl ?_
    exact k M (by rw [if_neg (by omega)]; exact p0) (fun _ _ _ => rfl)
  · skip
    refine x_aload_n i_106_4 rfl ?_
    refine x_aload_n i_106_5 rfl ?_
    refine n_gi (x := nx) i_106_6 ob_19 gf_3_1.1 gf_3_1.2 p1 ?_
    refine n_iconst 1 i_106_9 rfl ?_
    refine x_iaddN i_106_10 ?_
    refine n_bipush 11 i_106_11 rfl ?_
    refine x_iremN (by omega) (by omega) (by omega) i_106_13 ?_
    refine x_pi i_106_14 ob_19 pf_3_1.1 pf_3_1.2 ?_
    refine x_aload_n i_106_17 rfl ?_
    refine x_aload_n i_106_18 rfl ?_
    refine n_gi (x := sz) i_106_19 ob_19 gf_3_2.1 gf_3_2.2 (by rw [a_up_def, if_neg (by omega)]; exact p2) ?_
    refine n_iconst 1 i_106_22 rfl ?_
    refine x_iaddN i_106_23 ?_
    refine n_bipush 10 i_106_24 rfl ?_
    refine x_sh (r := [_]) (lj := [some _, some _]) i_106_26 ws_264 [_, _] rfl rfl (Nat.le_of_ble_eq_true rfl) (Nat.le_of_ble_eq_true rfl) rfl ?_
    refine c_264 (by omega) (by omega) (fun _ => rt_i ?_)
    rw [s264]
    refine x_pi i_106_29 ob_19 pf_3_2.1 pf_3_2.2 ?_
    refine x_iload_n i_106_32 rfl ?_
    refine x_iret i_106_33 rn_106 rfl ?_
    refine k _ ?_ (fun o k h => by rw [a_up_def, if_neg (by omega), a_up_def, if_neg (by omega)])
    rw [if_pos (by omega)]
    have hsame : ∀ o, ¬ o = 19 → ∀ k, a_up (a_up M 19 1 (N ((nx + 1) % 11))) 19 2 (N (min (sz + 1) 10)) o k = M o k := fun o h k => by rw [a_up_def, if_neg (by omega), a_up_def, if_neg (by omega)]
    refine ⟨by rw [a_up_def, if_neg (by omega), a_up_def, if_pos ⟨rfl, rfl⟩], ?_, by omega, ?_, fun i hi => ?_⟩
    · rw [a_up_def, if_pos ⟨rfl, rfl⟩, show min (sz + 1) 10 = pss sz by unfold pss; split <;> omega]
    · unfold pss; split <;> omega
    · unfold pss at hi
      have new : ∀ B, RC M (21 + 9 * nx) n B → ∀ j, j = nx → RC (a_up (a_up M 19 1 (N ((nx + 1) % 11))) 19 2 (N (min (sz + 1) 10))) (21 + 9 * j) n B := fun B rB j e => by
        subst e; exact rB.same (fun o k h1 h2 => hsame o (by omega) k)
      have old : ∀ i', i' < sz → ∀ j, j = (nx + 11 - sz + i') % 11 → ∃ B, EQ B (U i').2 ∧ RC (a_up (a_up M 19 1 (N ((nx + 1) % 11))) 19 2 (N (min (sz + 1) 10))) (21 + 9 * j) (U i').1 B := fun i' h j e => by
        obtain ⟨B, e1, rB⟩ := p5 i' h
        subst e
        exact ⟨B, e1, rB.same (fun o k h1 h2 => hsame o (by omega) k)⟩
      obtain ⟨B, e1, rB⟩ := hs
      unfold psh pss
      by_cases c : sz < 10
      · rw [if_pos c] at hi
        rw [if_pos c, if_pos c]
        by_cases d : i = sz
        · rw [if_pos d]; exact ⟨B, e1, new B rB _ (by omega)⟩
        · rw [if_neg d]; exact old i (by omega) _ (by omega)
      · rw [if_neg c] at hi
        rw [if_neg c, if_neg c]
        by_cases d : i = 9
        · rw [if_pos d]; exact ⟨B, e1, new B rB _ (by omega)⟩
        · rw [if_neg d]; exact old (i + 1) (by omega) _ (by omega)
theorem c_107 {nx sz j : Nat} {U : Nat → Nat × HA} (hj : 1 ≤ j ∧ j ≤ sz) (p : PS M nx sz U) (k : ∀ M', (∃ B, EQ B (U (sz - j)).2 ∧ RC M' 1 (U (sz - j)).1 B) → PS M' ((nx + 11 - j) % 11) (sz - j) U → (∀ o k, ¬ o = 19 → (o < 1 ∨ 10 ≤ o) → M' o k = M o k) → Q none (a_hp sc fd M')) : a_Ex 107 0 [some (.ref 19), some (.ref 1), some (.int (N j))] [] (a_hp sc fd M) Q := by
  obtain ⟨p1, p2, p3, p4, p5⟩ := p
  have hm : (nx + 11 - j) % 11 < 11 := Nat.mod_lt _ (by omega)
  refine x_aload_n i_107_0 rfl ?_
  refine x_aload_n i_107_1 rfl ?_
  refine n_gi (x := nx) i_107_2 ob_19 gf_3_1.1 gf_3_1.2 p1 ?_
  refine x_iload_n i_107_5 rfl ?_
  refine x_isub i_107_6 ?_
  refine n_bipush 11 i_107_7 rfl ?_
  refine x_sh (r := [_]) (lj := [some _, some _, none]) i_107_9 ws_266 [_, _] rfl rfl (Nat.le_of_ble_eq_true rfl) (Nat.le_of_ble_eq_true rfl) rfl ?_
  refine c_266 p3 (by omega) (rt_i ?_)
  refine x_pi i_107_12 ob_19 pf_3_1.1 pf_3_1.2 ?_
  refine x_aload_n i_107_15 rfl ?_
  refine x_dup i_107_16 rfl ?_
  refine n_gi (x := sz) i_107_17 ob_19 gf_3_2.1 gf_3_2.2 (by rw [a_up_def, if_neg (by omega)]; exact p2) ?_
  refine x_iload_n i_107_20 rfl ?_
  refine x_isubN (by omega) i_107_21 ?_
  refine x_pi i_107_22 ob_19 pf_3_2.1 pf_3_2.2 ?_
  refine x_aload_n i_107_25 rfl ?_
  refine x_aload_n i_107_26 rfl ?_
  refine x_gr i_107_27 ob_19 gr_3_0.1 gr_3_0.2 (rt_19_0 _) ?_
  refine x_aload_n i_107_30 rfl ?_
  refine n_gi (x := (nx + 11 - j) % 11) i_107_31 ob_19 gf_3_1.1 gf_3_1.2 (by rw [a_up_def, if_neg (by omega), a_up_def, if_pos ⟨rfl, rfl⟩]) ?_
  refine x_lda i_107_34 ar_20 (by rw [a_in_N (by omega)]; exact hm) (by rw [N_toNat (by omega)]; exact mrp fd hm) ?_
  refine x_vh (r := []) (lj := [some _, some _]) i_107_35 w_50 hb1.ob [_] rfl rfl (Nat.le_of_ble_eq_true rfl) (Nat.le_of_ble_eq_true rfl) rfl ?_
  have hsame : ∀ o, ¬ o = 19 → ∀ k, a_up (a_up M 19 1 (N ((nx + 11 - j) % 11))) 19 2 (N (sz - j)) o k = M o k := fun o h k => by rw [a_up_def, if_neg (by omega), a_up_def, if_neg (by omega)]
  obtain ⟨B, e1, rB⟩ := p5 (sz - j) (by omega)
  rw [show (nx + 11 - sz + (sz - j)) % 11 = (nx + 11 - j) % 11 by omega] at rB
  refine c_50 hb1 (hbp hm) (by omega) (rB.same (fun o k h1 h2 => hsame o (by omega) k)) (fun M' C e2 rC f => rt_n ?_)
  refine x_vret i_107_38 rn_107 ?_
  refine k M' ⟨C, e2.trans e1, rC⟩ ⟨?_, ?_, hm, by omega, fun i hi => ?_⟩ (fun o k h1 h2 => (f o k (by omega)).trans (hsame o h1 k))
  · rw [f _ _ (by omega), a_up_def, if_neg (by omega), a_up_def, if_pos ⟨rfl, rfl⟩]
  · rw [f _ _ (by omega), a_up_def, if_pos ⟨rfl, rfl⟩]
  · obtain ⟨D, d1, d2⟩ := p5 i (by omega)
    rw [show ((nx + 11 - j) % 11 + 11 - (sz - j) + i) % 11 = (nx + 11 - sz + i) % 11 by omega]
    exact ⟨D, d1, d2.same (fun o k h1 h2 => (f o k (by omega)).trans (hsame o (by omega) k))⟩
end CPS
