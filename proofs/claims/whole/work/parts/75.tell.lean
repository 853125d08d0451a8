/-! the calls that tell: what was is kept, the act is done, and it can be undone, if it wasn't refused; by program -/
def FP (M M' : a_Mm) : Prop := ∀ o k, (o < 1 ∨ (10 ≤ o ∧ o < 19) ∨ 120 ≤ o) → M' o k = M o k
def FQ (M M' : a_Mm) : Prop := ∀ o k, (o < 170 ∨ (o = 170 ∧ ¬ k = 0 ∧ ¬ k = 5 ∧ (k < 7 ∨ 10 < k)) ∨ (o = 171 ∧ 216 ≤ k) ∨ o = 173 ∨ 174 < o) → M' o k = M o k
theorem PS.same {M M' : a_Mm} {nx sz : Nat} {U : Nat → Nat × HA} (p : PS M nx sz U) (h : ∀ o k, 19 ≤ o → o < 120 → M' o k = M o k) : PS M' nx sz U := by
  obtain ⟨p1, p2, p3, p4, p5⟩ := p
  refine ⟨(h 19 1 (by omega) (by omega)).trans p1, (h 19 2 (by omega) (by omega)).trans p2, p3, p4, fun i hi => ?_⟩
  obtain ⟨B, b1, b2⟩ := p5 i hi
  exact ⟨B, b1, b2.same (fun o k h1 h2 => h o k (by omega) (by omega))⟩
theorem DS.same {M M' : a_Mm} {sz : Nat} {U : Nat → Nat × HA} (d : DS M sz U) (h : ∀ k, M' 172 k = M 172 k) (h5 : M' 170 5 = M 170 5) : DS M' sz U := ⟨h5.trans d.1, d.2.1, fun i hi => (d.2.2 i hi).congr (fun k _ => h _)⟩
section TEL
variable {sc : a_Sc} {fd : Nat} {M : a_Mm} {A B : HA} {Q : Option Value → a_Hp → Prop} {n nx sz : Nat} {U : Nat → Nat × HA}
theorem d_2 (r : RC M 1 n A) (p : PS M nx sz U) {l1 l2 : Nat} (h1 : l1 < 4294967296) (h2 : l2 < 4294967296) (k : ∀ M', RC M' 1 n (s_52 n A l1 l2).2 → (if (s_52 n A l1 l2).1 < 2147483648 then PS M' ((nx + 1) % 11) (pss sz) (psh U sz (n, A)) else PS M' nx sz U) → FP M M' → Q (some (.int (N (s_52 n A l1 l2).1))) (a_hp sc fd M')) : a_Ex 2 0 [some (.ref 0), some (.int (N l1)), some (.int (N l2))] [] (a_hp sc fd M) Q := by
  refine x_aload_n i_2_0 rfl ?_
  refine x_gr i_2_1 ob_0 gr_0_2.1 gr_0_2.2 (rt_0_2 _) ?_
  refine x_aload_n i_2_4 rfl ?_
  refine x_gr i_2_5 ob_0 gr_0_0.1 gr_0_0.2 (rt_0_0 _) ?_
  refine x_vh (r := []) (lj := [some _, some _]) i_2_8 w_105 ob_19 [_] rfl rfl (Nat.le_of_ble_eq_true rfl) (Nat.le_of_ble_eq_true rfl) rfl ?_
  refine c_105 r p (fun M1 r1 p1 s1 f1 => rt_n ?_)
  refine x_aload_n i_2_11 rfl ?_
  refine x_gr i_2_12 ob_0 gr_0_2.1 gr_0_2.2 (rt_0_2 _) ?_
  refine x_aload_n i_2_15 rfl ?_
  refine x_gr i_2_16 ob_0 gr_0_0.1 gr_0_0.2 (rt_0_0 _) ?_
  refine x_iload_n i_2_19 rfl ?_
  refine x_iload_n i_2_20 rfl ?_
  refine x_vh (r := [_]) (lj := [some _, some _, some _, none]) i_2_21 w_52 hb1.ob [_, _] rfl rfl (Nat.le_of_ble_eq_true rfl) (Nat.le_of_ble_eq_true rfl) rfl ?_
  refine c_52 hb1 r1 (by omega) (by omega) (fun q M2 r2 f2 => rt_i ?_)
  refine x_vh (r := []) (lj := [some _, some _]) i_2_24 w_106 ob_19 [_] rfl rfl (Nat.le_of_ble_eq_true rfl) (Nat.le_of_ble_eq_true rfl) rfl ?_
  refine c_106 (n := n) (A := A) (by omega) (p1.same (fun o k h1 h2 => f2 o k (by omega))) ?_ (fun M3 p3 f3 => rt_i ?_)
  · obtain ⟨C, c1, c2⟩ := s1
    exact ⟨C, c1, c2.same (fun o k h1 h2 => f2 o k (by omega))⟩
  refine x_iret i_2_27 rn_2 rfl ?_
  exact k M3 (r2.same (fun o k h1 h2 => f3 o k (by omega))) p3 (fun o k h => (f3 o k (by omega)).trans ((f2 o k (by omega)).trans (f1 o k (by omega))))
theorem d_3 (r : RC M 1 n A) (p : PS M nx sz U) {l1 l2 : Nat} (h1 : l1 < 4294967296) (h2 : l2 < 4294967296) (k : ∀ M', RC M' 1 n (s_54 n A l1 l2).2 → (if (s_54 n A l1 l2).1 < 2147483648 then PS M' ((nx + 1) % 11) (pss sz) (psh U sz (n, A)) else PS M' nx sz U) → FP M M' → Q (some (.int (N (s_54 n A l1 l2).1))) (a_hp sc fd M')) : a_Ex 3 0 [some (.ref 0), some (.int (N l1)), some (.int (N l2))] [] (a_hp sc fd M) Q := by
  refine x_aload_n i_3_0 rfl ?_
  refine x_gr i_3_1 ob_0 gr_0_2.1 gr_0_2.2 (rt_0_2 _) ?_
  refine x_aload_n i_3_4 rfl ?_
  refine x_gr i_3_5 ob_0 gr_0_0.1 gr_0_0.2 (rt_0_0 _) ?_
  refine x_vh (r := []) (lj := [some _, some _]) i_3_8 w_105 ob_19 [_] rfl rfl (Nat.le_of_ble_eq_true rfl) (Nat.le_of_ble_eq_true rfl) rfl ?_
  refine c_105 r p (fun M1 r1 p1 s1 f1 => rt_n ?_)
  refine x_aload_n i_3_11 rfl ?_
  refine x_gr i_3_12 ob_0 gr_0_2.1 gr_0_2.2 (rt_0_2 _) ?_
  refine x_aload_n i_3_15 rfl ?_
  refine x_gr i_3_16 ob_0 gr_0_0.1 gr_0_0.2 (rt_0_0 _) ?_
  refine x_iload_n i_3_19 rfl ?_
  refine x_iload_n i_3_20 rfl ?_
  refine x_vh (r := [_]) (lj := [some _, some _, some _, none]) i_3_21 w_54 hb1.ob [_, _] rfl rfl (Nat.le_of_ble_eq_true rfl) (Nat.le_of_ble_eq_true rfl) rfl ?_
  refine c_54 hb1 r1 (by omega) (by omega) (fun q M2 r2 f2 => rt_i ?_)
  refine x_vh (r := []) (lj := [some _, some _]) i_3_24 w_106 ob_19 [_] rfl rfl (Nat.le_of_ble_eq_true rfl) (Nat.le_of_ble_eq_true rfl) rfl ?_
  refine c_106 (n := n) (A := A) (by omega) (p1.same (fun o k h1 h2 => f2 o k (by omega))) ?_ (fun M3 p3 f3 => rt_i ?_)
  · obtain ⟨C, c1, c2⟩ := s1
    exact ⟨C, c1, c2.same (fun o k h1 h2 => f2 o k (by omega))⟩
  refine x_iret i_3_27 rn_3 rfl ?_
  exact k M3 (r2.same (fun o k h1 h2 => f3 o k (by omega))) p3 (fun o k h => (f3 o k (by omega)).trans ((f2 o k (by omega)).trans (f1 o k (by omega))))
theorem d_4 (r : RC M 1 n A) (p : PS M nx sz U) {l1 l2 : Nat} (h1 : l1 < 4294967296) (h2 : l2 < 4294967296) (k : ∀ M', RC M' 1 n (s_56 n A l1 l2).2 → (if (s_56 n A l1 l2).1 < 2147483648 then PS M' ((nx + 1) % 11) (pss sz) (psh U sz (n, A)) else PS M' nx sz U) → FP M M' → Q (some (.int (N (s_56 n A l1 l2).1))) (a_hp sc fd M')) : a_Ex 4 0 [some (.ref 0), some (.int (N l1)), some (.int (N l2))] [] (a_hp sc fd M) Q := by
  refine x_aload_n i_4_0 rfl ?_
  refine x_gr i_4_1 ob_0 gr_0_2.1 gr_0_2.2 (rt_0_2 _) ?_
  refine x_aload_n i_4_4 rfl ?_
  refine x_gr i_4_5 ob_0 gr_0_0.1 gr_0_0.2 (rt_0_0 _) ?_
  refine x_vh (r := []) (lj := [some _, some _]) i_4_8 w_105 ob_19 [_] rfl rfl (Nat.le_of_ble_eq_true rfl) (Nat.le_of_ble_eq_true rfl) rfl ?_
  refine c_105 r p (fun M1 r1 p1 s1 f1 => rt_n ?_)
  refine x_aload_n i_4_11 rfl ?_
  refine x_gr i_4_12 ob_0 gr_0_2.1 gr_0_2.2 (rt_0_2 _) ?_
  refine x_aload_n i_4_15 rfl ?_
  refine x_gr i_4_16 ob_0 gr_0_0.1 gr_0_0.2 (rt_0_0 _) ?_
  refine x_iload_n i_4_19 rfl ?_
  refine x_iload_n i_4_20 rfl ?_
  refine x_vh (r := [_]) (lj := [some _, some _, some _, none]) i_4_21 w_56 hb1.ob [_, _] rfl rfl (Nat.le_of_ble_eq_true rfl) (Nat.le_of_ble_eq_true rfl) rfl ?_
  refine c_56 hb1 r1 (by omega) (by omega) (fun q M2 r2 f2 => rt_i ?_)
  refine x_vh (r := []) (lj := [some _, some _]) i_4_24 w_106 ob_19 [_] rfl rfl (Nat.le_of_ble_eq_true rfl) (Nat.le_of_ble_eq_true rfl) rfl ?_
  refine c_106 (n := n) (A := A) (by omega) (p1.same (fun o k h1 h2 => f2 o k (by omega))) ?_ (fun M3 p3 f3 => rt_i ?_)
  · obtain ⟨C, c1, c2⟩ := s1
    exact ⟨C, c1, c2.same (fun o k h1 h2 => f2 o k (by omega))⟩
  refine x_iret i_4_27 rn_4 rfl ?_
  exact k M3 (r2.same (fun o k h1 h2 => f3 o k (by omega))) p3 (fun o k h => (f3 o k (by omega)).trans ((f2 o k (by omega)).trans (f1 o k (by omega))))
theorem d_5 (r : RC M 1 n A) (p : PS M nx sz U) {l1 : Nat} (h1 : l1 < 4294967296) (k : ∀ M', RC M' 1 n (s_57 n A l1).2 → (if (s_57 n A l1).1 < 2147483648 then PS M' ((nx + 1) % 11) (pss sz) (psh U sz (n, A)) else PS M' nx sz U) → FP M M' → Q (some (.int (N (s_57 n A l1).1))) (a_hp sc fd M')) : a_Ex 5 0 [some (.ref 0), some (.int (N l1))] [] (a_hp sc fd M) Q := by
  refine x_aload_n i_5_0 rfl ?_
  refine x_gr i_5_1 ob_0 gr_0_2.1 gr_0_2.2 (rt_0_2 _) ?_
  refine x_aload_n i_5_4 rfl ?_
  refine x_gr i_5_5 ob_0 gr_0_0.1 gr_0_0.2 (rt_0_0 _) ?_
  refine x_vh (r := []) (lj := [some _, some _]) i_5_8 w_105 ob_19 [_] rfl rfl (Nat.le_of_ble_eq_true rfl) (Nat.le_of_ble_eq_true rfl) rfl ?_
  refine c_105 r p (fun M1 r1 p1 s1 f1 => rt_n ?_)
  refine x_aload_n i_5_11 rfl ?_
  refine x_gr i_5_12 ob_0 gr_0_2.1 gr_0_2.2 (rt_0_2 _) ?_
  refine x_aload_n i_5_15 rfl ?_
  refine x_gr i_5_16 ob_0 gr_0_0.1 gr_0_0.2 (rt_0_0 _) ?_
  refine x_iload_n i_5_19 rfl ?_
  refine x_vh (r := [_]) (lj := [some _, some _]) i_5_20 w_57 hb1.ob [_] rfl rfl (Nat.le_of_ble_eq_true rfl) (Nat.le_of_ble_eq_true rfl) rfl ?_
  refine c_57 hb1 r1 (by omega) (fun q M2 r2 f2 => rt_i ?_)
  refine x_vh (r := []) (lj := [some _, some _]) i_5_23 w_106 ob_19 [_] rfl rfl (Nat.le_of_ble_eq_true rfl) (Nat.le_of_ble_eq_true rfl) rfl ?_
  refine c_106 (n := n) (A := A) (by omega) (p1.same (fun o k h1 h2 => f2 o k (by omega))) ?_ (fun M3 p3 f3 => rt_i ?_)
  · obtain ⟨C, c1, c2⟩ := s1
    exact ⟨C, c1, c2.same (fun o k h1 h2 => f2 o k (by omega))⟩
  refine x_iret i_5_26 rn_5 rfl ?_
  exact k M3 (r2.same (fun o k h1 h2 => f3 o k (by omega))) p3 (fun o k h => (f3 o k (by omega)).trans ((f2 o k (by omega)).trans (f1 o k (by omega))))
theorem d_6 (r : RC M 1 n A) (p : PS M nx sz U) {l1 : Nat} (h1 : l1 < 4294967296) (k : ∀ M', RC M' 1 n (s_64 n A l1).2 → (if (s_64 n A l1).1 < 2147483648 then PS M' ((nx + 1) % 11) (pss sz) (psh U sz (n, A)) else PS M' nx sz U) → FP M M' → Q (some (.int (N (s_64 n A l1).1))) (a_hp sc fd M')) : a_Ex 6 0 [some (.ref 0), some (.int (N l1))] [] (a_hp sc fd M) Q := by
  refine x_aload_n i_6_0 rfl ?_
  refine x_gr i_6_1 ob_0 gr_0_2.1 gr_0_2.2 (rt_0_2 _) ?_
  refine x_aload_n i_6_4 rfl ?_
  refine x_gr i_6_5 ob_0 gr_0_0.1 gr_0_0.2 (rt_0_0 _) ?_
  refine x_vh (r := []) (lj := [some _, some _]) i_6_8 w_105 ob_19 [_] rfl rfl (Nat.le_of_ble_eq_true rfl) (Nat.le_of_ble_eq_true rfl) rfl ?_
  refine c_105 r p (fun M1 r1 p1 s1 f1 => rt_n ?_)
  refine x_aload_n i_6_11 rfl ?_
  refine x_gr i_6_12 ob_0 gr_0_2.1 gr_0_2.2 (rt_0_2 _) ?_
  refine x_aload_n i_6_15 rfl ?_
  refine x_gr i_6_16 ob_0 gr_0_0.1 gr_0_0.2 (rt_0_0 _) ?_
  refine x_iload_n i_6_19 rfl ?_
  refine x_vh (r := [_]) (lj := [some _, some _, none, none]) i_6_20 w_64 hb1.ob [_] rfl rfl (Nat.le_of_ble_eq_true rfl) (Nat.le_of_ble_eq_true rfl) rfl ?_
  refine c_64 hb1 r1 (by omega) (fun q M2 r2 f2 => rt_i ?_)
  refine x_vh (r := []) (lj := [some _, some _]) i_6_23 w_106 ob_19 [_] rfl rfl (Nat.le_of_ble_eq_true rfl) (Nat.le_of_ble_eq_true rfl) rfl ?_
  refine c_106 (n := n) (A := A) (by omega) (p1.same (fun o k h1 h2 => f2 o k (by omega))) ?_ (fun M3 p3 f3 => rt_i ?_)
  · obtain ⟨C, c1, c2⟩ := s1
    exact ⟨C, c1, c2.same (fun o k h1 h2 => f2 o k (by omega))⟩
  refine x_iret i_6_26 rn_6 rfl ?_
  exact k M3 (r2.same (fun o k h1 h2 => f3 o k (by omega))) p3 (fun o k h => (f3 o k (by omega)).trans ((f2 o k (by omega)).trans (f1 o k (by omega))))
theorem d_7 (r : RC M 1 n A) (p : PS M nx sz U) {l1 : Nat} (h1 : l1 < 4294967296) (k : ∀ M', RC M' 1 n (s_66 n A l1).2 → (if (s_66 n A l1).1 < 2147483648 then PS M' ((nx + 1) % 11) (pss sz) (psh U sz (n, A)) else PS M' nx sz U) → FP M M' → Q (some (.int (N (s_66 n A l1).1))) (a_hp sc fd M')) : a_Ex 7 0 [some (.ref 0), some (.int (N l1))] [] (a_hp sc fd M) Q := by
  refine x_aload_n i_7_0 rfl ?_
  refine x_gr i_7_1 ob_0 gr_0_2.1 gr_0_2.2 (rt_0_2 _) ?_
  refine x_aload_n i_7_4 rfl ?_
  refine x_gr i_7_5 ob_0 gr_0_0.1 gr_0_0.2 (rt_0_0 _) ?_
  refine x_vh (r := []) (lj := [some _, some _]) i_7_8 w_105 ob_19 [_] rfl rfl (Nat.le_of_ble_eq_true rfl) (Nat.le_of_ble_eq_true rfl) rfl ?_
  refine c_105 r p (fun M1 r1 p1 s1 f1 => rt_n ?_)
  refine x_aload_n i_7_11 rfl ?_
  refine x_gr i_7_12 ob_0 gr_0_2.1 gr_0_2.2 (rt_0_2 _) ?_
  refine x_aload_n i_7_15 rfl ?_
  refine x_gr i_7_16 ob_0 gr_0_0.1 gr_0_0.2 (rt_0_0 _) ?_
  refine x_iload_n i_7_19 rfl ?_
  refine x_vh (r := [_]) (lj := [some _, some _]) i_7_20 w_66 hb1.ob [_] rfl rfl (Nat.le_of_ble_eq_true rfl) (Nat.le_of_ble_eq_true rfl) rfl ?_
  refine c_66 hb1 r1 (by omega) (fun q M2 r2 f2 => rt_i ?_)
  refine x_vh (r := []) (lj := [some _, some _]) i_7_23 w_106 ob_19 [_] rfl rfl (Nat.le_of_ble_eq_true rfl) (Nat.le_of_ble_eq_true rfl) rfl ?_
  refine c_106 (n := n) (A := A) (by omega) (p1.same (fun o k h1 h2 => f2 o k (by omega))) ?_ (fun M3 p3 f3 => rt_i ?_)
  · obtain ⟨C, c1, c2⟩ := s1
    exact ⟨C, c1, c2.same (fun o k h1 h2 => f2 o k (by omega))⟩
  refine x_iret i_7_26 rn_7 rfl ?_
  exact k M3 (r2.same (fun o k h1 h2 => f3 o k (by omega))) p3 (fun o k h => (f3 o k (by omega)).trans ((f2 o k (by omega)).trans (f1 o k (by omega))))
theorem d_8 (r : RC M 1 n A) (p : PS M nx sz U) {l1 : Nat} (h1 : l1 < 4294967296) (k : ∀ M', RC M' 1 n (s_67 n A l1).2 → (if (s_67 n A l1).1 < 2147483648 then PS M' ((nx + 1) % 11) (pss sz) (psh U sz (n, A)) else PS M' nx sz U) → FP M M' → Q (some (.int (N (s_67 n A l1).1))) (a_hp sc fd M')) : a_Ex 8 0 [some (.ref 0), some (.int (N l1))] [] (a_hp sc fd M) Q := by
  refine x_aload_n i_8_0 rfl ?_
  refine x_gr i_8_1 ob_0 gr_0_2.1 gr_0_2.2 (rt_0_2 _) ?_
  refine x_aload_n i_8_4 rfl ?_
  refine x_gr i_8_5 ob_0 gr_0_0.1 gr_0_0.2 (rt_0_0 _) ?_
  refine x_vh (r := []) (lj := [some _, some _]) i_8_8 w_105 ob_19 [_] rfl rfl (Nat.le_of_ble_eq_true rfl) (Nat.le_of_ble_eq_true rfl) rfl ?_
  refine c_105 r p (fun M1 r1 p1 s1 f1 => rt_n ?_)
  refine x_aload_n i_8_11 rfl ?_
  refine x_gr i_8_12 ob_0 gr_0_2.1 gr_0_2.2 (rt_0_2 _) ?_
  refine x_aload_n i_8_15 rfl ?_
  refine x_gr i_8_16 ob_0 gr_0_0.1 gr_0_0.2 (rt_0_0 _) ?_
  refine x_iload_n i_8_19 rfl ?_
  refine x_vh (r := [_]) (lj := [some _, some _]) i_8_20 w_67 hb1.ob [_] rfl rfl (Nat.le_of_ble_eq_true rfl) (Nat.le_of_ble_eq_true rfl) rfl ?_
  refine c_67 hb1 r1 (by omega) (fun q M2 r2 f2 => rt_i ?_)
  refine x_vh (r := []) (lj := [some _, some _]) i_8_23 w_106 ob_19 [_] rfl rfl (Nat.le_of_ble_eq_true rfl) (Nat.le_of_ble_eq_true rfl) rfl ?_
  refine c_106 (n := n) (A := A) (by omega) (p1.same (fun o k h1 h2 => f2 o k (by omega))) ?_ (fun M3 p3 f3 => rt_i ?_)
  · obtain ⟨C, c1, c2⟩ := s1
    exact ⟨C, c1, c2.same (fun o k h1 h2 => f2 o k (by omega))⟩
  refine x_iret i_8_26 rn_8 rfl ?_
  exact k M3 (r2.same (fun o k h1 h2 => f3 o k (by omega))) p3 (fun o k h => (f3 o k (by omega)).trans ((f2 o k (by omega)).trans (f1 o k (by omega))))
theorem d_9 (r : RC M 1 n A) (p : PS M nx sz U) {l1 : Nat} (h1 : l1 < 4294967296) (k : ∀ M', RC M' 1 n (s_70 n A l1).2 → (if (s_70 n A l1).1 < 2147483648 then PS M' ((nx + 1) % 11) (pss sz) (psh U sz (n, A)) else PS M' nx sz U) → FP M M' → Q (some (.int (N (s_70 n A l1).1))) (a_hp sc fd M')) : a_Ex 9 0 [some (.ref 0), some (.int (N l1))] [] (a_hp sc fd M) Q := by
  refine x_aload_n i_9_0 rfl ?_
  refine x_gr i_9_1 ob_0 gr_0_2.1 gr_0_2.2 (rt_0_2 _) ?_
  refine x_aload_n i_9_4 rfl ?_
  refine x_gr i_9_5 ob_0 gr_0_0.1 gr_0_0.2 (rt_0_0 _) ?_
  refine x_vh (r := []) (lj := [some _, some _]) i_9_8 w_105 ob_19 [_] rfl rfl (Nat.le_of_ble_eq_true rfl) (Nat.le_of_ble_eq_true rfl) rfl ?_
  refine c_105 r p (fun M1 r1 p1 s1 f1 => rt_n ?_)
  refine x_aload_n i_9_11 rfl ?_
  refine x_gr i_9_12 ob_0 gr_0_2.1 gr_0_2.2 (rt_0_2 _) ?_
  refine x_aload_n i_9_15 rfl ?_
  refine x_gr i_9_16 ob_0 gr_0_0.1 gr_0_0.2 (rt_0_0 _) ?_
  refine x_iload_n i_9_19 rfl ?_
  refine x_vh (r := [_]) (lj := [some _, some _]) i_9_20 w_70 hb1.ob [_] rfl rfl (Nat.le_of_ble_eq_true rfl) (Nat.le_of_ble_eq_true rfl) rfl ?_
  refine c_70 hb1 r1 (by omega) (fun q M2 r2 f2 => rt_i ?_)
  refine x_vh (r := []) (lj := [some _, some _]) i_9_23 w_106 ob_19 [_] rfl rfl (Nat.le_of_ble_eq_true rfl) (Nat.le_of_ble_eq_true rfl) rfl ?_
  refine c_106 (n := n) (A := A) (by omega) (p1.same (fun o k h1 h2 => f2 o k (by omega))) ?_ (fun M3 p3 f3 => rt_i ?_)
  · obtain ⟨C, c1, c2⟩ := s1
    exact ⟨C, c1, c2.same (fun o k h1 h2 => f2 o k (by omega))⟩
  refine x_iret i_9_26 rn_9 rfl ?_
  exact k M3 (r2.same (fun o k h1 h2 => f3 o k (by omega))) p3 (fun o k h => (f3 o k (by omega)).trans ((f2 o k (by omega)).trans (f1 o k (by omega))))
theorem d_11 (r : RC M 1 n A) (p : PS M nx sz U) {l1 l2 : Nat} (h1 : l1 < 4294967296) (h2 : l2 < 4294967296) (k : ∀ M', RC M' 1 n (s_72 n A l1 l2).2 → (if (s_72 n A l1 l2).1 < 2147483648 then PS M' ((nx + 1) % 11) (pss sz) (psh U sz (n, A)) else PS M' nx sz U) → FP M M' → Q (some (.int (N (s_72 n A l1 l2).1))) (a_hp sc fd M')) : a_Ex 11 0 [some (.ref 0), some (.int (N l1)), some (.int (N l2))] [] (a_hp sc fd M) Q := by
  refine x_aload_n i_11_0 rfl ?_
  refine x_gr i_11_1 ob_0 gr_0_2.1 gr_0_2.2 (rt_0_2 _) ?_
  refine x_aload_n i_11_4 rfl ?_
  refine x_gr i_11_5 ob_0 gr_0_0.1 gr_0_0.2 (rt_0_0 _) ?_
  refine x_vh (r := []) (lj := [some _, some _]) i_11_8 w_105 ob_19 [_] rfl rfl (Nat.le_of_ble_eq_true rfl) (Nat.le_of_ble_eq_true rfl) rfl ?_
  refine c_105 r p (fun M1 r1 p1 s1 f1 => rt_n ?_)
  refine x_aload_n i_11_11 rfl ?_
  refine x_gr i_11_12 ob_0 gr_0_2.1 gr_0_2.2 (rt_0_2 _) ?_
  refine x_aload_n i_11_15 rfl ?_
  refine x_gr i_11_16 ob_0 gr_0_0.1 gr_0_0.2 (rt_0_0 _) ?_
  refine x_iload_n i_11_19 rfl ?_
  refine x_iload_n i_11_20 rfl ?_
  refine x_vh (r := [_]) (lj := [some _, some _, some _, none, none]) i_11_21 w_72 hb1.ob [_, _] rfl rfl (Nat.le_of_ble_eq_true rfl) (Nat.le_of_ble_eq_true rfl) rfl ?_
  refine c_72 hb1 r1 (by omega) (by omega) (fun q M2 r2 f2 => rt_i ?_)
  refine x_vh (r := []) (lj := [some _, some _]) i_11_24 w_106 ob_19 [_] rfl rfl (Nat.le_of_ble_eq_true rfl) (Nat.le_of_ble_eq_true rfl) rfl ?_
  refine c_106 (n := n) (A := A) (by omega) (p1.same (fun o k h1 h2 => f2 o k (by omega))) ?_ (fun M3 p3 f3 => rt_i ?_)
  · obtain ⟨C, c1, c2⟩ := s1
    exact ⟨C, c1, c2.same (fun o k h1 h2 => f2 o k (by omega))⟩
  refine x_iret i_11_27 rn_11 rfl ?_
  exact k M3 (r2.same (fun o k h1 h2 => f3 o k (by omega))) p3 (fun o k h => (f3 o k (by omega)).trans ((f2 o k (by omega)).trans (f1 o k (by omega))))
theorem d_12 (r : RC M 1 n A) (p : PS M nx sz U) {l1 : Nat} (h1 : l1 < 4294967296) (k : ∀ M', RC M' 1 n (s_80 n A l1).2 → (if (s_80 n A l1).1 < 2147483648 then PS M' ((nx + 1) % 11) (pss sz) (psh U sz (n, A)) else PS M' nx sz U) → FP M M' → Q (some (.int (N (s_80 n A l1).1))) (a_hp sc fd M')) : a_Ex 12 0 [some (.ref 0), some (.int (N l1))] [] (a_hp sc fd M) Q := by
  refine x_aload_n i_12_0 rfl ?_
  refine x_gr i_12_1 ob_0 gr_0_2.1 gr_0_2.2 (rt_0_2 _) ?_
  refine x_aload_n i_12_4 rfl ?_
  refine x_gr i_12_5 ob_0 gr_0_0.1 gr_0_0.2 (rt_0_0 _) ?_
  refine x_vh (r := []) (lj := [some _, some _]) i_12_8 w_105 ob_19 [_] rfl rfl (Nat.le_of_ble_eq_true rfl) (Nat.le_of_ble_eq_true rfl) rfl ?_
  refine c_105 r p (fun M1 r1 p1 s1 f1 => rt_n ?_)
  refine x_aload_n i_12_11 rfl ?_
  refine x_gr i_12_12 ob_0 gr_0_2.1 gr_0_2.2 (rt_0_2 _) ?_
  refine x_aload_n i_12_15 rfl ?_
  refine x_gr i_12_16 ob_0 gr_0_0.1 gr_0_0.2 (rt_0_0 _) ?_
  refine x_iload_n i_12_19 rfl ?_
  refine x_vh (r := [_]) (lj := [some _, some _, none]) i_12_20 w_80 hb1.ob [_] rfl rfl (Nat.le_of_ble_eq_true rfl) (Nat.le_of_ble_eq_true rfl) rfl ?_
  refine c_80 hb1 r1 (by omega) (fun q M2 r2 f2 => rt_i ?_)
  refine x_vh (r := []) (lj := [some _, some _]) i_12_23 w_106 ob_19 [_] rfl rfl (Nat.le_of_ble_eq_true rfl) (Nat.le_of_ble_eq_true rfl) rfl ?_
  refine c_106 (n := n) (A := A) (by omega) (p1.same (fun o k h1 h2 => f2 o k (by omega))) ?_ (fun M3 p3 f3 => rt_i ?_)
  · obtain ⟨C, c1, c2⟩ := s1
    exact ⟨C, c1, c2.same (fun o k h1 h2 => f2 o k (by omega))⟩
  refine x_iret i_12_26 rn_12 rfl ?_
  exact k M3 (r2.same (fun o k h1 h2 => f3 o k (by omega))) p3 (fun o k h => (f3 o k (by omega)).trans ((f2 o k (by omega)).trans (f1 o k (by omega))))
theorem d_13 (r : RC M 1 n A) (p : PS M nx sz U) {l1 : Nat} (h1 : l1 < 4294967296) (k : ∀ M', RC M' 1 n (s_82 n A l1).2 → (if (s_82 n A l1).1 < 2147483648 then PS M' ((nx + 1) % 11) (pss sz) (psh U sz (n, A)) else PS M' nx sz U) → FP M M' → Q (some (.int (N (s_82 n A l1).1))) (a_hp sc fd M')) : a_Ex 13 0 [some (.ref 0), some (.int (N l1))] [] (a_hp sc fd M) Q := by
  refine x_aload_n i_13_0 rfl ?_
  refine x_gr i_13_1 ob_0 gr_0_2.1 gr_0_2.2 (rt_0_2 _) ?_
  refine x_aload_n i_13_4 rfl ?_
  refine x_gr i_13_5 ob_0 gr_0_0.1 gr_0_0.2 (rt_0_0 _) ?_
  refine x_vh (r := []) (lj := [some _, some _]) i_13_8 w_105 ob_19 [_] rfl rfl (Nat.le_of_ble_eq_true rfl) (Nat.le_of_ble_eq_true rfl) rfl ?_
  refine c_105 r p (fun M1 r1 p1 s1 f1 => rt_n ?_)
  refine x_aload_n i_13_11 rfl ?_
  refine x_gr i_13_12 ob_0 gr_0_2.1 gr_0_2.2 (rt_0_2 _) ?_
  refine x_aload_n i_13_15 rfl ?_
  refine x_gr i_13_16 ob_0 gr_0_0.1 gr_0_0.2 (rt_0_0 _) ?_
  refine x_iload_n i_13_19 rfl ?_
  refine x_vh (r := [_]) (lj := [some _, some _, none, none, none, none, none]) i_13_20 w_82 hb1.ob [_] rfl rfl (Nat.le_of_ble_eq_true rfl) (Nat.le_of_ble_eq_true rfl) rfl ?_
  refine c_82 hb1 r1 (by omega) (fun q M2 r2 f2 => rt_i ?_)
  refine x_vh (r := []) (lj := [some _, some _]) i_13_23 w_106 ob_19 [_] rfl rfl (Nat.le_of_ble_eq_true rfl) (Nat.le_of_ble_eq_true rfl) rfl ?_
  refine c_106 (n := n) (A := A) (by omega) (p1.same (fun o k h1 h2 => f2 o k (by omega))) ?_ (fun M3 p3 f3 => rt_i ?_)
  · obtain ⟨C, c1, c2⟩ := s1
    exact ⟨C, c1, c2.same (fun o k h1 h2 => f2 o k (by omega))⟩
  refine x_iret i_13_26 rn_13 rfl ?_
  exact k M3 (r2.same (fun o k h1 h2 => f3 o k (by omega))) p3 (fun o k h => (f3 o k (by omega)).trans ((f2 o k (by omega)).trans (f1 o k (by omega))))
theorem e_152 (r : RM M n B) (d : DS M sz U) {l1 l2 : Nat} (h1 : l1 < 4294967296) (h2 : l2 < 4294967296) (hv : ¬ (s_153 n (a_up B 9 0 0) l1 l2).1 = 4294967295) (k : ∀ M', RM M' n (s_153 n (a_up B 9 0 0) l1 l2).2 → (if (s_153 n (a_up B 9 0 0) l1 l2).1 < 2147483648 then DS M' (pss sz) (psh U sz (n, B)) else DS M' sz U) → FQ M M' → Q (some (.int (N (s_153 n (a_up B 9 0 0) l1 l2).1))) (a_hp sc fd M')) : a_Ex 152 0 [some (.ref 170), some (.int (N l1)), some (.int (N l2))] [] (a_hp sc fd M) Q := by
  refine x_aload_n i_152_0 rfl ?_
  refine n_iconst 0 i_152_1 rfl ?_
  refine n_pM i_152_2 r pf_8_0 (by omega) (fun M0 r0 f0 => ?_)
  refine x_aload_n i_152_5 rfl ?_
  refine x_vh (r := []) (lj := [some _]) i_152_6 w_148 ob_170 [] rfl rfl (Nat.le_of_ble_eq_true rfl) (Nat.le_of_ble_eq_true rfl) rfl ?_
  refine c_148 (fun M1 g1 f1 => rt_n ?_)
  have r1 : RM M1 n (a_up B 9 0 0) := r0.same (fun k _ => f1 171 k (by omega)) (fun k _ => f1 170 k (by omega))
  refine x_aload_n i_152_9 rfl ?_
  refine x_aload_n i_152_10 rfl ?_
  refine x_iload_n i_152_11 rfl ?_
  refine x_iload_n i_152_12 rfl ?_
  refine x_vh (r := [_]) (lj := [some _, some _, some _, none]) i_152_13 w_153 ob_170 [_, _] rfl rfl (Nat.le_of_ble_eq_true rfl) (Nat.le_of_ble_eq_true rfl) rfl ?_
  refine c_153 r1 (by omega) (by omega) (fun q M2 r2 f2 => rt_i ?_)
  have hd2 : DS M2 sz U := d.same (fun k => (f2 172 k (by omega)).trans ((f1 172 k (by omega)).trans (f0 172 k (by omega)))) ((f2 170 5 (by omega)).trans ((f1 170 5 (by omega)).trans (f0 170 5 (by omega))))
  have ha2 : RS (M2 174) n (a_up B 9 0 0) := r0.rs.congr (fun k hk => (f2 174 k (by omega)).trans (g1 k hk))
  refine x_vh (r := []) (lj := [some _, some _]) i_152_16 w_150 ob_170 [_] rfl rfl (Nat.le_of_ble_eq_true rfl) (Nat.le_of_ble_eq_true rfl) rfl ?_
  refine c_150 (A := B) (by omega) hd2 (ha2.eq ((EQ.refl B).l 9 0 0 (by omega))) (fun M3 d3 f3 => rt_i ?_)
  refine x_iret i_152_19 rn_152 rfl ?_
  exact k M3 (r2.same (fun k _ => f3 171 k (by omega) (by omega)) (fun k h => f3 170 k (by omega) (by omega))) d3 (fun o k h => (f3 o k (by omega) (by omega)).trans ((f2 o k (by omega)).trans ((f1 o k (by omega)).trans (f0 o k (by omega)))))
theorem e_163 (r : RM M n B) (d : DS M sz U) {l1 : Nat} (h1 : l1 < 4294967296) (hv : ¬ (s_164 n (a_up B 9 0 0) l1).1 = 4294967295) (k : ∀ M', RM M' n (s_164 n (a_up B 9 0 0) l1).2 → (if (s_164 n (a_up B 9 0 0) l1).1 < 2147483648 then DS M' (pss sz) (psh U sz (n, B)) else DS M' sz U) → FQ M M' → Q (some (.int (N (s_164 n (a_up B 9 0 0) l1).1))) (a_hp sc fd M')) : a_Ex 163 0 [some (.ref 170), some (.int (N l1))] [] (a_hp sc fd M) Q := by
  refine x_aload_n i_163_0 rfl ?_
  refine n_iconst 0 i_163_1 rfl ?_
  refine n_pM i_163_2 r pf_8_0 (by omega) (fun M0 r0 f0 => ?_)
  refine x_aload_n i_163_5 rfl ?_
  refine x_vh (r := []) (lj := [some _]) i_163_6 w_148 ob_170 [] rfl rfl (Nat.le_of_ble_eq_true rfl) (Nat.le_of_ble_eq_true rfl) rfl ?_
  refine c_148 (fun M1 g1 f1 => rt_n ?_)
  have r1 : RM M1 n (a_up B 9 0 0) := r0.same (fun k _ => f1 171 k (by omega)) (fun k _ => f1 170 k (by omega))
  refine x_aload_n i_163_9 rfl ?_
  refine x_aload_n i_163_10 rfl ?_
  refine x_iload_n i_163_11 rfl ?_
  refine x_vh (r := [_]) (lj := [some _, some _, none, none]) i_163_12 w_164 ob_170 [_] rfl rfl (Nat.le_of_ble_eq_true rfl) (Nat.le_of_ble_eq_true rfl) rfl ?_
  refine c_164 r1 (by omega) (fun q M2 r2 f2 => rt_i ?_)
  have hd2 : DS M2 sz U := d.same (fun k => (f2 172 k (by omega)).trans ((f1 172 k (by omega)).trans (f0 172 k (by omega)))) ((f2 170 5 (by omega)).trans ((f1 170 5 (by omega)).trans (f0 170 5 (by omega))))
  have ha2 : RS (M2 174) n (a_up B 9 0 0) := r0.rs.congr (fun k hk => (f2 174 k (by omega)).trans (g1 k hk))
  refine x_vh (r := []) (lj := [some _, some _]) i_163_15 w_150 ob_170 [_] rfl rfl (Nat.le_of_ble_eq_true rfl) (Nat.le_of_ble_eq_true rfl) rfl ?_
  refine c_150 (A := B) (by omega) hd2 (ha2.eq ((EQ.refl B).l 9 0 0 (by omega))) (fun M3 d3 f3 => rt_i ?_)
  refine x_iret i_163_18 rn_163 rfl ?_
  exact k M3 (r2.same (fun k _ => f3 171 k (by omega) (by omega)) (fun k h => f3 170 k (by omega) (by omega))) d3 (fun o k h => (f3 o k (by omega) (by omega)).trans ((f2 o k (by omega)).trans ((f1 o k (by omega)).trans (f0 o k (by omega)))))
theorem e_175 (r : RM M n B) (d : DS M sz U) {l1 : Nat} (h1 : l1 < 4294967296) (hv : ¬ (s_176 n (a_up B 9 0 0) l1).1 = 4294967295) (k : ∀ M', RM M' n (s_176 n (a_up B 9 0 0) l1).2 → (if (s_176 n (a_up B 9 0 0) l1).1 < 2147483648 then DS M' (pss sz) (psh U sz (n, B)) else DS M' sz U) → FQ M M' → Q (some (.int (N (s_176 n (a_up B 9 0 0) l1).1))) (a_hp sc fd M')) : a_Ex 175 0 [some (.ref 170), some (.int (N l1))] [] (a_hp sc fd M) Q := by
  refine x_aload_n i_175_0 rfl ?_
  refine n_iconst 0 i_175_1 rfl ?_
  refine n_pM i_175_2 r pf_8_0 (by omega) (fun M0 r0 f0 => ?_)
  refine x_aload_n i_175_5 rfl ?_
  refine x_vh (r := []) (lj := [some _]) i_175_6 w_148 ob_170 [] rfl rfl (Nat.le_of_ble_eq_true rfl) (Nat.le_of_ble_eq_true rfl) rfl ?_
  refine c_148 (fun M1 g1 f1 => rt_n ?_)
  have r1 : RM M1 n (a_up B 9 0 0) := r0.same (fun k _ => f1 171 k (by omega)) (fun k _ => f1 170 k (by omega))
  refine x_aload_n i_175_9 rfl ?_
  refine x_aload_n i_175_10 rfl ?_
  refine x_iload_n i_175_11 rfl ?_
  refine x_vh (r := [_]) (lj := [some _, some _, none, none]) i_175_12 w_176 ob_170 [_] rfl rfl (Nat.le_of_ble_eq_true rfl) (Nat.le_of_ble_eq_true rfl) rfl ?_
  refine c_176 r1 (by omega) (fun q M2 r2 f2 => rt_i ?_)
  have hd2 : DS M2 sz U := d.same (fun k => (f2 172 k (by omega)).trans ((f1 172 k (by omega)).trans (f0 172 k (by omega)))) ((f2 170 5 (by omega)).trans ((f1 170 5 (by omega)).trans (f0 170 5 (by omega))))
  have ha2 : RS (M2 174) n (a_up B 9 0 0) := r0.rs.congr (fun k hk => (f2 174 k (by omega)).trans (g1 k hk))
  refine x_vh (r := []) (lj := [some _, some _]) i_175_15 w_150 ob_170 [_] rfl rfl (Nat.le_of_ble_eq_true rfl) (Nat.le_of_ble_eq_true rfl) rfl ?_
  refine c_150 (A := B) (by omega) hd2 (ha2.eq ((EQ.refl B).l 9 0 0 (by omega))) (fun M3 d3 f3 => rt_i ?_)
  refine x_iret i_175_18 rn_175 rfl ?_
  exact k M3 (r2.same (fun k _ => f3 171 k (by omega) (by omega)) (fun k h => f3 170 k (by omega) (by omega))) d3 (fun o k h => (f3 o k (by omega) (by omega)).trans ((f2 o k (by omega)).trans ((f1 o k (by omega)).trans (f0 o k (by omega)))))
theorem e_177 (r : RM M n B) (d : DS M sz U) {l1 : Nat} (h1 : l1 < 4294967296) (hv : ¬ (s_178 n (a_up B 9 0 0) l1).1 = 4294967295) (k : ∀ M', RM M' n (s_178 n (a_up B 9 0 0) l1).2 → (if (s_178 n (a_up B 9 0 0) l1).1 < 2147483648 then DS M' (pss sz) (psh U sz (n, B)) else DS M' sz U) → FQ M M' → Q (some (.int (N (s_178 n (a_up B 9 0 0) l1).1))) (a_hp sc fd M')) : a_Ex 177 0 [some (.ref 170), some (.int (N l1))] [] (a_hp sc fd M) Q := by
  refine x_aload_n i_177_0 rfl ?_
  refine n_iconst 0 i_177_1 rfl ?_
  refine n_pM i_177_2 r pf_8_0 (by omega) (fun M0 r0 f0 => ?_)
  refine x_aload_n i_177_5 rfl ?_
  refine x_vh (r := []) (lj := [some _]) i_177_6 w_148 ob_170 [] rfl rfl (Nat.le_of_ble_eq_true rfl) (Nat.le_of_ble_eq_true rfl) rfl ?_
  refine c_148 (fun M1 g1 f1 => rt_n ?_)
  have r1 : RM M1 n (a_up B 9 0 0) := r0.same (fun k _ => f1 171 k (by omega)) (fun k _ => f1 170 k (by omega))
  refine x_aload_n i_177_9 rfl ?_
  refine x_aload_n i_177_10 rfl ?_
  refine x_iload_n i_177_11 rfl ?_
  refine x_vh (r := [_]) (lj := [some _, some _, none]) i_177_12 w_178 ob_170 [_] rfl rfl (Nat.le_of_ble_eq_true rfl) (Nat.le_of_ble_eq_true rfl) rfl ?_
  refine c_178 r1 (by omega) (fun q M2 r2 f2 => rt_i ?_)
  have hd2 : DS M2 sz U := d.same (fun k => (f2 172 k (by omega)).trans ((f1 172 k (by omega)).trans (f0 172 k (by omega)))) ((f2 170 5 (by omega)).trans ((f1 170 5 (by omega)).trans (f0 170 5 (by omega))))
  have ha2 : RS (M2 174) n (a_up B 9 0 0) := r0.rs.congr (fun k hk => (f2 174 k (by omega)).trans (g1 k hk))
  refine x_vh (r := []) (lj := [some _, some _]) i_177_15 w_150 ob_170 [_] rfl rfl (Nat.le_of_ble_eq_true rfl) (Nat.le_of_ble_eq_true rfl) rfl ?_
  refine c_150 (A := B) (by omega) hd2 (ha2.eq ((EQ.refl B).l 9 0 0 (by omega))) (fun M3 d3 f3 => rt_i ?_)
  refine x_iret i_177_18 rn_177 rfl ?_
  exact k M3 (r2.same (fun k _ => f3 171 k (by omega) (by omega)) (fun k h => f3 170 k (by omega) (by omega))) d3 (fun o k h => (f3 o k (by omega) (by omega)).trans ((f2 o k (by omega)).trans ((f1 o k (by omega)).trans (f0 o k (by omega)))))
theorem e_180 (r : RM M n B) (d : DS M sz U) {l1 : Nat} (h1 : l1 < 4294967296) (hv : ¬ (s_181 n (a_up B 9 0 0) l1).1 = 4294967295) (k : ∀ M', RM M' n (s_181 n (a_up B 9 0 0) l1).2 → (if (s_181 n (a_up B 9 0 0) l1).1 < 2147483648 then DS M' (pss sz) (psh U sz (n, B)) else DS M' sz U) → FQ M M' → Q (some (.int (N (s_181 n (a_up B 9 0 0) l1).1))) (a_hp sc fd M')) : a_Ex 180 0 [some (.ref 170), some (.int (N l1))] [] (a_hp sc fd M) Q := by
  refine x_aload_n i_180_0 rfl ?_
  refine n_iconst 0 i_180_1 rfl ?_
  refine n_pM i_180_2 r pf_8_0 (by omega) (fun M0 r0 f0 => ?_)
  refine x_aload_n i_180_5 rfl ?_
  refine x_vh (r := []) (lj := [some _]) i_180_6 w_148 ob_170 [] rfl rfl (Nat.le_of_ble_eq_true rfl) (Nat.le_of_ble_eq_true rfl) rfl ?_
  refine c_148 (fun M1 g1 f1 => rt_n ?_)
  have r1 : RM M1 n (a_up B 9 0 0) := r0.same (fun k _ => f1 171 k (by omega)) (fun k _ => f1 170 k (by omega))
  refine x_aload_n i_180_9 rfl ?_
  refine x_aload_n i_180_10 rfl ?_
  refine x_iload_n i_180_11 rfl ?_
  refine x_vh (r := [_]) (lj := [some _, some _]) i_180_12 w_181 ob_170 [_] rfl rfl (Nat.le_of_ble_eq_true rfl) (Nat.le_of_ble_eq_true rfl) rfl ?_
  refine c_181 r1 (by omega) (fun q M2 r2 f2 => rt_i ?_)
  have hd2 : DS M2 sz U := d.same (fun k => (f2 172 k (by omega)).trans ((f1 172 k (by omega)).trans (f0 172 k (by omega)))) ((f2 170 5 (by omega)).trans ((f1 170 5 (by omega)).trans (f0 170 5 (by omega))))
  have ha2 : RS (M2 174) n (a_up B 9 0 0) := r0.rs.congr (fun k hk => (f2 174 k (by omega)).trans (g1 k hk))
  refine x_vh (r := []) (lj := [some _, some _]) i_180_15 w_150 ob_170 [_] rfl rfl (Nat.le_of_ble_eq_true rfl) (Nat.le_of_ble_eq_true rfl) rfl ?_
  refine c_150 (A := B) (by omega) hd2 (ha2.eq ((EQ.refl B).l 9 0 0 (by omega))) (fun M3 d3 f3 => rt_i ?_)
  refine x_iret i_180_18 rn_180 rfl ?_
  exact k M3 (r2.same (fun k _ => f3 171 k (by omega) (by omega)) (fun k h => f3 170 k (by omega) (by omega))) d3 (fun o k h => (f3 o k (by omega) (by omega)).trans ((f2 o k (by omega)).trans ((f1 o k (by omega)).trans (f0 o k (by omega)))))
theorem e_182 (r : RM M n B) (d : DS M sz U) {l1 : Nat} (h1 : l1 < 4294967296) (hv : ¬ (s_183 n (a_up B 9 0 0) l1).1 = 4294967295) (k : ∀ M', RM M' n (s_183 n (a_up B 9 0 0) l1).2 → (if (s_183 n (a_up B 9 0 0) l1).1 < 2147483648 then DS M' (pss sz) (psh U sz (n, B)) else DS M' sz U) → FQ M M' → Q (some (.int (N (s_183 n (a_up B 9 0 0) l1).1))) (a_hp sc fd M')) : a_Ex 182 0 [some (.ref 170), some (.int (N l1))] [] (a_hp sc fd M) Q := by
  refine x_aload_n i_182_0 rfl ?_
  refine n_iconst 0 i_182_1 rfl ?_
  refine n_pM i_182_2 r pf_8_0 (by omega) (fun M0 r0 f0 => ?_)
  refine x_aload_n i_182_5 rfl ?_
  refine x_vh (r := []) (lj := [some _]) i_182_6 w_148 ob_170 [] rfl rfl (Nat.le_of_ble_eq_true rfl) (Nat.le_of_ble_eq_true rfl) rfl ?_
  refine c_148 (fun M1 g1 f1 => rt_n ?_)
  have r1 : RM M1 n (a_up B 9 0 0) := r0.same (fun k _ => f1 171 k (by omega)) (fun k _ => f1 170 k (by omega))
  refine x_aload_n i_182_9 rfl ?_
  refine x_aload_n i_182_10 rfl ?_
  refine x_iload_n i_182_11 rfl ?_
  refine x_vh (r := [_]) (lj := [some _, some _]) i_182_12 w_183 ob_170 [_] rfl rfl (Nat.le_of_ble_eq_true rfl) (Nat.le_of_ble_eq_true rfl) rfl ?_
  refine c_183 r1 (by omega) (fun q M2 r2 f2 => rt_i ?_)
  have hd2 : DS M2 sz U := d.same (fun k => (f2 172 k (by omega)).trans ((f1 172 k (by omega)).trans (f0 172 k (by omega)))) ((f2 170 5 (by omega)).trans ((f1 170 5 (by omega)).trans (f0 170 5 (by omega))))
  have ha2 : RS (M2 174) n (a_up B 9 0 0) := r0.rs.congr (fun k hk => (f2 174 k (by omega)).trans (g1 k hk))
  refine x_vh (r := []) (lj := [some _, some _]) i_182_15 w_150 ob_170 [_] rfl rfl (Nat.le_of_ble_eq_true rfl) (Nat.le_of_ble_eq_true rfl) rfl ?_
  refine c_150 (A := B) (by omega) hd2 (ha2.eq ((EQ.refl B).l 9 0 0 (by omega))) (fun M3 d3 f3 => rt_i ?_)
  refine x_iret i_182_18 rn_182 rfl ?_
  exact k M3 (r2.same (fun k _ => f3 171 k (by omega) (by omega)) (fun k h => f3 170 k (by omega) (by omega))) d3 (fun o k h => (f3 o k (by omega) (by omega)).trans ((f2 o k (by omega)).trans ((f1 o k (by omega)).trans (f0 o k (by omega)))))
theorem e_186 (r : RM M n B) (d : DS M sz U) {l1 l2 : Nat} (h1 : l1 < 4294967296) (h2 : l2 < 4294967296) (hv : ¬ (s_187 n (a_up B 9 0 0) l1 l2).1 = 4294967295) (k : ∀ M', RM M' n (s_187 n (a_up B 9 0 0) l1 l2).2 → (if (s_187 n (a_up B 9 0 0) l1 l2).1 < 2147483648 then DS M' (pss sz) (psh U sz (n, B)) else DS M' sz U) → FQ M M' → Q (some (.int (N (s_187 n (a_up B 9 0 0) l1 l2).1))) (a_hp sc fd M')) : a_Ex 186 0 [some (.ref 170), some (.int (N l1)), some (.int (N l2))] [] (a_hp sc fd M) Q := by
  refine x_aload_n i_186_0 rfl ?_
  refine n_iconst 0 i_186_1 rfl ?_
  refine n_pM i_186_2 r pf_8_0 (by omega) (fun M0 r0 f0 => ?_)
  refine x_aload_n i_186_5 rfl ?_
  refine x_vh (r := []) (lj := [some _]) i_186_6 w_148 ob_170 [] rfl rfl (Nat.le_of_ble_eq_true rfl) (Nat.le_of_ble_eq_true rfl) rfl ?_
  refine c_148 (fun M1 g1 f1 => rt_n ?_)
  have r1 : RM M1 n (a_up B 9 0 0) := r0.same (fun k _ => f1 171 k (by omega)) (fun k _ => f1 170 k (by omega))
  refine x_aload_n i_186_9 rfl ?_
  refine x_aload_n i_186_10 rfl ?_
  refine x_iload_n i_186_11 rfl ?_
  refine x_iload_n i_186_12 rfl ?_
  refine x_vh (r := [_]) (lj := [some _, some _, some _, none, none]) i_186_13 w_187 ob_170 [_, _] rfl rfl (Nat.le_of_ble_eq_true rfl) (Nat.le_of_ble_eq_true rfl) rfl ?_
  refine c_187 r1 (by omega) (by omega) (fun q M2 r2 f2 => rt_i ?_)
  have hd2 : DS M2 sz U := d.same (fun k => (f2 172 k (by omega)).trans ((f1 172 k (by omega)).trans (f0 172 k (by omega)))) ((f2 170 5 (by omega)).trans ((f1 170 5 (by omega)).trans (f0 170 5 (by omega))))
  have ha2 : RS (M2 174) n (a_up B 9 0 0) := r0.rs.congr (fun k hk => (f2 174 k (by omega)).trans (g1 k hk))
  refine x_vh (r := []) (lj := [some _, some _]) i_186_16 w_150 ob_170 [_] rfl rfl (Nat.le_of_ble_eq_true rfl) (Nat.le_of_ble_eq_true rfl) rfl ?_
  refine c_150 (A := B) (by omega) hd2 (ha2.eq ((EQ.refl B).l 9 0 0 (by omega))) (fun M3 d3 f3 => rt_i ?_)
  refine x_iret i_186_19 rn_186 rfl ?_
  exact k M3 (r2.same (fun k _ => f3 171 k (by omega) (by omega)) (fun k h => f3 170 k (by omega) (by omega))) d3 (fun o k h => (f3 o k (by omega) (by omega)).trans ((f2 o k (by omega)).trans ((f1 o k (by omega)).trans (f0 o k (by omega)))))
theorem e_193 (r : RM M n B) (d : DS M sz U) {l1 : Nat} (h1 : l1 < 4294967296) (hv : ¬ (s_194 n (a_up B 9 0 0) l1).1 = 4294967295) (k : ∀ M', RM M' n (s_194 n (a_up B 9 0 0) l1).2 → (if (s_194 n (a_up B 9 0 0) l1).1 < 2147483648 then DS M' (pss sz) (psh U sz (n, B)) else DS M' sz U) → FQ M M' → Q (some (.int (N (s_194 n (a_up B 9 0 0) l1).1))) (a_hp sc fd M')) : a_Ex 193 0 [some (.ref 170), some (.int (N l1))] [] (a_hp sc fd M) Q := by
  refine x_aload_n i_193_0 rfl ?_
  refine n_iconst 0 i_193_1 rfl ?_
  refine n_pM i_193_2 r pf_8_0 (by omega) (fun M0 r0 f0 => ?_)
  refine x_aload_n i_193_5 rfl ?_
  refine x_vh (r := []) (lj := [some _]) i_193_6 w_148 ob_170 [] rfl rfl (Nat.le_of_ble_eq_true rfl) (Nat.le_of_ble_eq_true rfl) rfl ?_
  refine c_148 (fun M1 g1 f1 => rt_n ?_)
  have r1 : RM M1 n (a_up B 9 0 0) := r0.same (fun k _ => f1 171 k (by omega)) (fun k _ => f1 170 k (by omega))
  refine x_aload_n i_193_9 rfl ?_
  refine x_aload_n i_193_10 rfl ?_
  refine x_iload_n i_193_11 rfl ?_
  refine x_vh (r := [_]) (lj := [some _, some _, none]) i_193_12 w_194 ob_170 [_] rfl rfl (Nat.le_of_ble_eq_true rfl) (Nat.le_of_ble_eq_true rfl) rfl ?_
  refine c_194 r1 (by omega) (fun q M2 r2 f2 => rt_i ?_)
  have hd2 : DS M2 sz U := d.same (fun k => (f2 172 k (by omega)).trans ((f1 172 k (by omega)).trans (f0 172 k (by omega)))) ((f2 170 5 (by omega)).trans ((f1 170 5 (by omega)).trans (f0 170 5 (by omega))))
  have ha2 : RS (M2 174) n (a_up B 9 0 0) := r0.rs.congr (fun k hk => (f2 174 k (by omega)).trans (g1 k hk))
  refine x_vh (r := []) (lj := [some _, some _]) i_193_15 w_150 ob_170 [_] rfl rfl (Nat.le_of_ble_eq_true rfl) (Nat.le_of_ble_eq_true rfl) rfl ?_
  refine c_150 (A := B) (by omega) hd2 (ha2.eq ((EQ.refl B).l 9 0 0 (by omega))) (fun M3 d3 f3 => rt_i ?_)
  refine x_iret i_193_18 rn_193 rfl ?_
  exact k M3 (r2.same (fun k _ => f3 171 k (by omega) (by omega)) (fun k h => f3 170 k (by omega) (by omega))) d3 (fun o k h => (f3 o k (by omega) (by omega)).trans ((f2 o k (by omega)).trans ((f1 o k (by omega)).trans (f0 o k (by omega)))))
theorem e_196 (r : RM M n B) (d : DS M sz U) {l1 : Nat} (h1 : l1 < 4294967296) (hv : ¬ (s_197 n (a_up B 9 0 0) l1).1 = 4294967295) (k : ∀ M', RM M' n (s_197 n (a_up B 9 0 0) l1).2 → (if (s_197 n (a_up B 9 0 0) l1).1 < 2147483648 then DS M' (pss sz) (psh U sz (n, B)) else DS M' sz U) → FQ M M' → Q (some (.int (N (s_197 n (a_up B 9 0 0) l1).1))) (a_hp sc fd M')) : a_Ex 196 0 [some (.ref 170), some (.int (N l1))] [] (a_hp sc fd M) Q := by
  refine x_aload_n i_196_0 rfl ?_
  refine n_iconst 0 i_196_1 rfl ?_
  refine n_pM i_196_2 r pf_8_0 (by omega) (fun M0 r0 f0 => ?_)
  refine x_aload_n i_196_5 rfl ?_
  refine x_vh (r := []) (lj := [some _]) i_196_6 w_148 ob_170 [] rfl rfl (Nat.le_of_ble_eq_true rfl) (Nat.le_of_ble_eq_true rfl) rfl ?_
  refine c_148 (fun M1 g1 f1 => rt_n ?_)
  have r1 : RM M1 n (a_up B 9 0 0) := r0.same (fun k _ => f1 171 k (by omega)) (fun k _ => f1 170 k (by omega))
  refine x_aload_n i_196_9 rfl ?_
  refine x_aload_n i_196_10 rfl ?_
  refine x_iload_n i_196_11 rfl ?_
  refine x_vh (r := [_]) (lj := [some _, some _, none, none, none]) i_196_12 w_197 ob_170 [_] rfl rfl (Nat.le_of_ble_eq_true rfl) (Nat.le_of_ble_eq_true rfl) rfl ?_
  refine c_197 r1 (by omega) (fun q M2 r2 f2 => rt_i ?_)
  have hd2 : DS M2 sz U := d.same (fun k => (f2 172 k (by omega)).trans ((f1 172 k (by omega)).trans (f0 172 k (by omega)))) ((f2 170 5 (by omega)).trans ((f1 170 5 (by omega)).trans (f0 170 5 (by omega))))
  have ha2 : RS (M2 174) n (a_up B 9 0 0) := r0.rs.congr (fun k hk => (f2 174 k (by omega)).trans (g1 k hk))
  refine x_vh (r := []) (lj := [some _, some _]) i_196_15 w_150 ob_170 [_] rfl rfl (Nat.le_of_ble_eq_true rfl) (Nat.le_of_ble_eq_true rfl) rfl ?_
  refine c_150 (A := B) (by omega) hd2 (ha2.eq ((EQ.refl B).l 9 0 0 (by omega))) (fun M3 d3 f3 => rt_i ?_)
  refine x_iret i_196_18 rn_196 rfl ?_
  exact k M3 (r2.same (fun k _ => f3 171 k (by omega) (by omega)) (fun k h => f3 170 k (by omega) (by omega))) d3 (fun o k h => (f3 o k (by omega) (by omega)).trans ((f2 o k (by omega)).trans ((f1 o k (by omega)).trans (f0 o k (by omega)))))
end TEL
