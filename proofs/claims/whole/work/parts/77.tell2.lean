/-! the calls that tell (2): groups, weights, quorums -/
def s_154 (n : Nat) (A : HA) (l1 : Nat) : Nat :=
  (if (0 ≤ l1 ∧ l1 ≤ (n - 1)) then 1 else 0)
theorem c_154 {sc : a_Sc} {fd : Nat} {M : a_Mm} {A : HA} {Q : Option Value → a_Hp → Prop} {n : Nat} (r : RM M n A) {l1 : Nat} (hl1 : l1 ≤ 4294967295) (k : KP 1 Q (a_hp sc fd M) (s_154 n A l1)) : a_Ex 154 0 [some (.ref 170), some (.int (N l1))] [] (a_hp sc fd M) Q := by
  unfold s_154 at k
  have n5 := r.n5
  have n2 := r.n2
  refine x_iload_n i_154_0 rfl ?_
  refine x_i2l i_154_1 ?_
  refine n_lconst 0 i_154_2 rfl ?_
  refine x_aload_n i_154_3 rfl ?_
  refine x_gr i_154_4 ob_170 gr_8_1.1 gr_8_1.2 (rt_170_1 _) ?_
  refine n_iconst 0 i_154_7 rfl ?_
  refine n_ld (x := n) i_154_8 ar_171 (by omega) (by omega) r.nn ?_
  refine n_iconst 1 i_154_9 rfl ?_
  refine x_isubN (by omega) i_154_10 ?_
  refine x_i2l i_154_11 ?_
  refine n_within i_154_12 (Nat.le_of_ble_eq_true rfl) (by omega) (by omega) (by omega) ⟨fun g1 => ?_, fun g1 => ?_⟩
  · have k := kp g1 k
    refine x_iret i_154_15 rn_154 (by decide +kernel) ?_
    exact k (show 1 ≤ 1 by omega)
  · have k := kn g1 k
    refine x_iret i_154_15 rn_154 (by decide +kernel) ?_
    exact k (show 0 ≤ 1 by omega)
theorem s154 {n l : Nat} (hn : 2 ≤ n) (B : HA) : s_154 n B l = if l < n then 1 else 0 := in2 hn
def s156 (n : Nat) (B : HA) (l1 l2 : Nat) : Nat × HA := if l1 < n then (if 1 ≤ l2 ∧ l2 ≤ 3 then (if s_157 n B = 0 then (4294967291, B) else (B 4 l1, a_up (a_up (a_up B 4 l1 l2) 6 3 (s_160 n (a_up B 4 l1 l2) (ev n) / 2 + 1)) 6 4 (s_160 n (a_up B 4 l1 l2) (ev n) / 2 + 1))) else (4294967293, B)) else (4294967294, B)
def s162 (n : Nat) (B : HA) (l1 l2 : Nat) : Nat × HA := if (1 ≤ l1 ∧ l1 ≤ 15) ∧ (1 ≤ l2 ∧ l2 ≤ 15) ∧ s_160 n B (ev n) < l1 + l2 then (if s_157 n B = 0 then (4294967291, B) else (s_160 n B (ev n), a_up (a_up B 6 3 l1) 6 4 l2)) else (4294967293, B)
section TEL
variable {sc : a_Sc} {fd : Nat} {M : a_Mm} {A B : HA} {Q : Option Value → a_Hp → Prop} {n nx sz : Nat} {U : Nat → Nat × HA}
theorem d_10 (r : RC M 1 n A) (p : PS M nx sz U) {l1 : Nat} (h1 : l1 < 4294967296) (k : ∀ M', RC M' 1 n (s71 n A l1).2 → (if (s71 n A l1).1 < 2147483648 then PS M' ((nx + 1) % 11) (pss sz) (psh U sz (n, A)) else PS M' nx sz U) → FP M M' → Q (some (.int (N (s71 n A l1).1))) (a_hp sc fd M')) : a_Ex 10 0 [some (.ref 0), some (.int (N l1))] [] (a_hp sc fd M) Q := by
  refine x_aload_n i_10_0 rfl ?_
  refine x_gr i_10_1 ob_0 gr_0_2.1 gr_0_2.2 (rt_0_2 _) ?_
  refine x_aload_n i_10_4 rfl ?_
  refine x_gr i_10_5 ob_0 gr_0_0.1 gr_0_0.2 (rt_0_0 _) ?_
  refine x_vh (r := []) (lj := [some _, some _]) i_10_8 w_105 ob_19 [_] rfl rfl (Nat.le_of_ble_eq_true rfl) (Nat.le_of_ble_eq_true rfl) rfl ?_
  refine c_105 r p (fun M1 r1 p1 s1 f1 => rt_n ?_)
  refine x_aload_n i_10_11 rfl ?_
  refine x_gr i_10_12 ob_0 gr_0_2.1 gr_0_2.2 (rt_0_2 _) ?_
  refine x_aload_n i_10_15 rfl ?_
  refine x_gr i_10_16 ob_0 gr_0_0.1 gr_0_0.2 (rt_0_0 _) ?_
  refine x_iload_n i_10_19 rfl ?_
  refine x_vh (r := [_]) (lj := [some _, some _, none, none, none]) i_10_20 w_71 hb1.ob [_] rfl rfl (Nat.le_of_ble_eq_true rfl) (Nat.le_of_ble_eq_true rfl) rfl ?_
  refine c_71 hb1 r1 (by omega) (fun q M2 r2 f2 => rt_i ?_)
  refine x_vh (r := []) (lj := [some _, some _]) i_10_23 w_106 ob_19 [_] rfl rfl (Nat.le_of_ble_eq_true rfl) (Nat.le_of_ble_eq_true rfl) rfl ?_
  refine c_106 (n := n) (A := A) (by omega) (p1.same (fun o k h1 h2 => f2 o k (by omega))) ?_ (fun M3 p3 f3 => rt_i ?_)
  · obtain ⟨C, c1, c2⟩ := s1
    exact ⟨C, c1, c2.same (fun o k h1 h2 => f2 o k (by omega))⟩
  refine x_iret i_10_26 rn_10 rfl ?_
  exact k M3 (r2.same (fun o k h1 h2 => f3 o k (by omega))) p3 (fun o k h => (f3 o k (by omega)).trans ((f2 o k (by omega)).trans (f1 o k (by omega))))
theorem e_184 (r : RM M n B) (d : DS M sz U) {l1 : Nat} (h1 : l1 < 4294967296) (hv : ¬ (s71 n (a_up B 9 0 0) l1).1 = 4294967295) (k : ∀ M', RM M' n (s71 n (a_up B 9 0 0) l1).2 → (if (s71 n (a_up B 9 0 0) l1).1 < 2147483648 then DS M' (pss sz) (psh U sz (n, B)) else DS M' sz U) → FQ M M' → Q (some (.int (N (s71 n (a_up B 9 0 0) l1).1))) (a_hp sc fd M')) : a_Ex 184 0 [some (.ref 170), some (.int (N l1))] [] (a_hp sc fd M) Q := by
  refine x_aload_n i_184_0 rfl ?_
  refine n_iconst 0 i_184_1 rfl ?_
  refine n_pM i_184_2 r pf_8_0 (by omega) (fun M0 r0 f0 => ?_)
  refine x_aload_n i_184_5 rfl ?_
  refine x_vh (r := []) (lj := [some _]) i_184_6 w_148 ob_170 [] rfl rfl (Nat.le_of_ble_eq_true rfl) (Nat.le_of_ble_eq_true rfl) rfl ?_
  refine c_148 (fun M1 g1 f1 => rt_n ?_)
  have r1 : RM M1 n (a_up B 9 0 0) := r0.same (fun k _ => f1 171 k (by omega)) (fun k _ => f1 170 k (by omega))
  refine x_aload_n i_184_9 rfl ?_
  refine x_aload_n i_184_10 rfl ?_
  refine x_iload_n i_184_11 rfl ?_
  refine x_vh (r := [_]) (lj := [some _, some _, none, none, none, none]) i_184_12 w_185 ob_170 [_] rfl rfl (Nat.le_of_ble_eq_true rfl) (Nat.le_of_ble_eq_true rfl) rfl ?_
  refine c_185 r1 (by omega) (fun q M2 r2 f2 => rt_i ?_)
  have hd2 : DS M2 sz U := d.same (fun k => (f2 172 k (by omega)).trans ((f1 172 k (by omega)).trans (f0 172 k (by omega)))) ((f2 170 5 (by omega)).trans ((f1 170 5 (by omega)).trans (f0 170 5 (by omega))))
  have ha2 : RS (M2 174) n (a_up B 9 0 0) := r0.rs.congr (fun k hk => (f2 174 k (by omega)).trans (g1 k hk))
  refine x_vh (r := []) (lj := [some _, some _]) i_184_15 w_150 ob_170 [_] rfl rfl (Nat.le_of_ble_eq_true rfl) (Nat.le_of_ble_eq_true rfl) rfl ?_
  refine c_150 (A := B) (by omega) hd2 (ha2.eq ((EQ.refl B).l 9 0 0 (by omega))) (fun M3 d3 f3 => rt_i ?_)
  refine x_iret i_184_18 rn_184 rfl ?_
  exact k M3 (r2.same (fun k _ => f3 171 k (by omega) (by omega)) (fun k h => f3 170 k (by omega) (by omega))) d3 (fun o k h => (f3 o k (by omega) (by omega)).trans ((f2 o k (by omega)).trans ((f1 o k (by omega)).trans (f0 o k (by omega)))))
theorem e_156 (r : RM M n B) (d : DS M sz U) {l1 l2 : Nat} (h1 : l1 < 4294967296) (h2 : l2 < 4294967296) (k : ∀ M', RM M' n (s156 n (a_up B 9 0 0) l1 l2).2 → (if (s156 n (a_up B 9 0 0) l1 l2).1 < 2147483648 then DS M' (pss sz) (psh U sz (n, B)) else DS M' sz U) → FQ M M' → Q (some (.int (N (s156 n (a_up B 9 0 0) l1 l2).1))) (a_hp sc fd M')) : a_Ex 156 0 [some (.ref 170), some (.int (N l1)), some (.int (N l2)), none] [] (a_hp sc fd M) Q := by
  have n2 := r.n2
  have n5 := r.n5
  unfold s156 at k
  refine x_aload_n i_156_0 rfl ?_
  refine n_iconst 0 i_156_1 rfl ?_
  refine n_pM i_156_2 r pf_8_0 (by omega) (fun M0 r0 f0 => ?_)
  refine x_aload_n i_156_5 rfl ?_
  refine x_iload_n i_156_6 rfl ?_
  refine x_vh (r := []) (lj := [some _, some _]) i_156_7 w_154 ob_170 [_] rfl rfl (Nat.le_of_ble_eq_true rfl) (Nat.le_of_ble_eq_true rfl) rfl ?_
  have d0 : DS M0 sz U := d.same (fun k => f0 172 k (by omega)) (f0 170 5 (by omega))
  have q0 : FQ M M0 := fun o k h => f0 o k (by omega)
  refine c_154 r0 (by omega) (fun _ => rt_i ?_)
  rw [s154 n2]
  by_cases g1 : l1 < n
  · rw [if_pos g1]
    simp only [g1, if_true] at k
    refine x_zneN (by omega) i_156_10 ⟨fun _ => ?_, fun q => absurd q (by omega)⟩
    refine x_iload_n i_156_16 rfl ?_
    refine x_i2l i_156_17 ?_
    refine n_lconst 1 i_156_18 rfl ?_
    refine n_ldc2 3 i_156_19 rfl ?_
    refine n_within i_156_22 (Nat.le_of_ble_eq_true rfl) h2 (by omega) (by omega) ⟨fun g2 => ?_, fun g2 => ?_⟩
    · rw [if_pos g2] at k
      refine x_zneN (by omega) i_156_25 ⟨fun _ => ?_, fun q => absurd q (by omega)⟩
      refine x_aload_n i_156_31 rfl ?_
      refine x_vh (r := []) (lj := [some _]) i_156_32 w_157 ob_170 [] rfl rfl (Nat.le_of_ble_eq_true rfl) (Nat.le_of_ble_eq_true rfl) rfl ?_
      refine c_157 r0 (fun q157 => rt_i ?_)
      refine x_zneN (by omega) i_156_35 ⟨fun g3 => ?_, fun g3 => ?_⟩
      · rw [if_neg g3] at k
        refine x_aload_n i_156_41 rfl ?_
        refine x_vh (r := []) (lj := [some _]) i_156_42 w_148 ob_170 [] rfl rfl (Nat.le_of_ble_eq_true rfl) (Nat.le_of_ble_eq_true rfl) rfl ?_
        refine c_148 (fun M1 g4 f1 => rt_n ?_)
        have r1 : RM M1 n (a_up B 9 0 0) := r0.same (fun k _ => f1 171 k (by omega)) (fun k _ => f1 170 k (by omega))
        have w4 := r0.w.b4 (s := l1) (by omega)
        refine x_aload_n i_156_45 rfl ?_
        refine x_iload_n i_156_46 rfl ?_
        refine n_iconst 4 i_156_47 rfl ?_
        refine n_atx ((a_up B 9 0 0) 4 l1) i_156_48 r1 4 (by omega) g1 (Nat.le_of_ble_eq_true rfl) rfl ?_
        refine x_istore_n i_156_51 rfl rfl ?_
        refine x_aload_n i_156_52 rfl ?_
        refine x_iload_n i_156_53 rfl ?_
        refine n_iconst 4 i_156_54 rfl ?_
        refine x_iload_n i_156_55 rfl ?_
        refine n_lays i_156_56 r1 4 (by omega) g1 (show l2 < 4 by omega) (Nat.le_of_ble_eq_true rfl) (fun M2 r2 f2 => ?_)
        refine x_aload_n i_156_59 rfl ?_
        refine x_gr i_156_60 ob_170 gr_8_1.1 gr_8_1.2 (rt_170_1 _) ?_
        refine n_iconst 3 i_156_63 rfl ?_
        refine x_aload_n i_156_64 rfl ?_
        refine x_aload_n i_156_65 rfl ?_
        refine x_vh (r := [_, _, _]) (lj := [some _]) i_156_66 w_159 ob_170 [] rfl rfl (Nat.le_of_ble_eq_true rfl) (Nat.le_of_ble_eq_true rfl) rfl ?_
        refine c_159 r2 (fun q159 => rt_i ?_)
        refine x_vh (r := [_, _]) (lj := [some _, some _, none, none]) i_156_69 w_160 ob_170 [_] rfl rfl (Nat.le_of_ble_eq_true rfl) (Nat.le_of_ble_eq_true rfl) rfl ?_
        refine c_160 r2 (by omega) (fun q160 => rt_i ?_)
        refine n_iconst 2 i_156_72 rfl ?_
        refine x_idivN (by omega) (by omega) (by omega) i_156_73 ?_
        refine n_iconst 1 i_156_74 rfl ?_
        refine x_iaddN i_156_75 ?_
        refine n_stM i_156_76 r2 3 (by omega) rfl (by unfold okf; omega) (fun M3 r3 f3 => ?_)
        refine x_aload_n i_156_77 rfl ?_
        refine x_gr i_156_78 ob_170 gr_8_1.1 gr_8_1.2 (rt_170_1 _) ?_
        refine n_iconst 4 i_156_81 rfl ?_
        refine x_aload_n i_156_82 rfl ?_
        refine x_gr i_156_83 ob_170 gr_8_1.1 gr_8_1.2 (rt_170_1 _) ?_
        refine n_iconst 3 i_156_86 rfl ?_
        refine n_ld (x := s_160 n (a_up (a_up B 9 0 0) 4 l1 l2) (ev n) / 2 + 1) i_156_87 ar_171 (by omega) (by omega) r3.f3 ?_
        refine n_stM i_156_88 r3 4 (by omega) rfl (by unfold okf; omega) (fun M4 r4 f4 => ?_)
        refine x_aload_n i_156_89 rfl ?_
        refine x_iload_n i_156_90 rfl ?_
        have ff : ∀ o k, (o < 170 ∨ 171 < o ∨ (o = 170 ∧ ¬ k = 0 ∧ (k < 7 ∨ 10 < k)) ∨ (o = 171 ∧ 216 ≤ k)) → M4 o k = M1 o k := fun o k h => (f4 o k h).trans ((f3 o k h).trans (f2 o k h))
        have hd2 : DS M4 sz U := d0.same (fun k => (ff 172 k (by omega)).trans (f1 172 k (by omega))) ((ff 170 5 (by omega)).trans (f1 170 5 (by omega)))
        have ha2 : RS (M4 174) n (a_up B 9 0 0) := r0.rs.congr (fun k hk => (ff 174 k (by omega)).trans (g4 k hk))
        refine x_vh (r := []) (lj := [some _, some _]) i_156_91 w_150 ob_170 [_] rfl rfl (Nat.le_of_ble_eq_true rfl) (Nat.le_of_ble_eq_true rfl) rfl ?_
        refine c_150 (A := B) (by omega) hd2 (ha2.eq ((EQ.refl B).l 9 0 0 (by omega))) (fun M5 d5 f5 => rt_i ?_)
        refine x_iret i_156_94 rn_156 rfl ?_
        exact k M5 (r4.same (fun k _ => f5 171 k (by omega) (by omega)) (fun k h => f5 170 k (by omega) (by omega))) d5 (fun o k h => (f5 o k (by omega) (by omega)).trans ((ff o k (by omega)).trans ((f1 o k (by omega)).trans (f0 o k (by omega)))))
      · rw [if_pos g3] at k
        refine n_bipush 4294967291 i_156_38 rfl ?_
        refine x_iret i_156_40 rn_156 rfl ?_
        exact k M0 r0 d0 q0
    · rw [if_neg g2] at k
      refine x_zneN (by omega) i_156_25 ⟨fun q => absurd rfl q, fun _ => ?_⟩
      refine n_bipush 4294967293 i_156_28 rfl ?_
      refine x_iret i_156_30 rn_156 rfl ?_
      exact k M0 r0 d0 q0
  · rw [if_neg g1]
    simp only [g1, if_false] at k
    refine x_zneN (by omega) i_156_10 ⟨fun q => absurd rfl q, fun _ => ?_⟩
    refine n_bipush 4294967294 i_156_13 rfl ?_
    refine x_iret i_156_15 rn_156 rfl ?_
    exact k M0 r0 d0 q0
theorem e_162 (r : RM M n B) (d : DS M sz U) {l1 l2 : Nat} (h1 : l1 < 4294967296) (h2 : l2 < 4294967296) (k : ∀ M', RM M' n (s162 n (a_up B 9 0 0) l1 l2).2 → (if (s162 n (a_up B 9 0 0) l1 l2).1 < 2147483648 then DS M' (pss sz) (psh U sz (n, B)) else DS M' sz U) → FQ M M' → Q (some (.int (N (s162 n (a_up B 9 0 0) l1 l2).1))) (a_hp sc fd M')) : a_Ex 162 0 [some (.ref 170), some (.int (N l1)), some (.int (N l2)), none] [] (a_hp sc fd M) Q := by
  have n2 := r.n2
  have n5 := r.n5
  unfold s162 at k
  refine x_aload_n i_162_0 rfl ?_
  refine n_iconst 0 i_162_1 rfl ?_
  refine n_pM i_162_2 r pf_8_0 (by omega) (fun M0 r0 f0 => ?_)
  refine x_aload_n i_162_5 rfl ?_
  refine x_aload_n i_162_6 rfl ?_
  refine x_vh (r := [_]) (lj := [some _]) i_162_7 w_159 ob_170 [] rfl rfl (Nat.le_of_ble_eq_true rfl) (Nat.le_of_ble_eq_true rfl) rfl ?_
  have d0 : DS M0 sz U := d.same (fun k => f0 172 k (by omega)) (f0 170 5 (by omega))
  have q0 : FQ M M0 := fun o k h => f0 o k (by omega)
  refine c_159 r0 (fun q159 => rt_i ?_)
  refine x_vh (r := []) (lj := [some _, some _, none, none]) i_162_10 w_160 ob_170 [_] rfl rfl (Nat.le_of_ble_eq_true rfl) (Nat.le_of_ble_eq_true rfl) rfl ?_
  refine c_160 r0 (by omega) (fun q160 => rt_i ?_)
  refine x_istore_n i_162_13 rfl rfl ?_
  refine x_iload_n i_162_14 rfl ?_
  refine x_i2l i_162_15 ?_
  refine n_lconst 1 i_162_16 rfl ?_
  refine n_ldc2 15 i_162_17 rfl ?_
  have no : ¬ ((1 ≤ l1 ∧ l1 ≤ 15) ∧ (1 ≤ l2 ∧ l2 ≤ 15) ∧ s_160 n (a_up B 9 0 0) (ev n) < l1 + l2) → a_Ex 162 45 [some (.ref 170), some (.int (N l1)), some (.int (N l2)), some (.int (N (s_160 n (a_up B 9 0 0) (ev n))))] [] (a_hp sc fd M0) Q := fun g => by
    rw [if_neg g] at k
    refine n_bipush 4294967293 i_162_45 rfl ?_
    refine x_iret i_162_47 rn_162 rfl ?_
    exact k M0 r0 d0 q0
  refine n_within i_162_20 (Nat.le_of_ble_eq_true rfl) h1 (by omega) (by omega) ⟨fun g1 => ?_, fun g1 => ?_⟩
  · refine x_zeqN (by omega) i_162_23 ⟨fun q => absurd q (by omega), fun _ => ?_⟩
    refine x_iload_n i_162_26 rfl ?_
    refine x_i2l i_162_27 ?_
    refine n_lconst 1 i_162_28 rfl ?_
    refine n_ldc2 15 i_162_29 rfl ?_
    refine n_within i_162_32 (Nat.le_of_ble_eq_true rfl) h2 (by omega) (by omega) ⟨fun g2 => ?_, fun g2 => ?_⟩
    · refine x_zeqN (by omega) i_162_35 ⟨fun q => absurd q (by omega), fun _ => ?_⟩
      refine x_iload_n i_162_38 rfl ?_
      refine x_iload_n i_162_39 rfl ?_
      refine x_iaddN i_162_40 ?_
      refine x_iload_n i_162_41 rfl ?_
      refine x_igtN (by omega) (by omega) i_162_42 ⟨fun g3 => ?_, fun g3 => no (fun z => g3 z.2.2)⟩
      rw [if_pos ⟨g1, g2, g3⟩] at k
      refine x_aload_n i_162_48 rfl ?_
      refine x_vh (r := []) (lj := [some _]) i_162_49 w_157 ob_170 [] rfl rfl (Nat.le_of_ble_eq_true rfl) (Nat.le_of_ble_eq_true rfl) rfl ?_
      refine c_157 r0 (fun q157 => rt_i ?_)
      refine x_zneN (by omega) i_162_52 ⟨fun g4 => ?_, fun g4 => ?_⟩
      · rw [if_neg g4] at k
        refine x_aload_n i_162_58 rfl ?_
        refine x_vh (r := []) (lj := [some _]) i_162_59 w_148 ob_170 [] rfl rfl (Nat.le_of_ble_eq_true rfl) (Nat.le_of_ble_eq_true rfl) rfl ?_
        refine c_148 (fun M1 g5 f1 => rt_n ?_)
        have r1 : RM M1 n (a_up B 9 0 0) := r0.same (fun k _ => f1 171 k (by omega)) (fun k _ => f1 170 k (by omega))
        refine x_aload_n i_162_62 rfl ?_
        refine x_gr i_162_63 ob_170 gr_8_1.1 gr_8_1.2 (rt_170_1 _) ?_
        refine n_iconst 3 i_162_66 rfl ?_
        refine x_iload_n i_162_67 rfl ?_
        refine n_stM i_162_68 r1 3 (by omega) rfl (by unfold okf; omega) (fun M2 r2 f2 => ?_)
        refine x_aload_n i_162_69 rfl ?_
        refine x_gr i_162_70 ob_170 gr_8_1.1 gr_8_1.2 (rt_170_1 _) ?_
        refine n_iconst 4 i_162_73 rfl ?_
        refine x_iload_n i_162_74 rfl ?_
        refine n_stM i_162_75 r2 4 (by omega) rfl (by unfold okf; omega) (fun M3 r3 f3 => ?_)
        refine x_aload_n i_162_76 rfl ?_
        refine x_iload_n i_162_77 rfl ?_
        have ff : ∀ o k, (o < 170 ∨ 171 < o ∨ (o = 170 ∧ ¬ k = 0 ∧ (k < 7 ∨ 10 < k)) ∨ (o = 171 ∧ 216 ≤ k)) → M3 o k = M1 o k := fun o k h => (f3 o k h).trans (f2 o k h)
        have hd2 : DS M3 sz U := d0.same (fun k => (ff 172 k (by omega)).trans (f1 172 k (by omega))) ((ff 170 5 (by omega)).trans (f1 170 5 (by omega)))
        have ha2 : RS (M3 174) n (a_up B 9 0 0) := r0.rs.congr (fun k hk => (ff 174 k (by omega)).trans (g5 k hk))
        refine x_vh (r := []) (lj := [some _, some _]) i_162_78 w_150 ob_170 [_] rfl rfl (Nat.le_of_ble_eq_true rfl) (Nat.le_of_ble_eq_true rfl) rfl ?_
        refine c_150 (A := B) (by omega) hd2 (ha2.eq ((EQ.refl B).l 9 0 0 (by omega))) (fun M5 d5 f5 => rt_i ?_)
        refine x_iret i_162_81 rn_162 rfl ?_
        exact k M5 (r3.same (fun k _ => f5 171 k (by omega) (by omega)) (fun k h => f5 170 k (by omega) (by omega))) d5 (fun o k h => (f5 o k (by omega) (by omega)).trans ((ff o k (by omega)).trans ((f1 o k (by omega)).trans (f0 o k (by omega)))))
      · rw [if_pos g4] at k
        refine n_bipush 4294967291 i_162_55 rfl ?_
        refine x_iret i_162_57 rn_162 rfl ?_
        exact k M0 r0 d0 q0
    · refine x_zeqN (by omega) i_162_35 ⟨fun _ => no (fun z => g2 z.2.1), fun q => absurd rfl q⟩
  · refine x_zeqN (by omega) i_162_23 ⟨fun _ => no (fun z => g1 z.1), fun q => absurd rfl q⟩
end TEL
theorem s157_55 {n : Nat} {A B : HA} (e : EQ A B) (w : WN n A) : (s_157 n B = 0) = ¬ (s_55 n A (ev n) = 1) := by
  have h5 := w.1.2
  have hn := w.1.1
  have h1 : (s_158 n B 0 0 = ev n) = ∀ s, s < n → A 0 s = 0 := by
    rw [s158_bs B 0 0 h5, bs_ev]
    exact propext ⟨fun q s hs => by rw [e.a (by omega)]; exact of_decide_eq_true (q s hs), fun q s hs => decide_eq_true (by rw [← e.a (by omega)]; exact q s hs)⟩
  have h2 : (s_55 n A (ev n) = 1) = ∀ s, s < n → A 0 s = 0 := by
    refine propext ⟨fun q s hs => ?_, fun q => ?_⟩
    · have : (s_55 n A (ev n)).testBit (A 0 s) = true := (s55_t h5 _ _).mpr ⟨s, hs, by rw [ev_t]; simpa using hs, rfl⟩
      rw [q, show (1 : Nat) = 2 ^ 0 from rfl, Nat.testBit_two_pow, decide_eq_true_eq] at this
      exact this.symm
    · apply Nat.eq_of_testBit_eq
      intro t
      rw [show (1 : Nat) = 2 ^ 0 from rfl, Nat.testBit_two_pow]
      by_cases c : 0 = t
      · rw [decide_eq_true c]
        exact (s55_t h5 _ _).mpr ⟨0, by omega, by rw [ev_t]; simp; omega, by rw [q 0 (by omega)]; exact c⟩
      · rw [decide_eq_false c]
        cases d : (s_55 n A (ev n)).testBit t with
        | false => rfl
        | true =>
          obtain ⟨s, h1, -, h3⟩ := (s55_t h5 _ _).mp d
          rw [q s h1] at h3
          exact absurd h3 c
  unfold s_157
  rw [h2, ← h1]
  by_cases c : s_158 n B 0 0 = ev n
  · rw [if_pos c]; exact propext ⟨fun q => by omega, fun q => absurd c q⟩
  · rw [if_neg c]; exact propext ⟨fun _ => c, fun _ => rfl⟩
theorem x54 {n l m : Nat} {A B : HA} (e : EQ A B) (w : WN n A) : AE (s_54 n A l m) (s156 n B l m) := by
  have h5 := w.1.2
  have hn := w.1.1
  have hq := s157_55 e w
  unfold s_54 s156
  rw [in1 h5]
  by_cases c : l < n
  · rw [if_pos c, if_pos c]
    by_cases c1 : 1 ≤ m ∧ m ≤ 3
    · rw [if_neg (show ¬ (m < 1 ∨ 2147483648 ≤ m) by omega), if_pos c1.2, if_pos c1]
      by_cases c2 : s_55 n A (ev n) = 1
      · rw [if_pos c2, if_neg (by rw [hq]; exact fun q => q c2)]
        have e4 := e.up 4 l m
        refine ⟨e.a (by omega) l, ?_⟩
        show EQ (s_48 n (a_up A 4 l m)) _
        unfold s_48
        rw [x49 e4]
        exact (e4.up 6 3 _).up 6 4 _
      · rw [if_neg c2, if_pos (by rw [hq]; exact c2)]; exact ⟨rfl, e⟩
    · rw [if_neg c1]
      by_cases d : m < 1 ∨ 2147483648 ≤ m
      · rw [if_pos d]; exact ⟨rfl, e⟩
      · rw [if_neg d, if_neg (show ¬ m ≤ 3 by omega)]; exact ⟨rfl, e⟩
  · rw [if_neg c, if_neg c]; exact ⟨rfl, e⟩
theorem x56 {n l m : Nat} {A B : HA} (e : EQ A B) (w : WN n A) : AE (s_56 n A l m) (s162 n B l m) := by
  have hq := s157_55 e w
  unfold s_56 s162
  rw [x49 e]
  by_cases c : (1 ≤ l ∧ l ≤ 15) ∧ (1 ≤ m ∧ m ≤ 15) ∧ s_49 n A (ev n) < l + m
  · rw [if_neg (show ¬ (l < 1 ∨ 2147483648 ≤ l) by omega), if_neg (show ¬ 15 < l by omega), if_neg (show ¬ (m < 1 ∨ 2147483648 ≤ m) by omega), if_pos (show m ≤ 15 by omega), if_pos c.2.2, if_pos c]
    by_cases c2 : s_55 n A (ev n) = 1
    · rw [if_pos c2, if_neg (by rw [hq]; exact fun q => q c2)]
      exact ⟨rfl, (e.up 6 3 _).up 6 4 _⟩
    · rw [if_neg c2, if_pos (by rw [hq]; exact c2)]; exact ⟨rfl, e⟩
  · rw [if_neg c]
    by_cases d1 : l < 1 ∨ 2147483648 ≤ l
    · rw [if_pos d1]; exact ⟨rfl, e⟩
    rw [if_neg d1]
    by_cases d2 : 15 < l
    · rw [if_pos d2]; exact ⟨rfl, e⟩
    rw [if_neg d2]
    by_cases d3 : m < 1 ∨ 2147483648 ≤ m
    · rw [if_pos d3]; exact ⟨rfl, e⟩
    rw [if_neg d3]
    by_cases d4 : m ≤ 15
    · rw [if_pos d4, if_neg (show ¬ s_49 n A (ev n) < l + m by omega)]; exact ⟨rfl, e⟩
    · rw [if_neg d4]; exact ⟨rfl, e⟩
