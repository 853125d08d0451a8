/-! contracts by hand: the leaves -/
theorem v_47_0 {sc : a_Sc} {fd : Nat} {M : a_Mm} {Q : Option Value → a_Hp → Prop} {b : Nat} (hb : HB b)
    (H : Q (some (.int (((1 <<< ((M b 0) &&& 31)) - 1)))) (a_hp sc fd M)) :
    a_Ex 47 0 [some (.ref b)] [] (a_hp sc fd M) Q := by
  refine x_iconst i_47_0  ?_
  refine x_aload_n i_47_1 rfl ?_
  refine x_gi i_47_2 hb.ob gf_1_0.1 gf_1_0.2 ?_
  refine x_ishl i_47_5  ?_
  refine x_iconst i_47_6  ?_
  refine x_isub i_47_7  ?_
  refine x_iret i_47_8 rn_47 rfl ?_
  exact H
theorem v_58_0 {sc : a_Sc} {fd : Nat} {M : a_Mm} {Q : Option Value → a_Hp → Prop} {b : Nat} {l1 : Int32} (hb : HB b)
    (H : (l1 < -1 → Q (some (.int (0))) (a_hp sc fd M)) ∧ (¬ l1 < -1 → (20 < l1 → Q (some (.int (0))) (a_hp sc fd M)) ∧ (¬ 20 < l1 → Q (some (.int (1))) (a_hp sc fd M)))) :
    a_Ex 58 0 [some (.ref b), some (.int l1)] [] (a_hp sc fd M) Q := by
  refine x_iload_n i_58_0 rfl ?_
  refine x_iconst i_58_1  ?_
  refine x_ilt i_58_2 ⟨fun g1 => ?_, fun g1 => ?_⟩
  · refine x_iconst i_58_15  ?_
    refine x_iret i_58_16 rn_58 (by decide) ?_
    exact (H.1 g1)
  · refine x_iload_n i_58_5 rfl ?_
    refine x_bipush i_58_6  ?_
    refine x_igt i_58_8 ⟨fun g2 => ?_, fun g2 => ?_⟩
    · refine x_iconst i_58_15  ?_
      refine x_iret i_58_16 rn_58 (by decide) ?_
      exact ((H.2 g1).1 g2)
    · refine x_iconst i_58_11  ?_
      refine x_goto i_58_12  ?_
      refine x_iret i_58_16 rn_58 (by decide) ?_
      exact ((H.2 g1).2 g2)
theorem v_155_0 {sc : a_Sc} {fd : Nat} {M : a_Mm} {Q : Option Value → a_Hp → Prop} {l1 : Int32} {l2 : Int32}
    (H : a_in (((5 + (6 * l1)) + l2)) 648 = true ∧ (Q (some (.int ((M 171 (((5 + (6 * l1)) + l2) : Int32).toNatClampNeg)))) (a_hp sc fd M))) :
    a_Ex 155 0 [some (.ref 170), some (.int l1), some (.int l2)] [] (a_hp sc fd M) Q := by
  refine x_aload_n i_155_0 rfl ?_
  refine x_gr i_155_1 ob_170 gr_8_1.1 gr_8_1.2 (rt_170_1 _) ?_
  refine x_iconst i_155_4  ?_
  refine x_bipush i_155_5  ?_
  refine x_iload_n i_155_7 rfl ?_
  refine x_imul i_155_8  ?_
  refine x_iadd i_155_9  ?_
  refine x_iload_n i_155_10 rfl ?_
  refine x_iadd i_155_11  ?_
  refine x_ld i_155_12 rfl ar_171 H.1 ?_
  refine x_iret i_155_13 rn_155 rfl ?_
  exact H.2
theorem v_145_0 {sc : a_Sc} {fd : Nat} {M : a_Mm} {Q : Option Value → a_Hp → Prop} {l1 : Int32} {l2 : Int32} {l3 : Int32}
    (H : a_in (((5 + (6 * l1)) + l2)) 648 = true ∧ (Q none (a_hp sc fd (a_up M 171 (((5 + (6 * l1)) + l2) : Int32).toNatClampNeg (l3))))) :
    a_Ex 145 0 [some (.ref 170), some (.int l1), some (.int l2), some (.int l3)] [] (a_hp sc fd M) Q := by
  refine x_aload_n i_145_0 rfl ?_
  refine x_gr i_145_1 ob_170 gr_8_1.1 gr_8_1.2 (rt_170_1 _) ?_
  refine x_iconst i_145_4  ?_
  refine x_bipush i_145_5  ?_
  refine x_iload_n i_145_7 rfl ?_
  refine x_imul i_145_8  ?_
  refine x_iadd i_145_9  ?_
  refine x_iload_n i_145_10 rfl ?_
  refine x_iadd i_145_11  ?_
  refine x_iload_n i_145_12 rfl ?_
  refine x_st i_145_13 ar_171 H.1 ?_
  refine x_vret i_145_14 rn_145 ?_
  exact H.2
theorem v_159_0 {sc : a_Sc} {fd : Nat} {M : a_Mm} {Q : Option Value → a_Hp → Prop} 
    (H : Q (some (.int (((1 <<< ((M 171 (0 : Int32).toNatClampNeg) &&& 31)) - 1)))) (a_hp sc fd M)) :
    a_Ex 159 0 [some (.ref 170)] [] (a_hp sc fd M) Q := by
  refine x_iconst i_159_0  ?_
  refine x_aload_n i_159_1 rfl ?_
  refine x_gr i_159_2 ob_170 gr_8_1.1 gr_8_1.2 (rt_170_1 _) ?_
  refine x_iconst i_159_5  ?_
  refine x_ld i_159_6 rfl ar_171 (by decide) ?_
  refine x_ishl i_159_7  ?_
  refine x_iconst i_159_8  ?_
  refine x_isub i_159_9  ?_
  refine x_iret i_159_10 rn_159 rfl ?_
  exact H
theorem v_165_0 {sc : a_Sc} {fd : Nat} {M : a_Mm} {Q : Option Value → a_Hp → Prop} {l0 : Int32}
    (H : (((-1) ≤ l0 ∧ l0 ≤ 20) → Q (some (.int (1))) (a_hp sc fd M)) ∧ (¬ ((-1) ≤ l0 ∧ l0 ≤ 20) → Q (some (.int (0))) (a_hp sc fd M))) :
    a_Ex 165 0 [some (.int l0)] [] (a_hp sc fd M) Q := by
  refine x_iload_n i_165_0 rfl ?_
  refine x_i2l i_165_1  ?_
  refine x_ldc2 i_165_2  ?_
  refine x_ldc2 i_165_5  ?_
  refine x_within i_165_8 (Nat.le_of_ble_eq_true rfl) ⟨fun g1 => ?_, fun g1 => ?_⟩
  · refine x_iret i_165_11 rn_165 (by decide) ?_
    exact (H.1 g1)
  · refine x_iret i_165_11 rn_165 (by decide) ?_
    exact (H.2 g1)

def ev (n : Nat) : Nat := 2 ^ n - 1
theorem ev_le {n : Nat} (h : n ≤ 5) : ev n ≤ 31 := by
  have h1 : 2 ^ n ≤ 2 ^ 5 := Nat.pow_le_pow_right (by omega) h
  unfold ev
  omega
def isK (k : Nat) : Nat := if k ≤ 20 ∨ k = 4294967295 then 1 else 0
theorem N_leM {x : Nat} (hx : x < 4294967296) : (N 4294967295 ≤ N x) = (x < 2147483648 ∨ x = 4294967295) := by
  refine propext ⟨fun g => ?_, fun g => ?_⟩
  · by_cases c : x < 2147483648
    · exact Or.inl c
    · right
      by_cases d : x = 4294967295
      · exact d
      · exfalso
        have t1 : (N x).toInt = (x : Int) - 4294967296 := by
          unfold N
          rw [Int32.toInt_ofNat']
          show Int.bmod (x : Int) 4294967296 = _
          rw [Int.bmod_def]
          have : ((x : Int)) % 4294967296 = x := Int.emod_eq_of_lt (by omega) (by omega)
          rw [show ((4294967296 : Nat) : Int) = 4294967296 from rfl, this, if_neg (by omega)]
        rw [Int32.le_iff_toInt_le, t1] at g
        have t2 : (N 4294967295).toInt = -1 := by decide +kernel
        omega
  · rcases g with c | c
    · have h1 : (N 4294967295) < 0 := by decide +kernel
      have h2 : (0 : Int32) ≤ N x := by rw [nN 0, N_le (by omega) c]; omega
      exact Int32.le_of_lt (Int32.lt_of_lt_of_le h1 h2)
    · rw [c]; exact Int32.le_refl _
section HND
variable {i pc : Nat} {lc lc' : a_Lc} {st : List Value} {h : a_Hp} {sc : a_Sc} {fd : Nat} {M : a_Mm} {A : HA} {Q : Option Value → a_Hp → Prop} {m n a b o z nn : Nat} {v : Int32} {x y s w : Nat} {c : Int} {rs : List Value}
theorem n_st (hi : a_ins i pc = some (.iastore, n, a, b, v)) (ho : a_AR 0 o m) (hm : m < 2147483648) (hs : s < m) (k : a_Ex i (pc + n) lc st (a_hp sc fd (a_up M o s (N x))) Q) : a_Ex i pc lc (.int (N x) :: .int (N s) :: .ref o :: st) (a_hp sc fd M) Q := by
  refine x_st hi ho (by rw [a_in_N (by omega)]; exact hs) ?_
  rw [N_toNat (by omega)]
  exact k
theorem c_47 (hb : HB b) (r : RC M b n A) (k : KP 31 Q (a_hp sc fd M) (ev n)) : a_Ex 47 0 [some (.ref b)] [] (a_hp sc fd M) Q := by
  have h5 := r.n5
  refine v_47_0 hb ?_
  rw [r.nn, N_evr h5]
  exact k (ev_le h5)
theorem c_159 (r : RM M n A) (k : KP 31 Q (a_hp sc fd M) (ev n)) : a_Ex 159 0 [some (.ref 170)] [] (a_hp sc fd M) Q := by
  have h5 := r.n5
  refine v_159_0 ?_
  rw [show (0 : Int32).toNatClampNeg = 0 from rfl, r.nn, N_evr h5]
  exact k (ev_le h5)
theorem isK_i {l : Nat} (hl : l < 4294967296) : (¬ N l < N 4294967295 ∧ ¬ N 20 < N l) = (l ≤ 20 ∨ l = 4294967295) := by
  rw [Int32.not_lt, Int32.not_lt, N_leM hl, N_leV hl (by omega)]
  refine propext ⟨fun g => ?_, fun g => ?_⟩ <;> omega
theorem c_58 (hb : HB b) (r : RC M b n A) {l : Nat} (hl : l ≤ 4294967295) (k : KP 1 Q (a_hp sc fd M) (isK l)) : a_Ex 58 0 [some (.ref b), some (.int (N l))] [] (a_hp sc fd M) Q := by
  have e := isK_i (l := l) (by omega)
  unfold isK at k
  have k1 := k (by split <;> omega)
  refine v_58_0 hb ⟨fun g => ?_, fun g => ⟨fun g2 => ?_, fun g2 => ?_⟩⟩
  · rw [if_neg (by rw [← e]; intro q; exact q.1 g)] at k1; exact k1
  · rw [if_neg (by rw [← e]; intro q; exact q.2 g2)] at k1; exact k1
  · rw [if_pos (by rw [← e]; exact ⟨g, g2⟩)] at k1; exact k1
theorem c_165 {l : Nat} (hl : l ≤ 4294967295) (k : KP 1 Q (a_hp sc fd M) (isK l)) : a_Ex 165 0 [some (.int (N l))] [] (a_hp sc fd M) Q := by
  have e := isK_i (l := l) (by omega)
  unfold isK at k
  have k1 := k (by split <;> omega)
  refine v_165_0 ⟨fun g => ?_, fun g => ?_⟩
  · rw [if_pos (by rw [← e]; exact ⟨Int32.not_lt.mpr g.1, Int32.not_lt.mpr g.2⟩)] at k1; exact k1
  · rw [if_neg (by rw [← e]; intro q; exact g ⟨Int32.not_lt.mp q.1, Int32.not_lt.mp q.2⟩)] at k1; exact k1
theorem pop_le (v : Nat) : pop v ≤ 5 := by
  have : ∀ n, fo (fun x s => if v.testBit s then x + 1 else x) 0 n ≤ n := by
    intro n
    induction n with
    | zero => exact Nat.le_refl _
    | succ n ih => unfold fo; split <;> omega
  exact this 5
theorem k_265 {v : Nat} (h : v ≤ 31) (k : KP 5 Q (a_hp sc fd M) (pop v)) : a_Ex 265 0 [some (.int (N v))] [] (a_hp sc fd M) Q := c_265 (by omega) (k (pop_le v))
theorem k_179 {v : Nat} (h : v ≤ 2147483647) (k : KP 5 Q (a_hp sc fd M) (pop v)) : a_Ex 179 0 [some (.int (N v)), none, none] [] (a_hp sc fd M) Q := c_179 (by omega) (k (pop_le v))
theorem n_at (hi : a_ins i pc = some (.invokevirtual z, n, 155, 3, v)) (r : RM M nn A) (w : Nat) (hw : w < 6) (hs : s < nn) (hc : (st.map (fun v => v.category)).sum ≤ 8) (k : a_Ex i (pc + n) lc (.int (N (A w s)) :: st) (a_hp sc fd M) Q) : a_Ex i pc lc (.int (N w) :: .int (N s) :: .ref 170 :: st) (a_hp sc fd M) Q := by
  have n5 := r.n5
  refine x_vh (r := st) (lj := [some _, some _, some _]) hi w_155 ob_170 [_, _] rfl rfl hc (Nat.le_of_ble_eq_true rfl) rfl ?_
  refine v_155_0 ⟨?_, ?_⟩
  · rw [nN 5, nN 6, N_mul, N_add, N_add, a_in_N (by omega)]; omega
  · rw [nN 5, nN 6, N_mul, N_add, N_add, N_toNat (by omega), r.at hw hs]
    exact k
theorem n_lays (hi : a_ins i pc = some (.invokevirtual z, n, 145, 4, v)) (r : RM M nn A) (w : Nat) (hw : w < 6) (hs : s < nn) (hv : x < lim w) (hc : (st.map (fun v => v.category)).sum ≤ 8) (k : ∀ M', RM M' nn (a_up A w s x) → FM M M' → a_Ex i (pc + n) lc st (a_hp sc fd M') Q) : a_Ex i pc lc (.int (N x) :: .int (N w) :: .int (N s) :: .ref 170 :: st) (a_hp sc fd M) Q := by
  have n5 := r.n5
  refine x_vh (r := st) (lj := [some _, some _, some _, some _]) hi w_145 ob_170 [_, _, _] rfl rfl hc (Nat.le_of_ble_eq_true rfl) rfl ?_
  refine v_145_0 ⟨?_, ?_⟩
  · rw [nN 5, nN 6, N_mul, N_add, N_add, a_in_N (by omega)]; omega
  · rw [nN 5, nN 6, N_mul, N_add, N_add, N_toNat (by omega)]
    refine k _ (r.puta hw hs hv) (fun o k h => ?_)
    unfold a_up
    by_cases e : o = 171
    · rw [if_pos e, if_neg (by omega)]
    · rw [if_neg e]
theorem c_99 (hb : HB b) (r : RC M b n A) {l1 l2 l3 : Nat} (h1 : l1 ≤ 4) (h2 : l2 ≤ 5) (h3 : l3 ≤ 5) (k : KV Q sc fd M b n (lad A (l1 * 100 + l2 * 10 + l3))) : a_Ex 99 0 [some (.ref (b + 7)), some (.int (N l1)), some (.int (N l2)), some (.int (N l3))] [] (a_hp sc fd M) Q := by
  have h60 := r.w.2.2.2.1
  obtain ⟨e, e60, he, hc, hl⟩ := r.2.2.2.2
  refine x_aload_n i_99_0 rfl ?_
  refine x_gr i_99_1 hb.lg gr_2_0.1 gr_2_0.2 (hb.rl _) ?_
  refine x_aload_n i_99_4 rfl ?_
  refine n_gi i_99_5 hb.lg gf_2_1.1 gf_2_1.2 he ?_
  refine x_aload_n i_99_8 rfl ?_
  refine n_gi i_99_9 hb.lg gf_2_2.1 gf_2_2.2 hc ?_
  refine x_iaddN i_99_12 ?_
  refine n_bipush 60 i_99_13 rfl ?_
  refine x_iremN (by omega) (by omega) (by omega) i_99_15 ?_
  refine x_iload_n i_99_16 rfl ?_
  refine n_bipush 100 i_99_17 rfl ?_
  refine x_imulN i_99_19 ?_
  refine x_iload_n i_99_20 rfl ?_
  refine n_bipush 10 i_99_21 rfl ?_
  refine x_imulN i_99_23 ?_
  refine x_iaddN i_99_24 ?_
  refine x_iload_n i_99_25 rfl ?_
  refine x_iaddN i_99_26 ?_
  refine n_st i_99_27 hb.a8 (by omega) (Nat.mod_lt _ (by omega)) ?_
  refine x_aload_n i_99_28 rfl ?_
  refine n_gi (x := A 7 0) i_99_29 hb.lg gf_2_2.1 gf_2_2.2 (by unfold a_up; rw [if_neg (by omega)]; exact hc) ?_
  refine n_bipush 60 i_99_32 rfl ?_
  refine x_igeN (by omega) (by omega) i_99_34 ⟨fun g1 => ?_, fun g1 => ?_⟩
  · refine x_aload_n i_99_50 rfl ?_
    refine x_aload_n i_99_51 rfl ?_
    refine n_gi (x := e) i_99_52 hb.lg gf_2_1.1 gf_2_1.2 (by unfold a_up; rw [if_neg (by omega)]; exact he) ?_
    refine n_iconst 1 i_99_55 rfl ?_
    refine x_iaddN i_99_56 ?_
    refine n_bipush 60 i_99_57 rfl ?_
    refine x_iremN (by omega) (by omega) (by omega) i_99_59 ?_
    refine x_pi i_99_60 hb.lg pf_2_1.1 pf_2_1.2 ?_
    refine x_vret i_99_63 rn_99 ?_
    exact k _ (r.ladr (by omega) e60 he hl (by rw [if_neg (by omega)])) (fun o k h => by unfold a_up; rw [if_neg (by omega), if_neg (by omega)])
  · refine x_aload_n i_99_37 rfl ?_
    refine x_dup i_99_38 rfl ?_
    refine n_gi (x := A 7 0) i_99_39 hb.lg gf_2_2.1 gf_2_2.2 (by unfold a_up; rw [if_neg (by omega)]; exact hc) ?_
    refine n_iconst 1 i_99_42 rfl ?_
    refine x_iaddN i_99_43 ?_
    refine x_pi i_99_44 hb.lg pf_2_2.1 pf_2_2.2 ?_
    refine x_goto i_99_47  ?_
    refine x_vret i_99_63 rn_99 ?_
    exact k _ (r.ladr (by omega) e60 he hl (by rw [if_pos (by omega)])) (fun o k h => by unfold a_up; rw [if_neg (by omega), if_neg (by omega)])
/-- a state that is told, and its line -/
def bec (A : HA) (s v : Nat) : HA := if A 0 s = v then A else a_up (lad A (s * 100 + A 0 s * 10 + v)) 0 s v
theorem RM.ladr (r : RM M n A) {v : Nat} (hv : v < 500) {M' : a_Mm} (h1 : ∀ k, k < 35 → M' 171 k = M 171 k) (h2 : M' 171 35 = N (lad A v 7 0)) (h3 : ∀ j, j < lad A v 7 0 → M' 171 (36 + 3 * j) = N (lad A v 8 j / 100) ∧ M' 171 (36 + 3 * j + 1) = N (lad A v 8 j / 10 % 10) ∧ M' 171 (36 + 3 * j + 2) = N (lad A v 8 j % 10)) (h4 : ∀ k, M' 170 k = M 170 k) : RM M' n (lad A v) := by
  have n5 := r.n5
  obtain ⟨g1, g2, g3, g4, g5, g6, g7⟩ := r
  refine ⟨g1.ladw hv, (h1 0 (by omega)).trans g2, fun k hk hk5 => (h1 k (by omega)).trans ((g3 k hk hk5).trans (by rw [lad_o A v (by omega) (by omega)])), fun w hw s hs => (h1 _ (by omega)).trans ((g4 w hw s hs).trans (by rw [lad_o A v (by omega) (by omega)])), h2, h3, fun k hk => (h4 k).trans ((g7 k hk).trans (by rw [lad_o A v (by omega) (by omega)]))⟩
/-- the rows behind a shift of t places -/
def shf (M : a_Mm) (t : Nat) : a_Mm := fun o k => if o = 171 ∧ 36 ≤ k ∧ k < 36 + t then M 171 (k + 3) else M o k
theorem shf_s (M : a_Mm) (t : Nat) : a_up (shf M t) 171 (36 + t) (shf M t 171 (39 + t)) = shf M (t + 1) := by
  funext o k
  unfold a_up shf
  by_cases h1 : o = 171
  · rw [if_pos h1]
    by_cases h2 : k = 36 + t
    · rw [if_pos h2, if_neg (by omega), if_pos (by omega), h2]
      congr 1
      omega
    · rw [if_neg h2]
      by_cases h3 : k < 36 + t ∧ 36 ≤ k
      · rw [if_pos (by omega), if_pos (by omega)]
      · rw [if_neg (by omega), if_neg (by omega)]
  · rw [if_neg h1, if_neg (by omega), if_neg (by omega)]
theorem c_168_67 (r : RM M n A) {s v c : Nat} (hs : s < n) (hv : v ≤ 5) {M1 : a_Mm} (g0 : ∀ o k, (o = 171 → k < 35 ∨ 216 ≤ k) → M1 o k = M o k) (hc : c < 60) (g35 : M1 171 35 = N c) (hl : lad A (s * 100 + A 0 s * 10 + v) 7 0 = c + 1) (hz : lad A (s * 100 + A 0 s * 10 + v) 8 c = s * 100 + A 0 s * 10 + v) (g3 : ∀ j, j < c → M1 171 (36 + 3 * j) = N (lad A (s * 100 + A 0 s * 10 + v) 8 j / 100) ∧ M1 171 (36 + 3 * j + 1) = N (lad A (s * 100 + A 0 s * 10 + v) 8 j / 10 % 10) ∧ M1 171 (36 + 3 * j + 2) = N (lad A (s * 100 + A 0 s * 10 + v) 8 j % 10)) (k : MV Q sc fd M n (a_up (lad A (s * 100 + A 0 s * 10 + v)) 0 s v)) : a_Ex 168 67 [some (.ref 170), some (.int (N s)), some (.int (N v)), none] [] (a_hp sc fd M1) Q := by
  have n5 := r.n5
  have h0 := r.w.b0 (s := s) (by omega)
  have gs : M 171 (5 + 6 * s + 0) = N (A 0 s) := r.at (by omega) hs
  refine n_bipush 36 i_168_67 rfl ?_
  refine n_iconst 3 i_168_69 rfl ?_
  refine x_aload_n i_168_70 rfl ?_
  refine x_gr i_168_71 ob_170 gr_8_1.1 gr_8_1.2 (rt_170_1 _) ?_
  refine n_bipush 35 i_168_74 rfl ?_
  refine n_ld i_168_76 ar_171 (by omega) (by omega) g35 ?_
  refine x_imulN i_168_77 ?_
  refine x_iaddN i_168_78 ?_
  refine x_istore_n i_168_79 rfl rfl ?_
  refine x_aload_n i_168_80 rfl ?_
  refine x_gr i_168_81 ob_170 gr_8_1.1 gr_8_1.2 (rt_170_1 _) ?_
  refine x_iload_n i_168_84 rfl ?_
  refine x_iload_n i_168_85 rfl ?_
  refine n_st i_168_86 ar_171 (by omega) (by omega) ?_
  refine x_aload_n i_168_87 rfl ?_
  refine x_gr i_168_88 ob_170 gr_8_1.1 gr_8_1.2 (rt_170_1 _) ?_
  refine x_iload_n i_168_91 rfl ?_
  refine n_iconst 1 i_168_92 rfl ?_
  refine x_iaddN i_168_93 ?_
  refine x_aload_n i_168_94 rfl ?_
  refine x_iload_n i_168_95 rfl ?_
  refine n_iconst 0 i_168_96 rfl ?_
  refine x_vh (r := [_, _]) (lj := [some _, some _, some _]) i_168_97 w_155 ob_170 [_, _] rfl rfl (Nat.le_of_ble_eq_true rfl) (Nat.le_of_ble_eq_true rfl) rfl ?_
  refine v_155_0 ⟨?_, rt_i ?_⟩
  · rw [nN 5, nN 6, N_mul, N_add, N_add, a_in_N (by omega)]; omega
  rw [nN 5, nN 6, N_mul, N_add, N_add, N_toNat (by omega), show a_up M1 171 (36 + 3 * c) (N s) 171 (5 + 6 * s + 0) = N (A 0 s) by
    unfold a_up; rw [if_pos rfl, if_neg (by omega), g0 _ _ (by omega)]; exact gs]
  refine n_st i_168_100 ar_171 (by omega) (by omega) ?_
  refine x_aload_n i_168_101 rfl ?_
  refine x_gr i_168_102 ob_170 gr_8_1.1 gr_8_1.2 (rt_170_1 _) ?_
  refine x_iload_n i_168_105 rfl ?_
  refine n_iconst 2 i_168_106 rfl ?_
  refine x_iaddN i_168_107 ?_
  refine x_iload_n i_168_108 rfl ?_
  refine n_st i_168_109 ar_171 (by omega) (by omega) ?_
  refine x_aload_n i_168_110 rfl ?_
  refine x_gr i_168_111 ob_170 gr_8_1.1 gr_8_1.2 (rt_170_1 _) ?_
  refine n_bipush 35 i_168_114 rfl ?_
  refine x_dup2 i_168_116 rfl rfl ?_
  refine n_ld (x := c) i_168_117 ar_171 (by omega) (by omega) (by
    unfold a_up; rw [if_pos rfl, if_neg (by omega), if_pos rfl, if_neg (by omega), if_pos rfl, if_neg (by omega)]; exact g35) ?_
  refine n_iconst 1 i_168_118 rfl ?_
  refine x_iaddN i_168_119 ?_
  refine n_st i_168_120 ar_171 (by omega) (by omega) ?_
  refine x_aload_n i_168_121 rfl ?_
  refine x_iload_n i_168_122 rfl ?_
  refine n_iconst 0 i_168_123 rfl ?_
  refine x_iload_n i_168_124 rfl ?_
  have hr : RM (a_up (a_up (a_up (a_up M1 171 (36 + 3 * c) (N s)) 171 (36 + 3 * c + 1) (N (A 0 s))) 171 (36 + 3 * c + 2) (N v)) 171 35 (N (c + 1))) n (lad A (s * 100 + A 0 s * 10 + v)) := by
    refine r.ladr (by omega) (fun k hk => ?_) ?_ (fun j hj => ?_) (fun k => ?_)
    · unfold a_up; rw [if_pos rfl, if_neg (by omega), if_pos rfl, if_neg (by omega), if_pos rfl, if_neg (by omega), if_pos rfl, if_neg (by omega)]; exact g0 _ _ (by omega)
    · rw [hl]; unfold a_up; rw [if_pos rfl, if_pos rfl]
    · rw [hl] at hj
      by_cases e : j = c
      · subst e
        rw [hz]
        unfold a_up
        refine ⟨?_, ?_, ?_⟩
        · rw [if_pos rfl, if_neg (by omega), if_pos rfl, if_neg (by omega), if_pos rfl, if_neg (by omega), if_pos rfl, if_pos rfl]
          congr 1; omega
        · rw [if_pos rfl, if_neg (by omega), if_pos rfl, if_neg (by omega), if_pos rfl, if_pos rfl]
          congr 1; omega
        · rw [if_pos rfl, if_neg (by omega), if_pos rfl, if_pos rfl]
          congr 1; omega
      · unfold a_up
        rw [if_pos rfl, if_neg (by omega), if_pos rfl, if_neg (by omega), if_pos rfl, if_neg (by omega), if_pos rfl, if_neg (by omega), if_pos rfl, if_neg (by omega), if_pos rfl, if_neg (by omega), if_pos rfl, if_neg (by omega), if_pos rfl, if_neg (by omega), if_pos rfl, if_neg (by omega), if_pos rfl, if_neg (by omega), if_pos rfl, if_neg (by omega), if_pos rfl, if_neg (by omega)]
        exact g3 j (by omega)
    · unfold a_up; rw [if_neg (by omega), if_neg (by omega), if_neg (by omega), if_neg (by omega)]; exact g0 _ _ (by omega)
  refine n_lays i_168_125 hr 0 (by omega) hs (show v < 6 by omega) (Nat.le_of_ble_eq_true rfl) (fun M2 r2 f2 => ?_)
  refine x_vret i_168_128 rn_168 ?_
  refine k _ r2 (fun o k h => (f2 o k h).trans ?_)
  unfold a_up
  by_cases e : o = 171
  · subst e
    rw [if_pos rfl, if_neg (by omega), if_pos rfl, if_neg (by omega), if_pos rfl, if_neg (by omega), if_pos rfl, if_neg (by omega)]
    exact g0 _ _ (by omega)
  · rw [if_neg e, if_neg e, if_neg e, if_neg e]
    exact g0 _ _ (by omega)
theorem c_168 (r : RM M n A) {s v : Nat} (h1 : s ≤ 4) (h2 : v ≤ 5) (hs : s < n) (k : MV Q sc fd M n (bec A s v)) : a_Ex 168 0 [some (.ref 170), some (.int (N s)), some (.int (N v)), none] [] (a_hp sc fd M) Q := by
  have n5 := r.n5
  have h0 := r.w.b0 (s := s) (by omega)
  have h60 := r.w.2.2.2.1
  have g6 := r.2.2.2.2.2.1
  unfold bec at k
  refine x_aload_n i_168_0 rfl ?_
  refine x_iload_n i_168_1 rfl ?_
  refine n_iconst 0 i_168_2 rfl ?_
  refine n_at i_168_3 r 0 (by omega) hs (Nat.le_of_ble_eq_true rfl) ?_
  refine x_iload_n i_168_6 rfl ?_
  refine x_ineN (by omega) (by omega) i_168_7 ⟨fun g => ?_, fun g => ?_⟩
  · have k := kn g k
    refine x_aload_n i_168_11 rfl ?_
    refine x_gr i_168_12 ob_170 gr_8_1.1 gr_8_1.2 (rt_170_1 _) ?_
    refine n_bipush 35 i_168_15 rfl ?_
    refine n_ld i_168_17 ar_171 (by omega) (by omega) r.f35 ?_
    refine n_bipush 60 i_168_18 rfl ?_
    refine x_ineN (by omega) (by omega) i_168_20 ⟨fun q => ?_, fun q => ?_⟩
    · have c60 : A 7 0 < 60 := by omega
      refine c_168_67 r hs h2 (fun o k _ => rfl) c60 r.f35 ?_ ?_ (fun j hj => ?_) k
      · unfold lad; rw [if_pos c60]; rfl
      · unfold lad; rw [if_pos c60]; show a_up A 8 (A 7 0) _ 8 (A 7 0) = _; unfold a_up; rw [if_pos rfl, if_pos rfl]
      · have e : lad A (s * 100 + A 0 s * 10 + v) 8 j = A 8 j := by
          unfold lad; rw [if_pos c60]; show a_up A 8 (A 7 0) _ 8 j = _; unfold a_up; rw [if_pos rfl, if_neg (by omega)]
        rw [e]
        exact g6 j hj
    · have c60 : ¬ A 7 0 < 60 := by omega
      have L : ∀ d t, 177 - t = d → t ≤ 177 → a_Ex 168 25 [some (.ref 170), some (.int (N s)), some (.int (N v)), some (.int (N t))] [] (a_hp sc fd (shf M t)) Q := by
        intro d
        induction d with
        | zero =>
          intro t hd ht
          have e : t = 177 := by omega
          subst e
          refine x_iload_n i_168_25 rfl ?_
          refine n_sipush 177 i_168_26 rfl ?_
          refine x_igeN (by omega) (by omega) i_168_29 ⟨fun _ => ?_, fun g => absurd (Nat.le_refl _) g⟩
          refine x_aload_n i_168_56 rfl ?_
          refine x_gr i_168_57 ob_170 gr_8_1.1 gr_8_1.2 (rt_170_1 _) ?_
          refine n_bipush 35 i_168_60 rfl ?_
          refine x_dup2 i_168_62 rfl rfl ?_
          refine n_ld (x := A 7 0) i_168_63 ar_171 (by omega) (by omega) (by unfold shf; rw [if_neg (by omega)]; exact r.f35) ?_
          refine n_iconst 1 i_168_64 rfl ?_
          refine x_isubN (by omega) i_168_65 ?_
          refine n_st i_168_66 ar_171 (by omega) (by omega) ?_
          refine x_wk (a_wk.s (a_wk.s (a_wk.s (a_wk.d rfl a_wk.n)))) ?_
          refine c_168_67 r hs h2 (c := 59) (fun o k h => ?_) (by omega) ?_ ?_ ?_ (fun j hj => ?_) k
          · unfold a_up shf
            by_cases e : o = 171
            · have := h e
              rw [if_pos e, if_neg (by omega), if_neg (by omega)]
            · rw [if_neg e, if_neg (by omega)]
          · unfold a_up; rw [if_pos rfl, if_pos rfl]; congr 1; omega
          · unfold lad; rw [if_neg c60]; show A 7 0 = _; omega
          · unfold lad; rw [if_neg c60]; rfl
          · have e : lad A (s * 100 + A 0 s * 10 + v) 8 j = A 8 (j + 1) := by
              unfold lad; rw [if_neg c60]; show (if j = 59 then _ else A 8 (j + 1)) = _; rw [if_neg (by omega)]
            rw [e]
            unfold a_up shf
            rw [if_pos rfl, if_neg (by omega), if_pos (by omega), if_pos rfl, if_neg (by omega), if_pos (by omega), if_pos rfl, if_neg (by omega), if_pos (by omega)]
            have := g6 (j + 1) (by omega)
            exact this
        | succ d ih =>
          intro t hd ht
          have i1 := ih (t + 1) (by omega) (by omega)
          refine x_iload_n i_168_25 rfl ?_
          refine n_sipush 177 i_168_26 rfl ?_
          refine x_igeN (by omega) (by omega) i_168_29 ⟨fun g => absurd g (by omega), fun g => ?_⟩
          refine x_aload_n i_168_32 rfl ?_
          refine x_gr i_168_33 ob_170 gr_8_1.1 gr_8_1.2 (rt_170_1 _) ?_
          refine n_bipush 36 i_168_36 rfl ?_
          refine x_iload_n i_168_38 rfl ?_
          refine x_iaddN i_168_39 ?_
          refine x_aload_n i_168_40 rfl ?_
          refine x_gr i_168_41 ob_170 gr_8_1.1 gr_8_1.2 (rt_170_1 _) ?_
          refine n_bipush 39 i_168_44 rfl ?_
          refine x_iload_n i_168_46 rfl ?_
          refine x_iaddN i_168_47 ?_
          refine x_ld i_168_48 rfl ar_171 (by rw [a_in_N (by omega)]; omega) ?_
          refine x_st i_168_49 ar_171 (by rw [a_in_N (by omega)]; omega) ?_
          refine n_iinc 1 i_168_50 rfl rfl rfl rfl ?_
          refine x_goto i_168_53 ?_
          rw [N_toNat (by omega), N_toNat (by omega), shf_s]
          exact i1
      refine n_iconst 0 i_168_23 rfl ?_
      refine x_istore_n i_168_24 rfl rfl ?_
      have L0 := L 177 0 rfl (by omega)
      have e0 : shf M 0 = M := by
        funext o k; unfold shf; rw [if_neg (by omega)]
      rw [e0] at L0
      exact L0
  · have k := kp g k
    refine x_vret i_168_10 rn_168 ?_
    exact k _ r (FM.refl _)
end HND
