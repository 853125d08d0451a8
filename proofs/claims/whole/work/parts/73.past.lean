/-! the reference's rows: copying them, keeping them for undoing -/
def cpr (M : a_Mm) (o1 f o2 t l : Nat) : a_Mm := fun o k => if o = o2 ∧ t ≤ k ∧ k < t + l then M o1 (f + (k - t)) else M o k
theorem cpr_s (M : a_Mm) {o1 f o2 t l : Nat} (h : o1 = o2 → f + 216 ≤ t ∨ t + 216 ≤ f) (hl : l < 216) : a_up (cpr M o1 f o2 t l) o2 (t + l) (cpr M o1 f o2 t l o1 (f + l)) = cpr M o1 f o2 t (l + 1) := by
  have e1 : cpr M o1 f o2 t l o1 (f + l) = M o1 (f + l) := by
    unfold cpr
    rw [if_neg]
    intro q
    have := h q.1
    omega
  rw [e1]
  funext o k
  rw [a_up_def]
  unfold cpr
  by_cases c : o = o2 ∧ k = t + l
  · rw [if_pos c, if_pos (by omega), c.2, show t + l - t = l by omega]
  · rw [if_neg c]
    by_cases d : o = o2 ∧ t ≤ k ∧ k < t + l
    · rw [if_pos d, if_pos (by omega)]
    · rw [if_neg d, if_neg (by omega)]
theorem cpr_0 (M : a_Mm) (o1 f o2 t : Nat) : cpr M o1 f o2 t 0 = M := by
  funext o k
  unfold cpr
  rw [if_neg (by omega)]
section PST
variable {sc : a_Sc} {fd : Nat} {M : a_Mm} {A B : HA} {Q : Option Value → a_Hp → Prop} {n : Nat}
theorem c_149 {o1 o2 m1 m2 f t : Nat} (h1 : a_AR 0 o1 m1) (h2 : a_AR 0 o2 m2) (b1 : m1 ≤ 100000) (b2 : m2 ≤ 100000) (hf : f + 216 ≤ m1) (ht : t + 216 ≤ m2) (h : o1 = o2 → f + 216 ≤ t ∨ t + 216 ≤ f) (k : Q none (a_hp sc fd (cpr M o1 f o2 t 216))) : a_Ex 149 0 [some (.ref o1), some (.int (N f)), some (.ref o2), some (.int (N t)), none] [] (a_hp sc fd M) Q := by
  have L : ∀ d l, 216 - l = d → l ≤ 216 → a_Ex 149 3 [some (.ref o1), some (.int (N f)), some (.ref o2), some (.int (N t)), some (.int (N l))] [] (a_hp sc fd (cpr M o1 f o2 t l)) Q := by
    intro d
    induction d with
    | zero =>
      intro l hd hl
      have e : l = 216 := by omega
      subst e
      refine x_iload i_149_3 rfl ?_
      refine n_sipush 216 i_149_5 rfl ?_
      refine x_igeN (by omega) (by omega) i_149_8 ⟨fun _ => ?_, fun g => absurd (Nat.le_refl _) g⟩
      refine x_vret i_149_29 rn_149 ?_
      exact k
    | succ d ih =>
      intro l hd hl
      have i1 := ih (l + 1) (by omega) (by omega)
      refine x_iload i_149_3 rfl ?_
      refine n_sipush 216 i_149_5 rfl ?_
      refine x_igeN (by omega) (by omega) i_149_8 ⟨fun g => absurd g (by omega), fun g => ?_⟩
      refine x_aload_n i_149_11 rfl ?_
      refine x_iload_n i_149_12 rfl ?_
      refine x_iload i_149_13 rfl ?_
      refine x_iaddN i_149_15 ?_
      refine x_aload_n i_149_16 rfl ?_
      refine x_iload_n i_149_17 rfl ?_
      refine x_iload i_149_18 rfl ?_
      refine x_iaddN i_149_20 ?_
      refine x_ld i_149_21 rfl h1 (by rw [a_in_N (by omega)]; omega) ?_
      refine x_st i_149_22 h2 (by rw [a_in_N (by omega)]; omega) ?_
      refine n_iinc 1 i_149_23 rfl rfl rfl rfl ?_
      refine x_goto i_149_26 ?_
      rw [N_toNat (by omega), N_toNat (by omega), cpr_s M h (by omega)]
      exact i1
  refine n_iconst 0 i_149_0 rfl ?_
  refine x_istore i_149_1 rfl rfl ?_
  have L0 := L 216 0 rfl (by omega)
  rw [cpr_0] at L0
  exact L0
/-- a row of 216 ints that holds a hall -/
def RS (f : Nat → Int32) (n : Nat) (A : HA) : Prop := WN n A ∧ f 0 = N n ∧ (∀ k, 1 ≤ k → k < 5 → f k = N (A 6 k)) ∧ (∀ w, w < 6 → ∀ s, s < n → f (5 + 6 * s + w) = N (A w s)) ∧ f 35 = N (A 7 0) ∧ ∀ j, j < A 7 0 → f (36 + 3 * j) = N (A 8 j / 100) ∧ f (36 + 3 * j + 1) = N (A 8 j / 10 % 10) ∧ f (36 + 3 * j + 2) = N (A 8 j % 10)
theorem RM.rs (r : RM M n A) : RS (M 171) n A := ⟨r.1, r.2.1, r.2.2.1, r.2.2.2.1, r.2.2.2.2.1, r.2.2.2.2.2.1⟩
theorem RS.rm (r : RS (M 171) n A) : ∃ B, EQ A B ∧ RM M n B := by
  obtain ⟨h1, h2, h3, h4, h5, h6⟩ := r
  have hB : EQ A (fun w k => if w = 9 then (M 170 k).toBitVec.toNat else A w k) := fun w k q1 q2 => (if_neg (by omega)).symm
  have e7 := hB 7 0 (by omega) (by omega)
  refine ⟨_, hB, hB.wn h1, h2, fun k k1 k2 => (h3 k k1 k2).trans (by rw [hB.f k2]), fun w hw s hs => (h4 w hw s hs).trans (by rw [hB.a hw]), h5.trans (by rw [e7]), fun j hj => ?_, fun k _ => ?_⟩
  · rw [← hB 8 j (by omega) (by omega)]
    exact h6 j hj
  · show M 170 k = N (if 9 = 9 then _ else _)
    rw [if_pos rfl]
    apply Int32.toBitVec_inj.mp
    rw [N_bv]
    apply BitVec.eq_of_toNat_eq
    rw [BitVec.toNat_ofNat]
    exact (Nat.mod_eq_of_lt (M 170 k).toBitVec.isLt).symm
theorem RS.eq {f : Nat → Int32} (r : RS f n A) (e : EQ A B) : RS f n B := by
  obtain ⟨h1, h2, h3, h4, h5, h6⟩ := r
  have e7 := e 7 0 (by omega) (by omega)
  refine ⟨e.wn h1, h2, fun k k1 k2 => (h3 k k1 k2).trans (by rw [e.f k2]), fun w hw s hs => (h4 w hw s hs).trans (by rw [e.a hw]), h5.trans (by rw [e7]), fun j hj => ?_⟩
  rw [← e7] at hj
  rw [← e 8 j (by omega) (by omega)]
  exact h6 j hj
theorem RS.congr {f g : Nat → Int32} (r : RS f n A) (h : ∀ k, k < 216 → g k = f k) : RS g n A := by
  obtain ⟨h1, h2, h3, h4, h5, h6⟩ := r
  have h60 := h1.2.2.2.1
  have n5 := h1.1.2
  exact ⟨h1, (h 0 (by omega)).trans h2, fun k k1 k2 => (h k (by omega)).trans (h3 k k1 k2), fun w hw s hs => (h _ (by omega)).trans (h4 w hw s hs), (h 35 (by omega)).trans h5, fun j hj => ⟨(h _ (by omega)).trans (h6 j hj).1, (h _ (by omega)).trans (h6 j hj).2.1, (h _ (by omega)).trans (h6 j hj).2.2⟩⟩
theorem c_148 (k : ∀ M', (∀ k, k < 216 → M' 174 k = M 171 k) → (∀ o k, ¬ o = 174 → M' o k = M o k) → Q none (a_hp sc fd M')) : a_Ex 148 0 [some (.ref 170)] [] (a_hp sc fd M) Q := by
  refine x_aload_n i_148_0 rfl ?_
  refine x_gr i_148_1 ob_170 gr_8_1.1 gr_8_1.2 (rt_170_1 _) ?_
  refine n_iconst 0 i_148_4 rfl ?_
  refine x_aload_n i_148_5 rfl ?_
  refine x_gr i_148_6 ob_170 gr_8_4.1 gr_8_4.2 (rt_170_4 _) ?_
  refine n_iconst 0 i_148_9 rfl ?_
  refine x_sh (r := []) (lj := [some _, some _, some _, some _, none]) i_148_10 ws_149 [_, _, _, _] rfl rfl (Nat.le_of_ble_eq_true rfl) (Nat.le_of_ble_eq_true rfl) rfl ?_
  refine c_149 ar_171 ar_174 (by omega) (by omega) (by omega) (by omega) (by omega) (rt_n ?_)
  refine x_vret i_148_13 rn_148 ?_
  refine k _ (fun k hk => ?_) (fun o k ho => ?_)
  · unfold cpr; rw [if_pos (by omega), show 0 + (k - 0) = k by omega]
  · unfold cpr; rw [if_neg (by omega)]
/-- what can be undone -/
def DS (M : a_Mm) (sz : Nat) (U : Nat → Nat × HA) : Prop := M 170 5 = N sz ∧ sz ≤ 10 ∧ ∀ i, i < sz → RS (fun k => M 172 (216 * i + k)) (U i).1 (U i).2
def psh (U : Nat → Nat × HA) (sz : Nat) (x : Nat × HA) : Nat → Nat × HA := fun i => if sz < 10 then (if i = sz then x else U i) else (if i = 9 then x else U (i + 1))
def pss (sz : Nat) : Nat := if sz < 10 then sz + 1 else 10
/-- the deeds behind a shift of l places -/
def dsh (M : a_Mm) (l : Nat) : a_Mm := fun o k => if o = 172 ∧ k < l then M 172 (216 + k) else M o k
theorem dsh_s (M : a_Mm) (l : Nat) : a_up (dsh M l) 172 l (dsh M l 172 (216 + l)) = dsh M (l + 1) := by
  funext o k
  rw [a_up_def]
  unfold dsh
  rw [if_neg (show ¬ (172 = 172 ∧ 216 + l < l) by omega)]
  by_cases c : o = 172 ∧ k = l
  · rw [if_pos c, if_pos (by omega), c.2]
  · rw [if_neg c]
    by_cases d : o = 172 ∧ k < l
    · rw [if_pos d, if_pos (by omega)]
    · rw [if_neg d, if_neg (by omega)]
theorem c_151_50 {sz : Nat} {U : Nat → Nat × HA} {l1 : Option Value} (hs : sz < 10) (h5 : M 170 5 = N sz) (hd : ∀ i, i < sz → RS (fun k => M 172 (216 * i + k)) (U i).1 (U i).2) (ha : RS (M 174) n A) (k : ∀ M', M' 170 5 = N (sz + 1) → (∀ i, i < sz → RS (fun k => M' 172 (216 * i + k)) (U i).1 (U i).2) → RS (fun k => M' 172 (216 * sz + k)) n A → (∀ o k, ¬ o = 172 → ¬ (o = 170 ∧ k = 5) → M' o k = M o k) → Q none (a_hp sc fd M')) : a_Ex 151 50 [some (.ref 170), none] [] (a_hp sc fd M) Q := by
  refine x_aload_n i_151_50 rfl ?_
  refine x_gr i_151_51 ob_170 gr_8_4.1 gr_8_4.2 (rt_170_4 _) ?_
  refine n_iconst 0 i_151_54 rfl ?_
  refine x_aload_n i_151_55 rfl ?_
  refine x_gr i_151_56 ob_170 gr_8_2.1 gr_8_2.2 (rt_170_2 _) ?_
  refine n_sipush 216 i_151_59 rfl ?_
  refine x_aload_n i_151_62 rfl ?_
  refine n_gi (x := sz) i_151_63 ob_170 gf_8_5.1 gf_8_5.2 h5 ?_
  refine x_imulN i_151_66 ?_
  refine x_sh (r := []) (lj := [some _, some _, some _, some _, none]) i_151_67 ws_149 [_, _, _, _] rfl rfl (Nat.le_of_ble_eq_true rfl) (Nat.le_of_ble_eq_true rfl) rfl ?_
  refine c_149 ar_174 ar_172 (by omega) (by omega) (by omega) (by omega) (by omega) (rt_n ?_)
  refine x_aload_n i_151_70 rfl ?_
  refine x_dup i_151_71 rfl ?_
  refine n_gi (x := sz) i_151_72 ob_170 gf_8_5.1 gf_8_5.2 (by unfold cpr; rw [if_neg (by omega)]; exact h5) ?_
  refine n_iconst 1 i_151_75 rfl ?_
  refine x_iaddN i_151_76 ?_
  refine x_pi i_151_77 ob_170 pf_8_5.1 pf_8_5.2 ?_
  refine x_vret i_151_80 rn_151 ?_
  refine k _ (by rw [a_up_def, if_pos ⟨rfl, rfl⟩]) (fun i hi => (hd i hi).congr (fun k hk => ?_)) (ha.congr (fun k hk => ?_)) (fun o k h1 h2 => ?_)
  · rw [a_up_def, if_neg (by omega)]; unfold cpr; rw [if_neg (by omega)]
  · rw [a_up_def, if_neg (by omega)]; unfold cpr; rw [if_pos (by omega)]; congr 1; omega
  · rw [a_up_def, if_neg (by omega)]; unfold cpr; rw [if_neg (by omega)]
theorem c_151 {sz : Nat} {U : Nat → Nat × HA} (hd : DS M sz U) (ha : RS (M 174) n A) (k : ∀ M', DS M' (pss sz) (psh U sz (n, A)) → (∀ o k, ¬ o = 172 → ¬ (o = 170 ∧ k = 5) → M' o k = M o k) → Q none (a_hp sc fd M')) : a_Ex 151 0 [some (.ref 170), none] [] (a_hp sc fd M) Q := by
  obtain ⟨h5, hs, hd⟩ := hd
  refine x_aload_n i_151_0 rfl ?_
  refine n_gi (x := sz) i_151_1 ob_170 gf_8_5.1 gf_8_5.2 h5 ?_
  refine n_bipush 10 i_151_4 rfl ?_
  refine x_ineN (by omega) (by omega) i_151_6 ⟨fun g => ?_, fun g => ?_⟩
  · refine c_151_50 (l1 := none) (by omega) h5 hd ha (fun M' g1 g2 g3 g4 => k M' ⟨?_, ?_, fun i hi => ?_⟩ g4)
    · unfold pss; rw [if_pos (by omega)]; exact g1
    · unfold pss; rw [if_pos (by omega)]; omega
    · unfold pss at hi; rw [if_pos (by omega)] at hi
      unfold psh; rw [if_pos (by omega)]
      by_cases e : i = sz
      · subst e; rw [if_pos rfl]; exact g3
      · rw [if_neg e]; exact g2 i (by omega)
  · subst g
    have L : ∀ d l, 1944 - l = d → l ≤ 1944 → a_Ex 151 11 [some (.ref 170), some (.int (N l))] [] (a_hp sc fd (dsh M l)) Q := by
      intro d
      induction d with
      | zero =>
        intro l hd0 hl
        have e : l = 1944 := by omega
        subst e
        refine x_iload_n i_151_11 rfl ?_
        refine n_sipush 1944 i_151_12 rfl ?_
        refine x_igeN (by omega) (by omega) i_151_15 ⟨fun _ => ?_, fun g => absurd (Nat.le_refl _) g⟩
        refine x_aload_n i_151_40 rfl ?_
        refine x_dup i_151_41 rfl ?_
        refine n_gi (x := 10) i_151_42 ob_170 gf_8_5.1 gf_8_5.2 (by unfold dsh; rw [if_neg (by omega)]; exact h5) ?_
        refine n_iconst 1 i_151_45 rfl ?_
        refine x_isubN (by omega) i_151_46 ?_
        refine x_pi i_151_47 ob_170 pf_8_5.1 pf_8_5.2 ?_
        refine x_wk (a_wk.s (a_wk.d rfl a_wk.n)) ?_
        refine c_151_50 (l1 := none) (sz := 9) (U := fun i => U (i + 1)) (A := A) (n := n) (by omega) (by rw [a_up_def, if_pos ⟨rfl, rfl⟩]) (fun i hi => (hd (i + 1) (by omega)).congr (fun k hk => ?_)) (ha.congr (fun k hk => ?_)) (fun M' g1 g2 g3 g4 => k M' ⟨?_, ?_, fun i hi => ?_⟩ (fun o k h1 h2 => (g4 o k h1 h2).trans ?_))
        · rw [a_up_def, if_neg (by omega)]; unfold dsh; rw [if_pos (by omega)]; congr 1; omega
        · rw [a_up_def, if_neg (by omega)]; unfold dsh; rw [if_neg (by omega)]
        · exact g1
        · exact Nat.le_refl _
        · have hi : i < 10 := hi
          unfold psh; rw [if_neg (by omega)]
          by_cases e : i = 9
          · subst e; rw [if_pos rfl]; exact g3
          · rw [if_neg e]; exact g2 i (by omega)
        · rw [a_up_def, if_neg h2]; unfold dsh; rw [if_neg (by omega)]
      | succ d ih =>
        intro l hd0 hl
        have i1 := ih (l + 1) (by omega) (by omega)
        refine x_iload_n i_151_11 rfl ?_
        refine n_sipush 1944 i_151_12 rfl ?_
        refine x_igeN (by omega) (by omega) i_151_15 ⟨fun g => absurd g (by omega), fun g => ?_⟩
        refine x_aload_n i_151_18 rfl ?_
        refine x_gr i_151_19 ob_170 gr_8_2.1 gr_8_2.2 (rt_170_2 _) ?_
        refine x_iload_n i_151_22 rfl ?_
        refine x_aload_n i_151_23 rfl ?_
        refine x_gr i_151_24 ob_170 gr_8_2.1 gr_8_2.2 (rt_170_2 _) ?_
        refine n_sipush 216 i_151_27 rfl ?_
        refine x_iload_n i_151_30 rfl ?_
        refine x_iaddN i_151_31 ?_
        refine x_ld i_151_32 rfl ar_172 (by rw [a_in_N (by omega)]; omega) ?_
        refine x_st i_151_33 ar_172 (by rw [a_in_N (by omega)]; omega) ?_
        refine n_iinc 1 i_151_34 rfl rfl rfl rfl ?_
        refine x_goto i_151_37 ?_
        rw [N_toNat (by omega), N_toNat (by omega), dsh_s]
        exact i1
    refine n_iconst 0 i_151_9 rfl ?_
    refine x_istore_n i_151_10 rfl rfl ?_
    have L0 := L 1944 0 rfl (by omega)
    have e0 : dsh M 0 = M := by funext o k; unfold dsh; rw [if_neg (by omega)]
    rw [e0] at L0
    exact L0
/-- an answer that is told: it was kept, if the call wasn't refused -/
theorem c_150 {sz v : Nat} {U : Nat → Nat × HA} (hv : v < 4294967295) (hd : DS M sz U) (ha : RS (M 174) n A) (k : ∀ M', (if v < 2147483648 then DS M' (pss sz) (psh U sz (n, A)) else DS M' sz U) → (∀ o k, ¬ o = 172 → ¬ (o = 170 ∧ k = 5) → M' o k = M o k) → Q (some (.int (N v))) (a_hp sc fd M')) : a_Ex 150 0 [some (.ref 170), some (.int (N v))] [] (a_hp sc fd M) Q := by
  refine x_iload_n i_150_0 rfl ?_
  refine n_bipush 4294967294 i_150_1 rfl ?_
  have e2 : (N v ≤ N 4294967294) = (2147483648 ≤ v) := by
    refine propext ⟨fun g => ?_, fun g => ?_⟩
    · by_cases c : v < 2147483648
      · exfalso
        have h1 : (N 4294967294) < 0 := by decide +kernel
        have h2 : (0 : Int32) ≤ N v := by rw [nN 0, N_le (by omega) c]; omega
        exact absurd (Int32.lt_of_lt_of_le h1 h2) (Int32.not_lt.mpr g)
      · omega
    · have t1 : (N v).toInt = (v : Int) - 4294967296 := by
        unfold N
        rw [Int32.toInt_ofNat']
        show Int.bmod (v : Int) 4294967296 = _
        rw [Int.bmod_def]
        have : ((v : Int)) % 4294967296 = v := Int.emod_eq_of_lt (by omega) (by omega)
        rw [show ((4294967296 : Nat) : Int) = 4294967296 from rfl, this, if_neg (by omega)]
      rw [Int32.le_iff_toInt_le, t1]
      have t2 : (N 4294967294).toInt = -2 := by decide +kernel
      omega
  refine x_ile i_150_3 ⟨fun g => ?_, fun g => ?_⟩
  · rw [e2] at g
    refine x_iload_n i_150_10 rfl ?_
    refine x_iret i_150_11 rn_150 rfl ?_
    exact k M (by rw [if_neg (by omega)]; exact hd) (fun _ _ _ _ => rfl)
  · rw [e2] at g
    refine x_aload_n i_150_6 rfl ?_
    refine x_vh (r := []) (lj := [some _, none]) i_150_7 w_151 ob_170 [] rfl rfl (Nat.le_of_ble_eq_true rfl) (Nat.le_of_ble_eq_true rfl) rfl ?_
    refine c_151 hd ha (fun M' g1 g2 => rt_n ?_)
    refine x_iload_n i_150_10 rfl ?_
    refine x_iret i_150_11 rn_150 rfl ?_
    exact k M' (by rw [if_pos (by omega)]; exact g1) g2
end PST
