/-! the class's search reaches a stand: all of it -/
section REB
variable {sc : a_Sc} {M M0 : a_Mm} {A T E F : HA} {S : HA × Nat} {Q : Option Value → a_Hp → Prop} {n o z i a c : Nat}
theorem nw_t : (nw F z = true) = (far F (F 0 z / 16) z = 4294967295) := by
  unfold nw
  exact propext ⟨fun h => of_decide_eq_true h, fun h => decide_eq_true h⟩
theorem c_129_140 (mb : MB o) {l3 : Nat} {l4 : Option Value} (hz : z ≤ 4000) (v : VS n A) (t : TM n T A) (r : RC M 156 n A) (hc : F 0 z = vl n A) (s : SC M (F, z + 1) i) (ch : CH (F, z + 1)) (mx : MXS M o n F z) (K : ∀ M', RC M' 156 n A → SC M' (F, z + 1) i → MXS M' o n F (z + 1) → FRs o M M' → Q none (a_hp sc o M')) : a_Ex 129 140 [some (.ref 147), some (.int (N a)), some (.int (N (vl n A))), some (.int (N l3)), l4] [] (a_hp sc o M) Q := by
  have hl := vl_lt v
  have hcb : cb n ≤ 27648 := by unfold cb; split <;> omega
  have hfar := far_le (E := F) (z := z) (fun j hj => (ch j (by show j < z + 1; omega)).1) (m := vl n A / 16)
  obtain ⟨m1, m2, m3, m4, m5, m6, m7⟩ := mx
  have nwe := nw_t (F := F) (z := z)
  rw [hc] at nwe
  have hu := un_A v t
  rw [← hc] at hu
  have hlt := mb.lt
  refine x_iload_n i_129_140 rfl ?_
  refine n_bipush 16 i_129_141 rfl ?_
  refine x_idivN (by omega) (by omega) (by omega) i_129_143 ?_
  refine x_istore i_129_144 rfl rfl ?_
  refine x_aload_n i_129_146 rfl ?_
  refine x_gr i_129_147 ob_147 gr_6_10.1 gr_6_10.2 (a_mrf_found _) ?_
  refine x_gr i_129_150 mb.ob gr_7_1.1 gr_7_1.2 (mb.r1 _) ?_
  refine x_iload i_129_153 rfl ?_
  refine n_ld (x := far F (vl n A / 16) z) i_129_155 mb.a1 (by omega) (by omega) (m1 _ (by omega)) ?_
  refine n_iconst 4294967295 i_129_156 rfl ?_
  refine n_ineU (by omega) (by omega) i_129_157 ⟨fun g1 => ?_, fun g1 => ?_⟩
  · have nf : ¬ nw F z = true := by rw [nwe]; exact g1
    refine c_129_184 mb hz v t r hc s ch (fun m hm => ?_) ?_ ?_ ?_ m5 (fun x hx => ?_) m7 K
    · unfold far
      rw [if_neg (fun q => nf (by rw [nwe, ← hc, q.2]; exact q.1))]
      exact m1 m hm
    · unfold mz; rw [if_neg nf]; exact m2
    · unfold mn; rw [if_neg (fun q => nf q.1)]; exact m3
    · unfold mm; rw [if_neg nf]; exact m4
    · unfold bes; rw [if_neg nf]; exact m6 x hx
  · have nt : nw F z = true := by rw [nwe]; exact g1
    refine x_aload_n i_129_160 rfl ?_
    refine x_gr i_129_161 ob_147 gr_6_10.1 gr_6_10.2 (a_mrf_found _) ?_
    refine x_aload_n i_129_164 rfl ?_
    refine x_gr i_129_165 ob_147 gr_6_0.1 gr_6_0.2 (rt_147_0 _) ?_
    refine x_iload i_129_168 rfl ?_
    refine x_aload_n i_129_170 rfl ?_
    refine x_gr i_129_171 ob_147 gr_6_5.1 gr_6_5.2 (rt_147_5 _) ?_
    refine x_aload_n i_129_174 rfl ?_
    refine n_gi (x := z + 1) i_129_175 ob_147 gf_6_6.1 gf_6_6.2 s.1 ?_
    refine n_iconst 1 i_129_178 rfl ?_
    refine x_isubN (by omega) i_129_179 ?_
    rw [show z + 1 - 1 = z by omega]
    refine n_ld (x := F 3 z) i_129_180 ar_169 (by omega) (by omega) (s.2.2.1 z (by show z < z + 1; omega)).2.2.2 ?_
    refine x_vh (r := []) (lj := [some _, some _, some _, some _, none, none]) i_129_181 w_140 mb.ob [_, _, _] rfl rfl (Nat.le_of_ble_eq_true rfl) (Nat.le_of_ble_eq_true rfl) rfl ?_
    refine c_140 mb r (by omega) m2 m3 m6 (fun M1 r1 g1 g2 g3 g4 g5 g6 g7 => rt_n ?_)
    have f0 : ∀ q j, (q < 148 ∨ 156 ≤ q) → M1 q j = M q j := fun q j h => g7 q j (by rcases mb with rfl | rfl <;> omega) (by rcases mb with rfl | rfl <;> omega) (by rcases mb with rfl | rfl <;> omega)
    have s1 : SC M1 (F, z + 1) i := by
      refine ⟨(f0 _ _ (by omega)).trans s.1, (f0 _ _ (by omega)).trans s.2.1, fun j hj => ?_, fun c hc2 => ?_⟩
      · obtain ⟨y1, y2, y3, y4⟩ := s.2.2.1 j hj
        exact ⟨(f0 _ _ (by omega)).trans y1, (f0 _ _ (by omega)).trans y2, (f0 _ _ (by omega)).trans y3, (f0 _ _ (by omega)).trans y4⟩
      · rw [f0 _ _ (by omega)]; exact s.2.2.2 c hc2
    refine c_129_184 mb hz v t r1 hc s1 ch (fun m hm => ?_) ?_ ?_ ?_ ?_ (fun x hx => ?_) (fun u hu1 hf j hj => (g7 _ _ (by omega) (by omega) (by omega)).trans (m7 u hu1 hf j hj)) (fun M2 a1 a2 a3 a4 => K M2 a1 a2 a3 (FRs.trans (fun q k h1 h2 h3 h4 => g7 q k (by omega) (by omega) (by omega)) a4))
    · unfold far
      by_cases y : m = vl n A / 16
      · rw [if_pos ⟨by rw [y, ← nwe]; exact nt, by rw [hc, y]⟩, y]; exact g1
      · rw [if_neg (fun q => y (by rw [← q.2, hc])), g2 m y]; exact m1 m hm
    · unfold mz; rw [if_pos nt]; exact g4
    · rw [g5, show mn n F (z + 1) = if nw F z = true ∧ un n (F 0 z) = true then mn n F z + 1 else mn n F z from rfl]
      by_cases y : s_55 n A (ev n) &&& 48 = 48
      · rw [if_pos y, if_pos ⟨nt, by rw [← hu]; exact y⟩]
      · rw [if_neg y, if_neg (fun q => y (by rw [hu]; exact q.2))]
    · unfold mm; rw [if_pos nt]; exact g3
    · rw [g7 _ _ (by omega) (by omega) (by omega)]; exact m5
    · unfold bes; rw [if_pos nt, g6 x hx, hc, bh_A v t]
/-- an entry is put behind the others -/
theorem MXS.cg (h : ∀ w j, j < z → F w j = E w j) (ch : CH (E, z)) (mx : MXS M o n E z) : MXS M o n F z := by
  obtain ⟨m1, m2, m3, m4, m5, m6, m7⟩ := mx
  refine ⟨fun m hm => by rw [far_c z h]; exact m1 m hm, by rw [mz_c z h]; exact m2, by rw [mn_c z h]; exact m3, by rw [mm_c z h]; exact m4, by rw [wln_c z h]; exact m5, fun x hx => by rw [bes_c z h]; exact m6 x hx, fun u hu hf i hi => ?_⟩
  have hf' : fun1 n E u := ⟨by rw [← h 0 u hu]; exact hf.1, fun v hv => by rw [← h 0 v (by omega)]; exact hf.2 v hv⟩
  have ca : ∀ t, t ≤ E 3 u → anc E u t < z := (ch u hu).2
  rw [h 3 u hu] at hi ⊢
  have e := anc_c h (u := u) (E 3 u - 1 - i) (fun t ht => ca t (by omega))
  rw [e, h 2 _ (ca _ (by omega))]
  exact m7 u hu hf' i hi
theorem c_129_129 (mb : MB o) {l3 : Nat} {l4 : Option Value} (hz : z ≤ 4000) (v : VS n A) (t : TM n T A) (r : RC M 156 n A) (hc : F 0 z = vl n A) (h6 : M 147 6 = N z) (h7 : M 147 7 = N i) (ha : ∀ j, j < z + 1 → M 166 j = N (F 0 j) ∧ M 167 j = N (F 1 j) ∧ M 168 j = N (F 2 j)) (h9 : ∀ j, j < z → M 169 j = N (F 3 j)) (hs : ∀ c, c < 27648 → ((M 165 (c / 32)).toBitVec.toNat).testBit (c % 32) = ms F c (z + 1)) (ch : CH (F, z + 1)) (mx : MXS M o n F z) (K : ∀ M', RC M' 156 n A → SC M' (F, z + 1) i → MXS M' o n F (z + 1) → FRs o M M' → Q none (a_hp sc o M')) : a_Ex 129 129 [some (.ref 147), some (.int (N a)), some (.int (N (vl n A))), some (.int (N l3)), l4] [.int (N (F 3 z)), .int (N z), .ref 169] (a_hp sc o M) Q := by
  refine n_st i_129_129 ar_169 (by omega) (by omega) ?_
  refine x_aload_n i_129_130 rfl ?_
  refine x_dup i_129_131 rfl ?_
  refine n_gi (x := z) i_129_132 ob_147 gf_6_6.1 gf_6_6.2 (by rw [a_up_def, if_neg (by omega)]; exact h6) ?_
  refine n_iconst 1 i_129_135 rfl ?_
  refine x_iaddN i_129_136 ?_
  refine x_pi i_129_137 ob_147 pf_6_6.1 pf_6_6.2 ?_
  have f0 : ∀ q j, ¬ q = 169 → ¬ (q = 147 ∧ j = 6) → a_up (a_up M 169 z (N (F 3 z))) 147 6 (N (z + 1)) q j = M q j := fun q j h1 h2 => by rw [a_up_def, if_neg h2, a_up_def, if_neg (fun y => h1 y.1)]
  have f1 : a_up (a_up M 169 z (N (F 3 z))) 147 6 (N (z + 1)) 147 6 = N (z + 1) := by rw [a_up_def, if_pos ⟨rfl, rfl⟩]
  have f2 : ∀ j, j < z + 1 → a_up (a_up M 169 z (N (F 3 z))) 147 6 (N (z + 1)) 169 j = N (F 3 j) := fun j hj => by
    rw [a_up_def, if_neg (by omega), a_up_def]
    by_cases y : j = z
    · rw [if_pos ⟨rfl, y⟩, y]
    · rw [if_neg (fun w => y w.2)]; exact h9 j (by omega)
  generalize a_up (a_up M 169 z (N (F 3 z))) 147 6 (N (z + 1)) = M1 at f0 f1 f2 ⊢
  have hlt := mb.lt
  refine c_129_140 mb hz v t (r.same (fun q j h1 h2 => f0 q j (by omega) (by omega))) hc ⟨f1, (f0 _ _ (by omega) (by omega)).trans h7, fun j hj => ?_, fun c hc2 => ?_⟩ ch ?_ (fun M2 a1 a2 a3 a4 => K M2 a1 a2 a3 (FRs.trans (fun q k h1 h2 h3 h4 => f0 q k (by omega) (by omega)) a4))
  · obtain ⟨y1, y2, y3⟩ := ha j hj
    exact ⟨(f0 _ _ (by omega) (by omega)).trans y1, (f0 _ _ (by omega) (by omega)).trans y2, (f0 _ _ (by omega) (by omega)).trans y3, f2 j hj⟩
  · rw [f0 _ _ (by omega) (by omega)]; exact hs c hc2
  · obtain ⟨m1, m2, m3, m4, m5, m6, m7⟩ := mx
    exact ⟨fun m hm => (f0 _ _ (by rcases mb with rfl | rfl <;> omega) (by rcases mb with rfl | rfl <;> omega)).trans (m1 m hm), (f0 _ _ (by rcases mb with rfl | rfl <;> omega) (by rcases mb with rfl | rfl <;> omega)).trans m2, (f0 _ _ (by rcases mb with rfl | rfl <;> omega) (by rcases mb with rfl | rfl <;> omega)).trans m3, (f0 _ _ (by rcases mb with rfl | rfl <;> omega) (by rcases mb with rfl | rfl <;> omega)).trans m4, (f0 _ _ (by rcases mb with rfl | rfl <;> omega) (by rcases mb with rfl | rfl <;> omega)).trans m5, fun x hx => (f0 _ _ (by rcases mb with rfl | rfl <;> omega) (by rcases mb with rfl | rfl <;> omega)).trans (m6 x hx), fun u h1 h2 j hj => (f0 _ _ (by rcases mb with rfl | rfl <;> omega) (by rcases mb with rfl | rfl <;> omega)).trans (m7 u h1 h2 j hj)⟩
theorem shl_t (b j : Nat) : (1 <<< b).testBit j = decide (b = j) := by rw [Nat.one_shiftLeft, Nat.testBit_two_pow]
theorem and_bit (x b : Nat) : (x &&& 1 <<< b = 0) = (x.testBit b = false) := by
  refine propext ⟨fun h => ?_, fun h => (and0 x _).mpr fun v hv => ?_⟩
  · cases e : x.testBit b with
    | false => rfl
    | true =>
      have := (and0 x _).mp h b e
      rw [shl_t] at this
      simp at this
  · rw [shl_t]
    by_cases y : b = v
    · rw [y] at h; rw [h] at hv; exact absurd hv (by decide)
    · simp [y]
theorem shl_lt {b : Nat} (h : b < 32) : 1 <<< b < 4294967296 := by
  rw [Nat.one_shiftLeft]
  exact Nat.lt_of_lt_of_le (Nat.pow_lt_pow_right (by omega) h) (by decide)
theorem ms_c {c : Nat} : ∀ z, (∀ j, j < z → F 0 j = E 0 j) → ms F c z = ms E c z := by
  intro z
  induction z with
  | zero => intro _; rfl
  | succ z ih => intro h; unfold ms; rw [ih (fun j hj => h j (by omega)), h z (by omega)]
theorem c_129 (mb : MB o) (hz : S.2 ≤ 4000) (v : VS n A) (t : TM n T A) (r : RC M 156 n A) (s : SC M S i) (hi : i = 4294967295 ∨ i < S.2) (ch0 : CH S) (ch : CH (adE S (vl n A) i a)) (mx : MXS M o n S.1 S.2) (K : ∀ M', RC M' 156 n A → SC M' (adE S (vl n A) i a) i → MXS M' o n (adE S (vl n A) i a).1 (adE S (vl n A) i a).2 → FRs o M M' → Q none (a_hp sc o M')) : a_Ex 129 0 [some (.ref 147), some (.int (N a)), none, none, none] [] (a_hp sc o M) Q := by
  have hl := vl_lt v
  have hcb : cb n ≤ 27648 := by unfold cb; split <;> omega
  obtain ⟨E, z⟩ := S
  have hz : z ≤ 4000 := hz
  have h6 : M 147 6 = N z := s.1
  have h7 : M 147 7 = N i := s.2.1
  have hse := s.2.2.2 (vl n A) (by omega)
  have hvb : (M 165 (vl n A / 32)).toBitVec.toNat < 4294967296 := (M 165 (vl n A / 32)).toBitVec.isLt
  have hbb : vl n A % 32 < 32 := Nat.mod_lt _ (by omega)
  have hab := and_bit ((M 165 (vl n A / 32)).toBitVec.toNat) (vl n A % 32)
  have hal : (M 165 (vl n A / 32)).toBitVec.toNat &&& 1 <<< (vl n A % 32) < 4294967296 := Nat.lt_of_le_of_lt Nat.and_le_left hvb
  refine x_aload_n i_129_0 rfl ?_
  refine x_gr i_129_1 ob_147 gr_6_0.1 gr_6_0.2 (rt_147_0 _) ?_
  refine x_vh (r := []) (lj := [some _, none, none]) i_129_4 w_93 hb156.ob [] rfl rfl (Nat.le_of_ble_eq_true rfl) (Nat.le_of_ble_eq_true rfl) rfl ?_
  refine c_93 hb156 r (rt_i ?_)
  rw [s93_vl v]
  refine x_istore_n i_129_7 rfl rfl ?_
  refine x_iload_n i_129_8 rfl ?_
  refine x_zltN (by omega) i_129_9 ?_
  refine x_iload_n i_129_12 rfl ?_
  refine n_sipush 27648 i_129_13 rfl ?_
  refine x_igeN (by omega) (by omega) i_129_16 ⟨fun g1 => ?_, fun g1 => ?_⟩
  · exact absurd g1 (by omega)
  · refine x_aload_n i_129_19 rfl ?_
    refine n_gi (x := z) i_129_20 ob_147 gf_6_6.1 gf_6_6.2 h6 ?_
    refine n_sipush 4096 i_129_23 rfl ?_
    refine x_iltN (by omega) (by omega) i_129_26 ⟨fun g2 => ?_, fun g2 => ?_⟩
    · refine n_iconst 1 i_129_30 rfl ?_
      refine x_iload_n i_129_31 rfl ?_
      refine n_bipush 32 i_129_32 rfl ?_
      refine x_iremN (by omega) (by omega) (by omega) i_129_34 ?_
      refine x_ishlN (by omega) i_129_35 ?_
      refine x_istore_n i_129_36 rfl rfl ?_
      refine x_aload_n i_129_37 rfl ?_
      refine x_gr i_129_38 ob_147 gr_6_1.1 gr_6_1.2 (rt_147_1 _) ?_
      refine x_iload_n i_129_41 rfl ?_
      refine n_bipush 32 i_129_42 rfl ?_
      refine x_idivN (by omega) (by omega) (by omega) i_129_44 ?_
      refine n_ld (x := (M 165 (vl n A / 32)).toBitVec.toNat) i_129_45 ar_165 (by omega) (by omega) (N_nat _).symm ?_
      refine x_iload_n i_129_46 rfl ?_
      refine x_iandN i_129_47 ?_
      refine n_zeqU hal i_129_48 ⟨fun g3 => ?_, fun g3 => ?_⟩
      · rw [hab] at g3
        rw [g3] at hse
        have nin : ¬ ms E (vl n A) z = true := by rw [← hse]; decide
        have ead : adE (E, z) (vl n A) i a = (exE E z (vl n A) i a, z + 1) := by unfold adE; rw [if_neg nin]
        rw [ead] at ch K
        have d3 : exE E z (vl n A) i a 3 z = if i = 4294967295 then 0 else E 3 i + 1 := by unfold exE; rw [a_up_def, if_pos ⟨rfl, rfl⟩]
        refine x_aload_n i_129_52 rfl ?_
        refine x_gr i_129_53 ob_147 gr_6_1.1 gr_6_1.2 (rt_147_1 _) ?_
        refine x_iload_n i_129_56 rfl ?_
        refine n_bipush 32 i_129_57 rfl ?_
        refine x_idivN (by omega) (by omega) (by omega) i_129_59 ?_
        refine x_dup2 i_129_60 rfl rfl ?_
        refine n_ld (x := (M 165 (vl n A / 32)).toBitVec.toNat) i_129_61 ar_165 (by omega) (by omega) (N_nat _).symm ?_
        refine x_iload_n i_129_62 rfl ?_
        refine x_iorN i_129_63 ?_
        refine n_st i_129_64 ar_165 (by omega) (by omega) ?_
        generalize hv2 : (M 165 (vl n A / 32)).toBitVec.toNat ||| 1 <<< (vl n A % 32) = v2
        refine x_aload_n i_129_65 rfl ?_
        refine x_gr i_129_66 ob_147 gr_6_2.1 gr_6_2.2 (rt_147_2 _) ?_
        refine x_aload_n i_129_69 rfl ?_
        refine n_gi (x := z) i_129_70 ob_147 gf_6_6.1 gf_6_6.2 (by rw [a_up_def, if_neg (by omega)]; exact h6) ?_
        refine x_iload_n i_129_73 rfl ?_
        refine n_st i_129_74 ar_166 (by omega) (by omega) ?_
        refine x_aload_n i_129_75 rfl ?_
        refine x_gr i_129_76 ob_147 gr_6_3.1 gr_6_3.2 (rt_147_3 _) ?_
        refine x_aload_n i_129_79 rfl ?_
        refine n_gi (x := z) i_129_80 ob_147 gf_6_6.1 gf_6_6.2 (by rw [a_up_def, if_neg (by omega), a_up_def, if_neg (by omega)]; exact h6) ?_
        refine x_aload_n i_129_83 rfl ?_
        refine n_gi (x := i) i_129_84 ob_147 gf_6_7.1 gf_6_7.2 (by rw [a_up_def, if_neg (by omega), a_up_def, if_neg (by omega)]; exact h7) ?_
        refine n_st i_129_87 ar_167 (by omega) (by omega) ?_
        refine x_aload_n i_129_88 rfl ?_
        refine x_gr i_129_89 ob_147 gr_6_4.1 gr_6_4.2 (rt_147_4 _) ?_
        refine x_aload_n i_129_92 rfl ?_
        refine n_gi (x := z) i_129_93 ob_147 gf_6_6.1 gf_6_6.2 (by rw [a_up_def, if_neg (by omega), a_up_def, if_neg (by omega), a_up_def, if_neg (by omega)]; exact h6) ?_
        refine x_iload_n i_129_96 rfl ?_
        refine n_st i_129_97 ar_168 (by omega) (by omega) ?_
        have g0 : ∀ q j, (q < 165 ∨ 168 < q) → a_up (a_up (a_up (a_up M 165 (vl n A / 32) (N v2)) 166 z (N (vl n A))) 167 z (N i)) 168 z (N a) q j = M q j := fun q j h => by rw [a_up_def, if_neg (by omega), a_up_def, if_neg (by omega), a_up_def, if_neg (by omega), a_up_def, if_neg (by omega)]
        have g5 : ∀ j, a_up (a_up (a_up (a_up M 165 (vl n A / 32) (N v2)) 166 z (N (vl n A))) 167 z (N i)) 168 z (N a) 165 j = if j = vl n A / 32 then N v2 else M 165 j := fun j => by
          rw [a_up_def, if_neg (by omega), a_up_def, if_neg (by omega), a_up_def, if_neg (by omega)]
          rw [a_up_def]
          by_cases y : j = vl n A / 32
          · rw [if_pos ⟨rfl, y⟩, if_pos y]
          · rw [if_neg (fun w => y w.2), if_neg y]
        have g6 : ∀ j, j < z + 1 → a_up (a_up (a_up (a_up M 165 (vl n A / 32) (N v2)) 166 z (N (vl n A))) 167 z (N i)) 168 z (N a) 166 j = N (exE E z (vl n A) i a 0 j) ∧ a_up (a_up (a_up (a_up M 165 (vl n A / 32) (N v2)) 166 z (N (vl n A))) 167 z (N i)) 168 z (N a) 167 j = N (exE E z (vl n A) i a 1 j) ∧ a_up (a_up (a_up (a_up M 165 (vl n A / 32) (N v2)) 166 z (N (vl n A))) 167 z (N i)) 168 z (N a) 168 j = N (exE E z (vl n A) i a 2 j) := fun j hj => by
          by_cases y : j = z
          · subst y
            rw [exE_0, exE_1, exE_2]
            refine ⟨?_, ?_, ?_⟩
            · rw [a_up_def, if_neg (by omega), a_up_def, if_neg (by omega)]; rw [a_up_def, if_pos ⟨rfl, rfl⟩]
            · rw [a_up_def, if_neg (by omega)]; rw [a_up_def, if_pos ⟨rfl, rfl⟩]
            · rw [a_up_def, if_pos ⟨rfl, rfl⟩]
          · rw [exE_o y, exE_o y, exE_o y]
            obtain ⟨y1, y2, y3, -⟩ := s.2.2.1 j (by show j < z; omega)
            refine ⟨?_, ?_, ?_⟩
            · rw [a_up_def, if_neg (by omega), a_up_def, if_neg (by omega), a_up_def, if_neg (by omega), a_up_def, if_neg (by omega)]; exact y1
            · rw [a_up_def, if_neg (by omega), a_up_def, if_neg (by omega), a_up_def, if_neg (by omega), a_up_def, if_neg (by omega)]; exact y2
            · rw [a_up_def, if_neg (by omega), a_up_def, if_neg (by omega), a_up_def, if_neg (by omega), a_up_def, if_neg (by omega)]; exact y3
        generalize a_up (a_up (a_up (a_up M 165 (vl n A / 32) (N v2)) 166 z (N (vl n A))) 167 z (N i)) 168 z (N a) = M4 at g0 g5 g6 ⊢
        have X : ∀ (l3 : Nat) (l4 : Option Value), a_Ex 129 129 [some (.ref 147), some (.int (N a)), some (.int (N (vl n A))), some (.int (N l3)), l4] [.int (N (exE E z (vl n A) i a 3 z)), .int (N z), .ref 169] (a_hp sc o M4) Q := fun l3 l4 => by
          refine c_129_129 mb hz v t (r.same (fun q j h1 h2 => g0 q j (by omega))) exE_0 ((g0 _ _ (by omega)).trans h6) ((g0 _ _ (by omega)).trans h7) g6 (fun j hj => ?_) (fun c hc2 => ?_) ch ?_ (fun M2 a1 a2 a3 a4 => K M2 a1 a2 a3 (FRs.trans (fun q k h1 h2 h3 h4 => g0 q k (by omega)) a4))
          · rw [exE_o (by omega), g0 _ _ (by omega)]; exact (s.2.2.1 j hj).2.2.2
          · have old := s.2.2.2 c hc2
            have old : ((M 165 (c / 32)).toBitVec.toNat).testBit (c % 32) = ms E c z := old
            have ems : ms (exE E z (vl n A) i a) c (z + 1) = if vl n A = c then true else ms E c z := by
              show (if exE E z (vl n A) i a 0 z = c then true else ms (exE E z (vl n A) i a) c z) = _
              rw [exE_0, ms_c z (fun j hj => exE_o (by omega))]
            rw [ems, g5]
            by_cases y : c / 32 = vl n A / 32
            · rw [if_pos y, N_bv, BitVec.toNat_ofNat, ← hv2, Nat.mod_eq_of_lt (Nat.or_lt_two_pow (n := 32) hvb (shl_lt hbb)), Nat.testBit_or, shl_t, ← y, old]
              by_cases y2 : vl n A = c
              · rw [if_pos y2, y2]; simp
              · rw [if_neg y2, show decide (vl n A % 32 = c % 32) = false from decide_eq_false (by omega), Bool.or_false]
            · rw [if_neg y, old, if_neg (fun q => y (by rw [q]))]
          · refine MXS.cg (E := E) (fun w j hj => exE_o (by omega)) ch0 ?_
            obtain ⟨m1, m2, m3, m4, m5, m6, m7⟩ := mx
            have hlt := mb.lt
            have gg : ∀ q j, o ≤ q → q ≤ o + 3 → M4 q j = M q j := fun q j h1 h2 => g0 q j (by rcases mb with rfl | rfl <;> omega)
            exact ⟨fun m hm => (gg _ _ (by omega) (by omega)).trans (m1 m hm), (gg _ _ (by omega) (by omega)).trans m2, (gg _ _ (by omega) (by omega)).trans m3, (gg _ _ (by omega) (by omega)).trans m4, (gg _ _ (by omega) (by omega)).trans m5, fun x hx => (gg _ _ (by omega) (by omega)).trans (m6 x hx), fun u h1 h2 j hj => (gg _ _ (by omega) (by omega)).trans (m7 u h1 h2 j hj)⟩
        refine x_aload_n i_129_98 rfl ?_
        refine x_gr i_129_99 ob_147 gr_6_5.1 gr_6_5.2 (rt_147_5 _) ?_
        refine x_aload_n i_129_102 rfl ?_
        refine n_gi (x := z) i_129_103 ob_147 gf_6_6.1 gf_6_6.2 ((g0 _ _ (by omega)).trans h6) ?_
        refine x_aload_n i_129_106 rfl ?_
        refine n_gi (x := i) i_129_107 ob_147 gf_6_7.1 gf_6_7.2 ((g0 _ _ (by omega)).trans h7) ?_
        refine n_iconst 4294967295 i_129_110 rfl ?_
        refine n_ineU (by omega) (by omega) i_129_111 ⟨fun g4 => ?_, fun g4 => ?_⟩
        · rw [if_neg g4] at d3
          have hi2 : i < z := by rcases hi with q | q; exact absurd q g4; exact q
          refine x_aload_n i_129_118 rfl ?_
          refine x_gr i_129_119 ob_147 gr_6_5.1 gr_6_5.2 (rt_147_5 _) ?_
          refine x_aload_n i_129_122 rfl ?_
          refine n_gi (x := i) i_129_123 ob_147 gf_6_7.1 gf_6_7.2 ((g0 _ _ (by omega)).trans h7) ?_
          refine n_ld (x := E 3 i) i_129_126 ar_169 (by omega) (by omega) ((g0 _ _ (by omega)).trans (s.2.2.1 i hi2).2.2.2) ?_
          refine n_iconst 1 i_129_127 rfl ?_
          refine x_iaddN i_129_128 ?_
          rw [← d3]
          exact X _ _
        · rw [if_pos g4] at d3
          refine n_iconst 0 i_129_114 rfl ?_
          refine x_goto i_129_115 ?_
          rw [← d3]
          exact X _ _
      · have hin : ms E (vl n A) z = true := by
          rw [hab] at g3
          show ms (E, z).1 (vl n A) (E, z).2 = true
          rw [← hse]
          cases e : ((M 165 (vl n A / 32)).toBitVec.toNat).testBit (vl n A % 32) with
          | true => rfl
          | false => exact absurd e g3
        have ead : adE (E, z) (vl n A) i a = (E, z) := by unfold adE; rw [if_pos hin]
        rw [ead] at K
        refine x_vret i_129_51 rn_129 ?_
        exact K M r s mx (fun _ _ _ _ _ _ => rfl)
    · exact absurd (show z < 4096 by omega) g2
end REB
