/-! the class's search reaches a stand -/
def SC (M : a_Mm) (S : HA × Nat) (i : Nat) : Prop := M 147 6 = N S.2 ∧ M 147 7 = N i ∧ (∀ j, j < S.2 → M 166 j = N (S.1 0 j) ∧ M 167 j = N (S.1 1 j) ∧ M 168 j = N (S.1 2 j) ∧ M 169 j = N (S.1 3 j)) ∧ ∀ c, c < 27648 → ((M 165 (c / 32)).toBitVec.toNat).testBit (c % 32) = ms S.1 c S.2
def FRs (o : Nat) (M M' : a_Mm) : Prop := ∀ q k, ¬ (165 ≤ q ∧ q ≤ 169) → ¬ (q = 147 ∧ k = 6) → ¬ (q = o ∧ ¬ k = 0) → ¬ (o + 1 ≤ q ∧ q ≤ o + 3) → M' q k = M q k
/-- the way to a stand lies in what was found -/
def CH (S : HA × Nat) : Prop := ∀ u, u < S.2 → S.1 3 u ≤ 64 ∧ ∀ t, t ≤ S.1 3 u → anc S.1 u t < S.2
section REA
variable {sc : a_Sc} {M M0 : a_Mm} {A T E F : HA} {S : HA × Nat} {Q : Option Value → a_Hp → Prop} {n o z i a c : Nat}
theorem FRs.trans {M1 M2 : a_Mm} (h : FRs o M M1) (g : FRs o M1 M2) : FRs o M M2 := fun q k a b c d => (g q k a b c d).trans (h q k a b c d)
theorem far_le (h : ∀ j, j < z → E 3 j ≤ 64) {m : Nat} : far E m z ≤ 64 ∨ far E m z = 4294967295 := by
  induction z with
  | zero => exact Or.inr rfl
  | succ z ih =>
    unfold far
    split
    · exact Or.inl (h z (by omega))
    · exact ih (fun j hj => h j (by omega))
theorem wln_le : wln n E z ≤ 64 ∨ wln n E z = 4294967295 := by
  induction z with
  | zero => exact Or.inr rfl
  | succ z ih =>
    unfold wln
    split
    · exact Or.inl (by omega)
    · exact ih
theorem wln_no (h : ∀ u, u < z → ¬ un n (E 0 u) = true) : wln n E z = 4294967295 := by
  induction z with
  | zero => rfl
  | succ z ih =>
    unfold wln
    rw [if_neg (fun q => h z (by omega) q.2)]
    exact ih (fun u hu => h u (by omega))
theorem wln_yes {u : Nat} (hu : u < z) (h : un n (E 0 u) = true) : ¬ wln n E z = 4294967295 := by
  induction z with
  | zero => omega
  | succ z ih =>
    unfold wln
    split
    · omega
    · rename_i q
      by_cases e : u = z
      · rw [e] at h
        intro y
        exact q ⟨y, h⟩
      · exact ih (by omega)
theorem wln_f {u : Nat} (hu : u < z) (h : fun1 n E u) : wln n E z = min (E 3 u) 64 := by
  induction z with
  | zero => omega
  | succ z ih =>
    unfold wln
    by_cases e : u = z
    · subst e
      rw [if_pos ⟨wln_no h.2, h.1⟩]
    · rw [if_neg (fun q => wln_yes (n := n) (E := E) (show u < z by omega) h.1 q.1)]
      exact ih (by omega)
theorem anc_c (h : ∀ w j, j < z → F w j = E w j) {u : Nat} : ∀ t, (∀ t', t' ≤ t → anc E u t' < z) → anc F u t = anc E u t := by
  intro t
  induction t with
  | zero => intro _; rfl
  | succ t ih =>
    intro hc
    unfold anc
    rw [ih (fun t' ht => hc t' (by omega)), h 1 _ (hc t (by omega))]
theorem s264_min (x y : Nat) : s_264 x y = min x y := s264 x y
/-- the way is noted -/
theorem c_130_31 (mb : MB o) {u d : Nat} (hz : z ≤ 4096) (hd : d ≤ 64) (ha : ∀ t, t ≤ d → anc E u t < z) : ∀ k {M : a_Mm}, k ≤ d → (∀ j, j < z → M 167 j = N (E 1 j) ∧ M 168 j = N (E 2 j)) → (∀ i, k ≤ i → i < d → M (o + 3) i = N (E 2 (anc E u (d - 1 - i)))) → (∀ q j, ¬ q = o + 3 → M q j = M0 q j) → (∀ M', (∀ i, i < d → M' (o + 3) i = N (E 2 (anc E u (d - 1 - i)))) → (∀ q j, ¬ q = o + 3 → M' q j = M0 q j) → Q none (a_hp sc o M')) → a_Ex 130 31 [some (.ref 147), some (.int (N (anc E u (d - k)))), some (.int (N d)), some (.int (N (k + 4294967295)))] [] (a_hp sc o M) Q := by
  intro k
  induction k with
  | zero =>
    intro M hk h1 h2 fr K
    refine x_iload_n i_130_31 rfl ?_
    refine n_declt (by omega) i_130_32 ⟨fun _ => ?_, fun g => absurd rfl g⟩
    refine x_vret i_130_67 rn_130 ?_
    exact K M (fun i hi => h2 i (by omega) hi) fr
  | succ k ih =>
    intro M hk h1 h2 fr K
    have at1 := ha (d - (k + 1)) (by omega)
    have at2 := ha (d - k) (by omega)
    have en : anc E u (d - k) = E 1 (anc E u (d - (k + 1))) := by rw [show d - k = d - (k + 1) + 1 by omega]; rfl
    have hlt := mb.lt
    refine x_iload_n i_130_31 rfl ?_
    refine n_declt (by omega) i_130_32 ⟨fun g => absurd g (by omega), fun _ => ?_⟩
    rw [N_dec (x := k + 1) (by omega), show k + 1 - 1 = k by omega]
    have e2 := h1 _ at1
    refine x_iload_n i_130_35 rfl ?_
    refine x_zltN (by omega) i_130_36 ?_
    refine x_aload_n i_130_39 rfl ?_
    refine x_gr i_130_40 ob_147 gr_6_10.1 gr_6_10.2 (a_mrf_found _) ?_
    refine x_gr i_130_43 mb.ob gr_7_3.1 gr_7_3.2 (mb.r3 _) ?_
    refine x_iload_n i_130_46 rfl ?_
    refine x_aload_n i_130_47 rfl ?_
    refine x_gr i_130_48 ob_147 gr_6_4.1 gr_6_4.2 (rt_147_4 _) ?_
    refine x_iload_n i_130_51 rfl ?_
    refine n_ld (x := E 2 (anc E u (d - (k + 1)))) i_130_52 ar_168 (by omega) (by omega) e2.2 ?_
    refine n_st i_130_53 mb.a3 (by omega) (by omega) ?_
    refine x_aload_n i_130_54 rfl ?_
    refine x_gr i_130_55 ob_147 gr_6_3.1 gr_6_3.2 (rt_147_3 _) ?_
    refine x_iload_n i_130_58 rfl ?_
    refine n_ld (x := E 1 (anc E u (d - (k + 1)))) i_130_59 ar_167 (by omega) (by omega) (by rw [a_up_def, if_neg (by rcases mb with rfl | rfl <;> omega)]; exact e2.1) ?_
    refine x_istore_n i_130_60 rfl rfl ?_
    refine n_iinc 4294967295 i_130_61 rfl rfl rfl rfl ?_
    refine x_goto i_130_64 ?_
    rw [← en]
    refine ih (by omega) (fun j hj => ?_) (fun i h3 h4 => ?_) (fun q j hq => by rw [a_up_def, if_neg (fun y => hq y.1)]; exact fr q j hq) K
    · rw [a_up_def, if_neg (by rcases mb with rfl | rfl <;> omega), a_up_def, if_neg (by rcases mb with rfl | rfl <;> omega)]; exact h1 j hj
    · rw [a_up_def]
      by_cases y : i = k
      · rw [if_pos ⟨rfl, y⟩, y, show d - 1 - k = d - (k + 1) by omega]
      · rw [if_neg (fun w => y w.2)]; exact h2 i (by omega) h4
theorem c_130 (mb : MB o) {u : Nat} (hz : z ≤ 4096) (hu : z = u + 1) (hd : E 3 u ≤ 64) (ha : ∀ t, t ≤ E 3 u → anc E u t < z) (h6 : M 147 6 = N z) (h1 : ∀ j, j < z → M 167 j = N (E 1 j) ∧ M 168 j = N (E 2 j) ∧ M 169 j = N (E 3 j)) (K : ∀ M', (∀ i, i < E 3 u → M' (o + 3) i = N (E 2 (anc E u (E 3 u - 1 - i)))) → M' o 4 = N (E 3 u) → (∀ q j, ¬ q = o + 3 → ¬ (q = o ∧ j = 4) → M' q j = M q j) → Q none (a_hp sc o M')) : a_Ex 130 0 [some (.ref 147), none, none, none] [] (a_hp sc o M) Q := by
  have e3 := (h1 u (by omega)).2.2
  have hlt := mb.lt
  refine x_aload_n i_130_0 rfl ?_
  refine n_gi (x := z) i_130_1 ob_147 gf_6_6.1 gf_6_6.2 h6 ?_
  refine n_iconst 1 i_130_4 rfl ?_
  refine x_isubN (by omega) i_130_5 ?_
  rw [show z - 1 = u by omega]
  refine x_istore_n i_130_6 rfl rfl ?_
  refine x_aload_n i_130_7 rfl ?_
  refine x_gr i_130_8 ob_147 gr_6_5.1 gr_6_5.2 (rt_147_5 _) ?_
  refine x_iload_n i_130_11 rfl ?_
  refine n_ld (x := E 3 u) i_130_12 ar_169 (by omega) (by omega) e3 ?_
  refine n_bipush 64 i_130_13 rfl ?_
  refine x_sh (r := []) (lj := [some _, some _]) i_130_15 ws_264 [_, _] rfl rfl (Nat.le_of_ble_eq_true rfl) (Nat.le_of_ble_eq_true rfl) rfl ?_
  refine c_264 (by omega) (by omega) (fun _ => rt_i ?_)
  rw [s264, show min (E 3 u) 64 = E 3 u by omega]
  refine x_istore_n i_130_18 rfl rfl ?_
  refine x_aload_n i_130_19 rfl ?_
  refine x_gr i_130_20 ob_147 gr_6_10.1 gr_6_10.2 (a_mrf_found _) ?_
  refine x_iload_n i_130_23 rfl ?_
  refine x_pi i_130_24 mb.ob pf_7_4.1 pf_7_4.2 ?_
  have f1 : ∀ q j, ¬ (q = o ∧ j = 4) → a_up M o 4 (N (E 3 u)) q j = M q j := fun q j h => by rw [a_up_def, if_neg h]
  have f2 : a_up M o 4 (N (E 3 u)) o 4 = N (E 3 u) := by rw [a_up_def, if_pos ⟨rfl, rfl⟩]
  generalize a_up M o 4 (N (E 3 u)) = M1 at f1 f2 ⊢
  refine x_iload_n i_130_27 rfl ?_
  refine n_iconst 1 i_130_28 rfl ?_
  refine n_isubK 4294967295 rfl i_130_29 ?_
  refine x_istore_n i_130_30 rfl rfl ?_
  have := c_130_31 (sc := sc) (Q := Q) (M0 := M1) (E := E) (u := u) mb hz hd ha (E 3 u) (M := M1) (Nat.le_refl _) (fun j hj => ⟨(f1 _ _ (by rcases mb with rfl | rfl <;> omega)).trans (h1 j hj).1, (f1 _ _ (by rcases mb with rfl | rfl <;> omega)).trans (h1 j hj).2.1⟩) (fun i h3 h4 => absurd h3 (by omega)) (fun _ _ _ => rfl) (fun M2 g1 g2 => K M2 g1 ((g2 _ _ (by omega)).trans f2) (fun q j h3 h4 => (g2 q j h3).trans (f1 q j h4)))
  rw [Nat.sub_self] at this
  exact this
/-- the last part: is it the first unlike one -/
theorem c_129_184 (mb : MB o) {l3 l4 : Nat} (hz : z ≤ 4000) (v : VS n A) (t : TM n T A) (r : RC M 156 n A) (hc : F 0 z = vl n A) (s : SC M (F, z + 1) i) (ch : CH (F, z + 1)) (m1 : ∀ m, m < 1728 → M (o + 1) m = N (far F m (z + 1))) (m2 : M o 5 = N (mz F (z + 1))) (m3 : M o 6 = N (mn n F (z + 1))) (m4 : M o 7 = N (mm F (z + 1))) (m5 : M o 4 = N (wln n F z)) (m6 : ∀ x, x < 6 → M (o + 2) x = N (bes n F x (z + 1))) (m7 : ∀ u, u < z → fun1 n F u → ∀ i, i < F 3 u → M (o + 3) i = N (F 2 (anc F u (F 3 u - 1 - i)))) (K : ∀ M', RC M' 156 n A → SC M' (F, z + 1) i → MXS M' o n F (z + 1) → FRs o M M' → Q none (a_hp sc o M')) : a_Ex 129 184 [some (.ref 147), some (.int (N a)), some (.int (N c)), some (.int (N l3)), some (.int (N l4))] [] (a_hp sc o M) Q := by
  have hw := wln_le (n := n) (E := F) (z := z)
  have hu := un_A v t
  rw [← hc] at hu
  have no : ¬ (wln n F z = 4294967295 ∧ un n (F 0 z) = true) → Q none (a_hp sc o M) := fun q => by
    refine K M r s ⟨m1, m2, m3, m4, ?_, m6, fun u hu1 hf => ?_⟩ (fun _ _ _ _ _ _ => rfl)
    · unfold wln; rw [if_neg q]; exact m5
    · by_cases e : u = z
      · subst e
        exact absurd ⟨wln_no hf.2, hf.1⟩ q
      · exact m7 u (by omega) hf
  refine x_aload_n i_129_184 rfl ?_
  refine x_gr i_129_185 ob_147 gr_6_10.1 gr_6_10.2 (a_mrf_found _) ?_
  refine n_gi (x := wln n F z) i_129_188 mb.ob gf_7_4.1 gf_7_4.2 m5 ?_
  refine n_iconst 4294967295 i_129_191 rfl ?_
  refine n_ineU (by omega) (by omega) i_129_192 ⟨fun g1 => ?_, fun g1 => ?_⟩
  · have no := no (fun q => g1 q.1)
    refine x_vret i_129_213 rn_129 ?_
    exact no
  · have wz := g1
    refine x_aload_n i_129_195 rfl ?_
    refine x_gr i_129_196 ob_147 gr_6_10.1 gr_6_10.2 (a_mrf_found _) ?_
    refine x_aload_n i_129_199 rfl ?_
    refine x_gr i_129_200 ob_147 gr_6_0.1 gr_6_0.2 (rt_147_0 _) ?_
    refine x_vh (r := []) (lj := [some _, some _]) i_129_203 w_141 mb.ob [_] rfl rfl (Nat.le_of_ble_eq_true rfl) (Nat.le_of_ble_eq_true rfl) rfl ?_
    refine c_141 r mb (rt_i ?_)
    by_cases u : s_55 n A (ev n) &&& 48 = 48
    · rw [if_pos u]
      rw [hu] at u
      refine x_ifF i_129_206 (by decide +kernel) ?_
      refine x_aload_n i_129_209 rfl ?_
      refine x_vh (r := []) (lj := [some _, none, none, none]) i_129_210 w_130 ob_147 [] rfl rfl (Nat.le_of_ble_eq_true rfl) (Nat.le_of_ble_eq_true rfl) rfl ?_
      refine c_130 (E := F) (u := z) mb (by omega) rfl (ch z (by show z < z + 1; omega)).1 (ch z (by show z < z + 1; omega)).2 s.1 (fun j hj => ⟨(s.2.2.1 j hj).2.1, (s.2.2.1 j hj).2.2.1, (s.2.2.1 j hj).2.2.2⟩) (fun M1 g1 g2 g3 => rt_n ?_)
      refine x_vret i_129_213 rn_129 ?_
      have f0 : ∀ q j, (q < 148 ∨ 156 ≤ q) → M1 q j = M q j := fun q j h => g3 q j (by rcases mb with rfl | rfl <;> omega) (by rcases mb with rfl | rfl <;> omega)
      have h64 : F 3 z ≤ 64 := (ch z (by show z < z + 1; omega)).1
      refine K M1 (r.same (fun q j h1 h2 => f0 q j (by omega))) ⟨(f0 _ _ (by omega)).trans s.1, (f0 _ _ (by omega)).trans s.2.1, fun j hj => ?_, fun c hc2 => ?_⟩ ⟨fun m hm => (g3 _ _ (by omega) (by omega)).trans (m1 m hm), (g3 _ _ (by omega) (by omega)).trans m2, (g3 _ _ (by omega) (by omega)).trans m3, (g3 _ _ (by omega) (by omega)).trans m4, ?_, fun x hx => (g3 _ _ (by omega) (by omega)).trans (m6 x hx), fun y hy hf => ?_⟩ (fun q j h1 h2 h3 h4 => g3 q j (by omega) (by omega))
      · obtain ⟨y1, y2, y3, y4⟩ := s.2.2.1 j hj
        exact ⟨(f0 _ _ (by omega)).trans y1, (f0 _ _ (by omega)).trans y2, (f0 _ _ (by omega)).trans y3, (f0 _ _ (by omega)).trans y4⟩
      · rw [f0 _ _ (by omega)]; exact s.2.2.2 c hc2
      · unfold wln; rw [if_pos ⟨wz, u⟩, show min (F 3 z) 64 = F 3 z by omega]; exact g2
      · have e : y = z := by
          by_cases e : y = z
          · exact e
          · exact absurd wz (wln_yes (by omega) hf.1)
        subst e
        exact g1
    rw [if_neg u]
    have no := no (fun q => u (by rw [hu]; exact q.2))
    refine x_ifT i_129_206 (by decide +kernel) ?_
    refine x_vret i_129_213 rn_129 ?_
    exact no
end REA
