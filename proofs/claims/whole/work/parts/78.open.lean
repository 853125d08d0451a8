/-! beginning anew -/
/-- a hall as at first -/
def opn (n f : Nat) (A : HA) : HA := fun w k => if w = 0 then 0 else if w = 1 then 1 else if w = 2 then 0 else if w = 3 then 1 else if w = 4 then 1 else if w = 5 then ev n else if w = 6 then (if k = 1 then f else if k = 2 then 0 else if k = 3 ∨ k = 4 then n / 2 + 1 else if k < 5 then 0 else A 6 k) else if w = 7 then 0 else if w = 8 then 0 else A w k
theorem opn_wn {n f : Nat} {A : HA} (hn : 2 ≤ n ∧ n ≤ 5) (hf : f < 2) : WN n (opn n f A) := by
  have := ev_le hn.2
  refine ⟨hn, ⟨hf, show 0 < 4 by omega, show n / 2 + 1 < 16 by omega, show n / 2 + 1 < 16 by omega⟩, fun s _ => ⟨show 0 < 6 by omega, show 1 < 3 by omega, show 0 < 5 by omega, show 1 < 2 by omega, show 1 < 4 by omega, show ev n < 32 by omega⟩, show 0 ≤ 60 by omega, fun j => show 0 < 500 by omega⟩
theorem opn_eq {n f : Nat} (A B : HA) : EQ (opn n f A) (opn n f B) := by
  intro w k h1 h2
  unfold opn
  rcases (by omega : w = 0 ∨ w = 1 ∨ w = 2 ∨ w = 3 ∨ w = 4 ∨ w = 5 ∨ w = 6 ∨ w = 7 ∨ w = 8) with h | h | h | h | h | h | h | h | h <;> subst h <;> try rfl
  show (if k = 1 then f else if k = 2 then 0 else if k = 3 ∨ k = 4 then n / 2 + 1 else if k < 5 then 0 else A 6 k) = (if k = 1 then f else if k = 2 then 0 else if k = 3 ∨ k = 4 then n / 2 + 1 else if k < 5 then 0 else B 6 k)
  rw [if_pos (show k < 5 by omega), if_pos (show k < 5 by omega)]
theorem s49_ev {n : Nat} (h : n ≤ 5) (A : HA) (hw : ∀ s, s < n → A 4 s = 1) : s_49 n A (ev n) = n := by
  have L : ∀ d s, n - s < d → s ≤ n → s_49_4 n d A (ev n) s s = n := by
    intro d
    induction d with
    | zero => intro s h; exact absurd h (Nat.not_lt_zero _)
    | succ d ih =>
      intro s h hs
      unfold s_49_4
      by_cases c : n ≤ s
      · rw [if_pos c]; omega
      · rw [if_neg c, if_pos (by rw [bit_and, ev_t]; exact decide_eq_true (by omega)), hw s (by omega)]
        exact ih _ (by omega) (by omega)
  exact L 6 0 (by omega) (Nat.zero_le _)
section OPN
variable {sc : a_Sc} {fd : Nat} {M : a_Mm} {A B : HA} {Q : Option Value → a_Hp → Prop} {b n nx sz : Nat} {U : Nat → Nat × HA}
theorem c_46 (hb : HB b) {f : Nat} (hn : 2 ≤ n ∧ n ≤ 5) (hf : f < 2) (hy : ∃ y z, y < 16 ∧ z < 16 ∧ M b 3 = N y ∧ M b 4 = N z) (k : ∀ M' C, EQ C (opn n f A) → RC M' b n C → FR b M M' → Q none (a_hp sc fd M')) : a_Ex 46 0 [some (.ref b), some (.int (N n)), some (.int (N f))] [] (a_hp sc fd M) Q := by
  obtain ⟨y, z, hy, hz, e3, e4⟩ := hy
  refine x_aload_n i_46_0 rfl ?_
  refine x_iload_n i_46_1 rfl ?_
  refine x_pi i_46_2 hb.ob pf_1_0.1 pf_1_0.2 ?_
  refine x_aload_n i_46_5 rfl ?_
  refine x_iload_n i_46_6 rfl ?_
  refine x_pi i_46_7 hb.ob pf_1_1.1 pf_1_1.2 ?_
  refine x_aload_n i_46_10 rfl ?_
  refine n_iconst 0 i_46_11 rfl ?_
  refine x_pi i_46_12 hb.ob pf_1_2.1 pf_1_2.2 ?_
  have f1 : FR b M (a_up (a_up (a_up M b 0 (N n)) b 1 (N f)) b 2 (N 0)) := fun o k h => by rw [a_up_def, if_neg (by omega), a_up_def, if_neg (by omega), a_up_def, if_neg (by omega)]
  have g1 : ∀ k, a_up (a_up (a_up M b 0 (N n)) b 1 (N f)) b 2 (N 0) b k = if k = 2 then N 0 else if k = 1 then N f else if k = 0 then N n else M b k := fun k => by
    unfold a_up; rw [if_pos rfl, if_pos rfl, if_pos rfl]
  generalize a_up (a_up (a_up M b 0 (N n)) b 1 (N f)) b 2 (N 0) = M1 at f1 g1 ⊢
  refine x_aload_n i_46_15 rfl ?_
  refine x_gr i_46_16 hb.ob gr_1_11.1 gr_1_11.2 (hb.r11 _) ?_
  refine x_vh (r := []) (lj := [some _]) i_46_19 w_97 hb.lg [] rfl rfl (Nat.le_of_ble_eq_true rfl) (Nat.le_of_ble_eq_true rfl) rfl ?_
  refine x_aload_n i_97_0 rfl ?_
  refine n_iconst 0 i_97_1 rfl ?_
  refine x_pi i_97_2 hb.lg pf_2_1.1 pf_2_1.2 ?_
  refine x_aload_n i_97_5 rfl ?_
  refine n_iconst 0 i_97_6 rfl ?_
  refine x_pi i_97_7 hb.lg pf_2_2.1 pf_2_2.2 ?_
  refine x_vret i_97_10 rn_97 (rt_n ?_)
  have f2 : ∀ o k, ¬ o = b + 7 → a_up (a_up M1 (b + 7) 1 (N 0)) (b + 7) 2 (N 0) o k = M1 o k := fun o k h => by rw [a_up_def, if_neg (by omega), a_up_def, if_neg (by omega)]
  have g2 : a_up (a_up M1 (b + 7) 1 (N 0)) (b + 7) 2 (N 0) (b + 7) 1 = N 0 ∧ a_up (a_up M1 (b + 7) 1 (N 0)) (b + 7) 2 (N 0) (b + 7) 2 = N 0 := by
    refine ⟨?_, ?_⟩
    · rw [a_up_def, if_neg (by omega), a_up_def, if_pos ⟨rfl, rfl⟩]
    · rw [a_up_def, if_pos ⟨rfl, rfl⟩]
  generalize a_up (a_up M1 (b + 7) 1 (N 0)) (b + 7) 2 (N 0) = M2 at f2 g2 ⊢
  refine x_aload_n i_46_22 rfl ?_
  refine x_gr i_46_23 hb.ob gr_1_5.1 gr_1_5.2 (hb.r5 _) ?_
  refine n_iconst 0 i_46_26 rfl ?_
  refine x_fill i_46_27 hb.a1 (by decide) (Nat.le_of_ble_eq_true rfl) ?_
  have f3 : ∀ o k, ¬ o = b + 1 → a_row M2 (b + 1) (a_fil 5 (N 0) (M2 (b + 1))) o k = M2 o k := fun o k h => by unfold a_row; rw [if_neg h]
  have g3 : ∀ s, s < 5 → a_row M2 (b + 1) (a_fil 5 (N 0) (M2 (b + 1))) (b + 1) s = N 0 := fun s h => by unfold a_row a_fil; rw [if_pos rfl, if_pos h]
  generalize a_row M2 (b + 1) (a_fil 5 (N 0) (M2 (b + 1))) = M3 at f3 g3 ⊢
  refine x_aload_n i_46_30 rfl ?_
  refine x_gr i_46_31 hb.ob gr_1_6.1 gr_1_6.2 (hb.r6 _) ?_
  refine n_iconst 1 i_46_34 rfl ?_
  refine x_fill i_46_35 hb.a2 (by decide) (Nat.le_of_ble_eq_true rfl) ?_
  have f4 : ∀ o k, ¬ o = b + 2 → a_row M3 (b + 2) (a_fil 5 (N 1) (M3 (b + 2))) o k = M3 o k := fun o k h => by unfold a_row; rw [if_neg h]
  have g4 : ∀ s, s < 5 → a_row M3 (b + 2) (a_fil 5 (N 1) (M3 (b + 2))) (b + 2) s = N 1 := fun s h => by unfold a_row a_fil; rw [if_pos rfl, if_pos h]
  generalize a_row M3 (b + 2) (a_fil 5 (N 1) (M3 (b + 2))) = M4 at f4 g4 ⊢
  refine x_aload_n i_46_38 rfl ?_
  refine x_gr i_46_39 hb.ob gr_1_7.1 gr_1_7.2 (hb.r7 _) ?_
  refine n_iconst 0 i_46_42 rfl ?_
  refine x_fill i_46_43 hb.a3 (by decide) (Nat.le_of_ble_eq_true rfl) ?_
  have f5 : ∀ o k, ¬ o = b + 3 → a_row M4 (b + 3) (a_fil 5 (N 0) (M4 (b + 3))) o k = M4 o k := fun o k h => by unfold a_row; rw [if_neg h]
  have g5 : ∀ s, s < 5 → a_row M4 (b + 3) (a_fil 5 (N 0) (M4 (b + 3))) (b + 3) s = N 0 := fun s h => by unfold a_row a_fil; rw [if_pos rfl, if_pos h]
  generalize a_row M4 (b + 3) (a_fil 5 (N 0) (M4 (b + 3))) = M5 at f5 g5 ⊢
  refine x_aload_n i_46_46 rfl ?_
  refine x_gr i_46_47 hb.ob gr_1_8.1 gr_1_8.2 (hb.r8 _) ?_
  refine n_iconst 1 i_46_50 rfl ?_
  refine x_fill i_46_51 hb.a4 (by decide) (Nat.le_of_ble_eq_true rfl) ?_
  have f6 : ∀ o k, ¬ o = b + 4 → a_row M5 (b + 4) (a_fil 5 (N 1) (M5 (b + 4))) o k = M5 o k := fun o k h => by unfold a_row; rw [if_neg h]
  have g6 : ∀ s, s < 5 → a_row M5 (b + 4) (a_fil 5 (N 1) (M5 (b + 4))) (b + 4) s = N 1 := fun s h => by unfold a_row a_fil; rw [if_pos rfl, if_pos h]
  generalize a_row M5 (b + 4) (a_fil 5 (N 1) (M5 (b + 4))) = M6 at f6 g6 ⊢
  refine x_aload_n i_46_54 rfl ?_
  refine x_gr i_46_55 hb.ob gr_1_9.1 gr_1_9.2 (hb.r9 _) ?_
  refine n_iconst 1 i_46_58 rfl ?_
  refine x_fill i_46_59 hb.a5 (by decide) (Nat.le_of_ble_eq_true rfl) ?_
  have f7 : ∀ o k, ¬ o = b + 5 → a_row M6 (b + 5) (a_fil 5 (N 1) (M6 (b + 5))) o k = M6 o k := fun o k h => by unfold a_row; rw [if_neg h]
  have g7 : ∀ s, s < 5 → a_row M6 (b + 5) (a_fil 5 (N 1) (M6 (b + 5))) (b + 5) s = N 1 := fun s h => by unfold a_row a_fil; rw [if_pos rfl, if_pos h]
  generalize a_row M6 (b + 5) (a_fil 5 (N 1) (M6 (b + 5))) = M7 at f7 g7 ⊢
  refine x_aload_n i_46_62 rfl ?_
  refine x_gr i_46_63 hb.ob gr_1_10.1 gr_1_10.2 (hb.r10 _) ?_
  refine x_aload_n i_46_66 rfl ?_
  refine x_vh (r := [_]) (lj := [some _]) i_46_67 w_47 hb.ob [] rfl rfl (Nat.le_of_ble_eq_true rfl) (Nat.le_of_ble_eq_true rfl) rfl ?_
  have e70 : M7 b 0 = N n := by rw [f7 _ _ (by omega), f6 _ _ (by omega), f5 _ _ (by omega), f4 _ _ (by omega), f3 _ _ (by omega), f2 _ _ (by omega), g1]; rfl
  refine v_47_0 hb (rt_i ?_)
  rw [e70, N_evr hn.2]
  refine x_fill i_46_70 hb.a6 (by decide) (Nat.le_of_ble_eq_true rfl) ?_
  have f8 : ∀ o k, ¬ o = b + 6 → a_row M7 (b + 6) (a_fil 5 (N (2 ^ n - 1)) (M7 (b + 6))) o k = M7 o k := fun o k h => by unfold a_row; rw [if_neg h]
  have g8 : ∀ s, s < 5 → a_row M7 (b + 6) (a_fil 5 (N (2 ^ n - 1)) (M7 (b + 6))) (b + 6) s = N (ev n) := fun s h => by unfold a_row a_fil; rw [if_pos rfl, if_pos h]; rfl
  generalize a_row M7 (b + 6) (a_fil 5 (N (2 ^ n - 1)) (M7 (b + 6))) = M8 at f8 g8 ⊢
  have fr8 : FR b M M8 := fun o k h => by rw [f8 _ _ (by omega), f7 _ _ (by omega), f6 _ _ (by omega), f5 _ _ (by omega), f4 _ _ (by omega), f3 _ _ (by omega), f2 _ _ (by omega)]; exact f1 o k h
  have k8 : ∀ k, M8 b k = if k = 2 then N 0 else if k = 1 then N f else if k = 0 then N n else M b k := fun k => by rw [f8 _ _ (by omega), f7 _ _ (by omega), f6 _ _ (by omega), f5 _ _ (by omega), f4 _ _ (by omega), f3 _ _ (by omega), f2 _ _ (by omega)]; exact g1 k
  have toN : ∀ x : Int32, x = N x.toBitVec.toNat := fun x => by
    apply Int32.toBitVec_inj.mp
    rw [N_bv]
    apply BitVec.eq_of_toNat_eq
    rw [BitVec.toNat_ofNat]
    exact (Nat.mod_eq_of_lt x.toBitVec.isLt).symm
  have hev := ev_le hn.2
  have r8 : RC M8 b n (fun w k => if w = 6 then (if k = 3 then y else if k = 4 then z else if 5 ≤ k then (M b k).toBitVec.toNat else opn n f A w k) else opn n f A w k) := by
    have w0 := opn_wn (A := A) hn hf
    refine ⟨⟨hn, ⟨hf, show 0 < 4 by omega, hy, hz⟩, w0.2.2.1, w0.2.2.2.1, w0.2.2.2.2⟩, ?_, fun k hk => ?_, fun w hw s hs => ?_, 0, by omega, ?_, ?_, fun j hj => absurd hj (Nat.not_lt_zero _)⟩
    · rw [k8]; rfl
    · rw [k8]
      rcases (by omega : k = 1 ∨ k = 2 ∨ k = 3 ∨ k = 4 ∨ 12 ≤ k) with h | h | h | h | h
      · subst h; rfl
      · subst h; rfl
      · subst h; exact e3
      · subst h; exact e4
      · rw [if_neg (by omega), if_neg (by omega), if_neg (by omega)]
        show _ = N (if 6 = 6 then (if k = 3 then y else if k = 4 then z else if 5 ≤ k then _ else _) else _)
        rw [if_pos rfl, if_neg (by omega), if_neg (by omega), if_pos (by omega)]
        exact toN _
    · rcases (by omega : w = 0 ∨ w = 1 ∨ w = 2 ∨ w = 3 ∨ w = 4 ∨ w = 5) with h | h | h | h | h | h
      · subst h; rw [f8 _ _ (by omega), f7 _ _ (by omega), f6 _ _ (by omega), f5 _ _ (by omega), f4 _ _ (by omega)]; exact g3 s hs
      · subst h; rw [f8 _ _ (by omega), f7 _ _ (by omega), f6 _ _ (by omega), f5 _ _ (by omega)]; exact g4 s hs
      · subst h; rw [f8 _ _ (by omega), f7 _ _ (by omega), f6 _ _ (by omega)]; exact g5 s hs
      · subst h; rw [f8 _ _ (by omega), f7 _ _ (by omega)]; exact g6 s hs
      · subst h; rw [f8 _ _ (by omega)]; exact g7 s hs
      · subst h; exact g8 s hs
    · rw [f8 _ _ (by omega), f7 _ _ (by omega), f6 _ _ (by omega), f5 _ _ (by omega), f4 _ _ (by omega), f3 _ _ (by omega)]; exact g2.1
    · rw [f8 _ _ (by omega), f7 _ _ (by omega), f6 _ _ (by omega), f5 _ _ (by omega), f4 _ _ (by omega), f3 _ _ (by omega)]; exact g2.2
  refine x_aload_n i_46_73 rfl ?_
  refine x_vh (r := []) (lj := [some _, none]) i_46_74 w_48 hb.ob [] rfl rfl (Nat.le_of_ble_eq_true rfl) (Nat.le_of_ble_eq_true rfl) rfl ?_
  refine c_48 hb r8 (fun M9 r9 f9 => rt_n ?_)
  refine x_vret i_46_77 rn_46 ?_
  refine k M9 _ (fun w j h1 h2 => ?_) r9 (fr8.trans f9)
  unfold s_48
  rw [s49_ev hn.2 _ (fun s _ => rfl), a_up_def, a_up_def]
  by_cases h4 : w = 6 ∧ j = 4
  · rw [if_pos h4, h4.1, h4.2]; rfl
  · rw [if_neg h4]
    by_cases h3 : w = 6 ∧ j = 3
    · rw [if_pos h3, h3.1, h3.2]; rfl
    · rw [if_neg h3]
      by_cases h6 : w = 6
      · have := h2 h6
        show (if w = 6 then (if j = 3 then y else if j = 4 then z else if 5 ≤ j then _ else _) else _) = _
        rw [if_pos h6, if_neg (by omega), if_neg (by omega), if_neg (by omega)]
      · show (if w = 6 then _ else _) = _
        rw [if_neg h6]
theorem RM.cg (r : RM M n A) (w : WN n B) (h6 : ∀ k, 1 ≤ k → k < 5 → A 6 k = B 6 k) (ha : ∀ w, w < 6 → ∀ s, s < n → A w s = B w s) (h7 : A 7 0 = B 7 0) (h8 : ∀ j, j < A 7 0 → A 8 j = B 8 j) (h9 : ∀ k, k = 0 ∨ (7 ≤ k ∧ k ≤ 10) → A 9 k = B 9 k) : RM M n B := by
  obtain ⟨g1, g2, g3, g4, g5, g6, g7⟩ := r
  refine ⟨w, g2, fun k k1 k2 => (g3 k k1 k2).trans (by rw [h6 k k1 k2]), fun w hw s hs => (g4 w hw s hs).trans (by rw [ha w hw s hs]), g5.trans (by rw [h7]), fun j hj => ?_, fun k hk => (g7 k hk).trans (by rw [h9 k hk])⟩
  rw [← h7] at hj
  rw [← h8 j hj]
  exact g6 j hj
/-- nothing in the reference's row -/
def zro (M : a_Mm) (l : Nat) : a_Mm := fun o k => if o = 171 ∧ k < l then N 0 else M o k
theorem zro_s (M : a_Mm) (l : Nat) : a_up (zro M l) 171 l (N 0) = zro M (l + 1) := by
  funext o k
  rw [a_up_def]
  unfold zro
  by_cases c : o = 171 ∧ k = l
  · rw [if_pos c, if_pos (by omega)]
  · rw [if_neg c]
    by_cases d : o = 171 ∧ k < l
    · rw [if_pos d, if_pos (by omega)]
    · rw [if_neg d, if_neg (by omega)]
theorem c_144_60 {f : Nat} (hn : 2 ≤ n ∧ n ≤ 5) : ∀ (d s : Nat) {M0 M : a_Mm} {C : HA} (hd : n - s = d) (hs : s ≤ n) (r : RM M n C) (fr : FM M0 M) (h6 : ∀ k, 1 ≤ k → k < 5 → C 6 k = opn n f A 6 k) (ha : ∀ w, w < 6 → ∀ t, t < n → C w t = if t < s then opn n f A w t else 0) (h7 : C 7 0 = 0) (h9 : ∀ k, C 9 k = A 9 k) (hf : f < 2) (k : MV Q sc fd M0 n (opn n f A)), a_Ex 144 60 [some (.ref 170), some (.int (N n)), none, some (.int (N s))] [] (a_hp sc fd M) Q := by
  intro d
  induction d with
  | zero =>
    intro s M0 M C hd hs r fr h6 ha h7 h9 hf k
    refine x_iload_n i_144_60 rfl ?_
    refine x_iload_n i_144_61 rfl ?_
    refine x_igeN (by omega) (by omega) i_144_62 ⟨fun _ => ?_, fun q => absurd (by omega) q⟩
    refine x_vret i_144_103 rn_144 ?_
    refine k M (r.cg (opn_wn hn hf) h6 (fun w hw t ht => ?_) h7 (fun j hj => by rw [h7] at hj; exact absurd hj (Nat.not_lt_zero _)) (fun k _ => h9 k)) fr
    rw [ha w hw t ht, if_pos (by omega)]
  | succ d ih =>
    intro s M0 M C hd hs r fr h6 ha h7 h9 hf k
    have hev := ev_le hn.2
    refine x_iload_n i_144_60 rfl ?_
    refine x_iload_n i_144_61 rfl ?_
    refine x_igeN (by omega) (by omega) i_144_62 ⟨fun q => absurd q (by omega), fun _ => ?_⟩
    refine x_aload_n i_144_65 rfl ?_
    refine x_iload_n i_144_66 rfl ?_
    refine n_iconst 1 i_144_67 rfl ?_
    refine n_iconst 1 i_144_68 rfl ?_
    refine n_lays i_144_69 r 1 (by omega) (by omega) (show 1 < 3 by omega) (Nat.le_of_ble_eq_true rfl) (fun M1 r1 f1 => ?_)
    refine x_aload_n i_144_72 rfl ?_
    refine x_iload_n i_144_73 rfl ?_
    refine n_iconst 3 i_144_74 rfl ?_
    refine n_iconst 1 i_144_75 rfl ?_
    refine n_lays i_144_76 r1 3 (by omega) (by omega) (show 1 < 2 by omega) (Nat.le_of_ble_eq_true rfl) (fun M2 r2 f2 => ?_)
    refine x_aload_n i_144_79 rfl ?_
    refine x_iload_n i_144_80 rfl ?_
    refine n_iconst 4 i_144_81 rfl ?_
    refine n_iconst 1 i_144_82 rfl ?_
    refine n_lays i_144_83 r2 4 (by omega) (by omega) (show 1 < 4 by omega) (Nat.le_of_ble_eq_true rfl) (fun M3 r3 f3 => ?_)
    refine x_aload_n i_144_86 rfl ?_
    refine x_iload_n i_144_87 rfl ?_
    refine n_iconst 5 i_144_88 rfl ?_
    refine n_iconst 1 i_144_89 rfl ?_
    refine x_iload_n i_144_90 rfl ?_
    refine x_ishlN (by omega) i_144_91 ?_
    refine n_iconst 1 i_144_92 rfl ?_
    refine x_isubN (by rw [Nat.one_shiftLeft]; exact Nat.two_pow_pos _) i_144_93 ?_
    rw [Nat.one_shiftLeft]
    refine n_lays (x := ev n) i_144_94 r3 5 (by omega) (by omega) (show ev n < 32 by omega) (Nat.le_of_ble_eq_true rfl) (fun M4 r4 f4 => ?_)
    refine n_iinc 1 i_144_97 rfl rfl rfl rfl ?_
    refine x_goto i_144_100 ?_
    refine ih (s + 1) (by omega) (by omega) r4 (fr.trans (f1.trans (f2.trans (f3.trans f4)))) (fun k k1 k2 => ?_) (fun w hw t ht => ?_) ?_ (fun k => ?_) hf k
    · rw [a_up_o (by omega), a_up_o (by omega), a_up_o (by omega), a_up_o (by omega)]; exact h6 k k1 k2
    · rw [a_up_def, a_up_def, a_up_def, a_up_def, ha w hw t ht]
      by_cases e : t = s
      · subst e
        rw [if_pos (show t < t + 1 by omega), if_neg (show ¬ t < t by omega)]
        rcases (by omega : w = 0 ∨ w = 1 ∨ w = 2 ∨ w = 3 ∨ w = 4 ∨ w = 5) with h | h | h | h | h | h <;> subst h <;> simp [opn]
      · rw [if_neg (by omega), if_neg (by omega), if_neg (by omega), if_neg (by omega)]
        by_cases g : t < s
        · rw [if_pos g, if_pos (by omega)]
        · rw [if_neg g, if_neg (by omega)]
    · rw [a_up_o (by omega), a_up_o (by omega), a_up_o (by omega), a_up_o (by omega)]; exact h7
    · rw [a_up_o (by omega), a_up_o (by omega), a_up_o (by omega), a_up_o (by omega)]; exact h9 k
theorem c_144 {f n0 : Nat} (hn : 2 ≤ n ∧ n ≤ 5) (hf : f < 2) (r : RM M n0 A) (k : MV Q sc fd M n (opn n f A)) : a_Ex 144 0 [some (.ref 170), some (.int (N n)), some (.int (N f)), none] [] (a_hp sc fd M) Q := by
  have L : ∀ d l, 216 - l = d → l ≤ 216 → a_Ex 144 2 [some (.ref 170), some (.int (N n)), some (.int (N f)), some (.int (N l))] [] (a_hp sc fd (zro M l)) Q := by
    intro d
    induction d with
    | zero =>
      intro l hd hl
      have e : l = 216 := by omega
      subst e
      refine x_iload_n i_144_2 rfl ?_
      refine n_sipush 216 i_144_3 rfl ?_
      refine x_igeN (by omega) (by omega) i_144_6 ⟨fun _ => ?_, fun q => absurd (Nat.le_refl _) q⟩
      refine x_aload_n i_144_22 rfl ?_
      refine x_gr i_144_23 ob_170 gr_8_1.1 gr_8_1.2 (rt_170_1 _) ?_
      refine n_iconst 0 i_144_26 rfl ?_
      refine x_iload_n i_144_27 rfl ?_
      refine n_st i_144_28 ar_171 (by omega) (by omega) ?_
      refine x_aload_n i_144_29 rfl ?_
      refine x_gr i_144_30 ob_170 gr_8_1.1 gr_8_1.2 (rt_170_1 _) ?_
      refine n_iconst 1 i_144_33 rfl ?_
      refine x_iload_n i_144_34 rfl ?_
      refine n_st i_144_35 ar_171 (by omega) (by omega) ?_
      refine x_aload_n i_144_36 rfl ?_
      refine x_gr i_144_37 ob_170 gr_8_1.1 gr_8_1.2 (rt_170_1 _) ?_
      refine n_iconst 3 i_144_40 rfl ?_
      refine x_iload_n i_144_41 rfl ?_
      refine n_iconst 2 i_144_42 rfl ?_
      refine x_idivN (by omega) (by omega) (by omega) i_144_43 ?_
      refine n_iconst 1 i_144_44 rfl ?_
      refine x_iaddN i_144_45 ?_
      refine n_st i_144_46 ar_171 (by omega) (by omega) ?_
      refine x_aload_n i_144_47 rfl ?_
      refine x_gr i_144_48 ob_170 gr_8_1.1 gr_8_1.2 (rt_170_1 _) ?_
      refine n_iconst 4 i_144_51 rfl ?_
      refine x_iload_n i_144_52 rfl ?_
      refine n_iconst 2 i_144_53 rfl ?_
      refine x_idivN (by omega) (by omega) (by omega) i_144_54 ?_
      refine n_iconst 1 i_144_55 rfl ?_
      refine x_iaddN i_144_56 ?_
      refine n_st i_144_57 ar_171 (by omega) (by omega) ?_
      have hz : ∀ o k, a_up (a_up (a_up (a_up (zro M 216) 171 0 (N n)) 171 1 (N f)) 171 3 (N (n / 2 + 1))) 171 4 (N (n / 2 + 1)) o k = if o = 171 then (if k = 0 then N n else if k = 1 then N f else if k = 3 ∨ k = 4 then N (n / 2 + 1) else if k < 216 then N 0 else M o k) else M o k := fun o k => by
        rw [a_up_def, a_up_def, a_up_def, a_up_def]
        unfold zro
        by_cases ho : o = 171
        · rw [if_pos ho]
          by_cases h4 : k = 4
          · rw [if_pos ⟨ho, h4⟩, if_neg (by omega), if_neg (by omega), if_pos (Or.inr h4)]
          · rw [if_neg (fun q => h4 q.2)]
            by_cases h3 : k = 3
            · rw [if_pos ⟨ho, h3⟩, if_neg (by omega), if_neg (by omega), if_pos (Or.inl h3)]
            · rw [if_neg (fun q => h3 q.2)]
              by_cases h1 : k = 1
              · rw [if_pos ⟨ho, h1⟩, if_neg (by omega), if_pos h1]
              · rw [if_neg (fun q => h1 q.2)]
                by_cases h0 : k = 0
                · rw [if_pos ⟨ho, h0⟩, if_pos h0]
                · rw [if_neg (fun q => h0 q.2), if_neg h0, if_neg h1, if_neg (show ¬ (k = 3 ∨ k = 4) by omega)]
                  by_cases h216 : k < 216
                  · rw [if_pos ⟨ho, h216⟩, if_pos h216]
                  · rw [if_neg (fun q => h216 q.2), if_neg h216]
        · rw [if_neg (fun q => ho q.1), if_neg (fun q => ho q.1), if_neg (fun q => ho q.1), if_neg (fun q => ho q.1), if_neg (fun q => ho q.1), if_neg ho]
      generalize a_up (a_up (a_up (a_up (zro M 216) 171 0 (N n)) 171 1 (N f)) 171 3 (N (n / 2 + 1))) 171 4 (N (n / 2 + 1)) = M1 at hz ⊢
      have r1 : RM M1 n (fun w k => if w = 9 then A 9 k else if w = 6 then opn n f A 6 k else 0) := by
        refine ⟨⟨hn, ⟨hf, show 0 < 4 by omega, show n / 2 + 1 < 16 by omega, show n / 2 + 1 < 16 by omega⟩, fun s _ => ⟨show 0 < 6 by omega, show 0 < 3 by omega, show 0 < 5 by omega, show 0 < 2 by omega, show 0 < 4 by omega, show 0 < 32 by omega⟩, show 0 ≤ 60 by omega, fun j => show 0 < 500 by omega⟩, ?_, fun k k1 k2 => ?_, fun w hw s hs => ?_, ?_, fun j hj => absurd hj (Nat.not_lt_zero _), fun k hk => ?_⟩
        · rw [hz]; rfl
        · rw [hz, if_pos rfl, if_neg (by omega)]
          rcases (by omega : k = 1 ∨ k = 2 ∨ k = 3 ∨ k = 4) with h | h | h | h <;> subst h <;> rfl
        · rw [hz, if_pos rfl, if_neg (by omega), if_neg (by omega), if_neg (by omega), if_pos (by omega)]
          show N 0 = N (if w = 9 then _ else if w = 6 then _ else 0)
          rw [if_neg (by omega), if_neg (by omega)]
        · rw [hz]; rfl
        · rw [hz, if_neg (by omega)]; exact r.g hk
      have f171 : FM M M1 := fun o k h => by
        rw [hz]
        by_cases e : o = 171
        · rw [if_pos e, if_neg (by omega), if_neg (by omega), if_neg (by omega), if_neg (by omega)]
        · rw [if_neg e]
      refine n_iconst 0 i_144_58 rfl ?_
      refine x_istore_n i_144_59 rfl rfl ?_
      refine x_wk (a_wk.s (a_wk.s (a_wk.d rfl (a_wk.s a_wk.n)))) ?_
      refine c_144_60 (A := A) (f := f) hn n 0 (by omega) (Nat.zero_le _) r1 f171 (fun k _ _ => rfl) (fun w hw t _ => ?_) rfl (fun k => rfl) hf k
      show (if w = 9 then _ else if w = 6 then _ else 0) = _
      rw [if_neg (by omega), if_neg (by omega), if_neg (Nat.not_lt_zero _)]
    | succ d ih =>
      intro l hd hl
      have i1 := ih (l + 1) (by omega) (by omega)
      refine x_iload_n i_144_2 rfl ?_
      refine n_sipush 216 i_144_3 rfl ?_
      refine x_igeN (by omega) (by omega) i_144_6 ⟨fun q => absurd q (by omega), fun _ => ?_⟩
      refine x_aload_n i_144_9 rfl ?_
      refine x_gr i_144_10 ob_170 gr_8_1.1 gr_8_1.2 (rt_170_1 _) ?_
      refine x_iload_n i_144_13 rfl ?_
      refine n_iconst 0 i_144_14 rfl ?_
      refine n_st i_144_15 ar_171 (by omega) (by omega) ?_
      refine n_iinc 1 i_144_16 rfl rfl rfl rfl ?_
      refine x_goto i_144_19 ?_
      rw [zro_s]
      exact i1
  refine n_iconst 0 i_144_0 rfl ?_
  refine x_istore_n i_144_1 rfl rfl ?_
  have L0 := L 216 0 rfl (by omega)
  have e0 : zro M 0 = M := by funext o k; unfold zro; rw [if_neg (by omega)]
  rw [e0] at L0
  exact L0
end OPN
