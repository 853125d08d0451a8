/-! the class tells of its mixes -/
/-- what the class's search holds between calls -/
def CM (M : a_Mm) : Prop := MCI M 148 0 ∧ MCI M 152 1 ∧ ∃ m B, RC M 156 m B
def FRq (M M' : a_Mm) : Prop := ∀ q k, ¬ (148 ≤ q ∧ q ≤ 169) → ¬ (q = 147 ∧ (k = 6 ∨ k = 7)) → M' q k = M q k
def m28 (n : Nat) (A : HA) (g w : Nat) : Nat := if ¬ g ≤ 1 then 4294967293 else if ¬ w ≤ 3 then 4294967294 else if ¬ n ≤ 3 then 4294967291 else if w = 0 then mz (BF n A g).1 (BF n A g).2 else if w = 1 then mn n (BF n A g).1 (BF n A g).2 else if w = 2 then wln n (BF n A g).1 (BF n A g).2 else mm (BF n A g).1 (BF n A g).2
def m30 (n : Nat) (A : HA) (st u g : Nat) : Nat := if s_95 n A st = 4294967295 ∨ ¬ u ≤ ev n ∨ ¬ g ≤ 1 then 4294967293 else if ¬ n ≤ 3 then 4294967291 else far (BF n A g).1 (s_95 n A st * 8 + u) (BF n A g).2
def m31 (n : Nat) (A : HA) (x g : Nat) : Nat := if ¬ x ≤ 5 then 4294967294 else if ¬ g ≤ 1 then 4294967293 else if ¬ n ≤ 3 then 4294967291 else bes n (BF n A g).1 x (BF n A g).2
section TEL
variable {sc : a_Sc} {fd : Nat} {M M0 : a_Mm} {n g o u w x st : Nat} {A B : HA} {Q : Option Value → a_Hp → Prop}
theorem MCI.same {o : Nat} (h : MCI M o g) {M' : a_Mm} (f : ∀ q k, o ≤ q → q ≤ o + 3 → M' q k = M q k) : MCI M' o g := by
  rcases h with q | ⟨m, T, hm, hw, q, m1, m2, m3, m4, m5, m6, m7⟩
  · exact Or.inl ((f _ _ (by omega) (by omega)).trans q)
  · exact Or.inr ⟨m, T, hm, hw, (f _ _ (by omega) (by omega)).trans q, fun j hj => (f _ _ (by omega) (by omega)).trans (m1 j hj), (f _ _ (by omega) (by omega)).trans m2, (f _ _ (by omega) (by omega)).trans m3, (f _ _ (by omega) (by omega)).trans m4, (f _ _ (by omega) (by omega)).trans m5, fun j hj => (f _ _ (by omega) (by omega)).trans (m6 j hj), fun u h1 h2 i hi => (f _ _ (by omega) (by omega)).trans (m7 u h1 h2 i hi)⟩
theorem CM.same (h : CM M) {M' : a_Mm} (f : ∀ q k, 148 ≤ q → q ≤ 169 → M' q k = M q k) : CM M' := by
  obtain ⟨h1, h2, m, B, r⟩ := h
  exact ⟨h1.same (fun q k a b => f q k (by omega) (by omega)), h2.same (fun q k a b => f q k (by omega) (by omega)), m, B, r.same (fun q k a b => f q k (by omega) (by omega))⟩
theorem FRq.refl (M : a_Mm) : FRq M M := fun _ _ _ _ => rfl
theorem mo_b (g : Nat) : MB (mo g) := by unfold mo; split; exact Or.inr rfl; exact Or.inl rfl
theorem b_29 (hg : g ≤ 1) (hn : n = 2 ∨ n = 3) (r : RC M 1 n A) (cm : CM M) (K : ∀ M' fd', MXS M' (mo g) n (BF n A g).1 (BF n A g).2 → CM M' → FRq M M' → Q (some (.ref (mo g))) (a_hp sc fd' M')) : a_Ex 29 0 [some (.ref 0), some (.int (N g)), none, none, none] [] (a_hp sc fd M) Q := by
  obtain ⟨h1, h2, m, B, r0⟩ := cm
  have hm : MCI M (mo g) g := by
    unfold mo
    by_cases c : g = 1
    · rw [if_pos c, c]; exact h2
    · rw [if_neg c, show g = 0 by omega]; exact h1
  refine c_29 hg hn r r0 hm (fun M1 fd1 mx mc rx fr => K M1 fd1 mx ?_ (fun q k a b => fr q k (by omega) b (by unfold mo; split <;> omega)))
  by_cases c : g = 1
  · subst c
    exact ⟨h1.same (fun q k a b => fr q k (by omega) (by omega) (by show ¬ (152 ≤ q ∧ q ≤ 152 + 3); omega)), mc, rx⟩
  · have : g = 0 := by omega
    subst this
    exact ⟨mc, h2.same (fun q k a b => fr q k (by omega) (by omega) (by show ¬ (148 ≤ q ∧ q ≤ 148 + 3); omega)), rx⟩
theorem rt_q {i pc : Nat} {lc : a_Lc} {rs : List Value} {h : a_Hp} {x : Nat} (k : a_Ex i pc lc (.ref x :: rs) h Q) : a_Rt i pc lc rs Q (some (.ref x)) h := k
theorem c_28 (hg : g < 4294967296) (hw : w < 4294967296) (r : RC M 1 n A) (cm : CM M) (K : ∀ M' fd', CM M' → FRq M M' → Q (some (.int (N (m28 n A g w)))) (a_hp sc fd' M')) : a_Ex 28 0 [some (.ref 0), some (.int (N g)), some (.int (N w)), none] [] (a_hp sc fd M) Q := by
  have n5 := r.n5
  have n2 := r.n2
  have no1 : ¬ g ≤ 1 → Q (some (.int (N 4294967293))) (a_hp sc fd M) := fun h => by
    have K := K M fd cm (FRq.refl M)
    unfold m28 at K; rw [if_pos h] at K; exact K
  have no2 : g ≤ 1 → ¬ w ≤ 3 → Q (some (.int (N 4294967294))) (a_hp sc fd M) := fun h h2 => by
    have K := K M fd cm (FRq.refl M)
    unfold m28 at K; rw [if_neg (fun q => q h), if_pos h2] at K; exact K
  have no3 : g ≤ 1 → w ≤ 3 → ¬ n ≤ 3 → Q (some (.int (N 4294967291))) (a_hp sc fd M) := fun h h2 h3 => by
    have K := K M fd cm (FRq.refl M)
    unfold m28 at K; rw [if_neg (fun q => q h), if_neg (fun q => q h2), if_pos h3] at K; exact K
  refine x_iload_n i_28_0 rfl ?_
  refine n_zltU (by omega) i_28_1 ⟨fun g1 => ?_, fun g1 => ?_⟩
  · refine n_bipush 4294967293 i_28_9 rfl ?_
    refine x_iret i_28_11 rn_28 rfl ?_
    exact no1 (by omega)
  · refine x_iload_n i_28_4 rfl ?_
    refine n_iconst 1 i_28_5 rfl ?_
    refine n_ileU (by omega) (by omega) i_28_6 ⟨fun g2 => ?_, fun g2 => ?_⟩
    · refine x_iload_n i_28_12 rfl ?_
      refine n_zltU (by omega) i_28_13 ⟨fun g3 => ?_, fun g3 => ?_⟩
      · refine n_bipush 4294967294 i_28_21 rfl ?_
        refine x_iret i_28_23 rn_28 rfl ?_
        exact no2 (by omega) (by omega)
      · refine x_iload_n i_28_16 rfl ?_
        refine n_iconst 3 i_28_17 rfl ?_
        refine n_ileU (by omega) (by omega) i_28_18 ⟨fun g4 => ?_, fun g4 => ?_⟩
        · refine x_aload_n i_28_24 rfl ?_
          refine x_gr i_28_25 ob_0 gr_0_0.1 gr_0_0.2 (rt_0_0 _) ?_
          refine n_gi (x := n) i_28_28 hb1.ob gf_1_0.1 gf_1_0.2 r.nn ?_
          refine n_iconst 3 i_28_31 rfl ?_
          refine x_ileN (by omega) (by omega) i_28_32 ⟨fun g5 => ?_, fun g5 => ?_⟩
          · refine x_aload_n i_28_38 rfl ?_
            refine x_iload_n i_28_39 rfl ?_
            refine x_vh (r := []) (lj := [some _, some _, none, none, none]) i_28_40 w_29 ob_0 [_] rfl rfl (Nat.le_of_ble_eq_true rfl) (Nat.le_of_ble_eq_true rfl) rfl ?_
            have hg1 : g ≤ 1 := by omega
            have hw3 : w ≤ 3 := by omega
            refine b_29 hg1 (by omega) r cm (fun M1 fd1 mx cm1 fr1 => rt_q ?_)
            have K := K M1 fd1 cm1 fr1
            unfold m28 at K
            rw [if_neg (fun q => q hg1), if_neg (fun q => q hw3), if_neg (fun q => q (show n ≤ 3 by omega))] at K
            obtain ⟨m1, m2, m3, m4, m5, m6, m7⟩ := mx
            have mb := mo_b g
            refine x_astore_n i_28_43 rfl rfl ?_
            refine x_iload_n i_28_44 rfl ?_
            rcases (by omega : w = 0 ∨ w = 1 ∨ w = 2 ∨ w = 3) with rfl | rfl | rfl | rfl
            · refine x_tswI (t := 72) (off := 27) i_28_45 (by decide +kernel) (by decide +kernel) (by decide) ?_
              refine x_aload_n i_28_72 rfl ?_
              refine n_gi (x := mz (BF n A g).1 (BF n A g).2) i_28_73 mb.ob gf_7_5.1 gf_7_5.2 m2 ?_
              refine x_iret i_28_76 rn_28 rfl ?_
              exact K
            · refine x_tswI (t := 77) (off := 32) i_28_45 (by decide +kernel) (by decide +kernel) (by decide) ?_
              refine x_aload_n i_28_77 rfl ?_
              refine n_gi (x := mn n (BF n A g).1 (BF n A g).2) i_28_78 mb.ob gf_7_6.1 gf_7_6.2 m3 ?_
              refine x_iret i_28_81 rn_28 rfl ?_
              exact K
            · refine x_tswI (t := 82) (off := 37) i_28_45 (by decide +kernel) (by decide +kernel) (by decide) ?_
              refine x_aload_n i_28_82 rfl ?_
              refine n_gi (x := wln n (BF n A g).1 (BF n A g).2) i_28_83 mb.ob gf_7_4.1 gf_7_4.2 m5 ?_
              refine x_iret i_28_86 rn_28 rfl ?_
              exact K
            · refine x_tswO (t := 87) i_28_45 (n_tswO (lo := 0) (hi := 2) (by omega) (by omega)) (by decide) ?_
              refine x_aload_n i_28_87 rfl ?_
              refine n_gi (x := mm (BF n A g).1 (BF n A g).2) i_28_88 mb.ob gf_7_7.1 gf_7_7.2 m4 ?_
              refine x_iret i_28_91 rn_28 rfl ?_
              exact K
          · refine n_bipush 4294967291 i_28_35 rfl ?_
            refine x_iret i_28_37 rn_28 rfl ?_
            exact no3 (by omega) (by omega) (by omega)
        · refine n_bipush 4294967294 i_28_21 rfl ?_
          refine x_iret i_28_23 rn_28 rfl ?_
          exact no2 (by omega) (by omega)
    · refine n_bipush 4294967293 i_28_9 rfl ?_
      refine x_iret i_28_11 rn_28 rfl ?_
      exact no1 (by omega)
theorem s95_16 (n : Nat) (A : HA) : ∀ d l2 l3 l4 l5, l4 = 6 ^ l5 → l3 < l4 → l5 ≤ n → s_95_16 n d A l2 l3 l4 l5 = 4294967295 ∨ s_95_16 n d A l2 l3 l4 l5 < 6 ^ n := by
  intro d
  induction d with
  | zero => intro l2 l3 l4 l5 h4 h3 h5; exact Or.inr (Nat.pow_pos (by omega))
  | succ d ih =>
    intro l2 l3 l4 l5 h4 h3 h5
    unfold s_95_16
    by_cases c : n ≤ l5
    · rw [if_pos c]
      by_cases z : l2 = 0
      · rw [if_pos z, show n = l5 by omega, ← h4]; exact Or.inr h3
      · rw [if_neg z]; exact Or.inl rfl
    · rw [if_neg c]
      by_cases z : l2 % 10 < 6
      · rw [if_pos z]
        have := Nat.mul_le_mul_right l4 (show l2 % 10 ≤ 5 by omega)
        exact ih _ _ _ _ (by rw [h4, Nat.pow_succ]) (by omega) (by omega)
      · rw [if_neg z]; exact Or.inl rfl
theorem s95_b (n : Nat) (A : HA) (l : Nat) : s_95 n A l = 4294967295 ∨ s_95 n A l < 6 ^ n := by
  unfold s_95
  split
  · exact Or.inl rfl
  · exact s95_16 n A 6 l 0 1 0 rfl (by omega) (Nat.zero_le _)
theorem s95_lt (hn : n = 2 ∨ n = 3) (l : Nat) : s_95 n A l = 4294967295 ∨ s_95 n A l < 216 := by
  rcases s95_b n A l with h | h
  · exact Or.inl h
  · right
    rcases hn with rfl | rfl
    · exact Nat.lt_of_lt_of_le h (by decide)
    · exact h
theorem s95_U (n : Nat) (A : HA) (h5 : 2 ≤ n ∧ n ≤ 5) (l : Nat) : s_95 n A l < 4294967296 := by
  rcases s95_b n A l with h | h
  · omega
  · exact Nat.lt_of_lt_of_le h (Nat.le_trans (Nat.pow_le_pow_right (by omega) h5.2) (by decide))
theorem c_142 (mb : MB o) (hx : x < 1728) {v : Nat} (h : M (o + 1) x = N v) (K : Q (some (.int (N v))) (a_hp sc fd M)) : a_Ex 142 0 [some (.ref o), some (.int (N x))] [] (a_hp sc fd M) Q := by
  refine x_iload_n i_142_0 rfl ?_
  refine x_zltN (by omega) i_142_1 ?_
  refine x_iload_n i_142_4 rfl ?_
  refine n_sipush 1728 i_142_5 rfl ?_
  refine x_igeN (by omega) (by omega) i_142_8 ⟨fun g1 => absurd g1 (by omega), fun _ => ?_⟩
  refine x_aload_n i_142_11 rfl ?_
  refine x_gr i_142_12 mb.ob gr_7_1.1 gr_7_1.2 (mb.r1 _) ?_
  refine x_iload_n i_142_15 rfl ?_
  refine n_ld (x := v) i_142_16 mb.a1 (by omega) hx h ?_
  refine x_goto i_142_17 ?_
  refine x_iret i_142_21 rn_142 rfl ?_
  exact K
theorem c_30 (hst : st < 4294967296) (hu : u < 4294967296) (hg : g < 4294967296) (r : RC M 1 n A) (cm : CM M) (K : ∀ M' fd', CM M' → FRq M M' → Q (some (.int (N (m30 n A st u g)))) (a_hp sc fd' M')) : a_Ex 30 0 [some (.ref 0), some (.int (N st)), some (.int (N u)), some (.int (N g)), none] [] (a_hp sc fd M) Q := by
  have n5 := r.n5
  have n2 := r.n2
  have h95 := s95_U n A ⟨n2, n5⟩ st
  have hev := ev_le n5
  have no1 : (s_95 n A st = 4294967295 ∨ ¬ u ≤ ev n ∨ ¬ g ≤ 1) → Q (some (.int (N 4294967293))) (a_hp sc fd M) := fun h => by
    have K := K M fd cm (FRq.refl M)
    unfold m30 at K; rw [if_pos h] at K; exact K
  have no2 : ¬ (s_95 n A st = 4294967295 ∨ ¬ u ≤ ev n ∨ ¬ g ≤ 1) → ¬ n ≤ 3 → Q (some (.int (N 4294967291))) (a_hp sc fd M) := fun h h2 => by
    have K := K M fd cm (FRq.refl M)
    unfold m30 at K; rw [if_neg h, if_pos h2] at K; exact K
  refine x_aload_n i_30_0 rfl ?_
  refine x_gr i_30_1 ob_0 gr_0_0.1 gr_0_0.2 (rt_0_0 _) ?_
  refine x_iload_n i_30_4 rfl ?_
  refine x_vh (r := []) (lj := [some _, some _, none, none, none, none]) i_30_5 w_95 hb1.ob [_] rfl rfl (Nat.le_of_ble_eq_true rfl) (Nat.le_of_ble_eq_true rfl) rfl ?_
  refine c_95 hb1 r (by omega) (rt_i ?_)
  refine x_istore i_30_8 rfl rfl ?_
  refine x_iload i_30_10 rfl ?_
  refine n_iconst 4294967295 i_30_12 rfl ?_
  refine n_ieqU (by omega) (by omega) i_30_13 ⟨fun g1 => ?_, fun g1 => ?_⟩
  · refine n_bipush 4294967293 i_30_40 rfl ?_
    refine x_iret i_30_42 rn_30 rfl ?_
    exact no1 (Or.inl g1)
  · refine x_iload_n i_30_16 rfl ?_
    refine n_zltU (by omega) i_30_17 ⟨fun g2 => ?_, fun g2 => ?_⟩
    · refine n_bipush 4294967293 i_30_40 rfl ?_
      refine x_iret i_30_42 rn_30 rfl ?_
      exact no1 (Or.inr (Or.inl (by omega)))
    · refine x_iload_n i_30_20 rfl ?_
      refine x_aload_n i_30_21 rfl ?_
      refine x_gr i_30_22 ob_0 gr_0_0.1 gr_0_0.2 (rt_0_0 _) ?_
      refine x_vh (r := [_]) (lj := [some _]) i_30_25 w_47 hb1.ob [] rfl rfl (Nat.le_of_ble_eq_true rfl) (Nat.le_of_ble_eq_true rfl) rfl ?_
      refine c_47 hb1 r (fun hq => rt_i ?_)
      refine n_igtU (by omega) (by omega) i_30_28 ⟨fun g3 => ?_, fun g3 => ?_⟩
      · refine n_bipush 4294967293 i_30_40 rfl ?_
        refine x_iret i_30_42 rn_30 rfl ?_
        exact no1 (Or.inr (Or.inl (by omega)))
      · refine x_iload_n i_30_31 rfl ?_
        refine n_zltU (by omega) i_30_32 ⟨fun g4 => ?_, fun g4 => ?_⟩
        · refine n_bipush 4294967293 i_30_40 rfl ?_
          refine x_iret i_30_42 rn_30 rfl ?_
          exact no1 (Or.inr (Or.inr (by omega)))
        · refine x_iload_n i_30_35 rfl ?_
          refine n_iconst 1 i_30_36 rfl ?_
          refine n_ileU (by omega) (by omega) i_30_37 ⟨fun g5 => ?_, fun g5 => ?_⟩
          · refine x_aload_n i_30_43 rfl ?_
            refine x_gr i_30_44 ob_0 gr_0_0.1 gr_0_0.2 (rt_0_0 _) ?_
            refine n_gi (x := n) i_30_47 hb1.ob gf_1_0.1 gf_1_0.2 r.nn ?_
            refine n_iconst 3 i_30_50 rfl ?_
            refine x_ileN (by omega) (by omega) i_30_51 ⟨fun g6 => ?_, fun g6 => ?_⟩
            · refine x_aload_n i_30_57 rfl ?_
              refine x_iload_n i_30_58 rfl ?_
              refine x_vh (r := []) (lj := [some _, some _, none, none, none]) i_30_59 w_29 ob_0 [_] rfl rfl (Nat.le_of_ble_eq_true rfl) (Nat.le_of_ble_eq_true rfl) rfl ?_
              have hok : ¬ (s_95 n A st = 4294967295 ∨ ¬ u ≤ ev n ∨ ¬ g ≤ 1) := by omega
              have hn : n = 2 ∨ n = 3 := by omega
              have hl := (s95_lt (A := A) hn st).resolve_left (fun q => hok (Or.inl q))
              have hev7 : ev n ≤ 7 := by rcases hn with rfl | rfl <;> decide
              have hg1 : g ≤ 1 := by omega
              refine b_29 hg1 hn r cm (fun M1 fd1 mx cm1 fr1 => rt_q ?_)
              have K := K M1 fd1 cm1 fr1
              unfold m30 at K
              rw [if_neg hok, if_neg (fun q => q (show n ≤ 3 by omega))] at K
              obtain ⟨m1, m2, m3, m4, m5, m6, m7⟩ := mx
              have mb := mo_b g
              refine x_iload i_30_62 rfl ?_
              refine n_bipush 8 i_30_64 rfl ?_
              refine x_imulN i_30_66 ?_
              refine x_iload_n i_30_67 rfl ?_
              refine x_iaddN i_30_68 ?_
              refine x_vh (r := []) (lj := [some _, some _]) i_30_69 w_142 mb.ob [_] rfl rfl (Nat.le_of_ble_eq_true rfl) (Nat.le_of_ble_eq_true rfl) rfl ?_
              refine c_142 mb (by omega) (m1 _ (by omega)) (rt_i ?_)
              refine x_iret i_30_72 rn_30 rfl ?_
              exact K
            · refine n_bipush 4294967291 i_30_54 rfl ?_
              refine x_iret i_30_56 rn_30 rfl ?_
              exact no2 (by omega) (by omega)
          · refine n_bipush 4294967293 i_30_40 rfl ?_
            refine x_iret i_30_42 rn_30 rfl ?_
            exact no1 (Or.inr (Or.inr (by omega)))
theorem c_31 (hx : x < 4294967296) (hg : g < 4294967296) (r : RC M 1 n A) (cm : CM M) (K : ∀ M' fd', CM M' → FRq M M' → Q (some (.int (N (m31 n A x g)))) (a_hp sc fd' M')) : a_Ex 31 0 [some (.ref 0), some (.int (N x)), some (.int (N g))] [] (a_hp sc fd M) Q := by
  have n5 := r.n5
  have n2 := r.n2
  have no1 : ¬ x ≤ 5 → Q (some (.int (N 4294967294))) (a_hp sc fd M) := fun h => by
    have K := K M fd cm (FRq.refl M)
    unfold m31 at K; rw [if_pos h] at K; exact K
  have no2 : x ≤ 5 → ¬ g ≤ 1 → Q (some (.int (N 4294967293))) (a_hp sc fd M) := fun h h2 => by
    have K := K M fd cm (FRq.refl M)
    unfold m31 at K; rw [if_neg (fun q => q h), if_pos h2] at K; exact K
  have no3 : x ≤ 5 → g ≤ 1 → ¬ n ≤ 3 → Q (some (.int (N 4294967291))) (a_hp sc fd M) := fun h h2 h3 => by
    have K := K M fd cm (FRq.refl M)
    unfold m31 at K; rw [if_neg (fun q => q h), if_neg (fun q => q h2), if_pos h3] at K; exact K
  refine x_iload_n i_31_0 rfl ?_
  refine n_zltU (by omega) i_31_1 ⟨fun g1 => ?_, fun g1 => ?_⟩
  · refine n_bipush 4294967294 i_31_9 rfl ?_
    refine x_iret i_31_11 rn_31 rfl ?_
    exact no1 (by omega)
  · refine x_iload_n i_31_4 rfl ?_
    refine n_iconst 5 i_31_5 rfl ?_
    refine n_ileU (by omega) (by omega) i_31_6 ⟨fun g2 => ?_, fun g2 => ?_⟩
    · refine x_iload_n i_31_12 rfl ?_
      refine n_zltU (by omega) i_31_13 ⟨fun g3 => ?_, fun g3 => ?_⟩
      · refine n_bipush 4294967293 i_31_21 rfl ?_
        refine x_iret i_31_23 rn_31 rfl ?_
        exact no2 (by omega) (by omega)
      · refine x_iload_n i_31_16 rfl ?_
        refine n_iconst 1 i_31_17 rfl ?_
        refine n_ileU (by omega) (by omega) i_31_18 ⟨fun g4 => ?_, fun g4 => ?_⟩
        · refine x_aload_n i_31_24 rfl ?_
          refine x_gr i_31_25 ob_0 gr_0_0.1 gr_0_0.2 (rt_0_0 _) ?_
          refine n_gi (x := n) i_31_28 hb1.ob gf_1_0.1 gf_1_0.2 r.nn ?_
          refine n_iconst 3 i_31_31 rfl ?_
          refine x_ileN (by omega) (by omega) i_31_32 ⟨fun g5 => ?_, fun g5 => ?_⟩
          · refine x_aload_n i_31_38 rfl ?_
            refine x_iload_n i_31_39 rfl ?_
            refine x_vh (r := []) (lj := [some _, some _, none, none, none]) i_31_40 w_29 ob_0 [_] rfl rfl (Nat.le_of_ble_eq_true rfl) (Nat.le_of_ble_eq_true rfl) rfl ?_
            have hg1 : g ≤ 1 := by omega
            have hx5 : x ≤ 5 := by omega
            refine b_29 hg1 (by omega) r cm (fun M1 fd1 mx cm1 fr1 => rt_q ?_)
            have K := K M1 fd1 cm1 fr1
            unfold m31 at K
            rw [if_neg (fun q => q hx5), if_neg (fun q => q hg1), if_neg (fun q => q (show n ≤ 3 by omega))] at K
            obtain ⟨m1, m2, m3, m4, m5, m6, m7⟩ := mx
            have mb := mo_b g
            refine x_gr i_31_43 mb.ob gr_7_2.1 gr_7_2.2 (mb.r2 _) ?_
            refine x_iload_n i_31_46 rfl ?_
            refine n_ld (x := bes n (BF n A g).1 x (BF n A g).2) i_31_47 mb.a2 (by omega) (by omega) (m6 x (by omega)) ?_
            refine x_iret i_31_48 rn_31 rfl ?_
            exact K
          · refine n_bipush 4294967291 i_31_35 rfl ?_
            refine x_iret i_31_37 rn_31 rfl ?_
            exact no3 (by omega) (by omega) (by omega)
        · refine n_bipush 4294967293 i_31_21 rfl ?_
          refine x_iret i_31_23 rn_31 rfl ?_
          exact no2 (by omega) (by omega)
    · refine n_bipush 4294967294 i_31_9 rfl ?_
      refine x_iret i_31_11 rn_31 rfl ?_
      exact no1 (by omega)
end TEL
