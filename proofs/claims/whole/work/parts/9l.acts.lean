/-! the class's search: all acts on a stand -/
def LB : List Nat := rg 100 0 6 ++ (rg 200 0 6 ++ rg 300 0 6)
def fb : Nat → Nat → List Nat
  | _, 0 => []
  | s, d + 1 => rg (500 + 10 * s) 0 6 ++ fb (s + 1) d
def gl : Nat → Nat → List Nat
  | _, 0 => []
  | b, d + 1 => (600 + b) :: gl (b + 2) d
section ALS
variable {sc : a_Sc} {M0 M : a_Mm} {n g o i k b s : Nat} {T A : HA} {S : HA × Nat} {Q : Option Value → a_Hp → Prop}
theorem al_split (hn : n = 2 ∨ n = 3) : AL n g = LB ++ (rg 400 0 n ++ (fb 0 n ++ (if g = 1 then gl 0 (if n = 2 then 2 else 4) else []))) := by
  unfold AL
  by_cases c : g = 1
  · rw [if_pos c, if_pos c]
    rcases hn with rfl | rfl <;> rfl
  · rw [if_neg c, if_neg c]
    rcases hn with rfl | rfl <;> rfl
theorem al_100 (hn : n = 2 ∨ n = 3) {p m : Nat} (hp : p < 3) (hm : m < 6) : (p + 1) * 100 + m ∈ AL n g := by
  rw [al_split hn]
  refine List.mem_append_left _ ?_
  exact (by decide : ∀ p, p < 3 → ∀ m, m < 6 → (p + 1) * 100 + m ∈ LB) p hp m hm
theorem al_400 (hn : n = 2 ∨ n = 3) (hs : s < n) : 400 + s ∈ AL n g := by
  rw [al_split hn]
  refine List.mem_append_right _ (List.mem_append_left _ ?_)
  rcases hn with rfl | rfl
  · exact (by decide : ∀ s, s < 2 → 400 + s ∈ rg 400 0 2) s hs
  · exact (by decide : ∀ s, s < 3 → 400 + s ∈ rg 400 0 3) s hs
theorem al_500 (hn : n = 2 ∨ n = 3) (hs : s < n) {m : Nat} (hm : m < 6) : 500 + 10 * s + m ∈ AL n g := by
  rw [al_split hn]
  refine List.mem_append_right _ (List.mem_append_right _ (List.mem_append_left _ ?_))
  rcases hn with rfl | rfl
  · exact (by decide : ∀ s, s < 2 → ∀ m, m < 6 → 500 + 10 * s + m ∈ fb 0 2) s hs m hm
  · exact (by decide : ∀ s, s < 3 → ∀ m, m < 6 → 500 + 10 * s + m ∈ fb 0 3) s hs m hm
theorem al_600 (hn : n = 2 ∨ n = 3) (hg : g = 1) (hb : b < 2 ^ n) (h2 : b % 2 = 0) : 600 + b ∈ AL n g := by
  rw [al_split hn, if_pos hg]
  refine List.mem_append_right _ (List.mem_append_right _ (List.mem_append_right _ ?_))
  rcases hn with rfl | rfl
  · have hb : b < 4 := hb
    exact (by decide : ∀ b, b < 4 → b % 2 = 0 → 600 + b ∈ gl 0 2) b hb h2
  · have hb : b < 8 := hb
    exact (by decide : ∀ b, b < 8 → b % 2 = 0 → 600 + b ∈ gl 0 4) b hb h2
/-- leading acts of another phase can't be -/
theorem lead_off (x : SX M o n g T S i A) {j : Nat} (hj : j < 3) (hne : ¬ j = S.1 0 i % 4) : (rg ((j + 1) * 100) 0 6).foldl (stq n T i) S = S := by
  obtain ⟨hcb, h7, h166, hc27, hi4, ii⟩ := x.cur
  refine fold_id (fun a ha => ?_)
  obtain ⟨m, m1, m2, rfl⟩ := rg_in _ _ ha
  refine stq_no ?_
  have ph : std n T (S.1 0 i) 6 2 = S.1 0 i % 4 := rfl
  have f2 : std n T (S.1 0 i) 6 2 ≤ 3 := ii.1.2.2.2
  rcases (by omega : j = 0 ∨ j = 1 ∨ j = 2) with rfl | rfl | rfl
  · rw [show (0 + 1) * 100 + m = 100 + m by omega, act_100 (by omega), can57 (isK_5 (by omega)) f2 x.n5, ph]
    exact fun q => hne q.1.symm
  · rw [show (1 + 1) * 100 + m = 200 + m by omega, act_200 (by omega), can64 (isK_5 (by omega)) f2 x.n5, ph]
    exact fun q => hne q.1.symm
  · rw [show (2 + 1) * 100 + m = 300 + m by omega, act_300 (by omega), can66 (isK_5 (by omega)), ph]
    exact fun q => hne q.1.symm
theorem c_132 (mb : MB o) (x : SX M o n g T S i A) (K : ∀ M' A', SX M' o n g T (LB.foldl (stq n T i) S) i A' → FRh o M M' → Q none (a_hp sc o M')) : a_Ex 132 0 [some (.ref 147), none, none, none] [] (a_hp sc o M) Q := by
  obtain ⟨hcb, h7, h166, hc27, hi4, ii⟩ := x.cur
  have hn := x.2.2.2.2.2.2.2
  have h5 := x.n5
  have h3 : S.1 0 i % 4 < 4 := Nat.mod_lt _ (by omega)
  refine x_aload_n i_132_0 rfl ?_
  refine x_gr i_132_1 ob_147 gr_6_2.1 gr_6_2.2 (rt_147_2 _) ?_
  refine x_aload_n i_132_4 rfl ?_
  refine n_gi (x := i) i_132_5 ob_147 gf_6_7.1 gf_6_7.2 h7 ?_
  refine n_ld (x := S.1 0 i) i_132_8 ar_166 (by omega) (by omega) h166 ?_
  refine n_iconst 4 i_132_9 rfl ?_
  refine x_iremN (by omega) (by omega) (by omega) i_132_10 ?_
  refine x_istore_n i_132_11 rfl rfl ?_
  refine x_iload_n i_132_12 rfl ?_
  refine n_iconst 3 i_132_13 rfl ?_
  refine x_ineN (by omega) (by omega) i_132_14 ⟨fun g1 => ?_, fun g1 => ?_⟩
  · refine n_iconst 4 i_132_22 rfl ?_
    refine x_istore_n i_132_23 rfl rfl ?_
    refine n_iconst 4294967295 i_132_24 rfl ?_
    refine x_istore_n i_132_25 rfl rfl ?_
    refine lead_0 (p := S.1 0 i % 4) mb h5 (by omega) hn (by omega) (by unfold BK; omega) (fun m hm => al_100 hn (by omega) hm) x rfl (fun M1 A1 q1 k1 x1 y1 f1 => ?_)
    refine x_vret i_132_86 rn_132 ?_
    refine K M1 A1 ?_ f1
    have e0 : LB.foldl (stq n T i) S = (rg ((S.1 0 i % 4 + 1) * 100) 0 6).foldl (stq n T i) S := by
      unfold LB
      rw [List.foldl_append, List.foldl_append]
      rcases (by omega : S.1 0 i % 4 = 0 ∨ S.1 0 i % 4 = 1 ∨ S.1 0 i % 4 = 2) with z | z | z
      · rw [z] at x1 y1 ⊢
        rw [lead_off x1 (j := 1) (by omega) (by rw [y1, z]; omega), lead_off x1 (j := 2) (by omega) (by rw [y1, z]; omega)]
      · rw [z] at x1 y1 ⊢
        rw [lead_off x (j := 0) (by omega) (by omega), lead_off x1 (j := 2) (by omega) (by rw [y1, z]; omega)]
      · rw [z] at x1 y1 ⊢
        rw [lead_off x (j := 0) (by omega) (by omega), lead_off x (j := 1) (by omega) (by omega)]
    rw [e0]
    exact x1
  · have e0 : LB.foldl (stq n T i) S = S := by
      unfold LB
      rw [List.foldl_append, List.foldl_append, lead_off x (j := 0) (by omega) (by omega), lead_off x (j := 1) (by omega) (by omega), lead_off x (j := 2) (by omega) (by omega)]
    rw [e0] at K
    refine n_bipush 4294967294 i_132_17 rfl ?_
    refine x_goto i_132_19 ?_
    refine x_istore_n i_132_23 rfl rfl ?_
    refine n_iconst 4294967295 i_132_24 rfl ?_
    refine x_istore_n i_132_25 rfl rfl ?_
    refine x_iload_n i_132_26 rfl ?_
    refine x_iload_n i_132_27 rfl ?_
    refine x_icmpT i_132_28 (by decide +kernel) ?_
    refine x_vret i_132_86 rn_132 ?_
    exact K M A x (fun _ _ _ _ _ _ => rfl)
theorem act_400 (hs : s < 5) : act n A (400 + s) = s_67 n A s := by unfold act; rw [if_neg (by omega), if_neg (by omega), if_neg (by omega), if_pos (by omega), show (400 + s) % 100 = s by omega]
theorem c_135_2 (mb : MB o) : ∀ d s {S : HA × Nat} {M : a_Mm} {A : HA}, n - s = d → s ≤ n → SX M o n g T S i A → FRh o M0 M → (∀ M' A', SX M' o n g T ((rg 400 s d).foldl (stq n T i) S) i A' → FRh o M0 M' → Q none (a_hp sc o M')) → a_Ex 135 2 [some (.ref 147), some (.int (N s))] [] (a_hp sc o M) Q := by
  intro d
  induction d with
  | zero =>
    intro s S M A hd hs x fr K
    have e : n = s := by omega
    subst e
    have h5 := x.n5
    refine x_iload_n i_135_2 rfl ?_
    refine x_aload_n i_135_3 rfl ?_
    refine x_gr i_135_4 ob_147 gr_6_0.1 gr_6_0.2 (rt_147_0 _) ?_
    refine n_gi (x := n) i_135_7 hb156.ob gf_1_0.1 gf_1_0.2 x.1.nn ?_
    refine x_igeN (by omega) (by omega) i_135_10 ⟨fun g1 => ?_, fun g1 => ?_⟩
    · refine x_vret i_135_55 rn_135 ?_
      exact K M A x fr
    · exact absurd (Nat.le_refl _) g1
  | succ d ih =>
    intro s S M A hd hs x fr K
    obtain ⟨hcb, h7, h166, hc27, hi4, ii⟩ := x.cur
    have hn := x.2.2.2.2.2.2.2
    have h5 := x.n5
    have ha := al_400 (g := g) hn (show s < n by omega)
    have K : ∀ M' A', SX M' o n g T ((rg 400 (s + 1) d).foldl (stq n T i) (stq n T i S (400 + s))) i A' → FRh o M0 M' → Q none (a_hp sc o M') := K
    refine x_iload_n i_135_2 rfl ?_
    refine x_aload_n i_135_3 rfl ?_
    refine x_gr i_135_4 ob_147 gr_6_0.1 gr_6_0.2 (rt_147_0 _) ?_
    refine n_gi (x := n) i_135_7 hb156.ob gf_1_0.1 gf_1_0.2 x.1.nn ?_
    refine x_igeN (by omega) (by omega) i_135_10 ⟨fun g1 => ?_, fun g1 => ?_⟩
    · exact absurd g1 (by omega)
    · refine x_aload_n i_135_13 rfl ?_
      refine x_gr i_135_14 ob_147 gr_6_0.1 gr_6_0.2 (rt_147_0 _) ?_
      refine x_aload_n i_135_17 rfl ?_
      refine x_gr i_135_18 ob_147 gr_6_2.1 gr_6_2.2 (rt_147_2 _) ?_
      refine x_aload_n i_135_21 rfl ?_
      refine n_gi (x := i) i_135_22 ob_147 gf_6_7.1 gf_6_7.2 h7 ?_
      refine n_ld (x := S.1 0 i) i_135_25 ar_166 (by omega) (by omega) h166 ?_
      refine x_vh (r := []) (lj := [some _, some _, none, none, none, none]) i_135_26 w_94 hb156.ob [_] rfl rfl (Nat.le_of_ble_eq_true rfl) (Nat.le_of_ble_eq_true rfl) rfl ?_
      refine c_94 hb156 x.1 (by omega) (fun M1 r1 f1 => rt_n ?_)
      obtain ⟨e1, t1⟩ := x.lay
      have x1 := x.hall mb r1 t1 f1
      generalize s_94 n A (S.1 0 i) = A1 at r1 e1 t1 x1
      refine x_aload_n i_135_29 rfl ?_
      refine x_gr i_135_30 ob_147 gr_6_0.1 gr_6_0.2 (rt_147_0 _) ?_
      refine x_iload_n i_135_33 rfl ?_
      refine x_vh (r := []) (lj := [some _, some _]) i_135_34 w_67 hb156.ob [_] rfl rfl (Nat.le_of_ble_eq_true rfl) (Nat.le_of_ble_eq_true rfl) rfl ?_
      refine c_67 hb156 r1 (by omega) (fun hqa M2 r2 f2 => rt_i ?_)
      have h67 : act n A1 (400 + s) = s_67 n A1 s := act_400 (by omega)
      have e2 := act_es h5 (by omega) e1 (400 + s)
      rw [← h67] at hqa r2 ⊢
      have hqa : (act n A1 (400 + s)).1 < 4294967296 := by omega
      refine n_zltU hqa i_135_37 ⟨fun g2 => ?_, fun g2 => ?_⟩
      · have no : ¬ (act n (std n T (S.1 0 i)) (400 + s)).1 < 2147483648 := by rw [← e2.1]; omega
        rw [stq_no no] at K
        have t2 : TM n T (act n A1 (400 + s)).2 := by rw [h67] at g2 ⊢; rw [rf67 (by omega)]; exact t1
        refine n_iinc 1 i_135_49 rfl rfl rfl rfl ?_
        refine x_goto i_135_52 ?_
        first | exact ih (s + 1) (by omega) (by omega) x3 (fr.trans ((FR.h f1).trans ((FR.h f2).trans f3))) K | exact ih (s + 1) (by omega) (by omega) (x1.hall mb r2 t2 f2) (fr.trans ((FR.h f1).trans (FR.h f2))) K
      · have ac : (act n (std n T (S.1 0 i)) (400 + s)).1 < 2147483648 := by rw [← e2.1]; omega
        have t2 : TM n T (act n A1 (400 + s)).2 := (act_inv ii (al_ok hn _ ha) ac).1.2.2.2.es e2.2.symm
        have x2 := x1.hall mb r2 t2 f2
        refine x_aload_n i_135_40 rfl ?_
        refine n_sipush 400 i_135_41 rfl ?_
        refine x_iload_n i_135_44 rfl ?_
        refine x_iaddN i_135_45 ?_
        refine x_vh (r := []) (lj := [some _, some _, none, none, none]) i_135_46 w_129 ob_147 [_] rfl rfl (Nat.le_of_ble_eq_true rfl) (Nat.le_of_ble_eq_true rfl) rfl ?_
        refine c_rch mb x2 e2.2 ac ha (fun M3 x3 y1 y2 y3 f3 => rt_n ?_)
        refine n_iinc 1 i_135_49 rfl rfl rfl rfl ?_
        refine x_goto i_135_52 ?_
        first | exact ih (s + 1) (by omega) (by omega) x3 (fr.trans ((FR.h f1).trans ((FR.h f2).trans f3))) K | exact ih (s + 1) (by omega) (by omega) (x1.hall mb r2 t2 f2) (fr.trans ((FR.h f1).trans (FR.h f2))) K
theorem c_135 (mb : MB o) (x : SX M o n g T S i A) (K : ∀ M' A', SX M' o n g T ((rg 400 0 n).foldl (stq n T i) S) i A' → FRh o M M' → Q none (a_hp sc o M')) : a_Ex 135 0 [some (.ref 147), none] [] (a_hp sc o M) Q := by
  refine n_iconst 0 i_135_0 rfl ?_
  refine x_istore_n i_135_1 rfl rfl ?_
  exact c_135_2 mb n 0 rfl (Nat.zero_le _) x (fun _ _ _ _ _ _ => rfl) K
theorem c_136_2 (mb : MB o) {l2 l3 : Option Value} : ∀ d s {S : HA × Nat} {M : a_Mm} {A : HA} {l2 l3 : Option Value}, n - s = d → s ≤ n → SX M o n g T S i A → FRh o M0 M → (∀ M' A', SX M' o n g T ((fb s d).foldl (stq n T i) S) i A' → FRh o M0 M' → Q none (a_hp sc o M')) → (l2 = none ∨ ∃ v, l2 = some (.int v)) → a_Ex 136 2 [some (.ref 147), some (.int (N s)), l2, l3] [] (a_hp sc o M) Q := by
  intro d
  induction d with
  | zero =>
    intro s S M A l2 l3 hd hs x fr K _
    have e : n = s := by omega
    subst e
    have h5 := x.n5
    refine x_iload_n i_136_2 rfl ?_
    refine x_aload_n i_136_3 rfl ?_
    refine x_gr i_136_4 ob_147 gr_6_0.1 gr_6_0.2 (rt_147_0 _) ?_
    refine n_gi (x := n) i_136_7 hb156.ob gf_1_0.1 gf_1_0.2 x.1.nn ?_
    refine x_igeN (by omega) (by omega) i_136_10 ⟨fun g1 => ?_, fun g1 => ?_⟩
    · refine x_vret i_136_88 rn_136 ?_
      exact K M A x fr
    · exact absurd (Nat.le_refl _) g1
  | succ d ih =>
    intro s S M A l2 l3 hd hs x fr K hl2
    have hn := x.2.2.2.2.2.2.2
    have h5 := x.n5
    have K : ∀ M' A', SX M' o n g T ((rg (500 + 10 * s) 0 6 ++ fb (s + 1) d).foldl (stq n T i) S) i A' → FRh o M0 M' → Q none (a_hp sc o M') := K
    rw [List.foldl_append] at K
    refine x_iload_n i_136_2 rfl ?_
    refine x_aload_n i_136_3 rfl ?_
    refine x_gr i_136_4 ob_147 gr_6_0.1 gr_6_0.2 (rt_147_0 _) ?_
    refine n_gi (x := n) i_136_7 hb156.ob gf_1_0.1 gf_1_0.2 x.1.nn ?_
    refine x_igeN (by omega) (by omega) i_136_10 ⟨fun g1 => ?_, fun g1 => ?_⟩
    · exact absurd g1 (by omega)
    · refine n_iconst 4 i_136_13 rfl ?_
      refine x_istore_n i_136_14 rfl rfl ?_
      refine n_iconst 4294967295 i_136_15 rfl ?_
      refine x_istore_n i_136_16 rfl rfl ?_
      refine fins_0 (s := s) mb h5 (by omega) hn (by omega) (Or.inr (Or.inr (Or.inr ⟨s, by omega, rfl⟩))) (fun m hm => al_500 hn (by omega) hm) x rfl (fun M1 A1 q1 k1 x1 y1 f1 => ?_)
      refine n_iinc 1 i_136_82 rfl rfl rfl rfl ?_
      refine x_goto i_136_85 ?_
      exact ih (s + 1) (by omega) (by omega) x1 (fr.trans f1) K (Or.inr ⟨_, rfl⟩)
theorem c_136 (mb : MB o) (x : SX M o n g T S i A) (K : ∀ M' A', SX M' o n g T ((fb 0 n).foldl (stq n T i) S) i A' → FRh o M M' → Q none (a_hp sc o M')) : a_Ex 136 0 [some (.ref 147), none, none, none] [] (a_hp sc o M) Q := by
  refine n_iconst 0 i_136_0 rfl ?_
  refine x_istore_n i_136_1 rfl rfl ?_
  exact c_136_2 (l2 := none) (l3 := none) mb n 0 rfl (Nat.zero_le _) x (fun _ _ _ _ _ _ => rfl) K (Or.inl rfl)
/-- a parting is laid -/
theorem c_137_31 {b : Nat} (hb : b < 8) : ∀ d s {M : a_Mm} {A : HA}, n - s = d → 1 ≤ s → s ≤ n → RC M 156 n A → FR 156 M0 M → (∀ M' A', RC M' 156 n A' → FR 156 M0 M' → (∀ w t, ¬ w = 2 → A' w t = A w t) → (∀ t, A' 2 t = if s ≤ t ∧ t < n then b / 2 ^ t % 2 else A 2 t) → a_Ex 137 62 [some (.ref 147), some (.int (N b)), some (.int (N n))] [] (a_hp sc o M') Q) → a_Ex 137 31 [some (.ref 147), some (.int (N b)), some (.int (N s))] [] (a_hp sc o M) Q := by
  intro d
  induction d with
  | zero =>
    intro s M A hd h1 hs r fr K
    have e : n = s := by omega
    subst e
    have h5 := r.n5
    refine x_iload_n i_137_31 rfl ?_
    refine x_aload_n i_137_32 rfl ?_
    refine x_gr i_137_33 ob_147 gr_6_0.1 gr_6_0.2 (rt_147_0 _) ?_
    refine n_gi (x := n) i_137_36 hb156.ob gf_1_0.1 gf_1_0.2 r.nn ?_
    refine x_igeN (by omega) (by omega) i_137_39 ⟨fun g1 => ?_, fun g1 => ?_⟩
    · exact K M A r fr (fun _ _ _ => rfl) (fun t => by rw [if_neg (by omega)])
    · exact absurd (Nat.le_refl _) g1
  | succ d ih =>
    intro s M A hd h1 hs r fr K
    have h5 := r.n5
    have hx : (b >>> s) &&& 1 = b / 2 ^ s % 2 := sh1 b s
    refine x_iload_n i_137_31 rfl ?_
    refine x_aload_n i_137_32 rfl ?_
    refine x_gr i_137_33 ob_147 gr_6_0.1 gr_6_0.2 (rt_147_0 _) ?_
    refine n_gi (x := n) i_137_36 hb156.ob gf_1_0.1 gf_1_0.2 r.nn ?_
    refine x_igeN (by omega) (by omega) i_137_39 ⟨fun g1 => ?_, fun g1 => ?_⟩
    · exact absurd g1 (by omega)
    · refine x_aload_n i_137_42 rfl ?_
      refine x_gr i_137_43 ob_147 gr_6_0.1 gr_6_0.2 (rt_147_0 _) ?_
      refine x_gr i_137_46 hb156.ob gr_1_7.1 gr_1_7.2 (hb156.r7 _) ?_
      refine x_iload_n i_137_49 rfl ?_
      refine x_iload_n i_137_50 rfl ?_
      refine x_iload_n i_137_51 rfl ?_
      refine x_ishrN (by omega) (by omega) i_137_52 ?_
      refine n_iconst 1 i_137_53 rfl ?_
      refine x_iandN i_137_54 ?_
      rw [hx]
      refine n_stC i_137_55 hb156 r 2 (by omega) (by omega) (show b / 2 ^ s % 2 < 5 by omega) rfl (fun M1 r1 f1 => ?_)
      refine n_iinc 1 i_137_56 rfl rfl rfl rfl ?_
      refine x_goto i_137_59 ?_
      refine ih (s + 1) (by omega) (by omega) (by omega) r1 (fr.trans f1) (fun M2 A2 r2 f2 g1 g2 => K M2 A2 r2 f2 (fun w t hw => (g1 w t hw).trans (by rw [a_up_def, if_neg (fun q => hw q.1)])) (fun t => ?_))
      rw [g2 t, a_up_def]
      by_cases c : s + 1 ≤ t ∧ t < n
      · rw [if_pos c, if_pos (by omega)]
      · rw [if_neg c]
        by_cases y : t = s
        · rw [if_pos ⟨rfl, y⟩, if_pos (by omega), y]
        · rw [if_neg (fun q => y q.2), if_neg (by omega)]
theorem c_137_2 (mb : MB o) (hg : g = 1) : ∀ d b {S : HA × Nat} {M : a_Mm} {A : HA} {l2 : Option Value}, b + 2 * d = 2 ^ n → b % 2 = 0 → SX M o n g T S i A → FRh o M0 M → (∀ M' A', SX M' o n g T ((gl b d).foldl (stq n T i) S) i A' → FRh o M0 M' → Q none (a_hp sc o M')) → a_Ex 137 2 [some (.ref 147), some (.int (N b)), l2] [] (a_hp sc o M) Q := by
  intro d
  induction d with
  | zero =>
    intro b S M A l2 hd hb x fr K
    have hn := x.2.2.2.2.2.2.2
    have hev : ev n + 1 = 2 ^ n := by rcases hn with rfl | rfl <;> rfl
    have h28 : 2 ^ n ≤ 8 := by rcases hn with rfl | rfl <;> decide
    refine x_iload_n i_137_2 rfl ?_
    refine x_aload_n i_137_3 rfl ?_
    refine x_gr i_137_4 ob_147 gr_6_0.1 gr_6_0.2 (rt_147_0 _) ?_
    refine x_vh (r := [_]) (lj := [some _]) i_137_7 w_47 hb156.ob [] rfl rfl (Nat.le_of_ble_eq_true rfl) (Nat.le_of_ble_eq_true rfl) rfl ?_
    refine c_47 hb156 x.1 (fun hq0 => rt_i ?_)
    refine x_igtN (by omega) (by omega) i_137_10 ⟨fun g1 => ?_, fun g1 => ?_⟩
    · refine x_vret i_137_77 rn_137 ?_
      exact K M A x fr
    · exact absurd (show ev n < b by omega) g1
  | succ d ih =>
    intro b S M A l2 hd hb x fr K
    obtain ⟨hcb, h7, h166, hc27, hi4, ii⟩ := x.cur
    have hn := x.2.2.2.2.2.2.2
    have h5 := x.n5
    have hev : ev n + 1 = 2 ^ n := by rcases hn with rfl | rfl <;> rfl
    have h28 : 2 ^ n ≤ 8 := by rcases hn with rfl | rfl <;> decide
    have ha := al_600 (g := g) hn hg (show b < 2 ^ n by omega) hb
    have K : ∀ M' A', SX M' o n g T ((gl (b + 2) d).foldl (stq n T i) (stq n T i S (600 + b))) i A' → FRh o M0 M' → Q none (a_hp sc o M') := K
    refine x_iload_n i_137_2 rfl ?_
    refine x_aload_n i_137_3 rfl ?_
    refine x_gr i_137_4 ob_147 gr_6_0.1 gr_6_0.2 (rt_147_0 _) ?_
    refine x_vh (r := [_]) (lj := [some _]) i_137_7 w_47 hb156.ob [] rfl rfl (Nat.le_of_ble_eq_true rfl) (Nat.le_of_ble_eq_true rfl) rfl ?_
    refine c_47 hb156 x.1 (fun hq0 => rt_i ?_)
    refine x_igtN (by omega) (by omega) i_137_10 ⟨fun g1 => ?_, fun g1 => ?_⟩
    · exact absurd g1 (by omega)
    · refine x_aload_n i_137_13 rfl ?_
      refine x_gr i_137_14 ob_147 gr_6_0.1 gr_6_0.2 (rt_147_0 _) ?_
      refine x_aload_n i_137_17 rfl ?_
      refine x_gr i_137_18 ob_147 gr_6_2.1 gr_6_2.2 (rt_147_2 _) ?_
      refine x_aload_n i_137_21 rfl ?_
      refine n_gi (x := i) i_137_22 ob_147 gf_6_7.1 gf_6_7.2 h7 ?_
      refine n_ld (x := S.1 0 i) i_137_25 ar_166 (by omega) (by omega) h166 ?_
      refine x_vh (r := []) (lj := [some _, some _, none, none, none, none]) i_137_26 w_94 hb156.ob [_] rfl rfl (Nat.le_of_ble_eq_true rfl) (Nat.le_of_ble_eq_true rfl) rfl ?_
      refine c_94 hb156 x.1 (by omega) (fun M1 r1 f1 => rt_n ?_)
      obtain ⟨e1, t1⟩ := x.lay
      have x1 := x.hall mb r1 t1 f1
      generalize s_94 n A (S.1 0 i) = A1 at r1 e1 t1 x1
      refine n_iconst 1 i_137_29 rfl ?_
      refine x_istore_n i_137_30 rfl rfl ?_
      refine c_137_31 (M0 := M1) (show b < 8 by omega) (n - 1) 1 rfl (Nat.le_refl _) (by omega) r1 (FR.refl _ _) (fun M2 A2 r2 f2 g1 g2 => ?_)
      have ea : act n (std n T (S.1 0 i)) (600 + b) = (0, grp (std n T (S.1 0 i)) b) := by rw [oka_g (al_ok hn _ ha) (by omega), show (600 + b) % 100 = b by omega]
      have ac : (act n (std n T (S.1 0 i)) (600 + b)).1 < 2147483648 := by rw [ea]; exact (by omega : (0 : Nat) < 2147483648)
      have e2 : ES n A2 (act n (std n T (S.1 0 i)) (600 + b)).2 := by
        rw [ea]
        refine ⟨fun w hw s hs => ?_, fun k k1 k2 => ?_⟩
        · show A2 w s = if w = 2 then b / 2 ^ s % 2 else std n T (S.1 0 i) w s
          by_cases y : w = 2
          · rw [if_pos y, y, g2 s]
            by_cases z : s = 0
            · rw [if_neg (by omega), z, e1.1 2 (by omega) 0 (by omega)]
              show 0 = b / 1 % 2
              omega
            · rw [if_pos (by omega)]
          · rw [if_neg y, g1 w s y]; exact e1.1 w hw s hs
        · show A2 6 k = std n T (S.1 0 i) 6 k
          rw [g1 6 k (by omega)]; exact e1.2 k k1 k2
      have t2 : TM n T A2 := (act_inv ii (al_ok hn _ ha) ac).1.2.2.2.es e2.symm
      have x2 := x1.hall mb r2 t2 f2
      refine x_aload_n i_137_62 rfl ?_
      refine n_sipush 600 i_137_63 rfl ?_
      refine x_iload_n i_137_66 rfl ?_
      refine x_iaddN i_137_67 ?_
      refine x_vh (r := []) (lj := [some _, some _, none, none, none]) i_137_68 w_129 ob_147 [_] rfl rfl (Nat.le_of_ble_eq_true rfl) (Nat.le_of_ble_eq_true rfl) rfl ?_
      refine c_rch mb x2 e2 ac ha (fun M3 x3 y1 y2 y3 f3 => rt_n ?_)
      refine n_iinc 2 i_137_71 rfl rfl rfl rfl ?_
      refine x_goto i_137_74 ?_
      exact ih (b + 2) (by omega) (by omega) x3 (fr.trans ((FR.h f1).trans ((FR.h f2).trans f3))) K
theorem c_137 (mb : MB o) (hg : g = 1) (x : SX M o n g T S i A) (K : ∀ M' A', SX M' o n g T ((gl 0 (if n = 2 then 2 else 4)).foldl (stq n T i) S) i A' → FRh o M M' → Q none (a_hp sc o M')) : a_Ex 137 0 [some (.ref 147), none, none] [] (a_hp sc o M) Q := by
  refine n_iconst 0 i_137_0 rfl ?_
  refine x_istore_n i_137_1 rfl rfl ?_
  have hn := x.2.2.2.2.2.2.2
  exact c_137_2 mb hg _ 0 (by rcases hn with rfl | rfl <;> rfl) rfl x (fun _ _ _ _ _ _ => rfl) K
end ALS
