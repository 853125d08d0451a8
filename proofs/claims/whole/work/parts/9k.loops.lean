/-! the class's search: blocks of acts on the machine -/
section BLM
variable {sc : a_Sc} {M0 : a_Mm} {n g o i k b s : Nat} {T A : HA} {Q : Option Value → a_Hp → Prop}
theorem rf57 (h5 : n ≤ 5) (f2 : A 6 2 ≤ 3) (h : ¬ (s_57 n A k).1 < 2147483648) : (s_57 n A k).2 = A := by
  by_cases hk : isK k = 0
  · unfold s_57; rw [if_pos hk]
  rw [can57 hk f2 h5] at h
  unfold s_57
  rw [if_neg hk]
  by_cases c1 : A 6 2 = 0
  · rw [if_pos c1]
    by_cases c2 : A 1 0 = 1
    · rw [if_pos c2, if_neg (fun c3 => h ⟨c1, c2, c3⟩)]
    · rw [if_neg c2]
  · rw [if_neg c1]
theorem rf64 (h5 : n ≤ 5) (f2 : A 6 2 ≤ 3) (h : ¬ (s_64 n A k).1 < 2147483648) : (s_64 n A k).2 = A := by
  by_cases hk : isK k = 0
  · unfold s_64; rw [if_pos hk]
  rw [can64 hk f2 h5] at h
  unfold s_64
  rw [if_neg hk]
  by_cases c1 : A 6 2 = 1
  · rw [if_pos c1]
    by_cases c2 : A 1 0 = 1
    · rw [if_pos c2, if_neg (fun c3 => h ⟨c1, c2, c3⟩)]
    · rw [if_neg c2]
  · rw [if_neg c1]
theorem rf66 (h : ¬ (s_66 n A k).1 < 2147483648) : (s_66 n A k).2 = A := by
  by_cases hk : isK k = 0
  · unfold s_66; rw [if_pos hk]
  rw [can66 hk] at h
  unfold s_66
  rw [if_neg hk]
  by_cases c1 : A 6 2 = 2
  · rw [if_pos c1]
    by_cases c2 : A 1 0 = 1
    · rw [if_pos c2, if_neg (fun c3 => h ⟨c1, c2, c3⟩)]
    · rw [if_neg c2]
  · rw [if_neg c1]
theorem rf67 (h : ¬ (s_67 n A s).1 < 2147483648) : (s_67 n A s).2 = A := by
  unfold s_67 at h ⊢
  by_cases c0 : 2147483648 ≤ s
  · rw [if_pos c0]
  rw [if_neg c0] at h ⊢
  by_cases c1 : n ≤ s
  · rw [if_pos c1]
  rw [if_neg c1] at h ⊢
  by_cases c2 : A 1 s = 0
  · rw [if_pos c2]
  rw [if_neg c2] at h
  have := pop_le (s_69 n (s_63 n A s) 1)
  exact absurd (show pop (s_69 n (s_63 n A s) 1) < 2147483648 by omega) h
theorem rf72 (h : ¬ (s_72 n A s k).1 < 2147483648) : (s_72 n A s k).2 = A := by
  unfold s_72 at h ⊢
  by_cases c0 : 2147483648 ≤ s
  · rw [if_pos c0]
  rw [if_neg c0] at h ⊢
  by_cases c1 : n ≤ s
  · rw [if_pos c1]
  rw [if_neg c1] at h ⊢
  by_cases c2 : isK k = 0
  · rw [if_pos c2]
  rw [if_neg c2] at h ⊢
  by_cases c3 : ¬ (A 1 s = 1)
  · rw [if_neg c3]
  have c3 := Classical.not_not.mp c3
  rw [if_pos c3] at h ⊢
  generalize s_69 n A 1 &&& s_74 n A (A 2 s) = X at h ⊢
  by_cases c4 : ¬ (lw n X = s)
  · rw [if_neg c4]
  have c4 := Classical.not_not.mp c4
  rw [if_pos c4] at h ⊢
  by_cases c5 : ¬ (s_76 n A X = 0)
  · rw [if_neg c5]
  have c5 := Classical.not_not.mp c5
  rw [if_pos c5] at h ⊢
  have hv := s77_le n A X X
  by_cases c6 : s_77 n A X X = 4294967295
  · rw [if_pos c6]
  rw [if_neg c6] at h
  exact absurd (show s_77 n A X X < 2147483648 by omega) h
theorem blk_rf (hb : BK n b) (h5 : n ≤ 5) (f2 : A 6 2 ≤ 3) (h : ¬ (act n A b).1 < 2147483648) : (act n A b).2 = A := by
  rcases hb with rfl | rfl | rfl | ⟨s, hs, rfl⟩
  · rw [show act n A 100 = s_57 n A (kk 0) from act_100 (m := 0) (by omega)] at h ⊢; exact rf57 h5 f2 h
  · rw [show act n A 200 = s_64 n A (kk 0) from act_200 (m := 0) (by omega)] at h ⊢; exact rf64 h5 f2 h
  · rw [show act n A 300 = s_66 n A (kk 0) from act_300 (m := 0) (by omega)] at h ⊢; exact rf66 h
  · rw [show act n A (500 + 10 * s) = s_72 n A s (kk 0) from act_500 (m := 0) (by omega) (by omega)] at h ⊢; exact rf72 h

theorem lead_L {c c1 q p : Nat} (mb : MB o) (h5 : n ≤ 5) (hn2 : 2 ≤ n) (hn : n = 2 ∨ n = 3) (hp : p < 3) (hL : ∀ m, m < 6 → (p + 1) * 100 + m ∈ AL n g) (hacc : ∀ m, m < 6 → (act n (std n T c) ((p + 1) * 100 + m)).1 < 2147483648) (hq : q ≤ 4) (hskip : ∀ m, q + 1 < m → m < 6 → vl n (act n (std n T c) ((p + 1) * 100 + m)).2 = c1) : ∀ d m {S : HA × Nat} {M : a_Mm} {A : HA}, m + d = 6 → 1 ≤ m → SX M o n g T S i A → S.1 0 i = c → ms S.1 c1 S.2 = true → FRh o M0 M → (∀ M' A' q' k', SX M' o n g T ((rg ((p + 1) * 100) m d).foldl (stq n T i) S) i A' → ((rg ((p + 1) * 100) m d).foldl (stq n T i) S).1 0 i = c → FRh o M0 M' → a_Ex 132 86 [some (.ref 147), some (.int (N p)), some (.int (N q')), some (.int (N k'))] [] (a_hp sc o M') Q) → a_Ex 132 26 [some (.ref 147), some (.int (N p)), some (.int (N q)), some (.int (N (kk m)))] [] (a_hp sc o M) Q := by
  intro d
  induction d with
  | zero =>
    intro m S M A hm h1 x hc hin fr K
    have e : m = 6 := by omega
    subst e
    rw [show kk 6 = 5 from rfl]
    refine x_iload_n i_132_26 rfl ?_
    refine x_iload_n i_132_27 rfl ?_
    refine x_igtN (by omega) (by omega) i_132_28 ⟨fun g1 => ?_, fun g1 => ?_⟩
    · exact K M A q 5 x hc fr
    · exact absurd (show q < 5 by omega) g1
  | succ d ih =>
    intro m S M A hm h1 x hc hin fr K
    have hk : kk m = m - 1 := by unfold kk; rw [if_neg (by omega)]
    obtain ⟨hcb, h7, h166, hc27, hi4, ii⟩ := x.cur
    refine x_iload_n i_132_26 rfl ?_
    refine x_iload_n i_132_27 rfl ?_
    refine x_igtN (by omega) (by omega) i_132_28 ⟨fun g1 => ?_, fun g1 => ?_⟩
    · have e0 : (rg ((p + 1) * 100) m (d + 1)).foldl (stq n T i) S = S := fold_id (fun a ha => by
        obtain ⟨j, j1, j2, rfl⟩ := rg_in _ _ ha
        refine stq_in ?_
        rw [hc, hskip j (by omega) (by omega)]
        exact hin)
      rw [e0] at K
      exact K M A q (kk m) x hc fr
    · refine x_aload_n i_132_31 rfl ?_
      refine x_gr i_132_32 ob_147 gr_6_0.1 gr_6_0.2 (rt_147_0 _) ?_
      refine x_aload_n i_132_35 rfl ?_
      refine x_gr i_132_36 ob_147 gr_6_2.1 gr_6_2.2 (rt_147_2 _) ?_
      refine x_aload_n i_132_39 rfl ?_
      refine n_gi (x := i) i_132_40 ob_147 gf_6_7.1 gf_6_7.2 h7 ?_
      refine n_ld (x := S.1 0 i) i_132_43 ar_166 (by omega) (by omega) h166 ?_
      refine x_vh (r := []) (lj := [some _, some _, none, none, none, none]) i_132_44 w_94 hb156.ob [_] rfl rfl (Nat.le_of_ble_eq_true rfl) (Nat.le_of_ble_eq_true rfl) rfl ?_
      refine c_94 hb156 x.1 (by omega) (fun M1 r1 f1 => rt_n ?_)
      obtain ⟨e1, t1⟩ := x.lay
      have x1 := x.hall mb r1 t1 f1
      generalize s_94 n A (S.1 0 i) = A1 at r1 e1 t1 x1
      rw [hc] at e1
      refine x_aload_n i_132_47 rfl ?_
      refine x_iload_n i_132_48 rfl ?_
      refine x_iload_n i_132_49 rfl ?_
      refine x_vh (r := []) (lj := [some _, some _, some _]) i_132_50 w_133 ob_147 [_, _] rfl rfl (Nat.le_of_ble_eq_true rfl) (Nat.le_of_ble_eq_true rfl) rfl ?_
      refine c_133 r1 hp (by omega) (fun hqa M2 r2 f2 => rt_i ?_)
      have e2 := act_es h5 hn2 e1 ((p + 1) * 100 + m)
      have ac1 : (act n A1 ((p + 1) * 100 + m)).1 < 2147483648 := by rw [e2.1]; exact hacc m (by omega)
      have t2 : TM n T (act n A1 ((p + 1) * 100 + m)).2 := (act_inv (hc ▸ ii) (al_ok hn _ (hL m (by omega))) (hacc m (by omega))).1.2.2.2.es e2.2.symm
      have hqa : (act n A1 ((p + 1) * 100 + m)).1 < 4294967296 := by omega
      have x2 := x1.hall mb r2 t2 f2
      refine n_zgeU hqa i_132_53 ⟨fun g2 => ?_, fun g2 => ?_⟩
      · refine x_aload_n i_132_59 rfl ?_
        refine x_iload_n i_132_60 rfl ?_
        refine n_iconst 1 i_132_61 rfl ?_
        refine x_iaddN i_132_62 ?_
        refine n_bipush 100 i_132_63 rfl ?_
        refine x_imulN i_132_65 ?_
        refine x_iload_n i_132_66 rfl ?_
        refine x_iaddN i_132_67 ?_
        refine n_iconst 1 i_132_68 rfl ?_
        refine x_iaddN i_132_69 ?_
        refine x_vh (r := []) (lj := [some _, some _, none, none, none]) i_132_70 w_129 ob_147 [_] rfl rfl (Nat.le_of_ble_eq_true rfl) (Nat.le_of_ble_eq_true rfl) rfl ?_
        rw [N_kk]
        refine c_rch mb x2 (by rw [hc]; exact e2.2) (by rw [hc]; exact hacc m (by omega)) (hL m (by omega)) (fun M3 x3 y1 y2 y3 f3 => rt_n ?_)
        refine x_aload_n i_132_73 rfl ?_
        refine x_iload_n i_132_74 rfl ?_
        refine x_iload_n i_132_75 rfl ?_
        refine x_vh (r := []) (lj := [some _, some _, some _]) i_132_76 w_134 ob_147 [_, _] rfl rfl (Nat.le_of_ble_eq_true rfl) (Nat.le_of_ble_eq_true rfl) rfl ?_
        refine c_134 x3.1 (by omega) hq (fun z => absurd z (by omega)) (rt_i ?_)
        rw [if_neg (show ¬ m = 0 by omega)]
        refine x_istore_n i_132_79 rfl rfl ?_
        refine n_iinc 1 i_132_80 rfl rfl rfl rfl ?_
        rw [N_kk1]
        refine x_goto i_132_83 ?_
        refine ih (m + 1) (by omega) (by omega) x3 (y1.trans hc) (y3 _ hin) (fr.trans ((FR.h f1).trans ((FR.h f2).trans f3))) K
      · exact absurd ac1 (by omega)
theorem lead_0 {c p : Nat} (mb : MB o) (h5 : n ≤ 5) (hn2 : 2 ≤ n) (hn : n = 2 ∨ n = 3) (hp : p < 3) (bk : BK n ((p + 1) * 100)) (hL : ∀ m, m < 6 → (p + 1) * 100 + m ∈ AL n g) {S : HA × Nat} {M : a_Mm} {A : HA} (x : SX M o n g T S i A) (hc : S.1 0 i = c) (K : ∀ M' A' q' k', SX M' o n g T ((rg ((p + 1) * 100) 0 6).foldl (stq n T i) S) i A' → ((rg ((p + 1) * 100) 0 6).foldl (stq n T i) S).1 0 i = c → FRh o M M' → a_Ex 132 86 [some (.ref 147), some (.int (N p)), some (.int (N q')), some (.int (N k'))] [] (a_hp sc o M') Q) : a_Ex 132 26 [some (.ref 147), some (.int (N p)), some (.int (N 4)), some (.int (N 4294967295))] [] (a_hp sc o M) Q := by
  obtain ⟨hcb, h7, h166, hc27, hi4, ii⟩ := x.cur
  have ii' : IHs n T (std n T c) := hc ▸ ii
  have ba : ∀ m, m < 6 → ((act n (std n T c) ((p + 1) * 100 + m)).1 < 2147483648) = ((act n (std n T c) ((p + 1) * 100)).1 < 2147483648) := fun m hm => blk_acc bk h5 ii'.1.2.2.2 hm
  refine x_iload_n i_132_26 rfl ?_
  refine x_iload_n i_132_27 rfl ?_
  refine n_igtU (by omega) (by omega) i_132_28 ⟨fun g1 => ?_, fun g1 => ?_⟩
  · exact absurd g1.2 (by omega)
  · refine x_aload_n i_132_31 rfl ?_
    refine x_gr i_132_32 ob_147 gr_6_0.1 gr_6_0.2 (rt_147_0 _) ?_
    refine x_aload_n i_132_35 rfl ?_
    refine x_gr i_132_36 ob_147 gr_6_2.1 gr_6_2.2 (rt_147_2 _) ?_
    refine x_aload_n i_132_39 rfl ?_
    refine n_gi (x := i) i_132_40 ob_147 gf_6_7.1 gf_6_7.2 h7 ?_
    refine n_ld (x := S.1 0 i) i_132_43 ar_166 (by omega) (by omega) h166 ?_
    refine x_vh (r := []) (lj := [some _, some _, none, none, none, none]) i_132_44 w_94 hb156.ob [_] rfl rfl (Nat.le_of_ble_eq_true rfl) (Nat.le_of_ble_eq_true rfl) rfl ?_
    refine c_94 hb156 x.1 (by omega) (fun M1 r1 f1 => rt_n ?_)
    obtain ⟨e1, t1⟩ := x.lay
    have x1 := x.hall mb r1 t1 f1
    generalize s_94 n A (S.1 0 i) = A1 at r1 e1 t1 x1
    rw [hc] at e1
    refine x_aload_n i_132_47 rfl ?_
    refine x_iload_n i_132_48 rfl ?_
    refine x_iload_n i_132_49 rfl ?_
    refine x_vh (r := []) (lj := [some _, some _, some _]) i_132_50 w_133 ob_147 [_, _] rfl rfl (Nat.le_of_ble_eq_true rfl) (Nat.le_of_ble_eq_true rfl) rfl ?_
    refine c_133 (m := 0) r1 hp (by omega) (fun hqa M2 r2 f2 => rt_i ?_)
    have e2 := act_es h5 hn2 e1 ((p + 1) * 100)
    rw [show (p + 1) * 100 + 0 = (p + 1) * 100 from rfl] at *
    have hqa : (act n A1 ((p + 1) * 100)).1 < 4294967296 := by omega
    refine n_zgeU hqa i_132_53 ⟨fun g2 => ?_, fun g2 => ?_⟩
    · have ac0 : (act n A1 ((p + 1) * 100)).1 < 2147483648 := by omega
      have acS : (act n (std n T c) ((p + 1) * 100)).1 < 2147483648 := by rw [← e2.1]; exact ac0
      have t2 : TM n T (act n A1 ((p + 1) * 100)).2 := (act_inv ii' (al_ok hn _ (hL 0 (by omega))) acS).1.2.2.2.es e2.2.symm
      have x2 := x1.hall mb r2 t2 f2
      refine x_aload_n i_132_59 rfl ?_
      refine x_iload_n i_132_60 rfl ?_
      refine n_iconst 1 i_132_61 rfl ?_
      refine x_iaddN i_132_62 ?_
      refine n_bipush 100 i_132_63 rfl ?_
      refine x_imulN i_132_65 ?_
      refine x_iload_n i_132_66 rfl ?_
      refine x_iaddN i_132_67 ?_
      refine n_iconst 1 i_132_68 rfl ?_
      refine x_iaddN i_132_69 ?_
      refine x_vh (r := []) (lj := [some _, some _, none, none, none]) i_132_70 w_129 ob_147 [_] rfl rfl (Nat.le_of_ble_eq_true rfl) (Nat.le_of_ble_eq_true rfl) rfl ?_
      rw [show N ((p + 1) * 100 + 4294967295 + 1) = N ((p + 1) * 100) from N_kk (m := 0) (x := (p + 1) * 100)]
      refine c_rch mb x2 (by rw [hc]; exact e2.2) (by rw [hc]; exact acS) (hL 0 (by omega)) (fun M3 x3 y1 y2 y3 f3 => rt_n ?_)
      refine x_aload_n i_132_73 rfl ?_
      refine x_iload_n i_132_74 rfl ?_
      refine x_iload_n i_132_75 rfl ?_
      refine x_vh (r := []) (lj := [some _, some _, some _]) i_132_76 w_134 ob_147 [_, _] rfl rfl (Nat.le_of_ble_eq_true rfl) (Nat.le_of_ble_eq_true rfl) rfl ?_
      refine c_134 (m := 0) x3.1 (by omega) (by omega) (fun _ => blk_ub bk h5 ac0) (rt_i ?_)
      rw [if_pos rfl]
      refine x_istore_n i_132_79 rfl rfl ?_
      refine n_iinc 1 i_132_80 rfl rfl rfl rfl ?_
      rw [show N (4294967295 + 1) = N (kk 1) by decide +kernel]
      refine x_goto i_132_83 ?_
      refine lead_L (c := c) (c1 := vl n (act n A1 ((p + 1) * 100)).2) (M0 := M) mb h5 hn2 hn hp hL (fun m hm => by rw [ba m hm]; exact acS) (by omega) (fun m h1 h2 => ((blk_skip bk h5 hn2 e1 h2 (by omega)).vlq hn).symm) 5 1 rfl (by omega) x3 (y1.trans hc) y2 ((FR.h f1).trans ((FR.h f2).trans f3)) K
    · have e0 : (rg ((p + 1) * 100) 0 6).foldl (stq n T i) S = S := fold_id (fun a ha => by
        obtain ⟨j, j1, j2, rfl⟩ := rg_in _ _ ha
        refine stq_no ?_
        rw [hc, ba j (by omega), ← e2.1]
        omega)
      rw [e0] at K
      have t2 : TM n T (act n A1 ((p + 1) * 100)).2 := by rw [blk_rf bk h5 (by rw [e1.2 2 (by omega) (by omega)]; exact ii'.1.2.2.2) (by omega)]; exact t1
      refine x_goto i_132_56 ?_
      exact K _ _ 4 4294967295 (x1.hall mb r2 t2 f2) hc ((FR.h f1).trans (FR.h f2))

theorem fins_L {c c1 q s : Nat} (mb : MB o) (h5 : n ≤ 5) (hn2 : 2 ≤ n) (hn : n = 2 ∨ n = 3) (hs : s < n) (hL : ∀ m, m < 6 → 500 + 10 * s + m ∈ AL n g) (hacc : ∀ m, m < 6 → (act n (std n T c) (500 + 10 * s + m)).1 < 2147483648) (hq : q ≤ 4) (hskip : ∀ m, q + 1 < m → m < 6 → vl n (act n (std n T c) (500 + 10 * s + m)).2 = c1) : ∀ d m {S : HA × Nat} {M : a_Mm} {A : HA}, m + d = 6 → 1 ≤ m → SX M o n g T S i A → S.1 0 i = c → ms S.1 c1 S.2 = true → FRh o M0 M → (∀ M' A' q' k', SX M' o n g T ((rg (500 + 10 * s) m d).foldl (stq n T i) S) i A' → ((rg (500 + 10 * s) m d).foldl (stq n T i) S).1 0 i = c → FRh o M0 M' → a_Ex 136 82 [some (.ref 147), some (.int (N s)), some (.int (N q')), some (.int (N k'))] [] (a_hp sc o M') Q) → a_Ex 136 17 [some (.ref 147), some (.int (N s)), some (.int (N q)), some (.int (N (kk m)))] [] (a_hp sc o M) Q := by
  intro d
  induction d with
  | zero =>
    intro m S M A hm h1 x hc hin fr K
    have e : m = 6 := by omega
    subst e
    rw [show kk 6 = 5 from rfl]
    refine x_iload_n i_136_17 rfl ?_
    refine x_iload_n i_136_18 rfl ?_
    refine x_igtN (by omega) (by omega) i_136_19 ⟨fun g1 => ?_, fun g1 => ?_⟩
    · exact K M A q 5 x hc fr
    · exact absurd (show q < 5 by omega) g1
  | succ d ih =>
    intro m S M A hm h1 x hc hin fr K
    have hk : kk m = m - 1 := by unfold kk; rw [if_neg (by omega)]
    obtain ⟨hcb, h7, h166, hc27, hi4, ii⟩ := x.cur
    refine x_iload_n i_136_17 rfl ?_
    refine x_iload_n i_136_18 rfl ?_
    refine x_igtN (by omega) (by omega) i_136_19 ⟨fun g1 => ?_, fun g1 => ?_⟩
    · have e0 : (rg (500 + 10 * s) m (d + 1)).foldl (stq n T i) S = S := fold_id (fun a ha => by
        obtain ⟨j, j1, j2, rfl⟩ := rg_in _ _ ha
        refine stq_in ?_
        rw [hc, hskip j (by omega) (by omega)]
        exact hin)
      rw [e0] at K
      exact K M A q (kk m) x hc fr
    · refine x_aload_n i_136_22 rfl ?_
      refine x_gr i_136_23 ob_147 gr_6_0.1 gr_6_0.2 (rt_147_0 _) ?_
      refine x_aload_n i_136_26 rfl ?_
      refine x_gr i_136_27 ob_147 gr_6_2.1 gr_6_2.2 (rt_147_2 _) ?_
      refine x_aload_n i_136_30 rfl ?_
      refine n_gi (x := i) i_136_31 ob_147 gf_6_7.1 gf_6_7.2 h7 ?_
      refine n_ld (x := S.1 0 i) i_136_34 ar_166 (by omega) (by omega) h166 ?_
      refine x_vh (r := []) (lj := [some _, some _, none, none, none, none]) i_136_35 w_94 hb156.ob [_] rfl rfl (Nat.le_of_ble_eq_true rfl) (Nat.le_of_ble_eq_true rfl) rfl ?_
      refine c_94 hb156 x.1 (by omega) (fun M1 r1 f1 => rt_n ?_)
      obtain ⟨e1, t1⟩ := x.lay
      have x1 := x.hall mb r1 t1 f1
      generalize s_94 n A (S.1 0 i) = A1 at r1 e1 t1 x1
      rw [hc] at e1
      refine x_aload_n i_136_38 rfl ?_
      refine x_gr i_136_39 ob_147 gr_6_0.1 gr_6_0.2 (rt_147_0 _) ?_
      refine x_iload_n i_136_42 rfl ?_
      refine x_iload_n i_136_43 rfl ?_
      refine x_vh (r := []) (lj := [some _, some _, some _, none, none]) i_136_44 w_72 hb156.ob [_, _] rfl rfl (Nat.le_of_ble_eq_true rfl) (Nat.le_of_ble_eq_true rfl) rfl ?_
      have h72 : act n A1 (500 + 10 * s + m) = s_72 n A1 s (kk m) := act_500 (by omega) (by omega)
      refine c_72 hb156 r1 (by omega) (by omega) (fun hqa M2 r2 f2 => rt_i ?_)
      have e2 := act_es h5 hn2 e1 (500 + 10 * s + m)
      have ac1 : (act n A1 (500 + 10 * s + m)).1 < 2147483648 := by rw [e2.1]; exact hacc m (by omega)
      have t2 : TM n T (act n A1 (500 + 10 * s + m)).2 := (act_inv (hc ▸ ii) (al_ok hn _ (hL m (by omega))) (hacc m (by omega))).1.2.2.2.es e2.2.symm
      rw [← h72] at hqa r2 ⊢
      have hqa : (act n A1 (500 + 10 * s + m)).1 < 4294967296 := by omega
      have x2 := x1.hall mb r2 t2 f2
      refine n_zgeU hqa i_136_47 ⟨fun g2 => ?_, fun g2 => ?_⟩
      · refine x_aload_n i_136_53 rfl ?_
        refine n_sipush 500 i_136_54 rfl ?_
        refine n_bipush 10 i_136_57 rfl ?_
        refine x_iload_n i_136_59 rfl ?_
        refine x_imulN i_136_60 ?_
        refine x_iaddN i_136_61 ?_
        refine x_iload_n i_136_62 rfl ?_
        refine x_iaddN i_136_63 ?_
        refine n_iconst 1 i_136_64 rfl ?_
        refine x_iaddN i_136_65 ?_
        refine x_vh (r := []) (lj := [some _, some _, none, none, none]) i_136_66 w_129 ob_147 [_] rfl rfl (Nat.le_of_ble_eq_true rfl) (Nat.le_of_ble_eq_true rfl) rfl ?_
        rw [N_kk]
        refine c_rch mb x2 (by rw [hc]; exact e2.2) (by rw [hc]; exact hacc m (by omega)) (hL m (by omega)) (fun M3 x3 y1 y2 y3 f3 => rt_n ?_)
        refine x_aload_n i_136_69 rfl ?_
        refine x_iload_n i_136_70 rfl ?_
        refine x_iload_n i_136_71 rfl ?_
        refine x_vh (r := []) (lj := [some _, some _, some _]) i_136_72 w_134 ob_147 [_, _] rfl rfl (Nat.le_of_ble_eq_true rfl) (Nat.le_of_ble_eq_true rfl) rfl ?_
        refine c_134 x3.1 (by omega) hq (fun z => absurd z (by omega)) (rt_i ?_)
        rw [if_neg (show ¬ m = 0 by omega)]
        refine x_istore_n i_136_75 rfl rfl ?_
        refine n_iinc 1 i_136_76 rfl rfl rfl rfl ?_
        rw [N_kk1]
        refine x_goto i_136_79 ?_
        refine ih (m + 1) (by omega) (by omega) x3 (y1.trans hc) (y3 _ hin) (fr.trans ((FR.h f1).trans ((FR.h f2).trans f3))) K
      · exact absurd ac1 (by omega)
theorem fins_0 {c s : Nat} (mb : MB o) (h5 : n ≤ 5) (hn2 : 2 ≤ n) (hn : n = 2 ∨ n = 3) (hs : s < n) (bk : BK n (500 + 10 * s)) (hL : ∀ m, m < 6 → 500 + 10 * s + m ∈ AL n g) {S : HA × Nat} {M : a_Mm} {A : HA} (x : SX M o n g T S i A) (hc : S.1 0 i = c) (K : ∀ M' A' q' k', SX M' o n g T ((rg (500 + 10 * s) 0 6).foldl (stq n T i) S) i A' → ((rg (500 + 10 * s) 0 6).foldl (stq n T i) S).1 0 i = c → FRh o M M' → a_Ex 136 82 [some (.ref 147), some (.int (N s)), some (.int (N q')), some (.int (N k'))] [] (a_hp sc o M') Q) : a_Ex 136 17 [some (.ref 147), some (.int (N s)), some (.int (N 4)), some (.int (N 4294967295))] [] (a_hp sc o M) Q := by
  obtain ⟨hcb, h7, h166, hc27, hi4, ii⟩ := x.cur
  have ii' : IHs n T (std n T c) := hc ▸ ii
  have ba : ∀ m, m < 6 → ((act n (std n T c) (500 + 10 * s + m)).1 < 2147483648) = ((act n (std n T c) (500 + 10 * s)).1 < 2147483648) := fun m hm => blk_acc bk h5 ii'.1.2.2.2 hm
  refine x_iload_n i_136_17 rfl ?_
  refine x_iload_n i_136_18 rfl ?_
  refine n_igtU (by omega) (by omega) i_136_19 ⟨fun g1 => ?_, fun g1 => ?_⟩
  · exact absurd g1.2 (by omega)
  · refine x_aload_n i_136_22 rfl ?_
    refine x_gr i_136_23 ob_147 gr_6_0.1 gr_6_0.2 (rt_147_0 _) ?_
    refine x_aload_n i_136_26 rfl ?_
    refine x_gr i_136_27 ob_147 gr_6_2.1 gr_6_2.2 (rt_147_2 _) ?_
    refine x_aload_n i_136_30 rfl ?_
    refine n_gi (x := i) i_136_31 ob_147 gf_6_7.1 gf_6_7.2 h7 ?_
    refine n_ld (x := S.1 0 i) i_136_34 ar_166 (by omega) (by omega) h166 ?_
    refine x_vh (r := []) (lj := [some _, some _, none, none, none, none]) i_136_35 w_94 hb156.ob [_] rfl rfl (Nat.le_of_ble_eq_true rfl) (Nat.le_of_ble_eq_true rfl) rfl ?_
    refine c_94 hb156 x.1 (by omega) (fun M1 r1 f1 => rt_n ?_)
    obtain ⟨e1, t1⟩ := x.lay
    have x1 := x.hall mb r1 t1 f1
    generalize s_94 n A (S.1 0 i) = A1 at r1 e1 t1 x1
    rw [hc] at e1
    refine x_aload_n i_136_38 rfl ?_
    refine x_gr i_136_39 ob_147 gr_6_0.1 gr_6_0.2 (rt_147_0 _) ?_
    refine x_iload_n i_136_42 rfl ?_
    refine x_iload_n i_136_43 rfl ?_
    refine x_vh (r := []) (lj := [some _, some _, some _, none, none]) i_136_44 w_72 hb156.ob [_, _] rfl rfl (Nat.le_of_ble_eq_true rfl) (Nat.le_of_ble_eq_true rfl) rfl ?_
    have h72 : act n A1 (500 + 10 * s) = s_72 n A1 s 4294967295 := act_500 (m := 0) (by omega) (by omega)
    refine c_72 hb156 r1 (by omega) (by omega) (fun hqa M2 r2 f2 => rt_i ?_)
    have e2 := act_es h5 hn2 e1 (500 + 10 * s)
    rw [← h72] at hqa r2 ⊢
    have hqa : (act n A1 (500 + 10 * s)).1 < 4294967296 := by omega
    refine n_zgeU hqa i_136_47 ⟨fun g2 => ?_, fun g2 => ?_⟩
    · have ac0 : (act n A1 (500 + 10 * s)).1 < 2147483648 := by omega
      have acS : (act n (std n T c) (500 + 10 * s)).1 < 2147483648 := by rw [← e2.1]; exact ac0
      have t2 : TM n T (act n A1 (500 + 10 * s)).2 := (act_inv ii' (al_ok hn _ (hL 0 (by omega))) acS).1.2.2.2.es e2.2.symm
      have x2 := x1.hall mb r2 t2 f2
      refine x_aload_n i_136_53 rfl ?_
      refine n_sipush 500 i_136_54 rfl ?_
      refine n_bipush 10 i_136_57 rfl ?_
      refine x_iload_n i_136_59 rfl ?_
      refine x_imulN i_136_60 ?_
      refine x_iaddN i_136_61 ?_
      refine x_iload_n i_136_62 rfl ?_
      refine x_iaddN i_136_63 ?_
      refine n_iconst 1 i_136_64 rfl ?_
      refine x_iaddN i_136_65 ?_
      refine x_vh (r := []) (lj := [some _, some _, none, none, none]) i_136_66 w_129 ob_147 [_] rfl rfl (Nat.le_of_ble_eq_true rfl) (Nat.le_of_ble_eq_true rfl) rfl ?_
      rw [show N (500 + 10 * s + 4294967295 + 1) = N (500 + 10 * s) from N_kk (m := 0) (x := 500 + 10 * s)]
      refine c_rch mb x2 (by rw [hc]; exact e2.2) (by rw [hc]; exact acS) (hL 0 (by omega)) (fun M3 x3 y1 y2 y3 f3 => rt_n ?_)
      refine x_aload_n i_136_69 rfl ?_
      refine x_iload_n i_136_70 rfl ?_
      refine x_iload_n i_136_71 rfl ?_
      refine x_vh (r := []) (lj := [some _, some _, some _]) i_136_72 w_134 ob_147 [_, _] rfl rfl (Nat.le_of_ble_eq_true rfl) (Nat.le_of_ble_eq_true rfl) rfl ?_
      refine c_134 (m := 0) x3.1 (by omega) (by omega) (fun _ => blk_ub bk h5 ac0) (rt_i ?_)
      rw [if_pos rfl]
      refine x_istore_n i_136_75 rfl rfl ?_
      refine n_iinc 1 i_136_76 rfl rfl rfl rfl ?_
      rw [show N (4294967295 + 1) = N (kk 1) by decide +kernel]
      refine x_goto i_136_79 ?_
      refine fins_L (c := c) (c1 := vl n (act n A1 (500 + 10 * s)).2) (M0 := M) mb h5 hn2 hn hs hL (fun m hm => by rw [ba m hm]; exact acS) (by omega) (fun m h1 h2 => ((blk_skip bk h5 hn2 e1 h2 (by omega)).vlq hn).symm) 5 1 rfl (by omega) x3 (y1.trans hc) y2 ((FR.h f1).trans ((FR.h f2).trans f3)) K
    · have e0 : (rg (500 + 10 * s) 0 6).foldl (stq n T i) S = S := fold_id (fun a ha => by
        obtain ⟨j, j1, j2, rfl⟩ := rg_in _ _ ha
        refine stq_no ?_
        rw [hc, ba j (by omega), ← e2.1]
        omega)
      rw [e0] at K
      have t2 : TM n T (act n A1 (500 + 10 * s)).2 := by rw [blk_rf bk h5 (by rw [e1.2 2 (by omega) (by omega)]; exact ii'.1.2.2.2) (by omega)]; exact t1
      refine x_goto i_136_50 ?_
      exact K _ _ 4 4294967295 (x1.hall mb r2 t2 f2) hc ((FR.h f1).trans (FR.h f2))
end BLM
