/-! for the class's search: blocks of acts with a limit, one step on the machine -/
/-- a block of six acts: none limit, 0 .. 4 -/
def BK (n b : Nat) : Prop := b = 100 ∨ b = 200 ∨ b = 300 ∨ ∃ s, s < n ∧ b = 500 + 10 * s
def SX (M : a_Mm) (o n g : Nat) (T : HA) (S : HA × Nat) (i : Nat) (A : HA) : Prop := RC M 156 n A ∧ TM n T A ∧ SC M S i ∧ MXS M o n S.1 S.2 ∧ WN n T ∧ (∃ D, IV n T (AL n g) S i D) ∧ i < S.2 ∧ (n = 2 ∨ n = 3)
def FRh (o : Nat) (M M' : a_Mm) : Prop := ∀ q k, ¬ (156 ≤ q ∧ q ≤ 169) → ¬ (q = 147 ∧ (k = 6 ∨ k = 7)) → ¬ (q = o ∧ ¬ k = 0) → ¬ (o + 1 ≤ q ∧ q ≤ o + 3) → M' q k = M q k
def rg (b : Nat) : Nat → Nat → List Nat
  | _, 0 => []
  | m, d + 1 => (b + m) :: rg b (m + 1) d
section BLO
variable {sc : a_Sc} {M M0 : a_Mm} {n g o i a b c k m s : Nat} {A B T E : HA} {S : HA × Nat} {Q : Option Value → a_Hp → Prop}
theorem FRh.trans {M1 M2 : a_Mm} (h : FRh o M M1) (g : FRh o M1 M2) : FRh o M M2 := fun q k a b c d => (g q k a b c d).trans (h q k a b c d)
theorem FRs.h (h : FRs o M M0) : FRh o M M0 := fun q k a b c d => h q k (by omega) (by omega) c d
theorem FR.h (h : FR 156 M M0) : FRh o M M0 := fun q k a _ _ _ => h q k (by omega)
theorem isK_5 (h : m < 6) : ¬ isK (kk m) = 0 := by
  unfold isK kk
  by_cases z : m = 0
  · rw [if_pos z, if_pos (Or.inr rfl)]; omega
  · rw [if_neg z, if_pos (Or.inl (by omega))]; omega
theorem act_100 (h : m < 6) : act n A (100 + m) = s_57 n A (kk m) := by unfold act; rw [if_pos (by omega), show (100 + m) % 100 = m by omega]
theorem act_200 (h : m < 6) : act n A (200 + m) = s_64 n A (kk m) := by unfold act; rw [if_neg (by omega), if_pos (by omega), show (200 + m) % 100 = m by omega]
theorem act_300 (h : m < 6) : act n A (300 + m) = s_66 n A (kk m) := by unfold act; rw [if_neg (by omega), if_neg (by omega), if_pos (by omega), show (300 + m) % 100 = m by omega]
theorem act_500 (hs : s < 5) (h : m < 6) : act n A (500 + 10 * s + m) = s_72 n A s (kk m) := by unfold act; rw [if_neg (by omega), if_neg (by omega), if_neg (by omega), if_neg (by omega), if_pos (by omega), show (500 + 10 * s + m) % 100 / 10 = s by omega, show (500 + 10 * s + m) % 100 % 10 = m by omega]
theorem can72 {k' : Nat} (hk : ¬ isK k = 0) (hk' : ¬ isK k' = 0) : ((s_72 n A s k).1 < 2147483648) = ((s_72 n A s k').1 < 2147483648) := by
  unfold s_72
  rw [if_neg hk, if_neg hk']
  repeat' split
  all_goals rfl
theorem co_ub (h5 : n ≤ 5) {fr y to m la : Nat} : (co n (a_up (a_up A 6 12 k) 6 13 0) fr y to m la) 6 13 ≤ 10 := by
  have u1 := st_ub (n := n) (A := A) (k := k) (fr := fr) (set := y) (to := to) (m := m) h5
  unfold co
  split
  · rw [tl13]
    have := s61_ub (n := n) (A := (s_61 n (a_up (a_up A 6 12 k) 6 13 0) fr y to m).2) (fr := fr) (set := y) (to := la) (m := 63) h5
    omega
  · rw [tl13]; omega
theorem ub79 (h5 : n ≤ 5) {fr y v : Nat} (hv : v ≤ 3) : (s_79 n A fr y v k) 6 13 ≤ 10 := by
  rw [s79_co n A fr y v k hv]
  split
  · exact co_ub h5
  · split
    · exact co_ub h5
    · rw [tl13]
      have u1 := st_ub (n := n) (A := A) (k := k) (fr := fr) (set := y) (to := if v = 1 then 4 else 5) (m := 63) h5
      omega
theorem ub72 (h5 : n ≤ 5) (ha : (s_72 n A s k).1 < 2147483648) : (s_72 n A s k).2 6 13 ≤ 10 := by
  have hv := s77_le n A (s_69 n A 1 &&& s_74 n A (A 2 s)) (s_69 n A 1 &&& s_74 n A (A 2 s))
  have hu : ¬ s_77 n A (s_69 n A 1 &&& s_74 n A (A 2 s)) (s_69 n A 1 &&& s_74 n A (A 2 s)) = 4294967295 → (s_79 n A s (s_69 n A 1 &&& s_74 n A (A 2 s)) (s_77 n A (s_69 n A 1 &&& s_74 n A (A 2 s)) (s_69 n A 1 &&& s_74 n A (A 2 s))) k) 6 13 ≤ 10 := fun h => ub79 h5 (by omega)
  unfold s_72 at ha ⊢
  repeat' split at ha
  all_goals first
    | exact absurd ha (show ¬ (4294967294 : Nat) < 2147483648 by omega)
    | exact absurd ha (show ¬ (4294967293 : Nat) < 2147483648 by omega)
    | exact absurd ha (show ¬ (4294967291 : Nat) < 2147483648 by omega)
    | exact absurd ha (show ¬ (4294967292 : Nat) < 2147483648 by omega)
    | skip
  all_goals simp only [*, if_true, if_false]
  all_goals exact hu (by assumption)
theorem ub64 (h5 : n ≤ 5) (ha : (s_64 n A k).1 < 2147483648) : (s_64 n A k).2 6 13 ≤ 10 := by
  have u1 := st_ub (n := n) (A := A) (k := k) (fr := 0) (set := ev n) (to := 2) (m := 2) h5
  unfold s_64 at ha ⊢
  repeat' split at ha
  all_goals first
    | exact absurd ha (show ¬ (4294967293 : Nat) < 2147483648 by omega)
    | exact absurd ha (show ¬ (4294967291 : Nat) < 2147483648 by omega)
    | skip
  all_goals simp only [*, if_true, if_false]
  all_goals (show (s_61 n (a_up (a_up A 6 12 k) 6 13 0) 0 (ev n) 2 2).2 6 13 ≤ 10; omega)
theorem ub66 (h5 : n ≤ 5) (ha : (s_66 n A k).1 < 2147483648) : (s_66 n A k).2 6 13 ≤ 10 := by
  have u1 := st_ub (n := n) (A := A) (k := k) (fr := 0) (set := ev n) (to := 4) (m := 31) h5
  unfold s_66 at ha ⊢
  repeat' split at ha
  all_goals first
    | exact absurd ha (show ¬ (4294967293 : Nat) < 2147483648 by omega)
    | exact absurd ha (show ¬ (4294967291 : Nat) < 2147483648 by omega)
    | skip
  all_goals simp only [*, if_true, if_false]
  all_goals (show (s_61 n (a_up (a_up A 6 12 k) 6 13 0) 0 (ev n) 4 31).2 6 13 ≤ 10; omega)
/-- all six can be or none -/
theorem blk_acc (hb : BK n b) (h5 : n ≤ 5) (f2 : A 6 2 ≤ 3) (hm : m < 6) : ((act n A (b + m)).1 < 2147483648) = ((act n A b).1 < 2147483648) := by
  rcases hb with rfl | rfl | rfl | ⟨s, hs, rfl⟩
  · rw [act_100 hm, show act n A 100 = s_57 n A (kk 0) from act_100 (m := 0) (by omega), can57 (isK_5 hm) f2 h5, can57 (isK_5 (by omega)) f2 h5]
  · rw [act_200 hm, show act n A 200 = s_64 n A (kk 0) from act_200 (m := 0) (by omega), can64 (isK_5 hm) f2 h5, can64 (isK_5 (by omega)) f2 h5]
  · rw [act_300 hm, show act n A 300 = s_66 n A (kk 0) from act_300 (m := 0) (by omega), can66 (isK_5 hm), can66 (isK_5 (by omega))]
  · rw [act_500 (by omega) hm, show act n A (500 + 10 * s) = s_72 n A s (kk 0) from act_500 (m := 0) (by omega) (by omega)]
    exact can72 (isK_5 hm) (isK_5 (by omega))
theorem blk_ub (hb : BK n b) (h5 : n ≤ 5) (ha : (act n A b).1 < 2147483648) : (act n A b).2 6 13 ≤ 10 := by
  rcases hb with rfl | rfl | rfl | ⟨s, hs, rfl⟩
  · rw [show act n A 100 = s_57 n A (kk 0) from act_100 (m := 0) (by omega)] at ha ⊢; exact ub57 h5 ha
  · rw [show act n A 200 = s_64 n A (kk 0) from act_200 (m := 0) (by omega)] at ha ⊢; exact ub64 h5 ha
  · rw [show act n A 300 = s_66 n A (kk 0) from act_300 (m := 0) (by omega)] at ha ⊢; exact ub66 h5 ha
  · rw [show act n A (500 + 10 * s) = s_72 n A s (kk 0) from act_500 (m := 0) (by omega) (by omega)] at ha ⊢; exact ub72 h5 ha
/-- a limit above the number of messages is as none -/
theorem blk_skip (hb : BK n b) (h5 : n ≤ 5) (hn : 2 ≤ n) (e : ES n A B) (hm : m < 6) (hq : (act n A b).2 6 13 + 1 < m) : ES n (act n A b).2 (act n B (b + m)).2 := by
  have hk : kk 0 = 4294967295 := rfl
  have hm1 : kk m = m - 1 := by unfold kk; rw [if_neg (by omega)]
  rcases hb with rfl | rfl | rfl | ⟨s, hs, rfl⟩
  · rw [show act n A 100 = s_57 n A (kk 0) from act_100 (m := 0) (by omega)] at hq ⊢
    rw [act_100 hm]
    exact (sim57 h5 hn e (Or.inr ⟨hk, by omega, by omega⟩)).2
  · rw [show act n A 200 = s_64 n A (kk 0) from act_200 (m := 0) (by omega)] at hq ⊢
    rw [act_200 hm]
    exact (sim64 h5 hn e (Or.inr ⟨hk, by omega, by omega⟩)).2
  · rw [show act n A 300 = s_66 n A (kk 0) from act_300 (m := 0) (by omega)] at hq ⊢
    rw [act_300 hm]
    exact (sim66 h5 hn e (Or.inr ⟨hk, by omega, by omega⟩)).2
  · rw [show act n A (500 + 10 * s) = s_72 n A s (kk 0) from act_500 (m := 0) (by omega) (by omega)] at hq ⊢
    rw [act_500 (by omega) hm]
    exact (sim72 h5 e (Or.inr ⟨hk, by omega, by omega⟩)).2
/-- acts that tell nothing new -/
theorem fold_id {l : List Nat} (h : ∀ a, a ∈ l → stq n T i S a = S) : l.foldl (stq n T i) S = S := by
  induction l with
  | nil => rfl
  | cons a l ih =>
    show l.foldl (stq n T i) (stq n T i S a) = S
    rw [h a (by simp)]
    exact ih (fun b hb => h b (by simp [hb]))
theorem stq_no (h : ¬ (act n (std n T (S.1 0 i)) a).1 < 2147483648) : stq n T i S a = S := by unfold stq; rw [if_neg h]
theorem stq_in (h : ms S.1 (vl n (act n (std n T (S.1 0 i)) a).2) S.2 = true) : stq n T i S a = S := by
  unfold stq adE
  rw [if_pos h]
  exact ite_self _
theorem rg_in {a : Nat} : ∀ d m, a ∈ rg b m d → ∃ j, m ≤ j ∧ j < m + d ∧ a = b + j := by
  intro d
  induction d with
  | zero => intro m h; exact absurd h (by unfold rg; simp)
  | succ d ih =>
    intro m h
    unfold rg at h
    rcases List.mem_cons.mp h with h | h
    · exact ⟨m, by omega, by omega, h⟩
    · obtain ⟨j, h1, h2, h3⟩ := ih (m + 1) h
      exact ⟨j, by omega, by omega, h3⟩
theorem SX.hall (x : SX M o n g T S i A) {M' : a_Mm} (mb : MB o) (r : RC M' 156 n B) (t : TM n T B) (f : FR 156 M M') : SX M' o n g T S i B := by
  obtain ⟨-, -, s, mx, w⟩ := x
  obtain ⟨s1, s2, s3, s4⟩ := s
  obtain ⟨m1, m2, m3, m4, m5, m6, m7⟩ := mx
  have hm : o + 3 < 156 := by rcases mb with rfl | rfl <;> omega
  refine ⟨r, t, ⟨(f _ _ (by omega)).trans s1, (f _ _ (by omega)).trans s2, fun j hj => ?_, fun c hc => ?_⟩, ⟨fun m hm => (f _ _ (by omega)).trans (m1 m hm), (f _ _ (by omega)).trans m2, (f _ _ (by omega)).trans m3, (f _ _ (by omega)).trans m4, (f _ _ (by omega)).trans m5, fun x hx => (f _ _ (by omega)).trans (m6 x hx), fun u h1 h2 j hj => (f _ _ (by omega)).trans (m7 u h1 h2 j hj)⟩, w⟩
  · obtain ⟨y1, y2, y3, y4⟩ := s3 j hj
    exact ⟨(f _ _ (by omega)).trans y1, (f _ _ (by omega)).trans y2, (f _ _ (by omega)).trans y3, (f _ _ (by omega)).trans y4⟩
  · rw [f _ _ (by omega)]; exact s4 c hc
theorem SX.n5 (x : SX M o n g T S i A) : n ≤ 5 := x.1.n5
theorem SX.cur (x : SX M o n g T S i A) : S.1 0 i < cb n ∧ M 147 7 = N i ∧ M 166 i = N (S.1 0 i) ∧ S.1 0 i < 27648 ∧ i < 4096 ∧ IHs n T (std n T (S.1 0 i)) := by
  obtain ⟨r, t, s, mx, w, ⟨D, v⟩, hi, hn⟩ := x
  have hz := iv_sz v
  obtain ⟨ii, iv⟩ := v.2.1 i hi
  have hc := vl_lt ii.1
  rw [iv] at hc
  refine ⟨hc, s.2.1, (s.2.2.1 i hi).1, ?_, by omega, ii⟩
  unfold cb at hc
  split at hc <;> omega
/-- the hall is laid anew and an act is done: how it is to the abstract -/
theorem SX.lay (x : SX M o n g T S i A) : ES n (s_94 n A (S.1 0 i)) (std n T (S.1 0 i)) ∧ TM n T (s_94 n A (S.1 0 i)) := by
  obtain ⟨hc, -⟩ := x.cur
  have e := (s94_es (A := A) x.2.2.2.2.2.2.2 hc).trans (std_es x.2.1)
  exact ⟨e, std_tm.es e.symm⟩
theorem c_rch (mb : MB o) (x : SX M o n g T S i A) (e : ES n A (act n (std n T (S.1 0 i)) a).2) (acc : (act n (std n T (S.1 0 i)) a).1 < 2147483648) (ha : a ∈ AL n g) (K : ∀ M', SX M' o n g T (stq n T i S a) i A → (stq n T i S a).1 0 i = S.1 0 i → ms (stq n T i S a).1 (vl n A) (stq n T i S a).2 = true → (∀ c, ms S.1 c S.2 = true → ms (stq n T i S a).1 c (stq n T i S a).2 = true) → FRh o M M' → Q none (a_hp sc o M')) : a_Ex 129 0 [some (.ref 147), some (.int (N a)), none, none, none] [] (a_hp sc o M) Q := by
  obtain ⟨r, t, s, mx, w, ⟨D, v⟩, hi, hn⟩ := x
  have hz := iv_sz v
  obtain ⟨ii, iv⟩ := v.2.1 i hi
  obtain ⟨j1, -⟩ := act_inv ii (al_ok hn a ha) acc
  obtain ⟨w1, w2, w3⟩ := iv_st (al_ok hn) w (by omega) v hi ha
  have ev : vl n A = vl n (act n (std n T (S.1 0 i)) a).2 := e.vlq hn
  have eS : stq n T i S a = adE S (vl n A) i a := by unfold stq; rw [if_pos acc, ev]
  have hch := iv_ch w1
  rw [eS] at hch w1 w2 K
  refine c_129 mb (by omega) (j1.1.es e.symm) t r s (Or.inr hi) (iv_ch v) hch mx (fun M' k1 k2 k3 k4 => K M' ⟨k1, t, k2, k3, w, ⟨_, w1⟩, by omega, hn⟩ ?_ ?_ (fun c hc => ?_) k4.h)
  · unfold adE
    split
    · rfl
    · show exE S.1 S.2 (vl n A) i a 0 i = S.1 0 i
      exact exE_o (by omega)
  · unfold adE
    split
    · assumption
    · show ms (exE S.1 S.2 (vl n A) i a) (vl n A) (S.2 + 1) = true
      exact (ms_t _).mpr ⟨S.2, by omega, exE_0⟩
  · unfold adE
    split
    · exact hc
    · exact ms_ex hc
theorem c_133 (r : RC M 156 n A) {p : Nat} (hp : p < 3) (hm : m < 6) (k : KR 4294967295 Q sc o M 156 n (act n A ((p + 1) * 100 + m))) : a_Ex 133 0 [some (.ref 147), some (.int (N p)), some (.int (N (kk m)))] [] (a_hp sc o M) Q := by
  have hk := kk_lt (show m < 100 by omega)
  refine x_iload_n i_133_0 rfl ?_
  rcases (by omega : p = 0 ∨ p = 1 ∨ p = 2) with rfl | rfl | rfl
  · rw [show (0 + 1) * 100 + m = 100 + m by omega, act_100 hm] at k
    refine x_lsw (t := 28) i_133_1 (by decide +kernel) ?_
    refine x_aload_n i_133_28 rfl ?_
    refine x_gr i_133_29 ob_147 gr_6_0.1 gr_6_0.2 (rt_147_0 _) ?_
    refine x_iload_n i_133_32 rfl ?_
    refine x_vh (r := []) (lj := [some _, some _]) i_133_33 w_57 hb156.ob [_] rfl rfl (Nat.le_of_ble_eq_true rfl) (Nat.le_of_ble_eq_true rfl) rfl ?_
    refine c_57 hb156 r (by omega) (fun hq M1 r1 f1 => rt_i ?_)
    refine x_iret i_133_36 rn_133 rfl ?_
    exact k hq M1 r1 f1
  · rw [show (1 + 1) * 100 + m = 200 + m by omega, act_200 hm] at k
    refine x_lsw (t := 37) i_133_1 (by decide +kernel) ?_
    refine x_aload_n i_133_37 rfl ?_
    refine x_gr i_133_38 ob_147 gr_6_0.1 gr_6_0.2 (rt_147_0 _) ?_
    refine x_iload_n i_133_41 rfl ?_
    refine x_vh (r := []) (lj := [some _, some _, none, none]) i_133_42 w_64 hb156.ob [_] rfl rfl (Nat.le_of_ble_eq_true rfl) (Nat.le_of_ble_eq_true rfl) rfl ?_
    refine c_64 hb156 r (by omega) (fun hq M1 r1 f1 => rt_i ?_)
    refine x_iret i_133_45 rn_133 rfl ?_
    exact k hq M1 r1 f1
  · rw [show (2 + 1) * 100 + m = 300 + m by omega, act_300 hm] at k
    refine x_lsw (t := 46) i_133_1 (by decide +kernel) ?_
    refine x_aload_n i_133_46 rfl ?_
    refine x_gr i_133_47 ob_147 gr_6_0.1 gr_6_0.2 (rt_147_0 _) ?_
    refine x_iload_n i_133_50 rfl ?_
    refine x_vh (r := []) (lj := [some _, some _]) i_133_51 w_66 hb156.ob [_] rfl rfl (Nat.le_of_ble_eq_true rfl) (Nat.le_of_ble_eq_true rfl) rfl ?_
    refine c_66 hb156 r (by omega) (fun hq M1 r1 f1 => rt_i ?_)
    refine x_iret i_133_54 rn_133 rfl ?_
    exact k hq M1 r1 f1
theorem N_kk {x : Nat} : N (x + kk m + 1) = N (x + m) := by
  unfold kk
  by_cases z : m = 0
  · rw [if_pos z, z, ← N_mod (x + 4294967295 + 1), ← N_mod (x + 0)]
    rw [show (x + 4294967295 + 1) % 4294967296 = (x + 0) % 4294967296 by omega]
  · rw [if_neg z, show x + (m - 1) + 1 = x + m by omega]
theorem N_kk1 : N (kk m + 1) = N (kk (m + 1)) := by
  have := N_kk (m := m) (x := 0)
  rw [Nat.zero_add, Nat.zero_add] at this
  rw [this]
  unfold kk
  rw [if_neg (show ¬ m + 1 = 0 by omega)]
  rfl
theorem c_134 (r : RC M 156 n A) {q : Nat} (hm : m < 6) (hq : q ≤ 4) (h13 : m = 0 → A 6 13 ≤ 10) (K : Q (some (.int (N (if m = 0 then min q (A 6 13) else q)))) (a_hp sc o M)) : a_Ex 134 0 [some (.ref 147), some (.int (N (kk m))), some (.int (N q))] [] (a_hp sc o M) Q := by
  have hk := kk_lt (show m < 100 by omega)
  refine x_iload_n i_134_0 rfl ?_
  refine n_iconst 4294967295 i_134_1 rfl ?_
  refine n_ineU hk (by omega) i_134_2 ⟨fun g1 => ?_, fun g1 => ?_⟩
  · have z : ¬ m = 0 := fun z => g1 (by rw [z]; rfl)
    rw [if_neg z] at K
    refine x_iload_n i_134_19 rfl ?_
    refine x_iret i_134_20 rn_134 rfl ?_
    exact K
  · have z : m = 0 := by
      unfold kk at g1
      split at g1
      · assumption
      · omega
    rw [if_pos z] at K
    have h13 := h13 z
    refine x_iload_n i_134_5 rfl ?_
    refine x_aload_n i_134_6 rfl ?_
    refine x_gr i_134_7 ob_147 gr_6_0.1 gr_6_0.2 (rt_147_0 _) ?_
    refine n_gi (x := A 6 13) i_134_10 hb156.ob gf_1_13.1 gf_1_13.2 r.f13 ?_
    refine x_sh (r := []) (lj := [some _, some _]) i_134_13 ws_264 [_, _] rfl rfl (Nat.le_of_ble_eq_true rfl) (Nat.le_of_ble_eq_true rfl) rfl ?_
    refine c_264 (by omega) (by omega) (fun _ => rt_i ?_)
    rw [s264]
    refine x_goto i_134_16 ?_
    refine x_iret i_134_20 rn_134 rfl ?_
    exact K
end BLO
