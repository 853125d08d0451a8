/-! reading a text: what both do (ltr .. ded), the class's reading -/
def ltr (T : Nat → Nat) (n s : Nat) : Bool := decide (s < n ∧ 97 ≤ T s ∧ T s ≤ 122)
def dgt (T : Nat → Nat) (n s : Nat) : Bool := decide (s < n ∧ 48 ≤ T s ∧ T s ≤ 57)
def wnd (T : Nat → Nat) (n : Nat) : Nat → Nat → Nat
  | 0, s => s
  | d + 1, s => if ltr T n s = true then wnd T n d (s + 1) else s
def bth (T : Nat → Nat) (n s : Nat) : Nat := if s < n then T s else 4294967295
def flw (T : Nat → Nat) (n s : Nat) : Nat := if ltr T n s = true then 1 else 2
def wsm (T : Nat → Nat) (k a : Nat) : Nat → Nat → Bool
  | 0, _ => true
  | d + 1, i => if T (a + i) = wc k i then wsm T k a d (i + 1) else false
def isw (T : Nat → Nat) (k a e : Nat) : Bool := if wl k = e - a then wsm T k a (wl k) 0 else false
def kd (T : Nat → Nat) (a e : Nat) : Nat → Nat → Nat
  | 0, _ => 4294967295
  | d + 1, j => if isw T j a e = true then j else kd T a e d (j + 1)
def flp (P : HA) (w : Nat) : HA := a_up (a_up P 0 1 w) 0 2 (P 0 0)
def flh (T : Nat → Nat) (n : Nat) (P : HA) : HA := flp P (flw T n (P 0 0))
def mst (T : Nat → Nat) (n c : Nat) (P : HA) : Nat × HA := if bth T n (P 0 0) = c then (1, a_up P 0 0 (P 0 0 + 1)) else (0, flh T n P)
def dgw (T : Nat → Nat) (n w : Nat) (P : HA) : Nat × HA := if dgt T n (P 0 0) = true then (1, a_up (a_up P w (P 0 3) (T (P 0 0) - 48)) 0 0 (P 0 0 + 1)) else (0, flh T n P)
def sit (T : Nat → Nat) (n : Nat) (P : HA) : Nat × HA := if (mst T n 32 P).1 = 0 then (0, (mst T n 32 P).2) else dgw T n 2 (mst T n 32 P).2
def lmt (T : Nat → Nat) (n : Nat) (P : HA) : Nat × HA := if bth T n (P 0 0) = 32 then dgw T n 3 (a_up P 0 0 (P 0 0 + 1)) else (1, P)
def wen (T : Nat → Nat) (n : Nat) (P : HA) : Nat := wnd T n (n - P 0 0) (P 0 0)
def vtq (T : Nat → Nat) (n : Nat) (P : HA) : Nat × HA := if isw T 10 (P 0 0) (wen T n P) = true then (1, a_up (a_up P 3 (P 0 3) 1) 0 0 (wen T n P)) else if isw T 11 (P 0 0) (wen T n P) = true then (1, a_up (a_up P 3 (P 0 3) 0) 0 0 (wen T n P)) else (0, flh T n P)
def vtp (T : Nat → Nat) (n : Nat) (P : HA) : Nat × HA := if (mst T n 32 P).1 = 0 then (0, (mst T n 32 P).2) else vtq T n (mst T n 32 P).2
def rst (T : Nat → Nat) (n k : Nat) (P : HA) : Nat × HA := if k ≤ 2 then lmt T n P else if k = 3 ∨ k = 4 ∨ k = 6 then sit T n P else if k = 5 then (if (sit T n P).1 = 0 then (0, (sit T n P).2) else lmt T n (sit T n P).2) else if k = 8 then (if (sit T n P).1 = 0 then (0, (sit T n P).2) else vtp T n (sit T n P).2) else (1, P)
def dd1 (P : HA) (e k : Nat) : HA := a_up (a_up (a_up (a_up P 0 0 e) 1 (P 0 3) k) 2 (P 0 3) 0) 3 (P 0 3) 4294967295
def dd2 (T : Nat → Nat) (n : Nat) (q : Nat × HA) : HA := if q.1 = 0 then q.2 else if (mst T n 59 q.2).1 = 0 then (mst T n 59 q.2).2 else a_up (mst T n 59 q.2).2 0 3 ((mst T n 59 q.2).2 0 3 + 1)
def ded (T : Nat → Nat) (n : Nat) (P : HA) : HA := if wen T n P = P 0 0 then flh T n P else if kd T (P 0 0) (wen T n P) 10 0 = 4294967295 then flh T n P else if 12 ≤ P 0 3 then flp P 3 else dd2 T n (rst T n (kd T (P 0 0) (wen T n P) 10 0) (dd1 P (wen T n P) (kd T (P 0 0) (wen T n P) 10 0)))
theorem sx_a : ∀ t, t < 256 → ((sx t < N 97) = (t < 97 ∨ 128 ≤ t)) ∧ ((N 122 < sx t) = (122 < t ∧ t < 128)) ∧ (sx t &&& N 255 = N t) ∧ (48 ≤ t → t ≤ 57 → sx t - N 48 = N (t - 48)) := fun t h => by
  have := (by decide +kernel : ∀ t, t < 256 → ((sx t < N 97) ↔ (t < 97 ∨ 128 ≤ t)) ∧ ((N 122 < sx t) ↔ (122 < t ∧ t < 128)) ∧ (sx t &&& N 255 = N t) ∧ (48 ≤ t → t ≤ 57 → sx t - N 48 = N (t - 48))) t h
  exact ⟨propext this.1, propext this.2.1, this.2.2⟩
theorem sx_lo : ∀ t, t < 256 → (t < 128 → sx t = N t) ∧ (128 ≤ t → sx t < 0) := by decide +kernel
theorem sx_e {t c : Nat} (h : t < 256) (hc : c < 123) : (sx t = N c) = (t = c) := by
  obtain ⟨h1, h2⟩ := sx_lo t h
  by_cases g : t < 128
  · rw [h1 g, N_injU (by omega) (by omega)]
  · refine propext ⟨fun e => ?_, fun e => absurd e (by omega)⟩
    have := h2 (by omega)
    rw [e, N_lt0 (by omega)] at this
    omega
/-- what the class's text holds -/
def CS (M : a_Mm) (n : Nat) (T : Nat → Nat) (P : HA) : Prop := (n ≤ 200 ∧ P 0 0 ≤ n ∧ P 0 3 ≤ 12 ∧ P 0 1 ≤ 3) ∧ (M 141 8 = N n ∧ M 141 9 = N (P 0 0) ∧ M 141 4 = N (P 0 1) ∧ M 141 5 = N (P 0 2) ∧ M 141 3 = N (P 0 3)) ∧ (∀ k, k < n → T k < 256 ∧ M 145 k = sx (T k)) ∧ ∀ w, 1 ≤ w → w < 4 → ∀ i, i < 12 → M (141 + w) i = N (P w i)
def FS (M M' : a_Mm) : Prop := ∀ o k, ¬ (o = 141 ∧ (k = 3 ∨ k = 4 ∨ k = 5 ∨ k = 9)) → ¬ (142 ≤ o ∧ o ≤ 144) → M' o k = M o k
theorem FS.refl (M : a_Mm) : FS M M := fun _ _ _ _ => rfl
theorem FS.trans {M M1 M2 : a_Mm} (h : FS M M1) (g : FS M1 M2) : FS M M2 := fun o k a b => (g o k a b).trans (h o k a b)
section RDC
variable {sc : a_Sc} {fd : Nat} {M M0 : a_Mm} {P : HA} {Q : Option Value → a_Hp → Prop} {n : Nat} {T : Nat → Nat}
theorem CS.n200 (c : CS M n T P) : n ≤ 200 := c.1.1
theorem CS.a_n (c : CS M n T P) : P 0 0 ≤ n := c.1.2.1
theorem CS.d12 (c : CS M n T P) : P 0 3 ≤ 12 := c.1.2.2.1
theorem CS.f3 (c : CS M n T P) : P 0 1 ≤ 3 := c.1.2.2.2
theorem CS.hln (c : CS M n T P) : M 141 8 = N n := c.2.1.1
theorem CS.hat (c : CS M n T P) : M 141 9 = N (P 0 0) := c.2.1.2.1
theorem CS.hft (c : CS M n T P) : M 141 4 = N (P 0 1) := c.2.1.2.2.1
theorem CS.hpl (c : CS M n T P) : M 141 5 = N (P 0 2) := c.2.1.2.2.2.1
theorem CS.hdd (c : CS M n T P) : M 141 3 = N (P 0 3) := c.2.1.2.2.2.2
theorem CS.t8 (c : CS M n T P) {k : Nat} (h : k < n) : T k < 256 := (c.2.2.1 k h).1
theorem CS.tb (c : CS M n T P) {k : Nat} (h : k < n) : M 145 k = sx (T k) := (c.2.2.1 k h).2
/-- which field keeps what -/
theorem CS.put (c : CS M n T P) {k j v : Nat} (hk : (k = 9 ∧ j = 0 ∧ v ≤ n) ∨ (k = 4 ∧ j = 1 ∧ v ≤ 3) ∨ (k = 5 ∧ j = 2) ∨ (k = 3 ∧ j = 3 ∧ v ≤ 12)) : CS (a_up M 141 k (N v)) n T (a_up P 0 j v) := by
  obtain ⟨⟨h1, h2, h3, h3'⟩, ⟨g1, g2, g3, g4, g5⟩, h4, h5⟩ := c
  rcases hk with ⟨rfl, rfl, hv⟩ | ⟨rfl, rfl, hv⟩ | ⟨rfl, rfl⟩ | ⟨rfl, rfl, hv⟩
  all_goals
    refine ⟨⟨h1, ?_, ?_, ?_⟩, ⟨?_, ?_, ?_, ?_, ?_⟩, fun k hk => ⟨(h4 k hk).1, ?_⟩, fun w w1 w2 i hi => ?_⟩
    all_goals simp only [a_up_def]
    all_goals repeat' split
    all_goals first
      | assumption
      | rfl
      | (exfalso; omega)
      | exact (h4 k hk).2
      | exact h5 w w1 w2 i hi
theorem CS.arr (c : CS M n T P) {w i v : Nat} (h1 : 1 ≤ w) (h2 : w < 4) (hi : i < 12) : CS (a_up M (141 + w) i (N v)) n T (a_up P w i v) := by
  obtain ⟨⟨a1, a2, a3, a4⟩, ⟨g1, g2, g3, g4, g5⟩, h4, h5⟩ := c
  refine ⟨⟨a1, ?_, ?_, ?_⟩, ⟨?_, ?_, ?_, ?_, ?_⟩, fun k hk => ⟨(h4 k hk).1, ?_⟩, fun w' w1 w2 j hj => ?_⟩
  · rw [a_up_def, if_neg (by omega)]; exact a2
  · rw [a_up_def, if_neg (by omega)]; exact a3
  · rw [a_up_def, if_neg (by omega)]; exact a4
  · rw [a_up_def, if_neg (by omega)]; exact g1
  · rw [a_up_def, if_neg (by omega), a_up_def, if_neg (by omega)]; exact g2
  · rw [a_up_def, if_neg (by omega), a_up_def, if_neg (by omega)]; exact g3
  · rw [a_up_def, if_neg (by omega), a_up_def, if_neg (by omega)]; exact g4
  · rw [a_up_def, if_neg (by omega), a_up_def, if_neg (by omega)]; exact g5
  · rw [a_up_def, if_neg (by omega)]; exact (h4 k hk).2
  · rw [a_up_def, a_up_def]
    by_cases e : w' = w ∧ j = i
    · rw [if_pos (by omega), if_pos e]
    · rw [if_neg (by omega), if_neg e]; exact h5 w' w1 w2 j hj
theorem FS.put {k : Nat} {v : Int32} (hk : k = 9 ∨ k = 4 ∨ k = 5 ∨ k = 3) : FS M (a_up M 141 k v) := fun o j a b => by rw [a_up_def, if_neg (by omega)]
theorem FS.arr {w i : Nat} {v : Int32} (h1 : 1 ≤ w) (h2 : w < 4) : FS M (a_up M (141 + w) i v) := fun o j a b => by rw [a_up_def, if_neg (by omega)]
theorem n_lds {i pc : Nat} {lc : a_Lc} {st : List Value} {n' a b s : Nat} {v : Int32} (hi : a_ins i pc = some (.baload, n', a, b, v)) (c : CS M n T P) (hs : s < n) (k : a_Ex i (pc + n') lc (.int (sx (T s)) :: st) (a_hp sc fd M) Q) : a_Ex i pc lc (.int (N s) :: .ref 145 :: st) (a_hp sc fd M) Q := by
  have := c.n200
  refine x_ldb hi ar_145 (Or.inl rfl) (by rw [a_in_N (by omega)]; omega) ?_
  rw [N_toNat (by omega), c.tb hs]
  exact k
theorem wnd_le {n : Nat} : ∀ d s, s ≤ n → wnd T n d s ≤ n := by
  intro d
  induction d with
  | zero => intro s h; exact h
  | succ d ih =>
    intro s h
    unfold wnd
    split
    · rename_i g
      have := of_decide_eq_true g
      exact ih _ (by omega)
    · exact h
theorem wnd_ge {n : Nat} : ∀ d s, s ≤ wnd T n d s := by
  intro d
  induction d with
  | zero => intro s; exact Nat.le_refl _
  | succ d ih =>
    intro s
    unfold wnd
    split
    · exact Nat.le_trans (by omega) (ih (s + 1))
    · exact Nat.le_refl _
theorem CS.w_le (c : CS M n T P) : wen T n P ≤ n := wnd_le _ _ c.a_n
theorem w_ge : P 0 0 ≤ wen T n P := wnd_ge _ _
theorem w_gt (h : P 0 0 ≤ n) : (P 0 0 < wen T n P) = (ltr T n (P 0 0) = true) := by
  refine propext ⟨fun g => ?_, fun g => ?_⟩
  · unfold wen at g
    cases e : n - P 0 0 with
    | zero => rw [e] at g; exact absurd g (Nat.lt_irrefl _)
    | succ d =>
      rw [e] at g
      unfold wnd at g
      split at g
      · assumption
      · exact absurd g (Nat.lt_irrefl _)
  · have := of_decide_eq_true g
    unfold wen
    cases e : n - P 0 0 with
    | zero => omega
    | succ d =>
      unfold wnd
      rw [if_pos g]
      have := wnd_ge (T := T) (n := n) d (P 0 0 + 1)
      omega
theorem c_111_5 (c : CS M n T P) : ∀ d s, n - s = d → s ≤ n → Q (some (.int (N (wnd T n d s)))) (a_hp sc fd M) → a_Ex 111 5 [some (.ref 141), some (.int (N s))] [] (a_hp sc fd M) Q := by
  have h2 := c.n200
  intro d
  induction d with
  | zero =>
    intro s hd hs K
    have e : n = s := by omega
    subst e
    refine x_iload_n i_111_5 rfl ?_
    refine x_aload_n i_111_6 rfl ?_
    refine n_gi (x := n) i_111_7 ob_141 gf_4_8.1 gf_4_8.2 c.hln ?_
    refine x_igeN (by omega) (by omega) i_111_10 ⟨fun g1 => ?_, fun g1 => ?_⟩
    · refine x_iload_n i_111_41 rfl ?_
      refine x_iret i_111_42 rn_111 rfl ?_
      exact K
    · exact absurd (Nat.le_refl _) g1
  | succ d ih =>
    intro s hd hs K
    have hl : s < n := by omega
    have h8 := c.t8 hl
    have e := sx_a (T s) h8
    unfold wnd at K
    refine x_iload_n i_111_5 rfl ?_
    refine x_aload_n i_111_6 rfl ?_
    refine n_gi (x := n) i_111_7 ob_141 gf_4_8.1 gf_4_8.2 c.hln ?_
    refine x_igeN (by omega) (by omega) i_111_10 ⟨fun g1 => ?_, fun g1 => ?_⟩
    · exact absurd g1 (by omega)
    · refine x_aload_n i_111_13 rfl ?_
      refine x_gr i_111_14 ob_141 gr_4_7.1 gr_4_7.2 (rt_141_7 _) ?_
      refine x_iload_n i_111_17 rfl ?_
      refine n_lds i_111_18 c hl ?_
      refine n_bipush 97 i_111_19 rfl ?_
      refine x_ilt i_111_21 ⟨fun g2 => ?_, fun g2 => ?_⟩
      · rw [e.1] at g2
        rw [if_neg (show ¬ ltr T n s = true from fun q => by have := of_decide_eq_true q; omega)] at K
        refine x_iload_n i_111_41 rfl ?_
        refine x_iret i_111_42 rn_111 rfl ?_
        exact K
      · rw [e.1] at g2
        refine x_aload_n i_111_24 rfl ?_
        refine x_gr i_111_25 ob_141 gr_4_7.1 gr_4_7.2 (rt_141_7 _) ?_
        refine x_iload_n i_111_28 rfl ?_
        refine n_lds i_111_29 c hl ?_
        refine n_bipush 122 i_111_30 rfl ?_
        refine x_igt i_111_32 ⟨fun g3 => ?_, fun g3 => ?_⟩
        · rw [e.2.1] at g3
          rw [if_neg (show ¬ ltr T n s = true from fun q => by have := of_decide_eq_true q; omega)] at K
          refine x_iload_n i_111_41 rfl ?_
          refine x_iret i_111_42 rn_111 rfl ?_
          exact K
        · rw [e.2.1] at g3
          rw [if_pos (show ltr T n s = true from decide_eq_true ⟨by omega, by omega, by omega⟩)] at K
          refine n_iinc 1 i_111_35 rfl rfl rfl rfl ?_
          refine x_goto i_111_38 ?_
          exact ih (s + 1) (by omega) (by omega) K
theorem c_111 (c : CS M n T P) (K : Q (some (.int (N (wen T n P)))) (a_hp sc fd M)) : a_Ex 111 0 [some (.ref 141), none] [] (a_hp sc fd M) Q := by
  refine x_aload_n i_111_0 rfl ?_
  refine n_gi (x := P 0 0) i_111_1 ob_141 gf_4_9.1 gf_4_9.2 c.hat ?_
  refine x_istore_n i_111_4 rfl rfl ?_
  exact c_111_5 c _ _ rfl c.a_n K
theorem c_113 (c : CS M n T P) {w : Nat} (hw : w ≤ 3) (k : ∀ M', CS M' n T (flp P w) → FS M M' → Q none (a_hp sc fd M')) : a_Ex 113 0 [some (.ref 141), some (.int (N w))] [] (a_hp sc fd M) Q := by
  have c1 := c.put (k := 4) (j := 1) (v := w) (by omega)
  have c2 := c1.put (k := 5) (j := 2) (v := P 0 0) (by omega)
  refine x_aload_n i_113_0 rfl ?_
  refine x_iload_n i_113_1 rfl ?_
  refine x_pi i_113_2 ob_141 pf_4_4.1 pf_4_4.2 ?_
  refine x_aload_n i_113_5 rfl ?_
  refine x_aload_n i_113_6 rfl ?_
  refine n_gi (x := P 0 0) i_113_7 ob_141 gf_4_9.1 gf_4_9.2 c1.hat ?_
  refine x_pi i_113_10 ob_141 pf_4_5.1 pf_4_5.2 ?_
  refine x_vret i_113_13 rn_113 ?_
  exact k _ c2 ((FS.put (by omega)).trans (FS.put (by omega)))
theorem c_112 (c : CS M n T P) (k : ∀ M', CS M' n T (flh T n P) → FS M M' → Q none (a_hp sc fd M')) : a_Ex 112 0 [some (.ref 141)] [] (a_hp sc fd M) Q := by
  have h2 := c.n200
  have h3 := c.w_le
  have h4 := c.a_n
  have h5 := w_gt (T := T) h4
  unfold flh flw at k
  refine x_aload_n i_112_0 rfl ?_
  refine x_aload_n i_112_1 rfl ?_
  refine x_vh (r := [_]) (lj := [some _, none]) i_112_2 w_111 ob_141 [] rfl rfl (Nat.le_of_ble_eq_true rfl) (Nat.le_of_ble_eq_true rfl) rfl ?_
  refine c_111 c (rt_i ?_)
  refine x_aload_n i_112_5 rfl ?_
  refine n_gi (x := P 0 0) i_112_6 ob_141 gf_4_9.1 gf_4_9.2 c.hat ?_
  refine x_ileN (by omega) (by omega) i_112_9 ⟨fun g1 => ?_, fun g1 => ?_⟩
  · rw [if_neg (fun q => by rw [← h5] at q; omega)] at k
    refine n_iconst 2 i_112_16 rfl ?_
    refine x_vh (r := []) (lj := [some _, some _]) i_112_17 w_113 ob_141 [_] rfl rfl (Nat.le_of_ble_eq_true rfl) (Nat.le_of_ble_eq_true rfl) rfl ?_
    refine c_113 c (by decide) (fun M1 c1 f1 => rt_n ?_)
    refine x_vret i_112_20 rn_112 ?_
    exact k _ c1 f1
  · rw [if_pos (by rw [← h5]; omega)] at k
    refine n_iconst 1 i_112_12 rfl ?_
    refine x_goto i_112_13 ?_
    refine x_vh (r := []) (lj := [some _, some _]) i_112_17 w_113 ob_141 [_] rfl rfl (Nat.le_of_ble_eq_true rfl) (Nat.le_of_ble_eq_true rfl) rfl ?_
    refine c_113 c (by decide) (fun M1 c1 f1 => rt_n ?_)
    refine x_vret i_112_20 rn_112 ?_
    exact k _ c1 f1
theorem c_119 (c : CS M n T P) (K : Q (some (.int (N (bth T n (P 0 0))))) (a_hp sc fd M)) : a_Ex 119 0 [some (.ref 141)] [] (a_hp sc fd M) Q := by
  have h2 := c.n200
  have h4 := c.a_n
  unfold bth at K
  refine x_aload_n i_119_0 rfl ?_
  refine n_gi (x := P 0 0) i_119_1 ob_141 gf_4_9.1 gf_4_9.2 c.hat ?_
  refine x_aload_n i_119_4 rfl ?_
  refine n_gi (x := n) i_119_5 ob_141 gf_4_8.1 gf_4_8.2 c.hln ?_
  refine x_igeN (by omega) (by omega) i_119_8 ⟨fun g1 => ?_, fun g1 => ?_⟩
  · rw [if_neg (by omega)] at K
    refine n_iconst 4294967295 i_119_27 rfl ?_
    refine x_iret i_119_28 rn_119 rfl ?_
    exact K
  · rw [if_pos (by omega)] at K
    have hl : P 0 0 < n := by omega
    refine x_aload_n i_119_11 rfl ?_
    refine x_gr i_119_12 ob_141 gr_4_7.1 gr_4_7.2 (rt_141_7 _) ?_
    refine x_aload_n i_119_15 rfl ?_
    refine n_gi (x := P 0 0) i_119_16 ob_141 gf_4_9.1 gf_4_9.2 c.hat ?_
    refine n_lds i_119_19 c hl ?_
    refine n_sipush 255 i_119_20 rfl ?_
    refine x_iand i_119_23 ?_
    rw [(sx_a _ (c.t8 hl)).2.2.1]
    refine x_goto i_119_24 ?_
    refine x_iret i_119_28 rn_119 rfl ?_
    exact K
theorem bth_lt (c : CS M n T P) : bth T n (P 0 0) < 4294967296 := by
  unfold bth
  split
  · rename_i h; have := c.t8 h; omega
  · omega
theorem dgt_b (c : CS M n T P) : (dgt T n (P 0 0) = true) = (48 ≤ bth T n (P 0 0) ∧ bth T n (P 0 0) ≤ 57) := by
  unfold dgt bth
  refine propext ⟨fun g => ?_, fun g => decide_eq_true ?_⟩
  · have := of_decide_eq_true g
    rw [if_pos this.1]; exact this.2
  · by_cases h : P 0 0 < n
    · rw [if_pos h] at g; exact ⟨h, g⟩
    · rw [if_neg h] at g; omega
theorem c_120 (c : CS M n T P) (k : ∀ M', CS M' n T (if dgt T n (P 0 0) = true then P else flh T n P) → FS M M' → Q (some (.int (N (if dgt T n (P 0 0) = true then 1 else 0)))) (a_hp sc fd M')) : a_Ex 120 0 [some (.ref 141), none, none] [] (a_hp sc fd M) Q := by
  have h1 := bth_lt c
  have h5 := dgt_b c
  refine x_aload_n i_120_0 rfl ?_
  refine x_vh (r := []) (lj := [some _]) i_120_1 w_119 ob_141 [] rfl rfl (Nat.le_of_ble_eq_true rfl) (Nat.le_of_ble_eq_true rfl) rfl ?_
  refine c_119 c (rt_i ?_)
  refine x_istore_n i_120_4 rfl rfl ?_
  refine x_iload_n i_120_5 rfl ?_
  refine n_bipush 48 i_120_6 rfl ?_
  refine n_iltU h1 (by omega) i_120_8 ⟨fun g1 => ?_, fun g1 => ?_⟩
  · rw [if_neg (by rw [h5]; omega), if_neg (by rw [h5]; omega)] at k
    refine n_iconst 0 i_120_21 rfl ?_
    refine x_istore_n i_120_22 rfl rfl ?_
    refine x_iload_n i_120_23 rfl ?_
    refine x_ifF i_120_24 (by decide +kernel) ?_
    refine x_aload_n i_120_27 rfl ?_
    refine x_vh (r := []) (lj := [some _]) i_120_28 w_112 ob_141 [] rfl rfl (Nat.le_of_ble_eq_true rfl) (Nat.le_of_ble_eq_true rfl) rfl ?_
    refine c_112 c (fun M1 c1 f1 => rt_n ?_)
    refine x_iload_n i_120_31 rfl ?_
    refine x_iret i_120_32 rn_120 rfl ?_
    first | exact k M c (FS.refl M) | exact k M1 c1 f1
  · refine x_iload_n i_120_11 rfl ?_
    refine n_bipush 57 i_120_12 rfl ?_
    refine n_igtU h1 (by omega) i_120_14 ⟨fun g2 => ?_, fun g2 => ?_⟩
    · rw [if_neg (by rw [h5]; omega), if_neg (by rw [h5]; omega)] at k
      refine n_iconst 0 i_120_21 rfl ?_
      refine x_istore_n i_120_22 rfl rfl ?_
      refine x_iload_n i_120_23 rfl ?_
      refine x_ifF i_120_24 (by decide +kernel) ?_
      refine x_aload_n i_120_27 rfl ?_
      refine x_vh (r := []) (lj := [some _]) i_120_28 w_112 ob_141 [] rfl rfl (Nat.le_of_ble_eq_true rfl) (Nat.le_of_ble_eq_true rfl) rfl ?_
      refine c_112 c (fun M1 c1 f1 => rt_n ?_)
      refine x_iload_n i_120_31 rfl ?_
      refine x_iret i_120_32 rn_120 rfl ?_
      first | exact k M c (FS.refl M) | exact k M1 c1 f1
    · rw [if_pos (by rw [h5]; omega), if_pos (by rw [h5]; omega)] at k
      refine n_iconst 1 i_120_17 rfl ?_
      refine x_goto i_120_18 ?_
      refine x_istore_n i_120_22 rfl rfl ?_
      refine x_iload_n i_120_23 rfl ?_
      refine x_ifT i_120_24 (by decide +kernel) ?_
      refine x_iload_n i_120_31 rfl ?_
      refine x_iret i_120_32 rn_120 rfl ?_
      first | exact k M c (FS.refl M) | exact k M1 c1 f1
theorem flh_d : (flh T n P) 0 3 = P 0 3 := rfl
theorem mst_d {c : Nat} : (mst T n c P).2 0 3 = P 0 3 := by unfold mst; split <;> rfl
theorem dgw_d {w : Nat} (hw : ¬ w = 0) : (dgw T n w P).2 0 3 = P 0 3 := by
  unfold dgw
  split
  · show a_up (a_up P w (P 0 3) (T (P 0 0) - 48)) 0 0 (P 0 0 + 1) 0 3 = P 0 3
    rw [a_up_def, if_neg (by omega), a_up_def, if_neg (by omega)]
  · rfl
theorem mst_v {c : Nat} : (mst T n c P).1 < 2 := by
  unfold mst
  split
  · exact (by omega : (1 : Nat) < 2)
  · exact (by omega : (0 : Nat) < 2)
theorem c_122 (c : CS M n T P) {w : Nat} (hw : w < 256) (k : ∀ M', CS M' n T (mst T n w P).2 → FS M M' → Q (some (.int (N (mst T n w P).1))) (a_hp sc fd M')) : a_Ex 122 0 [some (.ref 141), some (.int (N w))] [] (a_hp sc fd M) Q := by
  have h1 := bth_lt c
  have h2 := c.n200
  unfold mst at k
  refine x_aload_n i_122_0 rfl ?_
  refine x_vh (r := []) (lj := [some _]) i_122_1 w_119 ob_141 [] rfl rfl (Nat.le_of_ble_eq_true rfl) (Nat.le_of_ble_eq_true rfl) rfl ?_
  refine c_119 c (rt_i ?_)
  refine x_iload_n i_122_4 rfl ?_
  refine n_ieqU h1 (by omega) i_122_5 ⟨fun g1 => ?_, fun g1 => ?_⟩
  · rw [if_pos g1] at k
    have hl : P 0 0 < n := by unfold bth at g1; split at g1; assumption; omega
    refine x_aload_n i_122_14 rfl ?_
    refine x_dup i_122_15 rfl ?_
    refine n_gi (x := P 0 0) i_122_16 ob_141 gf_4_9.1 gf_4_9.2 c.hat ?_
    refine n_iconst 1 i_122_19 rfl ?_
    refine x_iaddN i_122_20 ?_
    refine x_pi i_122_21 ob_141 pf_4_9.1 pf_4_9.2 ?_
    refine n_iconst 1 i_122_24 rfl ?_
    refine x_iret i_122_25 rn_122 rfl ?_
    first | exact k M1 c1 f1 | exact k _ (c.put (by omega)) (FS.put (by omega))
  · rw [if_neg g1] at k
    refine x_aload_n i_122_8 rfl ?_
    refine x_vh (r := []) (lj := [some _]) i_122_9 w_112 ob_141 [] rfl rfl (Nat.le_of_ble_eq_true rfl) (Nat.le_of_ble_eq_true rfl) rfl ?_
    refine c_112 c (fun M1 c1 f1 => rt_n ?_)
    refine n_iconst 0 i_122_12 rfl ?_
    refine x_iret i_122_13 rn_122 rfl ?_
    first | exact k M1 c1 f1 | exact k _ (c.put (by omega)) (FS.put (by omega))
theorem dgt_x (h : dgt T n (P 0 0) = true) : P 0 0 < n ∧ 48 ≤ T (P 0 0) ∧ T (P 0 0) ≤ 57 := of_decide_eq_true h
theorem c_118_30 (c : CS M n T P) (hd : P 0 3 < 12) (g : dgt T n (P 0 0) = true) (k : ∀ M', CS M' n T (a_up (a_up P 3 (P 0 3) (T (P 0 0) - 48)) 0 0 (P 0 0 + 1)) → FS M M' → Q (some (.int (N 1))) (a_hp sc fd M')) : a_Ex 118 30 [some (.ref 141)] [] (a_hp sc fd M) Q := by
  have h2 := c.n200
  have g2 := dgt_x g
  have c1 := c.arr (w := 3) (i := P 0 3) (v := T (P 0 0) - 48) (by omega) (by omega) hd
  have c2 := c1.put (k := 9) (j := 0) (v := P 0 0 + 1) (by omega)
  refine x_aload_n i_118_30 rfl ?_
  refine x_gr i_118_31 ob_141 gr_4_2.1 gr_4_2.2 (rt_141_2 _) ?_
  refine x_aload_n i_118_34 rfl ?_
  refine n_gi (x := P 0 3) i_118_35 ob_141 gf_4_3.1 gf_4_3.2 c.hdd ?_
  refine x_aload_n i_118_38 rfl ?_
  refine x_gr i_118_39 ob_141 gr_4_7.1 gr_4_7.2 (rt_141_7 _) ?_
  refine x_aload_n i_118_42 rfl ?_
  refine n_gi (x := P 0 0) i_118_43 ob_141 gf_4_9.1 gf_4_9.2 c.hat ?_
  refine n_lds i_118_46 c g2.1 ?_
  refine n_bipush 48 i_118_47 rfl ?_
  refine x_isub i_118_49 ?_
  rw [(sx_a _ (c.t8 g2.1)).2.2.2 g2.2.1 g2.2.2]
  refine n_st i_118_50 ar_144 (by omega) (by omega) ?_
  refine x_aload_n i_118_51 rfl ?_
  refine x_dup i_118_52 rfl ?_
  refine n_gi (x := P 0 0) i_118_53 ob_141 gf_4_9.1 gf_4_9.2 c1.hat ?_
  refine n_iconst 1 i_118_56 rfl ?_
  refine x_iaddN i_118_57 ?_
  refine x_pi i_118_58 ob_141 pf_4_9.1 pf_4_9.2 ?_
  refine n_iconst 1 i_118_61 rfl ?_
  refine x_iret i_118_62 rn_118 rfl ?_
  exact k _ c2 ((FS.arr (w := 3) (by omega) (by omega)).trans (FS.put (by omega)))
theorem c_121_18 (c : CS M n T P) (hd : P 0 3 < 12) (g : dgt T n (P 0 0) = true) (k : ∀ M', CS M' n T (a_up (a_up P 2 (P 0 3) (T (P 0 0) - 48)) 0 0 (P 0 0 + 1)) → FS M M' → Q (some (.int (N 1))) (a_hp sc fd M')) : a_Ex 121 18 [some (.ref 141)] [] (a_hp sc fd M) Q := by
  have h2 := c.n200
  have g2 := dgt_x g
  have c1 := c.arr (w := 2) (i := P 0 3) (v := T (P 0 0) - 48) (by omega) (by omega) hd
  have c2 := c1.put (k := 9) (j := 0) (v := P 0 0 + 1) (by omega)
  refine x_aload_n i_121_18 rfl ?_
  refine x_gr i_121_19 ob_141 gr_4_1.1 gr_4_1.2 (rt_141_1 _) ?_
  refine x_aload_n i_121_22 rfl ?_
  refine n_gi (x := P 0 3) i_121_23 ob_141 gf_4_3.1 gf_4_3.2 c.hdd ?_
  refine x_aload_n i_121_26 rfl ?_
  refine x_gr i_121_27 ob_141 gr_4_7.1 gr_4_7.2 (rt_141_7 _) ?_
  refine x_aload_n i_121_30 rfl ?_
  refine n_gi (x := P 0 0) i_121_31 ob_141 gf_4_9.1 gf_4_9.2 c.hat ?_
  refine n_lds i_121_34 c g2.1 ?_
  refine n_bipush 48 i_121_35 rfl ?_
  refine x_isub i_121_37 ?_
  rw [(sx_a _ (c.t8 g2.1)).2.2.2 g2.2.1 g2.2.2]
  refine n_st i_121_38 ar_143 (by omega) (by omega) ?_
  refine x_aload_n i_121_39 rfl ?_
  refine x_dup i_121_40 rfl ?_
  refine n_gi (x := P 0 0) i_121_41 ob_141 gf_4_9.1 gf_4_9.2 c1.hat ?_
  refine n_iconst 1 i_121_44 rfl ?_
  refine x_iaddN i_121_45 ?_
  refine x_pi i_121_46 ob_141 pf_4_9.1 pf_4_9.2 ?_
  refine n_iconst 1 i_121_49 rfl ?_
  refine x_iret i_121_50 rn_121 rfl ?_
  exact k _ c2 ((FS.arr (w := 2) (by omega) (by omega)).trans (FS.put (by omega)))
theorem c_118 (c : CS M n T P) (hd : P 0 3 < 12) (k : ∀ M', CS M' n T (lmt T n P).2 → FS M M' → Q (some (.int (N (lmt T n P).1))) (a_hp sc fd M')) : a_Ex 118 0 [some (.ref 141)] [] (a_hp sc fd M) Q := by
  have h1 := bth_lt c
  have h2 := c.n200
  unfold lmt at k
  refine x_aload_n i_118_0 rfl ?_
  refine x_vh (r := []) (lj := [some _]) i_118_1 w_119 ob_141 [] rfl rfl (Nat.le_of_ble_eq_true rfl) (Nat.le_of_ble_eq_true rfl) rfl ?_
  refine c_119 c (rt_i ?_)
  refine n_bipush 32 i_118_4 rfl ?_
  refine n_ieqU h1 (by omega) i_118_6 ⟨fun g1 => ?_, fun g1 => ?_⟩
  · rw [if_pos g1] at k
    have hl : P 0 0 < n := by unfold bth at g1; split at g1; assumption; omega
    have c1 := c.put (k := 9) (j := 0) (v := P 0 0 + 1) (by omega)
    have f1 : FS M (a_up M 141 9 (N (P 0 0 + 1))) := FS.put (by omega)
    refine x_aload_n i_118_11 rfl ?_
    refine x_dup i_118_12 rfl ?_
    refine n_gi (x := P 0 0) i_118_13 ob_141 gf_4_9.1 gf_4_9.2 c.hat ?_
    refine n_iconst 1 i_118_16 rfl ?_
    refine x_iaddN i_118_17 ?_
    refine x_pi i_118_18 ob_141 pf_4_9.1 pf_4_9.2 ?_
    generalize a_up M 141 9 (N (P 0 0 + 1)) = M1 at c1 f1 ⊢
    generalize hP1 : a_up P 0 0 (P 0 0 + 1) = P1 at c1 k ⊢
    have hd1 : P1 0 3 < 12 := by rw [← hP1]; exact hd
    unfold dgw at k
    refine x_aload_n i_118_21 rfl ?_
    refine x_vh (r := []) (lj := [some _, none, none]) i_118_22 w_120 ob_141 [] rfl rfl (Nat.le_of_ble_eq_true rfl) (Nat.le_of_ble_eq_true rfl) rfl ?_
    refine c_120 c1 (fun M2 c2 f2 => rt_i ?_)
    by_cases gd : dgt T n (P1 0 0) = true
    · rw [if_pos gd] at k c2
      rw [if_pos gd]
      refine x_ifT i_118_25 (by decide +kernel) ?_
      exact c_118_30 c2 hd1 gd (fun M3 c3 f3 => k M3 c3 ((f1.trans f2).trans f3))
    rw [if_neg gd] at k c2
    rw [if_neg gd]
    refine x_ifF i_118_25 (by decide +kernel) ?_
    refine n_iconst 0 i_118_28 rfl ?_
    refine x_iret i_118_29 rn_118 rfl ?_
    exact k M2 c2 (f1.trans f2)
  · rw [if_neg g1] at k
    refine n_iconst 1 i_118_9 rfl ?_
    refine x_iret i_118_10 rn_118 rfl ?_
    exact k M c (FS.refl M)
theorem c_121 (c : CS M n T P) (hd : P 0 3 < 12) (k : ∀ M', CS M' n T (sit T n P).2 → FS M M' → Q (some (.int (N (sit T n P).1))) (a_hp sc fd M')) : a_Ex 121 0 [some (.ref 141)] [] (a_hp sc fd M) Q := by
  have h2 := c.n200
  have hm := mst_d (T := T) (n := n) (P := P) (c := 32)
  have hv := mst_v (T := T) (n := n) (P := P) (c := 32)
  unfold sit at k
  refine x_aload_n i_121_0 rfl ?_
  refine n_bipush 32 i_121_1 rfl ?_
  refine x_vh (r := []) (lj := [some _, some _]) i_121_3 w_122 ob_141 [_] rfl rfl (Nat.le_of_ble_eq_true rfl) (Nat.le_of_ble_eq_true rfl) rfl ?_
  refine c_122 c (by omega) (fun M1 c1 f1 => rt_i ?_)
  refine n_zeqU (by omega) i_121_6 ⟨fun g1 => ?_, fun g1 => ?_⟩
  · rw [if_pos g1] at k
    refine n_iconst 0 i_121_16 rfl ?_
    refine x_iret i_121_17 rn_121 rfl ?_
    first | exact k M2 c2 (f1.trans f2) | exact k M1 c1 f1
  · rw [if_neg g1] at k
    generalize (mst T n 32 P).2 = P1 at c1 k hm
    unfold dgw at k
    refine x_aload_n i_121_9 rfl ?_
    refine x_vh (r := []) (lj := [some _, none, none]) i_121_10 w_120 ob_141 [] rfl rfl (Nat.le_of_ble_eq_true rfl) (Nat.le_of_ble_eq_true rfl) rfl ?_
    refine c_120 c1 (fun M2 c2 f2 => rt_i ?_)
    by_cases gd : dgt T n (P1 0 0) = true
    · rw [if_pos gd] at k c2
      rw [if_pos gd]
      refine x_ifT i_121_13 (by decide +kernel) ?_
      exact c_121_18 c2 (by omega) gd (fun M3 c3 f3 => k M3 c3 ((f1.trans f2).trans f3))
    rw [if_neg gd] at k c2
    rw [if_neg gd]
    refine x_ifF i_121_13 (by decide +kernel) ?_
    refine n_iconst 0 i_121_16 rfl ?_
    refine x_iret i_121_17 rn_121 rfl ?_
    first | exact k M2 c2 (f1.trans f2) | exact k M1 c1 f1
end RDC
