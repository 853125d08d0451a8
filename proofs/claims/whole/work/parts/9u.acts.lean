/-! the reference's search: the acts on one stand -/
def rfr (n : Nat) (E : HA) (m : Nat) : Nat → Nat
  | 0 => 4294967295
  | j + 1 => if rfr n E m j = 4294967295 ∧ phi n (E 0 j) / 16 = m then E 3 j else rfr n E m j
def MFr (M : a_Mm) (n : Nat) (E : HA) (z : Nat) : Prop := ∀ m, m < 1728 → M 180 m = N (rfr n E m z)
def FRj (M M' : a_Mm) : Prop := ∀ q k, ¬ (q = 170 ∧ (k = 0 ∨ (7 ≤ k ∧ k ≤ 10) ∨ k = 16)) → ¬ (q = 171 ∧ k < 216) → ¬ (176 ≤ q ∧ q ≤ 180) → M' q k = M q k
/-- the reference's search goes on -/
def SJ (M : a_Mm) (n : Nat) (S : HA × Nat) (T : HA) (g i y : Nat) (A : HA) : Prop := RM M n A ∧ TM n T A ∧ SRr M n S ∧ MFr M n S.1 y ∧ WN n T ∧ (∃ D, IV n T (AL n g) S i D) ∧ i < S.2 ∧ y ≤ i + 1
section RSE
variable {sc : a_Sc} {fd : Nat} {M M0 : a_Mm} {n g x s c k p q z i a b m y : Nat} {T A B C E F : HA} {S : HA × Nat} {h : a_Hp} {Q : Option Value → a_Hp → Prop}
theorem rfr_c {m : Nat} : ∀ z, (∀ w j, j < z → F w j = E w j) → rfr n F m z = rfr n E m z := by
  intro z
  induction z with
  | zero => intro _; rfl
  | succ z ih =>
    intro h
    unfold rfr
    rw [ih (fun w j hj => h w j (by omega)), h 0 z (by omega), h 3 z (by omega)]
theorem FRj.trans {M1 M2 : a_Mm} (h : FRj M M1) (f : FRj M1 M2) : FRj M M2 := fun q k a b c => (f q k a b c).trans (h q k a b c)
theorem FM.j {M1 : a_Mm} (h : FM M M1) : FRj M M1 := fun q k a b c => h q k (by omega)
theorem SRr.fm {M1 : a_Mm} (h : SRr M n S) (f : ∀ q k, (176 ≤ q ∧ q ≤ 179) ∨ (q = 170 ∧ k = 16) → M1 q k = M q k) : SRr M1 n S := by
  obtain ⟨s1, s2, s3⟩ := h
  refine ⟨(f _ _ (by omega)).trans s1, fun j hj => ?_, fun c hc no => (f _ _ (by omega)).trans (s3 c hc no)⟩
  obtain ⟨y1, y2, y3, y4⟩ := s2 j hj
  exact ⟨(f _ _ (by omega)).trans y1, (f _ _ (by omega)).trans y2, (f _ _ (by omega)).trans y3, fun h1 => (f _ _ (by omega)).trans (y4 h1)⟩
theorem SJ.hall (x : SJ M n S T g i y A) {M' : a_Mm} (r : RM M' n B) (t : TM n T B) (f : FM M M') : SJ M' n S T g i y B := by
  obtain ⟨-, -, s, mf, w⟩ := x
  exact ⟨r, t, s.fm (fun q k h => f q k (by omega)), fun m hm => (f _ _ (by omega)).trans (mf m hm), w⟩
theorem SB.of {L : List Nat} {D : Nat → Prop} (hn : n = 2 ∨ n = 3) (v : IV n T L S i D) : SB n S := by
  have hz := iv_sz v
  have ch := iv_ch v
  obtain ⟨⟨a1, a2, a3, a4, a5⟩, b1, c1, d1, e1, f1, h1⟩ := v
  refine ⟨by omega, fun j hj => ⟨?_, (ch j hj).1, ?_⟩⟩
  · have := vl_lt (b1 j hj).1.1
    rw [(b1 j hj).2] at this
    exact this
  · by_cases q : j = 0
    · rw [q]; exact Or.inl a3
    · right
      have := (d1 j (by omega) hj).1
      omega
theorem SJ.cur (hn : n = 2 ∨ n = 3) (x : SJ M n S T g i y A) : SB n S ∧ S.1 0 i < cb n ∧ IHs n T (std n T (S.1 0 i)) ∧ nv n S.1 i = phi n (S.1 0 i) ∧ i < 4000 := by
  obtain ⟨r, t, s, mf, w, ⟨D, v⟩, hi, hy⟩ := x
  have sb := SB.of hn v
  have h4 := sb.1
  refine ⟨sb, (sb.2 i hi).1, (v.2.1 i hi).1, ?_, by omega⟩
  unfold nv
  rw [if_neg (by omega)]
theorem act_rf (ok : OKA n a) (h5 : n ≤ 5) (f2 : A 6 2 ≤ 3) (h : ¬ (act n A a).1 < 2147483648) : (act n A a).2 = A := by
  unfold act at h ⊢
  by_cases c1 : a / 100 = 1
  · rw [if_pos c1] at h ⊢; exact rf57 h5 f2 h
  rw [if_neg c1] at h ⊢
  by_cases c2 : a / 100 = 2
  · rw [if_pos c2] at h ⊢; exact rf64 h5 f2 h
  rw [if_neg c2] at h ⊢
  by_cases c3 : a / 100 = 3
  · rw [if_pos c3] at h ⊢; exact rf66 h
  rw [if_neg c3] at h ⊢
  by_cases c4 : a / 100 = 4
  · rw [if_pos c4] at h ⊢; exact rf67 h
  rw [if_neg c4] at h ⊢
  by_cases c5 : a / 100 = 5
  · rw [if_pos c5] at h ⊢; exact rf72 h
  rw [if_neg c5] at h
  exact absurd (show (0 : Nat) < 2147483648 by omega) h
theorem c_226_172 (hn : n = 2 ∨ n = 3) (hg : g ≤ 1) : ∀ (l : List Nat) {e : Nat} {S : HA × Nat} {M : a_Mm} {A : HA}, 100 ≤ e → e ≤ 608 → lsa n g (608 - e) e = l → (∀ a, a ∈ l → a ∈ AL n g) → SJ M n S T g i y A → FRj M0 M → (∀ M' A' l4, SJ M' n (l.foldl (stq n T i) S) T g i y A' → FRj M0 M' → a_Ex 226 215 [some (.ref 170), some (.int (N g)), some (.int (N i)), some (.int (N (phi n (S.1 0 i)))), some (.int l4)] [] (a_hp sc fd M') Q) → a_Ex 226 172 [some (.ref 170), some (.int (N g)), some (.int (N i)), some (.int (N (phi n (S.1 0 i)))), some (.int (N (nx n g (608 - e) e)))] [] (a_hp sc fd M) Q := by
  intro l
  induction l with
  | nil =>
    intro e S M A he1 he2 hl hL x fr K
    rcases nx_lsa (n := n) (g := g) (608 - e) e (by omega) with ⟨h1, h2⟩ | ⟨h1, h2, h3⟩
    · rw [h1]
      refine x_iload i_226_172 rfl ?_
      refine n_iconst 4294967295 i_226_174 rfl ?_
      refine n_ieqU (by omega) (by omega) i_226_175 ⟨fun _ => ?_, fun q => absurd rfl q⟩
      exact K M A _ x fr
    · rw [hl] at h3; exact absurd h3 (by simp)
  | cons a l ih =>
    intro e S M A he1 he2 hl hL x fr K
    rcases nx_lsa (n := n) (g := g) (608 - e) e (by omega) with ⟨h1, h2⟩ | ⟨h1, h2, h3⟩
    · rw [hl] at h2; exact absurd h2 (by simp)
    · rw [hl] at h3
      have ea : a = nx n g (608 - e) e := (List.cons.inj h3).1
      have el := (List.cons.inj h3).2
      rw [← ea] at h1 h2 el ⊢
      obtain ⟨sb, hcb, ii, env, hi4⟩ := x.cur hn
      have hp := phi_lt hcb hn
      have hcb2 : cb n ≤ 27648 := by unfold cb; split <;> omega
      have ha := hL a (List.mem_cons_self)
      have ok := al_ok (g := g) hn a ha
      have K : ∀ M' A' l4, SJ M' n (l.foldl (stq n T i) (stq n T i S a)) T g i y A' → FRj M0 M' → a_Ex 226 215 [some (.ref 170), some (.int (N g)), some (.int (N i)), some (.int (N (phi n (S.1 0 i)))), some (.int l4)] [] (a_hp sc fd M') Q := K
      have r := x.1
      refine x_iload i_226_172 rfl ?_
      refine n_iconst 4294967295 i_226_174 rfl ?_
      refine n_ieqU (by omega) (by omega) i_226_175 ⟨fun g1 => ?_, fun g1 => ?_⟩
      · exact absurd g1 (by omega)
      · refine x_aload_n i_226_178 rfl ?_
        refine x_iload_n i_226_179 rfl ?_
        refine x_vh (r := []) (lj := [some _, some _, none, none, none, none]) i_226_180 w_231 ob_170 [_] rfl rfl (Nat.le_of_ble_eq_true rfl) (Nat.le_of_ble_eq_true rfl) rfl ?_
        refine c_231 hn hcb r x.2.1 (fun M1 C1 r1 f1 e1 => rt_n ?_)
        have t1 : TM n T C1 := std_tm.es e1.symm
        have nr : NR n C1 := (ii.2.2.1.es e1.symm (by omega)).nr
        have es := act_es (by omega) (by omega) e1 a
        refine x_aload_n i_226_183 rfl ?_
        refine x_iload i_226_184 rfl ?_
        refine x_vh (r := []) (lj := [some _, some _, none, none, none]) i_226_186 w_232 ob_170 [_] rfl rfl (Nat.le_of_ble_eq_true rfl) (Nat.le_of_ble_eq_true rfl) rfl ?_
        refine c_232 r1 ok (fun M2 C2 r2 f2 e2 hq => rt_i ?_)
        have ar := act_ref r1.1 nr a
        rw [← ar.1, es.1] at hq ⊢
        have e3 : ES n C2 (act n (std n T (S.1 0 i)) a).2 := (e2.trans ar.2.es.symm).trans es.2
        refine n_zltU hq i_226_189 ⟨fun g2 => ?_, fun g2 => ?_⟩
        · have no : ¬ (act n (std n T (S.1 0 i)) a).1 < 2147483648 := by omega
          have e9 : stq n T i S a = S := stq_no no
          have t2 : TM n T C2 := by rw [act_rf ok (by omega) ii.1.2.2.2 no] at e3; exact std_tm.es e3.symm
          have x3 : SJ M2 n (stq n T i S a) T g i y C2 := by rw [e9]; exact (x.hall r1 t1 f1).hall r2 t2 f2
          have e0 : (stq n T i S a).1 0 i = S.1 0 i := by rw [e9]
          have fr3 : FRj M0 M2 := fr.trans (f1.j.trans f2.j)
          refine x_aload_n i_226_203 rfl ?_
          refine x_iload i_226_204 rfl ?_
          refine x_iload_n i_226_206 rfl ?_
          refine x_vh (r := []) (lj := [some _, some _, some _, none, none, none, none]) i_226_207 w_230 ob_170 [_, _] rfl rfl (Nat.le_of_ble_eq_true rfl) (Nat.le_of_ble_eq_true rfl) rfl ?_
          refine c_230 (y := a) x3.1 hg (by omega) (by omega) (rt_i ?_)
          refine x_istore i_226_210 rfl rfl ?_
          refine x_goto i_226_212 ?_
          have ih := ih (e := a + 1) (S := stq n T i S a) (by omega) (by omega) el.symm (fun b hb => hL b (List.mem_cons_of_mem _ hb)) x3 fr3 (by rw [e0]; exact K)
          rw [e0] at ih
          exact ih
        · have acc : (act n (std n T (S.1 0 i)) a).1 < 2147483648 := by omega
          have ji := (act_inv ii ok acc).1
          have t2 : TM n T C2 := ji.2.2.2.es e3.symm
          have v2 : VS n C2 := ji.1.es e3.symm
          have hv := e3.vlq hn
          have x2 := (x.hall r1 t1 f1).hall r2 t2 f2
          refine x_aload_n i_226_192 rfl ?_
          refine x_aload_n i_226_193 rfl ?_
          refine x_vh (r := [_]) (lj := [some _, none, none]) i_226_194 w_227 ob_170 [] rfl rfl (Nat.le_of_ble_eq_true rfl) (Nat.le_of_ble_eq_true rfl) rfl ?_
          refine c_227 r2 v2 (rt_i ?_)
          rw [hv, ← env]
          refine x_iload_n i_226_197 rfl ?_
          refine x_iload i_226_198 rfl ?_
          refine x_vh (r := []) (lj := [some _, some _, some _, some _]) i_226_200 w_228 ob_170 [_, _, _] rfl rfl (Nat.le_of_ble_eq_true rfl) (Nat.le_of_ble_eq_true rfl) rfl ?_
          obtain ⟨r2, t2, sr2, mf2, w2, ⟨D, v⟩, hi2, hy⟩ := x2
          have hz := iv_sz v
          have hcv : vl n (act n (std n T (S.1 0 i)) a).2 < cb n := vl_lt ji.1
          obtain ⟨j1, j2, j3⟩ := iv_st (al_ok hn) w2 (by omega) v hi2 ha
          have es3 : stq n T i S a = adE S (vl n (act n (std n T (S.1 0 i)) a).2) i a := by unfold stq; rw [if_pos acc]
          refine c_228 (a := a) (b := a) hn sb sr2 hcv (Or.inr hi2) (fun _ => rfl) (fun M3 sr3 f3 => rt_n ?_)
          rw [← es3] at sr3
          have e0 : ∀ w j, j < S.2 → (stq n T i S a).1 w j = S.1 w j := fun w j hj => by
            rw [es3]
            unfold adE
            split
            · rfl
            · exact exE_o (by omega)
          have x3 : SJ M3 n (stq n T i S a) T g i y C2 := ⟨r2.same (fun k hk => f3 _ _ (by omega) (by omega)) (fun k hk => f3 _ _ (by omega) (by omega)), t2, sr3, fun m hm => ((f3 _ _ (by omega) (by omega)).trans (mf2 m hm)).trans (by rw [rfr_c y (fun w j hj => e0 w j (by omega))]), w2, ⟨_, j1⟩, by omega, hy⟩
          have fr3 : FRj M0 M3 := fr.trans (f1.j.trans (f2.j.trans (fun q k a b c => f3 q k (by omega) (by omega))))
          have e0 := e0 0 i hi2
          rw [env]
          refine x_aload_n i_226_203 rfl ?_
          refine x_iload i_226_204 rfl ?_
          refine x_iload_n i_226_206 rfl ?_
          refine x_vh (r := []) (lj := [some _, some _, some _, none, none, none, none]) i_226_207 w_230 ob_170 [_, _] rfl rfl (Nat.le_of_ble_eq_true rfl) (Nat.le_of_ble_eq_true rfl) rfl ?_
          refine c_230 (y := a) x3.1 hg (by omega) (by omega) (rt_i ?_)
          refine x_istore i_226_210 rfl rfl ?_
          refine x_goto i_226_212 ?_
          have ih := ih (e := a + 1) (S := stq n T i S a) (by omega) (by omega) el.symm (fun b hb => hL b (List.mem_cons_of_mem _ hb)) x3 fr3 (by rw [e0]; exact K)
          rw [e0] at ih
          exact ih
end RSE
