/-! the class's search: the whole loop, the store of mixes -/
section LOO
variable {sc : a_Sc} {fd : Nat} {M M0 : a_Mm} {n n0 g o i k key : Nat} {T A B : HA} {S : HA × Nat} {Q : Option Value → a_Hp → Prop}
theorem c_29_54 (mb : MB o) (hg : g ≤ 1) (hn : n = 2 ∨ n = 3) (w : WN n T) : ∀ d j {S : HA × Nat} {M : a_Mm} {A : HA} {i : Nat}, d + j = 4096 → RC M 156 n A → TM n T A → SC M S i → N (i + 1) = N j → MXS M o n S.1 S.2 → IV n T (AL n g) S j (fun _ => False) → FRh o M0 M → (∀ M' A' l4, RC M' 156 n A' → MXS M' o n (bfs n T g d j S).1 (bfs n T g d j S).2 → FRh o M0 M' → a_Ex 29 111 [some (.ref 0), some (.int (N g)), some (.ref o), some (.int (N key)), some (.int l4)] [] (a_hp sc o M') Q) → a_Ex 29 54 [some (.ref 0), some (.int (N g)), some (.ref o), some (.int (N key)), some (.int (N j))] [] (a_hp sc o M) Q := by
  have hlt := mb.lt
  have ho : 148 ≤ o ∧ o + 3 < 156 := by rcases mb with rfl | rfl <;> omega
  intro d
  induction d with
  | zero =>
    intro j S M A i hd r t s he mx v fr K
    have := iv_sz v
    have := v.1.2.1
    omega
  | succ d ih =>
    intro j S M A i hd r t s he mx v fr K
    have hz : S.2 ≤ 4000 := by have := iv_sz v; omega
    refine x_iload i_29_54 rfl ?_
    refine n_sipush 4096 i_29_56 rfl ?_
    refine x_igeN (by omega) (by omega) i_29_59 ⟨fun g1 => ?_, fun g1 => ?_⟩
    · exact absurd g1 (by omega)
    · refine x_aload_n i_29_62 rfl ?_
      refine x_gr i_29_63 ob_0 gr_0_9.1 gr_0_9.2 (rt_0_9 _) ?_
      refine x_vh (r := []) (lj := [some _]) i_29_66 w_131 ob_147 [] rfl rfl (Nat.le_of_ble_eq_true rfl) (Nat.le_of_ble_eq_true rfl) rfl ?_
      refine c_131 (k := j) hz s he (by omega) (fun M1 s1 f1 => rt_i ?_)
      have r1 : RC M1 156 n A := r.same (fun q k h1 h2 => f1 q k (by omega))
      have fr1 : FRh o M0 M1 := fr.trans (fun q k h1 h2 h3 h4 => f1 q k (by omega))
      have mx1 : MXS M1 o n S.1 S.2 := by
        obtain ⟨m1, m2, m3, m4, m5, m6, m7⟩ := mx
        have f0 : ∀ q k, q < 156 → ¬ q = 147 → M1 q k = M q k := fun q k _ h => f1 q k (by omega)
        exact ⟨fun m hm => (f0 _ _ (by omega) (by omega)).trans (m1 m hm), (f0 _ _ (by omega) (by omega)).trans m2, (f0 _ _ (by omega) (by omega)).trans m3, (f0 _ _ (by omega) (by omega)).trans m4, (f0 _ _ (by omega) (by omega)).trans m5, fun x hx => (f0 _ _ (by omega) (by omega)).trans (m6 x hx), fun u h1 h2 i hi => (f0 _ _ (by omega) (by omega)).trans (m7 u h1 h2 i hi)⟩
      by_cases c : j < S.2
      · rw [if_pos c]
        refine x_ifF i_29_69 (by decide +kernel) ?_
        have x : SX M1 o n g T S j A := ⟨r1, t, s1, mx1, w, ⟨_, v⟩, c, hn⟩
        obtain ⟨v1, v2⟩ := iv_run (al_ok hn) w (AL n g) S (fun _ => False) (fun _ h => h) c v
        have vn := iv_next v1 (by omega)
        have eb : bfs n T g (d + 1) j S = bfs n T g d (j + 1) ((AL n g).foldl (stq n T j) S) := by rw [show bfs n T g (d + 1) j S = if j < S.2 then bfs n T g d (j + 1) ((AL n g).foldl (stq n T j) S) else S from rfl, if_pos c]
        rw [eb] at K
        have ef := congrArg (fun l => List.foldl (stq n T j) S l) (al_split (g := g) hn)
        rw [List.foldl_append, List.foldl_append, List.foldl_append] at ef
        refine x_aload_n i_29_72 rfl ?_
        refine x_gr i_29_73 ob_0 gr_0_9.1 gr_0_9.2 (rt_0_9 _) ?_
        refine x_vh (r := []) (lj := [some _, none, none, none]) i_29_76 w_132 ob_147 [] rfl rfl (Nat.le_of_ble_eq_true rfl) (Nat.le_of_ble_eq_true rfl) rfl ?_
        refine c_132 mb x (fun M2 A2 x2 f2 => rt_n ?_)
        refine x_aload_n i_29_79 rfl ?_
        refine x_gr i_29_80 ob_0 gr_0_9.1 gr_0_9.2 (rt_0_9 _) ?_
        refine x_vh (r := []) (lj := [some _, none]) i_29_83 w_135 ob_147 [] rfl rfl (Nat.le_of_ble_eq_true rfl) (Nat.le_of_ble_eq_true rfl) rfl ?_
        refine c_135 mb x2 (fun M3 A3 x3 f3 => rt_n ?_)
        refine x_aload_n i_29_86 rfl ?_
        refine x_gr i_29_87 ob_0 gr_0_9.1 gr_0_9.2 (rt_0_9 _) ?_
        refine x_vh (r := []) (lj := [some _, none, none, none]) i_29_90 w_136 ob_147 [] rfl rfl (Nat.le_of_ble_eq_true rfl) (Nat.le_of_ble_eq_true rfl) rfl ?_
        refine c_136 mb x3 (fun M4 A4 x4 f4 => rt_n ?_)
        refine x_iload_n i_29_93 rfl ?_
        refine n_iconst 1 i_29_94 rfl ?_
        refine n_ineU (by omega) (by omega) i_29_95 ⟨fun g1 => ?_, fun g1 => ?_⟩
        · rw [if_neg g1, List.foldl_nil] at ef
          rw [ef] at vn K
          have x5 := x4
          have f5 : FRh o M4 M4 := fun _ _ _ _ _ _ => rfl
          refine n_iinc 1 i_29_105 rfl rfl rfl rfl ?_
          refine x_goto i_29_108 ?_
          obtain ⟨a1, a2, a3, a4, -⟩ := x5
          exact ih (j + 1) (by omega) a1 a2 a3 rfl a4 vn (fr1.trans (f2.trans (f3.trans (f4.trans f5)))) K
        · rw [if_pos g1] at ef
          rw [ef] at vn K
          refine x_aload_n i_29_98 rfl ?_
          refine x_gr i_29_99 ob_0 gr_0_9.1 gr_0_9.2 (rt_0_9 _) ?_
          refine x_vh (r := []) (lj := [some _, none, none]) i_29_102 w_137 ob_147 [] rfl rfl (Nat.le_of_ble_eq_true rfl) (Nat.le_of_ble_eq_true rfl) rfl ?_
          refine c_137 mb g1 x4 (fun M5 A5 x5 f5 => rt_n ?_)
          refine n_iinc 1 i_29_105 rfl rfl rfl rfl ?_
          refine x_goto i_29_108 ?_
          obtain ⟨a1, a2, a3, a4, -⟩ := x5
          exact ih (j + 1) (by omega) a1 a2 a3 rfl a4 vn (fr1.trans (f2.trans (f3.trans (f4.trans f5)))) K
      · rw [if_neg c]
        refine x_ifT i_29_69 (by decide +kernel) ?_
        have eb : bfs n T g (d + 1) j S = S := by rw [show bfs n T g (d + 1) j S = if j < S.2 then bfs n T g d (j + 1) ((AL n g).foldl (stq n T j) S) else S from rfl, if_neg c]
        rw [eb] at K
        exact K M1 A _ r1 mx1 fr1
def mo (g : Nat) : Nat := if g = 1 then 152 else 148
def FRm (o : Nat) (M M' : a_Mm) : Prop := ∀ q k, ¬ (156 ≤ q ∧ q ≤ 169) → ¬ (q = 147 ∧ (k = 6 ∨ k = 7)) → ¬ (o ≤ q ∧ q ≤ o + 3) → M' q k = M q k
theorem c_29_22 (mb : MB o) (hg : g ≤ 1) (hn : n = 2 ∨ n = 3) (r : RC M 1 n A) (r0 : RC M 156 n0 B) (mc : MCI M o g) (K : ∀ M' fd', MXS M' o n (BF n A g).1 (BF n A g).2 → MCI M' o g → (∃ m B', RC M' 156 m B') → FRm o M M' → Q (some (.ref o)) (a_hp sc fd' M')) (hf : Q = Q) : a_Ex 29 22 [some (.ref 0), some (.int (N g)), none, none, none] [.ref o] (a_hp sc fd M) Q := by
  have hlt := mb.lt
  have ho : 148 ≤ o ∧ o + 3 < 156 := by rcases mb with rfl | rfl <;> omega
  have hk := s92_lt hn r.w
  obtain ⟨v, hv, hv2, hmx⟩ : ∃ v, v < 4294967296 ∧ M o 0 = N v ∧ (v = s_92 n A → MXS M o n (BF n A g).1 (BF n A g).2) := by
    rcases mc with q | ⟨m, U, hm, wU, q, mx⟩
    · exact ⟨_, by omega, q, fun h => absurd h (by omega)⟩
    · have := s92_lt hm wU
      refine ⟨_, by omega, q, fun h => ?_⟩
      obtain ⟨e, tm⟩ := s92_tm hn hm r.w wU h.symm
      subst e
      rw [BF_tm hn tm]
      exact mx
  refine x_astore_n i_29_22 rfl rfl ?_
  refine x_aload_n i_29_23 rfl ?_
  refine x_gr i_29_24 ob_0 gr_0_0.1 gr_0_0.2 (rt_0_0 _) ?_
  refine x_vh (r := []) (lj := [some _, none, none]) i_29_27 w_92 hb1.ob [] rfl rfl (Nat.le_of_ble_eq_true rfl) (Nat.le_of_ble_eq_true rfl) rfl ?_
  refine c_92 hb1 r (rt_i ?_)
  refine x_istore_n i_29_30 rfl rfl ?_
  refine x_aload_n i_29_31 rfl ?_
  refine n_gi (x := v) i_29_32 mb.ob gf_7_0.1 gf_7_0.2 hv2 ?_
  refine x_iload_n i_29_35 rfl ?_
  refine n_ieqU (by omega) (by omega) i_29_36 ⟨fun g1 => ?_, fun g1 => ?_⟩
  · refine x_aload_n i_29_116 rfl ?_
    refine x_aret i_29_117 rn_29 rfl ?_
    exact K M fd (hmx g1) mc ⟨_, _, r0⟩ (fun _ _ _ _ _ => rfl)
  · refine x_aload_n i_29_39 rfl ?_
    refine x_gr i_29_40 ob_0 gr_0_9.1 gr_0_9.2 (rt_0_9 _) ?_
    refine x_aload_n i_29_43 rfl ?_
    refine x_gr i_29_44 ob_0 gr_0_0.1 gr_0_0.2 (rt_0_0 _) ?_
    refine x_aload_n i_29_47 rfl ?_
    refine x_vh (r := []) (lj := [some _, some _, some _]) i_29_48 w_128 ob_147 [_, _] rfl rfl (Nat.le_of_ble_eq_true rfl) (Nat.le_of_ble_eq_true rfl) rfl ?_
    refine c_128 mb hn r r0 (fun M1 A1 r1 t1 s1 m1 f1 z1 => rt_n ?_)
    refine n_iconst 0 i_29_51 rfl ?_
    refine x_istore i_29_52 rfl rfl ?_
    refine c_29_54 (M0 := M) mb hg hn r.w 4096 0 rfl r1 t1 s1 (by rw [← N_mod]) m1 (iv_0 hn r.w) f1 (fun M2 A2 l4 r2 m2 f2 => ?_)
    refine x_aload_n i_29_111 rfl ?_
    refine x_iload_n i_29_112 rfl ?_
    refine x_pi i_29_113 mb.ob pf_7_0.1 pf_7_0.2 ?_
    have h1 : ∀ q j, ¬ (q = o ∧ j = 0) → a_up M2 o 0 (N (s_92 n A)) q j = M2 q j := fun q j h => by rw [a_up_def, if_neg h]
    have h2 : a_up M2 o 0 (N (s_92 n A)) o 0 = N (s_92 n A) := by rw [a_up_def, if_pos ⟨rfl, rfl⟩]
    generalize a_up M2 o 0 (N (s_92 n A)) = M3 at h1 h2 ⊢
    have mx3 : MXS M3 o n (BF n A g).1 (BF n A g).2 := by
      obtain ⟨m1, m2, m3, m4, m5, m6, m7⟩ := m2
      exact ⟨fun m hm => (h1 _ _ (by omega)).trans (m1 m hm), (h1 _ _ (by omega)).trans m2, (h1 _ _ (by omega)).trans m3, (h1 _ _ (by omega)).trans m4, (h1 _ _ (by omega)).trans m5, fun x hx => (h1 _ _ (by omega)).trans (m6 x hx), fun u q1 q2 i hi => (h1 _ _ (by omega)).trans (m7 u q1 q2 i hi)⟩
    refine x_aload_n i_29_116 rfl ?_
    refine x_aret i_29_117 rn_29 rfl ?_
    exact K M3 o mx3 (Or.inr ⟨n, A, hn, r.w, h2, mx3⟩) ⟨_, _, r2.same (fun q j q1 q2 => h1 q j (by omega))⟩ (fun q j q1 q2 q3 => (h1 q j (by omega)).trans (f2 q j q1 q2 (by omega) (by omega)))
theorem c_29 (hg : g ≤ 1) (hn : n = 2 ∨ n = 3) (r : RC M 1 n A) (r0 : RC M 156 n0 B) (mc : MCI M (mo g) g) (K : ∀ M' fd', MXS M' (mo g) n (BF n A g).1 (BF n A g).2 → MCI M' (mo g) g → (∃ m B', RC M' 156 m B') → FRm (mo g) M M' → Q (some (.ref (mo g))) (a_hp sc fd' M')) : a_Ex 29 0 [some (.ref 0), some (.int (N g)), none, none, none] [] (a_hp sc fd M) Q := by
  by_cases c : g = 1
  · subst c
    refine x_iload_n i_29_0 rfl ?_
    refine n_iconst 1 i_29_1 rfl ?_
    refine x_icmpF i_29_2 (by decide +kernel) ?_
    refine x_aload_n i_29_5 rfl ?_
    refine x_gr i_29_6 ob_0 gr_0_9.1 gr_0_9.2 (rt_0_9 _) ?_
    refine x_gr i_29_9 ob_147 gr_6_9.1 gr_6_9.2 (rt_147_9 _) ?_
    refine x_goto i_29_12 ?_
    exact c_29_22 (o := 152) (Or.inr rfl) hg hn r r0 mc K rfl
  · have e : g = 0 := by omega
    subst e
    refine x_iload_n i_29_0 rfl ?_
    refine n_iconst 1 i_29_1 rfl ?_
    refine x_icmpT i_29_2 (by decide +kernel) ?_
    refine x_aload_n i_29_15 rfl ?_
    refine x_gr i_29_16 ob_0 gr_0_9.1 gr_0_9.2 (rt_0_9 _) ?_
    refine x_gr i_29_19 ob_147 gr_6_8.1 gr_6_8.2 (rt_147_8 _) ?_
    exact c_29_22 (o := 148) (Or.inl rfl) hg hn r r0 mc K rfl
end LOO
