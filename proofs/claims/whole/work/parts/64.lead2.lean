/-! preparing, committing -/
def Pp (C : HA) (s : Nat) : Bool := decide (C 0 s = 1)
def mde (n : Nat) (B0 C : HA) : Nat := bs n (fun s => decide (C 0 s = 2) && !decide (B0 0 s = 2))
def fp (n : Nat) (B0 C : HA) : Nat × HA := if N (C 9 9) = 0 then (if C 6 1 = 0 then (2, a_up C 6 2 2) else (if s_160 n C (mde n B0 C) < C 6 3 then (3, a_up C 6 2 3) else (2, a_up C 6 2 2))) else (C 6 2, C)
theorem s176_rl {n : Nat} (h5 : n ≤ 5) (B0 : HA) : ∀ d (B : HA) x t, n - t < d → 1 ≤ t → t ≤ n → x = mde t B0 B → (∀ s, t ≤ s → s < n → B 0 s = B0 0 s) → s_176_58 n d B x t = fp n B0 (rl n Pp (fun _ _ => 2) (ev n) 0 d B t) := by
  intro d
  induction d with
  | zero => intro B x t h; exact absurd h (Nat.not_lt_zero _)
  | succ d ih =>
    intro B x t h ht htn hx hr
    unfold s_176_58 rl
    by_cases c : n ≤ t
    · rw [if_pos c, if_pos c]
      have e : t = n := by omega
      subst e
      have : mde t B0 (s_170 t B 0) = x := by
        rw [hx]
        exact bs_congr (fun s _ => by rw [s170_o h5 B (by omega) (by omega) (by omega) (by omega)])
      unfold fp
      rw [this]
    · rw [if_neg c, if_neg c, if_neg (show ¬ t = 0 by omega), if_pos (show (ev n).testBit t = true by rw [ev_t]; exact decide_eq_true (by omega))]
      have o0 : ∀ s, (s_169 n B 0 t).2 0 s = B 0 s := fun s => s169_o h5 B (by omega) (by omega) (by omega) (by omega)
      have i0 : ∀ s, t + 1 ≤ s → s < n → (s_169 n B 0 t).2 0 s = B0 0 s := fun s h1 h2 => by rw [o0]; exact hr s (by omega) h2
      have x0 : x = mde (t + 1) B0 (s_169 n B 0 t).2 := by
        unfold mde
        rw [bs_s, o0, hr t (Nat.le_refl _) (by omega), if_neg (by cases decide (B0 0 t = 2) <;> simp), Nat.or_zero, hx]
        exact bs_congr (fun s _ => by rw [o0])
      by_cases c1 : (s_169 n B 0 t).1 = 0
      · rw [if_pos c1, if_pos c1]
        exact ih _ _ _ (by omega) (by omega) (by omega) x0 i0
      · rw [if_neg c1, if_neg c1]
        by_cases c2 : (s_169 n B 0 t).2 0 t = 1
        · rw [if_pos c2, if_pos (show Pp (s_169 n B 0 t).2 t = true from decide_eq_true c2)]
          refine ih _ _ _ (by omega) (by omega) (by omega) ?_ (fun s h1 h2 => ?_)
          · have hb : B0 0 t = 1 := by rw [← hr t (Nat.le_refl _) (by omega), ← o0]; exact c2
            unfold mde
            rw [bs_s, bec_s, hb, if_pos (by decide), hx]
            congr 1
            exact bs_congr (fun s hs => by rw [bec_n (by omega), o0])
          · rw [bec_n (by omega)]; exact i0 s h1 h2
        · rw [if_neg c2, if_neg (show ¬ Pp (s_169 n B 0 t).2 t = true by unfold Pp; simp [c2])]
          exact ih _ _ _ (by omega) (by omega) (by omega) x0 i0
theorem tb4' : ∀ v, v ≤ 5 → ((4 : Nat).testBit v = decide (v = 2)) := by decide
theorem x64 {n k : Nat} {A B : HA} (e : EQ A B) (w : WN n A) : AE (s_64 n A k) (s_176 n B k) := by
  have h5 := w.1.2
  have hn := w.1.1
  unfold s_64 s_176
  rw [← e.f (k := 2) (by omega), ← e.a (w := 1) (by omega) 0, ← e.a (w := 0) (by omega) 0]
  by_cases c1 : isK k = 0
  · rw [if_pos c1, if_pos c1]; exact ⟨rfl, e⟩
  rw [if_neg c1, if_neg c1]
  by_cases c2n : ¬ A 6 2 = 1
  · rw [if_neg c2n, if_neg c2n]; exact ⟨rfl, e⟩
  have c2 : A 6 2 = 1 := by omega
  rw [if_pos c2, if_pos c2]
  by_cases c3n : ¬ A 1 0 = 1
  · rw [if_neg c3n, if_neg c3n]; exact ⟨rfl, e⟩
  have c3 : A 1 0 = 1 := by omega
  rw [if_pos c3, if_pos c3]
  by_cases c4n : ¬ A 0 0 = 1
  · rw [if_neg c4n, if_neg c4n]; exact ⟨rfl, e⟩
  have c4 : A 0 0 = 1 := by omega
  rw [if_pos c4, if_pos c4]
  have hk := isK_t c1
  obtain ⟨k7, k8, k9, kd⟩ := s166_9 (n := n) (B := B) hk
  have eB : EQ A (s_166 n B k) := e.s166
  have eA := eB.st k
  have wB : ∀ s, s < 5 → (s_166 n B k) 0 s ≤ 5 := fun s hs => by rw [← eB.a (by omega)]; exact w.b0 hs
  have es : s_62 n (a_up (a_up A 6 12 k) 6 13 0) 0 2 2 = bec (a_up (a_up A 6 12 k) 6 13 0) 0 2 := by
    rw [s62_bec, if_pos (by show Nat.testBit 2 (A 0 0) = true; rw [c4]; rfl), tv_n (by omega)]
  obtain ⟨⟨q1, q2⟩, q3⟩ := part_main (P := Pp) (v := fun _ _ => 2) (set := ev n) (fr := 0) (to := 2) (m := 2) h5 (A := a_up (a_up A 6 12 k) 6 13 0) (B := bec (s_166 n B k) 0 2) (by rw [es]; exact eA.becc 0 2)
    (by rw [bec_o (by omega) (by omega) (by omega)]; exact k9) (by rw [bec_o (by omega) (by omega) (by omega)]; exact k7.symm) (by rw [bec_o (by omega) (by omega) (by omega)]; exact k8) (by rw [bec_o (by omega) (by omega) (by omega), k7]; omega)
    (by rw [bec_o (by omega) (by omega) (by omega), bec_o (by omega) (by omega) (by omega)]; exact kd)
    (fun C s hs hf hset hc h3 => by
      have hw : C 0 s ≤ 5 := by rw [hc, bec_n hf]; exact wB s (by omega)
      exact ⟨by unfold Pp; rw [tb2' _ hw], fun _ => (tv_n (by omega)).symm⟩)
  have hx : s_176_58 n 6 (bec (s_166 n B k) 0 2) 1 1 = fp n A (rl n Pp (fun _ _ => 2) (ev n) 0 6 (bec (s_166 n B k) 0 2) 0) := by
    rw [rl_1 _ hn h5]
    refine s176_rl h5 A 6 _ 1 1 (by omega) (by omega) (by omega) ?_ (fun s h1 h2 => ?_)
    · unfold mde
      rw [bs_s, bec_s, c4, if_pos (by decide)]
      simp [bs]
    · rw [bec_n (by omega), ← eB.a (by omega)]
  rw [hx]
  have r0 := s61_r0 (n := n) (fr := 0) (set := ev n) (to := 2) (m := 2) (by omega) (a_up (a_up A 6 12 k) 6 13 0) (fun s hs => w.b0 hs)
  generalize s_61 n (a_up (a_up A 6 12 k) 6 13 0) 0 (ev n) 2 2 = p at q1 q2 q3 r0 ⊢
  generalize rl n Pp (fun _ _ => 2) (ev n) 0 6 (bec (s_166 n B k) 0 2) 0 = C at q1 q2 ⊢
  unfold fp
  rcases q2 with ⟨p1, p2⟩ | ⟨p1, p2, p3, p4, p5, p6, p7⟩
  · rw [if_neg (show ¬ p.1 = 0 by omega), p2, if_neg N10]
    exact ⟨q1.f (by omega), q1⟩
  · rw [if_pos p1, p2, if_pos N00, q1.f (k := 1) (by omega), q1.f (k := 3) (by omega)]
    have hm : s_65 n p.2 4 &&& (s_65 n A 4 ^^^ 4294967295) = mde n A C := by
      apply Nat.eq_of_testBit_eq
      intro t
      unfold mde
      rw [Nat.testBit_and, Nat.testBit_xor, s65_t h5, s65_t h5, bs_test, show (4294967295 : Nat) = 2 ^ 32 - 1 from rfl, Nat.testBit_two_pow_sub_one]
      by_cases ct : t < n
      · rw [tb4' _ (r0 t (by omega)), tb4' _ (w.b0 (by omega)), q1.a (by omega)]
        have : t < 32 := by omega
        simp [ct, this]
      · simp [ct]
    rw [hm, ← x49 q1]
    by_cases c6 : C 6 1 = 0
    · rw [if_pos c6, if_pos c6]; exact ⟨rfl, q1.up 6 2 2⟩
    · rw [if_neg c6, if_neg c6]
      by_cases c7 : s_160 n C (mde n A C) < C 6 3
      · rw [if_pos c7, if_pos c7]; exact ⟨rfl, q1.up 6 2 3⟩
      · rw [if_neg c7, if_neg c7]; exact ⟨rfl, q1.up 6 2 2⟩
def Pc (C : HA) (s : Nat) : Bool := !decide (C 0 s = 5)
theorem s178_rl {n : Nat} : ∀ d (B : HA) t, n - t < d → 1 ≤ t → s_178_56 n d B t = (pop (s_158 n (a_up (rl n Pc (fun _ _ => 4) (ev n) 0 d B t) 6 2 3) 0 4), a_up (rl n Pc (fun _ _ => 4) (ev n) 0 d B t) 6 2 3) := by
  intro d
  induction d with
  | zero => intro B t h; exact absurd h (Nat.not_lt_zero _)
  | succ d ih =>
    intro B t h ht
    unfold s_178_56 rl
    by_cases c : n ≤ t
    · rw [if_pos c, if_pos c]
    · rw [if_neg c, if_neg c, if_neg (show ¬ t = 0 by omega), if_pos (show (ev n).testBit t = true by rw [ev_t]; exact decide_eq_true (by omega)), ih _ _ (by omega) (by omega), ih _ _ (by omega) (by omega)]
      by_cases c1 : (s_169 n B 0 t).1 = 0
      · rw [if_pos c1, if_pos c1]
      · rw [if_neg c1, if_neg c1]
        by_cases c2 : (s_169 n B 0 t).2 0 t = 5
        · rw [if_pos c2, if_neg (show ¬ Pc (s_169 n B 0 t).2 t = true by unfold Pc; simp [c2])]
        · rw [if_neg c2, if_pos (show Pc (s_169 n B 0 t).2 t = true by unfold Pc; simp [c2])]
theorem tb16' : ∀ v, v ≤ 5 → ((16 : Nat).testBit v = decide (v = 4)) := by decide
theorem tb32' : ∀ v, v ≤ 5 → ((32 : Nat).testBit v = decide (v = 5)) := by decide
theorem s65_16 {n : Nat} (h5 : n ≤ 5) {A B : HA} (w : ∀ s, s < 5 → A 0 s ≤ 5) (e : EQ A B) : s_65 n A 16 = s_158 n B 0 4 := by
  rw [s65_bs A 16 h5, s158_bs B 0 4 h5]
  exact bs_congr (fun s hs => by rw [tb16' _ (w s (by omega)), e.a (by omega)])
theorem s65_32 {n : Nat} (h5 : n ≤ 5) {A B : HA} (w : ∀ s, s < 5 → A 0 s ≤ 5) (e : EQ A B) : s_65 n A 32 = s_158 n B 0 5 := by
  rw [s65_bs A 32 h5, s158_bs B 0 5 h5]
  exact bs_congr (fun s hs => by rw [tb32' _ (w s (by omega)), e.a (by omega)])
theorem x66 {n k : Nat} {A B : HA} (e : EQ A B) (w : WN n A) : AE (s_66 n A k) (s_178 n B k) := by
  have h5 := w.1.2
  have hn := w.1.1
  unfold s_66 s_178
  rw [← e.f (k := 2) (by omega), ← e.a (w := 1) (by omega) 0, ← e.a (w := 0) (by omega) 0]
  by_cases c1 : isK k = 0
  · rw [if_pos c1, if_pos c1]; exact ⟨rfl, e⟩
  rw [if_neg c1, if_neg c1]
  by_cases c2n : ¬ A 6 2 = 2
  · rw [if_neg c2n, if_neg c2n]; exact ⟨rfl, e⟩
  have c2 : A 6 2 = 2 := by omega
  rw [if_pos c2, if_pos c2]
  by_cases c3n : ¬ A 1 0 = 1
  · rw [if_neg c3n, if_neg c3n]; exact ⟨rfl, e⟩
  have c3 : A 1 0 = 1 := by omega
  rw [if_pos c3, if_pos c3]
  by_cases c4n : ¬ A 0 0 = 2
  · rw [if_neg c4n, if_neg c4n]; exact ⟨rfl, e⟩
  have c4 : A 0 0 = 2 := by omega
  rw [if_pos c4, if_pos c4]
  have hk := isK_t c1
  obtain ⟨k7, k8, k9, kd⟩ := s166_9 (n := n) (B := B) hk
  have eB : EQ A (s_166 n B k) := e.s166
  have eA := eB.st k
  have wB : ∀ s, s < 5 → (s_166 n B k) 0 s ≤ 5 := fun s hs => by rw [← eB.a (by omega)]; exact w.b0 hs
  have es : s_62 n (a_up (a_up A 6 12 k) 6 13 0) 0 4 31 = bec (a_up (a_up A 6 12 k) 6 13 0) 0 4 := by
    rw [s62_bec, if_pos (by show Nat.testBit 31 (A 0 0) = true; rw [c4]; rfl), tv_n (by omega)]
  obtain ⟨⟨q1, -⟩, -⟩ := part_main (P := Pc) (v := fun _ _ => 4) (set := ev n) (fr := 0) (to := 4) (m := 31) h5 (A := a_up (a_up A 6 12 k) 6 13 0) (B := bec (s_166 n B k) 0 4) (by rw [es]; exact eA.becc 0 4)
    (by rw [bec_o (by omega) (by omega) (by omega)]; exact k9) (by rw [bec_o (by omega) (by omega) (by omega)]; exact k7.symm) (by rw [bec_o (by omega) (by omega) (by omega)]; exact k8) (by rw [bec_o (by omega) (by omega) (by omega), k7]; omega)
    (by rw [bec_o (by omega) (by omega) (by omega), bec_o (by omega) (by omega) (by omega)]; exact kd)
    (fun C s hs hf hset hc h3 => by
      have hw : C 0 s ≤ 5 := by rw [hc, bec_n hf]; exact wB s (by omega)
      exact ⟨by unfold Pc; rw [tb31' _ hw], fun _ => (tv_n (by omega)).symm⟩)
  have r0 := s61_r0 (n := n) (fr := 0) (set := ev n) (to := 4) (m := 31) (by omega) (a_up (a_up A 6 12 k) 6 13 0) (fun s hs => w.b0 hs)
  rw [s178_rl 6 _ 1 (by omega) (by omega), ← rl_1 _ hn h5]
  refine ⟨?_, q1.up 6 2 3⟩
  show pop _ = pop _
  rw [s65_16 h5 (fun s hs => by rw [a_up_o (by omega)]; exact r0 s hs) (q1.up 6 2 3)]
