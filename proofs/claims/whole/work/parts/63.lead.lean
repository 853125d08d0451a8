/-! asking, preparing, committing: class and reference do the same -/
theorem s61_r0 {n fr set to m : Nat} (ht : to ≤ 5) : ∀ (A : HA), (∀ s, s < 5 → A 0 s ≤ 5) → ∀ s, s < 5 → (s_61 n A fr set to m).2 0 s ≤ 5 := by
  have t5 : ∀ (A : HA) s, tv A s to ≤ 5 := fun A s => by unfold tv; split <;> omega
  have h62 : ∀ (A : HA) q, (∀ s, s < 5 → A 0 s ≤ 5) → ∀ s, s < 5 → s_62 n A q to m 0 s ≤ 5 := fun A q h s hs => by
    rw [s62_bec]
    split
    · by_cases c : s = q
      · subst c; rw [bec_s]; exact t5 _ _
      · rw [bec_n c]; exact h s hs
    · exact h s hs
  have h63 : ∀ (A : HA) q, (∀ s, s < 5 → A 0 s ≤ 5) → ∀ s, s < 5 → s_63 n A q 0 s ≤ 5 := fun A q h s hs => by
    rw [s63_o A (by omega) (by omega) (by omega)]; exact h s hs
  have L : ∀ d (A : HA) t, (∀ s, s < 5 → A 0 s ≤ 5) → ∀ s, s < 5 → (s_61_25 n d A fr set to m t).2 0 s ≤ 5 := by
    intro d
    induction d with
    | zero => intro A t h; exact h
    | succ d ih =>
      intro A t h
      have h1 : ∀ s, s < 5 → a_up A 6 13 (A 6 13 + 1) 0 s ≤ 5 := h
      unfold s_61_25
      repeat' (first | exact h | exact h63 _ _ (h62 _ _ h1) | exact h63 _ _ h1 | exact ih _ _ h | exact ih _ _ (h62 _ _ h1) | exact ih _ _ h1 | split)
  intro A h
  unfold s_61
  split
  · exact h63 _ _ (h62 _ _ h)
  · exact L 6 _ 0 (h62 _ _ h)
theorem s63_62 (n : Nat) (A : HA) : s_63 n A 0 6 2 = 3 ∨ n ≥ 6 := by
  have L : ∀ d (A : HA) t, n - t < d → s_63_9 n d A 0 t 6 2 = 3 := by
    intro d
    induction d with
    | zero => intro A t h; exact absurd h (Nat.not_lt_zero _)
    | succ d ih =>
      intro A t h
      unfold s_63_9
      by_cases c : n ≤ t
      · rw [if_pos c, if_pos rfl, a_up_def, if_pos ⟨rfl, rfl⟩]
      · rw [if_neg c]
        split
        · split
          · exact ih _ _ (by omega)
          · exact ih _ _ (by omega)
        · exact ih _ _ (by omega)
  by_cases h : n < 6
  · left; exact L 6 _ 0 (by omega)
  · right; omega
theorem s61_62 {n set to m : Nat} (h5 : n ≤ 5) (A : HA) : (s_61 n A 0 set to m).1 = 1 → (s_61 n A 0 set to m).2 6 2 = 3 := by
  have h3 : ∀ X : HA, s_63 n X 0 6 2 = 3 := fun X => by
    rcases s63_62 n X with h | h
    · exact h
    · omega
  have L : ∀ d (A : HA) t, (s_61_25 n d A 0 set to m t).1 = 1 → (s_61_25 n d A 0 set to m t).2 6 2 = 3 := by
    intro d
    induction d with
    | zero => intro A t h; exact absurd (show (0 : Nat) = 1 from h) (by omega)
    | succ d ih =>
      intro A t
      unfold s_61_25
      repeat' (first | exact fun _ => h3 _ | exact ih _ _ | exact fun h => absurd (show (0 : Nat) = 1 from h) (by omega) | split)
  unfold s_61
  split
  · exact fun _ => h3 _
  · exact L 6 _ 0
def Pa (C : HA) (s : Nat) : Bool := decide (C 0 s = 0)
def va (C : HA) (s : Nat) : Nat := if C 3 s = 1 then 1 else 5
def fa (n : Nat) (C : HA) : Nat × HA := if N (C 9 9) = 0 then (if bs n (fun s => decide (C 0 s = 1)) = ev n then (1, a_up C 6 2 1) else ((s_167 n C) 6 2, s_167 n C)) else (C 6 2, C)
theorem s164_rl {n : Nat} (h5 : n ≤ 5) : ∀ d (B : HA) x t, n - t < d → 1 ≤ t → t ≤ n → x = bs t (fun s => decide (B 0 s = 1)) → (∀ s, t ≤ s → s < n → ¬ B 0 s = 1) → s_164_76 n d B x t = fa n (rl n Pa va (ev n) 0 d B t) := by
  intro d
  induction d with
  | zero => intro B x t h; exact absurd h (Nat.not_lt_zero _)
  | succ d ih =>
    intro B x t h ht htn hx hr
    unfold s_164_76 rl
    by_cases c : n ≤ t
    · rw [if_pos c, if_pos c]
      have e : t = n := by omega
      subst e
      have : bs t (fun s => decide ((s_170 t B 0) 0 s = 1)) = x := by
        rw [hx]
        exact bs_congr (fun s _ => by rw [s170_o h5 B (by omega) (by omega) (by omega) (by omega)])
      unfold fa
      rw [this]
    · rw [if_neg c, if_neg c, if_neg (show ¬ t = 0 by omega), if_pos (show (ev n).testBit t = true by rw [ev_t]; exact decide_eq_true (by omega))]
      have o0 : ∀ s, (s_169 n B 0 t).2 0 s = B 0 s := fun s => s169_o h5 B (by omega) (by omega) (by omega) (by omega)
      have i0 : ∀ s, t + 1 ≤ s → s < n → ¬ (s_169 n B 0 t).2 0 s = 1 := fun s h1 h2 => by rw [o0]; exact hr s (by omega) h2
      have x0 : x = bs (t + 1) (fun s => decide ((s_169 n B 0 t).2 0 s = 1)) := by
        rw [bs_s, o0, if_neg (by simp [hr t (Nat.le_refl _) (by omega)]), Nat.or_zero, hx]
        exact bs_congr (fun s _ => by rw [o0])
      by_cases c1 : (s_169 n B 0 t).1 = 0
      · rw [if_pos c1, if_pos c1]
        exact ih _ _ _ (by omega) (by omega) (by omega) x0 i0
      · rw [if_neg c1, if_neg c1]
        by_cases c2 : (s_169 n B 0 t).2 0 t = 0
        · rw [if_pos c2, if_pos (show Pa (s_169 n B 0 t).2 t = true from decide_eq_true c2)]
          unfold va
          by_cases c3 : (s_169 n B 0 t).2 3 t = 1
          · rw [if_pos c3, if_pos c3, if_pos bec_s]
            refine ih _ _ _ (by omega) (by omega) (by omega) ?_ (fun s h1 h2 => ?_)
            · rw [bs_s, if_pos (decide_eq_true bec_s), hx]
              congr 1
              exact bs_congr (fun s hs => by rw [bec_n (by omega), o0])
            · rw [bec_n (by omega)]; exact i0 s h1 h2
          · rw [if_neg c3, if_neg c3, if_neg (by rw [bec_s]; omega)]
            refine ih _ _ _ (by omega) (by omega) (by omega) ?_ (fun s h1 h2 => ?_)
            · rw [bs_s, if_neg (by rw [bec_s]; simp), hx]
              congr 1
              exact bs_congr (fun s hs => by rw [bec_n (by omega), o0])
            · rw [bec_n (by omega)]; exact i0 s h1 h2
        · rw [if_neg c2, if_neg (show ¬ Pa (s_169 n B 0 t).2 t = true by unfold Pa; simp [c2])]
          exact ih _ _ _ (by omega) (by omega) (by omega) x0 i0
theorem s167_62 {n : Nat} (h : n ≤ 5) (B : HA) : (s_167 n B) 6 2 = 3 := by
  unfold s_167
  rw [s167_rl 6 _ 1 (by omega) (by omega), a_up_def, if_pos ⟨rfl, rfl⟩]
theorem gone_main' {n : Nat} (h5 : n ≤ 5) (hn : 2 ≤ n) {A B : HA} (w : ∀ s, s < 5 → B 0 s ≤ 5) (e : EQ A B) (hu : ¬ (A 0 0 = 4 ∨ A 0 0 = 5)) (h9 : B 9 9 = 0) (h13 : A 6 13 = B 9 7) (hl : LL (A 6 12) (B 9 8)) (hb : B 9 7 + n ≤ 40) (hd : A 6 12 = 0 ↔ B 9 7 = B 9 8) : EQ (a_up (s_61 n A 0 (ev n) 5 15).2 6 2 3) (s_167 n B) := by
  have w0 := w 0 (by omega)
  have e0 : A 0 0 = B 0 0 := e.a (by omega) 0
  have es : s_62 n A 0 5 15 = bec A 0 5 := by
    rw [s62_bec, if_pos (by rw [tb15' _ (by omega)]; simpa using hu), tv_n (by omega)]
  unfold s_167
  rw [s167_rl 6 _ 1 (by omega) (by omega), ← rl_1 _ hn h5]
  refine EQ.up (part_main (P := Pg n) (v := fun _ _ => 5) (set := ev n) (fr := 0) (to := 5) (m := 15) h5 (A := A) (B := bec B 0 5) (by rw [es]; exact e.becc 0 5) ?_ ?_ ?_ ?_ ?_ ?_).1.1 6 2 3
  · rw [bec_o (by omega) (by omega) (by omega)]; exact h9
  · rw [bec_o (by omega) (by omega) (by omega)]; exact h13
  · rw [bec_o (by omega) (by omega) (by omega)]; exact hl
  · rw [bec_o (by omega) (by omega) (by omega)]; exact hb
  · rw [bec_o (by omega) (by omega) (by omega), bec_o (by omega) (by omega) (by omega)]; exact hd
  · intro C s hs hf hset hc h3
    have hw : C 0 s ≤ 5 := by rw [hc, bec_n hf]; exact w s (by omega)
    refine ⟨?_, fun _ => (tv_n (by omega)).symm⟩
    unfold Pg
    rw [s173_1 h5 C hs, tb15' _ hw]
    by_cases c : C 0 s = 4 ∨ C 0 s = 5
    · rw [if_pos c]; rcases c with c | c <;> simp [c]
    · rw [if_neg c]; simp only [not_or] at c; simp [c.1, c.2]
/-- what an act answers and leaves, in class and reference -/
def AE (p q : Nat × HA) : Prop := p.1 = q.1 ∧ EQ p.2 q.2
theorem x57 {n k : Nat} {A B : HA} (e : EQ A B) (w : WN n A) (hr : A 6 2 = 0 → ∀ s, s < n → ¬ A 0 s = 1) : AE (s_57 n A k) (s_164 n B k) := by
  have h5 := w.1.2
  have hn := w.1.1
  have w3 := w.b3 (s := 0) (by omega)
  unfold s_57 s_164
  rw [← e.f (k := 2) (by omega), ← e.a (w := 1) (by omega) 0, ← e.a (w := 0) (by omega) 0]
  by_cases c1 : isK k = 0
  · rw [if_pos c1, if_pos c1]; exact ⟨rfl, e⟩
  rw [if_neg c1, if_neg c1]
  by_cases c2n : ¬ A 6 2 = 0
  · rw [if_neg c2n, if_neg c2n]; exact ⟨rfl, e⟩
  have c2 : A 6 2 = 0 := by omega
  rw [if_pos c2, if_pos c2]
  by_cases c3n : ¬ A 1 0 = 1
  · rw [if_neg c3n, if_neg c3n]; exact ⟨rfl, e⟩
  have c3 : A 1 0 = 1 := by omega
  rw [if_pos c3, if_pos c3]
  by_cases c4n : ¬ A 0 0 = 0
  · rw [if_neg c4n, if_neg c4n]; exact ⟨rfl, e⟩
  have c4 : A 0 0 = 0 := by omega
  rw [if_pos c4, if_pos c4]
  have hk := isK_t c1
  obtain ⟨k7, k8, k9, kd⟩ := s166_9 (n := n) (B := B) hk
  have eB : EQ A (s_166 n B k) := e.s166
  have eA := eB.st k
  rw [← eB.a (w := 3) (by omega) 0]
  have wB : ∀ s, s < 5 → (s_166 n B k) 0 s ≤ 5 := fun s hs => by rw [← eB.a (by omega)]; exact w.b0 hs
  by_cases c5 : A 3 0 = 1
  · rw [if_pos c5, if_neg (show ¬ A 3 0 = 0 by omega)]
    have es : s_62 n (a_up (a_up A 6 12 k) 6 13 0) 0 1 1 = bec (a_up (a_up A 6 12 k) 6 13 0) 0 1 := by
      rw [s62_bec, if_pos (by show Nat.testBit 1 (A 0 0) = true; rw [c4]; rfl)]
      congr 1
      unfold tv
      rw [if_neg (fun q => by have : A 3 0 = 0 := q.2; omega)]
    obtain ⟨⟨q1, q2⟩, q3⟩ := part_main (P := Pa) (v := va) (set := ev n) (fr := 0) (to := 1) (m := 1) h5 (A := a_up (a_up A 6 12 k) 6 13 0) (B := bec (s_166 n B k) 0 1) (by rw [es]; exact eA.becc 0 1)
      (by rw [bec_o (by omega) (by omega) (by omega)]; exact k9) (by rw [bec_o (by omega) (by omega) (by omega)]; exact k7.symm) (by rw [bec_o (by omega) (by omega) (by omega)]; exact k8) (by rw [bec_o (by omega) (by omega) (by omega), k7]; omega)
      (by rw [bec_o (by omega) (by omega) (by omega), bec_o (by omega) (by omega) (by omega)]; exact kd)
      (fun C s hs hf hset hc h3 => by
        have hw : C 0 s ≤ 5 := by rw [hc, bec_n hf]; exact wB s (by omega)
        have hw3 : C 3 s ≤ 1 := by rw [h3, bec_o (by omega) (by omega) (by omega), ← eB.a (by omega)]; exact w.b3 (by omega)
        refine ⟨by unfold Pa; rw [tb1' _ hw], fun _ => ?_⟩
        unfold va tv
        by_cases c : C 3 s = 1
        · rw [if_pos c, if_neg (fun q => by have := q.2; omega)]
        · rw [if_neg c, if_pos ⟨rfl, by omega⟩])
    have hx : s_164_76 n 6 (bec (s_166 n B k) 0 1) 1 1 = fa n (rl n Pa va (ev n) 0 6 (bec (s_166 n B k) 0 1) 0) := by
      rw [rl_1 _ hn h5]
      refine s164_rl h5 6 _ 1 1 (by omega) (by omega) (by omega) ?_ (fun s h1 h2 => ?_)
      · show 1 = bs 0 _ ||| (if _ then 1 <<< 0 else 0)
        rw [if_pos (decide_eq_true bec_s)]
        simp [bs]
      · rw [bec_n (by omega), ← eB.a (by omega)]; exact hr c2 s h2
    rw [hx]
    have hfr : rl n Pa va (ev n) 0 6 (bec (s_166 n B k) 0 1) 0 0 0 = 1 := by rw [rl_fr h5, bec_s]
    have r0 := s61_r0 (n := n) (fr := 0) (set := ev n) (to := 1) (m := 1) (by omega) (a_up (a_up A 6 12 k) 6 13 0) (fun s hs => w.b0 hs)
    generalize s_61 n (a_up (a_up A 6 12 k) 6 13 0) 0 (ev n) 1 1 = p at q1 q2 q3 r0 ⊢
    generalize rl n Pa va (ev n) 0 6 (bec (s_166 n B k) 0 1) 0 = C at q1 q2 hfr ⊢
    unfold fa
    rcases q2 with ⟨p1, p2⟩ | ⟨p1, p2, p3, p4, p5, p6, p7⟩
    · rw [if_neg (by omega), p2, if_neg N10]
      exact ⟨q1.f (by omega), q1⟩
    · rw [if_pos p1, p2, if_pos N00]
      have hall : (s_55 n p.2 (ev n) = 2) = (bs n (fun s => decide (C 0 s = 1)) = ev n) := by
        rw [s55_2 h5 hn, bs_ev]
        exact propext ⟨fun q s hs => decide_eq_true (by rw [← q1.a (by omega)]; exact q s hs), fun q s hs => by rw [q1.a (by omega)]; exact of_decide_eq_true (q s hs)⟩
      by_cases c6 : s_55 n p.2 (ev n) = 2
      · rw [if_pos c6, if_pos (by rw [← hall]; exact c6)]
        exact ⟨rfl, q1.up 6 2 1⟩
      · rw [if_neg c6, if_neg (by rw [← hall]; exact c6)]
        rw [bec_o (by omega) (by omega) (by omega)] at p5 p7
        refine ⟨(s167_62 h5 C).symm, gone_main' h5 hn (fun s hs => by rw [← q1.a (by omega)]; exact r0 s hs) q1 (by rw [q1.a (by omega), hfr]; omega) p2 p3 ?_ (by omega) ?_⟩
        · rw [p4, p5, st12]; exact k8
        · rw [p4, st12]
          exact ⟨fun q => absurd q (q3 p1), fun q => absurd q p6⟩
  · rw [if_neg c5, if_pos (show A 3 0 = 0 by omega)]
    refine ⟨(s167_62 h5 _).symm, gone_main' h5 hn wB eA (by show ¬ (A 0 0 = 4 ∨ A 0 0 = 5); omega) k9 (k7.symm) k8 (by omega) kd⟩
