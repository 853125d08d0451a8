/-! acts hang on states, on who is up, on groups, votes, weights, terms alone; limits that aren't reached are as none -/
def ES (n : Nat) (A B : HA) : Prop := (∀ w, w < 5 → ∀ s, s < n → A w s = B w s) ∧ ∀ k, 1 ≤ k → k < 5 → A 6 k = B 6 k
section WEA
variable {n : Nat} {A B C : HA}
theorem ES.refl (n : Nat) (A : HA) : ES n A A := ⟨fun _ _ _ _ => rfl, fun _ _ _ => rfl⟩
theorem ES.symm (e : ES n A B) : ES n B A := ⟨fun w hw s hs => (e.1 w hw s hs).symm, fun k h1 h2 => (e.2 k h1 h2).symm⟩
theorem ES.trans (e : ES n A B) (f : ES n B C) : ES n A C := ⟨fun w hw s hs => (e.1 w hw s hs).trans (f.1 w hw s hs), fun k h1 h2 => (e.2 k h1 h2).trans (f.2 k h1 h2)⟩
theorem EQ.es (e : EQ A B) : ES n A B := ⟨fun w hw s _ => e w s (by omega) (by omega), fun k _ h2 => e 6 k (by omega) (by omega)⟩
theorem ES.up6 (e : ES n A B) (k v : Nat) : ES n (a_up A 6 k v) (a_up B 6 k v) := by
  refine ⟨fun w hw s hs => ?_, fun j h1 h2 => ?_⟩
  · rw [a_up_def, if_neg (by omega), a_up_def, if_neg (by omega)]; exact e.1 w hw s hs
  · rw [a_up_def, a_up_def]
    split
    · rfl
    · exact e.2 j h1 h2
theorem ES.l6 (e : ES n A B) {k : Nat} (hk : 5 ≤ k) (v : Nat) : ES n (a_up A 6 k v) B := by
  refine ⟨fun w hw s hs => ?_, fun j h1 h2 => ?_⟩
  · rw [a_up_def, if_neg (by omega)]; exact e.1 w hw s hs
  · rw [a_up_def, if_neg (by omega)]; exact e.2 j h1 h2
theorem ES.r6 (e : ES n A B) {k : Nat} (hk : 5 ≤ k) (v : Nat) : ES n A (a_up B 6 k v) := (e.symm.l6 hk v).symm
theorem ES.c49 (e : ES n A B) (x : Nat) : s_49 n A x = s_49 n B x := by
  have L : ∀ d y s, s_49_4 n d A x y s = s_49_4 n d B x y s := by
    intro d
    induction d with
    | zero => intro y s; rfl
    | succ d ih =>
      intro y s
      unfold s_49_4
      by_cases c : n ≤ s
      · rw [if_pos c, if_pos c]
      · rw [if_neg c, if_neg c, e.1 4 (by omega) s (by omega), ih, ih]
  exact L 6 0 0
theorem ES.c55 (e : ES n A B) (x : Nat) : s_55 n A x = s_55 n B x := by
  have L : ∀ d y s, s_55_4 n d A x y s = s_55_4 n d B x y s := by
    intro d
    induction d with
    | zero => intro y s; rfl
    | succ d ih =>
      intro y s
      unfold s_55_4
      by_cases c : n ≤ s
      · rw [if_pos c, if_pos c]
      · rw [if_neg c, if_neg c, e.1 0 (by omega) s (by omega), ih, ih]
  exact L 6 0 0
theorem ES.c65 (e : ES n A B) (x : Nat) : s_65 n A x = s_65 n B x := by
  have L : ∀ d y s, s_65_4 n d A x y s = s_65_4 n d B x y s := by
    intro d
    induction d with
    | zero => intro y s; rfl
    | succ d ih =>
      intro y s
      unfold s_65_4
      by_cases c : n ≤ s
      · rw [if_pos c, if_pos c]
      · rw [if_neg c, if_neg c, e.1 0 (by omega) s (by omega), ih, ih]
  exact L 6 0 0
theorem ES.c69 (e : ES n A B) (x : Nat) : s_69 n A x = s_69 n B x := by
  have L : ∀ d y s, s_69_4 n d A x y s = s_69_4 n d B x y s := by
    intro d
    induction d with
    | zero => intro y s; rfl
    | succ d ih =>
      intro y s
      unfold s_69_4
      by_cases c : n ≤ s
      · rw [if_pos c, if_pos c]
      · rw [if_neg c, if_neg c, e.1 1 (by omega) s (by omega), ih, ih]
  exact L 6 0 0
theorem ES.c74 (e : ES n A B) (x : Nat) : s_74 n A x = s_74 n B x := by
  have L : ∀ d y s, s_74_4 n d A x y s = s_74_4 n d B x y s := by
    intro d
    induction d with
    | zero => intro y s; rfl
    | succ d ih =>
      intro y s
      unfold s_74_4
      by_cases c : n ≤ s
      · rw [if_pos c, if_pos c]
      · rw [if_neg c, if_neg c, e.1 2 (by omega) s (by omega), ih, ih]
  exact L 6 0 0
theorem ES.c76 (e : ES n A B) (x : Nat) : s_76 n A x = s_76 n B x := by unfold s_76; rw [e.c55]
theorem ES.c77 (e : ES n A B) (x y : Nat) : s_77 n A x y = s_77 n B x y := by
  unfold s_77
  rw [e.c55 x, e.c55 y, e.c65 11, e.c65 6, e.c49, e.c49, e.2 1 (by omega) (by omega), e.2 3 (by omega) (by omega), e.2 4 (by omega) (by omega)]
theorem ES.becq (e : ES n A B) (s v : Nat) : ES n (bec A s v) (bec B s v) := by
  refine ⟨fun w hw t ht => ?_, fun k h1 h2 => ?_⟩
  · by_cases h0 : w = 0
    · subst h0
      by_cases c : t = s
      · rw [c, bec_s, bec_s]
      · rw [bec_n c, bec_n c]; exact e.1 0 (by omega) t ht
    · rw [bec_o h0 (by omega) (by omega), bec_o h0 (by omega) (by omega)]; exact e.1 w hw t ht
  · rw [bec_o (by omega) (by omega) (by omega), bec_o (by omega) (by omega) (by omega)]; exact e.2 k h1 h2
theorem ES.tvq (e : ES n A B) {s : Nat} (hs : s < n) (to : Nat) : tv A s to = tv B s to := by unfold tv; rw [e.1 3 (by omega) s hs]
theorem ES.c62 (e : ES n A B) {s : Nat} (hs : s < n) (to m : Nat) : ES n (s_62 n A s to m) (s_62 n B s to m) := by
  rw [s62_bec, s62_bec, e.1 0 (by omega) s hs, e.tvq hs]
  split
  · exact e.becq _ _
  · exact e
/-- going down, but for who knows whom -/
def gd (A : HA) (s : Nat) : HA := if s = 0 then a_up (a_up A 1 s 0) 6 2 3 else a_up A 1 s 0
theorem s63_gd (h5 : n ≤ 5) (A : HA) (s : Nat) {w k : Nat} (hw : ¬ w = 5) : s_63 n A s w k = gd A s w k := by
  have L : ∀ d (C : HA) t, n - t < d → s_63_9 n d C s t w k = (if s = 0 then a_up C 6 2 3 else C) w k := by
    intro d
    induction d with
    | zero => intro C t h; omega
    | succ d ih =>
      intro C t h
      unfold s_63_9
      by_cases c : n ≤ t
      · rw [if_pos c]
      · rw [if_neg c]
        split
        · split
          · rw [ih _ _ (by omega)]
            split
            · rw [a_up_def, a_up_def, a_up_def, if_neg (show ¬ (w = 5 ∧ k = t) by omega)]
            · rw [a_up_def, if_neg (by omega)]
          · exact ih _ _ (by omega)
        · exact ih _ _ (by omega)
  unfold gd
  exact L 6 _ 0 (by omega)
theorem ES.gdq (e : ES n A B) (s : Nat) : ES n (gd A s) (gd B s) := by
  have h1 : ES n (a_up A 1 s 0) (a_up B 1 s 0) := by
    refine ⟨fun w hw t ht => ?_, fun k q1 q2 => ?_⟩
    · rw [a_up_def, a_up_def]
      split
      · rfl
      · exact e.1 w hw t ht
    · rw [a_up_def, if_neg (by omega), a_up_def, if_neg (by omega)]; exact e.2 k q1 q2
  unfold gd
  split
  · exact h1.up6 2 3
  · exact h1
theorem ES.d63 (h5 : n ≤ 5) (A : HA) (s : Nat) : ES n (s_63 n A s) (gd A s) := ⟨fun w hw t _ => s63_gd h5 A s (by omega), fun k _ _ => s63_gd h5 A s (by omega)⟩
theorem ES.c63 (h5 : n ≤ 5) (e : ES n A B) (s : Nat) : ES n (s_63 n A s) (s_63 n B s) := (ES.d63 h5 A s).trans ((e.gdq s).trans (ES.d63 h5 B s).symm)
theorem s63_6 (h5 : n ≤ 5) {s k : Nat} (hk : ¬ k = 2) : s_63 n A s 6 k = A 6 k := by
  rw [s63_gd h5 A s (by omega)]
  unfold gd
  split
  · rw [a_up_def, if_neg (by omega), a_up_def, if_neg (by omega)]
  · rw [a_up_def, if_neg (by omega)]
/-- one message's step -/
def hs (n : Nat) (A : HA) (fr to m t : Nat) : HA := if A 1 t = 1 ∧ A 2 t = A 2 fr then s_62 n (a_up A 6 13 (A 6 13 + 1)) t to m else a_up A 6 13 (A 6 13 + 1)
def fi (n fr set to m : Nat) : Nat → HA → Nat → Nat × HA
  | 0, A, _ => (0, A)
  | d + 1, A, t => if n ≤ t then (0, A) else if t = fr ∨ set.testBit t = false then fi n fr set to m d A (t + 1) else if N (A 6 13 + 1) = N (A 6 12) then (1, s_63 n (hs n A fr to m t) fr) else fi n fr set to m d (hs n A fr to m t) (t + 1)
theorem hs13 {fr to m t : Nat} : hs n A fr to m t 6 13 = A 6 13 + 1 := by
  unfold hs
  split
  · rw [s62_o (by omega) (by omega) (by omega), a_up_def, if_pos ⟨rfl, rfl⟩]
  · rw [a_up_def, if_pos ⟨rfl, rfl⟩]
theorem hs_o {fr to m t w k : Nat} (h0 : ¬ w = 0) (h7 : ¬ w = 7) (h8 : ¬ w = 8) (h6 : ¬ (w = 6 ∧ k = 13)) : hs n A fr to m t w k = A w k := by
  unfold hs
  split
  · rw [s62_o h0 h7 h8, a_up_def, if_neg h6]
  · rw [a_up_def, if_neg h6]
theorem s61_fi {fr set to m : Nat} : ∀ d (A : HA) t, s_61_25 n d A fr set to m t = fi n fr set to m d A t := by
  intro d
  induction d with
  | zero => intro A t; rfl
  | succ d ih =>
    intro A t
    unfold s_61_25 fi
    by_cases c1 : n ≤ t
    · rw [if_pos c1, if_pos c1]
    rw [if_neg c1, if_neg c1]
    by_cases c2 : t = fr
    · rw [if_pos c2, if_pos (Or.inl c2)]; exact ih _ _
    rw [if_neg c2]
    by_cases c3 : (set >>> t) &&& 1 = 0
    · rw [if_pos c3, if_pos (Or.inr (by rw [← bit_and0]; exact c3))]; exact ih _ _
    rw [if_neg c3, if_neg (show ¬ (t = fr ∨ set.testBit t = false) from fun q => q.elim c2 (fun z => c3 (by rw [bit_and0]; exact z)))]
    have e13 : (s_62 n (a_up A 6 13 (A 6 13 + 1)) t to m) 6 13 = A 6 13 + 1 := by rw [s62_o (by omega) (by omega) (by omega), a_up_def, if_pos ⟨rfl, rfl⟩]
    have e12 : (s_62 n (a_up A 6 13 (A 6 13 + 1)) t to m) 6 12 = A 6 12 := by rw [s62_o (by omega) (by omega) (by omega), a_up_def, if_neg (by omega)]
    rw [e13, e12, ih, ih]
    unfold hs
    by_cases c4 : A 1 t = 1
    · by_cases c5 : A 2 t = A 2 fr
      · rw [if_pos c4, if_pos c5, if_pos (show A 1 t = 1 ∧ A 2 t = A 2 fr from ⟨c4, c5⟩)]
      · rw [if_pos c4, if_neg c5, if_neg (show ¬ (A 1 t = 1 ∧ A 2 t = A 2 fr) from fun q => c5 q.2)]
    · rw [if_neg c4, if_neg (show ¬ (A 1 t = 1 ∧ A 2 t = A 2 fr) from fun q => c4 q.1)]
theorem s61_1 {fr set to m : Nat} : s_61 n A fr set to m = if N (A 6 12) = 0 then (1, s_63 n (s_62 n A fr to m) fr) else fi n fr set to m 6 (s_62 n A fr to m) 0 := by
  unfold s_61
  rw [s62_o (by omega) (by omega) (by omega), s61_fi]
theorem fi_mono (h5 : n ≤ 5) {fr set to m : Nat} : ∀ d (A : HA) t, A 6 13 ≤ (fi n fr set to m d A t).2 6 13 := by
  intro d
  induction d with
  | zero => intro A t; exact Nat.le_refl _
  | succ d ih =>
    intro A t
    unfold fi
    split
    · exact Nat.le_refl _
    · split
      · exact ih _ _
      · split
        · show A 6 13 ≤ s_63 n (hs n A fr to m t) fr 6 13
          rw [s63_6 h5 (by omega), hs13]; omega
        · have := ih (hs n A fr to m t) (t + 1)
          rw [hs13] at this
          omega
theorem ES.hsq (e : ES n A B) (h : A 6 13 = B 6 13) {fr t : Nat} (hf : fr < n) (ht : t < n) (to m : Nat) : ES n (hs n A fr to m t) (hs n B fr to m t) := by
  unfold hs
  rw [e.1 1 (by omega) t ht, e.1 2 (by omega) t ht, e.1 2 (by omega) fr hf, h]
  split
  · exact (e.up6 13 _).c62 ht to m
  · exact e.up6 13 _
/-- a limit, or one that isn't reached in place of none -/
def LM (a b s : Nat) : Prop := a = b ∨ (a = 4294967295 ∧ s < b ∧ b ≤ 20)
theorem sim_fi (h5 : n ≤ 5) {fr set to m : Nat} (hf : fr < n) : ∀ d (A B : HA) t, ES n A B → A 6 13 = B 6 13 → LM (A 6 12) (B 6 12) ((fi n fr set to m d A t).2 6 13) → (fi n fr set to m d A t).1 = (fi n fr set to m d B t).1 ∧ ES n (fi n fr set to m d A t).2 (fi n fr set to m d B t).2 ∧ (fi n fr set to m d A t).2 6 13 = (fi n fr set to m d B t).2 6 13 ∧ (fi n fr set to m d A t).2 6 12 = A 6 12 ∧ (fi n fr set to m d B t).2 6 12 = B 6 12 := by
  intro d
  induction d with
  | zero => intro A B t e h _; exact ⟨rfl, e, h, rfl, rfl⟩
  | succ d ih =>
    intro A B t e h l
    unfold fi at l ⊢
    by_cases c1 : n ≤ t
    · rw [if_pos c1, if_pos c1]; exact ⟨rfl, e, h, rfl, rfl⟩
    rw [if_neg c1] at l ⊢
    rw [if_neg c1]
    by_cases c2 : t = fr ∨ set.testBit t = false
    · rw [if_pos c2] at l ⊢
      rw [if_pos c2]
      exact ih A B (t + 1) e h l
    rw [if_neg c2] at l ⊢
    rw [if_neg c2]
    have eh := e.hsq h hf (show t < n by omega) to m
    by_cases c3 : N (A 6 13 + 1) = N (A 6 12)
    · rw [if_pos c3] at l ⊢
      rcases l with l | ⟨l1, l2, l3⟩
      · rw [if_pos (by rw [← h, ← l]; exact c3)]
        refine ⟨rfl, ES.c63 h5 eh fr, ?_, ?_, ?_⟩
        · show s_63 n _ fr 6 13 = s_63 n _ fr 6 13
          rw [s63_6 h5 (by omega), s63_6 h5 (by omega), hs13, hs13, h]
        · show s_63 n _ fr 6 12 = _
          rw [s63_6 h5 (by omega), hs_o (by omega) (by omega) (by omega) (by omega)]
        · show s_63 n _ fr 6 12 = _
          rw [s63_6 h5 (by omega), hs_o (by omega) (by omega) (by omega) (by omega)]
      · exfalso
        have l2 : s_63 n (hs n A fr to m t) fr 6 13 < B 6 12 := l2
        rw [s63_6 h5 (by omega), hs13] at l2
        rw [l1, N_injU (by omega) (by omega)] at c3
        omega
    · rw [if_neg c3] at l ⊢
      have e12 : (hs n A fr to m t) 6 12 = A 6 12 := hs_o (by omega) (by omega) (by omega) (by omega)
      have f12 : (hs n B fr to m t) 6 12 = B 6 12 := hs_o (by omega) (by omega) (by omega) (by omega)
      have c4 : ¬ N (B 6 13 + 1) = N (B 6 12) := by
        rcases l with l | ⟨l1, l2, l3⟩
        · rw [← h, ← l]; exact c3
        · have := fi_mono h5 (fr := fr) (set := set) (to := to) (m := m) d (hs n A fr to m t) (t + 1)
          rw [hs13] at this
          intro q
          rw [N_injU (by omega) (by omega)] at q
          omega
      rw [if_neg c4]
      have := ih (hs n A fr to m t) (hs n B fr to m t) (t + 1) eh (by rw [hs13, hs13, h]) (by rw [e12, f12]; exact l)
      rw [e12, f12] at this
      exact this
theorem sim61 (h5 : n ≤ 5) {fr set to m : Nat} (hf : fr < n) (e : ES n A B) (h : A 6 13 = B 6 13) (l : LM (A 6 12) (B 6 12) ((s_61 n A fr set to m).2 6 13)) : (s_61 n A fr set to m).1 = (s_61 n B fr set to m).1 ∧ ES n (s_61 n A fr set to m).2 (s_61 n B fr set to m).2 ∧ (s_61 n A fr set to m).2 6 13 = (s_61 n B fr set to m).2 6 13 ∧ (s_61 n A fr set to m).2 6 12 = A 6 12 ∧ (s_61 n B fr set to m).2 6 12 = B 6 12 := by
  have e2 := e.c62 hf to m
  have a13 : s_62 n A fr to m 6 13 = A 6 13 := s62_o (by omega) (by omega) (by omega)
  have b13 : s_62 n B fr to m 6 13 = B 6 13 := s62_o (by omega) (by omega) (by omega)
  have a12 : s_62 n A fr to m 6 12 = A 6 12 := s62_o (by omega) (by omega) (by omega)
  have b12 : s_62 n B fr to m 6 12 = B 6 12 := s62_o (by omega) (by omega) (by omega)
  rw [s61_1] at l ⊢
  rw [s61_1 (A := B)]
  by_cases c : N (A 6 12) = 0
  · rw [if_pos c] at l ⊢
    have hl : A 6 12 = B 6 12 := by
      rcases l with l | ⟨l1, -, -⟩
      · exact l
      · rw [l1] at c; exact absurd c (by decide +kernel)
    rw [if_pos (by rw [← hl]; exact c)]
    refine ⟨rfl, ES.c63 h5 e2 fr, ?_, ?_, ?_⟩
    · show s_63 n _ fr 6 13 = s_63 n _ fr 6 13
      rw [s63_6 h5 (by omega), s63_6 h5 (by omega), a13, b13, h]
    · show s_63 n _ fr 6 12 = _
      rw [s63_6 h5 (by omega), a12]
    · show s_63 n _ fr 6 12 = _
      rw [s63_6 h5 (by omega), b12]
  · rw [if_neg c] at l ⊢
    have cb : ¬ N (B 6 12) = 0 := by
      rcases l with l | ⟨l1, l2, l3⟩
      · rw [← l]; exact c
      · intro q
        rw [nN 0, N_injU (by omega) (by omega)] at q
        omega
    rw [if_neg cb]
    have := sim_fi h5 (set := set) (to := to) (m := m) hf 6 _ _ 0 e2 (by rw [a13, b13, h]) (by rw [a12, b12]; exact l)
    rw [a12, b12] at this
    exact this
theorem s61_mono (h5 : n ≤ 5) {fr set to m : Nat} : A 6 13 ≤ (s_61 n A fr set to m).2 6 13 := by
  rw [s61_1]
  have a13 : s_62 n A fr to m 6 13 = A 6 13 := s62_o (by omega) (by omega) (by omega)
  split
  · show _ ≤ s_63 n _ fr 6 13
    rw [s63_6 h5 (by omega), a13]; exact Nat.le_refl _
  · rw [← a13]; exact fi_mono h5 _ _ _
theorem isK_l {a b s : Nat} (l : LM a b s) : isK a = isK b := by
  rcases l with l | ⟨l1, l2, l3⟩
  · rw [l]
  · unfold isK; rw [if_pos (by omega), if_pos (by omega)]
theorem ES.st (e : ES n A B) (k k' : Nat) : ES n (a_up (a_up A 6 12 k) 6 13 0) (a_up (a_up B 6 12 k') 6 13 0) := (((e.l6 (by omega) k).l6 (by omega) 0).r6 (by omega) k').r6 (by omega) 0
end WEA
