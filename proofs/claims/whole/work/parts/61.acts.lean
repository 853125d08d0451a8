/-! turns, goings down, comings up, messages: class and reference do the same -/
theorem a_up_comm {α : Type} (f : Nat → Nat → α) {o o' k k' : Nat} {v v' : α} (h : ¬ o = o') : a_up (a_up f o k v) o' k' v' = a_up (a_up f o' k' v') o k v := by
  funext a c
  rw [a_up_def, a_up_def, a_up_def, a_up_def]
  by_cases h1 : a = o' ∧ c = k'
  · rw [if_pos h1, if_pos h1, if_neg (fun q => h (q.1.symm.trans h1.1))]
  · rw [if_neg h1, if_neg h1]
theorem lad_up (A : HA) (s v c : Nat) : lad (a_up A 0 s v) c = a_up (lad A c) 0 s v := by
  unfold lad
  have e : (a_up A 0 s v) 7 0 = A 7 0 := a_up_o (by omega)
  rw [e]
  split
  · rw [a_up_comm A (by omega), a_up_comm _ (by omega)]
  · funext w k
    show (if w = 8 then (if k = 59 then c else (a_up A 0 s v) 8 (k + 1)) else (a_up A 0 s v) w k) = a_up (fun w k => if w = 8 then (if k = 59 then c else A 8 (k + 1)) else A w k) 0 s v w k
    rw [a_up_o (show ¬ 8 = 0 by omega), a_up_def, a_up_def]
    by_cases h8 : w = 8
    · rw [if_pos h8, if_pos h8, if_neg (show ¬ (w = 0 ∧ k = s) by omega)]
    · rw [if_neg h8]
      by_cases hh : w = 0 ∧ k = s
      · rw [if_pos hh, if_pos hh]
      · rw [if_neg hh, if_neg hh, if_neg h8]
theorem bec_o {A : HA} {s v w k : Nat} (h0 : ¬ w = 0) (h7 : ¬ w = 7) (h8 : ¬ w = 8) : bec A s v w k = A w k := by
  unfold bec
  split
  · rfl
  · rw [a_up_o h0, lad_o A _ h7 h8]
theorem bec_s {A : HA} {s v : Nat} : bec A s v 0 s = v := by
  unfold bec
  split
  · assumption
  · rw [a_up_def, if_pos ⟨rfl, rfl⟩]
theorem bec_n {A : HA} {s v t : Nat} (h : ¬ t = s) : bec A s v 0 t = A 0 t := by
  unfold bec
  split
  · rfl
  · rw [a_up_def, if_neg (fun q => h q.2), lad_o A _ (by omega) (by omega)]
theorem bec_wn {n : Nat} {A : HA} (w : WN n A) {s v : Nat} (hs : s < 5) (hv : v ≤ 5) : WN n (bec A s v) := by
  have := w.b0 hs
  unfold bec
  split
  · exact w
  · exact (w.ladw (by omega)).put (by omega) (show v < 6 by omega)
def tv (A : HA) (s to : Nat) : Nat := if to = 1 ∧ A 3 s = 0 then 5 else to
theorem s62_bec (n : Nat) (A : HA) (s to m : Nat) : s_62 n A s to m = if m.testBit (A 0 s) = true then bec A s (tv A s to) else A := by
  unfold s_62 tv bec
  simp only [lad_up]
  by_cases g : (m >>> (A 0 s)) &&& 1 = 0
  · have g' := g
    rw [bit_and0] at g'
    simp only [g, if_true, g']
    simp
  · have g' := g
    rw [bit_and0] at g'
    have g2 : m.testBit (A 0 s) = true := by simpa using g'
    simp only [g, if_false, g2, if_true]
    by_cases h1 : to = 1
    · subst h1
      by_cases h3 : A 3 s = 0
      · simp only [h3, if_true, and_self]
      · simp only [h3, if_true, if_false, and_false]
    · simp only [h1, if_false, false_and]
theorem s62_o {n : Nat} {A : HA} {s to m w k : Nat} (h0 : ¬ w = 0) (h7 : ¬ w = 7) (h8 : ¬ w = 8) : s_62 n A s to m w k = A w k := by
  rw [s62_bec]
  split
  · exact bec_o h0 h7 h8
  · rfl
theorem s62_n {n : Nat} {A : HA} {s to m t : Nat} (h : ¬ t = s) : s_62 n A s to m 0 t = A 0 t := by
  rw [s62_bec]
  split
  · exact bec_n h
  · rfl
theorem s171_63 {n : Nat} (h : n ≤ 5) (A : HA) (s : Nat) : s_171 n A s = s_63 n A s := by
  have L : ∀ d (C : HA) W t, (∀ o, W.testBit o = (decide (o < n) && decide (C 1 o = 1) && decide (C 2 o = C 2 s))) → s_171_15 n d C s W t = s_63_9 n d C s t := by
    intro d
    induction d with
    | zero => intro C W t _; rfl
    | succ d ih =>
      intro C W t hW
      unfold s_171_15 s_63_9
      by_cases c : n ≤ t
      · rw [if_pos c, if_pos c]
      · rw [if_neg c, if_neg c]
        have hb := hW t
        by_cases g : (W >>> t) &&& 1 = 1
        · rw [if_pos g]
          rw [bit_and] at g
          rw [g] at hb
          have h1 : C 1 t = 1 ∧ C 2 t = C 2 s := by
            have := hb.symm
            simp only [Bool.and_eq_true, decide_eq_true_eq] at this
            exact ⟨this.1.2, this.2⟩
          rw [if_pos h1.1, if_pos h1.2]
          exact ih _ _ _ (fun o => by rw [a_up_o (by omega), a_up_o (by omega), a_up_o (by omega)]; exact hW o)
        · rw [if_neg g]
          rw [bit_and] at g
          have h1 : ¬ (C 1 t = 1 ∧ C 2 t = C 2 s) := fun q => by
            rw [q.1, q.2] at hb
            exact g (by rw [hb]; simp; omega)
          by_cases c1 : C 1 t = 1
          · rw [if_pos c1, if_neg (fun q => h1 ⟨c1, q⟩)]
            exact ih _ _ _ hW
          · rw [if_neg c1]
            exact ih _ _ _ hW
  unfold s_171 s_63
  refine L 6 _ _ 0 (fun o => ?_)
  unfold s_172
  rw [Nat.testBit_and, s158_t h, s158_t h]
  cases decide (o < n) <;> simp
theorem EQ.c63 {n s : Nat} {A B : HA} (e : EQ A B) : EQ (s_63 n A s) (s_63 n B s) := by
  have L : ∀ d (A B : HA) t, EQ A B → EQ (s_63_9 n d A s t) (s_63_9 n d B s t) := by
    intro d
    induction d with
    | zero => intro A B t e; exact e
    | succ d ih =>
      intro A B t e
      unfold s_63_9
      rw [e.a (w := 1) (by omega) t, e.a (w := 2) (by omega) t, e.a (w := 2) (by omega) s, e.a (w := 5) (by omega) t]
      by_cases c : n ≤ t
      · rw [if_pos c, if_pos c]
        by_cases c0 : s = 0
        · rw [if_pos c0, if_pos c0]; exact e.up _ _ _
        · rw [if_neg c0, if_neg c0]; exact e
      · rw [if_neg c, if_neg c]
        by_cases c1 : B 1 t = 1
        · rw [if_pos c1, if_pos c1]
          by_cases c2 : B 2 t = B 2 s
          · rw [if_pos c2, if_pos c2]; exact ih _ _ _ (e.up _ _ _)
          · rw [if_neg c2, if_neg c2]; exact ih _ _ _ e
        · rw [if_neg c1, if_neg c1]; exact ih _ _ _ e
  exact L 6 _ _ 0 (e.up _ _ _)
theorem s63_o {n s w k : Nat} (A : HA) (h1 : ¬ w = 1) (h5 : ¬ w = 5) (h6 : ¬ (w = 6 ∧ k = 2)) : s_63 n A s w k = A w k := by
  have L : ∀ d (A : HA) t, s_63_9 n d A s t w k = A w k := by
    intro d
    induction d with
    | zero => intro A t; rfl
    | succ d ih =>
      intro A t
      unfold s_63_9
      split
      · split
        · rw [a_up_def, if_neg h6]
        · rfl
      · split
        · split
          · rw [ih, a_up_o h5]
          · exact ih _ _
        · exact ih _ _
  unfold s_63
  rw [L, a_up_o h1]
theorem EQ.g63 {n s : Nat} {A B : HA} (h : n ≤ 5) (e : EQ A B) : EQ (s_63 n A s) (s_171 n B s) := by
  rw [s171_63 h]
  exact e.c63
theorem s195_81 {n : Nat} (h : n ≤ 5) (A : HA) (s : Nat) : s_195 n A s = s_81 n A s := by
  have L : ∀ d (C : HA) W t, n - t < d → t ≤ n → (∀ o, W.testBit o = (decide (o < n) && decide (C 1 o = 1) && decide (C 2 o = C 2 s))) → W < 2 ^ n → s_195_15 n d C s W t = s_81_11 n d C s (bs t (fun o => W.testBit o)) t := by
    intro d
    induction d with
    | zero => intro C W t hm; exact absurd hm (Nat.not_lt_zero _)
    | succ d ih =>
      intro C W t hm ht hW hlt
      unfold s_195_15 s_81_11
      by_cases c : n ≤ t
      · rw [if_pos c, if_pos c]
        have e : t = n := by omega
        subst e
        congr 1
        apply Nat.eq_of_testBit_eq
        intro o
        rw [bs_test]
        by_cases co : o < t
        · simp [co]
        · rw [Nat.testBit_lt_two_pow (Nat.lt_of_lt_of_le hlt (Nat.pow_le_pow_right (by omega) (by omega)))]
          simp
      · rw [if_neg c, if_neg c]
        have hb := hW t
        have ib := bs_s t (fun o => W.testBit o)
        by_cases g : (W >>> t) &&& 1 = 1
        · rw [if_pos g]
          rw [bit_and] at g
          rw [if_pos g] at ib
          rw [g] at hb
          have h1 : C 1 t = 1 ∧ C 2 t = C 2 s := by
            have := hb.symm
            simp only [Bool.and_eq_true, decide_eq_true_eq] at this
            exact ⟨this.1.2, this.2⟩
          rw [if_pos h1.1, if_pos h1.2, ← ib]
          exact ih _ _ _ (by omega) (by omega) (fun o => by rw [a_up_o (by omega), a_up_o (by omega), a_up_o (by omega)]; exact hW o) hlt
        · rw [if_neg g]
          rw [bit_and] at g
          rw [if_neg g, Nat.or_zero] at ib
          have h1 : ¬ (C 1 t = 1 ∧ C 2 t = C 2 s) := fun q => by
            rw [q.1, q.2] at hb
            exact g (by rw [hb]; simp; omega)
          rw [← ib]
          by_cases c1 : C 1 t = 1
          · rw [if_pos c1, if_neg (fun q => h1 ⟨c1, q⟩)]
            exact ih _ _ _ (by omega) (by omega) hW hlt
          · rw [if_neg c1]
            exact ih _ _ _ (by omega) (by omega) hW hlt
  unfold s_195 s_81
  refine L 6 _ _ 0 (by omega) (Nat.zero_le _) (fun o => ?_) (s172_lt n _ s h)
  unfold s_172
  rw [Nat.testBit_and, s158_t h, s158_t h]
  cases decide (o < n) <;> simp
theorem EQ.c81 {n s : Nat} {A B : HA} (e : EQ A B) : EQ (s_81 n A s) (s_81 n B s) := by
  have L : ∀ d (A B : HA) x t, EQ A B → EQ (s_81_11 n d A s x t) (s_81_11 n d B s x t) := by
    intro d
    induction d with
    | zero => intro A B x t e; exact e
    | succ d ih =>
      intro A B x t e
      unfold s_81_11
      rw [e.a (w := 1) (by omega) t, e.a (w := 2) (by omega) t, e.a (w := 2) (by omega) s, e.a (w := 5) (by omega) t]
      by_cases c : n ≤ t
      · rw [if_pos c, if_pos c]; exact e.up _ _ _
      · rw [if_neg c, if_neg c]
        by_cases c1 : B 1 t = 1
        · rw [if_pos c1, if_pos c1]
          by_cases c2 : B 2 t = B 2 s
          · rw [if_pos c2, if_pos c2]; exact ih _ _ _ _ (e.up _ _ _)
          · rw [if_neg c2, if_neg c2]; exact ih _ _ _ _ e
        · rw [if_neg c1, if_neg c1]; exact ih _ _ _ _ e
  exact L 6 _ _ _ 0 (e.up _ _ _)
theorem EQ.g81 {n s : Nat} {A B : HA} (h : n ≤ 5) (e : EQ A B) : EQ (s_81 n A s) (s_195 n B s) := by
  rw [s195_81 h]
  exact e.c81
/-- the reference's rows of messages, all alike -/
def rl (n : Nat) (P : HA → Nat → Bool) (v : HA → Nat → Nat) (set fr : Nat) : Nat → HA → Nat → HA
  | 0, B, _ => B
  | d + 1, B, t => if n ≤ t then s_170 n B fr else if t = fr then rl n P v set fr d B (t + 1) else if set.testBit t = true then (if (s_169 n B fr t).1 = 0 then rl n P v set fr d (s_169 n B fr t).2 (t + 1) else if P (s_169 n B fr t).2 t = true then rl n P v set fr d (bec (s_169 n B fr t).2 t (v (s_169 n B fr t).2 t)) (t + 1) else rl n P v set fr d (s_169 n B fr t).2 (t + 1)) else rl n P v set fr d B (t + 1)
theorem N10 : ¬ N 1 = 0 := by decide +kernel
theorem N00 : N 0 = 0 := rfl
theorem s170_f {n fr : Nat} {B : HA} (h : B 9 9 = 1) : s_170 n B fr = B := by
  unfold s_170
  rw [h, if_neg N10]
theorem s170_d {n fr : Nat} {B : HA} (h : B 9 9 = 0) (g : B 9 7 = B 9 8) : s_170 n B fr = s_171 n (a_up B 9 9 1) fr := by
  unfold s_170
  rw [h, if_pos N00, g, if_pos rfl]
theorem s170_n {n fr : Nat} {B : HA} (h : B 9 9 = 0) (h7 : B 9 7 < 4294967296) (h8 : B 9 8 < 4294967296) (g : ¬ B 9 7 = B 9 8) : s_170 n B fr = B := by
  unfold s_170
  rw [h, if_pos N00, if_neg (by rw [N_injU h7 h8]; exact g)]
theorem s171_9 {n s k : Nat} (h : n ≤ 5) (A : HA) : s_171 n A s 9 k = A 9 k := by
  rw [s171_63 h]
  exact s63_o A (by omega) (by omega) (by omega)
theorem s169_f {n fr t : Nat} {B : HA} (h : (s_170 n B fr) 9 9 = 1) : s_169 n B fr t = (0, s_170 n B fr) := by
  unfold s_169
  rw [h, if_neg N10]
theorem rl_dead {n : Nat} {P : HA → Nat → Bool} {v : HA → Nat → Nat} {set fr : Nat} : ∀ d (B : HA) t, B 9 9 = 1 → rl n P v set fr d B t = B := by
  intro d
  induction d with
  | zero => intro B t _; rfl
  | succ d ih =>
    intro B t h
    have e := s170_f (n := n) (fr := fr) h
    have e2 : s_169 n B fr t = (0, B) := by
      have := s169_f (n := n) (fr := fr) (t := t) (B := B) (by rw [e]; exact h)
      rw [e] at this; exact this
    unfold rl
    rw [e2, e]
    dsimp only
    rw [if_pos rfl, ih _ _ h]
    split
    · rfl
    · split
      · rfl
      · split <;> rfl
theorem rl_due {n : Nat} {P : HA → Nat → Bool} {v : HA → Nat → Nat} {set fr : Nat} (h5 : n ≤ 5) : ∀ d (B : HA) t, n - t < d → B 9 9 = 0 → B 9 7 = B 9 8 → rl n P v set fr d B t = s_171 n (a_up B 9 9 1) fr := by
  intro d
  induction d with
  | zero => intro B t hm; exact absurd hm (Nat.not_lt_zero _)
  | succ d ih =>
    intro B t hm h g
    have e := s170_d (n := n) (fr := fr) h g
    have e9 : (s_171 n (a_up B 9 9 1) fr) 9 9 = 1 := by rw [s171_9 h5, a_up_def, if_pos ⟨rfl, rfl⟩]
    have e2 : s_169 n B fr t = (0, s_171 n (a_up B 9 9 1) fr) := by
      have := s169_f (n := n) (fr := fr) (t := t) (B := B) (by rw [e]; exact e9)
      rw [e] at this; exact this
    unfold rl
    rw [e2, e]
    dsimp only
    rw [if_pos rfl, rl_dead _ _ _ e9]
    by_cases c : n ≤ t
    · rw [if_pos c]
    · rw [if_neg c, ih _ _ (by omega) h g]
      split
      · rfl
      · split <;> rfl
/-- limits of class and reference -/
def LL (a b : Nat) : Prop := (a = 4294967295 ∧ b = 1048576) ∨ (a = b ∧ a ≤ 20)
theorem LL.e {a b s : Nat} (l : LL a b) (hs : s ≤ 40) : (N s = N a) = (s = b) := by
  rcases l with ⟨h1, h2⟩ | ⟨h1, h2⟩
  · subst h1 h2
    rw [N_injU (by omega) (by omega)]
    exact propext ⟨fun h => by omega, fun h => by omega⟩
  · subst h1
    rw [N_injU (by omega) (by omega)]
/-- what a row of messages leaves -/
def SR (n : Nat) (A B : HA) (p : Nat × HA) (C : HA) (x : Nat) : Prop := EQ p.2 C ∧ ((p.1 = 1 ∧ C 9 9 = 1) ∨ (p.1 = 0 ∧ C 9 9 = 0 ∧ p.2 6 13 = C 9 7 ∧ p.2 6 12 = A 6 12 ∧ C 9 8 = B 9 8 ∧ ¬ C 9 7 = C 9 8 ∧ C 9 7 ≤ B 9 7 + x))
theorem rl_main {n : Nat} {P : HA → Nat → Bool} {v : HA → Nat → Nat} {set fr to m : Nat} (h5 : n ≤ 5) : ∀ d (A B : HA) t, EQ A B → B 9 9 = 0 → A 6 13 = B 9 7 → LL (A 6 12) (B 9 8) → B 9 7 + (n - t) ≤ 40 → ¬ B 9 7 = B 9 8 → n - t < d →
    (∀ (C : HA) s, t ≤ s → s < n → ¬ s = fr → set.testBit s = true → C 0 s = B 0 s → C 3 s = B 3 s → P C s = m.testBit (C 0 s) ∧ (P C s = true → v C s = tv C s to)) →
    SR n A B (s_61_25 n d A fr set to m t) (rl n P v set fr d B t) (n - t) := by
  intro d
  induction d with
  | zero => intro A B t _ _ _ _ _ _ hm; exact absurd hm (Nat.not_lt_zero _)
  | succ d ih =>
    intro A B t e h9 h13 hl hb hne hm H
    have hb8 : B 9 8 < 4294967296 := by rcases hl with q | q <;> omega
    have e170 := s170_n (n := n) (fr := fr) h9 (by omega) hb8 hne
    unfold s_61_25 rl
    by_cases c : n ≤ t
    · rw [if_pos c, if_pos c, e170]
      exact ⟨e, Or.inr ⟨rfl, h9, h13, rfl, rfl, hne, by omega⟩⟩
    · rw [if_neg c, if_neg c]
      have skip : SR n A B (s_61_25 n d A fr set to m (t + 1)) (rl n P v set fr d B (t + 1)) (n - t) := by
        obtain ⟨q1, q2⟩ := ih A B (t + 1) e h9 h13 hl (by omega) hne (by omega) (fun C s h1 => H C s (by omega))
        refine ⟨q1, q2.imp id (fun q => ⟨q.1, q.2.1, q.2.2.1, q.2.2.2.1, q.2.2.2.2.1, q.2.2.2.2.2.1, by omega⟩)⟩
      by_cases c1 : t = fr
      · rw [if_pos c1, if_pos c1]; exact skip
      · rw [if_neg c1, if_neg c1]
        by_cases c2 : (set >>> t) &&& 1 = 0
        · rw [if_pos c2]
          rw [bit_and0] at c2
          rw [if_neg (by rw [c2]; simp)]
          exact skip
        · rw [if_neg c2]
          rw [bit_and0] at c2
          have c2' : set.testBit t = true := by simpa using c2
          rw [if_pos c2']
          -- what goes on behind a message: A2, B2 the halls
          have go : ∀ (A2 B2 : HA), EQ A2 B2 → A2 6 13 = A 6 13 + 1 → A2 6 12 = A 6 12 → B2 9 7 = B 9 7 + 1 → B2 9 8 = B 9 8 → B2 9 9 = 0 → (∀ s, ¬ s = t → B2 0 s = B 0 s) → (∀ s, B2 3 s = B 3 s) →
              SR n A B (if N (A2 6 13) = N (A2 6 12) then (1, s_63 n A2 fr) else s_61_25 n d A2 fr set to m (t + 1)) (rl n P v set fr d B2 (t + 1)) (n - t) := by
            intro A2 B2 e2 g13 g12 g7 g8 g9 g0 g3
            have ee := hl.e (s := A2 6 13) (by omega)
            by_cases cf : A2 6 13 = B 9 8
            · rw [if_pos (by rw [g12, ee]; exact cf), rl_due h5 d B2 (t + 1) (by omega) g9 (by omega)]
              refine ⟨(e2.r 9 9 1 (by omega)).g63 h5, Or.inl ⟨rfl, ?_⟩⟩
              rw [s171_9 h5, a_up_def, if_pos ⟨rfl, rfl⟩]
            · rw [if_neg (by rw [g12, ee]; exact cf)]
              obtain ⟨q1, q2⟩ := ih A2 B2 (t + 1) e2 g9 (by omega) (by rw [g12, g8]; exact hl) (by omega) (by omega) (by omega) (fun C s h1 h2 h3 h4 h6 h7 => H C s (by omega) h2 h3 h4 (h6.trans (g0 s (by omega))) (h7.trans (g3 s)))
              refine ⟨q1, q2.imp id (fun q => ⟨q.1, q.2.1, q.2.2.1, q.2.2.2.1.trans g12, q.2.2.2.2.1.trans g8, q.2.2.2.2.2.1, by omega⟩)⟩
          have f1 : (a_up A 6 13 (A 6 13 + 1)) 6 13 = A 6 13 + 1 := by rw [a_up_def, if_pos ⟨rfl, rfl⟩]
          have f2 : (a_up A 6 13 (A 6 13 + 1)) 6 12 = A 6 12 := by rw [a_up_def, if_neg (by omega)]
          have eA : EQ (a_up A 6 13 (A 6 13 + 1)) (a_up B 9 7 (B 9 7 + 1)) := (e.l 6 13 _ (by omega)).r 9 7 _ (by omega)
          have u7 : (a_up B 9 7 (B 9 7 + 1)) 9 7 = B 9 7 + 1 := by rw [a_up_def, if_pos ⟨rfl, rfl⟩]
          have u8 : (a_up B 9 7 (B 9 7 + 1)) 9 8 = B 9 8 := by rw [a_up_def, if_neg (by omega)]
          have u9 : (a_up B 9 7 (B 9 7 + 1)) 9 9 = 0 := by rw [a_up_def, if_neg (by omega)]; exact h9
          have u0 : ∀ w s, ¬ w = 9 → (a_up B 9 7 (B 9 7 + 1)) w s = B w s := fun w s h => a_up_o h
          have off := go _ _ eA f1 f2 u7 u8 u9 (fun s _ => u0 0 s (by omega)) (fun s => u0 3 s (by omega))
          have e169 : s_169 n B fr t = (if B 1 t = 1 then (if B 2 t = B 2 fr then (1, a_up B 9 7 (B 9 7 + 1)) else (0, a_up B 9 7 (B 9 7 + 1))) else (0, a_up B 9 7 (B 9 7 + 1))) := by
            unfold s_169
            rw [e170, h9, if_pos N00]
          rw [e169, e.a (w := 1) (by omega) t, e.a (w := 2) (by omega) t, e.a (w := 2) (by omega) fr]
          by_cases c3 : B 1 t = 1
          · rw [if_pos c3, if_pos c3]
            by_cases c4 : B 2 t = B 2 fr
            · rw [if_pos c4, if_pos c4]
              dsimp only
              rw [if_neg (show ¬ (1 : Nat) = 0 by omega)]
              obtain ⟨p1, p2⟩ := H (a_up B 9 7 (B 9 7 + 1)) t (Nat.le_refl _) (by omega) c1 c2' (u0 0 t (by omega)) (u0 3 t (by omega))
              have es := s62_bec n (a_up A 6 13 (A 6 13 + 1)) t to m
              rw [show (a_up A 6 13 (A 6 13 + 1)) 0 t = (a_up B 9 7 (B 9 7 + 1)) 0 t from eA.a (by omega) t, ← p1, show tv (a_up A 6 13 (A 6 13 + 1)) t to = tv (a_up B 9 7 (B 9 7 + 1)) t to by unfold tv; rw [eA.a (w := 3) (by omega) t]] at es
              by_cases c5 : P (a_up B 9 7 (B 9 7 + 1)) t = true
              · rw [if_pos c5, es, if_pos c5, p2 c5]
                refine go _ _ (eA.becc _ _) ?_ ?_ ?_ ?_ ?_ (fun s hs => ?_) (fun s => ?_)
                · rw [bec_o (by omega) (by omega) (by omega)]; exact f1
                · rw [bec_o (by omega) (by omega) (by omega)]; exact f2
                · rw [bec_o (by omega) (by omega) (by omega)]; exact u7
                · rw [bec_o (by omega) (by omega) (by omega)]; exact u8
                · rw [bec_o (by omega) (by omega) (by omega)]; exact u9
                · rw [bec_n hs]; exact u0 0 s (by omega)
                · rw [bec_o (by omega) (by omega) (by omega)]; exact u0 3 s (by omega)
              · rw [if_neg c5, es, if_neg c5]
                exact off
            · rw [if_neg c4, if_neg c4]
              dsimp only
              rw [if_pos rfl]
              rw [f1, f2] at off
              exact off
          · rw [if_neg c3, if_neg c3]
            dsimp only
            rw [if_pos rfl]
            rw [f1, f2] at off
            exact off
