/-! the search in the abstract: stands in the order in which they are found (E 0 stand, E 1 before, E 2 act, E 3 depth) -/
def ms (E : HA) (c : Nat) : Nat → Bool
  | 0 => false
  | j + 1 => if E 0 j = c then true else ms E c j
def exE (E : HA) (z c f a : Nat) : HA := a_up (a_up (a_up (a_up E 0 z c) 1 z f) 2 z a) 3 z (if f = 4294967295 then 0 else E 3 f + 1)
def adE (S : HA × Nat) (c f a : Nat) : HA × Nat := if ms S.1 c S.2 = true then S else (exE S.1 S.2 c f a, S.2 + 1)
def stq (n : Nat) (T : HA) (i : Nat) (S : HA × Nat) (a : Nat) : HA × Nat := if (act n (std n T (S.1 0 i)) a).1 < 2147483648 then adE S (vl n (act n (std n T (S.1 0 i)) a).2) i a else S
def AL (n g : Nat) : List Nat := [100, 101, 102, 103, 104, 105, 200, 201, 202, 203, 204, 205, 300, 301, 302, 303, 304, 305] ++ ((if n = 2 then [400, 401, 500, 501, 502, 503, 504, 505, 510, 511, 512, 513, 514, 515] else [400, 401, 402, 500, 501, 502, 503, 504, 505, 510, 511, 512, 513, 514, 515, 520, 521, 522, 523, 524, 525]) ++ (if g = 1 then (if n = 2 then [600, 602] else [600, 602, 604, 606]) else []))
def bfs (n : Nat) (T : HA) (g : Nat) : Nat → Nat → HA × Nat → HA × Nat
  | 0, _, S => S
  | d + 1, i, S => if i < S.2 then bfs n T g d (i + 1) ((AL n g).foldl (stq n T i) S) else S
def c0 (n : Nat) : Nat := if n = 2 then 48 else 112
def S0 (n : Nat) : HA × Nat := (fun w _ => if w = 0 then c0 n else if w = 1 then 4294967295 else 0, 1)
def IV (n : Nat) (T : HA) (L : List Nat) (S : HA × Nat) (i : Nat) (D : Nat → Prop) : Prop := (1 ≤ S.2 ∧ i ≤ S.2 ∧ S.1 1 0 = 4294967295 ∧ S.1 3 0 = 0 ∧ S.1 2 0 = 0) ∧ (∀ j, j < S.2 → IHs n T (std n T (S.1 0 j)) ∧ vl n (std n T (S.1 0 j)) = S.1 0 j) ∧ (∀ j k, j < k → k < S.2 → ¬ S.1 0 j = S.1 0 k) ∧ (∀ j, 1 ≤ j → j < S.2 → S.1 1 j < j ∧ S.1 1 j ≤ i ∧ S.1 3 j = S.1 3 (S.1 1 j) + 1 ∧ S.1 2 j ∈ L ∧ (600 ≤ S.1 2 j → S.1 0 j = vl n (grp (std n T (S.1 0 (S.1 1 j))) (S.1 2 j % 100)))) ∧ (∀ j, j + 1 < S.2 → S.1 3 j ≤ S.1 3 (j + 1)) ∧ (∀ j, j < S.2 → S.1 3 j ≤ 2 * mu n (std n T (S.1 0 j)) + 1 ∧ (S.1 2 j < 600 → S.1 3 j ≤ 2 * mu n (std n T (S.1 0 j)))) ∧ ∀ p b, p < S.2 → 600 ≤ b → b ∈ L → (p < i ∨ (p = i ∧ D b)) → ms S.1 (vl n (grp (std n T (S.1 0 p)) (b % 100))) S.2 = true
section BFS
variable {n g i : Nat} {T E : HA} {L : List Nat} {S : HA × Nat} {D : Nat → Prop}
theorem ms_t {c : Nat} : ∀ z, ms E c z = true ↔ ∃ j, j < z ∧ E 0 j = c := by
  intro z
  induction z with
  | zero => exact ⟨fun h => absurd (show false = true from h) (by decide), fun ⟨j, h, _⟩ => absurd h (Nat.not_lt_zero _)⟩
  | succ z ih =>
    unfold ms
    by_cases h : E 0 z = c
    · rw [if_pos h]; exact ⟨fun _ => ⟨z, by omega, h⟩, fun _ => rfl⟩
    · rw [if_neg h, ih]
      exact ⟨fun ⟨j, h1, h2⟩ => ⟨j, by omega, h2⟩, fun ⟨j, h1, h2⟩ => ⟨j, by
        by_cases q : j = z
        · rw [q] at h2; exact absurd h2 h
        · omega, h2⟩⟩
theorem exE_o {z c f a w j : Nat} (h : ¬ j = z) : exE E z c f a w j = E w j := by
  unfold exE
  rw [a_up_def, if_neg (fun q => h q.2), a_up_def, if_neg (fun q => h q.2), a_up_def, if_neg (fun q => h q.2), a_up_def, if_neg (fun q => h q.2)]
theorem exE_0 {z c f a : Nat} : exE E z c f a 0 z = c := by
  unfold exE
  rw [a_up_def, if_neg (by omega), a_up_def, if_neg (by omega), a_up_def, if_neg (by omega), a_up_def, if_pos ⟨rfl, rfl⟩]
theorem exE_1 {z c f a : Nat} : exE E z c f a 1 z = f := by
  unfold exE
  rw [a_up_def, if_neg (by omega), a_up_def, if_neg (by omega), a_up_def, if_pos ⟨rfl, rfl⟩]
theorem exE_2 {z c f a : Nat} : exE E z c f a 2 z = a := by
  unfold exE
  rw [a_up_def, if_neg (by omega), a_up_def, if_pos ⟨rfl, rfl⟩]
theorem exE_3 {z c f a : Nat} (h : ¬ f = 4294967295) : exE E z c f a 3 z = E 3 f + 1 := by
  unfold exE
  rw [a_up_def, if_pos ⟨rfl, rfl⟩, if_neg h]
theorem ms_ex {z c c' f a : Nat} (h : ms E c' z = true) : ms (exE E z c f a) c' (z + 1) = true := by
  obtain ⟨j, h1, h2⟩ := (ms_t z).mp h
  exact (ms_t _).mpr ⟨j, by omega, by rw [exE_o (by omega)]; exact h2⟩
theorem IV.mono (v : IV n T L S i D) : ∀ k j, j ≤ k → k < S.2 → S.1 3 j ≤ S.1 3 k := by
  intro k
  induction k with
  | zero => intro j h _; rw [show j = 0 by omega]; exact Nat.le_refl _
  | succ k ih =>
    intro j h1 h2
    by_cases c : j = k + 1
    · rw [c]; exact Nat.le_refl _
    · exact Nat.le_trans (ih j (by omega) (by omega)) (v.2.2.2.2.1 k h2)
theorem oka_g {b : Nat} (h : OKA n b) (h6 : 600 ≤ b) (A : HA) : act n A b = (0, grp A (b % 100)) := by
  unfold OKA at h
  unfold act
  rw [if_neg (by omega), if_neg (by omega), if_neg (by omega), if_neg (by omega), if_neg (by omega)]
theorem iv_st (hL : ∀ a, a ∈ L → OKA n a) (w : WN n T) (hz : S.2 < 4294967295) (v : IV n T L S i D) (hi : i < S.2) {a : Nat} (ha : a ∈ L) : IV n T L (stq n T i S a) i (fun b => D b ∨ b = a) ∧ S.2 ≤ (stq n T i S a).2 ∧ (stq n T i S a).2 ≤ S.2 + 1 := by
  have v0 := v
  obtain ⟨⟨a1, a2, a3, a4, a5⟩, b1, c1, d1, e1, f1, h1⟩ := v
  have oka := hL a ha
  obtain ⟨ii, iv⟩ := b1 i hi
  have hn : n = 2 ∨ n = 3 := ii.1.1
  -- nothing new
  have same : (600 ≤ a → ms S.1 (vl n (grp (std n T (S.1 0 i)) (a % 100))) S.2 = true) → IV n T L S i (fun b => D b ∨ b = a) := fun q => by
    refine ⟨⟨a1, a2, a3, a4, a5⟩, b1, c1, d1, e1, f1, fun p b hp hb hbl h => ?_⟩
    rcases h with h | ⟨h, h' | h'⟩
    · exact h1 p b hp hb hbl (Or.inl h)
    · exact h1 p b hp hb hbl (Or.inr ⟨h, h'⟩)
    · rw [h', h]; exact q (by omega)
  unfold stq
  by_cases acc : (act n (std n T (S.1 0 i)) a).1 < 2147483648
  rotate_left
  · rw [if_neg acc]
    refine ⟨same (fun h6 => ?_), Nat.le_refl _, by omega⟩
    rw [oka_g oka h6] at acc
    exact absurd (show (0 : Nat) < 2147483648 by omega) acc
  rw [if_pos acc]
  obtain ⟨j1, j2⟩ := act_inv ii oka acc
  have hg : 600 ≤ a → (act n (std n T (S.1 0 i)) a).2 = grp (std n T (S.1 0 i)) (a % 100) := fun h6 => by rw [oka_g oka h6]
  generalize (act n (std n T (S.1 0 i)) a).2 = B at j1 j2 hg ⊢
  unfold adE
  by_cases new : ms S.1 (vl n B) S.2 = true
  · rw [if_pos new]
    exact ⟨same (fun h6 => by rw [← hg h6]; exact new), Nat.le_refl _, by omega⟩
  rw [if_neg new]
  obtain ⟨s1, s2, s3⟩ := j1.stdq w
  have nin : ∀ j, j < S.2 → ¬ S.1 0 j = vl n B := fun j hj q => new ((ms_t _).mpr ⟨j, hj, q⟩)
  have hif : ¬ i = 4294967295 := by omega
  refine ⟨⟨⟨by show 1 ≤ S.2 + 1; omega, by show i ≤ S.2 + 1; omega, ?_, ?_, ?_⟩, fun j hj => ?_, fun j k hjk hk => ?_, fun j hj1 hj => ?_, fun j hj => ?_, fun j hj => ?_, fun p b hp hb hbl h => ?_⟩, by show S.2 ≤ S.2 + 1; omega, Nat.le_refl _⟩
  · show exE S.1 S.2 (vl n B) i a 1 0 = _; rw [exE_o (by omega)]; exact a3
  · show exE S.1 S.2 (vl n B) i a 3 0 = _; rw [exE_o (by omega)]; exact a4
  · show exE S.1 S.2 (vl n B) i a 2 0 = _; rw [exE_o (by omega)]; exact a5
  · have hj : j < S.2 + 1 := hj
    show IHs n T (std n T (exE S.1 S.2 (vl n B) i a 0 j)) ∧ vl n (std n T (exE S.1 S.2 (vl n B) i a 0 j)) = exE S.1 S.2 (vl n B) i a 0 j
    by_cases c : j = S.2
    · rw [c, exE_0]; exact ⟨s1, s2⟩
    · rw [exE_o c]; exact b1 j (by omega)
  · have hk : k < S.2 + 1 := hk
    show ¬ exE S.1 S.2 (vl n B) i a 0 j = exE S.1 S.2 (vl n B) i a 0 k
    rw [exE_o (show ¬ j = S.2 by omega)]
    by_cases c : k = S.2
    · rw [c, exE_0]; exact nin j (by omega)
    · rw [exE_o c]; exact c1 j k hjk (by omega)
  · have hj : j < S.2 + 1 := hj
    show exE S.1 S.2 (vl n B) i a 1 j < j ∧ exE S.1 S.2 (vl n B) i a 1 j ≤ i ∧ exE S.1 S.2 (vl n B) i a 3 j = exE S.1 S.2 (vl n B) i a 3 (exE S.1 S.2 (vl n B) i a 1 j) + 1 ∧ exE S.1 S.2 (vl n B) i a 2 j ∈ L ∧ (600 ≤ exE S.1 S.2 (vl n B) i a 2 j → exE S.1 S.2 (vl n B) i a 0 j = vl n (grp (std n T (exE S.1 S.2 (vl n B) i a 0 (exE S.1 S.2 (vl n B) i a 1 j))) (exE S.1 S.2 (vl n B) i a 2 j % 100)))
    by_cases c : j = S.2
    · subst c
      rw [exE_1, exE_2, exE_0, exE_3 hif, exE_o (show ¬ i = S.2 by omega), exE_o (show ¬ i = S.2 by omega)]
      exact ⟨hi, Nat.le_refl _, rfl, ha, fun h6 => by rw [hg h6]⟩
    · obtain ⟨q1, q2, q3, q4, q5⟩ := d1 j hj1 (by omega)
      rw [exE_o c, exE_o c, exE_o c, exE_o c, exE_o (show ¬ S.1 1 j = S.2 by omega), exE_o (show ¬ S.1 1 j = S.2 by omega)]
      exact ⟨q1, q2, q3, q4, q5⟩
  · have hj : j + 1 < S.2 + 1 := hj
    show exE S.1 S.2 (vl n B) i a 3 j ≤ exE S.1 S.2 (vl n B) i a 3 (j + 1)
    rw [exE_o (show ¬ j = S.2 by omega)]
    by_cases c : j + 1 = S.2
    · rw [c, exE_3 hif]
      by_cases z : j = 0
      · rw [z, a4]; omega
      · obtain ⟨q1, q2, q3, -⟩ := d1 j (by omega) (by omega)
        have := v0.mono i (S.1 1 j) q2 hi
        omega
    · rw [exE_o c]; exact e1 j (by omega)
  · have hj : j < S.2 + 1 := hj
    show exE S.1 S.2 (vl n B) i a 3 j ≤ 2 * mu n (std n T (exE S.1 S.2 (vl n B) i a 0 j)) + 1 ∧ (exE S.1 S.2 (vl n B) i a 2 j < 600 → exE S.1 S.2 (vl n B) i a 3 j ≤ 2 * mu n (std n T (exE S.1 S.2 (vl n B) i a 0 j)))
    by_cases c : j = S.2
    · rw [c, exE_0, exE_2, exE_3 hif, s3.muq hn]
      obtain ⟨fi1, fi2⟩ := f1 i hi
      by_cases h6 : a < 600
      · have hne : ¬ ES n (std n T (S.1 0 i)) B := fun q => nin i hi (iv.symm.trans (q.vlq hn))
        have := (mu_tr ii.1 j1.1 (j2 h6)).resolve_right hne
        exact ⟨by omega, fun _ => by omega⟩
      · have hB := hg (by omega)
        have hm : mu n B = mu n (std n T (S.1 0 i)) := by rw [hB]; exact grp_mu
        have small : S.1 2 i < 600 := by
          refine Classical.byContradiction fun q => new ?_
          have hi1 : 1 ≤ i := by
            by_cases z : i = 0
            · rw [z, a5] at q; omega
            · omega
          obtain ⟨q1, q2, q3, q4, q5⟩ := d1 i hi1 hi
          have q5 := q5 (by omega)
          obtain ⟨pi, pv⟩ := b1 (S.1 1 i) (by omega)
          have acp : (act n (std n T (S.1 0 (S.1 1 i))) (S.1 2 i)).1 < 2147483648 := by
            rw [oka_g (hL _ q4) (by omega)]
            exact (by omega : (0 : Nat) < 2147483648)
          have pb := (act_inv pi (hL _ q4) acp).1
          rw [oka_g (hL _ q4) (by omega)] at pb
          have pe := (pb.stdq w).2.2
          have e2 : ES n (std n T (S.1 0 i)) (grp (std n T (S.1 0 (S.1 1 i))) (S.1 2 i % 100)) := by rw [q5]; exact pe
          have e3 := e2.grpq (a % 100)
          rw [grp_grp] at e3
          rw [hB, e3.vlq hn]
          exact h1 (S.1 1 i) a (by omega) (by omega) ha (Or.inl q1)
        have := fi2 small
        exact ⟨by omega, fun h => absurd h h6⟩
    · rw [exE_o c, exE_o c, exE_o c]; exact f1 j (by omega)
  · have hp : p < S.2 + 1 := hp
    show ms (exE S.1 S.2 (vl n B) i a) (vl n (grp (std n T (exE S.1 S.2 (vl n B) i a 0 p)) (b % 100))) (S.2 + 1) = true
    have hps : p < S.2 := by omega
    rw [exE_o (show ¬ p = S.2 by omega)]
    rcases h with h | ⟨h, h' | h'⟩
    · exact ms_ex (h1 p b hps hb hbl (Or.inl h))
    · exact ms_ex (h1 p b hps hb hbl (Or.inr ⟨h, h'⟩))
    · rw [h', h, ← hg (by omega)]
      exact (ms_t _).mpr ⟨S.2, by omega, exE_0⟩
end BFS
