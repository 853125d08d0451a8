/-! what the class and the reference hold between two calls -/
def INV (M : a_Mm) (n : Nat) (A B : HA) (nx sz : Nat) (U : Nat → Nat × HA) (gi : Nat → Nat) (xi : Nat → Nat × HA) (f : Nat) (T : Nat → Nat) (ff : Nat → Nat) : Prop :=
  (RC M 1 n A ∧ RM M n B ∧ EQ A B ∧ NR n A) ∧ (PS M nx sz U ∧ DS M sz U ∧ ∀ i, i < sz → NR (U i).1 (U i).2) ∧ (∀ i, i < 2 → IC M i (gi i) (xi i) ∧ IR M i (gi i) (xi i) ∧ (gi i = 1 → NR (xi i).1 (xi i).2)) ∧ (TC M f T ∧ TR M f T) ∧ (∀ j, j < 3 → M 141 (4 + j) = N (ff j) ∧ M 170 (21 + j) = N (ff j) ∧ ff j < 4294967296) ∧ CM M
section IVS
variable {M M' : a_Mm} {n nx sz i g f : Nat} {A B : HA} {U : Nat → Nat × HA} {x : Nat × HA} {T : Nat → Nat}
theorem IC.same (h : IC M i g x) (hi : i < 2) (e : ∀ o k, 120 ≤ o → o < 140 → M' o k = M o k) : IC M' i g x := by
  obtain ⟨h1, h2, h3⟩ := h
  refine ⟨(e _ _ (by omega) (by omega)).trans h1, h2, fun hg => ?_⟩
  obtain ⟨B, b1, b2⟩ := h3 hg
  exact ⟨B, b1, b2.same (fun o k q1 q2 => e o k (by omega) (by omega))⟩
theorem IR.same (h : IR M i g x) (e5 : ∀ k, M' 175 k = M 175 k) (e : ∀ k, 216 ≤ k → M' 171 k = M 171 k) : IR M' i g x := by
  obtain ⟨h1, h2, h3⟩ := h
  refine ⟨(e5 _).trans h1, h2, fun hg => ?_⟩
  have := h3 hg
  rw [show (fun k => M' 171 (216 * (i + 1) + k)) = (fun k => M 171 (216 * (i + 1) + k)) from funext fun k => e _ (by omega)]
  exact this
theorem TC.same (h : TC M f T) (e0 : M' 0 6 = M 0 6) (e : ∀ k, M' 140 k = M 140 k) : TC M' f T := ⟨h.1, e0.trans h.2.1, fun k hk => (e k).trans (h.2.2 k hk)⟩
theorem TR.same (h : TR M f T) (e0 : M' 170 18 = M 170 18) (e : ∀ k, M' 181 k = M 181 k) : TR M' f T := ⟨h.1, e0.trans h.2.1, fun k hk => ⟨(h.2.2 k hk).1, (e k).trans (h.2.2 k hk).2⟩⟩
/-- a past with equal halls -/
theorem DS.eq {V : Nat → Nat × HA} (h : DS M sz U) (e : ∀ i, i < sz → (U i).1 = (V i).1 ∧ EQ (U i).2 (V i).2) : DS M sz V := by
  obtain ⟨h1, h2, h3⟩ := h
  refine ⟨h1, h2, fun i hi => ?_⟩
  obtain ⟨q1, q2⟩ := e i hi
  rw [← q1]
  exact (h3 i hi).eq q2
/-- one more in the past -/
theorem psh_eq (e : EQ A B) : ∀ i, i < pss sz → (psh U sz (n, A) i).1 = (psh U sz (n, B) i).1 ∧ EQ (psh U sz (n, A) i).2 (psh U sz (n, B) i).2 := by
  intro i _
  unfold psh
  by_cases c : sz < 10
  · rw [if_pos c, if_pos c]
    by_cases d : i = sz
    · rw [if_pos d, if_pos d]; exact ⟨rfl, e⟩
    · rw [if_neg d, if_neg d]; exact ⟨rfl, EQ.refl _⟩
  · rw [if_neg c, if_neg c]
    by_cases d : i = 9
    · rw [if_pos d, if_pos d]; exact ⟨rfl, e⟩
    · rw [if_neg d, if_neg d]; exact ⟨rfl, EQ.refl _⟩
theorem psh_nr (h : ∀ i, i < sz → NR (U i).1 (U i).2) (hs : sz ≤ 10) (a : NR n A) : ∀ i, i < pss sz → NR (psh U sz (n, A) i).1 (psh U sz (n, A) i).2 := by
  intro i hi
  unfold pss at hi
  unfold psh
  by_cases c : sz < 10
  · rw [if_pos c] at hi ⊢
    by_cases d : i = sz
    · rw [if_pos d]; exact a
    · rw [if_neg d]; exact h i (by omega)
  · rw [if_neg c] at hi ⊢
    by_cases d : i = 9
    · rw [if_pos d]; exact a
    · rw [if_neg d]; exact h (i + 1) (by omega)
end IVS
