/-! writes to a hall, in the abstract -/
theorem RH.putf {M : a_Mm} {b : Nat} {A : HA} (r : RH M b A) {k : Nat} (hk : k < 5) (v : Nat) : RH (a_up M b k (N v)) b (a_up A 6 k v) := by
  refine ⟨fun j hj => ?_, fun w hw s hs => ?_⟩
  · unfold a_up
    rw [if_pos rfl, if_pos rfl]
    split
    · rfl
    · exact r.1 j hj
  · unfold a_up
    rw [if_neg (by omega), if_neg (by omega)]
    exact r.2 w hw s hs
theorem RH.puta {M : a_Mm} {b : Nat} {A : HA} (r : RH M b A) {w s : Nat} (hw : w < 6) (v : Nat) : RH (a_up M (b + 1 + w) s (N v)) b (a_up A w s v) := by
  refine ⟨fun j hj => ?_, fun w' hw' s' hs' => ?_⟩
  · unfold a_up
    rw [if_neg (by omega), if_neg (by omega)]
    exact r.1 j hj
  · unfold a_up
    by_cases h1 : w' = w
    · subst h1
      rw [if_pos rfl, if_pos rfl]
      split
      · rfl
      · exact r.2 w' hw' s' hs'
    · rw [if_neg (by omega), if_neg h1]
      exact r.2 w' hw' s' hs'
theorem RH.off {M : a_Mm} {b : Nat} {A : HA} (r : RH M b A) {o k : Nat} {x : Int32} (h : (o = b ∧ 5 ≤ k) ∨ o < b ∨ b + 7 ≤ o) : RH (a_up M o k x) b A := by
  refine ⟨fun j hj => ?_, fun w hw s hs => ?_⟩
  · unfold a_up
    by_cases h1 : b = o
    · rw [if_pos h1, if_neg (by omega)]
      exact r.1 j hj
    · rw [if_neg h1]
      exact r.1 j hj
  · unfold a_up
    rw [if_neg (by omega)]
    exact r.2 w hw s hs
theorem RH.same {M M' : a_Mm} {b : Nat} {A : HA} (r : RH M b A) (h : ∀ o k, b ≤ o → o < b + 7 → M' o k = M o k) : RH M' b A := by
  refine ⟨fun j hj => ?_, fun w hw s hs => ?_⟩
  · rw [h b j (by omega) (by omega)]
    exact r.1 j hj
  · rw [h (b + 1 + w) s (by omega) (by omega)]
    exact r.2 w hw s hs
theorem RR.putf {M : a_Mm} {A : HA} (r : RR M A) {k : Nat} (h0 : 0 < k) (hk : k < 5) (v : Nat) : RR (a_up M 171 k (N v)) (a_up A 6 k v) := by
  refine ⟨fun j hj => ?_, fun w hw s hs => ?_⟩
  · unfold a_up
    rw [if_pos rfl, if_pos rfl]
    split
    · rfl
    · exact r.1 j hj
  · unfold a_up at hs ⊢
    rw [if_pos rfl, if_neg (by omega), if_neg (by omega)]
    rw [if_pos rfl, if_neg (by omega)] at hs
    exact r.2 w hw s hs
theorem RR.puta {M : a_Mm} {A : HA} (r : RR M A) {w s : Nat} (hw : w < 6) (v : Nat) : RR (a_up M 171 (5 + 6 * s + w) (N v)) (a_up A w s v) := by
  refine ⟨fun j hj => ?_, fun w' hw' s' hs' => ?_⟩
  · unfold a_up
    rw [if_pos rfl, if_neg (by omega), if_neg (by omega)]
    exact r.1 j hj
  · unfold a_up at hs' ⊢
    rw [if_neg (by omega)] at hs'
    rw [if_pos rfl]
    by_cases h1 : w' = w
    · subst h1
      rw [if_pos rfl]
      by_cases h2 : s' = s
      · subst h2
        rw [if_pos rfl, if_pos rfl]
      · rw [if_neg (by omega), if_neg h2]
        exact r.2 w' hw' s' hs'
    · rw [if_neg (by omega), if_neg h1]
      exact r.2 w' hw' s' hs'
theorem RR.off {M : a_Mm} {A : HA} (r : RR M A) {o k : Nat} {x : Int32} (h : ¬ o = 171 ∨ 35 ≤ k) (h5 : A 6 0 ≤ 5) : RR (a_up M o k x) A := by
  refine ⟨fun j hj => ?_, fun w hw s hs => ?_⟩
  · unfold a_up
    by_cases h1 : 171 = o
    · rw [if_pos h1, if_neg (by omega)]
      exact r.1 j hj
    · rw [if_neg h1]
      exact r.1 j hj
  · unfold a_up
    by_cases h1 : 171 = o
    · rw [if_pos h1, if_neg (by omega)]
      exact r.2 w hw s hs
    · rw [if_neg h1]
      exact r.2 w hw s hs
