theorem s195_15o {n l1 l2 w k : Nat} (hw : ¬ w = 5) : ∀ d (A : HA) l3, s_195_15 n d A l1 l2 l3 w k = A w k := by
  intro d
  induction d with
  | zero => intro A l3; rfl
  | succ d ih =>
    intro A l3
    unfold s_195_15
    split
    · exact a_up_o hw
    · split
      · rw [ih, a_up_o hw]
      · exact ih _ _
theorem s195_o {n s w k : Nat} (A : HA) (h1 : ¬ w = 1) (h5 : ¬ w = 5) : s_195 n A s w k = A w k := by
  unfold s_195
  rw [s195_15o h5, a_up_o h1]
theorem s195_f1 (n : Nat) (A : HA) (s : Nat) : s_195 n A s 6 1 = A 6 1 := s195_o A (by omega) (by omega)
