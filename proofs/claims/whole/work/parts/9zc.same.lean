/-! what is told of the mixes hangs on the hall's terms alone -/
section MEQ
variable {n g i x w u st : Nat} {A B : HA}
theorem m28_eq (e : EQ A B) (h2 : 2 ≤ n) : m28 n A g w = m28 n B g w := by
  unfold m28
  by_cases c : n ≤ 3
  · rw [BF_eq (g := g) (show n = 2 ∨ n = 3 by omega) e]
  · rw [if_pos c, if_pos c]
theorem m31_eq (e : EQ A B) (h2 : 2 ≤ n) : m31 n A x g = m31 n B x g := by
  unfold m31
  by_cases c : n ≤ 3
  · rw [BF_eq (g := g) (show n = 2 ∨ n = 3 by omega) e]
  · rw [if_pos c, if_pos c]
theorem mw32_eq (e : EQ A B) (h2 : 2 ≤ n) : mw32 n A g i = mw32 n B g i := by
  unfold mw32
  by_cases c : n ≤ 3
  · rw [BF_eq (g := g) (show n = 2 ∨ n = 3 by omega) e]
  · rw [if_pos c, if_pos c]
theorem m30_eq (e : EQ A B) (h : 2 ≤ n ∧ n ≤ 5) : m30 n A st u g = m30 n B st u g := by
  unfold m30
  rw [s95_i h.2 A B]
  by_cases c : n ≤ 3
  · rw [BF_eq (g := g) (show n = 2 ∨ n = 3 by omega) e]
  · rw [if_pos c, if_pos c]
end MEQ
