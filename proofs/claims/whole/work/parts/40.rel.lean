/-! THE HALL IN THE ABSTRACT, the second, n apart. A w s: w 0 state, 1 life, 2 group, 3 vote, 4 weight, 5 knows; A 6 k: 1 form, 2 phase, 3 yes, 4 no, 12 limit, 13 sent; A 7 0: lines of the log, A 8 j: line j as s*100+was*10+is; A 9 k: the reference's fields (0 thrown, 7 sent, 8 failAt, 9 hasFailed, 10 drawn) -/
theorem a_up_def {α : Type} (f : Nat → Nat → α) (o k : Nat) (v : α) (a c : Nat) : a_up f o k v a c = if a = o ∧ c = k then v else f a c := by
  unfold a_up
  by_cases h1 : a = o
  · rw [if_pos h1]
    by_cases h2 : c = k
    · rw [if_pos h2, if_pos ⟨h1, h2⟩]
    · rw [if_neg h2, if_neg (fun q => h2 q.2)]
  · rw [if_neg h1, if_neg (fun q => h1 q.1)]
def lim (w : Nat) : Nat := match w with | 0 => 6 | 1 => 3 | 2 => 5 | 3 => 2 | 4 => 4 | _ => 32
def WN (n : Nat) (A : HA) : Prop := (2 ≤ n ∧ n ≤ 5) ∧ (A 6 1 < 2 ∧ A 6 2 < 4 ∧ A 6 3 < 16 ∧ A 6 4 < 16) ∧ (∀ s, s < 5 → A 0 s < 6 ∧ A 1 s < 3 ∧ A 2 s < 5 ∧ A 3 s < 2 ∧ A 4 s < 4 ∧ A 5 s < 32) ∧ A 7 0 ≤ 60 ∧ ∀ j, A 8 j < 500
theorem WN.put {n : Nat} {A : HA} (h : WN n A) {w s v : Nat} (hw : w < 6) (hv : v < lim w) : WN n (a_up A w s v) := by
  obtain ⟨h1, h2, h3, h4, h5⟩ := h
  refine ⟨h1, ?_, fun t ht => ?_, ?_, fun j => ?_⟩
  · unfold a_up
    rw [if_neg (by omega), if_neg (by omega), if_neg (by omega), if_neg (by omega)]
    exact h2
  · have q := h3 t ht
    have e : ∀ w', w' < 6 → (a_up A w s v w' t = A w' t ∨ (w' = w ∧ a_up A w s v w' t < lim w')) := fun w' _ => by
      rw [a_up_def]
      split
      · rename_i c; exact Or.inr ⟨c.1, by rw [c.1]; exact hv⟩
      · exact Or.inl rfl
    have e0 := e 0 (by omega); have e1 := e 1 (by omega); have e2 := e 2 (by omega); have e3 := e 3 (by omega); have e4 := e 4 (by omega); have e5 := e 5 (by omega)
    simp only [lim] at e0 e1 e2 e3 e4 e5
    omega
  · unfold a_up; rw [if_neg (by omega)]; exact h4
  · unfold a_up; rw [if_neg (by omega)]; exact h5 j
/-- a field that is told -/
def okf (k v : Nat) : Prop := (k = 2 ∧ v < 4) ∨ ((k = 3 ∨ k = 4) ∧ v < 16) ∨ 12 ≤ k
theorem WN.putf {n : Nat} {A : HA} (h : WN n A) {k v : Nat} (hv : okf k v) : WN n (a_up A 6 k v) := by
  obtain ⟨h1, ⟨a1, a2, a3, a4⟩, h3, h4, h5⟩ := h
  refine ⟨h1, ?_, h3, h4, h5⟩
  unfold okf at hv
  unfold a_up
  rw [if_pos rfl, if_pos rfl, if_pos rfl, if_pos rfl, if_neg (by omega)]
  refine ⟨a1, ?_, ?_, ?_⟩ <;> split <;> omega
theorem WN.off {n : Nat} {A : HA} (h : WN n A) {k v : Nat} : WN n (a_up A 9 k v) := h
/-- a line is put behind the others -/
def lad (A : HA) (v : Nat) : HA := if A 7 0 < 60 then a_up (a_up A 8 (A 7 0) v) 7 0 (A 7 0 + 1) else fun w k => if w = 8 then (if k = 59 then v else A 8 (k + 1)) else A w k
theorem lad_o (A : HA) (v : Nat) {w k : Nat} (h7 : ¬ w = 7) (h8 : ¬ w = 8) : lad A v w k = A w k := by
  unfold lad
  split
  · unfold a_up; rw [if_neg h7, if_neg h8]
  · show (if w = 8 then _ else _) = _
    rw [if_neg h8]
theorem WN.ladw {n : Nat} {A : HA} (h : WN n A) {v : Nat} (hv : v < 500) : WN n (lad A v) := by
  obtain ⟨h1, h2, h3, h4, h5⟩ := h
  refine ⟨h1, ?_, fun s hs => ?_, ?_, fun j => ?_⟩
  · simp only [lad_o A v (w := 6) (by omega) (by omega)]; exact h2
  · simp only [lad_o A v (w := 0) (by omega) (by omega), lad_o A v (w := 1) (by omega) (by omega), lad_o A v (w := 2) (by omega) (by omega), lad_o A v (w := 3) (by omega) (by omega), lad_o A v (w := 4) (by omega) (by omega), lad_o A v (w := 5) (by omega) (by omega)]
    exact h3 s hs
  · unfold lad
    split
    · show A 7 0 + 1 ≤ 60; omega
    · exact h4
  · unfold lad
    split
    · show (if j = A 7 0 then v else A 8 j) < 500
      split
      · exact hv
      · exact h5 j
    · show (if j = 59 then v else A 8 (j + 1)) < 500
      split
      · exact hv
      · exact h5 _
/-- the class's hall at b -/
def RC (M : a_Mm) (b n : Nat) (A : HA) : Prop := WN n A ∧ M b 0 = N n ∧ (∀ k, (1 ≤ k ∧ k < 5) ∨ k = 12 ∨ k = 13 → M b k = N (A 6 k)) ∧ (∀ w, w < 6 → ∀ s, s < 5 → M (b + 1 + w) s = N (A w s)) ∧ ∃ e, e < 60 ∧ M (b + 7) 1 = N e ∧ M (b + 7) 2 = N (A 7 0) ∧ ∀ j, j < A 7 0 → M (b + 8) ((e + j) % 60) = N (A 8 j)
/-- nothing but that hall is another -/
def FR (b : Nat) (M M' : a_Mm) : Prop := ∀ o k, (o < b ∨ b + 9 ≤ o) → M' o k = M o k
theorem FR.refl (b : Nat) (M : a_Mm) : FR b M M := fun _ _ _ => rfl
theorem FR.trans {b : Nat} {M M1 M2 : a_Mm} (h : FR b M M1) (g : FR b M1 M2) : FR b M M2 := fun o k q => (g o k q).trans (h o k q)
section RCS
variable {M : a_Mm} {b n : Nat} {A : HA}
theorem RC.w (r : RC M b n A) : WN n A := r.1
theorem RC.n2 (r : RC M b n A) : 2 ≤ n := r.1.1.1
theorem RC.n5 (r : RC M b n A) : n ≤ 5 := r.1.1.2
theorem RC.nn (r : RC M b n A) : M b 0 = N n := r.2.1
theorem RC.f1 (r : RC M b n A) : M b 1 = N (A 6 1) := r.2.2.1 1 (by omega)
theorem RC.f2 (r : RC M b n A) : M b 2 = N (A 6 2) := r.2.2.1 2 (by omega)
theorem RC.f3 (r : RC M b n A) : M b 3 = N (A 6 3) := r.2.2.1 3 (by omega)
theorem RC.f4 (r : RC M b n A) : M b 4 = N (A 6 4) := r.2.2.1 4 (by omega)
theorem RC.f12 (r : RC M b n A) : M b 12 = N (A 6 12) := r.2.2.1 12 (by omega)
theorem RC.f13 (r : RC M b n A) : M b 13 = N (A 6 13) := r.2.2.1 13 (by omega)
theorem RC.a0 (r : RC M b n A) {s : Nat} (hs : s < 5) : M (b + 1) s = N (A 0 s) := r.2.2.2.1 0 (by omega) s hs
theorem RC.a1 (r : RC M b n A) {s : Nat} (hs : s < 5) : M (b + 2) s = N (A 1 s) := r.2.2.2.1 1 (by omega) s hs
theorem RC.a2 (r : RC M b n A) {s : Nat} (hs : s < 5) : M (b + 3) s = N (A 2 s) := r.2.2.2.1 2 (by omega) s hs
theorem RC.a3 (r : RC M b n A) {s : Nat} (hs : s < 5) : M (b + 4) s = N (A 3 s) := r.2.2.2.1 3 (by omega) s hs
theorem RC.a4 (r : RC M b n A) {s : Nat} (hs : s < 5) : M (b + 5) s = N (A 4 s) := r.2.2.2.1 4 (by omega) s hs
theorem RC.a5 (r : RC M b n A) {s : Nat} (hs : s < 5) : M (b + 6) s = N (A 5 s) := r.2.2.2.1 5 (by omega) s hs
theorem WN.b0 (w : WN n A) {s : Nat} (hs : s < 5) : A 0 s ≤ 5 := by have := w.2.2.1 s hs; omega
theorem WN.b1 (w : WN n A) {s : Nat} (hs : s < 5) : A 1 s ≤ 2 := by have := w.2.2.1 s hs; omega
theorem WN.b2 (w : WN n A) {s : Nat} (hs : s < 5) : A 2 s ≤ 4 := by have := w.2.2.1 s hs; omega
theorem WN.b3 (w : WN n A) {s : Nat} (hs : s < 5) : A 3 s ≤ 1 := by have := w.2.2.1 s hs; omega
theorem WN.b4 (w : WN n A) {s : Nat} (hs : s < 5) : A 4 s ≤ 3 := by have := w.2.2.1 s hs; omega
theorem WN.b5 (w : WN n A) {s : Nat} (hs : s < 5) : A 5 s ≤ 31 := by have := w.2.2.1 s hs; omega
theorem WN.f1 (w : WN n A) : A 6 1 ≤ 1 := by have := w.2.1; omega
theorem WN.f2 (w : WN n A) : A 6 2 ≤ 3 := by have := w.2.1; omega
theorem WN.f3 (w : WN n A) : A 6 3 ≤ 15 := by have := w.2.1; omega
theorem WN.f4 (w : WN n A) : A 6 4 ≤ 15 := by have := w.2.1; omega
theorem RC.puta (r : RC M b n A) {w s v : Nat} (hw : w < 6) (hv : v < lim w) : RC (a_up M (b + 1 + w) s (N v)) b n (a_up A w s v) := by
  obtain ⟨h1, h2, h3, h4, e, he, h5, h6, h7⟩ := r
  refine ⟨h1.put hw hv, ?_, fun k hk => ?_, fun w' hw' s' hs' => ?_, e, he, ?_, ?_, fun j hj => ?_⟩
  · unfold a_up; rw [if_neg (by omega)]; exact h2
  · unfold a_up; rw [if_neg (by omega), if_neg (by omega)]; exact h3 k hk
  · unfold a_up
    by_cases h1 : w' = w
    · subst h1
      rw [if_pos rfl, if_pos rfl]
      split
      · rfl
      · exact h4 w' hw' s' hs'
    · rw [if_neg (by omega), if_neg h1]
      exact h4 w' hw' s' hs'
  · unfold a_up; rw [if_neg (by omega)]; exact h5
  · unfold a_up; rw [if_neg (by omega), if_neg (by omega)]; exact h6
  · have hj' : j < A 7 0 := by unfold a_up at hj; rw [if_neg (by omega)] at hj; exact hj
    unfold a_up; rw [if_neg (by omega), if_neg (by omega)]; exact h7 j hj'
theorem RC.putf (r : RC M b n A) {k v : Nat} (hk : ¬ k = 0) (hv : okf k v) : RC (a_up M b k (N v)) b n (a_up A 6 k v) := by
  obtain ⟨h1, h2, h3, h4, e, he, h5, h6, h7⟩ := r
  refine ⟨h1.putf hv, ?_, fun j hj => ?_, fun w' hw' s' hs' => ?_, e, he, ?_, ?_, fun j hj => ?_⟩
  · unfold a_up; rw [if_pos rfl, if_neg (by omega)]; exact h2
  · unfold a_up
    rw [if_pos rfl, if_pos rfl]
    split
    · rfl
    · exact h3 j hj
  · unfold a_up; rw [if_neg (by omega), if_neg (by omega)]; exact h4 w' hw' s' hs'
  · unfold a_up; rw [if_neg (by omega)]; exact h5
  · unfold a_up; rw [if_neg (by omega), if_neg (by omega)]; exact h6
  · unfold a_up; rw [if_neg (by omega), if_neg (by omega)]; exact h7 j hj
theorem FR.put {w s : Nat} {x : Int32} (hw : w < 9) : FR b M (a_up M (b + w) s x) := fun o k h => by unfold a_up; rw [if_neg (by omega)]
theorem RC.same (r : RC M b n A) {M' : a_Mm} (h : ∀ o k, b ≤ o → o < b + 9 → M' o k = M o k) : RC M' b n A := by
  obtain ⟨h1, h2, h3, h4, e, he, h5, h6, h7⟩ := r
  exact ⟨h1, (h b 0 (by omega) (by omega)).trans h2, fun k hk => (h b k (by omega) (by omega)).trans (h3 k hk), fun w hw s hs => (h _ s (by omega) (by omega)).trans (h4 w hw s hs), e, he, (h _ _ (by omega) (by omega)).trans h5, (h _ _ (by omega) (by omega)).trans h6, fun j hj => (h _ _ (by omega) (by omega)).trans (h7 j hj)⟩
/-- a line of the log, in the class -/
theorem RC.ladr (r : RC M b n A) {v e : Nat} (hv : v < 500) (e60 : e < 60) (he : M (b + 7) 1 = N e) (hl : ∀ j, j < A 7 0 → M (b + 8) ((e + j) % 60) = N (A 8 j)) {M' : a_Mm} (hM : M' = if A 7 0 < 60 then a_up (a_up M (b + 8) ((e + A 7 0) % 60) (N v)) (b + 7) 2 (N (A 7 0 + 1)) else a_up (a_up M (b + 8) ((e + A 7 0) % 60) (N v)) (b + 7) 1 (N ((e + 1) % 60))) : RC M' b n (lad A v) := by
  obtain ⟨h1, h2, h3, h4, -, -, -, h6, -⟩ := r
  have h60 := h1.2.2.2.1
  subst hM
  have ho : ∀ o k, (o < b + 7 ∨ b + 9 ≤ o) → (if A 7 0 < 60 then a_up (a_up M (b + 8) ((e + A 7 0) % 60) (N v)) (b + 7) 2 (N (A 7 0 + 1)) else a_up (a_up M (b + 8) ((e + A 7 0) % 60) (N v)) (b + 7) 1 (N ((e + 1) % 60))) o k = M o k := fun o k hk => by
    split <;> (unfold a_up; rw [if_neg (by omega), if_neg (by omega)])
  refine ⟨h1.ladw hv, (ho _ _ (by omega)).trans h2, fun k hk => (ho _ _ (by omega)).trans ((h3 k hk).trans (by rw [lad_o A v (by omega) (by omega)])), fun w hw s hs => (ho _ _ (by omega)).trans ((h4 w hw s hs).trans (by rw [lad_o A v (by omega) (by omega)])), ?_⟩
  by_cases c : A 7 0 < 60
  · rw [if_pos c]
    unfold lad
    rw [if_pos c]
    refine ⟨e, e60, ?_, ?_, fun j hj => ?_⟩
    · unfold a_up; rw [if_pos rfl, if_neg (by omega), if_neg (by omega)]; exact he
    · unfold a_up; rw [if_pos rfl, if_pos rfl]; rfl
    · have hj' : j < A 7 0 + 1 := hj
      show a_up (a_up M (b + 8) ((e + A 7 0) % 60) (N v)) (b + 7) 2 (N (A 7 0 + 1)) (b + 8) ((e + j) % 60) = N (if j = A 7 0 then v else A 8 j)
      unfold a_up
      rw [if_neg (by omega), if_pos rfl]
      by_cases q : j = A 7 0
      · rw [if_pos (by rw [q]), if_pos q]
      · rw [if_neg (by omega), if_neg q]
        exact hl j (by omega)
  · rw [if_neg c]
    have e7 : A 7 0 = 60 := by omega
    unfold lad
    rw [if_neg c]
    refine ⟨(e + 1) % 60, Nat.mod_lt _ (by omega), ?_, ?_, fun j hj => ?_⟩
    · unfold a_up; rw [if_pos rfl, if_pos rfl]
    · unfold a_up; rw [if_pos rfl, if_neg (by omega), if_neg (by omega)]; exact h6
    · have hj' : j < 60 := by have : j < A 7 0 := hj; omega
      show a_up (a_up M (b + 8) ((e + A 7 0) % 60) (N v)) (b + 7) 1 (N ((e + 1) % 60)) (b + 8) (((e + 1) % 60 + j) % 60) = N (if j = 59 then v else A 8 (j + 1))
      unfold a_up
      rw [if_neg (by omega), if_pos rfl]
      by_cases q : j = 59
      · rw [if_pos (by omega), if_pos q]
      · rw [if_neg (by omega), if_neg q, show ((e + 1) % 60 + j) % 60 = (e + (j + 1)) % 60 by omega]
        exact hl (j + 1) (by omega)
end RCS
/-- the reference's hall -/
def RM (M : a_Mm) (n : Nat) (A : HA) : Prop := WN n A ∧ M 171 0 = N n ∧ (∀ k, 1 ≤ k → k < 5 → M 171 k = N (A 6 k)) ∧ (∀ w, w < 6 → ∀ s, s < n → M 171 (5 + 6 * s + w) = N (A w s)) ∧ M 171 35 = N (A 7 0) ∧ (∀ j, j < A 7 0 → M 171 (36 + 3 * j) = N (A 8 j / 100) ∧ M 171 (36 + 3 * j + 1) = N (A 8 j / 10 % 10) ∧ M 171 (36 + 3 * j + 2) = N (A 8 j % 10)) ∧ ∀ k, k = 0 ∨ (7 ≤ k ∧ k ≤ 10) → M 170 k = N (A 9 k)
def FM (M M' : a_Mm) : Prop := ∀ o k, (o < 170 ∨ 171 < o ∨ (o = 170 ∧ ¬ k = 0 ∧ (k < 7 ∨ 10 < k)) ∨ (o = 171 ∧ 216 ≤ k)) → M' o k = M o k
theorem FM.refl (M : a_Mm) : FM M M := fun _ _ _ => rfl
theorem FM.trans {M M1 M2 : a_Mm} (h : FM M M1) (g : FM M1 M2) : FM M M2 := fun o k q => (g o k q).trans (h o k q)
section RMS
variable {M : a_Mm} {n : Nat} {A : HA}
theorem RM.w (r : RM M n A) : WN n A := r.1
theorem RM.n2 (r : RM M n A) : 2 ≤ n := r.1.1.1
theorem RM.n5 (r : RM M n A) : n ≤ 5 := r.1.1.2
theorem RM.nn (r : RM M n A) : M 171 0 = N n := r.2.1
theorem RM.f1 (r : RM M n A) : M 171 1 = N (A 6 1) := r.2.2.1 1 (by omega) (by omega)
theorem RM.f2 (r : RM M n A) : M 171 2 = N (A 6 2) := r.2.2.1 2 (by omega) (by omega)
theorem RM.f3 (r : RM M n A) : M 171 3 = N (A 6 3) := r.2.2.1 3 (by omega) (by omega)
theorem RM.f4 (r : RM M n A) : M 171 4 = N (A 6 4) := r.2.2.1 4 (by omega) (by omega)
theorem RM.f35 (r : RM M n A) : M 171 35 = N (A 7 0) := r.2.2.2.2.1
theorem RM.g (r : RM M n A) {k : Nat} (hk : k = 0 ∨ (7 ≤ k ∧ k ≤ 10)) : M 170 k = N (A 9 k) := r.2.2.2.2.2.2 k hk
theorem RM.at (r : RM M n A) {w s : Nat} (hw : w < 6) (hs : s < n) : M 171 (5 + 6 * s + w) = N (A w s) := r.2.2.2.1 w hw s hs
theorem RM.puta (r : RM M n A) {w s v : Nat} (hw : w < 6) (hs : s < n) (hv : v < lim w) : RM (a_up M 171 (5 + 6 * s + w) (N v)) n (a_up A w s v) := by
  have n5 := r.n5
  obtain ⟨h1, h2, h3, h4, h5, h6, h7⟩ := r
  refine ⟨h1.put hw hv, ?_, fun k hk hk5 => ?_, fun w' hw' s' hs' => ?_, ?_, fun j hj => ?_, fun k hk => ?_⟩
  · unfold a_up; rw [if_pos rfl, if_neg (by omega)]; exact h2
  · unfold a_up; rw [if_pos rfl, if_neg (by omega), if_neg (by omega)]; exact h3 k hk hk5
  · unfold a_up
    rw [if_pos rfl]
    by_cases e1 : w' = w
    · subst e1
      rw [if_pos rfl]
      by_cases e2 : s' = s
      · subst e2
        rw [if_pos rfl, if_pos rfl]
      · rw [if_neg (by omega), if_neg e2]
        exact h4 w' hw' s' hs'
    · rw [if_neg (by omega), if_neg e1]
      exact h4 w' hw' s' hs'
  · unfold a_up; rw [if_pos rfl, if_neg (by omega), if_neg (by omega)]; exact h5
  · have hj' : j < A 7 0 := by unfold a_up at hj; rw [if_neg (by omega)] at hj; exact hj
    unfold a_up; rw [if_pos rfl, if_neg (by omega), if_neg (by omega), if_pos rfl, if_neg (by omega), if_pos rfl, if_neg (by omega)]; exact h6 j hj'
  · unfold a_up; rw [if_neg (by omega), if_neg (by omega)]; exact h7 k hk
theorem RM.putf (r : RM M n A) {k v : Nat} (hk : 1 ≤ k ∧ k < 5) (hv : okf k v) : RM (a_up M 171 k (N v)) n (a_up A 6 k v) := by
  obtain ⟨h1, h2, h3, h4, h5, h6, h7⟩ := r
  refine ⟨h1.putf hv, ?_, fun j hj hj5 => ?_, fun w' hw' s' hs' => ?_, ?_, fun j hj => ?_, fun k hk => ?_⟩
  · unfold a_up; rw [if_pos rfl, if_neg (by omega)]; exact h2
  · unfold a_up
    rw [if_pos rfl, if_pos rfl]
    split
    · rfl
    · exact h3 j hj hj5
  · unfold a_up; rw [if_pos rfl, if_neg (by omega), if_neg (by omega)]; exact h4 w' hw' s' hs'
  · unfold a_up; rw [if_pos rfl, if_neg (by omega), if_neg (by omega)]; exact h5
  · unfold a_up; rw [if_pos rfl, if_neg (by omega), if_neg (by omega), if_pos rfl, if_neg (by omega), if_pos rfl, if_neg (by omega)]; exact h6 j hj
  · unfold a_up; rw [if_neg (by omega), if_neg (by omega)]; exact h7 k hk
theorem RM.putg (r : RM M n A) {k v : Nat} : RM (a_up M 170 k (N v)) n (a_up A 9 k v) := by
  obtain ⟨h1, h2, h3, h4, h5, h6, h7⟩ := r
  refine ⟨h1, ?_, fun j hj hj5 => ?_, fun w' hw' s' hs' => ?_, ?_, fun j hj => ?_, fun k' hk => ?_⟩
  · unfold a_up; rw [if_neg (by omega)]; exact h2
  · unfold a_up; rw [if_neg (by omega), if_neg (by omega)]; exact h3 j hj hj5
  · unfold a_up; rw [if_neg (by omega), if_neg (by omega)]; exact h4 w' hw' s' hs'
  · unfold a_up; rw [if_neg (by omega), if_neg (by omega)]; exact h5
  · unfold a_up; rw [if_neg (by omega), if_neg (by omega), if_neg (by omega), if_neg (by omega)]; exact h6 j hj
  · unfold a_up; rw [if_pos rfl, if_pos rfl]
    split
    · rfl
    · exact h7 k' hk
theorem RM.same (r : RM M n A) {M' : a_Mm} (h : ∀ k, k < 216 → M' 171 k = M 171 k) (h' : ∀ k, k = 0 ∨ (7 ≤ k ∧ k ≤ 10) → M' 170 k = M 170 k) : RM M' n A := by
  have n5 := r.n5
  obtain ⟨h1, h2, h3, h4, h5, h6, h7⟩ := r
  have h60 := h1.2.2.2.1
  exact ⟨h1, (h 0 (by omega)).trans h2, fun k hk hk5 => (h k (by omega)).trans (h3 k hk hk5), fun w hw s hs => (h _ (by omega)).trans (h4 w hw s hs), (h 35 (by omega)).trans h5, fun j hj => ⟨(h _ (by omega)).trans (h6 j hj).1, (h _ (by omega)).trans (h6 j hj).2.1, (h _ (by omega)).trans (h6 j hj).2.2⟩, fun k hk => (h' k hk).trans (h7 k hk)⟩
/-- what counts of a hall -/
def EA (n : Nat) (A B : HA) : Prop := (∀ k, 1 ≤ k → k < 5 → A 6 k = B 6 k) ∧ (∀ w, w < 6 → ∀ s, s < n → A w s = B w s) ∧ A 7 0 = B 7 0 ∧ ∀ j, j < A 7 0 → A 8 j = B 8 j
end RMS
