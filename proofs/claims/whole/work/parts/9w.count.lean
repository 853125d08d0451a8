/-! what the two searches tell: counts -/
def ps (n m : Nat) : Nat := (if n = 2 then m / 8 % 6 * 6 + m / 8 / 6 else m / 8 % 6 * 36 + m / 8 / 6 % 6 * 6 + m / 8 / 36) * 8 + m % 8
def q3 (f : Nat → Nat) : Nat → Nat
  | 0 => 0
  | m + 1 => if f m = 4294967295 then q3 f m else q3 f m + 1
def q4 (f : Nat → Nat) : Nat → Nat
  | 0 => 0
  | m + 1 => if f m = 4294967295 then q4 f m else if ulk m = 0 then q4 f m else q4 f m + 1
def q5 (f : Nat → Nat) : Nat → Nat
  | 0 => 4294967295
  | m + 1 => if f m = 4294967295 then q5 f m else if ulk m = 0 then q5 f m else min (q5 f m) (f m)
def q6 (f : Nat → Nat) : Nat → Nat
  | 0 => 0
  | m + 1 => if f m = 4294967295 then q6 f m else max (q6 f m) (f m)
def unp (n p : Nat) : Bool := decide (s_55 n (fun _ s => dg n p s) (ev n) &&& 48 = 48)
def ulkp (x : Nat) : Nat := if orr 4 3 0 x = 0 then 0 else if orr 5 3 0 x = 0 then 0 else 1
section CNT
variable {n g i c m z v m0 : Nat} {T A B E F : HA} {S : HA × Nat} {f f' : Nat → Nat} {D : Nat → Prop} {L : List Nat}
theorem phi_ps : phi n c / 16 = ps n (c / 16) := by
  unfold phi ps
  have e : c / 16 / 8 = c / 128 := by omega
  rw [e]
  omega
theorem ps_2 : ∀ p, p < 36 → ∀ q, q < 36 → p % 6 * 6 + p / 6 = q % 6 * 6 + q / 6 → p = q := by intro p _ q _ h; omega
theorem ps_inj {a b : Nat} (ha : a < cb n / 16) (hb : b < cb n / 16) (hn : n = 2 ∨ n = 3) (e : ps n a = ps n b) : a = b := by
  have h1 : a * 16 < cb n := by omega
  have h2 : b * 16 < cb n := by omega
  have := phi_inj h1 h2 hn ?_
  · omega
  · have e1 := phi_ps (n := n) (c := a * 16)
    have e2 := phi_ps (n := n) (c := b * 16)
    rw [Nat.mul_div_cancel _ (by omega)] at e1 e2
    have l1 : phi n (a * 16) % 16 = 0 := by
      unfold phi
      omega
    have l2 : phi n (b * 16) % 16 = 0 := by
      unfold phi
      omega
    omega
theorem rfr_far (hn : n = 2 ∨ n = 3) (hm : m < cb n / 16) : ∀ z, (∀ j, j < z → E 0 j < cb n) → rfr n E (ps n m) z = far E m z := by
  intro z
  induction z with
  | zero => intro _; rfl
  | succ z ih =>
    intro h
    have hz := h z (by omega)
    have hk : cb n = 4608 ∨ cb n = 27648 := by rcases hn with rfl | rfl <;> first | exact Or.inl rfl | exact Or.inr rfl
    have e : phi n (E 0 z) / 16 = ps n m ↔ E 0 z / 16 = m := by
      rw [phi_ps]
      exact ⟨fun q => ps_inj (by omega) hm hn q, fun q => by rw [q]⟩
    unfold rfr far
    rw [ih (fun j hj => h j (by omega))]
    by_cases y : E 0 z / 16 = m
    · by_cases w : far E m z = 4294967295
      · rw [if_pos ⟨w, e.mpr y⟩, if_pos ⟨w, y⟩]
      · rw [if_neg (fun q => w q.1), if_neg (fun q => w q.1)]
    · rw [if_neg (fun q => y (e.mp q.2)), if_neg (fun q => y q.2)]
theorem un_p (n c : Nat) : un n c = unp n (c / 128) := by
  unfold un unp
  rw [c55_0 (B := fun _ s => dg n (c / 128) s) (fun s _ => rfl)]
theorem unp2 : ∀ p, p < 36 → unp 2 p = !decide (ulkp (p % 6 * 6 + p / 6) = 0) := by decide +kernel
theorem unp3 : ∀ p, p < 216 → unp 3 p = !decide (ulkp (p % 6 * 36 + p / 6 % 6 * 6 + p / 36) = 0) := by decide +kernel
theorem un_ulk (hn : n = 2 ∨ n = 3) (hc : c < cb n) : (un n c = true) = (¬ ulk (phi n c / 16) = 0) := by
  have e : ∀ x, ulk x = ulkp (x / 8) := fun x => rfl
  rw [un_p, e]
  rcases hn with rfl | rfl
  · have hc : c < 4608 := hc
    have e2 : phi 2 c / 16 / 8 = c / 128 % 6 * 6 + c / 128 / 6 := by
      show ((c / 128 % 6 * 6 + c / 128 / 6) * 128 + c % 128) / 16 / 8 = _
      omega
    rw [e2, unp2 _ (by omega)]
    simp
  · have hc : c < 27648 := hc
    have e2 : phi 3 c / 16 / 8 = c / 128 % 6 * 36 + c / 128 / 6 % 6 * 6 + c / 128 / 36 := by
      show ((c / 128 % 6 * 36 + c / 128 / 6 % 6 * 6 + c / 128 / 36) * 128 + c % 128) / 16 / 8 = _
      omega
    rw [e2, unp3 _ (by omega)]
    simp
/-- one place of a function more -/
theorem q3_up (h0 : f m0 = 4294967295) (h1 : ¬ f' m0 = 4294967295) (h : ∀ m, ¬ m = m0 → f' m = f m) : ∀ M, q3 f' M = q3 f M + (if m0 < M then 1 else 0) := by
  intro M
  induction M with
  | zero => rfl
  | succ M ih =>
    unfold q3
    by_cases e : M = m0
    · subst e
      rw [if_neg h1, if_pos h0, ih, if_neg (Nat.lt_irrefl M), if_pos (Nat.lt_succ_self M)]
    · rw [h M e, ih]
      by_cases c : f M = 4294967295
      · rw [if_pos c, if_pos c]; congr 1; split <;> split <;> omega
      · rw [if_neg c, if_neg c]; split <;> split <;> omega
theorem q4_up (h0 : f m0 = 4294967295) (h1 : ¬ f' m0 = 4294967295) (h : ∀ m, ¬ m = m0 → f' m = f m) : ∀ M, q4 f' M = q4 f M + (if m0 < M ∧ ¬ ulk m0 = 0 then 1 else 0) := by
  intro M
  induction M with
  | zero => show 0 = 0 + _; rw [if_neg (by omega)]
  | succ M ih =>
    unfold q4
    by_cases e : M = m0
    · subst e
      rw [if_neg h1, if_pos h0, ih, if_neg (show ¬ (M < M ∧ ¬ ulk M = 0) by omega)]
      by_cases u : ulk M = 0
      · rw [if_pos u, if_neg (fun q => q.2 u)]
      · rw [if_neg u, if_pos ⟨by omega, u⟩]
    · rw [h M e, ih]
      by_cases yy : m0 < M ∧ ¬ ulk m0 = 0
      · rw [if_pos yy, if_pos (show m0 < M + 1 ∧ ¬ ulk m0 = 0 from ⟨by omega, yy.2⟩)]
        repeat' split
        all_goals omega
      · rw [if_neg yy, if_neg (show ¬ (m0 < M + 1 ∧ ¬ ulk m0 = 0) from fun q => yy ⟨by omega, q.2⟩)]
        repeat' split
        all_goals omega
theorem q5_up (h0 : f m0 = 4294967295) (h1 : ¬ f' m0 = 4294967295) (h : ∀ m, ¬ m = m0 → f' m = f m) : ∀ M, q5 f' M = if m0 < M ∧ ¬ ulk m0 = 0 then min (q5 f M) (f' m0) else q5 f M := by
  intro M
  induction M with
  | zero => rw [if_neg (by omega)]; rfl
  | succ M ih =>
    unfold q5
    by_cases e : M = m0
    · subst e
      rw [if_neg h1, if_pos h0, ih, if_neg (show ¬ (M < M ∧ ¬ ulk M = 0) by omega)]
      by_cases u : ulk M = 0
      · rw [if_pos u, if_neg (fun q => q.2 u)]
      · rw [if_neg u, if_pos ⟨by omega, u⟩]
    · rw [h M e, ih]
      by_cases yy : m0 < M ∧ ¬ ulk m0 = 0
      · rw [if_pos yy, if_pos (show m0 < M + 1 ∧ ¬ ulk m0 = 0 from ⟨by omega, yy.2⟩)]
        repeat' split
        all_goals omega
      · rw [if_neg yy, if_neg (show ¬ (m0 < M + 1 ∧ ¬ ulk m0 = 0) from fun q => yy ⟨by omega, q.2⟩)]
        repeat' split
        all_goals omega
theorem q6_up (h0 : f m0 = 4294967295) (h1 : ¬ f' m0 = 4294967295) (h : ∀ m, ¬ m = m0 → f' m = f m) : ∀ M, q6 f' M = if m0 < M then max (q6 f M) (f' m0) else q6 f M := by
  intro M
  induction M with
  | zero => rw [if_neg (by omega)]; rfl
  | succ M ih =>
    unfold q6
    by_cases e : M = m0
    · subst e
      rw [if_neg h1, if_pos h0, ih, if_neg (Nat.lt_irrefl M), if_pos (Nat.lt_succ_self M)]
    · rw [h M e, ih]
      by_cases yy : m0 < M
      · rw [if_pos yy, if_pos (show m0 < M + 1 by omega)]
        repeat' split
        all_goals omega
      · rw [if_neg yy, if_neg (show ¬ m0 < M + 1 by omega)]
theorem q_0 : ∀ M, q3 (fun _ => 4294967295) M = 0 ∧ q4 (fun _ => 4294967295) M = 0 ∧ q5 (fun _ => 4294967295) M = 4294967295 ∧ q6 (fun _ => 4294967295) M = 0 := by
  intro M
  induction M with
  | zero => exact ⟨rfl, rfl, rfl, rfl⟩
  | succ M ih =>
    unfold q3 q4 q5 q6
    rw [if_pos rfl, if_pos rfl, if_pos rfl, if_pos rfl]
    exact ih
theorem rfr_in {m : Nat} : ∀ z, ¬ rfr n E m z = 4294967295 → ∃ j, j < z ∧ phi n (E 0 j) / 16 = m := by
  intro z
  induction z with
  | zero => intro h; exact absurd rfl h
  | succ z ih =>
    intro h
    unfold rfr at h
    by_cases c : rfr n E m z = 4294967295 ∧ phi n (E 0 z) / 16 = m
    · exact ⟨z, by omega, c.2⟩
    · rw [if_neg c] at h
      obtain ⟨j, h1, h2⟩ := ih h
      exact ⟨j, by omega, h2⟩
theorem mm_le {d : Nat} : ∀ z, (∀ j, j < z → E 3 j ≤ d) → mm E z ≤ d := by
  intro z
  induction z with
  | zero => intro _; exact Nat.zero_le _
  | succ z ih =>
    intro h
    unfold mm
    split
    · exact h z (by omega)
    · exact ih (fun j hj => h j (by omega))
theorem wln_in {z : Nat} (h : ¬ wln n E z = 4294967295) : ∃ j, j < z ∧ wln n E z = min (E 3 j) 64 := by
  induction z with
  | zero => exact absurd rfl h
  | succ z ih =>
    unfold wln at h ⊢
    split
    · exact ⟨z, by omega, rfl⟩
    · rename_i q
      rw [if_neg q] at h
      obtain ⟨j, h1, h2⟩ := ih h
      exact ⟨j, by omega, h2⟩
theorem q_all (hn : n = 2 ∨ n = 3) : ∀ z, (∀ j, j < z → E 0 j < cb n ∧ E 3 j ≤ 64) → (∀ j, j + 1 < z → E 3 j ≤ E 3 (j + 1)) → q3 (fun m => rfr n E m z) 1728 = mz E z ∧ q4 (fun m => rfr n E m z) 1728 = mn n E z ∧ q5 (fun m => rfr n E m z) 1728 = wln n E z ∧ q6 (fun m => rfr n E m z) 1728 = mm E z := by
  intro z
  induction z with
  | zero => intro _ _; exact q_0 1728
  | succ z ih =>
    intro h mo
    obtain ⟨i3, i4, i5, i6⟩ := ih (fun j hj => h j (by omega)) (fun j hj => mo j (by omega))
    obtain ⟨hc, h64⟩ := h z (by omega)
    have hmono : ∀ j, j ≤ z → E 3 j ≤ E 3 z := by
      intro j hj
      have : ∀ d j, j + d = z → E 3 j ≤ E 3 z := by
        intro d
        induction d with
        | zero => intro j e; rw [show j = z by omega]; exact Nat.le_refl _
        | succ d ihd => intro j e; exact Nat.le_trans (mo j (by omega)) (ihd (j + 1) (by omega))
      exact this (z - j) j (by omega)
    have hcb2 : cb n ≤ 27648 := by unfold cb; split <;> omega
    have hp := phi_lt hc hn
    have hnw : nw E z = true ↔ rfr n E (phi n (E 0 z) / 16) z = 4294967295 := by
      have hk : cb n = 4608 ∨ cb n = 27648 := by rcases hn with rfl | rfl <;> first | exact Or.inl rfl | exact Or.inr rfl
      rw [nw_t, phi_ps, rfr_far hn (by omega) z (fun j hj => (h j (by omega)).1)]
    have hun := un_ulk hn hc
    by_cases new : nw E z = true
    · have r0 := hnw.mp new
      have r1 : rfr n E (phi n (E 0 z) / 16) (z + 1) = E 3 z := by unfold rfr; rw [if_pos ⟨r0, rfl⟩]
      have r2 : ∀ m, ¬ m = phi n (E 0 z) / 16 → rfr n E m (z + 1) = rfr n E m z := fun m hm => by
        rw [show rfr n E m (z + 1) = if rfr n E m z = 4294967295 ∧ phi n (E 0 z) / 16 = m then E 3 z else rfr n E m z from rfl, if_neg (fun q => hm q.2.symm)]
      have r3 : ¬ rfr n E (phi n (E 0 z) / 16) (z + 1) = 4294967295 := by rw [r1]; omega
      have hm : phi n (E 0 z) / 16 < 1728 := by omega
      have u3 := q3_up (f := fun m => rfr n E m z) (f' := fun m => rfr n E m (z + 1)) r0 r3 r2 1728
      have u4 := q4_up (f := fun m => rfr n E m z) (f' := fun m => rfr n E m (z + 1)) r0 r3 r2 1728
      have u5 := q5_up (f := fun m => rfr n E m z) (f' := fun m => rfr n E m (z + 1)) r0 r3 r2 1728
      have u6 := q6_up (f := fun m => rfr n E m z) (f' := fun m => rfr n E m (z + 1)) r0 r3 r2 1728
      rw [i3, if_pos hm] at u3
      rw [i4] at u4
      rw [i5, r1] at u5
      rw [i6, if_pos hm, r1] at u6
      rw [u3, u4, u5, u6]
      have e3 : mz E (z + 1) = mz E z + 1 := by rw [show mz E (z + 1) = if nw E z = true then mz E z + 1 else mz E z from rfl, if_pos new]
      have e4 : mn n E (z + 1) = if nw E z = true ∧ un n (E 0 z) = true then mn n E z + 1 else mn n E z := rfl
      have e5 : wln n E (z + 1) = if wln n E z = 4294967295 ∧ un n (E 0 z) = true then min (E 3 z) 64 else wln n E z := rfl
      have e6 : mm E (z + 1) = E 3 z := by rw [show mm E (z + 1) = if nw E z = true then E 3 z else mm E z from rfl, if_pos new]
      have hmm := mm_le (E := E) (d := E 3 z) z (fun j hj => hmono j (by omega))
      refine ⟨e3.symm, ?_, ?_, ?_⟩
      · rw [e4]
        by_cases u : un n (E 0 z) = true
        · rw [if_pos (show nw E z = true ∧ un n (E 0 z) = true from ⟨new, u⟩), if_pos (show phi n (E 0 z) / 16 < 1728 ∧ ¬ ulk (phi n (E 0 z) / 16) = 0 from ⟨hm, by rw [← hun]; exact u⟩)]
        · rw [if_neg (show ¬ (nw E z = true ∧ un n (E 0 z) = true) from fun q => u q.2), if_neg (show ¬ (phi n (E 0 z) / 16 < 1728 ∧ ¬ ulk (phi n (E 0 z) / 16) = 0) from fun q => u (by rw [hun]; exact q.2)), Nat.add_zero]
      · rw [e5]
        by_cases u : un n (E 0 z) = true
        · rw [if_pos (show phi n (E 0 z) / 16 < 1728 ∧ ¬ ulk (phi n (E 0 z) / 16) = 0 from ⟨hm, by rw [← hun]; exact u⟩)]
          by_cases w : wln n E z = 4294967295
          · rw [if_pos ⟨w, u⟩, w]; omega
          · rw [if_neg (fun q => w q.1)]
            obtain ⟨j, j1, j2⟩ := wln_in w
            have := hmono j (by omega)
            omega
        · rw [if_neg (show ¬ (phi n (E 0 z) / 16 < 1728 ∧ ¬ ulk (phi n (E 0 z) / 16) = 0) from fun q => u (by rw [hun]; exact q.2)), if_neg (show ¬ (wln n E z = 4294967295 ∧ un n (E 0 z) = true) from fun q => u q.2)]
      · rw [e6]; omega
    · have r0 : ¬ rfr n E (phi n (E 0 z) / 16) z = 4294967295 := fun q => new (hnw.mpr q)
      have r2 : (fun m => rfr n E m (z + 1)) = (fun m => rfr n E m z) := funext fun m => by
        rw [show rfr n E m (z + 1) = if rfr n E m z = 4294967295 ∧ phi n (E 0 z) / 16 = m then E 3 z else rfr n E m z from rfl, if_neg (fun q => r0 (by rw [q.2]; exact q.1))]
      rw [r2, i3, i4, i5, i6]
      have e3 : mz E (z + 1) = mz E z := by rw [show mz E (z + 1) = if nw E z = true then mz E z + 1 else mz E z from rfl, if_neg new]
      have e4 : mn n E (z + 1) = mn n E z := by rw [show mn n E (z + 1) = if nw E z = true ∧ un n (E 0 z) = true then mn n E z + 1 else mn n E z from rfl, if_neg (fun q => new q.1)]
      have e6 : mm E (z + 1) = mm E z := by rw [show mm E (z + 1) = if nw E z = true then E 3 z else mm E z from rfl, if_neg new]
      have e5 : wln n E (z + 1) = wln n E z := by
        rw [show wln n E (z + 1) = if wln n E z = 4294967295 ∧ un n (E 0 z) = true then min (E 3 z) 64 else wln n E z from rfl, if_neg]
        intro q
        obtain ⟨j, j1, j2⟩ := rfr_in z r0
        have hj := un_ulk hn (h j (by omega)).1
        rw [j2, ← hun] at hj
        exact wln_yes (n := n) (E := E) j1 (hj.symm ▸ q.2) q.1
      exact ⟨e3.symm, e4.symm, e5.symm, e6.symm⟩
end CNT
