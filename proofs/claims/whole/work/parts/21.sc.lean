/-! NO STEP THAT DOESN'T LOOK AT THE SCRIPT HANGS ON IT -/
def a_wsc (sc : Nat × (Nat → Int32)) (h : a_Hp) : a_Hp := (h.1, h.2.1, h.2.2.1, sc)
def a_rsc (sc : Nat × (Nat → Int32)) (r : a_Rs) : a_Rs := match r with
  | .inl (p, l, s, h) => .inl (p, l, s, a_wsc sc h)
  | .inr x => .inr x
theorem a_in0 (x : Int32) : a_in x (0 - 1) = false := by
  simp [a_in]
theorem a_call_sc {sc : Nat × (Nat → Int32)} {k b pc : Nat} {st : List Value} {r : a_Rs} (hs : a_call k b pc st = some r) : a_call k b pc st = some (a_rsc sc r) := by
  unfold a_call at hs ⊢
  split at hs
  · rename_i q
    rw [if_pos q]
    cases hs; rfl
  · cases hs
set_option maxHeartbeats 4000000 in
theorem a_step_sc (sc : Nat × (Nat → Int32)) {i : Nat} {rw' : a_Rw} {pc : Nat} {lc : a_Lc} {st : List Value} {h : a_Hp} {r : a_Rs} (h0 : h.2.2.2.1 = 0) (hs : a_step i rw' pc lc st h = some r) : a_step i rw' pc lc st (a_wsc sc h) = some (a_rsc sc r) := by
  obtain ⟨sh, mr, mi, L0, xs0⟩ := h
  have h0' : L0 = 0 := h0
  subst h0'
  obtain ⟨ins, n, a, b, v⟩ := rw'
  cases ins
  case iaload =>
    simp only [a_step, a_wsc] at hs ⊢
    unfold a_ld at hs ⊢
    dsimp only at hs ⊢
    split at hs
    · split at hs
      · rename_i ho
        split at hs
        · rename_i hc
          rw [if_pos hc]
          split at hs
          · first | (cases hs; rfl) | (exfalso; omega)
          · first | (cases hs; rfl) | (exfalso; omega)
        · cases hs
      · rename_i ho
        rw [a_in0] at hs
        split at hs
        · rename_i hc; exact absurd hc.2.2 (by simp)
        · split at hs
          · rename_i hc; exact absurd hc.1 (by simp)
          · cases hs
    · cases hs
  case baload =>
    simp only [a_step, a_wsc] at hs ⊢
    unfold a_ld at hs ⊢
    dsimp only at hs ⊢
    split at hs
    · split at hs
      · rename_i ho
        split at hs
        · rename_i hc
          rw [if_pos hc]
          split at hs
          · first | (cases hs; rfl) | (exfalso; omega)
          · first | (cases hs; rfl) | (exfalso; omega)
        · cases hs
      · rename_i ho
        split at hs
        · rename_i hc; exact absurd hc.1 (by simp)
        · split at hs
          · rename_i hc
            rw [if_neg (by simp), if_pos hc]
            cases hs; rfl
          · cases hs
    · cases hs
  case aaload =>
    simp only [a_step, a_wsc] at hs ⊢
    unfold a_ld at hs ⊢
    dsimp only at hs ⊢
    split at hs
    · split at hs
      · rename_i ho
        split at hs
        · rename_i hc
          rw [if_pos hc]
          split at hs
          · first | (cases hs; rfl) | (exfalso; omega)
          · first | (cases hs; rfl) | (exfalso; omega)
        · cases hs
      · rename_i ho
        split at hs
        · rename_i hc; exact absurd hc.1 (by simp)
        · split at hs
          · rename_i hc; exact absurd hc.1 (by simp)
          · cases hs
    · cases hs
  case arraylength =>
    simp only [a_step, a_wsc] at hs ⊢
    unfold a_alen at hs ⊢
    dsimp only at hs ⊢
    split at hs
    · split at hs
      · rename_i ho
        split at hs
        · rename_i hc
          rw [if_pos hc]
          cases hs; rfl
        · cases hs
      · rename_i ho
        split at hs
        · rename_i hc; exact absurd rfl hc.2
        · split at hs
          · rename_i hc
            rw [if_neg (by
              rintro ⟨e, -⟩
              have h1 := hc.1
              rw [e] at h1
              simp [a_CB] at h1), if_pos hc]
            cases hs; rfl
          · cases hs
    · cases hs
  case invokespecial x =>
    simp only [a_step] at hs ⊢
    by_cases h1 : a = 1000
    · rw [if_pos h1] at hs ⊢
      split at hs
      · split at hs
        · rename_i q
          refine (if_pos q).trans ?_
          cases hs; rfl
        · cases hs
      · cases hs
    · rw [if_neg h1] at hs ⊢
      by_cases hc : a < 274 ∧ 0 < b ∧ a_rcv a b st (sh, mr, mi, 0, xs0) = true
      · rw [if_pos hc] at hs
        refine (if_pos (show a < 274 ∧ 0 < b ∧ a_rcv a b st (a_wsc sc (sh, mr, mi, 0, xs0)) = true from hc)).trans ?_
        exact a_call_sc hs
      · rw [if_neg hc] at hs
        cases hs
  case invokevirtual x =>
    simp only [a_step] at hs ⊢
    by_cases hc : a < 274 ∧ 0 < b ∧ a_rcv a b st (sh, mr, mi, 0, xs0) = true
    · rw [if_pos hc] at hs
      refine (if_pos (show a < 274 ∧ 0 < b ∧ a_rcv a b st (a_wsc sc (sh, mr, mi, 0, xs0)) = true from hc)).trans ?_
      exact a_call_sc hs
    · rw [if_neg hc] at hs
      cases hs
  all_goals first
    | (cases hs; done)
    | (cases hs; rfl)
    | (simp only [a_step, a_wsc] at hs ⊢
       (try unfold a_ldi at hs ⊢); (try unfold a_ldl at hs ⊢); (try unfold a_lda at hs ⊢); (try unfold a_sti at hs ⊢); (try unfold a_sta at hs ⊢); (try unfold a_op2 at hs ⊢); (try unfold a_opd at hs ⊢); (try unfold a_getf at hs ⊢); (try unfold a_putf at hs ⊢); (try unfold a_stx at hs ⊢); (try unfold a_newo at hs ⊢); (try unfold a_newa at hs ⊢); (try unfold a_cpy at hs ⊢); (try unfold a_call at hs ⊢); (try rw [show a_rcv a b st (sh, mr, mi, sc) = a_rcv a b st (sh, mr, mi, 0, xs0) from rfl])
       (try dsimp only at hs ⊢)
       repeat (first | (exact (a_no1 hs).elim) | (cases hs; rfl) | (split at hs <;> (try (rename_i q; first | rw [if_pos q] | rw [if_neg q])))))

theorem a_ex_sc (sc : Nat × (Nat → Int32)) : ∀ (f : Nat) {i pc : Nat} {lc : a_Lc} {st : List Value} {h : a_Hp} {v : Option Value} {h' : a_Hp}, h.2.2.2.1 = 0 → a_ex f i pc lc st h = some (v, h') → a_ex f i pc lc st (a_wsc sc h) = some (v, a_wsc sc h') := by
  intro f
  induction f with
  | zero => intro i pc lc st h v h' _ hs; cases hs
  | succ f ih =>
    intro i pc lc st h v h' h0 hs
    unfold a_ex at hs ⊢
    cases e1 : a_ins i pc with
    | none => rw [e1] at hs; cases hs
    | some rw' =>
      rw [e1] at hs
      dsimp only at hs ⊢
      cases e2 : a_step i rw' pc lc st h with
      | none => rw [e2] at hs; cases hs
      | some q =>
        rw [e2] at hs
        rw [a_step_sc sc h0 e2]
        match q, e2, hs with
        | .inl (pc', lc', st', h1), e2, hs =>
          have m := a_step_mo e2
          exact ih (by rw [m.2.2]; exact h0) hs
        | .inr (.inl (j, pc', as, r')), e2, hs =>
          dsimp only [a_rsc] at hs ⊢
          cases e3 : a_ex f j 0 (a_ent j as) [] h with
          | none => rw [e3] at hs; cases hs
          | some w =>
            obtain ⟨v1, h1⟩ := w
            rw [e3] at hs
            have m := a_ex_mo f e3
            rw [ih h0 e3]
            exact ih (by rw [m.2.2]; exact h0) hs
        | .inr (.inr v1), e2, hs => cases hs; rfl
