/-! fewer locals known: a run stays a run when the dropped locals come back -/
def a_lcp (l : a_Lc) (r : a_Rs) : a_Rs := match r with
  | .inl (p, _, s, h) => .inl (p, l, s, h)
  | .inr x => .inr x
def a_loc (ins : Instr) : Bool := match ins with
  | .iload _ => true | .iload_n _ => true | .lload _ => true | .lload_n _ => true | .aload _ => true | .aload_n _ => true
  | .istore _ => true | .istore_n _ => true | .astore _ => true | .astore_n _ => true | .iinc _ _ => true | _ => false
theorem a_nx_lcp (l : a_Lc) (pc : Nat) (st : List Value) (h : a_Hp) : a_nx pc l st h = (a_nx pc [] st h).map (a_lcp l) := rfl
theorem a_call_lcp (l : a_Lc) (k b pc : Nat) (st : List Value) : a_call k b pc st = (a_call k b pc st).map (a_lcp l) := by
  unfold a_call
  split <;> rfl
theorem a_op2_lcp (l : a_Lc) (f : Int32 → Int32 → Int32) (pc : Nat) (st : List Value) (h : a_Hp) : a_op2 f pc l st h = (a_op2 f pc [] st h).map (a_lcp l) := by
  unfold a_op2
  repeat' split
  all_goals rfl
theorem a_opd_lcp (l : a_Lc) (f : Int32 → Int32 → Int32) (pc : Nat) (st : List Value) (h : a_Hp) : a_opd f pc l st h = (a_opd f pc [] st h).map (a_lcp l) := by
  unfold a_opd
  repeat' split
  all_goals rfl
theorem a_getf_lcp (l : a_Lc) (c k pc : Nat) (st : List Value) (h : a_Hp) : a_getf c k pc l st h = (a_getf c k pc [] st h).map (a_lcp l) := by
  unfold a_getf
  repeat' split
  all_goals rfl
theorem a_putf_lcp (l : a_Lc) (c k pc : Nat) (st : List Value) (h : a_Hp) : a_putf c k pc l st h = (a_putf c k pc [] st h).map (a_lcp l) := by
  unfold a_putf
  repeat' split
  all_goals rfl
theorem a_ld_lcp (l : a_Lc) (t pc : Nat) (st : List Value) (h : a_Hp) : a_ld t pc l st h = (a_ld t pc [] st h).map (a_lcp l) := by
  unfold a_ld
  repeat' split
  all_goals rfl
theorem a_stx_lcp (l : a_Lc) (t pc : Nat) (st : List Value) (h : a_Hp) : a_stx t pc l st h = (a_stx t pc [] st h).map (a_lcp l) := by
  unfold a_stx
  repeat' split
  all_goals rfl
theorem a_newo_lcp (l : a_Lc) (c pc : Nat) (st : List Value) (h : a_Hp) : a_newo c pc l st h = (a_newo c pc [] st h).map (a_lcp l) := by
  unfold a_newo
  repeat' split
  all_goals rfl
theorem a_newa_lcp (l : a_Lc) (c pc : Nat) (st : List Value) (h : a_Hp) : a_newa c pc l st h = (a_newa c pc [] st h).map (a_lcp l) := by
  unfold a_newa
  repeat' split
  all_goals rfl
theorem a_alen_lcp (l : a_Lc) (pc : Nat) (st : List Value) (h : a_Hp) : a_alen pc l st h = (a_alen pc [] st h).map (a_lcp l) := by
  unfold a_alen
  repeat' split
  all_goals rfl
theorem a_cpy_lcp (l : a_Lc) (pc : Nat) (st : List Value) (h : a_Hp) : a_cpy pc l st h = (a_cpy pc [] st h).map (a_lcp l) := by
  unfold a_cpy
  repeat' split
  all_goals rfl
set_option maxHeartbeats 2000000 in
theorem a_step_lcp (l : a_Lc) {i : Nat} {ins : Instr} {n a b : Nat} {v : Int32} {pc : Nat} {st : List Value} {h : a_Hp} (hn : a_loc ins = false) : a_step i (ins, n, a, b, v) pc l st h = (a_step i (ins, n, a, b, v) pc [] st h).map (a_lcp l) := by
  cases ins <;> first
    | (exfalso; exact Bool.noConfusion hn)
    | rfl
    | (simp only [a_step]; first | exact a_nx_lcp l _ _ _ | exact a_op2_lcp l _ _ _ _ | exact a_opd_lcp l _ _ _ _ | exact a_getf_lcp l _ _ _ _ _ | exact a_putf_lcp l _ _ _ _ _ | exact a_ld_lcp l _ _ _ _ | exact a_stx_lcp l _ _ _ _ | exact a_newo_lcp l _ _ _ _ | exact a_newa_lcp l _ _ _ _ | exact a_alen_lcp l _ _ _ | (repeat' split) <;> first | rfl | exact a_cpy_lcp l _ _ _ | exact a_call_lcp l _ _ _ _)
theorem a_wk.refl (l : a_Lc) : a_wk l l := ⟨rfl, fun _ => Or.inl rfl⟩
def a_rw (r r' : a_Rs) : Prop := match r, r' with
  | .inl (p, l, s, h), .inl (p', l', s', h') => p = p' ∧ a_wk l l' ∧ s = s' ∧ h = h'
  | .inr x, .inr y => x = y
  | _, _ => False
theorem a_sl_rw {l l' : a_Lc} (w : a_wk l l') (r : a_Rs) : a_rw (a_lcp l r) (a_lcp l' r) := by
  cases r with
  | inl q => exact ⟨rfl, w, rfl, rfl⟩
  | inr x => exact rfl
theorem a_ldi_wk {k : Nat} {l l' : a_Lc} (w : a_wk l l') {pc : Nat} {st : List Value} {h : a_Hp} {r : a_Rs} (hs : a_ldi k pc l st h = some r) : ∃ r', a_ldi k pc l' st h = some r' ∧ a_rw r r' := by
  unfold a_ldi at hs ⊢
  split at hs
  · rename_i x e
    rw [w.get e]
    cases hs
    exact ⟨_, rfl, rfl, w, rfl, rfl⟩
  · cases hs
theorem a_ldl_wk {k : Nat} {l l' : a_Lc} (w : a_wk l l') {pc : Nat} {st : List Value} {h : a_Hp} {r : a_Rs} (hs : a_ldl k pc l st h = some r) : ∃ r', a_ldl k pc l' st h = some r' ∧ a_rw r r' := by
  unfold a_ldl at hs ⊢
  split at hs
  · rename_i x e
    rw [w.get e]
    cases hs
    exact ⟨_, rfl, rfl, w, rfl, rfl⟩
  · cases hs
theorem a_lda_wk {k : Nat} {l l' : a_Lc} (w : a_wk l l') {pc : Nat} {st : List Value} {h : a_Hp} {r : a_Rs} (hs : a_lda k pc l st h = some r) : ∃ r', a_lda k pc l' st h = some r' ∧ a_rw r r' := by
  unfold a_lda at hs ⊢
  split at hs
  · rename_i x e
    rw [w.get e]
    cases hs
    exact ⟨_, rfl, rfl, w, rfl, rfl⟩
  · cases hs
theorem a_sti_wk {k : Nat} {l l' : a_Lc} (w : a_wk l l') {pc : Nat} {st : List Value} {h : a_Hp} {r : a_Rs} (hs : a_sti k pc l st h = some r) : ∃ r', a_sti k pc l' st h = some r' ∧ a_rw r r' := by
  unfold a_sti at hs ⊢
  split at hs
  · split at hs
    · rename_i hf
      rw [if_pos (w.free hf)]
      cases hs
      exact ⟨_, rfl, rfl, w.set _ _, rfl, rfl⟩
    · cases hs
  · cases hs
theorem a_sta_wk {k : Nat} {l l' : a_Lc} (w : a_wk l l') {pc : Nat} {st : List Value} {h : a_Hp} {r : a_Rs} (hs : a_sta k pc l st h = some r) : ∃ r', a_sta k pc l' st h = some r' ∧ a_rw r r' := by
  unfold a_sta at hs ⊢
  split at hs
  · split at hs
    · rename_i hf
      rw [if_pos (w.free hf)]
      cases hs
      exact ⟨_, rfl, rfl, w.set _ _, rfl, rfl⟩
    · cases hs
  · cases hs
theorem a_step_wk {i : Nat} {rw' : a_Rw} {pc : Nat} {l l' : a_Lc} (w : a_wk l l') {st : List Value} {h : a_Hp} {r : a_Rs} (hs : a_step i rw' pc l st h = some r) : ∃ r', a_step i rw' pc l' st h = some r' ∧ a_rw r r' := by
  obtain ⟨ins, n, a, b, v⟩ := rw'
  cases hl : a_loc ins with
  | false =>
    rw [a_step_lcp l hl] at hs
    rw [a_step_lcp l' hl]
    cases e : a_step i (ins, n, a, b, v) pc [] st h with
    | none => rw [e] at hs; cases hs
    | some q =>
      rw [e] at hs
      cases hs
      exact ⟨_, rfl, a_sl_rw w q⟩
  | true =>
    cases ins <;> first
      | (exfalso; exact Bool.noConfusion hl)
      | (simp only [a_step] at hs ⊢; first | exact a_ldi_wk w hs | exact a_ldl_wk w hs | exact a_lda_wk w hs | exact a_sti_wk w hs | exact a_sta_wk w hs | skip)
    rename_i k z
    split at hs
    · rename_i x e
      rw [w.get e]
      dsimp only
      split at hs
      · rename_i hf
        rw [if_pos (w.free hf)]
        cases hs
        exact ⟨_, rfl, rfl, w.set _ _, rfl, rfl⟩
      · cases hs
    · cases hs
theorem a_ex_wk : ∀ (f : Nat) {i pc : Nat} {l l' : a_Lc} {st : List Value} {h : a_Hp} {q : Option Value × a_Hp}, a_wk l l' → a_ex f i pc l st h = some q → a_ex f i pc l' st h = some q
  | 0, _, _, _, _, _, _, _, _, e => by cases e
  | f + 1, i, pc, l, l', st, h, q, w, e => by
    unfold a_ex at e ⊢
    split at e
    · cases e
    · rename_i rw' hi
      split at e
      · cases e
      · rename_i pc' lc' st' h' hs
        obtain ⟨r', e1, e2⟩ := a_step_wk w hs
        rw [e1]
        obtain ⟨p2, l2, s2, h2⟩ | r2 := r'
        · obtain ⟨c1, c2, c3, c4⟩ := e2
          subst c1; subst c3; subst c4
          exact a_ex_wk f c2 e
        · exact absurd e2 id
      · rename_i j pc' as r hs
        obtain ⟨r', e1, e2⟩ := a_step_wk w hs
        rw [e1]
        obtain q2 | r2 := r'
        · exact absurd e2 id
        · have c : Sum.inl (j, pc', as, r) = r2 := e2
          subst c
          dsimp only
          split at e
          · cases e
          · rename_i v h' hx
            exact a_ex_wk f w e
      · rename_i v hs
        obtain ⟨r', e1, e2⟩ := a_step_wk w hs
        rw [e1]
        obtain q2 | r2 := r'
        · exact absurd e2 id
        · have c : Sum.inr v = r2 := e2
          subst c
          exact e
theorem x_wk {i pc : Nat} {l l' : a_Lc} {st : List Value} {h : a_Hp} {Q : Option Value → a_Hp → Prop} (w : a_wk l l') (k : a_Ex i pc l st h Q) : a_Ex i pc l' st h Q := by
  obtain ⟨f, v, h', e, hq⟩ := k
  exact ⟨f, v, h', a_ex_wk f w e, hq⟩
