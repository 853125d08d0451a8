section AMA
variable {p : Program} {l : Launch} {e : Env} {R : Room} {s : State} {m : MethodId} {args : Array Value} {below : List Frame} {meth : Method} {c : Code} {Q : State → Prop} {G : a_G} {n0 s0 : Nat} {h : a_Hp} {H : Heap} {locs : List Loc} {pc : Nat} {ls : Array Slot} {st : List Value} {sc : Nat × (Nat → Int32)} {i : Nat} {lc lc' : a_Lc} {pc' : Nat} {st' : List Value} {h' : a_Hp}
theorem a_lookup {α : Type} {k : Nat} {x : α} : ∀ {L : List (Nat × α)}, L.lookup k = some x → (k, x) ∈ L
  | [], h => by cases h
  | (a, b) :: L, h => by
    rw [List.lookup_cons] at h
    split at h
    · rename_i e
      have e' : k = a := by simpa using e
      subst e'
      cases h
      exact List.mem_cons_self
    · exact List.mem_cons_of_mem _ (a_lookup h)
theorem a_ins_ok {i pc : Nat} {rw' : a_Rw} (h : a_ins i pc = some rw') : a_rowok i (pc, rw') = true ∧ a_callok i (pc, rw') = true ∧ i < 274 := by
  unfold a_ins at h
  have h1 := a_lookup h
  cases e : a_codes[i]? with
  | none => rw [e] at h1; cases h1
  | some L =>
    rw [e] at h1
    have hi : i < 274 := by
      have := (List.getElem?_eq_some_iff.mp e).1
      rw [a_codes_len] at this
      exact this
    refine ⟨a_allok i L e _ h1, ?_, hi⟩
    have h2 := List.all_eq_true.mp a_callok_all i (List.mem_range.mpr hi)
    rw [List.getD_eq_getElem?_getD, e] at h2
    exact List.all_eq_true.mp h2 _ h1
theorem a_slots_len (G : a_G) : ∀ as : List Value, (lg_sl (as.map (a_cv G))).length = (a_slots as).length
  | [] => rfl
  | v :: as => by
    have ih := a_slots_len G as
    unfold lg_sl at ih ⊢
    rw [List.map_cons, List.flatMap_cons, List.length_append, ih, a_cv_cat]
    show _ = (if v.category = 2 then some v :: none :: a_slots as else some v :: a_slots as).length
    split
    · simp; omega
    · simp; omega
theorem a_args (G : a_G) : ∀ (as : List Value) (off k : Nat) (v : Value), (a_slots as)[k]? = some (some v) → (off + k, a_cv G v) ∈ lv_args off (as.map (a_cv G))
  | [], _, _, _, h => by simp [a_slots] at h
  | w :: as, off, k, v, h => by
    rw [List.map_cons]
    unfold lv_args
    rw [a_cv_cat]
    unfold a_slots at h
    split at h
    · rename_i hc
      rw [if_pos hc]
      match k with
      | 0 => simp at h; subst h; exact List.mem_cons_self
      | 1 => simp at h
      | k + 2 =>
        have h1 : (a_slots as)[k]? = some (some v) := by simpa using h
        have := a_args G as (off + 2) k v h1
        rw [show off + (k + 2) = off + 2 + k by omega]
        exact List.mem_cons_of_mem _ this
    · rename_i hc
      rw [if_neg hc]
      match k with
      | 0 => simp at h; subst h; exact List.mem_cons_self
      | k + 1 =>
        have h1 : (a_slots as)[k]? = some (some v) := by simpa using h
        have := a_args G as (off + 1) k v h1
        rw [show off + (k + 1) = off + 1 + k by omega]
        exact List.mem_cons_of_mem _ this
theorem a_entLR (G : a_G) {j : Nat} {as : List Value} (hl : (a_slots as).length ≤ a_maxL j) : a_LR G (a_ent j as) ((lg_sl (as.map (a_cv G)) ++ List.replicate (a_maxL j - (lg_sl (as.map (a_cv G))).length) Slot.unset).toArray) (a_maxL j) := by
  have hv := lv_entry (as.map (a_cv G)) (n := a_maxL j) (by rw [a_slots_len]; exact hl)
  refine ⟨?_, hv.1, hv.2.1, fun k v hk => ?_⟩
  · unfold a_ent
    rw [List.length_append, List.length_replicate]
    omega
  · refine hv.2.2 (k, a_cv G v) ?_
    unfold a_ent at hk
    by_cases hlt : k < (a_slots as).length
    · rw [List.getElem?_append_left hlt] at hk
      have := a_args G as 0 k v hk
      rw [Nat.zero_add] at this
      exact this
    · rw [List.getElem?_append_right (by omega)] at hk
      have h2 := List.mem_of_getElem? hk
      rw [List.mem_replicate] at h2
      cases h2.2
/-- frames -/
def a_A (l : Launch) (G : a_G) (sc : Nat × (Nat → Int32)) (f : Nat) : Prop :=
  ∀ {p : Program} {e : Env} {R : Room} {s : State} {m : MethodId} {args : Array Value} {below : List Frame} {meth : Method} {c : Code} {Q : State → Prop} {n0 s0 i pc : Nat} {lc : a_Lc} {st : List Value} {h : a_Hp} {v : Option Value} {h' : a_Hp} {H : Heap} {locs : List Loc} {ls : Array Slot},
    a_Cx p R s m args meth c G sc i → a_ex f i pc lc st h = some (v, h') → h.2.2.2 = sc → n0 ≤ h.1.length ∧ s0 ≤ a_hs h → h'.1.length - n0 ≤ R.cells ∧ a_hs h' - s0 ≤ R.slots → a_HR G h H → va_S (fun q => G.1 ≤ q) s.heap H locs → a_LR G lc ls (a_maxL i) →
    (∀ (H' : Heap) (locs' : List Loc) (ls' : Array Slot) (pc' : Nat), a_HR G h' H' → va_S (fun q => G.1 ≤ q) s.heap H' locs' → a_End i pc' v → a_WW p l e R s m args below meth c Q G n0 s0 h' H' locs' pc' ls' v.toList) →
    a_WW p l e R s m args below meth c Q G n0 s0 h H locs pc ls st
def a_B (l : Launch) (G : a_G) (sc : Nat × (Nat → Int32)) (f : Nat) : Prop :=
  ∀ {j : Nat} {as : List Value} {h : a_Hp} {v : Option Value} {h' : a_Hp}, j < 274 → j ≠ 262 → (a_slots as).length ≤ a_maxL j → h.2.2.2 = sc → a_ex f j 0 (a_ent j as) [] h = some (v, h') → a_Met l G sc j as h v h'
theorem a_AB {f : Nat} (hA : a_A l G sc f) : a_B l G sc f := by
  intro j as h v h' hj hne hl hsc hex
  have hyc := a_ycls j hj
  refine a_ofW (cc := a_bytes j) (maxL := a_maxL j) (ret := a_ret j) hyc.2.2.1 rfl ?_
  intro p e s m args below meth c s₁ B hml hP
  obtain ⟨rfl, hK, HR⟩ := hP
  have hown : s.vm.findClass (a_y j).cls = some m.cls := findClass_of_methodNamed B.named
  rw [hyc.1] at hown
  have hts : ∀ w ∈ a_ws j, w.before (as.map (a_cv G)).toArray s = true := atoms_spec (ws := a_ws j) B.pre
  have hnm : meth.name = a_nm j := by rw [a_nmy j hj]; exact (name_of_methodNamed B.named B.method).1
  have C : a_Cx p (headSpec (a_ws j) { frames := a_FR j, cells := h'.1.length - h.1.length, slots := a_hs h' - a_hs h, locals := a_LO j }).room s m (as.map (a_cv G)).toArray meth c G sc j :=
    ⟨B.exec, B.bytes, hml, hown, fun w hw => hts w (List.mem_cons_of_mem _ hw), hK, fun q => hnm.trans q, hj, Nat.le_refl _, Nat.le_refl _⟩
  rw [lg_entry_eq]
  have k1 := hA (p := p) (e := e) (below := below) (Q := MQ below (fun (_ : Array Value) (st : State) (o : Outcome) (t : State) => o = .returned (v.map (a_cv G)) ∧ a_HR G h' t.heap ∧ ∀ q : Nat, q < G.1 → t.heap[q]? = st.heap[q]?) (as.map (a_cv G)).toArray s (h'.1.length - h.1.length) (a_hs h' - a_hs h) (fun q => G.1 ≤ q)) (n0 := h.1.length) (s0 := a_hs h) C hex hsc ⟨Nat.le_refl _, Nat.le_refl _⟩ ⟨Nat.le_refl _, Nat.le_refl _⟩ HR (va_S.rf (A := fun q => G.1 ≤ q)) (a_entLR G hl) ?_
  · unfold a_WW at k1
    rw [Nat.sub_self, Nat.sub_self] at k1
    exact k1
  · intro H' locs' ls' pc' HR' HS' hE
    have hq : ∀ t : State, t.heap = H' → s.WarmedH t.vm → (Outcome.returned (v.map (a_cv G)) = .returned (v.map (a_cv G)) ∧ a_HR G h' t.heap ∧ ∀ q : Nat, q < G.1 → t.heap[q]? = s.heap[q]?) := by
      intro t ht _
      refine ⟨rfl, by rw [ht]; exact HR', fun q hq => ?_⟩
      rw [ht]
      exact HS'.2.1 q (Nat.lt_of_lt_of_le hq hK.1) (by show ¬ G.1 ≤ q; omega)
    unfold a_WW
    match v, hE with
    | none, hE => exact W.vret B.exec B.bytes (B.returns.trans hE.2) hq (fun q hq => HS'.2.2 q hq) hE.1 (hlocks := B.notSynchronized)
    | some (.int x), ⟨g1, ty, g2, g3⟩ => exact W.zret (ty := ty) B.exec B.bytes (B.returns.trans g2) g3 hq (fun q hq => HS'.2.2 q hq) g1 (hlocks := B.notSynchronized)
    | some (.ref x), ⟨g1, ty, g2, g3⟩ =>
      refine W.aret (rt := ty) B.exec B.bytes (B.returns.trans g2) ?_ (Or.inr ⟨_, rfl⟩) hq (fun q hq => HS'.2.2 q hq) g1 (hlocks := B.notSynchronized)
      unfold a_fits at g3
      split at g3
      · exact Or.inl ⟨_, rfl⟩
      · exact Or.inr ⟨_, rfl⟩
      · cases g3
theorem a_callee {i pc : Nat} {rw' : a_Rw} {j pc' : Nat} {as rest : List Value} (hro : a_rowok i (pc, rw') = true) (hs : a_step i rw' pc lc st h = some (.inr (.inl (j, pc', as, rest)))) : j < 274 ∧ j ≠ 262 ∧ (a_slots as).length ≤ a_maxL j := by
  obtain ⟨ins, n, a, b, vv⟩ := rw'
  simp only [a_rowok, Bool.and_eq_true, decide_eq_true_eq] at hro
  obtain ⟨hd, hy⟩ := hro
  have inv : ∀ {k b' pc1 : Nat} {st1 : List Value}, a_call k b' pc1 st1 = some (.inr (.inl (j, pc', as, rest))) → j = k ∧ (a_slots as).length ≤ a_maxL j := by
    intro k b' pc1 st1 q
    unfold a_call at q
    split at q
    · rename_i hc
      cases q
      exact ⟨rfl, hc.2.2⟩
    · cases q
  cases ins
  case invokevirtual x =>
    simp only [a_say, Bool.and_eq_true, beq_iff_eq, Bool.or_eq_true] at hy
    obtain ⟨rfl, hy2⟩ := hy
    simp only [a_step] at hs
    split at hs
    · rename_i hc
      obtain ⟨rfl, h2⟩ := inv hs
      have hmem := a_key3_mem (hy2.resolve_left (by omega))
      exact ⟨hc.1, (a_e_mlv2 _ hmem).2.2.2, h2⟩
    · cases hs
  case invokestatic x =>
    simp only [a_say, Bool.and_eq_true, beq_iff_eq, Bool.or_eq_true] at hy
    obtain ⟨rfl, hy2⟩ := hy
    simp only [a_step] at hs
    split at hs
    · unfold a_cpy at hs
      repeat (first | (exact (a_no1 hs).elim) | (exact (a_no3 hs).elim) | split at hs)
    · rename_i ha1
      split at hs
      · rename_i hc
        obtain ⟨rfl, h2⟩ := inv hs
        rw [if_neg ha1] at hy2
        have hmem := a_key3_mem (by simpa using hy2.resolve_left (by omega))
        exact ⟨hc, (a_e_mls2 _ hmem).2.2, h2⟩
      · cases hs
  case invokespecial x =>
    simp only [a_say, Bool.and_eq_true, beq_iff_eq, Bool.or_eq_true] at hy
    obtain ⟨rfl, hy2⟩ := hy
    simp only [a_step] at hs
    split at hs
    · repeat (first | (exact (a_no1 hs).elim) | (exact (a_no3 hs).elim) | split at hs)
    · rename_i ha1
      split at hs
      · rename_i hc
        obtain ⟨rfl, h2⟩ := inv hs
        rw [if_neg ha1] at hy2
        have hmem := a_key3_mem (by simpa using hy2.resolve_left (by omega))
        exact ⟨hc.1, (a_e_mli2 _ hmem).2.2.1, h2⟩
      · cases hs
  case ireturn =>
    simp only [a_step] at hs
    repeat (first | (exact (a_no1 hs).elim) | (exact (a_no4 hs).elim) | split at hs)
  case areturn =>
    simp only [a_step] at hs
    repeat (first | (exact (a_no1 hs).elim) | (exact (a_no4 hs).elim) | split at hs)
  case return_ =>
    simp only [a_step] at hs
    repeat (first | (exact (a_no1 hs).elim) | (exact (a_no4 hs).elim) | split at hs)
  all_goals first
    | (exact (a_no1 hs).elim)
    | (exact (a_no3 hs).elim)
    | (simp only [a_step, a_ldi, a_ldl, a_lda, a_sti, a_sta, a_op2, a_opd, a_getf, a_putf, a_ld, a_stx, a_newo, a_newa, a_alen] at hs
       repeat (first | (exact (a_no1 hs).elim) | (exact (a_no3 hs).elim) | split at hs))
/-- every run of the abstract machine is a run of the machine -/
theorem a_main (l : Launch) (G : a_G) (sc : Nat × (Nat → Int32)) : ∀ f, a_A l G sc f := by
  intro f
  induction f with
  | zero => intro p e R s m args below meth c Q n0 s0 i pc lc st h v h' H locs ls C hex; cases hex
  | succ f ih =>
    intro p e R s m args below meth c Q n0 s0 i pc lc st h v h' H locs ls C hex hsc hN hR HR HS HL kret
    unfold a_ex at hex
    split at hex
    · cases hex
    · rename_i rw' hi
      obtain ⟨hro, hco, -⟩ := a_ins_ok hi
      split at hex
      · cases hex
      · rename_i pc' lc' st' h1 hs
        have m1 := a_step_mo hs
        have m2 := a_ex_mo f hex
        refine a_stepW C hro hco hs hsc hN ⟨by have := m2.1; dsimp only; omega, by have := m2.2.1; dsimp only; omega⟩ HR HS HL ?_
        intro H1 locs1 ls1 HR1 HS1 HL1
        exact ih C hex (m1.2.2.trans hsc) ⟨Nat.le_trans hN.1 m1.1, Nat.le_trans hN.2 m1.2.1⟩ hR HR1 HS1 HL1 kret
      · rename_i j pc' as rest hs
        split at hex
        · cases hex
        · rename_i v1 h1 e1
          have m1 := a_ex_mo f e1
          have m2 := a_ex_mo f hex
          obtain ⟨c1, c2, c3⟩ := a_callee hro hs
          refine a_callW C hro hco hs hN ⟨by have := m2.1; omega, by have := m2.2.1; omega⟩ m1 (a_AB ih c1 c2 c3 hsc e1) HR HS HL ?_
          intro H1 locs1 ls1 HR1 HS1 HL1
          exact ih C hex (m1.2.2.trans hsc) ⟨Nat.le_trans hN.1 m1.1, Nat.le_trans hN.2 m1.2.1⟩ hR HR1 HS1 HL1 kret
      · rename_i v1 hs
        cases hex
        obtain ⟨g1, g2⟩ := a_retW hro hs
        rw [g2]
        exact kret H locs ls pc HR HS g1
end AMA
