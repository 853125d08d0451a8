section ACO
variable {p : Program} {l : Launch} {e : Env} {R : Room} {s : State} {m : MethodId} {args : Array Value} {below : List Frame} {meth : Method} {c : Code} {Q : State → Prop} {G : a_G} {n0 s0 : Nat} {h : a_Hp} {H : Heap} {locs : List Loc} {pc : Nat} {ls : Array Slot} {st : List Value} {sc : Nat × (Nat → Int32)} {i : Nat} {lc lc' : a_Lc} {pc' : Nat} {st' : List Value} {h' : a_Hp}
theorem a_goodW : ∀ w ∈ a_W, (w.onTables && w.keeps) = true ∨ ∃ ty, w = .arrayClass ty := fun w hw => good_of_word (List.mem_filter.mp hw).2
theorem a_codeW {j : Nat} (h1 : j < 274) (h2 : j ≠ 262) : Cond.code (a_y j) (a_bytes j) (a_maxL j) (a_ret j) ∈ a_W := a_i_code (a_e_code j h1 h2)
theorem a_goodIn {j : Nat} (h1 : j < 274) (h2 : j ≠ 262) : GoodIn a_W (a_ws j) := by
  intro w hw
  rcases List.mem_cons.mp hw with rfl | hw
  · exact ⟨a_codeW h1 h2, a_goodW _ (a_codeW h1 h2)⟩
  · exact ⟨hw, a_goodW _ hw⟩
theorem a_K_same {u U : State} (hv : U.vm = u.vm) (hh : U.heap = u.heap) (h : a_K G sc u) : a_K G sc U := by
  obtain ⟨h0, h1, h2, h3, h4, h5, h6, h7, h8⟩ := h
  have hvm : u.vm.Alike U.vm := by rw [hv]; exact Vm.Alike.refl _
  refine ⟨by rw [hh]; exact h0, va_K.moved hvm h1, fun k hk => ?_, by rw [hh]; exact va_X.moved hvm h3, h4, by rw [hh]; exact va_Z.moved hvm h5, by rw [hh]; exact va_Z.moved hvm h6, va_AO.moved hvm h7, va_Nw.same rfl hv.symm h8⟩
  obtain ⟨g1, g2, g3, g4, q, g5, g6⟩ := h2 k hk
  exact ⟨by rw [hh]; exact va_O.moved hvm g1, by rw [hh]; exact va_OF.moved hvm g2, by rw [hh]; exact va_OF.moved hvm g3, by rw [hh]; exact va_T.moved hvm g4, q, g5, g6.same hv⟩
theorem a_blind (as : List Value) : FrameBlind (va_Pc (as.map (a_cv G)) (fun U => a_K G sc U ∧ a_HR G h U.heap)) := fun _ U _ _ q => ⟨q.1, a_K_same (u := U) rfl rfl q.2.1, q.2.2⟩
theorem a_pre (hK : a_K G sc s) (HR : a_HR G h H) (HS : va_S (fun q => G.1 ≤ q) s.heap H locs) (as : List Value) : ∀ U : State, U.heap = H → s.WarmedH U.vm → va_Pc (as.map (a_cv G)) (fun U => a_K G sc U ∧ a_HR G h U.heap) (as.map (a_cv G)).toArray U := by
  intro U hU hW
  refine ⟨rfl, a_K_moved hW ?_ ?_ hK, by rw [hU]; exact HR⟩
  · rw [hU, HR.1]; omega
  · intro a h1 h2
    rw [hU]
    exact HS.2.1 a h1 h2
theorem a_no3 {x : Nat × a_Lc × List Value × a_Hp} {y : (Nat × Nat × List Value × List Value) ⊕ Option Value} (h : (some (Sum.inl x) : Option a_Rs) = some (Sum.inr y)) : False := by cases h
theorem a_no4 {x : Option Value} {y : Nat × Nat × List Value × List Value} (h : (some (Sum.inr (Sum.inr x)) : Option a_Rs) = some (Sum.inr (Sum.inl y))) : False := by cases h
theorem a_no5 {x : Option Value} {y : Nat × Nat × List Value × List Value} (h : (some (Sum.inr (Sum.inl y)) : Option a_Rs) = some (Sum.inr (Sum.inr x))) : False := by cases h
/-- behind a call -/
theorem a_after {v : Option Value} {rest : List Value}
    (hr : va_Run p l e R s m args below meth c H locs (h.1.length - n0) (a_hs h - s0) (h'.1.length - h.1.length) (a_hs h' - a_hs h) (F0 m pc ls st') (rest.map (a_cv G)) (fun (st : State) (o : Outcome) (t : State) => o = .returned (v.map (a_cv G)) ∧ a_HR G h' t.heap ∧ ∀ q : Nat, q < G.1 → t.heap[q]? = st.heap[q]?) (fun q => G.1 ≤ q))
    (hm : a_Mo h h') (hN : n0 ≤ h.1.length ∧ s0 ≤ a_hs h) (HR : a_HR G h H) (HS : va_S (fun q => G.1 ≤ q) s.heap H locs) (HL : a_LR G lc ls (a_maxL i))
    (kk : a_KK p l e R s m args below meth c Q G n0 s0 i (pc + 3, lc, v.toList ++ rest, h')) :
    W p l e R s m args below meth c H locs (h.1.length - n0) (a_hs h - s0) Q (F0 m pc ls st') := by
  intro T hT X
  obtain ⟨v', st₀, t, T', L, e0, X', hL, e1, e2, ⟨ev, hHR, hold⟩, st⟩ := hr T hT X
  cases ev
  have k1 := kk T'.heap (locs ++ L) ls (by rw [e1]; exact hHR) ?_ HL
  · unfold a_WW at k1
    dsimp only at k1
    have c1 : h.1.length - n0 + (h'.1.length - h.1.length) = h'.1.length - n0 := by have := hm.1; omega
    have c2 : a_hs h - s0 + (a_hs h' - a_hs h) = a_hs h' - s0 := by have := hm.2.1; omega
    rw [c1, c2] at X'
    obtain ⟨t2, a1, b1⟩ := k1 T' rfl X'
    refine ⟨t2, st t2 ?_, b1⟩
    have e3 : ((v.toList ++ rest).map (a_cv G)) = (v.map (a_cv G)).toList ++ rest.map (a_cv G) := by cases v <;> rfl
    rw [e3] at a1
    exact a1
  · refine ⟨?_, ?_, ?_⟩
    · have h1 := HS.1
      rw [HR.1] at h1
      rw [e1, hHR.1]
      exact Nat.le_trans h1 (Nat.add_le_add_left hm.1 _)
    · intro q h1 h2
      rw [e1, hold q (by have : ¬ G.1 ≤ q := h2; omega), e0]
      exact HS.2.1 q h1 h2
    · intro q hq
      rcases List.mem_append.mp hq with h1 | h1
      · exact HS.2.2 q h1
      · exact hL q h1
theorem a_rcv_split {b : Nat} (hb : 0 < b) (hl : b ≤ st.length) {o : Nat} (ho : st[b - 1]? = some (.ref o)) : ∃ As : List Value, (st.take b).reverse = .ref o :: As ∧ As.length = b - 1 ∧ st = As.reverse ++ .ref o :: st.drop b := by
  have e1 : st.take b = st.take (b - 1) ++ [.ref o] := by
    have h1 := List.take_add_one (l := st) (i := b - 1)
    rw [ho, show b - 1 + 1 = b by omega] at h1
    exact h1
  refine ⟨(st.take (b - 1)).reverse, ?_, ?_, ?_⟩
  · rw [e1]; simp
  · simp; omega
  · rw [List.reverse_reverse]
    have := List.take_append_drop b st
    rw [e1] at this
    rw [List.append_assoc] at this
    exact this.symm
/-- a receiver's cell -/
theorem a_recv (hK : a_K G sc s) (HR : a_HR G h H) (HS : va_S (fun q => G.1 ≤ q) s.heap H locs) {j o b : Nat} (ho : st[b - 1]? = some (.ref o)) (hr : a_rcv j b st h = true) : ∃ cell : Cell, H[a_ad G o]? = some cell ∧ cell.vm.isStatics = false ∧ s.vm.findClass (a_cn (a_own j)) = some cell.cls := by
  unfold a_rcv at hr
  rw [ho] at hr
  simp only [Bool.or_eq_true, decide_eq_true_eq] at hr
  rcases hr with ⟨h1, h2, h3⟩ | ⟨h1, h2, h3, h4⟩
  · have hg := a_wl_get G h (a_lt h3)
    rw [a_cell_obj G h3] at hg
    rw [a_ad_dyn G h1]
    exact va_recv hK.2.1 HR.2.1 (a_cls _ h2) hg
  · obtain ⟨k, hk36, rfl⟩ := a_evn h2 h3 h4
    rw [a_ad_str, h1]
    obtain ⟨g1, -⟩ := hK.2.2.1 k hk36
    obtain ⟨cell, q1, q2, q3, -⟩ := g1.kept HS.2.1
    exact ⟨cell, q1, q2, q3⟩
theorem a_sm (G : a_G) (as : List Value) : (as.map (a_cv G)).reverse = as.reverse.map (a_cv G) := List.map_reverse.symm
set_option maxHeartbeats 4000000 in
theorem a_callW (C : a_Cx p R s m args meth c G sc i) {rw' : a_Rw} {j : Nat} {as rest : List Value} {v : Option Value} (hro : a_rowok i (pc, rw') = true) (hco : a_callok i (pc, rw') = true) (hs : a_step i rw' pc lc st h = some (.inr (.inl (j, pc', as, rest)))) (hN : n0 ≤ h.1.length ∧ s0 ≤ a_hs h) (hR : h'.1.length - n0 ≤ R.cells ∧ a_hs h' - s0 ≤ R.slots) (hm : a_Mo h h')
    (hM : a_Met l G sc j as h v h')
    (HR : a_HR G h H) (HS : va_S (fun q => G.1 ≤ q) s.heap H locs) (HL : a_LR G lc ls (a_maxL i)) (kk : a_KK p l e R s m args below meth c Q G n0 s0 i (pc', lc, v.toList ++ rest, h')) : a_WW p l e R s m args below meth c Q G n0 s0 h H locs pc ls st := by
  obtain ⟨ins, n, a, b, vv⟩ := rw'
  simp only [a_rowok, Bool.and_eq_true, decide_eq_true_eq] at hro
  obtain ⟨hd, hy⟩ := hro
  obtain ⟨hx, hb, hml, hown, hts, hK, hnm, hi274, hF, hLo⟩ := C
  have hS : CallFix p m c (a_bytes i) (a_maxL i) s args a_W (a_cn (a_own i)) := ⟨hx, hb, hml, hown, hts⟩
  have hsz : ls.size = a_maxL i := HL.2.1
  have hcells : h.1.length - n0 + (h'.1.length - h.1.length) ≤ R.cells ∧ a_hs h - s0 + (a_hs h' - a_hs h) ≤ R.slots := by
    have q1 := hm.1
    have q2 := hm.2.1
    omega
  have inv : ∀ {k b' pc1 : Nat} {st1 : List Value}, a_call k b' pc1 st1 = some (.inr (.inl (j, pc', as, rest))) → b' ≤ st1.length ∧ (rest.map fun v => v.category).sum ≤ 8 ∧ j = k ∧ pc' = pc1 ∧ as = (st1.take b').reverse ∧ rest = st1.drop b' := by
    intro k b' pc1 st1 q
    unfold a_call at q
    split at q
    · rename_i hc
      cases q
      exact ⟨hc.1, hc.2.1, rfl, rfl, rfl, rfl⟩
    · cases q
  cases ins
  case invokevirtual x =>
    simp only [a_say, Bool.and_eq_true, beq_iff_eq, Bool.or_eq_true] at hy
    obtain ⟨rfl, hy2⟩ := hy
    simp only [a_step] at hs
    split at hs
    · rename_i hc
      obtain ⟨ha, hb0, hrc⟩ := hc
      obtain ⟨hl, hcat, rfl, rfl, rfl, rfl⟩ := inv hs
      have hmem := a_key3_mem (hy2.resolve_left (by omega))
      obtain ⟨e1, e2, -, e4⟩ := a_e_mlv2 _ hmem
      have hlink := hts _ (a_i_mlv (a_e_mlv _ hmem))
      simp only [a_callok, Bool.or_eq_true, Bool.and_eq_true, decide_eq_true_eq, beq_iff_eq] at hco
      obtain ⟨⟨c1, c2⟩, c3⟩ := hco.resolve_left (by omega)
      have hyc := a_ycls j ha
      obtain ⟨o, ho⟩ : ∃ o, st[b - 1]? = some (.ref o) := by
        unfold a_rcv at hrc
        split at hrc
        · rename_i o q; exact ⟨o, q⟩
        · cases hrc
      obtain ⟨As, g1, g2, g3⟩ := a_rcv_split hb0 hl ho
      have hrecv := a_recv hK HR HS ho hrc
      unfold a_WW
      rw [g1] at hM
      have hini : Cond.initialized (a_cn (a_own j)) ∈ a_W := a_i_init (a_e_init _ hyc.2.1)
      have hG : GoodIn a_W (wsV (a_cn (a_own i)) x (a_y j).cls (a_y j) (a_ws j)) := by
        intro w hw
        unfold wsV at hw
        rcases List.mem_append.mp hw with hw | hw
        · have hin : w ∈ a_W := by
            simp only [List.mem_cons, List.not_mem_nil, or_false] at hw
            rcases hw with rfl | rfl | rfl | rfl
            · exact a_i_mlv (a_e_mlv _ hmem)
            · exact a_i_inst e1
            · exact a_i_sel e2
            · rw [hyc.1]; exact hini
          exact ⟨hin, a_goodW _ hin⟩
        · exact a_goodIn ha e4 w hw
      refine a_after (l := l) (va_runV (As := As.map (a_cv G)) (b := a_ad G o) hS hM (cwV (a_nal.getD j 0) hts hG rfl rfl rfl ⟨rfl, hyc.2.2.2.1, hyc.2.2.2.2, a_nal_all j ha⟩ ⟨by show a_FR j + 1 ≤ _; omega, by show 8 + (a_maxL j + 11) + a_LO j ≤ _; omega⟩) ⟨a_blind (.ref o :: As), by rw [hyc.1]; exact hrecv, a_pre hK HR HS (.ref o :: As)⟩ rfl (by rw [List.length_map, g2]; omega) hsz ?_ (lv_room (by rw [a_cat]; exact hcat)) hd hcells) hm hN HR HS HL kk
      show st.map (a_cv G) = _
      conv => lhs; rw [g3]
      rw [List.map_append, List.map_cons, a_sm]
      rfl
    · cases hs
  case invokestatic x =>
    simp only [a_say, Bool.and_eq_true, beq_iff_eq, Bool.or_eq_true] at hy
    obtain ⟨rfl, hy2⟩ := hy
    simp only [a_step] at hs
    split at hs
    · unfold a_cpy at hs
      repeat (first | (exact (a_no1 hs).elim) | (exact (a_no3 hs).elim) | split at hs)
    · rename_i ha1
      split at hs
      · rename_i ha
        obtain ⟨hl, hcat, rfl, rfl, rfl, rfl⟩ := inv hs
        rw [if_neg ha1] at hy2
        have hmem := a_key3_mem (by simpa using hy2.resolve_left (by omega))
        obtain ⟨e1, -, e4⟩ := a_e_mls2 _ hmem
        simp only [a_callok, Bool.or_eq_true, beq_iff_eq] at hco
        have hco2 := hco.resolve_left (by omega)
        rw [if_neg ha1] at hco2
        simp only [Bool.and_eq_true, decide_eq_true_eq, beq_iff_eq] at hco2
        obtain ⟨⟨c1, c2⟩, c3⟩ := hco2
        have hyc := a_ycls j ha
        unfold a_WW
        have hini : Cond.initialized (a_cn (a_own j)) ∈ a_W := a_i_init (a_e_init _ hyc.2.1)
        have hG : GoodIn a_W (va_wsS (a_cn (a_own i)) x (a_y j) (a_ws j)) := by
          intro w hw
          unfold va_wsS at hw
          rcases List.mem_append.mp hw with hw | hw
          · have hin : w ∈ a_W := by
              simp only [List.mem_cons, List.not_mem_nil, or_false] at hw
              rcases hw with rfl | rfl | rfl
              · exact a_i_mls (a_e_mls _ hmem)
              · exact a_i_stat e1
              · rw [hyc.1]; exact hini
            exact ⟨hin, a_goodW _ hin⟩
          · exact a_goodIn ha e4 w hw
        refine a_after (l := l) (va_runS (As := ((st.take b).reverse).map (a_cv G)) hS hM (va_cwS (a_nal.getD j 0) hts hG rfl rfl rfl ⟨hyc.2.2.2.1, hyc.2.2.2.2, a_nal_all j ha⟩ ⟨by show a_FR j + 1 ≤ _; omega, by show 8 + (a_maxL j + 11) + a_LO j ≤ _; omega⟩) ⟨a_blind _, a_pre hK HR HS _⟩ rfl (by rw [List.length_map, List.length_reverse, List.length_take]; omega) hsz ?_ (lv_room (by rw [a_cat]; exact hcat)) hd hcells) hm hN HR HS HL kk
        show st.map (a_cv G) = _
        rw [a_sm, List.reverse_reverse, ← List.map_append, List.take_append_drop]
      · cases hs
  case invokespecial x =>
    simp only [a_say, Bool.and_eq_true, beq_iff_eq, Bool.or_eq_true] at hy
    obtain ⟨rfl, hy2⟩ := hy
    simp only [a_step] at hs
    split at hs
    · repeat (first | (exact (a_no1 hs).elim) | (exact (a_no3 hs).elim) | split at hs)
    · rename_i ha1
      split at hs
      · rename_i hc
        obtain ⟨ha, hb0, hrc⟩ := hc
        obtain ⟨hl, hcat, rfl, rfl, rfl, rfl⟩ := inv hs
        rw [if_neg ha1] at hy2
        have hmem := a_key3_mem (by simpa using hy2.resolve_left (by omega))
        obtain ⟨e1, -, e4, e5, e6⟩ := a_e_mli2 _ hmem
        simp only [a_callok, Bool.or_eq_true, beq_iff_eq] at hco
        have hco2 := hco.resolve_left (by omega)
        rw [if_neg ha1] at hco2
        simp only [Bool.and_eq_true, decide_eq_true_eq, beq_iff_eq] at hco2
        obtain ⟨⟨c1, c2⟩, c3⟩ := hco2
        have hyc := a_ycls j ha
        obtain ⟨o, ho⟩ : ∃ o, st[b - 1]? = some (.ref o) := by
          unfold a_rcv at hrc
          split at hrc
          · rename_i o q; exact ⟨o, q⟩
          · cases hrc
        obtain ⟨As, g1, g2, g3⟩ := a_rcv_split hb0 hl ho
        unfold a_WW
        rw [g1] at hM
        have hini := hts _ (a_i_init (a_e_init _ hyc.2.1))
        have hw0 : a_ws j = Cond.code (a_y j) (a_bytes j) (a_maxL j) none :: a_W := by unfold a_ws; rw [e6]
        have hstk : st.map (a_cv G) = (As.map (a_cv G)).reverse ++ .ref (a_ad G o) :: (st.drop b).map (a_cv G) := by
          conv => lhs; rw [g3]
          rw [List.map_append, List.map_cons, a_sm]
          rfl
        rcases a_e_mli _ hmem with hn | hsm
        · simp only [Prod.mk.injEq] at hn
          obtain ⟨n1, rfl, rfl⟩ := hn
          have hnest := hK.2.2.2.2.2.2.2.2
          refine a_after (l := l) (va_runIN (host := "PreCommitHall") (index := 51) (As := As.map (a_cv G)) (b := a_ad G o) hS hM ⟨va_cnB (a_nal.getD _ 0) hts (a_goodIn ha e4) hw0 rfl rfl (by rw [n1]; exact hnest) (by rw [hyc.1]; exact hini) ⟨hyc.2.2.2.1, hyc.2.2.2.2, a_nal_all _ ha⟩ ⟨by dsimp only; omega, by dsimp only; omega⟩, e5, hts _ (a_i_inst e1)⟩ ⟨a_blind (.ref o :: As), a_pre hK HR HS (.ref o :: As)⟩ rfl (by rw [List.length_map, g2]; omega) hsz hstk (lv_room (by rw [a_cat]; exact hcat)) hd hcells) hm hN HR HS HL kk
        · refine a_after (l := l) (va_runI (As := As.map (a_cv G)) (b := a_ad G o) hS hM (cwI (a_nal.getD j 0) hts (a_goodIn ha e4) hw0 rfl rfl (by rw [hyc.1]; exact hini) (hts _ (a_i_mli hsm)) (hts _ (a_i_inst e1)) e5 ⟨hyc.2.2.2.1, hyc.2.2.2.2, a_nal_all j ha⟩ ⟨by show a_FR j + 1 ≤ _; omega, by show 8 + (a_maxL j + 11) + a_LO j ≤ _; omega⟩) ⟨a_blind (.ref o :: As), a_pre hK HR HS (.ref o :: As)⟩ rfl (by rw [List.length_map, g2]; omega) hsz hstk (lv_room (by rw [a_cat]; exact hcat)) hd hcells) hm hN HR HS HL kk
      · cases hs
  case ireturn =>
    simp only [a_step] at hs
    repeat (first | (exact (a_no1 hs).elim) | (exact (a_no4 hs).elim) | split at hs)
  case areturn =>
    simp only [a_step] at hs
    repeat (first | (exact (a_no1 hs).elim) | (exact (a_no4 hs).elim) | split at hs)
  case return_ =>
    simp only [a_step] at hs
    repeat (first | (exact (a_no1 hs).elim) | (exact (a_no4 hs).elim) | split at hs)
  all_goals first
    | (exact (a_no1 hs).elim)
    | (exact (a_no3 hs).elim)
    | (simp only [a_step, a_ldi, a_ldl, a_lda, a_sti, a_sta, a_op2, a_opd, a_getf, a_putf, a_ld, a_stx, a_newo, a_newa, a_alen] at hs
       repeat (first | (exact (a_no1 hs).elim) | (exact (a_no3 hs).elim) | split at hs))
/-- a return: what it says -/
theorem a_retW {rw' : a_Rw} {v : Option Value} (hro : a_rowok i (pc, rw') = true) (hs : a_step i rw' pc lc st h = some (.inr (.inr v))) : a_End i pc v ∧ st = v.toList := by
  obtain ⟨ins, n, a, b, vv⟩ := rw'
  simp only [a_rowok, Bool.and_eq_true, decide_eq_true_eq] at hro
  obtain ⟨hd, hy⟩ := hro
  cases ins
  case ireturn =>
    simp only [a_say, beq_iff_eq] at hy; subst hy
    simp only [a_step] at hs
    split at hs
    · rename_i x ty hr
      split at hs
      · rename_i hn
        cases hs
        exact ⟨⟨hd, ty, hr, hn⟩, rfl⟩
      · cases hs
    · cases hs
  case areturn =>
    simp only [a_say, beq_iff_eq] at hy; subst hy
    simp only [a_step] at hs
    split at hs
    · rename_i x ty hr
      split at hs
      · rename_i hn
        cases hs
        exact ⟨⟨hd, ty, hr, hn⟩, rfl⟩
      · cases hs
    · cases hs
  case return_ =>
    simp only [a_say, beq_iff_eq] at hy; subst hy
    simp only [a_step] at hs
    split at hs
    · rename_i hr
      cases hs
      exact ⟨⟨hd, hr⟩, rfl⟩
    · cases hs
  case invokevirtual x =>
    simp only [a_step, a_call] at hs
    repeat (first | (exact (a_no1 hs).elim) | (exact (a_no5 hs).elim) | split at hs)
  case invokespecial x =>
    simp only [a_step, a_call] at hs
    repeat (first | (exact (a_no1 hs).elim) | (exact (a_no3 hs).elim) | (exact (a_no5 hs).elim) | split at hs)
  case invokestatic x =>
    simp only [a_step, a_call, a_cpy] at hs
    repeat (first | (exact (a_no1 hs).elim) | (exact (a_no3 hs).elim) | (exact (a_no5 hs).elim) | split at hs)
  all_goals first
    | (exact (a_no1 hs).elim)
    | (exact (a_no3 hs).elim)
    | (simp only [a_step, a_ldi, a_ldl, a_lda, a_sti, a_sta, a_op2, a_opd, a_getf, a_putf, a_ld, a_stx, a_newo, a_newa, a_alen] at hs
       repeat (first | (exact (a_no1 hs).elim) | (exact (a_no3 hs).elim) | split at hs))
end ACO
