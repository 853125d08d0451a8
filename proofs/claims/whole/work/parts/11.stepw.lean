section ASW
variable {p : Program} {l : Launch} {e : Env} {R : Room} {s : State} {m : MethodId} {args : Array Value} {below : List Frame} {meth : Method} {c : Code} {Q : State → Prop} {G : a_G} {n0 s0 : Nat} {h : a_Hp} {H : Heap} {locs : List Loc} {pc : Nat} {ls : Array Slot} {st : List Value} {sc : Nat × (Nat → Int32)} {i : Nat} {lc lc' : a_Lc} {pc' : Nat} {st' : List Value} {h' : a_Hp}
theorem a_s_tsw (C : a_Cx p R s m args meth c G sc i) {d lo hi : Int} {os : Array Int} {n : Nat} {x : Int32} {r : Nat × a_Lc × List Value × a_Hp} (hd : decode (a_bytes i) pc = .ok (.tableswitch d lo hi os, n)) (h1 : 0 ≤ (pc : Int) + d) (h2 : os.toList.all (fun o => decide (0 ≤ (pc : Int) + o)) = true)
    (hs : (if x.toInt < lo ∨ hi < x.toInt then a_nx ((pc : Int) + d).toNat lc st h else (match os[(x.toInt - lo).toNat]? with | some off => a_nx ((pc : Int) + off).toNat lc st h | none => none)) = some (.inl r))
    (HR : a_HR G h H) (HS : va_S (fun q => G.1 ≤ q) s.heap H locs) (HL : a_LR G lc ls (a_maxL i)) (kk : a_KK p l e R s m args below meth c Q G n0 s0 i r) : a_WW p l e R s m args below meth c Q G n0 s0 h H locs pc ls (.int x :: st) := by
  obtain ⟨hx, hb, -⟩ := C
  unfold a_WW
  rw [List.map_cons, a_cv_int]
  split at hs
  · rename_i q
    obtain rfl := a_nx_inv hs
    exact lv_tableOut hx hb hd q (by omega) (kk H locs ls HR HS HL)
  · rename_i q
    split at hs
    · rename_i off ho
      obtain rfl := a_nx_inv hs
      have h3 : 0 ≤ (pc : Int) + off := by
        have := List.all_eq_true.mp h2 off (Array.mem_toList_iff.mpr (Array.mem_of_getElem? ho))
        simpa using this
      exact lv_tableIn hx hb hd (by omega) (by omega) ho (by omega) (kk H locs ls HR HS HL)
    · exact (a_no1 hs).elim
theorem a_lsw_nonneg {d z pc : Int} (h1 : 0 ≤ pc + d) : ∀ (ps : List (Int × Int)), ps.all (fun o => decide (0 ≤ pc + o.2)) = true → 0 ≤ pc + Op.lookupswitch.offset ps d z
  | [], _ => h1
  | (k, o) :: r, h2 => by
    simp only [List.all_cons, Bool.and_eq_true, decide_eq_true_eq] at h2
    unfold Op.lookupswitch.offset
    split
    · exact h2.1
    · exact a_lsw_nonneg h1 r h2.2
theorem a_s_obj (C : a_Cx p R s m args meth c G sc i) {x o : Nat} (hd : decode (a_bytes i) pc = .ok (.invokespecial x, 3)) (hq : a_key2 (a_own i) x a_oi = true) (hr : (st.map fun v => v.category).sum ≤ 8) (hfr : 1 ≤ R.frames ∧ 20 ≤ R.locals)
    (HR : a_HR G h H) (HS : va_S (fun q => G.1 ≤ q) s.heap H locs) (HL : a_LR G lc ls (a_maxL i)) (kk : a_KK p l e R s m args below meth c Q G n0 s0 i (pc + 3, lc, st, h)) : a_WW p l e R s m args below meth c Q G n0 s0 h H locs pc ls (.ref o :: st) := by
  obtain ⟨hx, hb, hml, hown, hts, -⟩ := C
  unfold a_WW
  rw [List.map_cons, a_cv_ref]
  refine W.objInit hx hb hown (hts _ (a_i_oi (a_e_oi _ (a_key2_mem hq)))) (hts _ a_x_objI) (hts _ a_x_objC) rfl (by show ls.size = _; rw [hml]; exact HL.2.1) rfl hd hfr.1 ?_ (kk H locs ls HR HS HL)
  rw [a_cat]
  show 2 * 0 + _ + 12 ≤ _
  omega
theorem a_s_gets (C : a_Cx p R s m args meth c G sc i) {x a : Nat} {r : Nat × a_Lc × List Value × a_Hp} (hd : decode (a_bytes i) pc = .ok (.getstatic x, 3)) (hq : a_key3 (a_own i) x a_sl = some a) (hs : (if a = 0 then a_nx (pc + 3) lc (.int 1 :: st) h else a_nx (pc + 3) lc (.retAddr 0 :: st) h) = some (.inl r))
    (HR : a_HR G h H) (HS : va_S (fun q => G.1 ≤ q) s.heap H locs) (HL : a_LR G lc ls (a_maxL i)) (kk : a_KK p l e R s m args below meth c Q G n0 s0 i r) : a_WW p l e R s m args below meth c Q G n0 s0 h H locs pc ls st := by
  obtain ⟨hx, hb, hml, hown, hts, hK, -⟩ := C
  have hw := a_i_sl (a_e_sl _ (a_key3_mem hq))
  unfold a_w_sl at hw
  dsimp only at hw
  split at hs
  · rename_i ha
    rw [if_pos ha] at hw
    obtain rfl := a_nx_inv hs
    exact va_gets hx hb hK.2.2.2.2.2.1 HS hown (hts _ hw) (fun _ q => q) hd (kk H locs ls HR HS HL)
  · rename_i ha
    rw [if_neg ha] at hw
    obtain rfl := a_nx_inv hs
    have k1 := kk H locs ls HR HS HL
    unfold a_WW at k1 ⊢
    dsimp only at k1
    rw [List.map_cons, show a_cv G (.retAddr 0) = a_fmt G from rfl] at k1
    exact va_gets hx hb hK.2.2.2.2.2.2.1 HS hown (hts _ hw) (fun _ q => q) hd k1
set_option maxHeartbeats 4000000 in
theorem a_stepW (C : a_Cx p R s m args meth c G sc i) {rw' : a_Rw} {r : Nat × a_Lc × List Value × a_Hp} (hro : a_rowok i (pc, rw') = true) (hco : a_callok i (pc, rw') = true) (hs : a_step i rw' pc lc st h = some (.inl r)) (hsc : h.2.2.2 = sc) (hN : n0 ≤ h.1.length ∧ s0 ≤ a_hs h) (hR : r.2.2.2.1.length - n0 ≤ R.cells ∧ a_hs r.2.2.2 - s0 ≤ R.slots)
    (HR : a_HR G h H) (HS : va_S (fun q => G.1 ≤ q) s.heap H locs) (HL : a_LR G lc ls (a_maxL i)) (kk : a_KK p l e R s m args below meth c Q G n0 s0 i r) : a_WW p l e R s m args below meth c Q G n0 s0 h H locs pc ls st := by
  obtain ⟨ins, n, a, b, v⟩ := rw'
  simp only [a_rowok, Bool.and_eq_true, decide_eq_true_eq] at hro
  obtain ⟨hd, hy⟩ := hro
  have hFR := C.2.2.2.2.2.2.2.2
  cases ins
  case iconst k =>
    simp only [a_say, Bool.and_eq_true, beq_iff_eq] at hy
    obtain rfl := a_nx_inv hs
    exact a_s_const C hd (Or.inl ⟨k, rfl, hy.1, hy.2⟩) HR HS HL kk
  case bipush k =>
    simp only [a_say, Bool.and_eq_true, beq_iff_eq] at hy
    obtain rfl := a_nx_inv hs
    exact a_s_const C hd (Or.inr (Or.inl ⟨k, rfl, hy.1, hy.2⟩)) HR HS HL kk
  case sipush k =>
    simp only [a_say, Bool.and_eq_true, beq_iff_eq] at hy
    obtain rfl := a_nx_inv hs
    exact a_s_const C hd (Or.inr (Or.inr ⟨k, rfl, hy.1, hy.2⟩)) HR HS HL kk
  case lconst k =>
    simp only [a_say, Bool.and_eq_true, beq_iff_eq] at hy
    obtain rfl := a_nx_inv hs
    obtain ⟨rfl, h2⟩ := hy
    exact a_s_lconst C hd h2 HR HS HL kk
  case ldc x =>
    simp only [a_say, Bool.and_eq_true, beq_iff_eq] at hy
    obtain ⟨rfl, h2⟩ := hy
    simp only [a_step] at hs
    split at hs
    · rename_i ha
      rw [if_pos ha] at h2
      obtain rfl := a_nx_inv hs
      exact a_s_ldc C hd (by simpa using h2) HR HS HL kk
    · rename_i ha
      rw [if_neg ha] at h2
      obtain rfl := a_nx_inv hs
      split at h2
      · rename_i q hq
        simp only [Bool.and_eq_true, beq_iff_eq] at h2
        exact a_s_ldcS C (Or.inl ⟨rfl, rfl⟩) hd hq h2.1 h2.2 HR HS HL kk
      · cases h2
  case ldc_w x =>
    simp only [a_say, Bool.and_eq_true, beq_iff_eq] at hy
    obtain ⟨rfl, h2⟩ := hy
    simp only [a_step] at hs
    split at hs
    · rename_i ha
      rw [if_pos ha] at h2
      obtain rfl := a_nx_inv hs
      exact a_s_ldcw C hd (by simpa using h2) HR HS HL kk
    · rename_i ha
      rw [if_neg ha] at h2
      obtain rfl := a_nx_inv hs
      split at h2
      · rename_i q hq
        simp only [Bool.and_eq_true, beq_iff_eq] at h2
        exact a_s_ldcS C (Or.inr ⟨rfl, rfl⟩) hd hq h2.1 h2.2 HR HS HL kk
      · cases h2
  case ldc2_w x =>
    simp only [a_say, Bool.and_eq_true, beq_iff_eq] at hy
    obtain ⟨rfl, h2⟩ := hy
    obtain rfl := a_nx_inv hs
    exact a_s_ldc2 C hd h2 HR HS HL kk
  case iload k => simp only [a_say, beq_iff_eq] at hy; exact a_s_ldi C (Or.inl ⟨rfl, hy⟩) hd hs HR HS HL kk
  case iload_n k => simp only [a_say, beq_iff_eq] at hy; exact a_s_ldi C (Or.inr ⟨k, rfl, rfl, hy⟩) hd hs HR HS HL kk
  case lload k => simp only [a_say, beq_iff_eq] at hy; exact a_s_ldl C (Or.inl ⟨rfl, hy⟩) hd hs HR HS HL kk
  case lload_n k => simp only [a_say, beq_iff_eq] at hy; exact a_s_ldl C (Or.inr ⟨k, rfl, rfl, hy⟩) hd hs HR HS HL kk
  case aload k => simp only [a_say, beq_iff_eq] at hy; exact a_s_lda C (Or.inl ⟨rfl, hy⟩) hd hs HR HS HL kk
  case aload_n k => simp only [a_say, beq_iff_eq] at hy; exact a_s_lda C (Or.inr ⟨k, rfl, rfl, hy⟩) hd hs HR HS HL kk
  case istore k => simp only [a_say, beq_iff_eq] at hy; exact a_s_sti C (Or.inl ⟨rfl, hy⟩) hd hs HR HS HL kk
  case istore_n k => simp only [a_say, beq_iff_eq] at hy; exact a_s_sti C (Or.inr ⟨k, rfl, rfl, hy⟩) hd hs HR HS HL kk
  case astore k => simp only [a_say, beq_iff_eq] at hy; exact a_s_sta C (Or.inl ⟨rfl, hy⟩) hd hs HR HS HL kk
  case astore_n k => simp only [a_say, beq_iff_eq] at hy; exact a_s_sta C (Or.inr ⟨k, rfl, rfl, hy⟩) hd hs HR HS HL kk
  case iinc k z =>
    simp only [a_say, Bool.and_eq_true, beq_iff_eq] at hy
    obtain ⟨rfl, h2⟩ := hy
    simp only [a_step] at hs
    split at hs
    · rename_i x hx
      split at hs
      · rename_i hf
        obtain rfl := a_nx_inv hs
        exact a_s_iinc C hd h2 hx hf HR HS HL kk
      · exact (a_no1 hs).elim
    · exact (a_no1 hs).elim
  case iadd => simp only [a_say, beq_iff_eq] at hy; subst hy; exact a_s_op2 C (Or.inl ⟨rfl, rfl⟩) hd hs HR HS HL kk
  case isub => simp only [a_say, beq_iff_eq] at hy; subst hy; exact a_s_op2 C (Or.inr (Or.inl ⟨rfl, rfl⟩)) hd hs HR HS HL kk
  case imul => simp only [a_say, beq_iff_eq] at hy; subst hy; exact a_s_op2 C (Or.inr (Or.inr (Or.inl ⟨rfl, rfl⟩))) hd hs HR HS HL kk
  case iand => simp only [a_say, beq_iff_eq] at hy; subst hy; exact a_s_op2 C (Or.inr (Or.inr (Or.inr (Or.inl ⟨rfl, rfl⟩)))) hd hs HR HS HL kk
  case ior => simp only [a_say, beq_iff_eq] at hy; subst hy; exact a_s_op2 C (Or.inr (Or.inr (Or.inr (Or.inr (Or.inl ⟨rfl, rfl⟩))))) hd hs HR HS HL kk
  case ixor => simp only [a_say, beq_iff_eq] at hy; subst hy; exact a_s_op2 C (Or.inr (Or.inr (Or.inr (Or.inr (Or.inr (Or.inl ⟨rfl, rfl⟩)))))) hd hs HR HS HL kk
  case ishl => simp only [a_say, beq_iff_eq] at hy; subst hy; exact a_s_op2 C (Or.inr (Or.inr (Or.inr (Or.inr (Or.inr (Or.inr (Or.inl ⟨rfl, rfl⟩))))))) hd hs HR HS HL kk
  case ishr => simp only [a_say, beq_iff_eq] at hy; subst hy; exact a_s_op2 C (Or.inr (Or.inr (Or.inr (Or.inr (Or.inr (Or.inr (Or.inr (Or.inl ⟨rfl, rfl⟩)))))))) hd hs HR HS HL kk
  case iushr => simp only [a_say, beq_iff_eq] at hy; subst hy; exact a_s_op2 C (Or.inr (Or.inr (Or.inr (Or.inr (Or.inr (Or.inr (Or.inr (Or.inr ⟨rfl, rfl⟩)))))))) hd hs HR HS HL kk
  case idiv => simp only [a_say, beq_iff_eq] at hy; subst hy; exact a_s_opd C (Or.inl ⟨rfl, rfl⟩) hd hs HR HS HL kk
  case irem => simp only [a_say, beq_iff_eq] at hy; subst hy; exact a_s_opd C (Or.inr ⟨rfl, rfl⟩) hd hs HR HS HL kk
  case i2l =>
    simp only [a_say, beq_iff_eq] at hy; subst hy
    simp only [a_step] at hs
    split at hs
    · obtain rfl := a_nx_inv hs
      exact lv_i2l C.1 C.2.1 hd rfl (kk H locs ls HR HS HL)
    · exact (a_no1 hs).elim
  case i2b =>
    simp only [a_say, beq_iff_eq] at hy; subst hy
    simp only [a_step] at hs
    split at hs
    · obtain rfl := a_nx_inv hs
      exact lv_i2b C.1 C.2.1 hd rfl (kk H locs ls HR HS HL)
    · exact (a_no1 hs).elim
  case i2c =>
    simp only [a_say, beq_iff_eq] at hy; subst hy
    simp only [a_step] at hs
    split at hs
    · obtain rfl := a_nx_inv hs
      exact lv_i2c C.1 C.2.1 hd rfl (kk H locs ls HR HS HL)
    · exact (a_no1 hs).elim
  case lcmp =>
    simp only [a_say, beq_iff_eq] at hy; subst hy
    simp only [a_step] at hs
    split at hs
    · obtain rfl := a_nx_inv hs
      exact W.lcmp C.1 C.2.1 hd (kk H locs ls HR HS HL)
    · exact (a_no1 hs).elim
  case pop =>
    simp only [a_say, beq_iff_eq] at hy; subst hy
    simp only [a_step] at hs
    split at hs
    · split at hs
      · rename_i hc
        obtain rfl := a_nx_inv hs
        exact lv_pop C.1 C.2.1 hd (by rw [a_cv_cat]; exact hc) (kk H locs ls HR HS HL)
      · exact (a_no1 hs).elim
    · exact (a_no1 hs).elim
  case dup =>
    simp only [a_say, beq_iff_eq] at hy; subst hy
    simp only [a_step] at hs
    split at hs
    · split at hs
      · rename_i hc
        obtain rfl := a_nx_inv hs
        exact lv_dup C.1 C.2.1 hd (by rw [a_cv_cat]; exact hc) (kk H locs ls HR HS HL)
      · exact (a_no1 hs).elim
    · exact (a_no1 hs).elim
  case dup2 =>
    simp only [a_say, beq_iff_eq] at hy; subst hy
    simp only [a_step] at hs
    split at hs
    · split at hs
      · rename_i hc
        obtain rfl := a_nx_inv hs
        exact lv_dup2_11 C.1 C.2.1 hd (by rw [a_cv_cat]; exact hc.1) (by rw [a_cv_cat]; exact hc.2) (kk H locs ls HR HS HL)
      · exact (a_no1 hs).elim
    · exact (a_no1 hs).elim
  case ifCond cc off =>
    simp only [a_say, Bool.and_eq_true, beq_iff_eq] at hy
    obtain ⟨rfl, h2⟩ := hy
    simp only [a_step] at hs
    split at hs
    · obtain rfl := a_nx_inv hs
      exact a_s_if C hd h2 HR HS HL kk
    · exact (a_no1 hs).elim
  case if_icmp cc off =>
    simp only [a_say, Bool.and_eq_true, beq_iff_eq] at hy
    obtain ⟨rfl, h2⟩ := hy
    simp only [a_step] at hs
    split at hs
    · obtain rfl := a_nx_inv hs
      exact a_s_icmp C hd h2 HR HS HL kk
    · exact (a_no1 hs).elim
  case goto off =>
    simp only [a_say, Bool.and_eq_true, beq_iff_eq] at hy
    obtain ⟨rfl, h2⟩ := hy
    obtain rfl := a_nx_inv hs
    exact lv_goto C.1 C.2.1 hd h2 (kk H locs ls HR HS HL)
  case tableswitch d lo hi os =>
    simp only [a_say, Bool.and_eq_true, decide_eq_true_eq] at hy
    simp only [a_step] at hs
    split at hs
    · exact a_s_tsw C hd hy.1 hy.2 hs HR HS HL kk
    · exact (a_no1 hs).elim
  case lookupswitch d ps =>
    simp only [a_say, Bool.and_eq_true, decide_eq_true_eq] at hy
    simp only [a_step] at hs
    split at hs
    · rename_i x _
      have hz := a_lsw_nonneg (z := x.toInt) hy.1.1 _ hy.1.2
      obtain rfl := a_nx_inv hs
      exact lv_lookup C.1 C.2.1 hd hy.2 rfl (by omega) (kk H locs ls HR HS HL)
    · exact (a_no1 hs).elim
  case getstatic x =>
    simp only [a_say, Bool.and_eq_true, beq_iff_eq] at hy
    obtain ⟨⟨rfl, h2⟩, -⟩ := hy
    exact a_s_gets C hd h2 hs HR HS HL kk
  case getfield x =>
    simp only [a_say, Bool.and_eq_true, beq_iff_eq] at hy
    obtain ⟨rfl, h2⟩ := hy
    refine a_s_getf C hd ?_ hs HR HS HL kk
    split at h2
    · rename_i ha; rw [if_pos ha]; simpa using h2
    · rename_i ha; rw [if_neg ha]; simpa using h2
  case putfield x =>
    simp only [a_say, Bool.and_eq_true, beq_iff_eq, Bool.or_eq_true, Bool.not_eq_true'] at hy
    obtain ⟨⟨rfl, h2⟩, h3⟩ := hy
    exact a_s_putf C hd h2 h3 hs HR HS HL kk
  case iaload => simp only [a_say, beq_iff_eq] at hy; subst hy; exact a_s_ld C (Or.inl ⟨rfl, rfl⟩) hd hs hsc HR HS HL kk
  case baload => simp only [a_say, beq_iff_eq] at hy; subst hy; exact a_s_ld C (Or.inr (Or.inl ⟨rfl, rfl⟩)) hd hs hsc HR HS HL kk
  case aaload => simp only [a_say, beq_iff_eq] at hy; subst hy; exact a_s_ld C (Or.inr (Or.inr ⟨rfl, rfl⟩)) hd hs hsc HR HS HL kk
  case iastore => simp only [a_say, beq_iff_eq] at hy; subst hy; exact a_s_stx C (Or.inl ⟨rfl, rfl⟩) hd hs HR HS HL kk
  case bastore => simp only [a_say, beq_iff_eq] at hy; subst hy; exact a_s_stx C (Or.inr (Or.inl ⟨rfl, rfl⟩)) hd hs HR HS HL kk
  case aastore => simp only [a_say, beq_iff_eq] at hy; subst hy; exact a_s_stx C (Or.inr (Or.inr ⟨rfl, rfl⟩)) hd hs HR HS HL kk
  case new x =>
    simp only [a_say, Bool.and_eq_true, beq_iff_eq] at hy
    obtain ⟨rfl, h2⟩ := hy
    exact a_s_newo C hd h2 hs hN hR HR HS HL kk
  case newarray t =>
    simp only [a_say, Bool.and_eq_true, beq_iff_eq] at hy
    obtain ⟨rfl, h2⟩ := hy
    refine a_s_newa C hd ?_ hs hN hR HR HS HL kk
    cases t <;> simp_all
  case anewarray x =>
    simp only [a_say, Bool.and_eq_true, beq_iff_eq] at hy
    obtain ⟨rfl, h2⟩ := hy
    exact a_s_newq C hd h2 hs hN hR HR HS HL kk
  case arraylength => simp only [a_say, beq_iff_eq] at hy; subst hy; exact a_s_alen C hd hs hsc HR HS HL kk
  case invokestatic x =>
    simp only [a_say, Bool.and_eq_true, beq_iff_eq] at hy
    obtain ⟨rfl, h2⟩ := hy
    simp only [a_step] at hs
    split at hs
    · rename_i ha
      subst ha
      have h3 : a_key2 (a_own i) x a_ac = true := by simpa using h2
      have h4 : 1 ≤ a_FR i ∧ 26 ≤ a_LO i := by simpa [a_callok] using hco
      exact a_s_cpy C hd h3 hs ⟨by omega, by omega⟩ HR HS HL kk
    · split at hs
      · simp only [a_call] at hs
        split at hs
        · exact (a_no2 hs).elim
        · exact (a_no1 hs).elim
      · exact (a_no1 hs).elim
  case invokespecial x =>
    simp only [a_say, Bool.and_eq_true, beq_iff_eq] at hy
    obtain ⟨rfl, h2⟩ := hy
    simp only [a_step] at hs
    split at hs
    · rename_i ha
      subst ha
      have h3 : a_key2 (a_own i) x a_oi = true := by simpa using h2
      have h4 : 1 ≤ a_FR i ∧ 20 ≤ a_LO i := by simpa [a_callok] using hco
      split at hs
      · split at hs
        · rename_i hr
          obtain rfl := a_nx_inv hs
          exact a_s_obj C hd h3 hr ⟨by omega, by omega⟩ HR HS HL kk
        · exact (a_no1 hs).elim
      · exact (a_no1 hs).elim
    · split at hs
      · simp only [a_call] at hs
        split at hs
        · exact (a_no2 hs).elim
        · exact (a_no1 hs).elim
      · exact (a_no1 hs).elim
  case invokevirtual x =>
    simp only [a_step] at hs
    split at hs
    · simp only [a_call] at hs
      split at hs
      · exact (a_no2 hs).elim
      · exact (a_no1 hs).elim
    · exact (a_no1 hs).elim
  case ireturn =>
    simp only [a_step] at hs
    split at hs
    · split at hs
      · exact (a_no2 hs).elim
      · exact (a_no1 hs).elim
    · exact (a_no1 hs).elim
  case areturn =>
    simp only [a_step] at hs
    split at hs
    · split at hs
      · exact (a_no2 hs).elim
      · exact (a_no1 hs).elim
    · exact (a_no1 hs).elim
  case return_ =>
    simp only [a_step] at hs
    split at hs
    · exact (a_no2 hs).elim
    · exact (a_no1 hs).elim
  all_goals exact (a_no1 hs).elim
end ASW
