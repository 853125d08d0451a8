/-! ONE STEP OF THE ABSTRACT MACHINE IS A STEP OF THE MACHINE -/
def a_hs (h : a_Hp) : Nat := (h.1.map (fun q => q.2)).sum
def a_Cx (p : Program) (R : Room) (s : State) (m : MethodId) (args : Array Value) (meth : Method) (c : Code) (G : a_G) (sc : Nat × (Nat → Int32)) (i : Nat) : Prop :=
  p.tables.exec = Jvm.exec ∧ c.code = a_bytes i ∧ c.maxLocals = a_maxL i ∧ s.vm.findClass (a_cn (a_own i)) = some m.cls ∧ (∀ w ∈ a_W, w.before args s = true) ∧ a_K G sc s ∧ (a_nm i = "<init>" → meth.name = "<init>") ∧ i < 274 ∧ a_FR i ≤ R.frames ∧ a_LO i ≤ R.locals
def a_WW (p : Program) (l : Launch) (e : Env) (R : Room) (s : State) (m : MethodId) (args : Array Value) (below : List Frame) (meth : Method) (c : Code) (Q : State → Prop) (G : a_G) (n0 s0 : Nat) (h : a_Hp) (H : Heap) (locs : List Loc) (pc : Nat) (ls : Array Slot) (st : List Value) : Prop :=
  W p l e R s m args below meth c H locs (h.1.length - n0) (a_hs h - s0) Q (F0 m pc ls (st.map (a_cv G)))
section AST
variable {p : Program} {l : Launch} {e : Env} {R : Room} {s : State} {m : MethodId} {args : Array Value} {below : List Frame} {meth : Method} {c : Code} {Q : State → Prop} {G : a_G} {n0 s0 : Nat} {h : a_Hp} {H : Heap} {locs : List Loc} {pc : Nat} {ls : Array Slot} {st : List Value} {sc : Nat × (Nat → Int32)} {i : Nat} {lc lc' : a_Lc} {pc' : Nat} {st' : List Value} {h' : a_Hp}
/-- what a step goes on with -/
def a_KK (p : Program) (l : Launch) (e : Env) (R : Room) (s : State) (m : MethodId) (args : Array Value) (below : List Frame) (meth : Method) (c : Code) (Q : State → Prop) (G : a_G) (n0 s0 : Nat) (i : Nat) (r : Nat × a_Lc × List Value × a_Hp) : Prop :=
  ∀ (H' : Heap) (locs' : List Loc) (ls' : Array Slot), a_HR G r.2.2.2 H' → va_S (fun q => G.1 ≤ q) s.heap H' locs' → a_LR G r.2.1 ls' (a_maxL i) → a_WW p l e R s m args below meth c Q G n0 s0 r.2.2.2 H' locs' r.1 ls' r.2.2.1
theorem a_nx_inv {r : Nat × a_Lc × List Value × a_Hp} {pc : Nat} {lc : a_Lc} {st : List Value} {h : a_Hp} (hs : a_nx pc lc st h = some (.inl r)) : r = (pc, lc, st, h) := by
  cases hs; rfl
theorem a_s_const (C : a_Cx p R s m args meth c G sc i) {ins : Instr} {n : Nat} {v : Int32} (hd : decode (a_bytes i) pc = .ok (ins, n)) (hv : (∃ k, ins = .iconst k ∧ n = 1 ∧ Int32.ofInt k = v) ∨ (∃ k, ins = .bipush k ∧ n = 2 ∧ (Int8.ofInt k).toInt32 = v) ∨ (∃ k, ins = .sipush k ∧ n = 3 ∧ (Int16.ofInt k).toInt32 = v))
    (HR : a_HR G h H) (HS : va_S (fun q => G.1 ≤ q) s.heap H locs) (HL : a_LR G lc ls (a_maxL i)) (kk : a_KK p l e R s m args below meth c Q G n0 s0 i (pc + n, lc, .int v :: st, h)) : a_WW p l e R s m args below meth c Q G n0 s0 h H locs pc ls st := by
  obtain ⟨hx, hb, -⟩ := C
  rcases hv with ⟨k, rfl, rfl, hk⟩ | ⟨k, rfl, rfl, hk⟩ | ⟨k, rfl, rfl, hk⟩
  · exact lv_iconst hx hb hd hk (kk H locs ls HR HS HL)
  · exact lv_bipush hx hb hd hk (kk H locs ls HR HS HL)
  · exact lv_sipush hx hb hd hk (kk H locs ls HR HS HL)
theorem a_s_lconst (C : a_Cx p R s m args meth c G sc i) {k : Fin 2} {v : Int64} (hd : decode (a_bytes i) pc = .ok (.lconst k, 1)) (hv : Int64.ofNat (k : Nat) = v)
    (HR : a_HR G h H) (HS : va_S (fun q => G.1 ≤ q) s.heap H locs) (HL : a_LR G lc ls (a_maxL i)) (kk : a_KK p l e R s m args below meth c Q G n0 s0 i (pc + 1, lc, .long v :: st, h)) : a_WW p l e R s m args below meth c Q G n0 s0 h H locs pc ls st := by
  obtain ⟨hx, hb, -⟩ := C
  exact lv_lconst hx hb hd hv (kk H locs ls HR HS HL)
theorem a_s_ldc2 (C : a_Cx p R s m args meth c G sc i) {x : Nat} {v : Int32} (hd : decode (a_bytes i) pc = .ok (.ldc2_w x, 3)) (hv : a_keyc (a_own i) x a_cstl = some v)
    (HR : a_HR G h H) (HS : va_S (fun q => G.1 ≤ q) s.heap H locs) (HL : a_LR G lc ls (a_maxL i)) (kk : a_KK p l e R s m args below meth c Q G n0 s0 i (pc + 3, lc, .long v.toInt64 :: st, h)) : a_WW p l e R s m args below meth c Q G n0 s0 h H locs pc ls st := by
  obtain ⟨hx, hb, -, hown, hts, -⟩ := C
  exact lv_ldc2 hx hb hown (hts _ (a_i_cstl (a_e_cstl _ (a_keyc_mem hv)))) hd (kk H locs ls HR HS HL)
theorem a_s_ldc (C : a_Cx p R s m args meth c G sc i) {x : Nat} {v : Int32} (hd : decode (a_bytes i) pc = .ok (.ldc x, 2)) (hv : a_keyc (a_own i) x a_cst = some v)
    (HR : a_HR G h H) (HS : va_S (fun q => G.1 ≤ q) s.heap H locs) (HL : a_LR G lc ls (a_maxL i)) (kk : a_KK p l e R s m args below meth c Q G n0 s0 i (pc + 2, lc, .int v :: st, h)) : a_WW p l e R s m args below meth c Q G n0 s0 h H locs pc ls st := by
  obtain ⟨hx, hb, -, hown, hts, -⟩ := C
  exact lv_ldc hx hb hown (hts _ (a_i_cst (a_e_cst _ (a_keyc_mem hv)))) hd (kk H locs ls HR HS HL)
theorem a_s_ldcw (C : a_Cx p R s m args meth c G sc i) {x : Nat} {v : Int32} (hd : decode (a_bytes i) pc = .ok (.ldc_w x, 3)) (hv : a_keyc (a_own i) x a_cst = some v)
    (HR : a_HR G h H) (HS : va_S (fun q => G.1 ≤ q) s.heap H locs) (HL : a_LR G lc ls (a_maxL i)) (kk : a_KK p l e R s m args below meth c Q G n0 s0 i (pc + 3, lc, .int v :: st, h)) : a_WW p l e R s m args below meth c Q G n0 s0 h H locs pc ls st := by
  obtain ⟨hx, hb, -, hown, hts, -⟩ := C
  exact lv_ldcw hx hb hown (hts _ (a_i_cst (a_e_cst _ (a_keyc_mem hv)))) hd (kk H locs ls HR HS HL)
theorem a_ad_str (G : a_G) (b : Nat) : a_ad G (a_CB + b) = G.2.1 b := by
  have h : ¬ a_CB + b < a_CB := by omega
  simp [a_ad, h, Nat.add_sub_cancel_left]
theorem a_strlen : a_str.length = 36 := by decide +kernel
theorem a_s_ldcS (C : a_Cx p R s m args meth c G sc i) {x n b : Nat} {ins : Instr} {q : Nat × Nat × String} (hi : (ins = .ldc x ∧ n = 2) ∨ (ins = .ldc_w x ∧ n = 3)) (hd : decode (a_bytes i) pc = .ok (ins, n)) (hq : a_str[b]? = some q) (h1 : q.1 = a_own i) (h2 : q.2.1 = x)
    (HR : a_HR G h H) (HS : va_S (fun q => G.1 ≤ q) s.heap H locs) (HL : a_LR G lc ls (a_maxL i)) (kk : a_KK p l e R s m args below meth c Q G n0 s0 i (pc + n, lc, .ref (a_CB + 2 * b) :: st, h)) : a_WW p l e R s m args below meth c Q G n0 s0 h H locs pc ls st := by
  obtain ⟨hx, hb, -, hown, hts, hK, -⟩ := C
  have hb36 : b < 36 := by have := (List.getElem?_eq_some_iff.mp hq).1; rw [a_strlen] at this; exact this
  obtain ⟨-, -, -, -, q', hq', hr⟩ := hK.2.2.1 b hb36
  cases hq.symm.trans hq'
  subst h2
  rw [h1] at hr
  have e1 : a_cv G (.ref (a_CB + 2 * b)) = .ref (G.2.1 (2 * b)) := by rw [a_cv_ref, a_ad_str]
  rcases hi with ⟨rfl, rfl⟩ | ⟨rfl, rfl⟩
  · refine va_ldcS hx hb hown hr hd ?_
    have k1 := kk H locs ls HR HS HL
    unfold a_WW at k1
    dsimp only at k1
    rw [List.map_cons, e1] at k1
    exact k1
  · intro T hT X
    have k1 := kk H locs ls HR HS HL
    unfold a_WW at k1
    dsimp only at k1
    rw [List.map_cons, e1] at k1
    obtain ⟨t, a1, b1⟩ := k1 T hT X
    exact ⟨t, X.ldcStringW hx hown (text := q.2.2) (a := G.2.1 (2 * b)) hr.1 hr.2 (g := F0 m pc ls (st.map (a_cv G))) rfl (by rw [hb]; exact hd) t a1, b1⟩
theorem a_s_ldi (C : a_Cx p R s m args meth c G sc i) {ins : Instr} {n k : Nat} {r : Nat × a_Lc × List Value × a_Hp} (hi : (ins = .iload k ∧ n = 2) ∨ (∃ f : Fin 4, ins = .iload_n f ∧ (f : Nat) = k ∧ n = 1)) (hd : decode (a_bytes i) pc = .ok (ins, n)) (hs : a_ldi k (pc + n) lc st h = some (.inl r))
    (HR : a_HR G h H) (HS : va_S (fun q => G.1 ≤ q) s.heap H locs) (HL : a_LR G lc ls (a_maxL i)) (kk : a_KK p l e R s m args below meth c Q G n0 s0 i r) : a_WW p l e R s m args below meth c Q G n0 s0 h H locs pc ls st := by
  obtain ⟨hx, hb, -⟩ := C
  unfold a_ldi at hs
  split at hs
  · rename_i x hx0
    have hl := HL.2.2.2 k _ hx0
    obtain rfl := a_nx_inv hs
    rcases hi with ⟨rfl, rfl⟩ | ⟨f, rfl, rfl, rfl⟩
    · exact lv_iload hx hb hd hl (kk H locs ls HR HS HL)
    · exact lv_iload_n hx hb hd rfl hl (kk H locs ls HR HS HL)
  · cases hs
theorem a_s_ldl (C : a_Cx p R s m args meth c G sc i) {ins : Instr} {n k : Nat} {r : Nat × a_Lc × List Value × a_Hp} (hi : (ins = .lload k ∧ n = 2) ∨ (∃ f : Fin 4, ins = .lload_n f ∧ (f : Nat) = k ∧ n = 1)) (hd : decode (a_bytes i) pc = .ok (ins, n)) (hs : a_ldl k (pc + n) lc st h = some (.inl r))
    (HR : a_HR G h H) (HS : va_S (fun q => G.1 ≤ q) s.heap H locs) (HL : a_LR G lc ls (a_maxL i)) (kk : a_KK p l e R s m args below meth c Q G n0 s0 i r) : a_WW p l e R s m args below meth c Q G n0 s0 h H locs pc ls st := by
  obtain ⟨hx, hb, -⟩ := C
  unfold a_ldl at hs
  split at hs
  · rename_i x hx0
    have hl := HL.2.2.2 k _ hx0
    obtain rfl := a_nx_inv hs
    rcases hi with ⟨rfl, rfl⟩ | ⟨f, rfl, rfl, rfl⟩
    · exact lv_lload hx hb hd hl (kk H locs ls HR HS HL)
    · exact lv_lload_n hx hb hd rfl hl (kk H locs ls HR HS HL)
  · cases hs
theorem a_s_lda (C : a_Cx p R s m args meth c G sc i) {ins : Instr} {n k : Nat} {r : Nat × a_Lc × List Value × a_Hp} (hi : (ins = .aload k ∧ n = 2) ∨ (∃ f : Fin 4, ins = .aload_n f ∧ (f : Nat) = k ∧ n = 1)) (hd : decode (a_bytes i) pc = .ok (ins, n)) (hs : a_lda k (pc + n) lc st h = some (.inl r))
    (HR : a_HR G h H) (HS : va_S (fun q => G.1 ≤ q) s.heap H locs) (HL : a_LR G lc ls (a_maxL i)) (kk : a_KK p l e R s m args below meth c Q G n0 s0 i r) : a_WW p l e R s m args below meth c Q G n0 s0 h H locs pc ls st := by
  obtain ⟨hx, hb, -⟩ := C
  unfold a_lda at hs
  split at hs
  · rename_i x hx0
    have hl := HL.2.2.2 k _ hx0
    obtain rfl := a_nx_inv hs
    rcases hi with ⟨rfl, rfl⟩ | ⟨f, rfl, rfl, rfl⟩
    · exact lv_aload hx hb hd hl (kk H locs ls HR HS HL)
    · exact lv_aload_n hx hb hd rfl hl (kk H locs ls HR HS HL)
  · cases hs
theorem a_free_lt {k : Nat} (hf : a_free k lc = true) : k < lc.length := by
  simp only [a_free, Bool.and_eq_true, decide_eq_true_eq] at hf
  exact hf.1
theorem a_s_sti (C : a_Cx p R s m args meth c G sc i) {ins : Instr} {n k : Nat} {r : Nat × a_Lc × List Value × a_Hp} (hi : (ins = .istore k ∧ n = 2) ∨ (∃ f : Fin 4, ins = .istore_n f ∧ (f : Nat) = k ∧ n = 1)) (hd : decode (a_bytes i) pc = .ok (ins, n)) (hs : a_sti k (pc + n) lc st h = some (.inl r))
    (HR : a_HR G h H) (HS : va_S (fun q => G.1 ≤ q) s.heap H locs) (HL : a_LR G lc ls (a_maxL i)) (kk : a_KK p l e R s m args below meth c Q G n0 s0 i r) : a_WW p l e R s m args below meth c Q G n0 s0 h H locs pc ls st := by
  obtain ⟨hx, hb, -⟩ := C
  unfold a_sti at hs
  split at hs
  · split at hs
    · rename_i hf
      obtain rfl := a_nx_inv hs
      have hk : k < a_maxL i := by rw [← HL.1]; exact a_free_lt hf
      rcases hi with ⟨rfl, rfl⟩ | ⟨f, rfl, rfl, rfl⟩
      · exact lv_istore hx hb hd (a_LR_has HL) hk rfl (fun ls' h' => kk H locs ls' HR HS (a_LR_set HL.1 (fun _ q => q) hf h'))
      · exact lv_istore_n hx hb hd rfl (a_LR_has HL) hk rfl (fun ls' h' => kk H locs ls' HR HS (a_LR_set HL.1 (fun _ q => q) hf h'))
    · cases hs
  · cases hs
theorem a_s_sta (C : a_Cx p R s m args meth c G sc i) {ins : Instr} {n k : Nat} {r : Nat × a_Lc × List Value × a_Hp} (hi : (ins = .astore k ∧ n = 2) ∨ (∃ f : Fin 4, ins = .astore_n f ∧ (f : Nat) = k ∧ n = 1)) (hd : decode (a_bytes i) pc = .ok (ins, n)) (hs : a_sta k (pc + n) lc st h = some (.inl r))
    (HR : a_HR G h H) (HS : va_S (fun q => G.1 ≤ q) s.heap H locs) (HL : a_LR G lc ls (a_maxL i)) (kk : a_KK p l e R s m args below meth c Q G n0 s0 i r) : a_WW p l e R s m args below meth c Q G n0 s0 h H locs pc ls st := by
  obtain ⟨hx, hb, -⟩ := C
  unfold a_sta at hs
  split at hs
  · split at hs
    · rename_i hf
      obtain rfl := a_nx_inv hs
      have hk : k < a_maxL i := by rw [← HL.1]; exact a_free_lt hf
      rcases hi with ⟨rfl, rfl⟩ | ⟨f, rfl, rfl, rfl⟩
      · exact lv_astore hx hb hd (a_LR_has HL) hk rfl (fun ls' h' => kk H locs ls' HR HS (a_LR_set HL.1 (fun _ q => q) hf h'))
      · exact lv_astore_n hx hb hd rfl (a_LR_has HL) hk rfl (fun ls' h' => kk H locs ls' HR HS (a_LR_set HL.1 (fun _ q => q) hf h'))
    · cases hs
  · cases hs
theorem a_s_iinc (C : a_Cx p R s m args meth c G sc i) {k : Nat} {z : Int} {x v : Int32} (hd : decode (a_bytes i) pc = .ok (.iinc k z, 3)) (hv : Int32.ofInt z = v) (hx0 : lc[k]? = some (some (.int x))) (hf : a_free k lc = true)
    (HR : a_HR G h H) (HS : va_S (fun q => G.1 ≤ q) s.heap H locs) (HL : a_LR G lc ls (a_maxL i)) (kk : a_KK p l e R s m args below meth c Q G n0 s0 i (pc + 3, lc.set k (some (.int (x + v))), st, h)) : a_WW p l e R s m args below meth c Q G n0 s0 h H locs pc ls st := by
  obtain ⟨hx, hb, -⟩ := C
  have hk : k < a_maxL i := by rw [← HL.1]; exact a_free_lt hf
  have h0 := a_LR_has HL
  have h1 : lv_has ls (a_maxL i) ((k, .int x) :: a_lvl G lc) := ⟨h0.1, h0.2.1, fun q hq => by
    rcases List.mem_cons.mp hq with rfl | hq
    · exact HL.2.2.2 k _ hx0
    · exact h0.2.2 q hq⟩
  exact lv_iinc (k := 0) hx hb hd h1 rfl (by rw [hv]) hk rfl (fun ls' h' => kk H locs ls' HR HS (a_LR_set HL.1 (fun _ q => List.mem_cons_of_mem _ q) hf h'))
end AST
