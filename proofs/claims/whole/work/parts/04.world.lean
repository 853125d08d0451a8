/-! THE WORLD OF THE ABSTRACT MACHINE ON THE MACHINE'S HEAP: objects lie one behind the other from an address on -/
abbrev a_G : Type := Nat × (Nat → Nat) × va_G × (ClassId × ClassId × ClassId × ClassId)
def a_ad (G : a_G) (i : Nat) : Nat := if i < a_CB then G.1 + i else G.2.1 (i - a_CB)
/-- a static of the JDK's that is only carried: a reference or null -/
def a_fmt (G : a_G) : Value := if G.2.1 1002 = 0 then .null else .ref (G.2.1 1001)
def a_cv (G : a_G) (v : Value) : Value := match v with | .ref i => .ref (a_ad G i) | .retAddr _ => a_fmt G | w => w
theorem a_cv_int (G : a_G) (x : Int32) : a_cv G (.int x) = .int x := rfl
theorem a_cv_long (G : a_G) (x : Int64) : a_cv G (.long x) = .long x := rfl
theorem a_cv_ref (G : a_G) (x : Nat) : a_cv G (.ref x) = .ref (a_ad G x) := rfl
theorem a_fmt_cat (G : a_G) : (a_fmt G).category = 1 := by
  unfold a_fmt
  split <;> rfl
theorem a_cv_cat (G : a_G) (v : Value) : (a_cv G v).category = v.category := by
  cases v <;> first | rfl | exact a_fmt_cat G
theorem a_ad_dyn (G : a_G) {i : Nat} (h : i < a_CB) : a_ad G i = G.1 + i := by simp [a_ad, h]
theorem a_cat (G : a_G) (st : List Value) : ((st.map (a_cv G)).map fun v => v.category).sum = (st.map fun v => v.category).sum := by
  rw [List.map_map]
  congr 1
  exact List.map_congr_left (fun v _ => a_cv_cat G v)
def a_tys (G : a_G) : List (ClassId × FieldType) := [(G.2.2.2.1, .int), (G.2.2.2.2.1, .byte), (G.2.2.2.2.2.1, .boolean), (G.2.2.2.2.2.2, .object "PreCommitHall$Hall")]
def a_tyk (k : Nat) : FieldType := match k with | 0 => .int | 1 => .byte | 2 => .boolean | _ => .object "PreCommitHall$Hall"
def a_cell (G : a_G) (h : a_Hp) (i : Nat) : va_E := match h.1[i]? with
  | some (k, n) => if k = 0 then .inl (G.2.2.2.1, n, .inl (h.2.2.1 i)) else if k = 1 then .inl (G.2.2.2.2.1, n, .inl (h.2.2.1 i)) else if k = 2 then .inl (G.2.2.2.2.2.1, n, .inl (h.2.2.1 i))
      else if k = 3 then .inl (G.2.2.2.2.2.2, n, .inr (.inr (.inr (.inr (fun j => (h.2.1 i j).map (a_ad G)))))) else .inr (k - 10, (List.range n).map (fun j => a_cv G (a_fv (k - 10) j h i)))
  | none => .inr (0, [])
def a_wl (G : a_G) (h : a_Hp) : va_W := (List.range h.1.length).map (fun i => (G.1 + i, a_cell G h i))
def a_okH (h : a_Hp) : Prop := h.1.length ≤ a_CB ∧ (∀ (o k n : Nat), h.1[o]? = some (k, n) → (k < 4 ∨ (10 ≤ k ∧ k < 19 ∧ n = a_fn (k - 10))) ∧ (k = 1 → ∀ j, fits .byte (.int (h.2.2.1 o j)) = true))
def a_HR (G : a_G) (h : a_Hp) (H : Heap) : Prop := H.size = G.1 + h.1.length ∧ va_P G.2.2.1 a_cl (a_wl G h) H ∧ a_okH h
theorem a_wl_get (G : a_G) (h : a_Hp) {o : Nat} (ho : o < h.1.length) : (a_wl G h)[o]? = some (G.1 + o, a_cell G h o) := by
  simp [a_wl, ho]
theorem a_wl_len (G : a_G) (h : a_Hp) : (a_wl G h).length = h.1.length := by simp [a_wl]
theorem a_wl_D (G : a_G) (h : a_Hp) : va_D (fun q => G.1 ≤ q) (a_wl G h) := by
  have key : ∀ (k : Nat) (q : Nat × va_E), (a_wl G h)[k]? = some q → q.1 = G.1 + k := by
    intro k q hk
    have hl := (List.getElem?_eq_some_iff.mp hk).1
    rw [a_wl_len] at hl
    rw [a_wl_get G h hl] at hk
    cases hk
    rfl
  refine ⟨fun i j x y hi hj hxy => ?_, fun k q hk => ?_⟩
  · rw [key i x hi, key j y hj] at hxy
    omega
  · show G.1 ≤ q.1
    rw [key k q hk]
    omega
/-- one object changed -/
theorem a_wl_set (G : a_G) (h h' : a_Hp) {o : Nat} (ho : o < h.1.length) (h1 : h'.1 = h.1) {e : va_E} (he : a_cell G h' o = e) (hr : ∀ j, j ≠ o → a_cell G h' j = a_cell G h j) : (a_wl G h).set o (G.1 + o, e) = a_wl G h' := by
  apply List.ext_getElem?
  intro j
  by_cases hj : j = o
  · subst hj
    rw [List.getElem?_set_self (by rw [a_wl_len]; exact ho), a_wl_get G h' (by rw [h1]; exact ho), he]
  · rw [List.getElem?_set_ne (Ne.symm hj)]
    by_cases hl : j < h.1.length
    · rw [a_wl_get G h hl, a_wl_get G h' (by rw [h1]; exact hl), hr j hj]
    · rw [List.getElem?_eq_none (by rw [a_wl_len]; omega), List.getElem?_eq_none (by rw [a_wl_len, h1]; omega)]
/-- one object made -/
theorem a_wl_push (G : a_G) (h h' : a_Hp) (q : Nat × Nat) (h1 : h'.1 = h.1 ++ [q]) {e : va_E} (he : a_cell G h' h.1.length = e) (hr : ∀ j, j < h.1.length → a_cell G h' j = a_cell G h j) : a_wl G h ++ [(G.1 + h.1.length, e)] = a_wl G h' := by
  apply List.ext_getElem?
  intro j
  have hl' : h'.1.length = h.1.length + 1 := by rw [h1]; simp
  by_cases hl : j < h.1.length
  · rw [List.getElem?_append_left (by rw [a_wl_len]; exact hl), a_wl_get G h hl, a_wl_get G h' (by omega), hr j hl]
  · rw [List.getElem?_append_right (by rw [a_wl_len]; omega), a_wl_len]
    by_cases hj : j = h.1.length
    · subst hj
      rw [Nat.sub_self, a_wl_get G h' (by omega), he]
      rfl
    · rw [List.getElem?_eq_none (by simp; omega), List.getElem?_eq_none (by rw [a_wl_len]; omega)]
theorem a_mapset {α : Type} (n k : Nat) (f f' : Nat → α) (v : α) (hk : f' k = v) (hr : ∀ j, j ≠ k → f' j = f j) : ((List.range n).map f).set k v = (List.range n).map f' := by
  apply List.ext_getElem?
  intro j
  by_cases hj : j = k
  · subst hj
    by_cases hl : j < n
    · rw [List.getElem?_set_self (by simp; exact hl)]
      simp [hl, hk]
    · rw [List.getElem?_eq_none (by simp; omega), List.getElem?_eq_none (by simp; omega)]
  · rw [List.getElem?_set_ne (Ne.symm hj)]
    by_cases hl : j < n
    · simp [hl, hr j hj]
    · rw [List.getElem?_eq_none (by simp; omega), List.getElem?_eq_none (by simp; omega)]
/-- locals: what is known of them -/
def a_LR (G : a_G) (lc : a_Lc) (ls : Array Slot) (n : Nat) : Prop := lc.length = n ∧ ls.size = n ∧ lv_wf ls ∧ ∀ (j : Nat) (v : Value), lc[j]? = some (some v) → ls[j]? = some (.val (a_cv G v))
def a_lvl (G : a_G) (lc : a_Lc) : List (Nat × Value) := (List.range lc.length).filterMap (fun j => match lc[j]? with | some (some v) => some (j, a_cv G v) | _ => none)
theorem a_lvl_mem {G : a_G} {lc : a_Lc} {q : Nat × Value} : q ∈ a_lvl G lc ↔ ∃ v, lc[q.1]? = some (some v) ∧ q.2 = a_cv G v := by
  constructor
  · intro hq
    obtain ⟨j, -, hj⟩ := List.mem_filterMap.mp hq
    cases e : lc[j]? with
    | none => rw [e] at hj; cases hj
    | some w =>
      cases w with
      | none => rw [e] at hj; cases hj
      | some v => rw [e] at hj; cases hj; exact ⟨v, e, rfl⟩
  · rintro ⟨v, h1, h2⟩
    refine List.mem_filterMap.mpr ⟨q.1, List.mem_range.mpr (List.getElem?_eq_some_iff.mp h1).1, ?_⟩
    rw [h1]
    show some (q.1, a_cv G v) = some q
    rw [← h2]
theorem a_LR_has {G : a_G} {lc : a_Lc} {ls : Array Slot} {n : Nat} (h : a_LR G lc ls n) : lv_has ls n (a_lvl G lc) := by
  refine ⟨h.2.1, h.2.2.1, fun q hq => ?_⟩
  obtain ⟨v, h1, h2⟩ := a_lvl_mem.mp hq
  rw [h2]
  exact h.2.2.2 q.1 v h1
theorem a_LR_set {G : a_G} {lc : a_Lc} {ls' : Array Slot} {n k : Nat} {x : Value} {L : List (Nat × Value)} (hn : lc.length = n) (hL : ∀ q, q ∈ a_lvl G lc → q ∈ L) (hf : a_free k lc = true)
    (h' : lv_has ls' n ((k, a_cv G x) :: L.filter (fun q => !(q.1 == k) && !(q.1 + 1 == k && q.2.category == 2)))) : a_LR G (lc.set k (some x)) ls' n := by
  obtain ⟨h1, h2, h3⟩ := h'
  simp only [a_free, Bool.and_eq_true, decide_eq_true_eq] at hf
  refine ⟨by rw [List.length_set]; exact hn, h1, h2, fun j v hj => ?_⟩
  by_cases hjk : j = k
  · subst hjk
    rw [List.getElem?_set_self hf.1] at hj
    cases hj
    exact h3 (j, a_cv G x) List.mem_cons_self
  · rw [List.getElem?_set_ne (Ne.symm hjk)] at hj
    refine h3 (j, a_cv G v) (List.mem_cons_of_mem _ (List.mem_filter.mpr ⟨hL _ (a_lvl_mem.mpr ⟨v, hj, rfl⟩), ?_⟩))
    simp only [Bool.and_eq_true, Bool.not_eq_true', beq_eq_false_iff_ne, ne_eq, Bool.and_eq_false_imp, beq_iff_eq]
    refine ⟨hjk, fun e => ?_⟩
    subst e
    have hf2 := hf.2
    dsimp only at hf2
    rw [hj] at hf2
    rw [a_cv_cat]
    cases v <;> first | (simp at hf2; done) | (simp [Value.category]; done)
/-- what never changes: the classes, the String constants, the script, the statics -/
def a_strk (G : a_G) (k : Nat) (U : State) : Prop := va_O "java/lang/String" (G.2.1 (2 * k)) (fun q => G.1 ≤ q) U U.heap ∧ va_OF "java/lang/String" "coder" "B" (.int 0) (G.2.1 (2 * k)) (fun q => G.1 ≤ q) U U.heap ∧
  va_OF "java/lang/String" "value" "[B" (.ref (G.2.1 (2 * k + 1))) (G.2.1 (2 * k)) (fun q => G.1 ≤ q) U U.heap ∧ va_T .byte (G.2.1 (2 * k + 1)) (a_byt.getD k []).length (fun j => .int ((a_byt.getD k []).getD j 0)) (fun q => G.1 ≤ q) U U.heap ∧
  ∃ q, a_str[k]? = some q ∧ vk_R (a_cn q.1) q.2.1 q.2.2 (G.2.1 (2 * k)) U
def a_K (G : a_G) (sc : Nat × (Nat → Int32)) (U : State) : Prop := G.1 ≤ U.heap.size ∧ va_K G.2.2.1 a_cl (a_tys G) U ∧ (∀ k, k < 36 → a_strk G k U) ∧ va_X (G.2.1 1000) (sc.1 - 1) sc.2 U U.heap ∧ G.2.1 1000 < G.1 ∧
  va_Z "java/lang/String" "COMPACT_STRINGS" "Z" (.int 1) (fun q => G.1 ≤ q) U U.heap ∧ va_Z "jdk/internal/util/Preconditions" "SIOOBE_FORMATTER" "Ljava/util/function/BiFunction;" (a_fmt G) (fun q => G.1 ≤ q) U U.heap ∧
  va_AO "PreCommitHall$Hall" U ∧ va_Nw (.methodLinkNest "PreCommitHall" 51 ⟨"PreCommitHall$Draws", "<init>", "()V"⟩ "PreCommitHall") U
/-- the constants stay true at another state of the same run -/
theorem a_K_moved {G : a_G} {sc : Nat × (Nat → Int32)} {s U : State} (hW : s.WarmedH U.vm) (hz : G.1 ≤ U.heap.size) (hq : ∀ a, a < s.heap.size → ¬ G.1 ≤ a → U.heap[a]? = s.heap[a]?) (h : a_K G sc s) : a_K G sc U := by
  obtain ⟨h0, h1, h2, h3, h4, h5, h6, h7, h8⟩ := h
  have hvm := hW.alike
  refine ⟨hz, va_K.moved hvm h1, fun k hk => ?_, va_X.moved hvm (h3.kept (hq _ (by obtain ⟨scr, g, -⟩ := h3; exact (Array.getElem?_eq_some_iff.mp g).1) (by omega))), h4, va_Z.moved hvm (h5.kept hq), va_Z.moved hvm (h6.kept hq), va_AO.moved hvm h7, va_Nw.warmM hW h8⟩
  obtain ⟨g1, g2, g3, g4, q, g5, g6⟩ := h2 k hk
  exact ⟨va_O.moved hvm (g1.kept hq), va_OF.moved hvm (g2.kept hq), va_OF.moved hvm (g3.kept hq), va_T.moved hvm (g4.kept hq), q, g5, g6.warm hW⟩
