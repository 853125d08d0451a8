/-! THE ABSTRACT MACHINE IS TRUE OVER THE MACHINE -/
def a_nal : List Nat := a_ms.map (fun q => ((parseMethodDescriptor q.1.desc).map (fun d => d.parameters.length)).getD 99)
def a_callok (i : Nat) (r : Nat × a_Rw) : Bool := match r.2 with
  | (ins, _, a, b, _) => match ins with
    | .invokevirtual _ => a == 999 || (decide (a_FR a + 1 ≤ a_FR i) && decide (19 + a_maxL a + a_LO a ≤ a_LO i) && a_nal.getD a 0 + 1 == b)
    | .invokestatic _ => a == 999 || (if a = 1001 then decide (1 ≤ a_FR i) && decide (26 ≤ a_LO i) else decide (a_FR a + 1 ≤ a_FR i) && decide (19 + a_maxL a + a_LO a ≤ a_LO i) && a_nal.getD a 0 == b)
    | .invokespecial _ => a == 999 || (if a = 1000 then decide (1 ≤ a_FR i) && decide (20 ≤ a_LO i) else decide (a_FR a + 1 ≤ a_FR i) && decide (19 + a_maxL a + a_LO a ≤ a_LO i) && a_nal.getD a 0 + 1 == b)
    | _ => true
theorem a_callok_all : (List.range 274).all (fun i => (a_codes.getD i []).all (a_callok i)) = true := by decide +kernel
theorem a_nal_all : ∀ j, j < 274 → (parseMethodDescriptor (a_y j).desc).map (fun d => d.parameters.length) = some (a_nal.getD j 0) := by decide +kernel
theorem a_nmy : ∀ j, j < 274 → a_nm j = (a_y j).name := by decide +kernel
section ASO
variable {p : Program} {l : Launch} {e : Env} {R : Room} {s : State} {m : MethodId} {args : Array Value} {below : List Frame} {meth : Method} {c : Code} {Q : State → Prop} {G : a_G} {n0 s0 : Nat} {h : a_Hp} {H : Heap} {locs : List Loc} {pc : Nat} {ls : Array Slot} {st : List Value} {sc : Nat × (Nat → Int32)} {i : Nat} {lc lc' : a_Lc} {pc' : Nat} {st' : List Value} {h' : a_Hp}
theorem a_ofW {y : MethodName} {ws ws' : List Cond} {rm : Room} {Pc : Array Value → State → Prop} {Qc : Array Value → State → Outcome → State → Prop} {mc ms : Nat} {free : Addr → Prop} {cc : ByteArray} {maxL : Nat} {ret : Option FieldType}
    (hy : plainFor y = true) (hw : ws = Cond.code y cc maxL ret :: ws')
    (body : ∀ p e s m args below meth c s₁, BodyLoose p l y (headSpec ws rm) cc maxL ret e s m args below meth c s₁ → c.maxLocals = maxL → Pc args s →
      W p l e (headSpec ws rm).room s m args below meth c s.heap [] 0 0 (MQ below Qc args s mc ms free) (entryFrame m args maxL)) : Met l y ws rm Pc Qc mc ms free := by
  refine MetFree.of_bodySF (code := cc) (maxLocals := maxL) (ret := ret) hy ?_ ?_
  · intro args s m h hn
    obtain ⟨meth, c, h1, h2, h3, h4, h5, h6, -, -⟩ := Cond.code_spec hn (atoms_spec (ws := ws) h _ (by rw [hw]; exact List.mem_cons_self))
    exact ⟨meth, c, h1, h2, h3, h4, h5, h6⟩
  · intro p e s m args below meth c s₁ B hml hP _
    have hh0 : s₁.heap = s.heap := by rw [B.state]; rfl
    obtain ⟨t, a1, o, b1, b2, b3⟩ := body p e s m args below meth c s₁ B hml hP s₁ hh0 (Stand.of_body B)
    exact ⟨t, o, a1, b1, b2, ⟨b3.1, b3.2⟩⟩
def a_Met (l : Launch) (G : a_G) (sc : Nat × (Nat → Int32)) (i : Nat) (as : List Value) (h : a_Hp) (v : Option Value) (h' : a_Hp) : Prop :=
  Met l (a_y i) (a_ws i) { frames := a_FR i, cells := h'.1.length - h.1.length, slots := a_hs h' - a_hs h, locals := a_LO i } (va_Pc (as.map (a_cv G)) (fun U => a_K G sc U ∧ a_HR G h U.heap))
    (fun _ st o t => o = .returned (v.map (a_cv G)) ∧ a_HR G h' t.heap ∧ ∀ q : Nat, q < G.1 → t.heap[q]? = st.heap[q]?) (h'.1.length - h.1.length) (a_hs h' - a_hs h) (fun q => G.1 ≤ q)
/-- a method's end -/
def a_End (i pc : Nat) (v : Option Value) : Prop := match v with
  | none => decode (a_bytes i) pc = .ok (.return_, 1) ∧ a_ret i = none
  | some (.int x) => decode (a_bytes i) pc = .ok (.ireturn, 1) ∧ ∃ ty, a_ret i = some ty ∧ narrow ty (.int x) = .int x
  | some (.ref _) => decode (a_bytes i) pc = .ok (.areturn, 1) ∧ ∃ ty, a_ret i = some ty ∧ a_fits ty = true
  | _ => False
/-- monotony of one step -/
def a_Mo (h h' : a_Hp) : Prop := h.1.length ≤ h'.1.length ∧ a_hs h ≤ a_hs h' ∧ h'.2.2.2 = h.2.2.2
theorem a_Mo.rf : a_Mo h h := ⟨Nat.le_refl _, Nat.le_refl _, rfl⟩
theorem a_Mo.push (k n : Nat) : a_Mo h (a_push k n h) := ⟨by rw [a_push_len]; omega, by rw [a_hs_push]; omega, rfl⟩
theorem a_Mo.tr {h1 : a_Hp} (x : a_Mo h h1) (y : a_Mo h1 h') : a_Mo h h' := ⟨Nat.le_trans x.1 y.1, Nat.le_trans x.2.1 y.2.1, y.2.2.trans x.2.2⟩
theorem a_Mo_nx {r : Nat × a_Lc × List Value × a_Hp} (h0 : a_Mo h h') (hs : a_nx pc lc st h' = some (.inl r)) : a_Mo h r.2.2.2 := by
  obtain rfl := a_nx_inv hs
  exact h0
theorem a_Mo_up {r : Nat × a_Lc × List Value × a_Hp} {x : Nat → Nat → Option Nat} {y : Nat → Nat → Int32} (hs : a_nx pc lc st (h.1, x, y, h.2.2.2) = some (.inl r)) : a_Mo h r.2.2.2 := by
  obtain rfl := a_nx_inv hs
  exact ⟨Nat.le_refl _, Nat.le_refl _, rfl⟩
end ASO
theorem a_no1 {x : a_Rs} (h : (none : Option a_Rs) = some x) : False := by cases h
theorem a_no2 {x : (Nat × Nat × List Value × List Value) ⊕ Option Value} {y : Nat × a_Lc × List Value × a_Hp} (h : (some (Sum.inr x) : Option a_Rs) = some (Sum.inl y)) : False := by cases h
theorem a_step_mo {i : Nat} {rw' : a_Rw} {pc : Nat} {lc : a_Lc} {st : List Value} {h : a_Hp} {r : Nat × a_Lc × List Value × a_Hp} (hs : a_step i rw' pc lc st h = some (.inl r)) : a_Mo h r.2.2.2 := by
  obtain ⟨ins, n, a, b, v⟩ := rw'
  cases ins <;> first
    | (cases hs; done)
    | exact a_Mo_nx a_Mo.rf hs
    | (simp only [a_step, a_ldi, a_ldl, a_lda, a_sti, a_sta, a_op2, a_opd, a_getf, a_putf, a_ld, a_stx, a_newo, a_newa, a_alen, a_cpy, a_call] at hs
       repeat (first | exact a_Mo_nx a_Mo.rf hs | exact a_Mo_nx (a_Mo.push _ _) hs | exact a_Mo_up hs | exact (a_no1 hs).elim | exact (a_no2 hs).elim | split at hs))

theorem a_ex_mo : ∀ (f : Nat) {i pc : Nat} {lc : a_Lc} {st : List Value} {h : a_Hp} {v : Option Value} {h' : a_Hp}, a_ex f i pc lc st h = some (v, h') → a_Mo h h' := by
  intro f
  induction f with
  | zero => intro i pc lc st h v h' hs; cases hs
  | succ f ih =>
    intro i pc lc st h v h' hs
    unfold a_ex at hs
    split at hs
    · cases hs
    · split at hs
      · cases hs
      · rename_i r1 r2 r3 r4 r5
        exact (a_step_mo r5).tr (ih hs)
      · split at hs
        · cases hs
        · rename_i e1
          exact (ih e1).tr (ih hs)
      · cases hs
        exact a_Mo.rf
