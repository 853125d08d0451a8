/-! THE ABSTRACT MACHINE: objects are numbers in the order in which they were made; what lies in them is two functions; its steps are defined here, its truth over the machine is proved in the parts behind -/
abbrev a_Hp : Type := List (Nat × Nat) × (Nat → Nat → Option Nat) × (Nat → Nat → Int32) × Nat × (Nat → Int32)
abbrev a_Lc : Type := List (Option Value)
abbrev a_Rs : Type := (Nat × a_Lc × List Value × a_Hp) ⊕ ((Nat × Nat × List Value × List Value) ⊕ Option Value)
def a_CB : Nat := 1000000
def a_up {α : Type} (f : Nat → Nat → α) (o k : Nat) (v : α) : Nat → Nat → α := fun a c => if a = o then (if c = k then v else f a c) else f a c
def a_row {α : Type} (f : Nat → Nat → α) (o : Nat) (g : Nat → α) : Nat → Nat → α := fun a => if a = o then g else f a
def a_nx (pc : Nat) (lc : a_Lc) (st : List Value) (h : a_Hp) : Option a_Rs := some (.inl (pc, lc, st, h))
def a_in (i : Int32) (n : Nat) : Bool := !(decide (i < 0) || decide (n ≤ i.toNatClampNeg))
def a_cmp (c : Jvm.ClassFile.Cond) (x y : Int32) : Bool := match c with
  | .eq => decide (x = y) | .ne => decide (¬ x = y) | .lt => decide (x < y) | .ge => decide (y ≤ x) | .gt => decide (y < x) | .le => decide (x ≤ y)
def a_ins (i pc : Nat) : Option a_Rw := ((a_codes[i]?).getD []).lookup pc
def a_maxL (i : Nat) : Nat := match a_ms[i]? with | some q => q.2.2.1 | none => 0
def a_ret (i : Nat) : Option FieldType := match a_ms[i]? with | some q => q.2.2.2.1 | none => none
def a_FR (i : Nat) : Nat := match a_ms[i]? with | some q => q.2.2.2.2.2.1 | none => 0
def a_LO (i : Nat) : Nat := match a_ms[i]? with | some q => q.2.2.2.2.2.2 | none => 0
def a_y (i : Nat) : MethodName := match a_ms[i]? with | some q => q.1 | none => ⟨"", "", ""⟩
/-- the places of locals that the arguments take -/
def a_slots : List Value → a_Lc
  | [] => []
  | v :: l => if v.category = 2 then some v :: none :: a_slots l else some v :: a_slots l
def a_ent (j : Nat) (as : List Value) : a_Lc := a_slots as ++ List.replicate (a_maxL j - (a_slots as).length) none
def a_op2 (f : Int32 → Int32 → Int32) (pc : Nat) (lc : a_Lc) (st : List Value) (h : a_Hp) : Option a_Rs := match st with
  | .int y :: .int x :: r => a_nx pc lc (.int (f x y) :: r) h
  | _ => none
def a_opd (f : Int32 → Int32 → Int32) (pc : Nat) (lc : a_Lc) (st : List Value) (h : a_Hp) : Option a_Rs := match st with
  | .int y :: .int x :: r => if y = 0 then none else a_nx pc lc (.int (f x y) :: r) h
  | _ => none
def a_ldi (k pc : Nat) (lc : a_Lc) (st : List Value) (h : a_Hp) : Option a_Rs := match lc[k]? with
  | some (some (.int x)) => a_nx pc lc (.int x :: st) h
  | _ => none
def a_ldl (k pc : Nat) (lc : a_Lc) (st : List Value) (h : a_Hp) : Option a_Rs := match lc[k]? with
  | some (some (.long x)) => a_nx pc lc (.long x :: st) h
  | _ => none
def a_lda (k pc : Nat) (lc : a_Lc) (st : List Value) (h : a_Hp) : Option a_Rs := match lc[k]? with
  | some (some (.ref x)) => a_nx pc lc (.ref x :: st) h
  | _ => none
/-- a local may be stored at k: no long lies ahead of it -/
def a_free (k : Nat) (lc : a_Lc) : Bool := decide (k < lc.length) && (match k with
  | 0 => true
  | j + 1 => match lc[j]? with | some (some (.long _)) => false | some (some (.double _)) => false | _ => true)
def a_sti (k pc : Nat) (lc : a_Lc) (st : List Value) (h : a_Hp) : Option a_Rs := match st with
  | .int x :: r => if a_free k lc = true then a_nx pc (lc.set k (some (.int x))) r h else none
  | _ => none
def a_sta (k pc : Nat) (lc : a_Lc) (st : List Value) (h : a_Hp) : Option a_Rs := match st with
  | .ref x :: r => if a_free k lc = true then a_nx pc (lc.set k (some (.ref x))) r h else none
  | _ => none
def a_rv (r : Option Nat) : Value := match r with | some q => .ref q | none => .null
/-- what a field of an object holds -/
def a_fv (c k : Nat) (h : a_Hp) (o : Nat) : Value := if a_fk c k = 1 then a_rv (h.2.1 o k) else .int (h.2.2.1 o k)
def a_getf (c k pc : Nat) (lc : a_Lc) (st : List Value) (h : a_Hp) : Option a_Rs := match st with
  | .ref o :: r =>
    if c = 9 then (if o % 2 = 0 ∧ a_CB ≤ o ∧ (o - a_CB) / 2 < 36 then (if k = 0 then a_nx pc lc (.ref (o + 1) :: r) h else a_nx pc lc (.int 0 :: r) h) else none)
    else if o < a_CB ∧ h.1[o]? = some (10 + c, a_fn c) ∧ k < a_fn c ∧ c < 9 then a_nx pc lc (a_fv c k h o :: r) h else none
  | _ => none
def a_putf (c k pc : Nat) (lc : a_Lc) (st : List Value) (h : a_Hp) : Option a_Rs := match st with
  | .int x :: .ref o :: r => if o < a_CB ∧ h.1[o]? = some (10 + c, a_fn c) ∧ k < a_fn c ∧ c < 9 ∧ (a_fk c k = 0 ∨ (a_fk c k = 2 ∧ (x = 0 ∨ x = 1))) then a_nx pc lc r (h.1, h.2.1, a_up h.2.2.1 o k x, h.2.2.2) else none
  | .ref v :: .ref o :: r => if o < a_CB ∧ h.1[o]? = some (10 + c, a_fn c) ∧ k < a_fn c ∧ c < 9 ∧ a_fk c k = 1 ∧ v < a_CB ∧ v < h.1.length then a_nx pc lc r (h.1, a_up h.2.1 o k (some v), h.2.2.1, h.2.2.2) else none
  | _ => none
def a_ld (t pc : Nat) (lc : a_Lc) (st : List Value) (h : a_Hp) : Option a_Rs := match st with
  | .int i :: .ref o :: r => match h.1[o]? with
    | some (k, n) => if o < a_CB ∧ a_in i n = true ∧ (k = t ∨ (t = 1 ∧ k = 2)) then (if t = 3 then a_nx pc lc (a_rv (h.2.1 o i.toNatClampNeg) :: r) h else a_nx pc lc (.int (h.2.2.1 o i.toNatClampNeg) :: r) h) else none
    | none =>
      if t = 0 ∧ o = a_CB + 1000 ∧ a_in i (h.2.2.2.1 - 1) = true then a_nx pc lc (.int (h.2.2.2.2 i.toNatClampNeg) :: r) h
      else if t = 1 ∧ o % 2 = 1 ∧ a_CB ≤ o ∧ (o - a_CB) / 2 < 36 ∧ a_in i (a_byt.getD ((o - a_CB) / 2) []).length = true then a_nx pc lc (.int ((a_byt.getD ((o - a_CB) / 2) []).getD i.toNatClampNeg 0) :: r) h
      else none
  | _ => none
/-- what is kept of a number that is stored in an array of a kind -/
def a_nar (k : Nat) (x : Int32) : Int32 := if k = 1 then vp_nar .byte x else if k = 2 then vp_nar .boolean x else x
def a_stx (t pc : Nat) (lc : a_Lc) (st : List Value) (h : a_Hp) : Option a_Rs := match st with
  | .int x :: .int i :: .ref o :: r => match h.1[o]? with
    | some (k, n) => if o < a_CB ∧ a_in i n = true ∧ (k = t ∨ (t = 1 ∧ k = 2)) ∧ t < 2 then a_nx pc lc r (h.1, h.2.1, a_up h.2.2.1 o i.toNatClampNeg (a_nar k x), h.2.2.2) else none
    | none => none
  | .ref v :: .int i :: .ref o :: r => match h.1[o]? with
    | some (k, n) => if o < a_CB ∧ a_in i n = true ∧ k = 3 ∧ t = 3 ∧ v < a_CB ∧ h.1[v]? = some (11, a_fn 1) then a_nx pc lc r (h.1, a_up h.2.1 o i.toNatClampNeg (some v), h.2.2.1, h.2.2.2) else none
    | none => none
  | _ => none
def a_push (k n : Nat) (h : a_Hp) : a_Hp := (h.1 ++ [(k, n)], a_row h.2.1 h.1.length (fun _ => none), a_row h.2.2.1 h.1.length (fun _ => 0), h.2.2.2)
def a_newo (c pc : Nat) (lc : a_Lc) (st : List Value) (h : a_Hp) : Option a_Rs := if h.1.length < a_CB ∧ c < 9 then a_nx pc lc (.ref h.1.length :: st) (a_push (10 + c) (a_fn c) h) else none
def a_newa (k pc : Nat) (lc : a_Lc) (st : List Value) (h : a_Hp) : Option a_Rs := match st with
  | .int n :: r => if h.1.length < a_CB ∧ ¬ n < 0 ∧ n.toNatClampNeg ≤ 100000 ∧ k < 4 then a_nx pc lc (.ref h.1.length :: r) (a_push k n.toNatClampNeg h) else none
  | _ => none
def a_alen (pc : Nat) (lc : a_Lc) (st : List Value) (h : a_Hp) : Option a_Rs := match st with
  | .ref o :: r => match h.1[o]? with
    | some (k, n) => if o < a_CB ∧ k < 4 then a_nx pc lc (.int (Int32.ofNat n) :: r) h else none
    | none =>
      if o = a_CB + 1000 ∧ ¬ h.2.2.2.1 = 0 then a_nx pc lc (.int (Int32.ofNat (h.2.2.2.1 - 1)) :: r) h
      else if o % 2 = 1 ∧ a_CB ≤ o ∧ (o - a_CB) / 2 < 36 then a_nx pc lc (.int (Int32.ofNat (a_byt.getD ((o - a_CB) / 2) []).length) :: r) h
      else none
  | _ => none
def a_cpy (pc : Nat) (lc : a_Lc) (st : List Value) (h : a_Hp) : Option a_Rs := match st with
  | .int n :: .int dp :: .ref d :: .int sp :: .ref q :: r => match h.1[q]?, h.1[d]? with
    | some (k0, n0), some (k1, n1) => if q < a_CB ∧ d < a_CB ∧ k0 = k1 ∧ k0 < 2 ∧ ¬ sp < 0 ∧ ¬ dp < 0 ∧ ¬ n < 0 ∧ sp.toNatClampNeg + n.toNatClampNeg ≤ n0 ∧ dp.toNatClampNeg + n.toNatClampNeg ≤ n1 ∧ (r.map (fun v => v.category)).sum ≤ 8 then
        a_nx pc lc r (h.1, h.2.1, a_row h.2.2.1 d (va_cpy (h.2.2.1 q) (h.2.2.1 d) sp.toNatClampNeg dp.toNatClampNeg n.toNatClampNeg), h.2.2.2) else none
    | _, _ => none
  | _ => none
def a_call (k b pc : Nat) (st : List Value) : Option a_Rs := if b ≤ st.length ∧ ((st.drop b).map (fun v => v.category)).sum ≤ 8 ∧ (a_slots (st.take b).reverse).length ≤ a_maxL k then some (.inr (.inl (k, pc, (st.take b).reverse, st.drop b))) else none
/-- whether a receiver is of the class of the method -/
def a_rcv (j b : Nat) (st : List Value) (h : a_Hp) : Bool := match st[b - 1]? with
  | some (.ref o) => (decide (o < a_CB ∧ a_own j < 9 ∧ h.1[o]? = some (10 + a_own j, a_fn (a_own j)))) || decide (a_own j = 9 ∧ o % 2 = 0 ∧ a_CB ≤ o ∧ (o - a_CB) / 2 < 36)
  | _ => false
def a_fits (ty : FieldType) : Bool := match ty with | .object _ => true | .array _ => true | _ => false
def a_step (i : Nat) (rw : a_Rw) (pc : Nat) (lc : a_Lc) (st : List Value) (h : a_Hp) : Option a_Rs := match rw with
  | (ins, n, a, b, v) => match ins with
    | .iconst _ => a_nx (pc + n) lc (.int v :: st) h
    | .bipush _ => a_nx (pc + n) lc (.int v :: st) h
    | .sipush _ => a_nx (pc + n) lc (.int v :: st) h
    | .lconst _ => a_nx (pc + n) lc (.long v.toInt64 :: st) h
    | .ldc _ => if a = 0 then a_nx (pc + n) lc (.int v :: st) h else a_nx (pc + n) lc (.ref (a_CB + 2 * b) :: st) h
    | .ldc_w _ => if a = 0 then a_nx (pc + n) lc (.int v :: st) h else a_nx (pc + n) lc (.ref (a_CB + 2 * b) :: st) h
    | .ldc2_w _ => a_nx (pc + n) lc (.long v.toInt64 :: st) h
    | .iload k => a_ldi k (pc + n) lc st h
    | .iload_n k => a_ldi k (pc + n) lc st h
    | .lload k => a_ldl k (pc + n) lc st h
    | .lload_n k => a_ldl k (pc + n) lc st h
    | .aload k => a_lda k (pc + n) lc st h
    | .aload_n k => a_lda k (pc + n) lc st h
    | .istore k => a_sti k (pc + n) lc st h
    | .istore_n k => a_sti k (pc + n) lc st h
    | .astore k => a_sta k (pc + n) lc st h
    | .astore_n k => a_sta k (pc + n) lc st h
    | .iinc k _ => match lc[k]? with | some (some (.int x)) => if a_free k lc = true then a_nx (pc + n) (lc.set k (some (.int (x + v)))) st h else none | _ => none
    | .iadd => a_op2 (fun x y => x + y) (pc + n) lc st h
    | .isub => a_op2 (fun x y => x - y) (pc + n) lc st h
    | .imul => a_op2 (fun x y => x * y) (pc + n) lc st h
    | .iand => a_op2 (fun x y => x &&& y) (pc + n) lc st h
    | .ior => a_op2 (fun x y => x ||| y) (pc + n) lc st h
    | .ixor => a_op2 (fun x y => x ^^^ y) (pc + n) lc st h
    | .ishl => a_op2 (fun x y => x <<< (y &&& 31)) (pc + n) lc st h
    | .ishr => a_op2 (fun x y => x >>> (y &&& 31)) (pc + n) lc st h
    | .iushr => a_op2 (fun x y => (x.toUInt32 >>> (y.toUInt32 &&& Int32.toUInt32 31)).toInt32) (pc + n) lc st h
    | .idiv => a_opd (fun x y => x / y) (pc + n) lc st h
    | .irem => a_opd (fun x y => x - x / y * y) (pc + n) lc st h
    | .i2l => match st with | .int x :: r => a_nx (pc + n) lc (.long x.toInt64 :: r) h | _ => none
    | .i2b => match st with | .int x :: r => a_nx (pc + n) lc (.int x.toInt8.toInt32 :: r) h | _ => none
    | .i2c => match st with | .int x :: r => a_nx (pc + n) lc (.int (x.toUInt32 % 65536).toInt32 :: r) h | _ => none
    | .lcmp => match st with | .long y :: .long x :: r => a_nx (pc + n) lc (.int (lg_cmp x y) :: r) h | _ => none
    | .pop => match st with | x :: r => if x.category = 1 then a_nx (pc + n) lc r h else none | _ => none
    | .dup => match st with | x :: r => if x.category = 1 then a_nx (pc + n) lc (x :: x :: r) h else none | _ => none
    | .dup2 => match st with | x :: y :: r => if x.category = 1 ∧ y.category = 1 then a_nx (pc + n) lc (x :: y :: x :: y :: r) h else none | _ => none
    | .ifCond c _ => match st with | .int x :: r => a_nx (if a_cmp c x 0 = true then a else pc + n) lc r h | _ => none
    | .if_icmp c _ => match st with | .int y :: .int x :: r => a_nx (if a_cmp c x y = true then a else pc + n) lc r h | _ => none
    | .goto _ => a_nx a lc st h
    | .tableswitch d lo hi os => match st with
      | .int x :: r => if x.toInt < lo ∨ hi < x.toInt then a_nx ((pc : Int) + d).toNat lc r h else (match os[(x.toInt - lo).toNat]? with | some off => a_nx ((pc : Int) + off).toNat lc r h | none => none)
      | _ => none
    | .lookupswitch d ps => match st with
      | .int x :: r => a_nx ((pc : Int) + Op.lookupswitch.offset ps.toList d x.toInt).toNat lc r h
      | _ => none
    | .getfield _ => a_getf a b (pc + n) lc st h
    | .putfield _ => a_putf a b (pc + n) lc st h
    | .getstatic _ => if a = 0 then a_nx (pc + n) lc (.int 1 :: st) h else a_nx (pc + n) lc (.retAddr 0 :: st) h
    | .iaload => a_ld 0 (pc + n) lc st h
    | .baload => a_ld 1 (pc + n) lc st h
    | .aaload => a_ld 3 (pc + n) lc st h
    | .iastore => a_stx 0 (pc + n) lc st h
    | .bastore => a_stx 1 (pc + n) lc st h
    | .aastore => a_stx 3 (pc + n) lc st h
    | .new _ => a_newo a (pc + n) lc st h
    | .newarray _ => a_newa a (pc + n) lc st h
    | .anewarray _ => a_newa 3 (pc + n) lc st h
    | .arraylength => a_alen (pc + n) lc st h
    | .invokevirtual _ => if a < 274 ∧ 0 < b ∧ a_rcv a b st h = true then a_call a b (pc + n) st else none
    | .invokestatic _ => if a = 1001 then a_cpy (pc + n) lc st h else if a < 274 then a_call a b (pc + n) st else none
    | .invokespecial _ => if a = 1000 then (match st with | .ref _ :: r => if (r.map (fun v => v.category)).sum ≤ 8 then a_nx (pc + n) lc r h else none | _ => none)
        else if a < 274 ∧ 0 < b ∧ a_rcv a b st h = true then a_call a b (pc + n) st else none
    | .ireturn => match st, a_ret i with | [.int x], some ty => if narrow ty (.int x) = .int x then some (.inr (.inr (some (.int x)))) else none | _, _ => none
    | .areturn => match st, a_ret i with | [.ref x], some ty => if a_fits ty = true then some (.inr (.inr (some (.ref x)))) else none | _, _ => none
    | .return_ => match st, a_ret i with | [], none => some (.inr (.inr none)) | _, _ => none
    | _ => none
/-- one method on the abstract machine, by a fuel -/
def a_ex : Nat → Nat → Nat → a_Lc → List Value → a_Hp → Option (Option Value × a_Hp)
  | 0, _, _, _, _, _ => none
  | f + 1, i, pc, lc, st, h => match a_ins i pc with
    | none => none
    | some rw => match a_step i rw pc lc st h with
      | none => none
      | some (.inl (pc', lc', st', h')) => a_ex f i pc' lc' st' h'
      | some (.inr (.inl (j, pc', as, r))) => (match a_ex f j 0 (a_ent j as) [] h with
        | none => none
        | some (v, h') => a_ex f i pc' lc (v.toList ++ r) h')
      | some (.inr (.inr v)) => some (v, h)
