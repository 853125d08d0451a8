/-! RUNS OF THE ABSTRACT MACHINE, GOAL FIRST: one row an instruction -/
def a_Ex (i pc : Nat) (lc : a_Lc) (st : List Value) (h : a_Hp) (Q : Option Value → a_Hp → Prop) : Prop := ∃ (f : Nat) (v : Option Value) (h' : a_Hp), a_ex f i pc lc st h = some (v, h') ∧ Q v h'
theorem a_ex_s : ∀ (f : Nat) {i pc : Nat} {lc : a_Lc} {st : List Value} {h : a_Hp} {r : Option Value × a_Hp}, a_ex f i pc lc st h = some r → a_ex (f + 1) i pc lc st h = some r := by
  intro f
  induction f with
  | zero => intro i pc lc st h r hs; cases hs
  | succ f ih =>
    intro i pc lc st h r hs
    unfold a_ex at hs ⊢
    cases e1 : a_ins i pc with
    | none => rw [e1] at hs; cases hs
    | some rw' =>
      rw [e1] at hs
      dsimp only at hs ⊢
      cases e2 : a_step i rw' pc lc st h with
      | none => rw [e2] at hs; cases hs
      | some q =>
        rw [e2] at hs
        match q, hs with
        | .inl (pc', lc', st', h'), hs => exact ih hs
        | .inr (.inl (j, pc', as, r')), hs =>
          dsimp only at hs ⊢
          cases e3 : a_ex f j 0 (a_ent j as) [] h with
          | none => rw [e3] at hs; cases hs
          | some w =>
            obtain ⟨v, h'⟩ := w
            rw [e3] at hs
            rw [ih e3]
            exact ih hs
        | .inr (.inr v), hs => exact hs
theorem a_ex_le {f g : Nat} (hfg : f ≤ g) {i pc : Nat} {lc : a_Lc} {st : List Value} {h : a_Hp} {r : Option Value × a_Hp} (hs : a_ex f i pc lc st h = some r) : a_ex g i pc lc st h = some r := by
  obtain ⟨k, rfl⟩ := Nat.exists_eq_add_of_le hfg
  clear hfg
  induction k with
  | zero => exact hs
  | succ k ih => exact a_ex_s _ ih
section EXR
variable {i pc : Nat} {lc : a_Lc} {st : List Value} {h : a_Hp} {Q : Option Value → a_Hp → Prop} {n a b : Nat} {v : Int32} {x y : Int32}
theorem x_nx {rw' : a_Rw} {pc' : Nat} {lc' : a_Lc} {st' : List Value} {h' : a_Hp} (hi : a_ins i pc = some rw') (hs : a_step i rw' pc lc st h = some (.inl (pc', lc', st', h'))) (k : a_Ex i pc' lc' st' h' Q) : a_Ex i pc lc st h Q := by
  obtain ⟨f, v, h2, e, q⟩ := k
  refine ⟨f + 1, v, h2, ?_, q⟩
  unfold a_ex
  rw [hi]
  dsimp only
  rw [hs]
  exact e
theorem x_call {rw' : a_Rw} {j pc' : Nat} {as r : List Value} (hi : a_ins i pc = some rw') (hs : a_step i rw' pc lc st h = some (.inr (.inl (j, pc', as, r)))) (k : a_Ex j 0 (a_ent j as) [] h (fun v h' => a_Ex i pc' lc (v.toList ++ r) h' Q)) : a_Ex i pc lc st h Q := by
  obtain ⟨f, v, h2, e, g, w, h3, e2, q⟩ := k
  refine ⟨max f g + 1, w, h3, ?_, q⟩
  unfold a_ex
  rw [hi]
  dsimp only
  rw [hs]
  dsimp only
  rw [a_ex_le (Nat.le_max_left f g) e]
  exact a_ex_le (Nat.le_max_right f g) e2
theorem x_ret {rw' : a_Rw} {w : Option Value} (hi : a_ins i pc = some rw') (hs : a_step i rw' pc lc st h = some (.inr (.inr w))) (k : Q w h) : a_Ex i pc lc st h Q := by
  refine ⟨1, w, h, ?_, k⟩
  unfold a_ex
  rw [hi]
  dsimp only
  rw [hs]
theorem a_Ex.mono {Q' : Option Value → a_Hp → Prop} (k : a_Ex i pc lc st h Q) (hq : ∀ v h', Q v h' → Q' v h') : a_Ex i pc lc st h Q' := by
  obtain ⟨f, v, h2, e, q⟩ := k
  exact ⟨f, v, h2, e, hq v h2 q⟩
/-- what goes on behind a callee that is walked in place -/
def a_Rt (i pc : Nat) (lc : a_Lc) (r : List Value) (Q : Option Value → a_Hp → Prop) : Option Value → a_Hp → Prop := fun v h' => a_Ex i pc lc (v.toList ++ r) h' Q
theorem x_iconst {c : Int} (hi : a_ins i pc = some (.iconst c, n, a, b, v)) (k : a_Ex i (pc + n) lc (.int v :: st) h Q) : a_Ex i pc lc st h Q := x_nx hi rfl k
theorem x_bipush {c : Int} (hi : a_ins i pc = some (.bipush c, n, a, b, v)) (k : a_Ex i (pc + n) lc (.int v :: st) h Q) : a_Ex i pc lc st h Q := x_nx hi rfl k
theorem x_sipush {c : Int} (hi : a_ins i pc = some (.sipush c, n, a, b, v)) (k : a_Ex i (pc + n) lc (.int v :: st) h Q) : a_Ex i pc lc st h Q := x_nx hi rfl k
theorem x_lconst {c : Fin 2} (hi : a_ins i pc = some (.lconst c, n, a, b, v)) (k : a_Ex i (pc + n) lc (.long v.toInt64 :: st) h Q) : a_Ex i pc lc st h Q := x_nx hi rfl k
theorem x_ldc2 {c : Nat} (hi : a_ins i pc = some (.ldc2_w c, n, a, b, v)) (k : a_Ex i (pc + n) lc (.long v.toInt64 :: st) h Q) : a_Ex i pc lc st h Q := x_nx hi rfl k
theorem x_ldc {c : Nat} (hi : a_ins i pc = some (.ldc c, n, 0, b, v)) (k : a_Ex i (pc + n) lc (.int v :: st) h Q) : a_Ex i pc lc st h Q := x_nx hi rfl k
theorem x_ldcw {c : Nat} (hi : a_ins i pc = some (.ldc_w c, n, 0, b, v)) (k : a_Ex i (pc + n) lc (.int v :: st) h Q) : a_Ex i pc lc st h Q := x_nx hi rfl k
theorem x_ldcS {c : Nat} (hi : a_ins i pc = some (.ldc c, n, 1, b, v)) (k : a_Ex i (pc + n) lc (.ref (a_CB + 2 * b) :: st) h Q) : a_Ex i pc lc st h Q := x_nx hi rfl k
theorem x_ldcwS {c : Nat} (hi : a_ins i pc = some (.ldc_w c, n, 1, b, v)) (k : a_Ex i (pc + n) lc (.ref (a_CB + 2 * b) :: st) h Q) : a_Ex i pc lc st h Q := x_nx hi rfl k
theorem x_iload {c : Nat} (hi : a_ins i pc = some (.iload c, n, a, b, v)) (hl : lc[c]? = some (some (.int x))) (k : a_Ex i (pc + n) lc (.int x :: st) h Q) : a_Ex i pc lc st h Q := x_nx hi (by simp only [a_step, a_ldi, hl]; rfl) k
theorem x_iload_n {c : Fin 4} (hi : a_ins i pc = some (.iload_n c, n, a, b, v)) (hl : lc[(c : Nat)]? = some (some (.int x))) (k : a_Ex i (pc + n) lc (.int x :: st) h Q) : a_Ex i pc lc st h Q := x_nx hi (by simp only [a_step, a_ldi, hl]; rfl) k
theorem x_lload {c : Nat} {z : Int64} (hi : a_ins i pc = some (.lload c, n, a, b, v)) (hl : lc[c]? = some (some (.long z))) (k : a_Ex i (pc + n) lc (.long z :: st) h Q) : a_Ex i pc lc st h Q := x_nx hi (by simp only [a_step, a_ldl, hl]; rfl) k
theorem x_lload_n {c : Fin 4} {z : Int64} (hi : a_ins i pc = some (.lload_n c, n, a, b, v)) (hl : lc[(c : Nat)]? = some (some (.long z))) (k : a_Ex i (pc + n) lc (.long z :: st) h Q) : a_Ex i pc lc st h Q := x_nx hi (by simp only [a_step, a_ldl, hl]; rfl) k
theorem x_aload {c o : Nat} (hi : a_ins i pc = some (.aload c, n, a, b, v)) (hl : lc[c]? = some (some (.ref o))) (k : a_Ex i (pc + n) lc (.ref o :: st) h Q) : a_Ex i pc lc st h Q := x_nx hi (by simp only [a_step, a_lda, hl]; rfl) k
theorem x_aload_n {c : Fin 4} {o : Nat} (hi : a_ins i pc = some (.aload_n c, n, a, b, v)) (hl : lc[(c : Nat)]? = some (some (.ref o))) (k : a_Ex i (pc + n) lc (.ref o :: st) h Q) : a_Ex i pc lc st h Q := x_nx hi (by simp only [a_step, a_lda, hl]; rfl) k
theorem x_istore {c : Nat} {lc' : a_Lc} (hi : a_ins i pc = some (.istore c, n, a, b, v)) (hf : a_free c lc = true) (hl : lc.set c (some (.int x)) = lc') (k : a_Ex i (pc + n) lc' st h Q) : a_Ex i pc lc (.int x :: st) h Q := x_nx hi (by subst hl; simp only [a_step, a_sti, hf]; rfl) k
theorem x_istore_n {c : Fin 4} {lc' : a_Lc} (hi : a_ins i pc = some (.istore_n c, n, a, b, v)) (hf : a_free c lc = true) (hl : lc.set c (some (.int x)) = lc') (k : a_Ex i (pc + n) lc' st h Q) : a_Ex i pc lc (.int x :: st) h Q := x_nx hi (by subst hl; simp only [a_step, a_sti, hf]; rfl) k
theorem x_astore {c o : Nat} {lc' : a_Lc} (hi : a_ins i pc = some (.astore c, n, a, b, v)) (hf : a_free c lc = true) (hl : lc.set c (some (.ref o)) = lc') (k : a_Ex i (pc + n) lc' st h Q) : a_Ex i pc lc (.ref o :: st) h Q := x_nx hi (by subst hl; simp only [a_step, a_sta, hf]; rfl) k
theorem x_astore_n {c : Fin 4} {o : Nat} {lc' : a_Lc} (hi : a_ins i pc = some (.astore_n c, n, a, b, v)) (hf : a_free c lc = true) (hl : lc.set c (some (.ref o)) = lc') (k : a_Ex i (pc + n) lc' st h Q) : a_Ex i pc lc (.ref o :: st) h Q := x_nx hi (by subst hl; simp only [a_step, a_sta, hf]; rfl) k
theorem x_iinc {c : Nat} {z : Int} {lc' : a_Lc} (hi : a_ins i pc = some (.iinc c z, n, a, b, v)) (hg : lc[c]? = some (some (.int x))) (hf : a_free c lc = true) (hl : lc.set c (some (.int (x + v))) = lc') (k : a_Ex i (pc + n) lc' st h Q) : a_Ex i pc lc st h Q := x_nx hi (by subst hl; simp only [a_step, hg, hf]; rfl) k
theorem x_iadd (hi : a_ins i pc = some (.iadd, n, a, b, v)) (k : a_Ex i (pc + n) lc (.int (x + y) :: st) h Q) : a_Ex i pc lc (.int y :: .int x :: st) h Q := x_nx hi rfl k
theorem x_isub (hi : a_ins i pc = some (.isub, n, a, b, v)) (k : a_Ex i (pc + n) lc (.int (x - y) :: st) h Q) : a_Ex i pc lc (.int y :: .int x :: st) h Q := x_nx hi rfl k
theorem x_imul (hi : a_ins i pc = some (.imul, n, a, b, v)) (k : a_Ex i (pc + n) lc (.int (x * y) :: st) h Q) : a_Ex i pc lc (.int y :: .int x :: st) h Q := x_nx hi rfl k
theorem x_iand (hi : a_ins i pc = some (.iand, n, a, b, v)) (k : a_Ex i (pc + n) lc (.int (x &&& y) :: st) h Q) : a_Ex i pc lc (.int y :: .int x :: st) h Q := x_nx hi rfl k
theorem x_ior (hi : a_ins i pc = some (.ior, n, a, b, v)) (k : a_Ex i (pc + n) lc (.int (x ||| y) :: st) h Q) : a_Ex i pc lc (.int y :: .int x :: st) h Q := x_nx hi rfl k
theorem x_ixor (hi : a_ins i pc = some (.ixor, n, a, b, v)) (k : a_Ex i (pc + n) lc (.int (x ^^^ y) :: st) h Q) : a_Ex i pc lc (.int y :: .int x :: st) h Q := x_nx hi rfl k
theorem x_ishl (hi : a_ins i pc = some (.ishl, n, a, b, v)) (k : a_Ex i (pc + n) lc (.int (x <<< (y &&& 31)) :: st) h Q) : a_Ex i pc lc (.int y :: .int x :: st) h Q := x_nx hi rfl k
theorem x_ishr (hi : a_ins i pc = some (.ishr, n, a, b, v)) (k : a_Ex i (pc + n) lc (.int (x >>> (y &&& 31)) :: st) h Q) : a_Ex i pc lc (.int y :: .int x :: st) h Q := x_nx hi rfl k
theorem x_iushr (hi : a_ins i pc = some (.iushr, n, a, b, v)) (k : a_Ex i (pc + n) lc (.int ((x.toUInt32 >>> (y.toUInt32 &&& Int32.toUInt32 31)).toInt32) :: st) h Q) : a_Ex i pc lc (.int y :: .int x :: st) h Q := x_nx hi rfl k
theorem x_idiv (hi : a_ins i pc = some (.idiv, n, a, b, v)) (hy : ¬ y = 0) (k : a_Ex i (pc + n) lc (.int (x / y) :: st) h Q) : a_Ex i pc lc (.int y :: .int x :: st) h Q := x_nx hi (by simp only [a_step, a_opd, hy]; rfl) k
theorem x_irem (hi : a_ins i pc = some (.irem, n, a, b, v)) (hy : ¬ y = 0) (k : a_Ex i (pc + n) lc (.int (x - x / y * y) :: st) h Q) : a_Ex i pc lc (.int y :: .int x :: st) h Q := x_nx hi (by simp only [a_step, a_opd, hy]; rfl) k
theorem x_i2l (hi : a_ins i pc = some (.i2l, n, a, b, v)) (k : a_Ex i (pc + n) lc (.long x.toInt64 :: st) h Q) : a_Ex i pc lc (.int x :: st) h Q := x_nx hi rfl k
theorem x_i2b (hi : a_ins i pc = some (.i2b, n, a, b, v)) (k : a_Ex i (pc + n) lc (.int x.toInt8.toInt32 :: st) h Q) : a_Ex i pc lc (.int x :: st) h Q := x_nx hi rfl k
theorem x_i2c (hi : a_ins i pc = some (.i2c, n, a, b, v)) (k : a_Ex i (pc + n) lc (.int (x.toUInt32 % 65536).toInt32 :: st) h Q) : a_Ex i pc lc (.int x :: st) h Q := x_nx hi rfl k
theorem x_lcmp {z w : Int64} (hi : a_ins i pc = some (.lcmp, n, a, b, v)) (k : a_Ex i (pc + n) lc (.int (lg_cmp z w) :: st) h Q) : a_Ex i pc lc (.long w :: .long z :: st) h Q := x_nx hi rfl k
theorem x_pop {z : Value} (hi : a_ins i pc = some (.pop, n, a, b, v)) (hc : z.category = 1) (k : a_Ex i (pc + n) lc st h Q) : a_Ex i pc lc (z :: st) h Q := x_nx hi (by simp only [a_step, hc]; rfl) k
theorem x_dup {z : Value} (hi : a_ins i pc = some (.dup, n, a, b, v)) (hc : z.category = 1) (k : a_Ex i (pc + n) lc (z :: z :: st) h Q) : a_Ex i pc lc (z :: st) h Q := x_nx hi (by simp only [a_step, hc]; rfl) k
theorem x_dup2 {z w : Value} (hi : a_ins i pc = some (.dup2, n, a, b, v)) (hc : z.category = 1) (hd : w.category = 1) (k : a_Ex i (pc + n) lc (z :: w :: z :: w :: st) h Q) : a_Ex i pc lc (z :: w :: st) h Q := x_nx hi (by simp only [a_step, hc, hd]; rfl) k
theorem x_goto {c : Int} (hi : a_ins i pc = some (.goto c, n, a, b, v)) (k : a_Ex i a lc st h Q) : a_Ex i pc lc st h Q := x_nx hi rfl k
theorem x_if {c : Jvm.ClassFile.Cond} {z : Int} (hi : a_ins i pc = some (.ifCond c z, n, a, b, v)) (kt : a_cmp c x 0 = true → a_Ex i a lc st h Q) (kf : a_cmp c x 0 = false → a_Ex i (pc + n) lc st h Q) : a_Ex i pc lc (.int x :: st) h Q := by
  cases e : a_cmp c x 0 with
  | true => exact x_nx hi (by simp only [a_step, e]; rfl) (kt e)
  | false => exact x_nx hi (by simp only [a_step, e]; rfl) (kf e)
theorem x_icmp {c : Jvm.ClassFile.Cond} {z : Int} (hi : a_ins i pc = some (.if_icmp c z, n, a, b, v)) (kt : a_cmp c x y = true → a_Ex i a lc st h Q) (kf : a_cmp c x y = false → a_Ex i (pc + n) lc st h Q) : a_Ex i pc lc (.int y :: .int x :: st) h Q := by
  cases e : a_cmp c x y with
  | true => exact x_nx hi (by simp only [a_step, e]; rfl) (kt e)
  | false => exact x_nx hi (by simp only [a_step, e]; rfl) (kf e)
theorem x_ifT {c : Jvm.ClassFile.Cond} {z : Int} (hi : a_ins i pc = some (.ifCond c z, n, a, b, v)) (hc : a_cmp c x 0 = true) (kt : a_Ex i a lc st h Q) : a_Ex i pc lc (.int x :: st) h Q := x_nx hi (by simp only [a_step, hc]; rfl) kt
theorem x_ifF {c : Jvm.ClassFile.Cond} {z : Int} (hi : a_ins i pc = some (.ifCond c z, n, a, b, v)) (hc : a_cmp c x 0 = false) (kt : a_Ex i (pc + n) lc st h Q) : a_Ex i pc lc (.int x :: st) h Q := x_nx hi (by simp only [a_step, hc]; rfl) kt
theorem x_icmpT {c : Jvm.ClassFile.Cond} {z : Int} (hi : a_ins i pc = some (.if_icmp c z, n, a, b, v)) (hc : a_cmp c x y = true) (kt : a_Ex i a lc st h Q) : a_Ex i pc lc (.int y :: .int x :: st) h Q := x_nx hi (by simp only [a_step, hc]; rfl) kt
theorem x_icmpF {c : Jvm.ClassFile.Cond} {z : Int} (hi : a_ins i pc = some (.if_icmp c z, n, a, b, v)) (hc : a_cmp c x y = false) (kt : a_Ex i (pc + n) lc st h Q) : a_Ex i pc lc (.int y :: .int x :: st) h Q := x_nx hi (by simp only [a_step, hc]; rfl) kt
theorem x_tswO {d lo hi' : Int} {os : Array Int} (hi : a_ins i pc = some (.tableswitch d lo hi' os, n, a, b, v)) {t : Nat} (hc : x.toInt < lo ∨ hi' < x.toInt) (ht : ((pc : Int) + d).toNat = t) (k : a_Ex i t lc st h Q) : a_Ex i pc lc (.int x :: st) h Q := by
  subst ht
  exact x_nx hi (by simp only [a_step, hc, if_true]; rfl) k
theorem x_tswI {d lo hi' off : Int} {os : Array Int} (hi : a_ins i pc = some (.tableswitch d lo hi' os, n, a, b, v)) {t : Nat} (hc : ¬ (x.toInt < lo ∨ hi' < x.toInt)) (ho : os[(x.toInt - lo).toNat]? = some off) (ht : ((pc : Int) + off).toNat = t) (k : a_Ex i t lc st h Q) : a_Ex i pc lc (.int x :: st) h Q := by
  subst ht
  exact x_nx hi (by simp only [a_step, hc, if_false, ho]; rfl) k
theorem x_lsw {d : Int} {ps : Array (Int × Int)} (hi : a_ins i pc = some (.lookupswitch d ps, n, a, b, v)) {t : Nat} (ht : ((pc : Int) + Op.lookupswitch.offset ps.toList d x.toInt).toNat = t) (k : a_Ex i t lc st h Q) : a_Ex i pc lc (.int x :: st) h Q := by
  subst ht
  exact x_nx hi rfl k
theorem x_iret {ty : FieldType} (hi : a_ins i pc = some (.ireturn, n, a, b, v)) (hr : a_ret i = some ty) (hn : narrow ty (.int x) = .int x) (k : Q (some (.int x)) h) : a_Ex i pc lc [.int x] h Q := x_ret hi (by simp only [a_step, hr, hn, if_true]) k
theorem x_aret {ty : FieldType} {o : Nat} (hi : a_ins i pc = some (.areturn, n, a, b, v)) (hr : a_ret i = some ty) (hn : a_fits ty = true) (k : Q (some (.ref o)) h) : a_Ex i pc lc [.ref o] h Q := x_ret hi (by simp only [a_step, hr, hn, if_true]) k
theorem x_vret (hi : a_ins i pc = some (.return_, n, a, b, v)) (hr : a_ret i = none) (k : Q none h) : a_Ex i pc lc [] h Q := x_ret hi (by simp only [a_step, hr]) k
theorem x_iretI {ty : FieldType} {i' pc' : Nat} {lc' : a_Lc} {r : List Value} {Q' : Option Value → a_Hp → Prop} (hi : a_ins i pc = some (.ireturn, n, a, b, v)) (hr : a_ret i = some ty) (hn : narrow ty (.int x) = .int x) (k : a_Ex i' pc' lc' (.int x :: r) h Q') : a_Ex i pc lc [.int x] h (a_Rt i' pc' lc' r Q') := x_iret hi hr hn k
theorem x_aretI {ty : FieldType} {o i' pc' : Nat} {lc' : a_Lc} {r : List Value} {Q' : Option Value → a_Hp → Prop} (hi : a_ins i pc = some (.areturn, n, a, b, v)) (hr : a_ret i = some ty) (hn : a_fits ty = true) (k : a_Ex i' pc' lc' (.ref o :: r) h Q') : a_Ex i pc lc [.ref o] h (a_Rt i' pc' lc' r Q') := x_aret hi hr hn k
theorem x_vretI {i' pc' : Nat} {lc' : a_Lc} {r : List Value} {Q' : Option Value → a_Hp → Prop} (hi : a_ins i pc = some (.return_, n, a, b, v)) (hr : a_ret i = none) (k : a_Ex i' pc' lc' r h Q') : a_Ex i pc lc [] h (a_Rt i' pc' lc' r Q') := x_vret hi hr k
/-- calls: the arguments as rising, the rest of the stack -/
theorem x_virt {z o : Nat} {r : List Value} {st0 : List Value} {lj : a_Lc} (hi : a_ins i pc = some (.invokevirtual z, n, a, b, v)) (as0 : List Value) (hst : st0 = as0.reverse ++ .ref o :: r) (hb : as0.length + 1 = b) (ha : a < 274) (hrv : (decide (o < a_CB ∧ a_own a < 9 ∧ h.1[o]? = some (10 + a_own a, a_fn (a_own a))) || decide (a_own a = 9 ∧ o % 2 = 0 ∧ a_CB ≤ o ∧ (o - a_CB) / 2 < 36)) = true) (hc : (r.map (fun v => v.category)).sum ≤ 8) (hsl : (a_slots (.ref o :: as0)).length ≤ a_maxL a) (hlj : a_ent a (.ref o :: as0) = lj)
    (k : a_Ex a 0 lj [] h (a_Rt i (pc + n) lc r Q)) : a_Ex i pc lc st0 h Q := by
  subst hst; subst hb; subst hlj
  have e0 : (as0.reverse ++ .ref o :: r)[as0.length + 1 - 1]? = some (.ref o) := by
    rw [Nat.add_sub_cancel, List.getElem?_append_right (by simp)]
    simp
  have e1 : (as0.reverse ++ .ref o :: r).take (as0.length + 1) = as0.reverse ++ [.ref o] := by
    rw [List.take_append]
    simp
    exact List.take_of_length_le (by simp)
  have e2 : (as0.reverse ++ .ref o :: r).drop (as0.length + 1) = r := by
    rw [List.drop_append]
    simp
  refine x_call (j := a) (pc' := pc + n) (as := .ref o :: as0) (r := r) hi ?_ k
  have h1 : a_rcv a (as0.length + 1) (as0.reverse ++ .ref o :: r) h = true := by
    unfold a_rcv
    rw [e0]
    exact hrv
  simp only [a_step]
  rw [if_pos ⟨ha, Nat.succ_pos _, h1⟩]
  unfold a_call
  rw [e1, e2]
  rw [if_pos ⟨by simp, hc, by simpa using hsl⟩]
  simp
theorem x_stat {z : Nat} {r : List Value} {st0 : List Value} {lj : a_Lc} (hi : a_ins i pc = some (.invokestatic z, n, a, b, v)) (as0 : List Value) (hst : st0 = as0.reverse ++ r) (hb : as0.length = b) (ha : a < 274) (hc : (r.map (fun v => v.category)).sum ≤ 8) (hsl : (a_slots as0).length ≤ a_maxL a) (hlj : a_ent a as0 = lj)
    (k : a_Ex a 0 lj [] h (a_Rt i (pc + n) lc r Q)) : a_Ex i pc lc st0 h Q := by
  subst hst; subst hb; subst hlj
  have e1 : (as0.reverse ++ r).take as0.length = as0.reverse := by
    rw [List.take_append]
    simp
    exact List.take_of_length_le (by simp)
  have e2 : (as0.reverse ++ r).drop as0.length = r := by
    rw [List.drop_append]
    simp
  refine x_call (j := a) (pc' := pc + n) (as := as0) (r := r) hi ?_ k
  simp only [a_step]
  rw [if_neg (by omega), if_pos ha]
  unfold a_call
  rw [e1, e2]
  rw [if_pos ⟨by simp, hc, by simpa using hsl⟩]
  simp
end EXR
