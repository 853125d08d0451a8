/-! THE HEAP BEHIND THE CONSTRUCTORS: fd is what Search.found points to, M all whole numbers -/
abbrev a_Mm : Type := Nat → Nat → Int32
abbrev a_Sc : Type := Nat × (Nat → Int32)
def a_mrf (fd : Nat) : Nat → Nat → Option Nat := a_up a_h2.2.1 147 10 (some fd)
def a_hp (sc : a_Sc) (fd : Nat) (M : a_Mm) : a_Hp := (a_SH, a_mrf fd, M, sc)
def a_OB (c o : Nat) : Prop := o < a_CB ∧ c < 9 ∧ a_SH[o]? = some (10 + c, a_fn c)
def a_AR (t o n : Nat) : Prop := o < a_CB ∧ t < 4 ∧ a_SH[o]? = some (t, n)
theorem a_rt_mem {o k q : Nat} (h : (o, k, q) ∈ a_rt) : a_h2.2.1 o k = some q := by
  have := List.all_eq_true.mp a_rt_ok _ h
  simpa using this
theorem a_mrf_of {fd o k q : Nat} (h : (o, k, q) ∈ a_rt) (hne : ¬ (o = 147 ∧ k = 10)) : a_mrf fd o k = some q := by
  unfold a_mrf a_up
  split
  · rename_i e1
    split
    · rename_i e2; exact absurd ⟨e1, e2⟩ hne
    · exact a_rt_mem h
  · exact a_rt_mem h
theorem a_mrf_found (fd : Nat) : a_mrf fd 147 10 = some fd := by simp [a_mrf, a_up]
theorem a_mrf_put (fd q : Nat) : a_up (a_mrf fd) 147 10 (some q) = a_mrf q := by
  funext o k
  unfold a_mrf a_up
  split
  · split <;> rfl
  · rfl
/-- the halls: where each lies -/
def a_HL : List Nat := [1, 10, 21, 30, 39, 48, 57, 66, 75, 84, 93, 102, 111, 121, 130, 156]
def HB (b : Nat) : Prop := b ∈ a_HL
def MB (x : Nat) : Prop := x = 148 ∨ x = 152
theorem HB.ob {b : Nat} (h : HB b) : a_OB 1 b := (by decide +kernel : ∀ b ∈ a_HL, b < a_CB ∧ 1 < 9 ∧ a_SH[b]? = some (10 + 1, a_fn 1)) b h
theorem HB.lg {b : Nat} (h : HB b) : a_OB 2 (b + 7) := (by decide +kernel : ∀ b ∈ a_HL, b + 7 < a_CB ∧ 2 < 9 ∧ a_SH[b + 7]? = some (10 + 2, a_fn 2)) b h
theorem HB.a1 {b : Nat} (h : HB b) : a_AR 0 (b + 1) 5 := (by decide +kernel : ∀ b ∈ a_HL, b + 1 < a_CB ∧ 0 < 4 ∧ a_SH[b + 1]? = some (0, 5)) b h
theorem HB.a2 {b : Nat} (h : HB b) : a_AR 0 (b + 2) 5 := (by decide +kernel : ∀ b ∈ a_HL, b + 2 < a_CB ∧ 0 < 4 ∧ a_SH[b + 2]? = some (0, 5)) b h
theorem HB.a3 {b : Nat} (h : HB b) : a_AR 0 (b + 3) 5 := (by decide +kernel : ∀ b ∈ a_HL, b + 3 < a_CB ∧ 0 < 4 ∧ a_SH[b + 3]? = some (0, 5)) b h
theorem HB.a4 {b : Nat} (h : HB b) : a_AR 0 (b + 4) 5 := (by decide +kernel : ∀ b ∈ a_HL, b + 4 < a_CB ∧ 0 < 4 ∧ a_SH[b + 4]? = some (0, 5)) b h
theorem HB.a5 {b : Nat} (h : HB b) : a_AR 0 (b + 5) 5 := (by decide +kernel : ∀ b ∈ a_HL, b + 5 < a_CB ∧ 0 < 4 ∧ a_SH[b + 5]? = some (0, 5)) b h
theorem HB.a6 {b : Nat} (h : HB b) : a_AR 0 (b + 6) 5 := (by decide +kernel : ∀ b ∈ a_HL, b + 6 < a_CB ∧ 0 < 4 ∧ a_SH[b + 6]? = some (0, 5)) b h
theorem HB.a8 {b : Nat} (h : HB b) : a_AR 0 (b + 8) 60 := (by decide +kernel : ∀ b ∈ a_HL, b + 8 < a_CB ∧ 0 < 4 ∧ a_SH[b + 8]? = some (0, 60)) b h
theorem HB.n147 {b : Nat} (h : HB b) : ∀ j, j < 9 → ¬ b + j = 147 := (by decide +kernel : ∀ b ∈ a_HL, ∀ j, j < 9 → ¬ b + j = 147) b h
theorem HB.r5 {b : Nat} (h : HB b) (fd : Nat) : a_mrf fd b 5 = some (b + 1) := a_mrf_of ((by decide +kernel : ∀ b ∈ a_HL, (b, 5, b + 1) ∈ a_rt) b h) (fun e => h.n147 0 (by omega) e.1)
theorem HB.r6 {b : Nat} (h : HB b) (fd : Nat) : a_mrf fd b 6 = some (b + 2) := a_mrf_of ((by decide +kernel : ∀ b ∈ a_HL, (b, 6, b + 2) ∈ a_rt) b h) (fun e => h.n147 0 (by omega) e.1)
theorem HB.r7 {b : Nat} (h : HB b) (fd : Nat) : a_mrf fd b 7 = some (b + 3) := a_mrf_of ((by decide +kernel : ∀ b ∈ a_HL, (b, 7, b + 3) ∈ a_rt) b h) (fun e => h.n147 0 (by omega) e.1)
theorem HB.r8 {b : Nat} (h : HB b) (fd : Nat) : a_mrf fd b 8 = some (b + 4) := a_mrf_of ((by decide +kernel : ∀ b ∈ a_HL, (b, 8, b + 4) ∈ a_rt) b h) (fun e => h.n147 0 (by omega) e.1)
theorem HB.r9 {b : Nat} (h : HB b) (fd : Nat) : a_mrf fd b 9 = some (b + 5) := a_mrf_of ((by decide +kernel : ∀ b ∈ a_HL, (b, 9, b + 5) ∈ a_rt) b h) (fun e => h.n147 0 (by omega) e.1)
theorem HB.r10 {b : Nat} (h : HB b) (fd : Nat) : a_mrf fd b 10 = some (b + 6) := a_mrf_of ((by decide +kernel : ∀ b ∈ a_HL, (b, 10, b + 6) ∈ a_rt) b h) (fun e => h.n147 0 (by omega) e.1)
theorem HB.r11 {b : Nat} (h : HB b) (fd : Nat) : a_mrf fd b 11 = some (b + 7) := a_mrf_of ((by decide +kernel : ∀ b ∈ a_HL, (b, 11, b + 7) ∈ a_rt) b h) (fun e => h.n147 0 (by omega) e.1)
theorem HB.rl {b : Nat} (h : HB b) (fd : Nat) : a_mrf fd (b + 7) 0 = some (b + 8) := a_mrf_of ((by decide +kernel : ∀ b ∈ a_HL, (b + 7, 0, b + 8) ∈ a_rt) b h) (fun e => h.n147 7 (by omega) e.1)
theorem MB.ob {x : Nat} (h : MB x) : a_OB 7 x := by rcases h with rfl | rfl <;> exact ⟨by decide, by decide, by decide +kernel⟩
theorem MB.a1 {x : Nat} (h : MB x) : a_AR 0 (x + 1) 1728 := by rcases h with rfl | rfl <;> exact ⟨by decide, by decide, by decide +kernel⟩
theorem MB.a2 {x : Nat} (h : MB x) : a_AR 0 (x + 2) 6 := by rcases h with rfl | rfl <;> exact ⟨by decide, by decide, by decide +kernel⟩
theorem MB.a3 {x : Nat} (h : MB x) : a_AR 0 (x + 3) 64 := by rcases h with rfl | rfl <;> exact ⟨by decide, by decide, by decide +kernel⟩
theorem MB.r1 {x : Nat} (h : MB x) (fd : Nat) : a_mrf fd x 1 = some (x + 1) := by rcases h with rfl | rfl <;> exact a_mrf_of (by decide +kernel) (by omega)
theorem MB.r2 {x : Nat} (h : MB x) (fd : Nat) : a_mrf fd x 2 = some (x + 2) := by rcases h with rfl | rfl <;> exact a_mrf_of (by decide +kernel) (by omega)
theorem MB.r3 {x : Nat} (h : MB x) (fd : Nat) : a_mrf fd x 3 = some (x + 3) := by rcases h with rfl | rfl <;> exact a_mrf_of (by decide +kernel) (by omega)
section HPR
variable {i pc : Nat} {lc : a_Lc} {st : List Value} {sc : a_Sc} {fd : Nat} {M : a_Mm} {Q : Option Value → a_Hp → Prop} {n a b : Nat} {v : Int32} {x y : Int32} {o z : Nat}
theorem x_gi (hi : a_ins i pc = some (.getfield z, n, a, b, v)) (ho : a_OB a o) (hk : b < a_fn a) (hf : a_fk a b ≠ 1) (k : a_Ex i (pc + n) lc (.int (M o b) :: st) (a_hp sc fd M) Q) : a_Ex i pc lc (.ref o :: st) (a_hp sc fd M) Q := by
  refine x_nx hi ?_ k
  have h9 : ¬ a = 9 := by have := ho.2.1; omega
  simp only [a_step, a_getf]
  rw [if_neg h9, if_pos ⟨ho.1, ho.2.2, hk, ho.2.1⟩]
  unfold a_fv
  rw [if_neg hf]
  rfl
theorem x_gr {q : Nat} (hi : a_ins i pc = some (.getfield z, n, a, b, v)) (ho : a_OB a o) (hk : b < a_fn a) (hf : a_fk a b = 1) (hr : a_mrf fd o b = some q) (k : a_Ex i (pc + n) lc (.ref q :: st) (a_hp sc fd M) Q) : a_Ex i pc lc (.ref o :: st) (a_hp sc fd M) Q := by
  refine x_nx hi ?_ k
  have h9 : ¬ a = 9 := by have := ho.2.1; omega
  simp only [a_step, a_getf]
  rw [if_neg h9, if_pos ⟨ho.1, ho.2.2, hk, ho.2.1⟩]
  unfold a_fv
  rw [if_pos hf, show (a_hp sc fd M).2.1 o b = some q from hr]
  rfl
theorem x_pi (hi : a_ins i pc = some (.putfield z, n, a, b, v)) (ho : a_OB a o) (hk : b < a_fn a) (hf : a_fk a b = 0) (k : a_Ex i (pc + n) lc st (a_hp sc fd (a_up M o b x)) Q) : a_Ex i pc lc (.int x :: .ref o :: st) (a_hp sc fd M) Q := by
  refine x_nx hi ?_ k
  simp only [a_step, a_putf]
  rw [if_pos ⟨ho.1, ho.2.2, hk, ho.2.1, Or.inl hf⟩]
  rfl
theorem x_pz (hi : a_ins i pc = some (.putfield z, n, a, b, v)) (ho : a_OB a o) (hk : b < a_fn a) (hf : a_fk a b = 2) (hx : x = 0 ∨ x = 1) (k : a_Ex i (pc + n) lc st (a_hp sc fd (a_up M o b x)) Q) : a_Ex i pc lc (.int x :: .ref o :: st) (a_hp sc fd M) Q := by
  refine x_nx hi ?_ k
  simp only [a_step, a_putf]
  rw [if_pos ⟨ho.1, ho.2.2, hk, ho.2.1, Or.inr ⟨hf, hx⟩⟩]
  rfl
theorem x_pfound {q : Nat} (hi : a_ins i pc = some (.putfield z, n, 6, 10, v)) (hq : q < 185) (k : a_Ex i (pc + n) lc st (a_hp sc q M) Q) : a_Ex i pc lc (.ref q :: .ref 147 :: st) (a_hp sc fd M) Q := by
  refine x_nx hi ?_ k
  simp only [a_step, a_putf]
  have h1 : (147 < a_CB ∧ (a_hp sc fd M).1[147]? = some (10 + 6, a_fn 6) ∧ 10 < a_fn 6 ∧ 6 < 9 ∧ a_fk 6 10 = 1 ∧ q < a_CB ∧ q < (a_hp sc fd M).1.length) := by
    refine ⟨by decide, by show a_SH[147]? = _; decide +kernel, by decide, by decide, by decide +kernel, by simp only [a_CB]; omega, ?_⟩
    show q < a_SH.length
    rw [show a_SH.length = 185 from by decide +kernel]
    exact hq
  rw [if_pos h1]
  show a_nx _ _ _ (a_SH, a_up (a_mrf fd) 147 10 (some q), M, sc) = _
  rw [a_mrf_put]
  rfl
theorem a_in_iff {j : Int32} {m : Nat} : a_in j m = true ↔ ¬ j < 0 ∧ j.toNatClampNeg < m := by
  simp only [a_in, Bool.not_eq_true', Bool.or_eq_false_iff, decide_eq_false_iff_not, Nat.not_le]
theorem x_ld {m : Nat} {ins : Instr} (hi : a_ins i pc = some (ins, n, a, b, v)) (hc : ins = .iaload) (ho : a_AR 0 o m) (hin : a_in x m = true) (k : a_Ex i (pc + n) lc (.int (M o x.toNatClampNeg) :: st) (a_hp sc fd M) Q) : a_Ex i pc lc (.int x :: .ref o :: st) (a_hp sc fd M) Q := by
  subst hc
  refine x_nx hi ?_ k
  simp only [a_step]
  unfold a_ld
  dsimp only
  rw [show (a_hp sc fd M).1[o]? = some (0, m) from ho.2.2]
  dsimp only
  rw [if_pos (by refine ⟨ho.1, hin, ?_⟩; simp), if_neg (by simp)]
  rfl
theorem x_ldb {m t : Nat} (hi : a_ins i pc = some (.baload, n, a, b, v)) (ho : a_AR t o m) (ht : t = 1 ∨ t = 2) (hin : a_in x m = true) (k : a_Ex i (pc + n) lc (.int (M o x.toNatClampNeg) :: st) (a_hp sc fd M) Q) : a_Ex i pc lc (.int x :: .ref o :: st) (a_hp sc fd M) Q := by
  refine x_nx hi ?_ k
  simp only [a_step]
  unfold a_ld
  dsimp only
  rw [show (a_hp sc fd M).1[o]? = some (t, m) from ho.2.2]
  dsimp only
  rw [if_pos (by refine ⟨ho.1, hin, ?_⟩; simp; omega), if_neg (by simp)]
  rfl
theorem x_lda {m q : Nat} (hi : a_ins i pc = some (.aaload, n, a, b, v)) (ho : a_AR 3 o m) (hin : a_in x m = true) (hr : a_mrf fd o x.toNatClampNeg = some q) (k : a_Ex i (pc + n) lc (.ref q :: st) (a_hp sc fd M) Q) : a_Ex i pc lc (.int x :: .ref o :: st) (a_hp sc fd M) Q := by
  refine x_nx hi ?_ k
  simp only [a_step]
  unfold a_ld
  dsimp only
  rw [show (a_hp sc fd M).1[o]? = some (3, m) from ho.2.2]
  dsimp only
  rw [if_pos (by refine ⟨ho.1, hin, ?_⟩; simp), if_pos (by simp), show (a_hp sc fd M).2.1 o x.toNatClampNeg = some q from hr]
  rfl
theorem x_st {m : Nat} (hi : a_ins i pc = some (.iastore, n, a, b, v)) (ho : a_AR 0 o m) (hin : a_in x m = true) (k : a_Ex i (pc + n) lc st (a_hp sc fd (a_up M o x.toNatClampNeg y)) Q) : a_Ex i pc lc (.int y :: .int x :: .ref o :: st) (a_hp sc fd M) Q := by
  refine x_nx hi ?_ k
  simp only [a_step]
  unfold a_stx
  dsimp only
  rw [show (a_hp sc fd M).1[o]? = some (0, m) from ho.2.2]
  dsimp only
  rw [if_pos (by refine ⟨ho.1, hin, ?_, ?_⟩ <;> simp)]
  rfl
theorem x_stb {m : Nat} (hi : a_ins i pc = some (.bastore, n, a, b, v)) (ho : a_AR 1 o m) (hin : a_in x m = true) (k : a_Ex i (pc + n) lc st (a_hp sc fd (a_up M o x.toNatClampNeg y.toInt8.toInt32)) Q) : a_Ex i pc lc (.int y :: .int x :: .ref o :: st) (a_hp sc fd M) Q := by
  refine x_nx hi ?_ k
  simp only [a_step]
  unfold a_stx
  dsimp only
  rw [show (a_hp sc fd M).1[o]? = some (1, m) from ho.2.2]
  dsimp only
  rw [if_pos (by refine ⟨ho.1, hin, ?_, ?_⟩ <;> simp)]
  unfold a_nar
  rw [if_pos rfl, vp_nar_byte]
  rfl
theorem x_stz {m : Nat} (hi : a_ins i pc = some (.bastore, n, a, b, v)) (ho : a_AR 2 o m) (hin : a_in x m = true) (k : a_Ex i (pc + n) lc st (a_hp sc fd (a_up M o x.toNatClampNeg (vp_nar .boolean y))) Q) : a_Ex i pc lc (.int y :: .int x :: .ref o :: st) (a_hp sc fd M) Q := by
  refine x_nx hi ?_ k
  simp only [a_step]
  unfold a_stx
  dsimp only
  rw [show (a_hp sc fd M).1[o]? = some (2, m) from ho.2.2]
  dsimp only
  rw [if_pos (by refine ⟨ho.1, hin, ?_, ?_⟩ <;> simp)]
  unfold a_nar
  rw [if_neg (by omega), if_pos rfl]
  rfl
theorem x_alen {m t : Nat} (hi : a_ins i pc = some (.arraylength, n, a, b, v)) (ho : a_AR t o m) (k : a_Ex i (pc + n) lc (.int (Int32.ofNat m) :: st) (a_hp sc fd M) Q) : a_Ex i pc lc (.ref o :: st) (a_hp sc fd M) Q := by
  refine x_nx hi ?_ k
  simp only [a_step, a_alen]
  rw [show (a_hp sc fd M).1[o]? = some (t, m) from ho.2.2]
  dsimp only
  rw [if_pos ⟨ho.1, ho.2.1⟩]
  rfl
theorem x_cpy {t m1 m2 d : Nat} {p1 p2 len : Int32} (hi : a_ins i pc = some (.invokestatic z, n, 1001, b, v)) (h1 : a_AR t o m1) (h2 : a_AR t d m2) (ht : t < 2) (hp1 : ¬ p1 < 0) (hp2 : ¬ p2 < 0) (hl : ¬ len < 0) (hb1 : p1.toNatClampNeg + len.toNatClampNeg ≤ m1) (hb2 : p2.toNatClampNeg + len.toNatClampNeg ≤ m2) (hc : (st.map (fun v => v.category)).sum ≤ 8)
    (k : a_Ex i (pc + n) lc st (a_hp sc fd (a_row M d (va_cpy (M o) (M d) p1.toNatClampNeg p2.toNatClampNeg len.toNatClampNeg))) Q) : a_Ex i pc lc (.int len :: .int p2 :: .ref d :: .int p1 :: .ref o :: st) (a_hp sc fd M) Q := by
  refine x_nx hi ?_ k
  simp only [a_step]
  rw [if_pos trivial]
  simp only [a_cpy]
  rw [show (a_hp sc fd M).1[o]? = some (t, m1) from h1.2.2, show (a_hp sc fd M).1[d]? = some (t, m2) from h2.2.2]
  dsimp only
  rw [if_pos ⟨h1.1, h2.1, rfl, ht, hp1, hp2, hl, hb1, hb2, hc⟩]
  rfl
/-- a call of an object of ours -/
theorem x_vh {r : List Value} {st0 : List Value} {lj : a_Lc} {c mL : Nat} (hi : a_ins i pc = some (.invokevirtual z, n, a, b, v)) (hw : a_own a = c ∧ a_maxL a = mL ∧ a < 274) (ho : a_OB c o) (as0 : List Value) (hst : st0 = as0.reverse ++ .ref o :: r) (hb : as0.length + 1 = b) (hc : (r.map (fun v => v.category)).sum ≤ 8) (hsl : (a_slots (.ref o :: as0)).length ≤ mL) (hlj : a_slots (.ref o :: as0) ++ List.replicate (mL - (a_slots (.ref o :: as0)).length) none = lj)
    (k : a_Ex a 0 lj [] (a_hp sc fd M) (a_Rt i (pc + n) lc r Q)) : a_Ex i pc lc st0 (a_hp sc fd M) Q := by
  obtain ⟨w1, w2, w3⟩ := hw
  subst w1; subst w2
  refine x_virt hi as0 hst hb w3 ?_ hc hsl hlj k
  rw [Bool.or_eq_true]
  left
  rw [decide_eq_true_eq]
  exact ⟨ho.1, ho.2.1, ho.2.2⟩
theorem x_sh {r : List Value} {st0 : List Value} {lj : a_Lc} {mL : Nat} (hi : a_ins i pc = some (.invokestatic z, n, a, b, v)) (hw : a_maxL a = mL ∧ a < 274) (as0 : List Value) (hst : st0 = as0.reverse ++ r) (hb : as0.length = b) (hc : (r.map (fun v => v.category)).sum ≤ 8) (hsl : (a_slots as0).length ≤ mL) (hlj : a_slots as0 ++ List.replicate (mL - (a_slots as0).length) none = lj)
    (k : a_Ex a 0 lj [] (a_hp sc fd M) (a_Rt i (pc + n) lc r Q)) : a_Ex i pc lc st0 (a_hp sc fd M) Q := by
  obtain ⟨w2, w3⟩ := hw
  subst w2
  exact x_stat hi as0 hst hb w3 hc hsl hlj k
end HPR
section CMP
variable {i pc : Nat} {lc : a_Lc} {st : List Value} {h : a_Hp} {Q : Option Value → a_Hp → Prop} {n a b : Nat} {v : Int32} {x y : Int32} {z : Int}
theorem x_ieq (hi : a_ins i pc = some (.if_icmp .eq z, n, a, b, v)) (H : (x = y → a_Ex i a lc st h Q) ∧ (¬ x = y → a_Ex i (pc + n) lc st h Q)) : a_Ex i pc lc (.int y :: .int x :: st) h Q := x_icmp hi (fun c => H.1 (by simpa [a_cmp] using c)) (fun c => H.2 (by simpa [a_cmp] using c))
theorem x_ine (hi : a_ins i pc = some (.if_icmp .ne z, n, a, b, v)) (H : (¬ x = y → a_Ex i a lc st h Q) ∧ (x = y → a_Ex i (pc + n) lc st h Q)) : a_Ex i pc lc (.int y :: .int x :: st) h Q := x_icmp hi (fun c => H.1 (by simpa [a_cmp] using c)) (fun c => H.2 (by simpa [a_cmp] using c))
theorem x_ilt (hi : a_ins i pc = some (.if_icmp .lt z, n, a, b, v)) (H : (x < y → a_Ex i a lc st h Q) ∧ (¬ x < y → a_Ex i (pc + n) lc st h Q)) : a_Ex i pc lc (.int y :: .int x :: st) h Q := x_icmp hi (fun c => H.1 (by simpa [a_cmp] using c)) (fun c => H.2 (by simpa [a_cmp] using c))
theorem x_ige (hi : a_ins i pc = some (.if_icmp .ge z, n, a, b, v)) (H : (y ≤ x → a_Ex i a lc st h Q) ∧ (¬ y ≤ x → a_Ex i (pc + n) lc st h Q)) : a_Ex i pc lc (.int y :: .int x :: st) h Q := x_icmp hi (fun c => H.1 (by simpa [a_cmp] using c)) (fun c => H.2 (by simpa [a_cmp] using c))
theorem x_igt (hi : a_ins i pc = some (.if_icmp .gt z, n, a, b, v)) (H : (y < x → a_Ex i a lc st h Q) ∧ (¬ y < x → a_Ex i (pc + n) lc st h Q)) : a_Ex i pc lc (.int y :: .int x :: st) h Q := x_icmp hi (fun c => H.1 (by simpa [a_cmp] using c)) (fun c => H.2 (by simpa [a_cmp] using c))
theorem x_ile (hi : a_ins i pc = some (.if_icmp .le z, n, a, b, v)) (H : (x ≤ y → a_Ex i a lc st h Q) ∧ (¬ x ≤ y → a_Ex i (pc + n) lc st h Q)) : a_Ex i pc lc (.int y :: .int x :: st) h Q := x_icmp hi (fun c => H.1 (by simpa [a_cmp] using c)) (fun c => H.2 (by simpa [a_cmp] using c))
theorem x_zeq (hi : a_ins i pc = some (.ifCond .eq z, n, a, b, v)) (H : (x = 0 → a_Ex i a lc st h Q) ∧ (¬ x = 0 → a_Ex i (pc + n) lc st h Q)) : a_Ex i pc lc (.int x :: st) h Q := x_if hi (fun c => H.1 (by simpa [a_cmp] using c)) (fun c => H.2 (by simpa [a_cmp] using c))
theorem x_zne (hi : a_ins i pc = some (.ifCond .ne z, n, a, b, v)) (H : (¬ x = 0 → a_Ex i a lc st h Q) ∧ (x = 0 → a_Ex i (pc + n) lc st h Q)) : a_Ex i pc lc (.int x :: st) h Q := x_if hi (fun c => H.1 (by simpa [a_cmp] using c)) (fun c => H.2 (by simpa [a_cmp] using c))
theorem x_zlt (hi : a_ins i pc = some (.ifCond .lt z, n, a, b, v)) (H : (x < 0 → a_Ex i a lc st h Q) ∧ (¬ x < 0 → a_Ex i (pc + n) lc st h Q)) : a_Ex i pc lc (.int x :: st) h Q := x_if hi (fun c => H.1 (by simpa [a_cmp] using c)) (fun c => H.2 (by simpa [a_cmp] using c))
theorem x_zge (hi : a_ins i pc = some (.ifCond .ge z, n, a, b, v)) (H : (0 ≤ x → a_Ex i a lc st h Q) ∧ (¬ 0 ≤ x → a_Ex i (pc + n) lc st h Q)) : a_Ex i pc lc (.int x :: st) h Q := x_if hi (fun c => H.1 (by simpa [a_cmp] using c)) (fun c => H.2 (by simpa [a_cmp] using c))
theorem x_zgt (hi : a_ins i pc = some (.ifCond .gt z, n, a, b, v)) (H : (0 < x → a_Ex i a lc st h Q) ∧ (¬ 0 < x → a_Ex i (pc + n) lc st h Q)) : a_Ex i pc lc (.int x :: st) h Q := x_if hi (fun c => H.1 (by simpa [a_cmp] using c)) (fun c => H.2 (by simpa [a_cmp] using c))
theorem x_zle (hi : a_ins i pc = some (.ifCond .le z, n, a, b, v)) (H : (x ≤ 0 → a_Ex i a lc st h Q) ∧ (¬ x ≤ 0 → a_Ex i (pc + n) lc st h Q)) : a_Ex i pc lc (.int x :: st) h Q := x_if hi (fun c => H.1 (by simpa [a_cmp] using c)) (fun c => H.2 (by simpa [a_cmp] using c))
end CMP
/-! less may be known of the locals -/
def a_wk (lc lc' : a_Lc) : Prop := lc.length = lc'.length ∧ ∀ k : Nat, lc[k]? = lc'[k]? ∨ (lc[k]? = some none ∧ ∃ v : Value, lc'[k]? = some (some v) ∧ v.category = 1)
theorem a_wk.n : a_wk [] [] := ⟨rfl, fun _ => Or.inl rfl⟩
theorem a_wk.s {x : Option Value} {l l' : a_Lc} (h : a_wk l l') : a_wk (x :: l) (x :: l') := by
  refine ⟨by simp [h.1], fun k => ?_⟩
  cases k with
  | zero => exact Or.inl rfl
  | succ k => simpa using h.2 k
theorem a_wk.d {v : Value} {l l' : a_Lc} (hv : v.category = 1) (h : a_wk l l') : a_wk (none :: l) (some v :: l') := by
  refine ⟨by simp [h.1], fun k => ?_⟩
  cases k with
  | zero => exact Or.inr ⟨rfl, v, rfl, hv⟩
  | succ k => simpa using h.2 k
theorem a_wk.set {l l' : a_Lc} (h : a_wk l l') (k : Nat) (x : Option Value) : a_wk (l.set k x) (l'.set k x) := by
  refine ⟨by simp [h.1], fun j => ?_⟩
  by_cases hj : k = j
  · subst hj
    left
    simp only [List.getElem?_set, h.1]
    rfl
  · rw [List.getElem?_set_ne hj, List.getElem?_set_ne hj]
    exact h.2 j
theorem a_wk.get {l l' : a_Lc} (h : a_wk l l') {k : Nat} {v : Value} (hk : l[k]? = some (some v)) : l'[k]? = some (some v) := by
  rcases h.2 k with e | ⟨e, -⟩
  · rw [← e]; exact hk
  · rw [e] at hk; cases hk
theorem a_wk.free {l l' : a_Lc} (h : a_wk l l') {k : Nat} (hf : a_free k l = true) : a_free k l' = true := by
  unfold a_free at hf ⊢
  rw [Bool.and_eq_true] at hf ⊢
  refine ⟨by rw [← h.1]; exact hf.1, ?_⟩
  have h2 := hf.2
  cases k with
  | zero => rfl
  | succ j =>
    dsimp only at h2 ⊢
    rcases h.2 j with e | ⟨-, v, e, hv⟩
    · rw [← e]; exact h2
    · rw [e]
      cases v <;> first | rfl | (simp [Value.category] at hv)
