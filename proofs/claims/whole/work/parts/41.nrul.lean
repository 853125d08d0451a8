/-! what is left to be shown of an answer v (KP), an answer and a hall (KR), a hall (KV) of the class; the same of the reference (MR, MV) -/
def KP (u : Nat) (Q : Option Value → a_Hp → Prop) (h : a_Hp) (v : Nat) : Prop := v ≤ u → Q (some (.int (N v))) h
def KR (u : Nat) (Q : Option Value → a_Hp → Prop) (sc : a_Sc) (fd : Nat) (M : a_Mm) (b n : Nat) (p : Nat × HA) : Prop := p.1 ≤ u → ∀ M', RC M' b n p.2 → FR b M M' → Q (some (.int (N p.1))) (a_hp sc fd M')
def KV (Q : Option Value → a_Hp → Prop) (sc : a_Sc) (fd : Nat) (M : a_Mm) (b n : Nat) (A : HA) : Prop := ∀ M', RC M' b n A → FR b M M' → Q none (a_hp sc fd M')
def MR (u : Nat) (Q : Option Value → a_Hp → Prop) (sc : a_Sc) (fd : Nat) (M : a_Mm) (n : Nat) (p : Nat × HA) : Prop := p.1 ≤ u → ∀ M', RM M' n p.2 → FM M M' → Q (some (.int (N p.1))) (a_hp sc fd M')
def MV (Q : Option Value → a_Hp → Prop) (sc : a_Sc) (fd : Nat) (M : a_Mm) (n : Nat) (A : HA) : Prop := ∀ M', RM M' n A → FM M M' → Q none (a_hp sc fd M')
section KTR
variable {u : Nat} {Q : Option Value → a_Hp → Prop} {sc : a_Sc} {fd : Nat} {M M1 : a_Mm} {b n : Nat} {p : Nat × HA} {A : HA}
theorem KR.tr (k : KR u Q sc fd M b n p) (f : FR b M M1) : KR u Q sc fd M1 b n p := fun hu M' r g => k hu M' r (f.trans g)
theorem KV.tr (k : KV Q sc fd M b n A) (f : FR b M M1) : KV Q sc fd M1 b n A := fun M' r g => k M' r (f.trans g)
theorem MR.tr (k : MR u Q sc fd M n p) (f : FM M M1) : MR u Q sc fd M1 n p := fun hu M' r g => k hu M' r (f.trans g)
theorem MV.tr (k : MV Q sc fd M n A) (f : FM M M1) : MV Q sc fd M1 n A := fun M' r g => k M' r (f.trans g)
end KTR
theorem kp {α : Type} {P : α → Prop} {c : Prop} {i : Decidable c} {x y : α} (g : c) (k : P (@ite α c i x y)) : P x := by rw [if_pos g] at k; exact k
theorem kn {α : Type} {P : α → Prop} {c : Prop} {i : Decidable c} {x y : α} (g : ¬ c) (k : P (@ite α c i x y)) : P y := by rw [if_neg g] at k; exact k
theorem or_le (k : Nat) {x y : Nat} (hx : x < 2 ^ k) (hy : y < 2 ^ k) : x ||| y ≤ 2 ^ k - 1 := by
  have := Nat.or_lt_two_pow hx hy
  omega
theorem shl_le (k : Nat) {s : Nat} (h : s ≤ k) : 1 <<< s ≤ 2 ^ k := by
  rw [Nat.one_shiftLeft]
  exact Nat.pow_le_pow_right (by omega) h
theorem shr_le (x s : Nat) : x >>> s ≤ x := by
  rw [Nat.shiftRight_eq_div_pow]
  exact Nat.div_le_self _ _
theorem N_lt0 {x : Nat} (h : x < 4294967296) : (N x < 0) = (2147483648 ≤ x) := by
  by_cases c : 2147483648 ≤ x
  · refine propext ⟨fun _ => c, fun _ => ?_⟩
    rw [Int32.lt_iff_toInt_lt]
    unfold N
    rw [Int32.toInt_ofNat']
    have e : ((x : Int)).bmod 4294967296 = (x : Int) - 4294967296 := by
      rw [Int.bmod_def]
      have : ((x : Int)) % 4294967296 = x := Int.emod_eq_of_lt (by omega) (by omega)
      rw [show ((4294967296 : Nat) : Int) = 4294967296 from rfl, this, if_neg (by omega)]
    show Int.bmod (x : Int) 4294967296 < 0
    rw [e]
    omega
  · rw [nN 0, N_lt (by omega) (by omega)]
    exact propext ⟨fun h => absurd h (Nat.not_lt_zero _), fun h => absurd h c⟩
theorem N_ltU {x y : Nat} (h : x < 4294967296) (hy : y < 2147483648) : (N x < N y) = (x < y ∨ 2147483648 ≤ x) := by
  by_cases c : 2147483648 ≤ x
  · refine propext ⟨fun _ => Or.inr c, fun _ => ?_⟩
    have h1 : N x < 0 := by rw [N_lt0 h]; exact c
    have h2 : (0 : Int32) ≤ N y := by rw [nN 0, N_le (by omega) hy]; omega
    exact Int32.lt_of_lt_of_le h1 h2
  · rw [N_lt (by omega) hy]
    exact propext ⟨Or.inl, fun h => h.resolve_right c⟩
theorem N_leU {x y : Nat} (h : x < 4294967296) (hy : y < 2147483648) : (N y ≤ N x) = (y ≤ x ∧ x < 2147483648) := by
  have := N_ltU h hy
  rw [← Int32.not_lt, this]
  refine propext ⟨fun h => ?_, fun h => ?_⟩ <;> omega
theorem N_leV {x y : Nat} (h : x < 4294967296) (hy : y < 2147483648) : (N x ≤ N y) = (x ≤ y ∨ 2147483648 ≤ x) := by
  by_cases c : 2147483648 ≤ x
  · refine propext ⟨fun _ => Or.inr c, fun _ => ?_⟩
    exact Int32.le_of_lt (by rw [N_ltU h hy]; exact Or.inr c)
  · rw [N_le (by omega) hy]
    exact propext ⟨Or.inl, fun h => h.resolve_right c⟩
theorem N_gtU {x y : Nat} (h : x < 4294967296) (hy : y < 2147483648) : (N y < N x) = (y < x ∧ x < 2147483648) := by
  have := N_leV h hy
  rw [← Int32.not_le, this]
  refine propext ⟨fun h => ?_, fun h => ?_⟩ <;> omega
theorem N_injU {x y : Nat} (h : x < 4294967296) (hy : y < 4294967296) : (N x = N y) = (x = y) := by
  refine propext ⟨fun e => ?_, fun e => by rw [e]⟩
  have e1 := congrArg (fun z => z.toBitVec.toNat) e
  simp only [N_bv, BitVec.toNat_ofNat] at e1
  omega
theorem N_all (x : Int32) : ∃ u, u < 4294967296 ∧ x = N u := by
  refine ⟨x.toBitVec.toNat, x.toBitVec.isLt, ?_⟩
  apply Int32.toBitVec_inj.mp
  rw [N_bv]
  apply BitVec.eq_of_toNat_eq
  rw [BitVec.toNat_ofNat]
  exact (Nat.mod_eq_of_lt x.toBitVec.isLt).symm
theorem FM.p171 {M : a_Mm} {k : Nat} {x : Int32} (h : k < 216) : FM M (a_up M 171 k x) := by
  intro o j hj
  unfold a_up
  by_cases e : o = 171
  · rw [if_pos e, if_neg (by omega)]
  · rw [if_neg e]
theorem FM.p170 {M : a_Mm} {k : Nat} {x : Int32} (h : k = 0 ∨ (7 ≤ k ∧ k ≤ 10)) : FM M (a_up M 170 k x) := by
  intro o j hj
  unfold a_up
  by_cases e : o = 170
  · rw [if_pos e, if_neg (by omega)]
  · rw [if_neg e]
theorem HB.aw {b : Nat} (h : HB b) {w : Nat} (hw : w < 6) : a_AR 0 (b + 1 + w) 5 := by
  rcases (by omega : w = 0 ∨ w = 1 ∨ w = 2 ∨ w = 3 ∨ w = 4 ∨ w = 5) with rfl | rfl | rfl | rfl | rfl | rfl
  · exact h.a1
  · exact h.a2
  · exact h.a3
  · exact h.a4
  · exact h.a5
  · exact h.a6
section NR2
variable {i pc : Nat} {lc lc' : a_Lc} {st : List Value} {h : a_Hp} {sc : a_Sc} {fd : Nat} {M : a_Mm} {A : HA} {Q : Option Value → a_Hp → Prop} {m n a b o z : Nat} {v : Int32} {x y s w : Nat} {c : Int} {rs : List Value}
theorem rt_i {x : Int32} (k : a_Ex i pc lc (.int x :: rs) h Q) : a_Rt i pc lc rs Q (some (.int x)) h := k
theorem rt_n (k : a_Ex i pc lc rs h Q) : a_Rt i pc lc rs Q none h := k
theorem n_iconst (x : Nat) (hi : a_ins i pc = some (.iconst c, n, a, b, v)) (e : v = N x) (k : a_Ex i (pc + n) lc (.int (N x) :: st) h Q) : a_Ex i pc lc st h Q := x_iconst hi (by rw [e]; exact k)
theorem n_bipush (x : Nat) (hi : a_ins i pc = some (.bipush c, n, a, b, v)) (e : v = N x) (k : a_Ex i (pc + n) lc (.int (N x) :: st) h Q) : a_Ex i pc lc st h Q := x_bipush hi (by rw [e]; exact k)
theorem n_sipush (x : Nat) (hi : a_ins i pc = some (.sipush c, n, a, b, v)) (e : v = N x) (k : a_Ex i (pc + n) lc (.int (N x) :: st) h Q) : a_Ex i pc lc st h Q := x_sipush hi (by rw [e]; exact k)
theorem n_ldc (x : Nat) (hi : a_ins i pc = some (.ldc z, n, 0, b, v)) (e : v = N x) (k : a_Ex i (pc + n) lc (.int (N x) :: st) h Q) : a_Ex i pc lc st h Q := x_ldc hi (by rw [e]; exact k)
theorem n_lconst {c : Fin 2} (x : Nat) (hi : a_ins i pc = some (.lconst c, n, a, b, v)) (e : v = N x) (k : a_Ex i (pc + n) lc (.long (N x).toInt64 :: st) h Q) : a_Ex i pc lc st h Q := x_lconst hi (by rw [e]; exact k)
theorem n_ldc2 (x : Nat) (hi : a_ins i pc = some (.ldc2_w z, n, a, b, v)) (e : v = N x) (k : a_Ex i (pc + n) lc (.long (N x).toInt64 :: st) h Q) : a_Ex i pc lc st h Q := x_ldc2 hi (by rw [e]; exact k)
theorem n_iinc (y : Nat) (hi : a_ins i pc = some (.iinc z c, n, a, b, v)) (e : v = N y) (hg : lc[z]? = some (some (.int (N x)))) (hf : a_free z lc = true) (hl : lc.set z (some (.int (N (x + y)))) = lc') (k : a_Ex i (pc + n) lc' st h Q) : a_Ex i pc lc st h Q := x_iinc hi hg hf (by rw [e, N_add]; exact hl) k
theorem n_zltU (hx : x < 4294967296) (hi : a_ins i pc = some (.ifCond .lt c, n, a, b, v)) (H : (2147483648 ≤ x → a_Ex i a lc st h Q) ∧ (¬ 2147483648 ≤ x → a_Ex i (pc + n) lc st h Q)) : a_Ex i pc lc (.int (N x) :: st) h Q := x_zlt hi (by rw [N_lt0 hx]; exact H)
theorem n_zgeU (hx : x < 4294967296) (hi : a_ins i pc = some (.ifCond .ge c, n, a, b, v)) (H : (¬ 2147483648 ≤ x → a_Ex i a lc st h Q) ∧ (2147483648 ≤ x → a_Ex i (pc + n) lc st h Q)) : a_Ex i pc lc (.int (N x) :: st) h Q := x_zge hi ⟨fun g => H.1 (by rw [← N_lt0 hx]; exact Int32.not_lt.mpr g), fun g => H.2 (by rw [← N_lt0 hx]; exact Int32.not_le.mp g)⟩
theorem n_iltU (hx : x < 4294967296) (hy : y < 2147483648) (hi : a_ins i pc = some (.if_icmp .lt c, n, a, b, v)) (H : ((x < y ∨ 2147483648 ≤ x) → a_Ex i a lc st h Q) ∧ (¬ (x < y ∨ 2147483648 ≤ x) → a_Ex i (pc + n) lc st h Q)) : a_Ex i pc lc (.int (N y) :: .int (N x) :: st) h Q := x_ilt hi (by rw [N_ltU hx hy]; exact H)
theorem n_igeU (hx : x < 4294967296) (hy : y < 2147483648) (hi : a_ins i pc = some (.if_icmp .ge c, n, a, b, v)) (H : ((y ≤ x ∧ x < 2147483648) → a_Ex i a lc st h Q) ∧ (¬ (y ≤ x ∧ x < 2147483648) → a_Ex i (pc + n) lc st h Q)) : a_Ex i pc lc (.int (N y) :: .int (N x) :: st) h Q := x_ige hi (by rw [N_leU hx hy]; exact H)
theorem n_igtU (hx : x < 4294967296) (hy : y < 2147483648) (hi : a_ins i pc = some (.if_icmp .gt c, n, a, b, v)) (H : ((y < x ∧ x < 2147483648) → a_Ex i a lc st h Q) ∧ (¬ (y < x ∧ x < 2147483648) → a_Ex i (pc + n) lc st h Q)) : a_Ex i pc lc (.int (N y) :: .int (N x) :: st) h Q := x_igt hi (by rw [N_gtU hx hy]; exact H)
theorem n_ileU (hx : x < 4294967296) (hy : y < 2147483648) (hi : a_ins i pc = some (.if_icmp .le c, n, a, b, v)) (H : ((x ≤ y ∨ 2147483648 ≤ x) → a_Ex i a lc st h Q) ∧ (¬ (x ≤ y ∨ 2147483648 ≤ x) → a_Ex i (pc + n) lc st h Q)) : a_Ex i pc lc (.int (N y) :: .int (N x) :: st) h Q := x_ile hi (by rw [N_leV hx hy]; exact H)
theorem n_ieqU (hx : x < 4294967296) (hy : y < 4294967296) (hi : a_ins i pc = some (.if_icmp .eq c, n, a, b, v)) (H : (x = y → a_Ex i a lc st h Q) ∧ (¬ x = y → a_Ex i (pc + n) lc st h Q)) : a_Ex i pc lc (.int (N y) :: .int (N x) :: st) h Q := x_ieq hi (by rw [N_injU hx hy]; exact H)
theorem n_ineU (hx : x < 4294967296) (hy : y < 4294967296) (hi : a_ins i pc = some (.if_icmp .ne c, n, a, b, v)) (H : (¬ x = y → a_Ex i a lc st h Q) ∧ (x = y → a_Ex i (pc + n) lc st h Q)) : a_Ex i pc lc (.int (N y) :: .int (N x) :: st) h Q := x_ine hi (by rw [N_injU hx hy]; exact H)
theorem n_zeqU (hx : x < 4294967296) (hi : a_ins i pc = some (.ifCond .eq c, n, a, b, v)) (H : (x = 0 → a_Ex i a lc st h Q) ∧ (¬ x = 0 → a_Ex i (pc + n) lc st h Q)) : a_Ex i pc lc (.int (N x) :: st) h Q := x_zeq hi (by rw [nN 0, N_injU hx (by omega)]; exact H)
theorem n_zneU (hx : x < 4294967296) (hi : a_ins i pc = some (.ifCond .ne c, n, a, b, v)) (H : (¬ x = 0 → a_Ex i a lc st h Q) ∧ (x = 0 → a_Ex i (pc + n) lc st h Q)) : a_Ex i pc lc (.int (N x) :: st) h Q := x_zne hi (by rw [nN 0, N_injU hx (by omega)]; exact H)
theorem n_isubC (hi : a_ins i pc = some (.isub, n, a, b, v)) (hy : y ≤ 4294967296) (k : a_Ex i (pc + n) lc (.int (N (x + (4294967296 - y))) :: st) h Q) : a_Ex i pc lc (.int (N y) :: .int (N x) :: st) h Q := x_isub hi (by
  have e : N x - N y = N (x + (4294967296 - y)) := by
    have h1 : N (x + (4294967296 - y)) + N y = N x := by
      rw [N_add, show x + (4294967296 - y) + y = x + 4294967296 by omega]
      apply Int32.toBitVec_inj.mp
      rw [N_bv, N_bv]
      apply BitVec.eq_of_toNat_eq
      simp
    rw [← h1]
    exact Int32.add_sub_cancel _ _
  rw [e]
  exact k)
theorem n_gi (hi : a_ins i pc = some (.getfield z, n, a, b, v)) (ho : a_OB a o) (hk : b < a_fn a) (hf : a_fk a b ≠ 1) (e : M o b = N x) (k : a_Ex i (pc + n) lc (.int (N x) :: st) (a_hp sc fd M) Q) : a_Ex i pc lc (.ref o :: st) (a_hp sc fd M) Q := x_gi hi ho hk hf (by rw [e]; exact k)
theorem n_ld (hi : a_ins i pc = some (.iaload, n, a, b, v)) (ho : a_AR 0 o m) (hm : m < 2147483648) (hs : s < m) (e : M o s = N x) (k : a_Ex i (pc + n) lc (.int (N x) :: st) (a_hp sc fd M) Q) : a_Ex i pc lc (.int (N s) :: .ref o :: st) (a_hp sc fd M) Q := x_ld hi rfl ho (by rw [a_in_N (by omega)]; exact hs) (by rw [N_toNat (by omega), e]; exact k)
theorem n_stC {nn : Nat} (hi : a_ins i pc = some (.iastore, n, a, b, v)) {bb : Nat} (hb : HB bb) (r : RC M bb nn A) (w : Nat) (hw : w < 6) (hs : s < 5) (hv : x < lim w) (ho : bb + 1 + w = o) (k : ∀ M', RC M' bb nn (a_up A w s x) → FR bb M M' → a_Ex i (pc + n) lc st (a_hp sc fd M') Q) : a_Ex i pc lc (.int (N x) :: .int (N s) :: .ref o :: st) (a_hp sc fd M) Q := by
  subst ho
  refine x_st hi (hb.aw hw) (by rw [a_in_N (by omega)]; exact hs) ?_
  rw [N_toNat (by omega)]
  exact k _ (r.puta hw hv) (by rw [Nat.add_assoc]; exact FR.put (by omega))
theorem n_pC {nn : Nat} (hi : a_ins i pc = some (.putfield z, n, 1, b, v)) {bb : Nat} (hb : HB bb) (r : RC M bb nn A) (hk : b < a_fn 1 ∧ a_fk 1 b = 0) (h0 : ¬ b = 0) (hv : okf b x) (k : ∀ M', RC M' bb nn (a_up A 6 b x) → FR bb M M' → a_Ex i (pc + n) lc st (a_hp sc fd M') Q) : a_Ex i pc lc (.int (N x) :: .ref bb :: st) (a_hp sc fd M) Q := by
  refine x_pi hi hb.ob hk.1 hk.2 ?_
  exact k _ (r.putf h0 hv) (FR.put (w := 0) (by omega))
theorem n_stM {nn : Nat} (hi : a_ins i pc = some (.iastore, n, a, b, v)) (r : RM M nn A) (j : Nat) (hj : 1 ≤ j ∧ j < 5) (hs : s = j) (hv : okf j x) (k : ∀ M', RM M' nn (a_up A 6 j x) → FM M M' → a_Ex i (pc + n) lc st (a_hp sc fd M') Q) : a_Ex i pc lc (.int (N x) :: .int (N s) :: .ref 171 :: st) (a_hp sc fd M) Q := by
  subst hs
  refine x_st hi ar_171 (by rw [a_in_N (by omega)]; omega) ?_
  rw [N_toNat (by omega)]
  exact k _ (r.putf hj hv) (FM.p171 (by omega))
theorem n_pM {nn : Nat} (hi : a_ins i pc = some (.putfield z, n, 8, b, v)) (r : RM M nn A) (hf : b < a_fn 8 ∧ a_fk 8 b = 0) (hb : b = 0 ∨ (7 ≤ b ∧ b ≤ 10)) (k : ∀ M', RM M' nn (a_up A 9 b x) → FM M M' → a_Ex i (pc + n) lc st (a_hp sc fd M') Q) : a_Ex i pc lc (.int (N x) :: .ref 170 :: st) (a_hp sc fd M) Q := by
  refine x_pi hi ob_170 hf.1 hf.2 ?_
  exact k _ r.putg (FM.p170 hb)
theorem n_pMz {nn : Nat} (hi : a_ins i pc = some (.putfield z, n, 8, b, v)) (r : RM M nn A) (hf : b < a_fn 8 ∧ a_fk 8 b = 2) (hb : b = 0 ∨ (7 ≤ b ∧ b ≤ 10)) (hx : x = 0 ∨ x = 1) (k : ∀ M', RM M' nn (a_up A 9 b x) → FM M M' → a_Ex i (pc + n) lc st (a_hp sc fd M') Q) : a_Ex i pc lc (.int (N x) :: .ref 170 :: st) (a_hp sc fd M) Q := by
  refine x_pz hi ob_170 hf.1 hf.2 (by rcases hx with rfl | rfl; exact Or.inl rfl; exact Or.inr rfl) ?_
  exact k _ r.putg (FM.p170 hb)
theorem n_within (hi : a_ins i pc = some (.invokestatic z, n, 147, 3, v)) (hc : (st.map (fun v => v.category)).sum ≤ 8) {lo up : Nat} (hx : x < 4294967296) (hl : lo < 2147483648) (hu : up < 2147483648) (H : (lo ≤ x ∧ x ≤ up → a_Ex i (pc + n) lc (.int (N 1) :: st) (a_hp sc fd M) Q) ∧ (¬ (lo ≤ x ∧ x ≤ up) → a_Ex i (pc + n) lc (.int (N 0) :: st) (a_hp sc fd M) Q)) : a_Ex i pc lc (.long (N up).toInt64 :: .long (N lo).toInt64 :: .long (N x).toInt64 :: st) (a_hp sc fd M) Q := by
  refine x_within hi hc ?_
  rw [N_leU hx hl, N_leV hx hu]
  refine ⟨fun g => H.1 (by omega), fun g => H.2 (by omega)⟩
theorem n_withinM (hi : a_ins i pc = some (.invokestatic z, n, 147, 3, v)) (hc : (st.map (fun v => v.category)).sum ≤ 8) {up : Nat} (hx : x < 4294967296) (hu : up < 2147483648) (H : (x ≤ up ∨ x = 4294967295 → a_Ex i (pc + n) lc (.int (N 1) :: st) (a_hp sc fd M) Q) ∧ (¬ (x ≤ up ∨ x = 4294967295) → a_Ex i (pc + n) lc (.int (N 0) :: st) (a_hp sc fd M) Q)) : a_Ex i pc lc (.long (N up).toInt64 :: .long (N 4294967295).toInt64 :: .long (N x).toInt64 :: st) (a_hp sc fd M) Q := by
  refine x_within hi hc ?_
  have e : (N 4294967295 ≤ N x) = (x < 2147483648 ∨ x = 4294967295) := by
    refine propext ⟨fun g => ?_, fun g => ?_⟩
    · by_cases c : x < 2147483648
      · exact Or.inl c
      · right
        by_cases d : x = 4294967295
        · exact d
        · exfalso
          have t1 : (N x).toInt = (x : Int) - 4294967296 := by
            unfold N
            rw [Int32.toInt_ofNat']
            show Int.bmod (x : Int) 4294967296 = _
            rw [Int.bmod_def]
            have : ((x : Int)) % 4294967296 = x := Int.emod_eq_of_lt (by omega) (by omega)
            rw [show ((4294967296 : Nat) : Int) = 4294967296 from rfl, this, if_neg (by omega)]
          rw [Int32.le_iff_toInt_le, t1] at g
          have t2 : (N 4294967295).toInt = -1 := by decide +kernel
          omega
    · rcases g with c | c
      · have h1 : (N 4294967295) < 0 := by decide +kernel
        have h2 : (0 : Int32) ≤ N x := by rw [nN 0, N_le (by omega) c]; omega
        exact Int32.le_of_lt (Int32.lt_of_lt_of_le h1 h2)
      · rw [c]; exact Int32.le_refl _
  rw [e, N_leV hx hu]
  refine ⟨fun g => H.1 (by omega), fun g => H.2 (by omega)⟩
end NR2
