/-! one hall in the abstract, all other ints as they are: RX in the class, RY in the reference -/
def RX (M : a_Mm) (b n : Nat) (A G : HA) : Prop := RC M b n A ∧ ∀ o k, (o < b ∨ b + 9 ≤ o) → M o k = N (G o k)
def YO (o k : Nat) : Prop := o < 170 ∨ 171 < o ∨ (o = 170 ∧ ¬ k = 0 ∧ (k < 7 ∨ 10 < k)) ∨ (o = 171 ∧ 216 ≤ k)
def RY (M : a_Mm) (n : Nat) (A G : HA) : Prop := RM M n A ∧ ∀ o k, YO o k → M o k = N (G o k)
section RXS
variable {M : a_Mm} {b n : Nat} {A G : HA}
theorem RX.w (r : RX M b n A G) : WN n A := r.1.w
theorem RX.n2 (r : RX M b n A G) : 2 ≤ n := r.1.n2
theorem RX.n5 (r : RX M b n A G) : n ≤ 5 := r.1.n5
theorem RX.nn (r : RX M b n A G) : M b 0 = N n := r.1.nn
theorem RX.f1 (r : RX M b n A G) : M b 1 = N (A 6 1) := r.1.f1
theorem RX.f2 (r : RX M b n A G) : M b 2 = N (A 6 2) := r.1.f2
theorem RX.f3 (r : RX M b n A G) : M b 3 = N (A 6 3) := r.1.f3
theorem RX.f4 (r : RX M b n A G) : M b 4 = N (A 6 4) := r.1.f4
theorem RX.f12 (r : RX M b n A G) : M b 12 = N (A 6 12) := r.1.f12
theorem RX.f13 (r : RX M b n A G) : M b 13 = N (A 6 13) := r.1.f13
theorem RX.a0 (r : RX M b n A G) {s : Nat} (hs : s < 5) : M (b + 1) s = N (A 0 s) := r.1.a0 hs
theorem RX.a1 (r : RX M b n A G) {s : Nat} (hs : s < 5) : M (b + 2) s = N (A 1 s) := r.1.a1 hs
theorem RX.a2 (r : RX M b n A G) {s : Nat} (hs : s < 5) : M (b + 3) s = N (A 2 s) := r.1.a2 hs
theorem RX.lsz (r : RX M b n A G) : M (b + 7) 2 = N (A 7 0) := r.1.lsz
theorem RX.g (r : RX M b n A G) {o : Nat} (k : Nat) (h : o < b ∨ b + 9 ≤ o) : M o k = N (G o k) := r.2 o k h
theorem RX.mv (r : RX M b n A G) {M' : a_Mm} {A' : HA} (r' : RC M' b n A') (f : FR b M M') : RX M' b n A' G := ⟨r', fun o k h => (f o k h).trans (r.2 o k h)⟩
theorem RX.put (r : RX M b n A G) {o k v : Nat} (h : o < b ∨ b + 9 ≤ o) : RX (a_up M o k (N v)) b n A (a_up G o k v) := by
  refine ⟨r.1.same (fun o' k' h1 h2 => by unfold a_up; rw [if_neg (by omega)]), fun o' k' h' => ?_⟩
  rw [a_up_def, a_up_def]
  split
  · rfl
  · exact r.2 o' k' h'
theorem RX.of (r : RC M b n A) : ∃ G, RX M b n A G := ⟨fun o k => (M o k).toBitVec.toNat, r, fun o k _ => by
  apply Int32.toBitVec_inj.mp
  rw [N_bv]
  apply BitVec.eq_of_toNat_eq
  rw [BitVec.toNat_ofNat]
  exact (Nat.mod_eq_of_lt (M o k).toBitVec.isLt).symm⟩
theorem RY.w (r : RY M n A G) : WN n A := r.1.w
theorem RY.n2 (r : RY M n A G) : 2 ≤ n := r.1.n2
theorem RY.n5 (r : RY M n A G) : n ≤ 5 := r.1.n5
theorem RY.nn (r : RY M n A G) : M 171 0 = N n := r.1.nn
theorem RY.f1 (r : RY M n A G) : M 171 1 = N (A 6 1) := r.1.f1
theorem RY.f2 (r : RY M n A G) : M 171 2 = N (A 6 2) := r.1.f2
theorem RY.f3 (r : RY M n A G) : M 171 3 = N (A 6 3) := r.1.f3
theorem RY.f4 (r : RY M n A G) : M 171 4 = N (A 6 4) := r.1.f4
theorem RY.f35 (r : RY M n A G) : M 171 35 = N (A 7 0) := r.1.f35
theorem RY.gg (r : RY M n A G) {k : Nat} (hk : k = 0 ∨ (7 ≤ k ∧ k ≤ 10)) : M 170 k = N (A 9 k) := r.1.g hk
theorem RY.g (r : RY M n A G) {o : Nat} (k : Nat) (h : YO o k) : M o k = N (G o k) := r.2 o k h
theorem RY.mv (r : RY M n A G) {M' : a_Mm} {A' : HA} (r' : RM M' n A') (f : FM M M') : RY M' n A' G := ⟨r', fun o k h => (f o k h).trans (r.2 o k h)⟩
theorem RY.put (r : RY M n A G) {o k v : Nat} (h : YO o k) : RY (a_up M o k (N v)) n A (a_up G o k v) := by
  refine ⟨r.1.same (fun k' h1 => ?_) (fun k' h1 => ?_), fun o' k' h' => ?_⟩
  · unfold YO at h; rw [a_up_def, if_neg (by omega)]
  · unfold YO at h; rw [a_up_def, if_neg (by omega)]
  · rw [a_up_def, a_up_def]
    split
    · rfl
    · exact r.2 o' k' h'
end RXS
def KX (u : Nat) (Q : Option Value → a_Hp → Prop) (sc : a_Sc) (fd b n : Nat) (p : Nat × HA × HA) : Prop := p.1 ≤ u → ∀ M', RX M' b n p.2.1 p.2.2 → Q (some (.int (N p.1))) (a_hp sc fd M')
def KXV (Q : Option Value → a_Hp → Prop) (sc : a_Sc) (fd b n : Nat) (p : HA × HA) : Prop := ∀ M', RX M' b n p.1 p.2 → Q none (a_hp sc fd M')
def KZ (u : Nat) (Q : Option Value → a_Hp → Prop) (sc : a_Sc) (fd b n : Nat) (A : HA) (p : Nat × HA) : Prop := p.1 ≤ u → ∀ M', RX M' b n A p.2 → Q (some (.int (N p.1))) (a_hp sc fd M')
def KZV (Q : Option Value → a_Hp → Prop) (sc : a_Sc) (fd b n : Nat) (A G : HA) : Prop := ∀ M', RX M' b n A G → Q none (a_hp sc fd M')
def KY (u : Nat) (Q : Option Value → a_Hp → Prop) (sc : a_Sc) (fd n : Nat) (p : Nat × HA × HA) : Prop := p.1 ≤ u → ∀ M', RY M' n p.2.1 p.2.2 → Q (some (.int (N p.1))) (a_hp sc fd M')
def KYV (Q : Option Value → a_Hp → Prop) (sc : a_Sc) (fd n : Nat) (p : HA × HA) : Prop := ∀ M', RY M' n p.1 p.2 → Q none (a_hp sc fd M')
def KW (u : Nat) (Q : Option Value → a_Hp → Prop) (sc : a_Sc) (fd n : Nat) (A : HA) (p : Nat × HA) : Prop := p.1 ≤ u → ∀ M', RY M' n A p.2 → Q (some (.int (N p.1))) (a_hp sc fd M')
def KWV (Q : Option Value → a_Hp → Prop) (sc : a_Sc) (fd n : Nat) (A G : HA) : Prop := ∀ M', RY M' n A G → Q none (a_hp sc fd M')
section NRX
variable {i pc : Nat} {lc lc' : a_Lc} {st : List Value} {h : a_Hp} {sc : a_Sc} {fd : Nat} {M : a_Mm} {A G : HA} {Q : Option Value → a_Hp → Prop} {m n a b o z bb nn : Nat} {v : Int32} {x y s w : Nat} {c : Int}
theorem n_pX (hi : a_ins i pc = some (.putfield z, n, a, b, v)) (r : RX M bb nn A G) (ho : a_OB a o) (hf : b < a_fn a ∧ a_fk a b = 0) (off : o < bb ∨ bb + 9 ≤ o) (k : ∀ M', RX M' bb nn A (a_up G o b x) → a_Ex i (pc + n) lc st (a_hp sc fd M') Q) : a_Ex i pc lc (.int (N x) :: .ref o :: st) (a_hp sc fd M) Q := by
  refine x_pi hi ho hf.1 hf.2 ?_
  exact k _ (r.put off)
theorem n_stX (hi : a_ins i pc = some (.iastore, n, a, b, v)) (r : RX M bb nn A G) (ho : a_AR 0 o m) (hm : m < 2147483648) (hs : s < m) (off : o < bb ∨ bb + 9 ≤ o) (k : ∀ M', RX M' bb nn A (a_up G o s x) → a_Ex i (pc + n) lc st (a_hp sc fd M') Q) : a_Ex i pc lc (.int (N x) :: .int (N s) :: .ref o :: st) (a_hp sc fd M) Q := by
  refine n_st hi ho hm hs ?_
  exact k _ (r.put off)
theorem n_pY (hi : a_ins i pc = some (.putfield z, n, a, b, v)) (r : RY M nn A G) (ho : a_OB a o) (hf : b < a_fn a ∧ a_fk a b = 0) (off : YO o b) (k : ∀ M', RY M' nn A (a_up G o b x) → a_Ex i (pc + n) lc st (a_hp sc fd M') Q) : a_Ex i pc lc (.int (N x) :: .ref o :: st) (a_hp sc fd M) Q := by
  refine x_pi hi ho hf.1 hf.2 ?_
  exact k _ (r.put off)
theorem n_stY (hi : a_ins i pc = some (.iastore, n, a, b, v)) (r : RY M nn A G) (ho : a_AR 0 o m) (hm : m < 2147483648) (hs : s < m) (off : YO o s) (k : ∀ M', RY M' nn A (a_up G o s x) → a_Ex i (pc + n) lc st (a_hp sc fd M') Q) : a_Ex i pc lc (.int (N x) :: .int (N s) :: .ref o :: st) (a_hp sc fd M) Q := by
  refine n_st hi ho hm hs ?_
  exact k _ (r.put off)
theorem n_ldb {t : Nat} (hi : a_ins i pc = some (.baload, n, a, b, v)) (ho : a_AR t o m) (ht : t = 1 ∨ t = 2) (hm : m < 2147483648) (hs : s < m) (e : M o s = N x) (k : a_Ex i (pc + n) lc (.int (N x) :: st) (a_hp sc fd M) Q) : a_Ex i pc lc (.int (N s) :: .ref o :: st) (a_hp sc fd M) Q := x_ldb hi ho ht (by rw [a_in_N (by omega)]; exact hs) (by rw [N_toNat (by omega), e]; exact k)
end NRX
def offb (o : Nat) : Bool := a_HL.all (fun b => decide (o < b ∨ b + 9 ≤ o))
theorem HB.fr {b : Nat} (h : HB b) {o : Nat} (ho : offb o = true) : o < b ∨ b + 9 ≤ o := of_decide_eq_true (List.all_eq_true.mp ho b h)
section KAP
variable {u : Nat} {Q : Option Value → a_Hp → Prop} {sc : a_Sc} {fd : Nat} {M M' : a_Mm} {b n v : Nat} {A G : HA}
theorem KR.ap (k : KR u Q sc fd M b n (v, A)) (h : v ≤ u) (r : RC M' b n A) (f : FR b M M') : Q (some (.int (N v))) (a_hp sc fd M') := k h M' r f
theorem MR.ap (k : MR u Q sc fd M n (v, A)) (h : v ≤ u) (r : RM M' n A) (f : FM M M') : Q (some (.int (N v))) (a_hp sc fd M') := k h M' r f
theorem MU.ap (k : MU Q sc fd M n (v, A)) (r : RM M' n A) (f : FM M M') : Q (some (.int (N v))) (a_hp sc fd M') := k M' r f
theorem KX.ap (k : KX u Q sc fd b n (v, A, G)) (h : v ≤ u) (r : RX M' b n A G) : Q (some (.int (N v))) (a_hp sc fd M') := k h M' r
theorem KZ.ap (k : KZ u Q sc fd b n A (v, G)) (h : v ≤ u) (r : RX M' b n A G) : Q (some (.int (N v))) (a_hp sc fd M') := k h M' r
theorem KY.ap (k : KY u Q sc fd n (v, A, G)) (h : v ≤ u) (r : RY M' n A G) : Q (some (.int (N v))) (a_hp sc fd M') := k h M' r
theorem KW.ap (k : KW u Q sc fd n A (v, G)) (h : v ≤ u) (r : RY M' n A G) : Q (some (.int (N v))) (a_hp sc fd M') := k h M' r
end KAP
