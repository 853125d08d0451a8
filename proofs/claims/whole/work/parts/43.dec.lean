/-! counters that go down -/
theorem N_dec {x : Nat} (h : 1 ≤ x) : N (x + 4294967295) = N (x - 1) := by
  apply Int32.toBitVec_inj.mp
  rw [N_bv, N_bv]
  apply BitVec.eq_of_toNat_eq
  rw [BitVec.toNat_ofNat, BitVec.toNat_ofNat]
  omega
section DEC
variable {i pc : Nat} {lc lc' : a_Lc} {st : List Value} {h : a_Hp} {Q : Option Value → a_Hp → Prop} {m n a b o z nn : Nat} {v : Int32} {x y s w : Nat} {c : Int}
theorem N_decz {x : Nat} (h : x < 2147483648) : (N (x + 4294967295) < 0) = (x = 0) := by
  by_cases e : x = 0
  · subst e
    exact propext ⟨fun _ => rfl, fun _ => by decide +kernel⟩
  · rw [N_dec (by omega), N_lt0 (by omega)]
    exact propext ⟨fun g => by omega, fun g => absurd g e⟩
theorem n_declt (hx : x < 2147483648) (hi : a_ins i pc = some (.ifCond .lt c, n, a, b, v)) (H : (x = 0 → a_Ex i a lc st h Q) ∧ (¬ x = 0 → a_Ex i (pc + n) lc st h Q)) : a_Ex i pc lc (.int (N (x + 4294967295)) :: st) h Q := x_zlt hi (by rw [N_decz hx]; exact H)
theorem n_decge (hx : x < 2147483648) (hi : a_ins i pc = some (.ifCond .ge c, n, a, b, v)) (H : (¬ x = 0 → a_Ex i a lc st h Q) ∧ (x = 0 → a_Ex i (pc + n) lc st h Q)) : a_Ex i pc lc (.int (N (x + 4294967295)) :: st) h Q := x_zge hi ⟨fun g => H.1 (by rw [← N_decz hx]; exact Int32.not_lt.mpr g), fun g => H.2 (by rw [← N_decz hx]; exact Int32.not_le.mp g)⟩
theorem n_isubK (c : Nat) (hc : c + y = 4294967296) (hi : a_ins i pc = some (.isub, n, a, b, v)) (k : a_Ex i (pc + n) lc (.int (N (x + c)) :: st) h Q) : a_Ex i pc lc (.int (N y) :: .int (N x) :: st) h Q := n_isubC hi (by omega) (by
  rw [show 4294967296 - y = c by omega]
  exact k)
end DEC
def KQ (Q : Option Value → a_Hp → Prop) (h : a_Hp) (v : Nat) : Prop := Q (some (.int (N v))) h
def clr (A : HA) : HA := a_up A 7 0 0
theorem c_97 {sc : a_Sc} {fd : Nat} {Q : Option Value → a_Hp → Prop} {M : a_Mm} {b n : Nat} {A : HA} (hb : HB b) (r : RC M b n A) (k : KV Q sc fd M b n (clr A)) : a_Ex 97 0 [some (.ref (b + 7))] [] (a_hp sc fd M) Q := by
  refine x_aload_n i_97_0 rfl ?_
  refine n_iconst 0 i_97_1 rfl ?_
  refine x_pi i_97_2 hb.lg pf_2_1.1 pf_2_1.2 ?_
  refine x_aload_n i_97_5 rfl ?_
  refine n_iconst 0 i_97_6 rfl ?_
  refine x_pi i_97_7 hb.lg pf_2_2.1 pf_2_2.2 ?_
  refine x_vret i_97_10 rn_97 ?_
  refine k _ ?_ (fun o k h => by unfold a_up; rw [if_neg (by omega), if_neg (by omega)])
  obtain ⟨h1, h2, h3, h4, e, he, h5, h6, h7⟩ := r
  have ho : ∀ o k, (o < b + 7 ∨ b + 8 ≤ o) → a_up (a_up M (b + 7) 1 (N 0)) (b + 7) 2 (N 0) o k = M o k := fun o k hk => by unfold a_up; rw [if_neg (by omega), if_neg (by omega)]
  refine ⟨⟨h1.1, h1.2.1, h1.2.2.1, Nat.zero_le _, h1.2.2.2.2⟩, (ho _ _ (by omega)).trans h2, fun k hk => (ho _ _ (by omega)).trans (h3 k hk), fun w hw s hs => (ho _ _ (by omega)).trans ((h4 w hw s hs).trans ?_), 0, by omega, ?_, ?_, fun j hj => ?_⟩
  · unfold clr a_up; rw [if_neg (by omega)]
  · unfold a_up; rw [if_pos rfl, if_neg (by omega), if_pos rfl, if_pos rfl]
  · unfold a_up; rw [if_pos rfl, if_pos rfl]; rfl
  · exact absurd hj (Nat.not_lt_zero _)
theorem n_atx {i pc : Nat} {lc : a_Lc} {st : List Value} {sc : a_Sc} {fd : Nat} {M : a_Mm} {A : HA} {Q : Option Value → a_Hp → Prop} {n z nn : Nat} {v : Int32} {s : Nat} (x : Nat) (hi : a_ins i pc = some (.invokevirtual z, n, 155, 3, v)) (r : RM M nn A) (w : Nat) (hw : w < 6) (hs : s < nn) (hc : (st.map (fun v => v.category)).sum ≤ 8) (e : A w s = x) (k : a_Ex i (pc + n) lc (.int (N x) :: st) (a_hp sc fd M) Q) : a_Ex i pc lc (.int (N w) :: .int (N s) :: .ref 170 :: st) (a_hp sc fd M) Q := n_at hi r w hw hs hc (by rw [e]; exact k)
theorem n_tswO {e : Nat} {lo hi : Nat} (he : e < 4294967296) (h : e < lo ∨ hi < e) : (N e).toInt < ((lo : Nat) : Int) ∨ ((hi : Nat) : Int) < (N e).toInt := by
  by_cases c : e < 2147483648
  · rw [N_toInt c]; omega
  · left
    unfold N
    rw [Int32.toInt_ofNat']
    show Int.bmod (e : Int) 4294967296 < _
    rw [Int.bmod_def]
    have : ((e : Int)) % 4294967296 = e := Int.emod_eq_of_lt (by omega) (by omega)
    rw [show ((4294967296 : Nat) : Int) = 4294967296 from rfl, this, if_neg (by omega)]
    omega
theorem WN.ball {n : Nat} {A : HA} (w : WN n A) {j s : Nat} (hj : j < 6) (hs : s < 5) : A j s ≤ 31 := by
  have := w.2.2.1 s hs
  rcases (by omega : j = 0 ∨ j = 1 ∨ j = 2 ∨ j = 3 ∨ j = 4 ∨ j = 5) with rfl | rfl | rfl | rfl | rfl | rfl <;> omega
theorem WN.fx {n : Nat} {A : HA} (w : WN n A) {k : Nat} (h : 1 ≤ k ∧ k < 5) : A 6 k ≤ 15 := by
  have := w.2.1
  rcases (by omega : k = 1 ∨ k = 2 ∨ k = 3 ∨ k = 4) with rfl | rfl | rfl | rfl <;> omega
theorem RM.fx {M : a_Mm} {n : Nat} {A : HA} (r : RM M n A) {k : Nat} (h : 1 ≤ k ∧ k < 5) : M 171 k = N (A 6 k) := r.2.2.1 k h.1 h.2
theorem k_188 {sc : a_Sc} {fd : Nat} {M : a_Mm} {Q : Option Value → a_Hp → Prop} {v : Nat} (hv : v ≤ 31) (h0 : ¬ v = 0) (k : KP 4 Q (a_hp sc fd M) (low v 5 0)) : a_Ex 188 0 [some (.int (N v)), none] [] (a_hp sc fd M) Q := by
  have h : low v 5 0 < 5 := by
    rcases Nat.lt_or_ge (low v 5 0) 5 with h | h
    · exact h
    · exfalso
      refine h0 (Nat.eq_of_testBit_eq (fun t => ?_))
      rw [Nat.zero_testBit]
      by_cases c : t < 5
      · exact low_min (d := 5) (s := 0) (Nat.zero_le _) (by omega)
      · exact Nat.testBit_lt_two_pow (Nat.lt_of_lt_of_le (by omega : v < 2 ^ 5) (Nat.pow_le_pow_right (by omega) (by omega)))
  exact c_188 (by omega) h (k (by omega))
theorem low_lt {n v : Nat} (h0 : ¬ v = 0) (hv : v < 2 ^ n) (h5 : n ≤ 5) : low v 5 0 < n := by
  rcases Nat.lt_or_ge (low v 5 0) n with h | h
  · exact h
  · exfalso
    refine h0 (Nat.eq_of_testBit_eq (fun t => ?_))
    rw [Nat.zero_testBit]
    by_cases c : t < n
    · exact low_min (d := 5) (s := 0) (Nat.zero_le _) (by omega)
    · exact Nat.testBit_lt_two_pow (Nat.lt_of_lt_of_le hv (Nat.pow_le_pow_right (by omega) (by omega)))
theorem nb1 {e : Nat} (h : e ≤ 1) : narrow .boolean (.int (N e)) = .int (N e) := by
  rcases (by omega : e = 0 ∨ e = 1) with rfl | rfl <;> decide +kernel
def MU (Q : Option Value → a_Hp → Prop) (sc : a_Sc) (fd : Nat) (M : a_Mm) (n : Nat) (p : Nat × HA) : Prop := ∀ M', RM M' n p.2 → FM M M' → Q (some (.int (N p.1))) (a_hp sc fd M')
theorem MU.tr {Q : Option Value → a_Hp → Prop} {sc : a_Sc} {fd : Nat} {M M1 : a_Mm} {n : Nat} {p : Nat × HA} (k : MU Q sc fd M n p) (f : FM M M1) : MU Q sc fd M1 n p := fun M' r g => k M' r (f.trans g)
