/-! counters that go down -/
theorem N_dec {x : Nat} (h : 1 ≤ x) : N (x + 4294967295) = N (x - 1) := by
  apply Int32.toBitVec_inj.mp
  rw [N_bv, N_bv]
  apply BitVec.eq_of_toNat_eq
  rw [BitVec.toNat_ofNat, BitVec.toNat_ofNat]
  omega
section DEC
variable {i pc : Nat} {lc lc' : a_Lc} {st : List Value} {h : a_Hp} {Q : Option Value → a_Hp → Prop} {m n a b o z nn : Nat} {v : Int32} {x y s w : Nat} {c : Int}
theorem N_decz {x : Nat} (h : x < 2147483648) : (N (x + 4294967295) < 0) = (x = 0) := by
  by_cases e : x = 0
  · subst e
    exact propext ⟨fun _ => rfl, fun _ => by decide +kernel⟩
  · rw [N_dec (by omega), N_lt0 (by omega)]
    exact propext ⟨fun g => by omega, fun g => absurd g e⟩
theorem n_declt (hx : x < 2147483648) (hi : a_ins i pc = some (.ifCond .lt c, n, a, b, v)) (H : (x = 0 → a_Ex i a lc st h Q) ∧ (¬ x = 0 → a_Ex i (pc + n) lc st h Q)) : a_Ex i pc lc (.int (N (x + 4294967295)) :: st) h Q := x_zlt hi (by rw [N_decz hx]; exact H)
theorem n_decge (hx : x < 2147483648) (hi : a_ins i pc = some (.ifCond .ge c, n, a, b, v)) (H : (¬ x = 0 → a_Ex i a lc st h Q) ∧ (x = 0 → a_Ex i (pc + n) lc st h Q)) : a_Ex i pc lc (.int (N (x + 4294967295)) :: st) h Q := x_zge hi ⟨fun g => H.1 (by rw [← N_decz hx]; exact Int32.not_lt.mpr g), fun g => H.2 (by rw [← N_decz hx]; exact Int32.not_le.mp g)⟩
theorem n_isubK (c : Nat) (hc : c + y = 4294967296) (hi : a_ins i pc = some (.isub, n, a, b, v)) (k : a_Ex i (pc + n) lc (.int (N (x + c)) :: st) h Q) : a_Ex i pc lc (.int (N y) :: .int (N x) :: st) h Q := n_isubC hi (by omega) (by
  rw [show 4294967296 - y = c by omega]
  exact k)
end DEC
def KQ (Q : Option Value → a_Hp → Prop) (h : a_Hp) (v : Nat) : Prop := Q (some (.int (N v))) h
def clr (A : HA) : HA := a_up A 7 0 0
theorem c_97 {sc : a_Sc} {fd : Nat} {Q : Option Value → a_Hp → Prop} {M : a_Mm} {b n : Nat} {A : HA} (hb : HB b) (r : RC M b n A) (k : KV Q sc fd M b n (clr A)) : a_Ex 97 0 [some (.ref (b + 7))] [] (a_hp sc fd M) Q := by
  refine x_aload_n i_97_0 rfl ?_
  refine n_iconst 0 i_97_1 rfl ?_
  refine x_pi i_97_2 hb.lg pf_2_1.1 pf_2_1.2 ?_
  refine x_aload_n i_97_5 rfl ?_
  refine n_iconst 0 i_97_6 rfl ?_
  refine x_pi i_97_7 hb.lg pf_2_2.1 pf_2_2.2 ?_
  refine x_vret i_97_10 rn_97 ?_
  refine k _ ?_ (fun o k h => by unfold a_up; rw [if_neg (by omega), if_neg (by omega)])
  obtain ⟨h1, h2, h3, h4, e, he, h5, h6, h7⟩ := r
  have ho : ∀ o k, (o < b + 7 ∨ b + 8 ≤ o) → a_up (a_up M (b + 7) 1 (N 0)) (b + 7) 2 (N 0) o k = M o k := fun o k hk => by unfold a_up; rw [if_neg (by omega), if_neg (by omega)]
  refine ⟨⟨h1.1, h1.2.1, h1.2.2.1, Nat.zero_le _, h1.2.2.2.2⟩, (ho _ _ (by omega)).trans h2, fun k hk => (ho _ _ (by omega)).trans (h3 k hk), fun w hw s hs => (ho _ _ (by omega)).trans ((h4 w hw s hs).trans ?_), 0, by omega, ?_, ?_, fun j hj => ?_⟩
  · unfold clr a_up; rw [if_neg (by omega)]
  · unfold a_up; rw [if_pos rfl, if_neg (by omega), if_pos rfl, if_pos rfl]
  · unfold a_up; rw [if_pos rfl, if_pos rfl]; rfl
  · exact absurd hj (Nat.not_lt_zero _)
theorem n_atx {i pc : Nat} {lc : a_Lc} {st : List Value} {sc : a_Sc} {fd : Nat} {M : a_Mm} {A : HA} {Q : Option Value → a_Hp → Prop} {n z nn : Nat} {v : Int32} {s : Nat} (x : Nat) (hi : a_ins i pc = some (.invokevirtual z, n, 155, 3, v)) (r : RM M nn A) (w : Nat) (hw : w < 6) (hs : s < nn) (hc : (st.map (fun v => v.category)).sum ≤ 8) (e : A w s = x) (k : a_Ex i (pc + n) lc (.int (N x) :: st) (a_hp sc fd M) Q) : a_Ex i pc lc (.int (N w) :: .int (N s) :: .ref 170 :: st) (a_hp sc fd M) Q := n_at hi r w hw hs hc (by rw [e]; exact k)
