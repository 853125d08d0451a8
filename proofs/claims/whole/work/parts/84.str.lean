/-! the String constants: their length, their bytes -/
def wl (k : Nat) : Nat := (a_byt.getD k []).length
def wc (k i : Nat) : Nat := ((a_byt.getD k []).getD i 0).toNatClampNeg
theorem wl_le : ∀ k, k < 36 → wl k ≤ 7 := by decide +kernel
theorem wc_ok : ∀ k, k < 36 → ∀ i, i < wl k → (a_byt.getD k []).getD i 0 = N (wc k i) ∧ wc k i < 123 := by decide +kernel
theorem SH_none {o : Nat} (h : a_CB ≤ o) : a_SH[o]? = none := List.getElem?_eq_none (Nat.le_trans (by decide +kernel : a_SH.length ≤ a_CB) h)
theorem c_chr : ∀ c, c < 123 → (((N c &&& N 255).toUInt32 % 65536).toInt32 = N c) ∧ narrow .char (.int (N c)) = .int (N c) := by decide +kernel
theorem sk_ok {k : Nat} (hk : k < 36) : (a_CB + 2 * k) % 2 = 0 ∧ a_CB ≤ a_CB + 2 * k ∧ (a_CB + 2 * k - a_CB) / 2 < 36 := by
  unfold a_CB
  refine ⟨?_, ?_, ?_⟩ <;> omega
theorem sk_ok1 {k : Nat} (hk : k < 36) : (a_CB + 2 * k + 1) % 2 = 1 ∧ a_CB ≤ a_CB + 2 * k + 1 ∧ (a_CB + 2 * k + 1 - a_CB) / 2 < 36 := by
  unfold a_CB
  refine ⟨?_, ?_, ?_⟩ <;> omega
theorem sk_div {k : Nat} : (a_CB + 2 * k + 1 - a_CB) / 2 = k := by
  rw [Nat.add_assoc, Nat.add_sub_cancel_left]; omega
theorem sk_ne {k : Nat} (h : a_CB + 2 * k + 1 = a_CB + 1000) : False := by
  rw [Nat.add_assoc] at h
  have := Nat.add_left_cancel h
  omega
section STR
variable {sc : a_Sc} {fd : Nat} {M : a_Mm} {Q : Option Value → a_Hp → Prop} {i pc : Nat} {lc : a_Lc} {st : List Value} {n a b : Nat} {v : Int32} {z : Nat} {k j : Nat}
theorem x_gS0 (hi : a_ins i pc = some (.getfield z, n, 9, 0, v)) (hk : k < 36) (K : a_Ex i (pc + n) lc (.ref (a_CB + 2 * k + 1) :: st) (a_hp sc fd M) Q) : a_Ex i pc lc (.ref (a_CB + 2 * k) :: st) (a_hp sc fd M) Q := by
  refine x_nx hi ?_ K
  simp only [a_step, a_getf]
  rw [if_pos trivial, if_pos (by exact sk_ok hk)]
  rfl
theorem x_gS1 (hi : a_ins i pc = some (.getfield z, n, 9, 1, v)) (hk : k < 36) (K : a_Ex i (pc + n) lc (.int 0 :: st) (a_hp sc fd M) Q) : a_Ex i pc lc (.ref (a_CB + 2 * k) :: st) (a_hp sc fd M) Q := by
  refine x_nx hi ?_ K
  simp only [a_step, a_getf]
  rw [if_pos trivial, if_pos (by exact sk_ok hk)]
  rfl
theorem x_alenS (hi : a_ins i pc = some (.arraylength, n, a, b, v)) (hk : k < 36) (K : a_Ex i (pc + n) lc (.int (N (wl k)) :: st) (a_hp sc fd M) Q) : a_Ex i pc lc (.ref (a_CB + 2 * k + 1) :: st) (a_hp sc fd M) Q := by
  refine x_nx hi ?_ K
  simp only [a_step, a_alen]
  rw [show (a_hp sc fd M).1[a_CB + 2 * k + 1]? = none from SH_none (sk_ok1 hk).2.1]
  dsimp only
  rw [if_neg (fun h => sk_ne h.1), if_pos (by exact sk_ok1 hk)]
  rw [sk_div]
  rfl
theorem x_ldS (hi : a_ins i pc = some (.baload, n, a, b, v)) (hk : k < 36) (hj : j < wl k) (K : a_Ex i (pc + n) lc (.int (N (wc k j)) :: st) (a_hp sc fd M) Q) : a_Ex i pc lc (.int (N j) :: .ref (a_CB + 2 * k + 1) :: st) (a_hp sc fd M) Q := by
  have h7 := wl_le k hk
  refine x_nx hi ?_ K
  simp only [a_step]
  unfold a_ld
  dsimp only
  rw [show (a_hp sc fd M).1[a_CB + 2 * k + 1]? = none from SH_none (sk_ok1 hk).2.1]
  dsimp only
  rw [if_neg (by simp)]
  rw [sk_div]
  rw [if_pos (by
    refine ⟨rfl, (sk_ok1 hk).1, (sk_ok1 hk).2.1, hk, ?_⟩
    · show a_in (N j) (wl k) = true
      unfold a_in
      rw [N_toNat (by omega), show (0 : Int32) = N 0 from rfl]
      simp only [N_lt (show j < 2147483648 by omega) (show 0 < 2147483648 by omega)]
      simp
      omega)]
  rw [N_toNat (by omega), (wc_ok k hk j hj).1]
  rfl
theorem x_vS {r : List Value} {st0 : List Value} {lj : a_Lc} {mL : Nat} (hi : a_ins i pc = some (.invokevirtual z, n, a, b, v)) (hw : a_own a = 9 ∧ a_maxL a = mL ∧ a < 274) (hk : k < 36) (as0 : List Value) (hst : st0 = as0.reverse ++ .ref (a_CB + 2 * k) :: r) (hb : as0.length + 1 = b) (hc : (r.map (fun v => v.category)).sum ≤ 8) (hsl : (a_slots (.ref (a_CB + 2 * k) :: as0)).length ≤ mL) (hlj : a_slots (.ref (a_CB + 2 * k) :: as0) ++ List.replicate (mL - (a_slots (.ref (a_CB + 2 * k) :: as0)).length) none = lj)
    (K : a_Ex a 0 lj [] (a_hp sc fd M) (a_Rt i (pc + n) lc r Q)) : a_Ex i pc lc st0 (a_hp sc fd M) Q := by
  obtain ⟨w1, w2, w3⟩ := hw
  subst w2
  refine x_virt hi as0 hst hb w3 ?_ hc hsl hlj K
  rw [Bool.or_eq_true]
  right
  rw [decide_eq_true_eq]
  exact ⟨w1, sk_ok hk⟩
theorem x_gst (hi : a_ins i pc = some (.getstatic z, n, 0, b, v)) (K : a_Ex i (pc + n) lc (.int 1 :: st) (a_hp sc fd M) Q) : a_Ex i pc lc st (a_hp sc fd M) Q := x_nx hi rfl K
theorem x_gst1 (hi : a_ins i pc = some (.getstatic z, n, 1, b, v)) (K : a_Ex i (pc + n) lc (.retAddr 0 :: st) (a_hp sc fd M) Q) : a_Ex i pc lc st (a_hp sc fd M) Q := x_nx hi rfl K
theorem k_267 (hk : k < 36) (K : Q (some (.int (N (wl k)))) (a_hp sc fd M)) : a_Ex 267 0 [some (.ref (a_CB + 2 * k))] [] (a_hp sc fd M) Q := by
  have h7 := wl_le k hk
  refine x_aload_n i_267_0 rfl ?_
  refine x_gS0 i_267_1 hk ?_
  refine x_alenS i_267_4 hk ?_
  refine x_aload_n i_267_5 rfl ?_
  refine x_vS (r := [_]) (lj := [some _]) i_267_6 w_268 hk [] rfl rfl (Nat.le_of_ble_eq_true rfl) (Nat.le_of_ble_eq_true rfl) rfl ?_
  refine x_gst i_268_0 ?_
  refine x_ifF i_268_3 (by decide +kernel) ?_
  refine x_aload_n i_268_6 rfl ?_
  refine x_gS1 i_268_7 hk ?_
  refine x_goto i_268_10 ?_
  refine x_iretI i_268_14 rn_268 (by decide +kernel) ?_
  rw [show (0 : Int32) = N 0 from rfl]
  refine x_ishrN (by omega) (by omega) i_267_9 ?_
  refine x_iret i_267_10 rn_267 rfl ?_
  exact K
theorem k_269 (hk : k < 36) (hj : j < wl k) (K : Q (some (.int (N (wc k j)))) (a_hp sc fd M)) : a_Ex 269 0 [some (.ref (a_CB + 2 * k)), some (.int (N j))] [] (a_hp sc fd M) Q := by
  have h7 := wl_le k hk
  have hc := c_chr _ (wc_ok k hk j hj).2
  refine x_aload_n i_269_0 rfl ?_
  refine x_vS (r := []) (lj := [some _]) i_269_1 w_270 hk [] rfl rfl (Nat.le_of_ble_eq_true rfl) (Nat.le_of_ble_eq_true rfl) rfl ?_
  refine x_gst i_270_0 ?_
  refine x_ifF i_270_3 (by decide +kernel) ?_
  refine x_aload_n i_270_6 rfl ?_
  refine x_gS1 i_270_7 hk ?_
  refine x_ifF i_270_10 (by decide +kernel) ?_
  refine n_iconst 1 i_270_13 rfl ?_
  refine x_goto i_270_14 ?_
  refine x_iretI i_270_18 rn_270 (by decide +kernel) ?_
  refine x_ifF i_269_4 (by decide +kernel) ?_
  refine x_aload_n i_269_7 rfl ?_
  refine x_gS0 i_269_8 hk ?_
  refine x_iload_n i_269_11 rfl ?_
  refine x_sh (r := []) (lj := [some _, some _]) i_269_12 ws_271 [_, _] rfl rfl (Nat.le_of_ble_eq_true rfl) (Nat.le_of_ble_eq_true rfl) rfl ?_
  refine x_iload_n i_271_0 rfl ?_
  refine x_aload_n i_271_1 rfl ?_
  refine x_alenS i_271_2 hk ?_
  refine x_sh (r := []) (lj := [some _, some _]) i_271_3 ws_272 [_, _] rfl rfl (Nat.le_of_ble_eq_true rfl) (Nat.le_of_ble_eq_true rfl) rfl ?_
  refine x_iload_n i_272_0 rfl ?_
  refine x_iload_n i_272_1 rfl ?_
  refine x_gst1 i_272_2 ?_
  refine x_sh (r := []) (lj := [some _, some _, some _]) i_272_5 ws_273 [_, _, _] rfl rfl (Nat.le_of_ble_eq_true rfl) (Nat.le_of_ble_eq_true rfl) rfl ?_
  refine x_iload_n i_273_0 rfl ?_
  refine x_zltN (by omega) i_273_1 ?_
  refine x_iload_n i_273_4 rfl ?_
  refine x_iload_n i_273_5 rfl ?_
  refine x_iltN (by omega) (by omega) i_273_6 ⟨fun _ => ?_, fun q => absurd hj q⟩
  refine x_iload_n i_273_16 rfl ?_
  refine x_iretI i_273_17 rn_273 rfl ?_
  refine x_pop i_272_8 rfl ?_
  refine x_vretI i_272_9 rn_272 ?_
  refine x_aload_n i_271_6 rfl ?_
  refine x_iload_n i_271_7 rfl ?_
  refine x_ldS i_271_8 hk hj ?_
  refine n_sipush 255 i_271_9 rfl ?_
  refine x_iand i_271_12 ?_
  refine x_i2c i_271_13 ?_
  rw [hc.1]
  refine x_iretI i_271_14 rn_271 hc.2 ?_
  refine x_iret i_269_15 rn_269 hc.2 ?_
  exact K
end STR
