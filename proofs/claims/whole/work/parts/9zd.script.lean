/-! the law reads its script -/
section SCR
variable {i pc n a b z L s : Nat} {v : Int32} {lc : a_Lc} {st : List Value} {xs : Nat → Int32} {fd : Nat} {M : a_Mm} {Q : Option Value → a_Hp → Prop}
/-- a number of the script -/
def ax (xs : Nat → Int32) (s : Nat) : Nat := (xs s).toBitVec.toNat
theorem ax_lt (xs : Nat → Int32) (s : Nat) : ax xs s < 4294967296 := (xs s).toBitVec.isLt
theorem SH_1000 : a_SH[a_CB + 1000]? = none := by
  refine List.getElem?_eq_none ?_
  have : a_SH.length ≤ 1000 := by decide +kernel
  have : a_CB = 1000000 := rfl
  omega
theorem x_alenL (hi : a_ins i pc = some (.arraylength, n, a, b, v)) (k : a_Ex i (pc + n) lc (.int (N L) :: st) (a_hp (L + 1, xs) fd M) Q) : a_Ex i pc lc (.ref (a_CB + 1000) :: st) (a_hp (L + 1, xs) fd M) Q := by
  refine x_nx hi ?_ k
  simp only [a_step, a_alen]
  rw [show (a_hp (L + 1, xs) fd M).1[a_CB + 1000]? = none from SH_1000]
  dsimp only
  rw [if_pos ⟨trivial, by show ¬ L + 1 = 0; omega⟩]
  rfl
theorem n_ldL (hi : a_ins i pc = some (.iaload, n, a, b, v)) (hs : s < L) (hL : L ≤ 3072) (k : a_Ex i (pc + n) lc (.int (N (ax xs s)) :: st) (a_hp (L + 1, xs) fd M) Q) : a_Ex i pc lc (.int (N s) :: .ref (a_CB + 1000) :: st) (a_hp (L + 1, xs) fd M) Q := by
  rw [show N (ax xs s) = xs s from N_nat _] at k
  refine x_nx hi ?_ k
  simp only [a_step]
  unfold a_ld
  dsimp only
  rw [show (a_hp (L + 1, xs) fd M).1[a_CB + 1000]? = none from SH_1000]
  dsimp only
  rw [if_pos ⟨rfl, rfl, by show a_in (N s) (L + 1 - 1) = true; rw [show L + 1 - 1 = L by omega, a_in_N (by omega)]; exact hs⟩]
  rw [N_toNat (by omega)]
  rfl
end SCR
