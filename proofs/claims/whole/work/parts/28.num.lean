/-! small whole numbers as ints of the machine -/
def N (k : Nat) : Int32 := Int32.ofNat k
theorem nN (k : Nat) : (OfNat.ofNat k : Int32) = N k := rfl
theorem N_toInt {a : Nat} (h : a < 2147483648) : (N a).toInt = a := by
  unfold N
  exact Int32.toInt_ofNat_of_lt h
theorem N_toNat {a : Nat} (h : a < 2147483648) : (N a).toNatClampNeg = a := by
  have h1 := N_toInt h
  show (N a).toInt.toNat = a
  rw [h1]
  exact Int.toNat_natCast a
theorem N_add (a b : Nat) : N a + N b = N (a + b) := by
  unfold N
  exact (Int32.ofNat_add a b).symm
theorem N_mul (a b : Nat) : N a * N b = N (a * b) := by
  unfold N
  exact (Int32.ofNat_mul a b).symm
theorem N_sub {a b : Nat} (h : b ≤ a) : N a - N b = N (a - b) := by
  have h1 : N (a - b) + N b = N a := by rw [N_add]; congr 1; omega
  rw [← h1]
  exact Int32.add_sub_cancel (N (a - b)) (N b)
theorem N_lt {a b : Nat} (ha : a < 2147483648) (hb : b < 2147483648) : (N a < N b) = (a < b) := by
  rw [Int32.lt_iff_toInt_lt, N_toInt ha, N_toInt hb]
  exact propext Int.ofNat_lt
theorem N_le {a b : Nat} (ha : a < 2147483648) (hb : b < 2147483648) : (N a ≤ N b) = (a ≤ b) := by
  rw [Int32.le_iff_toInt_le, N_toInt ha, N_toInt hb]
  exact propext Int.ofNat_le
theorem N_inj {a b : Nat} (ha : a < 2147483648) (hb : b < 2147483648) : (N a = N b) = (a = b) := by
  refine propext ⟨fun h => ?_, fun h => by rw [h]⟩
  have h1 := congrArg Int32.toInt h
  rw [N_toInt ha, N_toInt hb] at h1
  exact Int.ofNat.inj h1
theorem N_bv (a : Nat) : (N a).toBitVec = BitVec.ofNat 32 a := rfl
theorem N_or (a b : Nat) : N a ||| N b = N (a ||| b) := by
  apply Int32.toBitVec_inj.mp
  rw [Int32.toBitVec_or, N_bv, N_bv, N_bv, BitVec.ofNat_or]
theorem N_and (a b : Nat) : N a &&& N b = N (a &&& b) := by
  apply Int32.toBitVec_inj.mp
  rw [Int32.toBitVec_and, N_bv, N_bv, N_bv, BitVec.ofNat_and]
theorem N_xor (a b : Nat) : N a ^^^ N b = N (a ^^^ b) := by
  apply Int32.toBitVec_inj.mp
  rw [Int32.toBitVec_xor, N_bv, N_bv, N_bv, BitVec.ofNat_xor]
theorem a_in_N {a m : Nat} (ha : a < 2147483648) : (a_in (N a) m = true) = (a < m) := by
  rw [a_in_iff, N_toNat ha]
  refine propext ⟨fun h => h.2, fun h => ⟨?_, h⟩⟩
  rw [show (0 : Int32) = N 0 from rfl, N_lt ha (by omega)]
  omega
theorem N_31 {s : Nat} (h : s < 32) : N s &&& N 31 = N s := by
  rw [N_and]
  congr 1
  have : ∀ s : Nat, s < 32 → s &&& 31 = s := by decide
  exact this s h
theorem N_smod {s : Nat} (h : s < 32) : (BitVec.ofNat 32 s).smod 32 = BitVec.ofNat 32 s := (by decide : ∀ s : Nat, s < 32 → (BitVec.ofNat 32 s).smod 32 = BitVec.ofNat 32 s) s h
theorem N_shl {a s : Nat} (h : s < 32) : N a <<< N s = N (a <<< s) := by
  apply Int32.toBitVec_inj.mp
  rw [Int32.toBitVec_shiftLeft, N_bv, N_bv, N_bv, N_smod h]
  apply BitVec.eq_of_toNat_eq
  simp [BitVec.toNat_ofNat, Nat.shiftLeft_eq]
  rw [Nat.mod_eq_of_lt (show s < 4294967296 by omega)]
theorem N_shr {a s : Nat} (ha : a < 2147483648) (h : s < 32) : N a >>> N s = N (a >>> s) := by
  apply Int32.toBitVec_inj.mp
  rw [Int32.toBitVec_shiftRight, N_bv, N_bv, N_bv, N_smod h]
  have hm : (BitVec.ofNat 32 a).msb = false := by
    rw [BitVec.msb_eq_decide]
    simp [BitVec.toNat_ofNat]
    omega
  rw [BitVec.sshiftRight_eq', BitVec.sshiftRight_eq_of_msb_false hm]
  apply BitVec.eq_of_toNat_eq
  simp [BitVec.toNat_ofNat, Nat.shiftRight_eq_div_pow]
  rw [Nat.mod_eq_of_lt (show s < 4294967296 by omega), Nat.mod_eq_of_lt (show a < 4294967296 by omega), Nat.mod_eq_of_lt]
  exact Nat.lt_of_le_of_lt (Nat.div_le_self _ _) (by omega)
theorem N_div {a b : Nat} (ha : a < 2147483648) (hb : b < 2147483648) : N a / N b = N (a / b) := by
  have h2 : a / b < 2147483648 := Nat.lt_of_le_of_lt (Nat.div_le_self _ _) ha
  apply Int32.toInt_inj.mp
  rw [Int32.toInt_div, N_toInt ha, N_toInt hb, N_toInt h2, show ((a : Int).tdiv (b : Int)) = ((a / b : Nat) : Int) from rfl]
  generalize a / b = q at h2
  rw [Int.bmod_eq_of_le] <;> omega
theorem N_neg {x : Int32} (h : ¬ x < 0) : x = N x.toNatClampNeg ∧ x.toNatClampNeg < 2147483648 := by
  have h1 : 0 ≤ x.toInt := by
    rw [Int32.lt_iff_toInt_lt] at h
    have : (0 : Int32).toInt = 0 := rfl
    omega
  have h2 := Int32.toInt_lt x
  have h3 : x.toNatClampNeg = x.toInt.toNat := rfl
  have h4 : x.toNatClampNeg < 2147483648 := by rw [h3]; omega
  refine ⟨?_, h4⟩
  apply Int32.toInt_inj.mp
  rw [N_toInt h4, h3]
  omega
