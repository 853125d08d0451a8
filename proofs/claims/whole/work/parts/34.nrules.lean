/-! rules over small whole numbers, by program -/
section NRU
variable {i pc : Nat} {lc : a_Lc} {st : List Value} {h : a_Hp} {Q : Option Value → a_Hp → Prop} {n a b : Nat} {v : Int32} {x y : Nat} {z : Int}
theorem x_ieqN (hx : x < 2147483648) (hy : y < 2147483648) (hi : a_ins i pc = some (.if_icmp .eq z, n, a, b, v)) (H : (x = y → a_Ex i a lc st h Q) ∧ (¬ x = y → a_Ex i (pc + n) lc st h Q)) : a_Ex i pc lc (.int (N y) :: .int (N x) :: st) h Q := x_ieq hi (by rw [N_inj hx hy]; exact H)
theorem x_ineN (hx : x < 2147483648) (hy : y < 2147483648) (hi : a_ins i pc = some (.if_icmp .ne z, n, a, b, v)) (H : (¬ x = y → a_Ex i a lc st h Q) ∧ (x = y → a_Ex i (pc + n) lc st h Q)) : a_Ex i pc lc (.int (N y) :: .int (N x) :: st) h Q := x_ine hi (by rw [N_inj hx hy]; exact H)
theorem x_iltN (hx : x < 2147483648) (hy : y < 2147483648) (hi : a_ins i pc = some (.if_icmp .lt z, n, a, b, v)) (H : (x < y → a_Ex i a lc st h Q) ∧ (¬ x < y → a_Ex i (pc + n) lc st h Q)) : a_Ex i pc lc (.int (N y) :: .int (N x) :: st) h Q := x_ilt hi (by rw [N_lt hx hy]; exact H)
theorem x_igeN (hx : x < 2147483648) (hy : y < 2147483648) (hi : a_ins i pc = some (.if_icmp .ge z, n, a, b, v)) (H : (y ≤ x → a_Ex i a lc st h Q) ∧ (¬ y ≤ x → a_Ex i (pc + n) lc st h Q)) : a_Ex i pc lc (.int (N y) :: .int (N x) :: st) h Q := x_ige hi (by rw [N_le hy hx]; exact H)
theorem x_igtN (hx : x < 2147483648) (hy : y < 2147483648) (hi : a_ins i pc = some (.if_icmp .gt z, n, a, b, v)) (H : (y < x → a_Ex i a lc st h Q) ∧ (¬ y < x → a_Ex i (pc + n) lc st h Q)) : a_Ex i pc lc (.int (N y) :: .int (N x) :: st) h Q := x_igt hi (by rw [N_lt hy hx]; exact H)
theorem x_ileN (hx : x < 2147483648) (hy : y < 2147483648) (hi : a_ins i pc = some (.if_icmp .le z, n, a, b, v)) (H : (x ≤ y → a_Ex i a lc st h Q) ∧ (¬ x ≤ y → a_Ex i (pc + n) lc st h Q)) : a_Ex i pc lc (.int (N y) :: .int (N x) :: st) h Q := x_ile hi (by rw [N_le hx hy]; exact H)
theorem x_zeqN (hx : x < 2147483648) (hi : a_ins i pc = some (.ifCond .eq z, n, a, b, v)) (H : (x = 0 → a_Ex i a lc st h Q) ∧ (¬ x = 0 → a_Ex i (pc + n) lc st h Q)) : a_Ex i pc lc (.int (N x) :: st) h Q := x_zeq hi (by rw [nN 0, N_inj hx (by omega)]; exact H)
theorem x_zneN (hx : x < 2147483648) (hi : a_ins i pc = some (.ifCond .ne z, n, a, b, v)) (H : (¬ x = 0 → a_Ex i a lc st h Q) ∧ (x = 0 → a_Ex i (pc + n) lc st h Q)) : a_Ex i pc lc (.int (N x) :: st) h Q := x_zne hi (by rw [nN 0, N_inj hx (by omega)]; exact H)
theorem x_zgtN (hx : x < 2147483648) (hi : a_ins i pc = some (.ifCond .gt z, n, a, b, v)) (H : (0 < x → a_Ex i a lc st h Q) ∧ (¬ 0 < x → a_Ex i (pc + n) lc st h Q)) : a_Ex i pc lc (.int (N x) :: st) h Q := x_zgt hi (by rw [nN 0, N_lt (by omega) hx]; exact H)
theorem x_zleN (hx : x < 2147483648) (hi : a_ins i pc = some (.ifCond .le z, n, a, b, v)) (H : (x ≤ 0 → a_Ex i a lc st h Q) ∧ (¬ x ≤ 0 → a_Ex i (pc + n) lc st h Q)) : a_Ex i pc lc (.int (N x) :: st) h Q := x_zle hi (by rw [nN 0, N_le hx (by omega)]; exact H)
theorem x_zltN (hx : x < 2147483648) (hi : a_ins i pc = some (.ifCond .lt z, n, a, b, v)) (H : a_Ex i (pc + n) lc st h Q) : a_Ex i pc lc (.int (N x) :: st) h Q := x_zlt hi ⟨fun g => by rw [nN 0, N_lt hx (by omega)] at g; omega, fun _ => H⟩
theorem x_zgeN (hx : x < 2147483648) (hi : a_ins i pc = some (.ifCond .ge z, n, a, b, v)) (H : a_Ex i a lc st h Q) : a_Ex i pc lc (.int (N x) :: st) h Q := x_zge hi ⟨fun _ => H, fun g => absurd (by rw [nN 0, N_le (by omega) hx]; omega) g⟩
theorem x_iandN (hi : a_ins i pc = some (.iand, n, a, b, v)) (k : a_Ex i (pc + n) lc (.int (N (x &&& y)) :: st) h Q) : a_Ex i pc lc (.int (N y) :: .int (N x) :: st) h Q := x_iand hi (by rw [N_and]; exact k)
theorem x_iorN (hi : a_ins i pc = some (.ior, n, a, b, v)) (k : a_Ex i (pc + n) lc (.int (N (x ||| y)) :: st) h Q) : a_Ex i pc lc (.int (N y) :: .int (N x) :: st) h Q := x_ior hi (by rw [N_or]; exact k)
theorem x_ixorN (hi : a_ins i pc = some (.ixor, n, a, b, v)) (k : a_Ex i (pc + n) lc (.int (N (x ^^^ y)) :: st) h Q) : a_Ex i pc lc (.int (N y) :: .int (N x) :: st) h Q := x_ixor hi (by rw [N_xor]; exact k)
theorem x_iaddN (hi : a_ins i pc = some (.iadd, n, a, b, v)) (k : a_Ex i (pc + n) lc (.int (N (x + y)) :: st) h Q) : a_Ex i pc lc (.int (N y) :: .int (N x) :: st) h Q := x_iadd hi (by rw [N_add]; exact k)
theorem x_imulN (hi : a_ins i pc = some (.imul, n, a, b, v)) (k : a_Ex i (pc + n) lc (.int (N (x * y)) :: st) h Q) : a_Ex i pc lc (.int (N y) :: .int (N x) :: st) h Q := x_imul hi (by rw [N_mul]; exact k)
theorem x_isubN (hl : y ≤ x) (hi : a_ins i pc = some (.isub, n, a, b, v)) (k : a_Ex i (pc + n) lc (.int (N (x - y)) :: st) h Q) : a_Ex i pc lc (.int (N y) :: .int (N x) :: st) h Q := x_isub hi (by rw [N_sub hl]; exact k)
theorem x_ishlN (hy : y < 32) (hi : a_ins i pc = some (.ishl, n, a, b, v)) (k : a_Ex i (pc + n) lc (.int (N (x <<< y)) :: st) h Q) : a_Ex i pc lc (.int (N y) :: .int (N x) :: st) h Q := x_ishl hi (by rw [nN 31, N_31 hy, N_shl hy]; exact k)
theorem x_ishrN (hx : x < 2147483648) (hy : y < 32) (hi : a_ins i pc = some (.ishr, n, a, b, v)) (k : a_Ex i (pc + n) lc (.int (N (x >>> y)) :: st) h Q) : a_Ex i pc lc (.int (N y) :: .int (N x) :: st) h Q := x_ishr hi (by rw [nN 31, N_31 hy, N_shr hx hy]; exact k)
theorem N_rem (hx : x < 2147483648) (hy : y < 2147483648) : N x - N x / N y * N y = N (x % y) := by
  rw [N_div hx hy, N_mul, N_sub (Nat.div_mul_le_self x y)]
  congr 1
  have := Nat.div_add_mod x y
  rw [Nat.mul_comm] at this
  omega
theorem x_idivN (hx : x < 2147483648) (hy : y < 2147483648) (h0 : 0 < y) (hi : a_ins i pc = some (.idiv, n, a, b, v)) (k : a_Ex i (pc + n) lc (.int (N (x / y)) :: st) h Q) : a_Ex i pc lc (.int (N y) :: .int (N x) :: st) h Q := x_idiv hi (by rw [nN 0, N_inj hy (by omega)]; omega) (by rw [N_div hx hy]; exact k)
theorem x_iremN (hx : x < 2147483648) (hy : y < 2147483648) (h0 : 0 < y) (hi : a_ins i pc = some (.irem, n, a, b, v)) (k : a_Ex i (pc + n) lc (.int (N (x % y)) :: st) h Q) : a_Ex i pc lc (.int (N y) :: .int (N x) :: st) h Q := x_irem hi (by rw [nN 0, N_inj hy (by omega)]; omega) (by rw [N_rem hx hy]; exact k)
end NRU
