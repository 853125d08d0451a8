/-! the whole search in the abstract: how many stands, how far -/
def cnt2 (p : Nat → Bool) : Nat → Nat → Nat
  | 0, lo => if p lo = true then 1 else 0
  | k + 1, lo => cnt2 p k lo + cnt2 p k (lo + 2 ^ k)
/-- stands as the invariant lets them be -/
def qb (n c : Nat) : Bool := if n = 2 then Nat.ble (c + 1) 4608 && (Nat.ble (c / 16 % 8) 3 && Nat.ble (c / 4 % 4) 1) else
  Nat.ble (c + 1) 27648 && (match c % 4 with
    | 0 => Nat.beq (c / 16 % 2) 1 && Nat.beq (c / 128 / 36) 0
    | 1 => Nat.beq (c / 16 % 2) 1 && Nat.beq (c / 128 / 36) 1 && !Nat.beq (c / 128 / 6 % 6) 0 && !Nat.beq (c / 128 % 6) 0
    | 2 => Nat.beq (c / 16 % 2) 1 && Nat.beq (c / 128 / 36) 2
    | _ => !Nat.beq (c / 16 % 2) 1 || Nat.beq (c / 128 / 36) 2 || Nat.beq (c / 128 / 36) 4 || Nat.beq (c / 128 / 36) 5) && (match c / 128 / 36 with
    | 0 => (Nat.beq (c / 128 / 6 % 6) 0 || Nat.beq (c / 128 / 6 % 6) 3 || Nat.beq (c / 128 / 6 % 6) 5) && (Nat.beq (c / 128 % 6) 0 || Nat.beq (c / 128 % 6) 3 || Nat.beq (c / 128 % 6) 5)
    | 1 => !(Nat.beq (c / 128 / 6 % 6) 2 || Nat.beq (c / 128 / 6 % 6) 4 || Nat.beq (c / 128 % 6) 2 || Nat.beq (c / 128 % 6) 4)
    | 3 => !(Nat.beq (c / 128 / 6 % 6) 2 || Nat.beq (c / 128 / 6 % 6) 4 || Nat.beq (c / 128 % 6) 2 || Nat.beq (c / 128 % 6) 4)
    | 2 => !(Nat.beq (c / 128 / 6 % 6) 0 || Nat.beq (c / 128 % 6) 0)
    | 4 => !(Nat.beq (c / 128 / 6 % 6) 0 || Nat.beq (c / 128 % 6) 0)
    | _ => !(Nat.beq (c / 128 / 6 % 6) 0 || Nat.beq (c / 128 % 6) 0) || !(Nat.beq (c / 128 / 6 % 6) 2 || Nat.beq (c / 128 / 6 % 6) 4 || Nat.beq (c / 128 % 6) 2 || Nat.beq (c / 128 % 6) 4))
theorem qb_2 : cnt2 (qb 2) 15 0 ≤ 1152 := by decide +kernel
theorem qb_3 : cnt2 (qb 3) 15 0 ≤ 3968 := by decide +kernel
