/-! THE TABLES HOLD: every row is what its bytes decode to, every link is a word of the tables -/
def a_own (i : Nat) : Nat := match a_ms[i]? with | some q => q.2.2.2.2.1 | none => 99
def a_key3 (o x : Nat) (l : List (Nat × Nat × Nat)) : Option Nat := (l.find? (fun q => Nat.beq q.1 o && Nat.beq q.2.1 x)).map (·.2.2)
def a_key4 (o x : Nat) (l : List (Nat × Nat × Nat × Nat)) : Option (Nat × Nat) := (l.find? (fun q => Nat.beq q.1 o && Nat.beq q.2.1 x)).map (·.2.2)
def a_key2 (o x : Nat) (l : List (Nat × Nat)) : Bool := l.any (fun q => Nat.beq q.1 o && Nat.beq q.2 x)
def a_keyc (o x : Nat) (l : List (Nat × Nat × Int32)) : Option Int32 := (l.find? (fun q => Nat.beq q.1 o && Nat.beq q.2.1 x)).map (·.2.2)
def a_nm (i : Nat) : String := match a_ms[i]? with | some q => q.1.name | none => ""
/-- what a row must say of its instruction -/
def a_say (i pc : Nat) (ins : Instr) (n a b : Nat) (v : Int32) : Bool := match ins with
  | .iconst k => n == 1 && Int32.ofInt k == v
  | .bipush k => n == 2 && (Int8.ofInt k).toInt32 == v
  | .sipush k => n == 3 && (Int16.ofInt k).toInt32 == v
  | .lconst k => n == 1 && Int64.ofNat (k : Nat) == v.toInt64
  | .ldc x => n == 2 && (if a = 0 then a_keyc (a_own i) x a_cst == some v else match a_str[b]? with | some q => q.1 == a_own i && q.2.1 == x | none => false)
  | .ldc_w x => n == 3 && (if a = 0 then a_keyc (a_own i) x a_cst == some v else match a_str[b]? with | some q => q.1 == a_own i && q.2.1 == x | none => false)
  | .ldc2_w x => n == 3 && a_keyc (a_own i) x a_cstl == some v
  | .iload _ | .lload _ | .aload _ | .istore _ | .astore _ => n == 2
  | .iload_n _ | .lload_n _ | .aload_n _ | .istore_n _ | .astore_n _ => n == 1
  | .iaload | .baload | .aaload | .iastore | .bastore | .aastore | .pop | .dup | .dup2 | .iadd | .isub | .imul | .idiv | .irem | .ishl | .ishr | .iushr | .iand | .ior | .ixor | .i2l | .i2b | .i2c | .lcmp | .arraylength | .ireturn | .areturn | .return_ => n == 1
  | .iinc _ k => n == 3 && Int32.ofInt k == v
  | .ifCond _ off => n == 3 && (pc : Int) + off == (a : Int)
  | .if_icmp _ off => n == 3 && (pc : Int) + off == (a : Int)
  | .goto off => n == 3 && (pc : Int) + off == (a : Int)
  | .tableswitch d _ _ os => decide (0 ≤ (pc : Int) + d) && os.toList.all (fun o => decide (0 ≤ (pc : Int) + o))
  | .lookupswitch d ps => decide (0 ≤ (pc : Int) + d) && ps.toList.all (fun o => decide (0 ≤ (pc : Int) + o.2)) && (ps.toList.zip (ps.toList.drop 1)).all (fun (x, next) => x.1 < next.1)
  | .getstatic x => n == 3 && a_key3 (a_own i) x a_sl == some a && (a == 1 || v == 1)
  | .getfield x => n == 3 && (if a = 9 then a_key3 (a_own i) x a_sf == some b else a_key4 (a_own i) x a_fl == some (a, b))
  | .putfield x => n == 3 && a_key4 (a_own i) x a_fl == some (a, b) && (!(a_T a b).2.2.2 || (a_nm i == "<init>" && a_own i == a))
  | .invokevirtual x => n == 3 && (a == 999 || a_key3 (a_own i) x a_mlv == some a)
  | .invokestatic x => n == 3 && (a == 999 || (if a = 1001 then a_key2 (a_own i) x a_ac else a_key3 (a_own i) x a_mls == some a))
  | .invokespecial x => n == 3 && (a == 999 || (if a = 1000 then a_key2 (a_own i) x a_oi else a_key3 (a_own i) x a_mli == some a))
  | .new x => n == 3 && a_key3 (a_own i) x a_cll == some a
  | .newarray t => n == 2 && (match t with | .int => a == 0 | .byte => a == 1 | .boolean => a == 2 | _ => false)
  | .anewarray x => n == 3 && a_key3 (a_own i) x a_cll == some 1
  | _ => true
def a_bytes (i : Nat) : ByteArray := match a_ms[i]? with | some q => q.2.1 | none => ⟨#[]⟩
def a_rowok (i : Nat) (r : Nat × a_Rw) : Bool := decide (decode (a_bytes i) r.1 = .ok (r.2.1, r.2.2.1)) && a_say i r.1 r.2.1 r.2.2.1 r.2.2.2.1 r.2.2.2.2.1 r.2.2.2.2.2
theorem a_all20 {α : Type} {p : α → Bool} {L : List α} (K : Nat) (hK : L.length ≤ 20 * K) (h : ∀ j, j < K → ((L.drop (20 * j)).take 20).all p = true) : ∀ x ∈ L, p x = true := by
  intro x hx
  obtain ⟨n, hn⟩ := List.getElem?_of_mem hx
  have hl : n < L.length := (List.getElem?_eq_some_iff.mp hn).1
  have h1 := List.all_eq_true.mp (h (n / 20) (by omega)) x
  refine h1 (List.mem_of_getElem? (i := n % 20) ?_)
  rw [List.getElem?_take_of_lt (by omega), List.getElem?_drop]
  rw [show 20 * (n / 20) + n % 20 = n by omega]
  exact hn
theorem a_ok0_0 : ((a_c0.drop (20 * 0)).take 20).all (a_rowok 0) = true := by decide +kernel
theorem a_ok0_1 : ((a_c0.drop (20 * 1)).take 20).all (a_rowok 0) = true := by decide +kernel
theorem a_ok0_2 : ((a_c0.drop (20 * 2)).take 20).all (a_rowok 0) = true := by decide +kernel
theorem a_ok0_3 : ((a_c0.drop (20 * 3)).take 20).all (a_rowok 0) = true := by decide +kernel
set_option maxRecDepth 100000 in
theorem a_ok0 : ∀ r ∈ a_c0, a_rowok 0 r = true := a_all20 4 (Nat.le_of_ble_eq_true rfl) (fun j hj => by
  match j, hj with
  | 0, _ => exact a_ok0_0
  | 1, _ => exact a_ok0_1
  | 2, _ => exact a_ok0_2
  | 3, _ => exact a_ok0_3
  | j + 4, h => exact absurd h (by omega))
theorem a_ok1_0 : ((a_c1.drop (20 * 0)).take 20).all (a_rowok 1) = true := by decide +kernel
theorem a_ok1_1 : ((a_c1.drop (20 * 1)).take 20).all (a_rowok 1) = true := by decide +kernel
set_option maxRecDepth 100000 in
theorem a_ok1 : ∀ r ∈ a_c1, a_rowok 1 r = true := a_all20 2 (Nat.le_of_ble_eq_true rfl) (fun j hj => by
  match j, hj with
  | 0, _ => exact a_ok1_0
  | 1, _ => exact a_ok1_1
  | j + 2, h => exact absurd h (by omega))
theorem a_ok2_0 : ((a_c2.drop (20 * 0)).take 20).all (a_rowok 2) = true := by decide +kernel
set_option maxRecDepth 100000 in
theorem a_ok2 : ∀ r ∈ a_c2, a_rowok 2 r = true := a_all20 1 (Nat.le_of_ble_eq_true rfl) (fun j hj => by
  match j, hj with
  | 0, _ => exact a_ok2_0
  | j + 1, h => exact absurd h (by omega))
theorem a_ok3_0 : ((a_c3.drop (20 * 0)).take 20).all (a_rowok 3) = true := by decide +kernel
set_option maxRecDepth 100000 in
theorem a_ok3 : ∀ r ∈ a_c3, a_rowok 3 r = true := a_all20 1 (Nat.le_of_ble_eq_true rfl) (fun j hj => by
  match j, hj with
  | 0, _ => exact a_ok3_0
  | j + 1, h => exact absurd h (by omega))
theorem a_ok4_0 : ((a_c4.drop (20 * 0)).take 20).all (a_rowok 4) = true := by decide +kernel
set_option maxRecDepth 100000 in
theorem a_ok4 : ∀ r ∈ a_c4, a_rowok 4 r = true := a_all20 1 (Nat.le_of_ble_eq_true rfl) (fun j hj => by
  match j, hj with
  | 0, _ => exact a_ok4_0
  | j + 1, h => exact absurd h (by omega))
theorem a_ok5_0 : ((a_c5.drop (20 * 0)).take 20).all (a_rowok 5) = true := by decide +kernel
set_option maxRecDepth 100000 in
theorem a_ok5 : ∀ r ∈ a_c5, a_rowok 5 r = true := a_all20 1 (Nat.le_of_ble_eq_true rfl) (fun j hj => by
  match j, hj with
  | 0, _ => exact a_ok5_0
  | j + 1, h => exact absurd h (by omega))
theorem a_ok6_0 : ((a_c6.drop (20 * 0)).take 20).all (a_rowok 6) = true := by decide +kernel
set_option maxRecDepth 100000 in
theorem a_ok6 : ∀ r ∈ a_c6, a_rowok 6 r = true := a_all20 1 (Nat.le_of_ble_eq_true rfl) (fun j hj => by
  match j, hj with
  | 0, _ => exact a_ok6_0
  | j + 1, h => exact absurd h (by omega))
theorem a_ok7_0 : ((a_c7.drop (20 * 0)).take 20).all (a_rowok 7) = true := by decide +kernel
set_option maxRecDepth 100000 in
theorem a_ok7 : ∀ r ∈ a_c7, a_rowok 7 r = true := a_all20 1 (Nat.le_of_ble_eq_true rfl) (fun j hj => by
  match j, hj with
  | 0, _ => exact a_ok7_0
  | j + 1, h => exact absurd h (by omega))
theorem a_ok8_0 : ((a_c8.drop (20 * 0)).take 20).all (a_rowok 8) = true := by decide +kernel
set_option maxRecDepth 100000 in
theorem a_ok8 : ∀ r ∈ a_c8, a_rowok 8 r = true := a_all20 1 (Nat.le_of_ble_eq_true rfl) (fun j hj => by
  match j, hj with
  | 0, _ => exact a_ok8_0
  | j + 1, h => exact absurd h (by omega))
theorem a_ok9_0 : ((a_c9.drop (20 * 0)).take 20).all (a_rowok 9) = true := by decide +kernel
set_option maxRecDepth 100000 in
theorem a_ok9 : ∀ r ∈ a_c9, a_rowok 9 r = true := a_all20 1 (Nat.le_of_ble_eq_true rfl) (fun j hj => by
  match j, hj with
  | 0, _ => exact a_ok9_0
  | j + 1, h => exact absurd h (by omega))
theorem a_ok10_0 : ((a_c10.drop (20 * 0)).take 20).all (a_rowok 10) = true := by decide +kernel
set_option maxRecDepth 100000 in
theorem a_ok10 : ∀ r ∈ a_c10, a_rowok 10 r = true := a_all20 1 (Nat.le_of_ble_eq_true rfl) (fun j hj => by
  match j, hj with
  | 0, _ => exact a_ok10_0
  | j + 1, h => exact absurd h (by omega))
theorem a_ok11_0 : ((a_c11.drop (20 * 0)).take 20).all (a_rowok 11) = true := by decide +kernel
set_option maxRecDepth 100000 in
theorem a_ok11 : ∀ r ∈ a_c11, a_rowok 11 r = true := a_all20 1 (Nat.le_of_ble_eq_true rfl) (fun j hj => by
  match j, hj with
  | 0, _ => exact a_ok11_0
  | j + 1, h => exact absurd h (by omega))
theorem a_ok12_0 : ((a_c12.drop (20 * 0)).take 20).all (a_rowok 12) = true := by decide +kernel
set_option maxRecDepth 100000 in
theorem a_ok12 : ∀ r ∈ a_c12, a_rowok 12 r = true := a_all20 1 (Nat.le_of_ble_eq_true rfl) (fun j hj => by
  match j, hj with
  | 0, _ => exact a_ok12_0
  | j + 1, h => exact absurd h (by omega))
theorem a_ok13_0 : ((a_c13.drop (20 * 0)).take 20).all (a_rowok 13) = true := by decide +kernel
set_option maxRecDepth 100000 in
theorem a_ok13 : ∀ r ∈ a_c13, a_rowok 13 r = true := a_all20 1 (Nat.le_of_ble_eq_true rfl) (fun j hj => by
  match j, hj with
  | 0, _ => exact a_ok13_0
  | j + 1, h => exact absurd h (by omega))
theorem a_ok14_0 : ((a_c14.drop (20 * 0)).take 20).all (a_rowok 14) = true := by decide +kernel
theorem a_ok14_1 : ((a_c14.drop (20 * 1)).take 20).all (a_rowok 14) = true := by decide +kernel
theorem a_ok14_2 : ((a_c14.drop (20 * 2)).take 20).all (a_rowok 14) = true := by decide +kernel
set_option maxRecDepth 100000 in
theorem a_ok14 : ∀ r ∈ a_c14, a_rowok 14 r = true := a_all20 3 (Nat.le_of_ble_eq_true rfl) (fun j hj => by
  match j, hj with
  | 0, _ => exact a_ok14_0
  | 1, _ => exact a_ok14_1
  | 2, _ => exact a_ok14_2
  | j + 3, h => exact absurd h (by omega))
theorem a_ok15_0 : ((a_c15.drop (20 * 0)).take 20).all (a_rowok 15) = true := by decide +kernel
theorem a_ok15_1 : ((a_c15.drop (20 * 1)).take 20).all (a_rowok 15) = true := by decide +kernel
set_option maxRecDepth 100000 in
theorem a_ok15 : ∀ r ∈ a_c15, a_rowok 15 r = true := a_all20 2 (Nat.le_of_ble_eq_true rfl) (fun j hj => by
  match j, hj with
  | 0, _ => exact a_ok15_0
  | 1, _ => exact a_ok15_1
  | j + 2, h => exact absurd h (by omega))
theorem a_ok16_0 : ((a_c16.drop (20 * 0)).take 20).all (a_rowok 16) = true := by decide +kernel
theorem a_ok16_1 : ((a_c16.drop (20 * 1)).take 20).all (a_rowok 16) = true := by decide +kernel
set_option maxRecDepth 100000 in
theorem a_ok16 : ∀ r ∈ a_c16, a_rowok 16 r = true := a_all20 2 (Nat.le_of_ble_eq_true rfl) (fun j hj => by
  match j, hj with
  | 0, _ => exact a_ok16_0
  | 1, _ => exact a_ok16_1
  | j + 2, h => exact absurd h (by omega))
theorem a_ok17_0 : ((a_c17.drop (20 * 0)).take 20).all (a_rowok 17) = true := by decide +kernel
set_option maxRecDepth 100000 in
theorem a_ok17 : ∀ r ∈ a_c17, a_rowok 17 r = true := a_all20 1 (Nat.le_of_ble_eq_true rfl) (fun j hj => by
  match j, hj with
  | 0, _ => exact a_ok17_0
  | j + 1, h => exact absurd h (by omega))
theorem a_ok18_0 : ((a_c18.drop (20 * 0)).take 20).all (a_rowok 18) = true := by decide +kernel
set_option maxRecDepth 100000 in
theorem a_ok18 : ∀ r ∈ a_c18, a_rowok 18 r = true := a_all20 1 (Nat.le_of_ble_eq_true rfl) (fun j hj => by
  match j, hj with
  | 0, _ => exact a_ok18_0
  | j + 1, h => exact absurd h (by omega))
theorem a_ok19_0 : ((a_c19.drop (20 * 0)).take 20).all (a_rowok 19) = true := by decide +kernel
theorem a_ok19_1 : ((a_c19.drop (20 * 1)).take 20).all (a_rowok 19) = true := by decide +kernel
set_option maxRecDepth 100000 in
theorem a_ok19 : ∀ r ∈ a_c19, a_rowok 19 r = true := a_all20 2 (Nat.le_of_ble_eq_true rfl) (fun j hj => by
  match j, hj with
  | 0, _ => exact a_ok19_0
  | 1, _ => exact a_ok19_1
  | j + 2, h => exact absurd h (by omega))
theorem a_ok20_0 : ((a_c20.drop (20 * 0)).take 20).all (a_rowok 20) = true := by decide +kernel
theorem a_ok20_1 : ((a_c20.drop (20 * 1)).take 20).all (a_rowok 20) = true := by decide +kernel
theorem a_ok20_2 : ((a_c20.drop (20 * 2)).take 20).all (a_rowok 20) = true := by decide +kernel
set_option maxRecDepth 100000 in
theorem a_ok20 : ∀ r ∈ a_c20, a_rowok 20 r = true := a_all20 3 (Nat.le_of_ble_eq_true rfl) (fun j hj => by
  match j, hj with
  | 0, _ => exact a_ok20_0
  | 1, _ => exact a_ok20_1
  | 2, _ => exact a_ok20_2
  | j + 3, h => exact absurd h (by omega))
theorem a_ok21_0 : ((a_c21.drop (20 * 0)).take 20).all (a_rowok 21) = true := by decide +kernel
theorem a_ok21_1 : ((a_c21.drop (20 * 1)).take 20).all (a_rowok 21) = true := by decide +kernel
theorem a_ok21_2 : ((a_c21.drop (20 * 2)).take 20).all (a_rowok 21) = true := by decide +kernel
set_option maxRecDepth 100000 in
theorem a_ok21 : ∀ r ∈ a_c21, a_rowok 21 r = true := a_all20 3 (Nat.le_of_ble_eq_true rfl) (fun j hj => by
  match j, hj with
  | 0, _ => exact a_ok21_0
  | 1, _ => exact a_ok21_1
  | 2, _ => exact a_ok21_2
  | j + 3, h => exact absurd h (by omega))
theorem a_ok22_0 : ((a_c22.drop (20 * 0)).take 20).all (a_rowok 22) = true := by decide +kernel
theorem a_ok22_1 : ((a_c22.drop (20 * 1)).take 20).all (a_rowok 22) = true := by decide +kernel
theorem a_ok22_2 : ((a_c22.drop (20 * 2)).take 20).all (a_rowok 22) = true := by decide +kernel
set_option maxRecDepth 100000 in
theorem a_ok22 : ∀ r ∈ a_c22, a_rowok 22 r = true := a_all20 3 (Nat.le_of_ble_eq_true rfl) (fun j hj => by
  match j, hj with
  | 0, _ => exact a_ok22_0
  | 1, _ => exact a_ok22_1
  | 2, _ => exact a_ok22_2
  | j + 3, h => exact absurd h (by omega))
theorem a_ok23_0 : ((a_c23.drop (20 * 0)).take 20).all (a_rowok 23) = true := by decide +kernel
theorem a_ok23_1 : ((a_c23.drop (20 * 1)).take 20).all (a_rowok 23) = true := by decide +kernel
theorem a_ok23_2 : ((a_c23.drop (20 * 2)).take 20).all (a_rowok 23) = true := by decide +kernel
set_option maxRecDepth 100000 in
theorem a_ok23 : ∀ r ∈ a_c23, a_rowok 23 r = true := a_all20 3 (Nat.le_of_ble_eq_true rfl) (fun j hj => by
  match j, hj with
  | 0, _ => exact a_ok23_0
  | 1, _ => exact a_ok23_1
  | 2, _ => exact a_ok23_2
  | j + 3, h => exact absurd h (by omega))
theorem a_ok24_0 : ((a_c24.drop (20 * 0)).take 20).all (a_rowok 24) = true := by decide +kernel
theorem a_ok24_1 : ((a_c24.drop (20 * 1)).take 20).all (a_rowok 24) = true := by decide +kernel
theorem a_ok24_2 : ((a_c24.drop (20 * 2)).take 20).all (a_rowok 24) = true := by decide +kernel
theorem a_ok24_3 : ((a_c24.drop (20 * 3)).take 20).all (a_rowok 24) = true := by decide +kernel
set_option maxRecDepth 100000 in
theorem a_ok24 : ∀ r ∈ a_c24, a_rowok 24 r = true := a_all20 4 (Nat.le_of_ble_eq_true rfl) (fun j hj => by
  match j, hj with
  | 0, _ => exact a_ok24_0
  | 1, _ => exact a_ok24_1
  | 2, _ => exact a_ok24_2
  | 3, _ => exact a_ok24_3
  | j + 4, h => exact absurd h (by omega))
theorem a_ok25_0 : ((a_c25.drop (20 * 0)).take 20).all (a_rowok 25) = true := by decide +kernel
set_option maxRecDepth 100000 in
theorem a_ok25 : ∀ r ∈ a_c25, a_rowok 25 r = true := a_all20 1 (Nat.le_of_ble_eq_true rfl) (fun j hj => by
  match j, hj with
  | 0, _ => exact a_ok25_0
  | j + 1, h => exact absurd h (by omega))
theorem a_ok26_0 : ((a_c26.drop (20 * 0)).take 20).all (a_rowok 26) = true := by decide +kernel
theorem a_ok26_1 : ((a_c26.drop (20 * 1)).take 20).all (a_rowok 26) = true := by decide +kernel
set_option maxRecDepth 100000 in
theorem a_ok26 : ∀ r ∈ a_c26, a_rowok 26 r = true := a_all20 2 (Nat.le_of_ble_eq_true rfl) (fun j hj => by
  match j, hj with
  | 0, _ => exact a_ok26_0
  | 1, _ => exact a_ok26_1
  | j + 2, h => exact absurd h (by omega))
theorem a_ok27_0 : ((a_c27.drop (20 * 0)).take 20).all (a_rowok 27) = true := by decide +kernel
theorem a_ok27_1 : ((a_c27.drop (20 * 1)).take 20).all (a_rowok 27) = true := by decide +kernel
set_option maxRecDepth 100000 in
theorem a_ok27 : ∀ r ∈ a_c27, a_rowok 27 r = true := a_all20 2 (Nat.le_of_ble_eq_true rfl) (fun j hj => by
  match j, hj with
  | 0, _ => exact a_ok27_0
  | 1, _ => exact a_ok27_1
  | j + 2, h => exact absurd h (by omega))
theorem a_ok28_0 : ((a_c28.drop (20 * 0)).take 20).all (a_rowok 28) = true := by decide +kernel
theorem a_ok28_1 : ((a_c28.drop (20 * 1)).take 20).all (a_rowok 28) = true := by decide +kernel
set_option maxRecDepth 100000 in
theorem a_ok28 : ∀ r ∈ a_c28, a_rowok 28 r = true := a_all20 2 (Nat.le_of_ble_eq_true rfl) (fun j hj => by
  match j, hj with
  | 0, _ => exact a_ok28_0
  | 1, _ => exact a_ok28_1
  | j + 2, h => exact absurd h (by omega))
theorem a_ok29_0 : ((a_c29.drop (20 * 0)).take 20).all (a_rowok 29) = true := by decide +kernel
theorem a_ok29_1 : ((a_c29.drop (20 * 1)).take 20).all (a_rowok 29) = true := by decide +kernel
theorem a_ok29_2 : ((a_c29.drop (20 * 2)).take 20).all (a_rowok 29) = true := by decide +kernel
set_option maxRecDepth 100000 in
theorem a_ok29 : ∀ r ∈ a_c29, a_rowok 29 r = true := a_all20 3 (Nat.le_of_ble_eq_true rfl) (fun j hj => by
  match j, hj with
  | 0, _ => exact a_ok29_0
  | 1, _ => exact a_ok29_1
  | 2, _ => exact a_ok29_2
  | j + 3, h => exact absurd h (by omega))
theorem a_ok30_0 : ((a_c30.drop (20 * 0)).take 20).all (a_rowok 30) = true := by decide +kernel
theorem a_ok30_1 : ((a_c30.drop (20 * 1)).take 20).all (a_rowok 30) = true := by decide +kernel
set_option maxRecDepth 100000 in
theorem a_ok30 : ∀ r ∈ a_c30, a_rowok 30 r = true := a_all20 2 (Nat.le_of_ble_eq_true rfl) (fun j hj => by
  match j, hj with
  | 0, _ => exact a_ok30_0
  | 1, _ => exact a_ok30_1
  | j + 2, h => exact absurd h (by omega))
theorem a_ok31_0 : ((a_c31.drop (20 * 0)).take 20).all (a_rowok 31) = true := by decide +kernel
theorem a_ok31_1 : ((a_c31.drop (20 * 1)).take 20).all (a_rowok 31) = true := by decide +kernel
set_option maxRecDepth 100000 in
theorem a_ok31 : ∀ r ∈ a_c31, a_rowok 31 r = true := a_all20 2 (Nat.le_of_ble_eq_true rfl) (fun j hj => by
  match j, hj with
  | 0, _ => exact a_ok31_0
  | 1, _ => exact a_ok31_1
  | j + 2, h => exact absurd h (by omega))
theorem a_ok32_0 : ((a_c32.drop (20 * 0)).take 20).all (a_rowok 32) = true := by decide +kernel
theorem a_ok32_1 : ((a_c32.drop (20 * 1)).take 20).all (a_rowok 32) = true := by decide +kernel
set_option maxRecDepth 100000 in
theorem a_ok32 : ∀ r ∈ a_c32, a_rowok 32 r = true := a_all20 2 (Nat.le_of_ble_eq_true rfl) (fun j hj => by
  match j, hj with
  | 0, _ => exact a_ok32_0
  | 1, _ => exact a_ok32_1
  | j + 2, h => exact absurd h (by omega))
theorem a_ok33_0 : ((a_c33.drop (20 * 0)).take 20).all (a_rowok 33) = true := by decide +kernel
theorem a_ok33_1 : ((a_c33.drop (20 * 1)).take 20).all (a_rowok 33) = true := by decide +kernel
set_option maxRecDepth 100000 in
theorem a_ok33 : ∀ r ∈ a_c33, a_rowok 33 r = true := a_all20 2 (Nat.le_of_ble_eq_true rfl) (fun j hj => by
  match j, hj with
  | 0, _ => exact a_ok33_0
  | 1, _ => exact a_ok33_1
  | j + 2, h => exact absurd h (by omega))
theorem a_ok34_0 : ((a_c34.drop (20 * 0)).take 20).all (a_rowok 34) = true := by decide +kernel
theorem a_ok34_1 : ((a_c34.drop (20 * 1)).take 20).all (a_rowok 34) = true := by decide +kernel
set_option maxRecDepth 100000 in
theorem a_ok34 : ∀ r ∈ a_c34, a_rowok 34 r = true := a_all20 2 (Nat.le_of_ble_eq_true rfl) (fun j hj => by
  match j, hj with
  | 0, _ => exact a_ok34_0
  | 1, _ => exact a_ok34_1
  | j + 2, h => exact absurd h (by omega))
theorem a_ok35_0 : ((a_c35.drop (20 * 0)).take 20).all (a_rowok 35) = true := by decide +kernel
theorem a_ok35_1 : ((a_c35.drop (20 * 1)).take 20).all (a_rowok 35) = true := by decide +kernel
theorem a_ok35_2 : ((a_c35.drop (20 * 2)).take 20).all (a_rowok 35) = true := by decide +kernel
set_option maxRecDepth 100000 in
theorem a_ok35 : ∀ r ∈ a_c35, a_rowok 35 r = true := a_all20 3 (Nat.le_of_ble_eq_true rfl) (fun j hj => by
  match j, hj with
  | 0, _ => exact a_ok35_0
  | 1, _ => exact a_ok35_1
  | 2, _ => exact a_ok35_2
  | j + 3, h => exact absurd h (by omega))
theorem a_ok36_0 : ((a_c36.drop (20 * 0)).take 20).all (a_rowok 36) = true := by decide +kernel
theorem a_ok36_1 : ((a_c36.drop (20 * 1)).take 20).all (a_rowok 36) = true := by decide +kernel
set_option maxRecDepth 100000 in
theorem a_ok36 : ∀ r ∈ a_c36, a_rowok 36 r = true := a_all20 2 (Nat.le_of_ble_eq_true rfl) (fun j hj => by
  match j, hj with
  | 0, _ => exact a_ok36_0
  | 1, _ => exact a_ok36_1
  | j + 2, h => exact absurd h (by omega))
theorem a_ok37_0 : ((a_c37.drop (20 * 0)).take 20).all (a_rowok 37) = true := by decide +kernel
theorem a_ok37_1 : ((a_c37.drop (20 * 1)).take 20).all (a_rowok 37) = true := by decide +kernel
theorem a_ok37_2 : ((a_c37.drop (20 * 2)).take 20).all (a_rowok 37) = true := by decide +kernel
set_option maxRecDepth 100000 in
theorem a_ok37 : ∀ r ∈ a_c37, a_rowok 37 r = true := a_all20 3 (Nat.le_of_ble_eq_true rfl) (fun j hj => by
  match j, hj with
  | 0, _ => exact a_ok37_0
  | 1, _ => exact a_ok37_1
  | 2, _ => exact a_ok37_2
  | j + 3, h => exact absurd h (by omega))
theorem a_ok38_0 : ((a_c38.drop (20 * 0)).take 20).all (a_rowok 38) = true := by decide +kernel
set_option maxRecDepth 100000 in
theorem a_ok38 : ∀ r ∈ a_c38, a_rowok 38 r = true := a_all20 1 (Nat.le_of_ble_eq_true rfl) (fun j hj => by
  match j, hj with
  | 0, _ => exact a_ok38_0
  | j + 1, h => exact absurd h (by omega))
theorem a_ok39_0 : ((a_c39.drop (20 * 0)).take 20).all (a_rowok 39) = true := by decide +kernel
set_option maxRecDepth 100000 in
theorem a_ok39 : ∀ r ∈ a_c39, a_rowok 39 r = true := a_all20 1 (Nat.le_of_ble_eq_true rfl) (fun j hj => by
  match j, hj with
  | 0, _ => exact a_ok39_0
  | j + 1, h => exact absurd h (by omega))
theorem a_ok40_0 : ((a_c40.drop (20 * 0)).take 20).all (a_rowok 40) = true := by decide +kernel
theorem a_ok40_1 : ((a_c40.drop (20 * 1)).take 20).all (a_rowok 40) = true := by decide +kernel
set_option maxRecDepth 100000 in
theorem a_ok40 : ∀ r ∈ a_c40, a_rowok 40 r = true := a_all20 2 (Nat.le_of_ble_eq_true rfl) (fun j hj => by
  match j, hj with
  | 0, _ => exact a_ok40_0
  | 1, _ => exact a_ok40_1
  | j + 2, h => exact absurd h (by omega))
theorem a_ok41_0 : ((a_c41.drop (20 * 0)).take 20).all (a_rowok 41) = true := by decide +kernel
set_option maxRecDepth 100000 in
theorem a_ok41 : ∀ r ∈ a_c41, a_rowok 41 r = true := a_all20 1 (Nat.le_of_ble_eq_true rfl) (fun j hj => by
  match j, hj with
  | 0, _ => exact a_ok41_0
  | j + 1, h => exact absurd h (by omega))
theorem a_ok42_0 : ((a_c42.drop (20 * 0)).take 20).all (a_rowok 42) = true := by decide +kernel
theorem a_ok42_1 : ((a_c42.drop (20 * 1)).take 20).all (a_rowok 42) = true := by decide +kernel
set_option maxRecDepth 100000 in
theorem a_ok42 : ∀ r ∈ a_c42, a_rowok 42 r = true := a_all20 2 (Nat.le_of_ble_eq_true rfl) (fun j hj => by
  match j, hj with
  | 0, _ => exact a_ok42_0
  | 1, _ => exact a_ok42_1
  | j + 2, h => exact absurd h (by omega))
theorem a_ok43_0 : ((a_c43.drop (20 * 0)).take 20).all (a_rowok 43) = true := by decide +kernel
theorem a_ok43_1 : ((a_c43.drop (20 * 1)).take 20).all (a_rowok 43) = true := by decide +kernel
set_option maxRecDepth 100000 in
theorem a_ok43 : ∀ r ∈ a_c43, a_rowok 43 r = true := a_all20 2 (Nat.le_of_ble_eq_true rfl) (fun j hj => by
  match j, hj with
  | 0, _ => exact a_ok43_0
  | 1, _ => exact a_ok43_1
  | j + 2, h => exact absurd h (by omega))
theorem a_ok44_0 : ((a_c44.drop (20 * 0)).take 20).all (a_rowok 44) = true := by decide +kernel
theorem a_ok44_1 : ((a_c44.drop (20 * 1)).take 20).all (a_rowok 44) = true := by decide +kernel
set_option maxRecDepth 100000 in
theorem a_ok44 : ∀ r ∈ a_c44, a_rowok 44 r = true := a_all20 2 (Nat.le_of_ble_eq_true rfl) (fun j hj => by
  match j, hj with
  | 0, _ => exact a_ok44_0
  | 1, _ => exact a_ok44_1
  | j + 2, h => exact absurd h (by omega))
theorem a_ok45_0 : ((a_c45.drop (20 * 0)).take 20).all (a_rowok 45) = true := by decide +kernel
theorem a_ok45_1 : ((a_c45.drop (20 * 1)).take 20).all (a_rowok 45) = true := by decide +kernel
set_option maxRecDepth 100000 in
theorem a_ok45 : ∀ r ∈ a_c45, a_rowok 45 r = true := a_all20 2 (Nat.le_of_ble_eq_true rfl) (fun j hj => by
  match j, hj with
  | 0, _ => exact a_ok45_0
  | 1, _ => exact a_ok45_1
  | j + 2, h => exact absurd h (by omega))
theorem a_ok46_0 : ((a_c46.drop (20 * 0)).take 20).all (a_rowok 46) = true := by decide +kernel
theorem a_ok46_1 : ((a_c46.drop (20 * 1)).take 20).all (a_rowok 46) = true := by decide +kernel
set_option maxRecDepth 100000 in
theorem a_ok46 : ∀ r ∈ a_c46, a_rowok 46 r = true := a_all20 2 (Nat.le_of_ble_eq_true rfl) (fun j hj => by
  match j, hj with
  | 0, _ => exact a_ok46_0
  | 1, _ => exact a_ok46_1
  | j + 2, h => exact absurd h (by omega))
theorem a_ok47_0 : ((a_c47.drop (20 * 0)).take 20).all (a_rowok 47) = true := by decide +kernel
set_option maxRecDepth 100000 in
theorem a_ok47 : ∀ r ∈ a_c47, a_rowok 47 r = true := a_all20 1 (Nat.le_of_ble_eq_true rfl) (fun j hj => by
  match j, hj with
  | 0, _ => exact a_ok47_0
  | j + 1, h => exact absurd h (by omega))
theorem a_ok48_0 : ((a_c48.drop (20 * 0)).take 20).all (a_rowok 48) = true := by decide +kernel
set_option maxRecDepth 100000 in
theorem a_ok48 : ∀ r ∈ a_c48, a_rowok 48 r = true := a_all20 1 (Nat.le_of_ble_eq_true rfl) (fun j hj => by
  match j, hj with
  | 0, _ => exact a_ok48_0
  | j + 1, h => exact absurd h (by omega))
theorem a_ok49_0 : ((a_c49.drop (20 * 0)).take 20).all (a_rowok 49) = true := by decide +kernel
theorem a_ok49_1 : ((a_c49.drop (20 * 1)).take 20).all (a_rowok 49) = true := by decide +kernel
set_option maxRecDepth 100000 in
theorem a_ok49 : ∀ r ∈ a_c49, a_rowok 49 r = true := a_all20 2 (Nat.le_of_ble_eq_true rfl) (fun j hj => by
  match j, hj with
  | 0, _ => exact a_ok49_0
  | 1, _ => exact a_ok49_1
  | j + 2, h => exact absurd h (by omega))
theorem a_ok50_0 : ((a_c50.drop (20 * 0)).take 20).all (a_rowok 50) = true := by decide +kernel
theorem a_ok50_1 : ((a_c50.drop (20 * 1)).take 20).all (a_rowok 50) = true := by decide +kernel
theorem a_ok50_2 : ((a_c50.drop (20 * 2)).take 20).all (a_rowok 50) = true := by decide +kernel
set_option maxRecDepth 100000 in
theorem a_ok50 : ∀ r ∈ a_c50, a_rowok 50 r = true := a_all20 3 (Nat.le_of_ble_eq_true rfl) (fun j hj => by
  match j, hj with
  | 0, _ => exact a_ok50_0
  | 1, _ => exact a_ok50_1
  | 2, _ => exact a_ok50_2
  | j + 3, h => exact absurd h (by omega))
theorem a_ok51_0 : ((a_c51.drop (20 * 0)).take 20).all (a_rowok 51) = true := by decide +kernel
theorem a_ok51_1 : ((a_c51.drop (20 * 1)).take 20).all (a_rowok 51) = true := by decide +kernel
set_option maxRecDepth 100000 in
theorem a_ok51 : ∀ r ∈ a_c51, a_rowok 51 r = true := a_all20 2 (Nat.le_of_ble_eq_true rfl) (fun j hj => by
  match j, hj with
  | 0, _ => exact a_ok51_0
  | 1, _ => exact a_ok51_1
  | j + 2, h => exact absurd h (by omega))
theorem a_ok52_0 : ((a_c52.drop (20 * 0)).take 20).all (a_rowok 52) = true := by decide +kernel
theorem a_ok52_1 : ((a_c52.drop (20 * 1)).take 20).all (a_rowok 52) = true := by decide +kernel
set_option maxRecDepth 100000 in
theorem a_ok52 : ∀ r ∈ a_c52, a_rowok 52 r = true := a_all20 2 (Nat.le_of_ble_eq_true rfl) (fun j hj => by
  match j, hj with
  | 0, _ => exact a_ok52_0
  | 1, _ => exact a_ok52_1
  | j + 2, h => exact absurd h (by omega))
theorem a_ok53_0 : ((a_c53.drop (20 * 0)).take 20).all (a_rowok 53) = true := by decide +kernel
set_option maxRecDepth 100000 in
theorem a_ok53 : ∀ r ∈ a_c53, a_rowok 53 r = true := a_all20 1 (Nat.le_of_ble_eq_true rfl) (fun j hj => by
  match j, hj with
  | 0, _ => exact a_ok53_0
  | j + 1, h => exact absurd h (by omega))
theorem a_ok54_0 : ((a_c54.drop (20 * 0)).take 20).all (a_rowok 54) = true := by decide +kernel
theorem a_ok54_1 : ((a_c54.drop (20 * 1)).take 20).all (a_rowok 54) = true := by decide +kernel
set_option maxRecDepth 100000 in
theorem a_ok54 : ∀ r ∈ a_c54, a_rowok 54 r = true := a_all20 2 (Nat.le_of_ble_eq_true rfl) (fun j hj => by
  match j, hj with
  | 0, _ => exact a_ok54_0
  | 1, _ => exact a_ok54_1
  | j + 2, h => exact absurd h (by omega))
theorem a_ok55_0 : ((a_c55.drop (20 * 0)).take 20).all (a_rowok 55) = true := by decide +kernel
theorem a_ok55_1 : ((a_c55.drop (20 * 1)).take 20).all (a_rowok 55) = true := by decide +kernel
set_option maxRecDepth 100000 in
theorem a_ok55 : ∀ r ∈ a_c55, a_rowok 55 r = true := a_all20 2 (Nat.le_of_ble_eq_true rfl) (fun j hj => by
  match j, hj with
  | 0, _ => exact a_ok55_0
  | 1, _ => exact a_ok55_1
  | j + 2, h => exact absurd h (by omega))
theorem a_ok56_0 : ((a_c56.drop (20 * 0)).take 20).all (a_rowok 56) = true := by decide +kernel
theorem a_ok56_1 : ((a_c56.drop (20 * 1)).take 20).all (a_rowok 56) = true := by decide +kernel
theorem a_ok56_2 : ((a_c56.drop (20 * 2)).take 20).all (a_rowok 56) = true := by decide +kernel
set_option maxRecDepth 100000 in
theorem a_ok56 : ∀ r ∈ a_c56, a_rowok 56 r = true := a_all20 3 (Nat.le_of_ble_eq_true rfl) (fun j hj => by
  match j, hj with
  | 0, _ => exact a_ok56_0
  | 1, _ => exact a_ok56_1
  | 2, _ => exact a_ok56_2
  | j + 3, h => exact absurd h (by omega))
theorem a_ok57_0 : ((a_c57.drop (20 * 0)).take 20).all (a_rowok 57) = true := by decide +kernel
theorem a_ok57_1 : ((a_c57.drop (20 * 1)).take 20).all (a_rowok 57) = true := by decide +kernel
theorem a_ok57_2 : ((a_c57.drop (20 * 2)).take 20).all (a_rowok 57) = true := by decide +kernel
set_option maxRecDepth 100000 in
theorem a_ok57 : ∀ r ∈ a_c57, a_rowok 57 r = true := a_all20 3 (Nat.le_of_ble_eq_true rfl) (fun j hj => by
  match j, hj with
  | 0, _ => exact a_ok57_0
  | 1, _ => exact a_ok57_1
  | 2, _ => exact a_ok57_2
  | j + 3, h => exact absurd h (by omega))
theorem a_ok58_0 : ((a_c58.drop (20 * 0)).take 20).all (a_rowok 58) = true := by decide +kernel
set_option maxRecDepth 100000 in
theorem a_ok58 : ∀ r ∈ a_c58, a_rowok 58 r = true := a_all20 1 (Nat.le_of_ble_eq_true rfl) (fun j hj => by
  match j, hj with
  | 0, _ => exact a_ok58_0
  | j + 1, h => exact absurd h (by omega))
theorem a_ok59_0 : ((a_c59.drop (20 * 0)).take 20).all (a_rowok 59) = true := by decide +kernel
set_option maxRecDepth 100000 in
theorem a_ok59 : ∀ r ∈ a_c59, a_rowok 59 r = true := a_all20 1 (Nat.le_of_ble_eq_true rfl) (fun j hj => by
  match j, hj with
  | 0, _ => exact a_ok59_0
  | j + 1, h => exact absurd h (by omega))
theorem a_ok60_0 : ((a_c60.drop (20 * 0)).take 20).all (a_rowok 60) = true := by decide +kernel
set_option maxRecDepth 100000 in
theorem a_ok60 : ∀ r ∈ a_c60, a_rowok 60 r = true := a_all20 1 (Nat.le_of_ble_eq_true rfl) (fun j hj => by
  match j, hj with
  | 0, _ => exact a_ok60_0
  | j + 1, h => exact absurd h (by omega))
theorem a_ok61_0 : ((a_c61.drop (20 * 0)).take 20).all (a_rowok 61) = true := by decide +kernel
theorem a_ok61_1 : ((a_c61.drop (20 * 1)).take 20).all (a_rowok 61) = true := by decide +kernel
theorem a_ok61_2 : ((a_c61.drop (20 * 2)).take 20).all (a_rowok 61) = true := by decide +kernel
theorem a_ok61_3 : ((a_c61.drop (20 * 3)).take 20).all (a_rowok 61) = true := by decide +kernel
set_option maxRecDepth 100000 in
theorem a_ok61 : ∀ r ∈ a_c61, a_rowok 61 r = true := a_all20 4 (Nat.le_of_ble_eq_true rfl) (fun j hj => by
  match j, hj with
  | 0, _ => exact a_ok61_0
  | 1, _ => exact a_ok61_1
  | 2, _ => exact a_ok61_2
  | 3, _ => exact a_ok61_3
  | j + 4, h => exact absurd h (by omega))
theorem a_ok62_0 : ((a_c62.drop (20 * 0)).take 20).all (a_rowok 62) = true := by decide +kernel
theorem a_ok62_1 : ((a_c62.drop (20 * 1)).take 20).all (a_rowok 62) = true := by decide +kernel
set_option maxRecDepth 100000 in
theorem a_ok62 : ∀ r ∈ a_c62, a_rowok 62 r = true := a_all20 2 (Nat.le_of_ble_eq_true rfl) (fun j hj => by
  match j, hj with
  | 0, _ => exact a_ok62_0
  | 1, _ => exact a_ok62_1
  | j + 2, h => exact absurd h (by omega))
theorem a_ok63_0 : ((a_c63.drop (20 * 0)).take 20).all (a_rowok 63) = true := by decide +kernel
theorem a_ok63_1 : ((a_c63.drop (20 * 1)).take 20).all (a_rowok 63) = true := by decide +kernel
theorem a_ok63_2 : ((a_c63.drop (20 * 2)).take 20).all (a_rowok 63) = true := by decide +kernel
set_option maxRecDepth 100000 in
theorem a_ok63 : ∀ r ∈ a_c63, a_rowok 63 r = true := a_all20 3 (Nat.le_of_ble_eq_true rfl) (fun j hj => by
  match j, hj with
  | 0, _ => exact a_ok63_0
  | 1, _ => exact a_ok63_1
  | 2, _ => exact a_ok63_2
  | j + 3, h => exact absurd h (by omega))
theorem a_ok64_0 : ((a_c64.drop (20 * 0)).take 20).all (a_rowok 64) = true := by decide +kernel
theorem a_ok64_1 : ((a_c64.drop (20 * 1)).take 20).all (a_rowok 64) = true := by decide +kernel
theorem a_ok64_2 : ((a_c64.drop (20 * 2)).take 20).all (a_rowok 64) = true := by decide +kernel
set_option maxRecDepth 100000 in
theorem a_ok64 : ∀ r ∈ a_c64, a_rowok 64 r = true := a_all20 3 (Nat.le_of_ble_eq_true rfl) (fun j hj => by
  match j, hj with
  | 0, _ => exact a_ok64_0
  | 1, _ => exact a_ok64_1
  | 2, _ => exact a_ok64_2
  | j + 3, h => exact absurd h (by omega))
theorem a_ok65_0 : ((a_c65.drop (20 * 0)).take 20).all (a_rowok 65) = true := by decide +kernel
theorem a_ok65_1 : ((a_c65.drop (20 * 1)).take 20).all (a_rowok 65) = true := by decide +kernel
set_option maxRecDepth 100000 in
theorem a_ok65 : ∀ r ∈ a_c65, a_rowok 65 r = true := a_all20 2 (Nat.le_of_ble_eq_true rfl) (fun j hj => by
  match j, hj with
  | 0, _ => exact a_ok65_0
  | 1, _ => exact a_ok65_1
  | j + 2, h => exact absurd h (by omega))
theorem a_ok66_0 : ((a_c66.drop (20 * 0)).take 20).all (a_rowok 66) = true := by decide +kernel
theorem a_ok66_1 : ((a_c66.drop (20 * 1)).take 20).all (a_rowok 66) = true := by decide +kernel
set_option maxRecDepth 100000 in
theorem a_ok66 : ∀ r ∈ a_c66, a_rowok 66 r = true := a_all20 2 (Nat.le_of_ble_eq_true rfl) (fun j hj => by
  match j, hj with
  | 0, _ => exact a_ok66_0
  | 1, _ => exact a_ok66_1
  | j + 2, h => exact absurd h (by omega))
theorem a_ok67_0 : ((a_c67.drop (20 * 0)).take 20).all (a_rowok 67) = true := by decide +kernel
set_option maxRecDepth 100000 in
theorem a_ok67 : ∀ r ∈ a_c67, a_rowok 67 r = true := a_all20 1 (Nat.le_of_ble_eq_true rfl) (fun j hj => by
  match j, hj with
  | 0, _ => exact a_ok67_0
  | j + 1, h => exact absurd h (by omega))
theorem a_ok68_0 : ((a_c68.drop (20 * 0)).take 20).all (a_rowok 68) = true := by decide +kernel
set_option maxRecDepth 100000 in
theorem a_ok68 : ∀ r ∈ a_c68, a_rowok 68 r = true := a_all20 1 (Nat.le_of_ble_eq_true rfl) (fun j hj => by
  match j, hj with
  | 0, _ => exact a_ok68_0
  | j + 1, h => exact absurd h (by omega))
theorem a_ok69_0 : ((a_c69.drop (20 * 0)).take 20).all (a_rowok 69) = true := by decide +kernel
theorem a_ok69_1 : ((a_c69.drop (20 * 1)).take 20).all (a_rowok 69) = true := by decide +kernel
set_option maxRecDepth 100000 in
theorem a_ok69 : ∀ r ∈ a_c69, a_rowok 69 r = true := a_all20 2 (Nat.le_of_ble_eq_true rfl) (fun j hj => by
  match j, hj with
  | 0, _ => exact a_ok69_0
  | 1, _ => exact a_ok69_1
  | j + 2, h => exact absurd h (by omega))
theorem a_ok70_0 : ((a_c70.drop (20 * 0)).take 20).all (a_rowok 70) = true := by decide +kernel
theorem a_ok70_1 : ((a_c70.drop (20 * 1)).take 20).all (a_rowok 70) = true := by decide +kernel
set_option maxRecDepth 100000 in
theorem a_ok70 : ∀ r ∈ a_c70, a_rowok 70 r = true := a_all20 2 (Nat.le_of_ble_eq_true rfl) (fun j hj => by
  match j, hj with
  | 0, _ => exact a_ok70_0
  | 1, _ => exact a_ok70_1
  | j + 2, h => exact absurd h (by omega))
theorem a_ok71_0 : ((a_c71.drop (20 * 0)).take 20).all (a_rowok 71) = true := by decide +kernel
theorem a_ok71_1 : ((a_c71.drop (20 * 1)).take 20).all (a_rowok 71) = true := by decide +kernel
theorem a_ok71_2 : ((a_c71.drop (20 * 2)).take 20).all (a_rowok 71) = true := by decide +kernel
theorem a_ok71_3 : ((a_c71.drop (20 * 3)).take 20).all (a_rowok 71) = true := by decide +kernel
set_option maxRecDepth 100000 in
theorem a_ok71 : ∀ r ∈ a_c71, a_rowok 71 r = true := a_all20 4 (Nat.le_of_ble_eq_true rfl) (fun j hj => by
  match j, hj with
  | 0, _ => exact a_ok71_0
  | 1, _ => exact a_ok71_1
  | 2, _ => exact a_ok71_2
  | 3, _ => exact a_ok71_3
  | j + 4, h => exact absurd h (by omega))
theorem a_ok72_0 : ((a_c72.drop (20 * 0)).take 20).all (a_rowok 72) = true := by decide +kernel
theorem a_ok72_1 : ((a_c72.drop (20 * 1)).take 20).all (a_rowok 72) = true := by decide +kernel
theorem a_ok72_2 : ((a_c72.drop (20 * 2)).take 20).all (a_rowok 72) = true := by decide +kernel
set_option maxRecDepth 100000 in
theorem a_ok72 : ∀ r ∈ a_c72, a_rowok 72 r = true := a_all20 3 (Nat.le_of_ble_eq_true rfl) (fun j hj => by
  match j, hj with
  | 0, _ => exact a_ok72_0
  | 1, _ => exact a_ok72_1
  | 2, _ => exact a_ok72_2
  | j + 3, h => exact absurd h (by omega))
theorem a_ok73_0 : ((a_c73.drop (20 * 0)).take 20).all (a_rowok 73) = true := by decide +kernel
set_option maxRecDepth 100000 in
theorem a_ok73 : ∀ r ∈ a_c73, a_rowok 73 r = true := a_all20 1 (Nat.le_of_ble_eq_true rfl) (fun j hj => by
  match j, hj with
  | 0, _ => exact a_ok73_0
  | j + 1, h => exact absurd h (by omega))
theorem a_ok74_0 : ((a_c74.drop (20 * 0)).take 20).all (a_rowok 74) = true := by decide +kernel
theorem a_ok74_1 : ((a_c74.drop (20 * 1)).take 20).all (a_rowok 74) = true := by decide +kernel
set_option maxRecDepth 100000 in
theorem a_ok74 : ∀ r ∈ a_c74, a_rowok 74 r = true := a_all20 2 (Nat.le_of_ble_eq_true rfl) (fun j hj => by
  match j, hj with
  | 0, _ => exact a_ok74_0
  | 1, _ => exact a_ok74_1
  | j + 2, h => exact absurd h (by omega))
theorem a_ok75_0 : ((a_c75.drop (20 * 0)).take 20).all (a_rowok 75) = true := by decide +kernel
set_option maxRecDepth 100000 in
theorem a_ok75 : ∀ r ∈ a_c75, a_rowok 75 r = true := a_all20 1 (Nat.le_of_ble_eq_true rfl) (fun j hj => by
  match j, hj with
  | 0, _ => exact a_ok75_0
  | j + 1, h => exact absurd h (by omega))
theorem a_ok76_0 : ((a_c76.drop (20 * 0)).take 20).all (a_rowok 76) = true := by decide +kernel
set_option maxRecDepth 100000 in
theorem a_ok76 : ∀ r ∈ a_c76, a_rowok 76 r = true := a_all20 1 (Nat.le_of_ble_eq_true rfl) (fun j hj => by
  match j, hj with
  | 0, _ => exact a_ok76_0
  | j + 1, h => exact absurd h (by omega))
theorem a_ok77_0 : ((a_c77.drop (20 * 0)).take 20).all (a_rowok 77) = true := by decide +kernel
theorem a_ok77_1 : ((a_c77.drop (20 * 1)).take 20).all (a_rowok 77) = true := by decide +kernel
theorem a_ok77_2 : ((a_c77.drop (20 * 2)).take 20).all (a_rowok 77) = true := by decide +kernel
theorem a_ok77_3 : ((a_c77.drop (20 * 3)).take 20).all (a_rowok 77) = true := by decide +kernel
set_option maxRecDepth 100000 in
theorem a_ok77 : ∀ r ∈ a_c77, a_rowok 77 r = true := a_all20 4 (Nat.le_of_ble_eq_true rfl) (fun j hj => by
  match j, hj with
  | 0, _ => exact a_ok77_0
  | 1, _ => exact a_ok77_1
  | 2, _ => exact a_ok77_2
  | 3, _ => exact a_ok77_3
  | j + 4, h => exact absurd h (by omega))
theorem a_ok78_0 : ((a_c78.drop (20 * 0)).take 20).all (a_rowok 78) = true := by decide +kernel
set_option maxRecDepth 100000 in
theorem a_ok78 : ∀ r ∈ a_c78, a_rowok 78 r = true := a_all20 1 (Nat.le_of_ble_eq_true rfl) (fun j hj => by
  match j, hj with
  | 0, _ => exact a_ok78_0
  | j + 1, h => exact absurd h (by omega))
theorem a_ok79_0 : ((a_c79.drop (20 * 0)).take 20).all (a_rowok 79) = true := by decide +kernel
theorem a_ok79_1 : ((a_c79.drop (20 * 1)).take 20).all (a_rowok 79) = true := by decide +kernel
theorem a_ok79_2 : ((a_c79.drop (20 * 2)).take 20).all (a_rowok 79) = true := by decide +kernel
set_option maxRecDepth 100000 in
theorem a_ok79 : ∀ r ∈ a_c79, a_rowok 79 r = true := a_all20 3 (Nat.le_of_ble_eq_true rfl) (fun j hj => by
  match j, hj with
  | 0, _ => exact a_ok79_0
  | 1, _ => exact a_ok79_1
  | 2, _ => exact a_ok79_2
  | j + 3, h => exact absurd h (by omega))
theorem a_ok80_0 : ((a_c80.drop (20 * 0)).take 20).all (a_rowok 80) = true := by decide +kernel
theorem a_ok80_1 : ((a_c80.drop (20 * 1)).take 20).all (a_rowok 80) = true := by decide +kernel
theorem a_ok80_2 : ((a_c80.drop (20 * 2)).take 20).all (a_rowok 80) = true := by decide +kernel
theorem a_ok80_3 : ((a_c80.drop (20 * 3)).take 20).all (a_rowok 80) = true := by decide +kernel
set_option maxRecDepth 100000 in
theorem a_ok80 : ∀ r ∈ a_c80, a_rowok 80 r = true := a_all20 4 (Nat.le_of_ble_eq_true rfl) (fun j hj => by
  match j, hj with
  | 0, _ => exact a_ok80_0
  | 1, _ => exact a_ok80_1
  | 2, _ => exact a_ok80_2
  | 3, _ => exact a_ok80_3
  | j + 4, h => exact absurd h (by omega))
theorem a_ok81_0 : ((a_c81.drop (20 * 0)).take 20).all (a_rowok 81) = true := by decide +kernel
theorem a_ok81_1 : ((a_c81.drop (20 * 1)).take 20).all (a_rowok 81) = true := by decide +kernel
theorem a_ok81_2 : ((a_c81.drop (20 * 2)).take 20).all (a_rowok 81) = true := by decide +kernel
set_option maxRecDepth 100000 in
theorem a_ok81 : ∀ r ∈ a_c81, a_rowok 81 r = true := a_all20 3 (Nat.le_of_ble_eq_true rfl) (fun j hj => by
  match j, hj with
  | 0, _ => exact a_ok81_0
  | 1, _ => exact a_ok81_1
  | 2, _ => exact a_ok81_2
  | j + 3, h => exact absurd h (by omega))
theorem a_ok82_0 : ((a_c82.drop (20 * 0)).take 20).all (a_rowok 82) = true := by decide +kernel
theorem a_ok82_1 : ((a_c82.drop (20 * 1)).take 20).all (a_rowok 82) = true := by decide +kernel
theorem a_ok82_2 : ((a_c82.drop (20 * 2)).take 20).all (a_rowok 82) = true := by decide +kernel
theorem a_ok82_3 : ((a_c82.drop (20 * 3)).take 20).all (a_rowok 82) = true := by decide +kernel
theorem a_ok82_4 : ((a_c82.drop (20 * 4)).take 20).all (a_rowok 82) = true := by decide +kernel
set_option maxRecDepth 100000 in
theorem a_ok82 : ∀ r ∈ a_c82, a_rowok 82 r = true := a_all20 5 (Nat.le_of_ble_eq_true rfl) (fun j hj => by
  match j, hj with
  | 0, _ => exact a_ok82_0
  | 1, _ => exact a_ok82_1
  | 2, _ => exact a_ok82_2
  | 3, _ => exact a_ok82_3
  | 4, _ => exact a_ok82_4
  | j + 5, h => exact absurd h (by omega))
theorem a_ok83_0 : ((a_c83.drop (20 * 0)).take 20).all (a_rowok 83) = true := by decide +kernel
set_option maxRecDepth 100000 in
theorem a_ok83 : ∀ r ∈ a_c83, a_rowok 83 r = true := a_all20 1 (Nat.le_of_ble_eq_true rfl) (fun j hj => by
  match j, hj with
  | 0, _ => exact a_ok83_0
  | j + 1, h => exact absurd h (by omega))
theorem a_ok84_0 : ((a_c84.drop (20 * 0)).take 20).all (a_rowok 84) = true := by decide +kernel
theorem a_ok84_1 : ((a_c84.drop (20 * 1)).take 20).all (a_rowok 84) = true := by decide +kernel
set_option maxRecDepth 100000 in
theorem a_ok84 : ∀ r ∈ a_c84, a_rowok 84 r = true := a_all20 2 (Nat.le_of_ble_eq_true rfl) (fun j hj => by
  match j, hj with
  | 0, _ => exact a_ok84_0
  | 1, _ => exact a_ok84_1
  | j + 2, h => exact absurd h (by omega))
theorem a_ok85_0 : ((a_c85.drop (20 * 0)).take 20).all (a_rowok 85) = true := by decide +kernel
set_option maxRecDepth 100000 in
theorem a_ok85 : ∀ r ∈ a_c85, a_rowok 85 r = true := a_all20 1 (Nat.le_of_ble_eq_true rfl) (fun j hj => by
  match j, hj with
  | 0, _ => exact a_ok85_0
  | j + 1, h => exact absurd h (by omega))
theorem a_ok86_0 : ((a_c86.drop (20 * 0)).take 20).all (a_rowok 86) = true := by decide +kernel
theorem a_ok86_1 : ((a_c86.drop (20 * 1)).take 20).all (a_rowok 86) = true := by decide +kernel
set_option maxRecDepth 100000 in
theorem a_ok86 : ∀ r ∈ a_c86, a_rowok 86 r = true := a_all20 2 (Nat.le_of_ble_eq_true rfl) (fun j hj => by
  match j, hj with
  | 0, _ => exact a_ok86_0
  | 1, _ => exact a_ok86_1
  | j + 2, h => exact absurd h (by omega))
theorem a_ok87_0 : ((a_c87.drop (20 * 0)).take 20).all (a_rowok 87) = true := by decide +kernel
set_option maxRecDepth 100000 in
theorem a_ok87 : ∀ r ∈ a_c87, a_rowok 87 r = true := a_all20 1 (Nat.le_of_ble_eq_true rfl) (fun j hj => by
  match j, hj with
  | 0, _ => exact a_ok87_0
  | j + 1, h => exact absurd h (by omega))
theorem a_ok88_0 : ((a_c88.drop (20 * 0)).take 20).all (a_rowok 88) = true := by decide +kernel
set_option maxRecDepth 100000 in
theorem a_ok88 : ∀ r ∈ a_c88, a_rowok 88 r = true := a_all20 1 (Nat.le_of_ble_eq_true rfl) (fun j hj => by
  match j, hj with
  | 0, _ => exact a_ok88_0
  | j + 1, h => exact absurd h (by omega))
theorem a_ok89_0 : ((a_c89.drop (20 * 0)).take 20).all (a_rowok 89) = true := by decide +kernel
set_option maxRecDepth 100000 in
theorem a_ok89 : ∀ r ∈ a_c89, a_rowok 89 r = true := a_all20 1 (Nat.le_of_ble_eq_true rfl) (fun j hj => by
  match j, hj with
  | 0, _ => exact a_ok89_0
  | j + 1, h => exact absurd h (by omega))
theorem a_ok90_0 : ((a_c90.drop (20 * 0)).take 20).all (a_rowok 90) = true := by decide +kernel
theorem a_ok90_1 : ((a_c90.drop (20 * 1)).take 20).all (a_rowok 90) = true := by decide +kernel
set_option maxRecDepth 100000 in
theorem a_ok90 : ∀ r ∈ a_c90, a_rowok 90 r = true := a_all20 2 (Nat.le_of_ble_eq_true rfl) (fun j hj => by
  match j, hj with
  | 0, _ => exact a_ok90_0
  | 1, _ => exact a_ok90_1
  | j + 2, h => exact absurd h (by omega))
theorem a_ok91_0 : ((a_c91.drop (20 * 0)).take 20).all (a_rowok 91) = true := by decide +kernel
theorem a_ok91_1 : ((a_c91.drop (20 * 1)).take 20).all (a_rowok 91) = true := by decide +kernel
set_option maxRecDepth 100000 in
theorem a_ok91 : ∀ r ∈ a_c91, a_rowok 91 r = true := a_all20 2 (Nat.le_of_ble_eq_true rfl) (fun j hj => by
  match j, hj with
  | 0, _ => exact a_ok91_0
  | 1, _ => exact a_ok91_1
  | j + 2, h => exact absurd h (by omega))
theorem a_ok92_0 : ((a_c92.drop (20 * 0)).take 20).all (a_rowok 92) = true := by decide +kernel
theorem a_ok92_1 : ((a_c92.drop (20 * 1)).take 20).all (a_rowok 92) = true := by decide +kernel
theorem a_ok92_2 : ((a_c92.drop (20 * 2)).take 20).all (a_rowok 92) = true := by decide +kernel
set_option maxRecDepth 100000 in
theorem a_ok92 : ∀ r ∈ a_c92, a_rowok 92 r = true := a_all20 3 (Nat.le_of_ble_eq_true rfl) (fun j hj => by
  match j, hj with
  | 0, _ => exact a_ok92_0
  | 1, _ => exact a_ok92_1
  | 2, _ => exact a_ok92_2
  | j + 3, h => exact absurd h (by omega))
theorem a_ok93_0 : ((a_c93.drop (20 * 0)).take 20).all (a_rowok 93) = true := by decide +kernel
theorem a_ok93_1 : ((a_c93.drop (20 * 1)).take 20).all (a_rowok 93) = true := by decide +kernel
set_option maxRecDepth 100000 in
theorem a_ok93 : ∀ r ∈ a_c93, a_rowok 93 r = true := a_all20 2 (Nat.le_of_ble_eq_true rfl) (fun j hj => by
  match j, hj with
  | 0, _ => exact a_ok93_0
  | 1, _ => exact a_ok93_1
  | j + 2, h => exact absurd h (by omega))
theorem a_ok94_0 : ((a_c94.drop (20 * 0)).take 20).all (a_rowok 94) = true := by decide +kernel
theorem a_ok94_1 : ((a_c94.drop (20 * 1)).take 20).all (a_rowok 94) = true := by decide +kernel
theorem a_ok94_2 : ((a_c94.drop (20 * 2)).take 20).all (a_rowok 94) = true := by decide +kernel
theorem a_ok94_3 : ((a_c94.drop (20 * 3)).take 20).all (a_rowok 94) = true := by decide +kernel
set_option maxRecDepth 100000 in
theorem a_ok94 : ∀ r ∈ a_c94, a_rowok 94 r = true := a_all20 4 (Nat.le_of_ble_eq_true rfl) (fun j hj => by
  match j, hj with
  | 0, _ => exact a_ok94_0
  | 1, _ => exact a_ok94_1
  | 2, _ => exact a_ok94_2
  | 3, _ => exact a_ok94_3
  | j + 4, h => exact absurd h (by omega))
theorem a_ok95_0 : ((a_c95.drop (20 * 0)).take 20).all (a_rowok 95) = true := by decide +kernel
theorem a_ok95_1 : ((a_c95.drop (20 * 1)).take 20).all (a_rowok 95) = true := by decide +kernel
theorem a_ok95_2 : ((a_c95.drop (20 * 2)).take 20).all (a_rowok 95) = true := by decide +kernel
set_option maxRecDepth 100000 in
theorem a_ok95 : ∀ r ∈ a_c95, a_rowok 95 r = true := a_all20 3 (Nat.le_of_ble_eq_true rfl) (fun j hj => by
  match j, hj with
  | 0, _ => exact a_ok95_0
  | 1, _ => exact a_ok95_1
  | 2, _ => exact a_ok95_2
  | j + 3, h => exact absurd h (by omega))
theorem a_ok96_0 : ((a_c96.drop (20 * 0)).take 20).all (a_rowok 96) = true := by decide +kernel
set_option maxRecDepth 100000 in
theorem a_ok96 : ∀ r ∈ a_c96, a_rowok 96 r = true := a_all20 1 (Nat.le_of_ble_eq_true rfl) (fun j hj => by
  match j, hj with
  | 0, _ => exact a_ok96_0
  | j + 1, h => exact absurd h (by omega))
theorem a_ok97_0 : ((a_c97.drop (20 * 0)).take 20).all (a_rowok 97) = true := by decide +kernel
set_option maxRecDepth 100000 in
theorem a_ok97 : ∀ r ∈ a_c97, a_rowok 97 r = true := a_all20 1 (Nat.le_of_ble_eq_true rfl) (fun j hj => by
  match j, hj with
  | 0, _ => exact a_ok97_0
  | j + 1, h => exact absurd h (by omega))
theorem a_ok98_0 : ((a_c98.drop (20 * 0)).take 20).all (a_rowok 98) = true := by decide +kernel
set_option maxRecDepth 100000 in
theorem a_ok98 : ∀ r ∈ a_c98, a_rowok 98 r = true := a_all20 1 (Nat.le_of_ble_eq_true rfl) (fun j hj => by
  match j, hj with
  | 0, _ => exact a_ok98_0
  | j + 1, h => exact absurd h (by omega))
theorem a_ok99_0 : ((a_c99.drop (20 * 0)).take 20).all (a_rowok 99) = true := by decide +kernel
theorem a_ok99_1 : ((a_c99.drop (20 * 1)).take 20).all (a_rowok 99) = true := by decide +kernel
set_option maxRecDepth 100000 in
theorem a_ok99 : ∀ r ∈ a_c99, a_rowok 99 r = true := a_all20 2 (Nat.le_of_ble_eq_true rfl) (fun j hj => by
  match j, hj with
  | 0, _ => exact a_ok99_0
  | 1, _ => exact a_ok99_1
  | j + 2, h => exact absurd h (by omega))
theorem a_ok100_0 : ((a_c100.drop (20 * 0)).take 20).all (a_rowok 100) = true := by decide +kernel
set_option maxRecDepth 100000 in
theorem a_ok100 : ∀ r ∈ a_c100, a_rowok 100 r = true := a_all20 1 (Nat.le_of_ble_eq_true rfl) (fun j hj => by
  match j, hj with
  | 0, _ => exact a_ok100_0
  | j + 1, h => exact absurd h (by omega))
theorem a_ok101_0 : ((a_c101.drop (20 * 0)).take 20).all (a_rowok 101) = true := by decide +kernel
set_option maxRecDepth 100000 in
theorem a_ok101 : ∀ r ∈ a_c101, a_rowok 101 r = true := a_all20 1 (Nat.le_of_ble_eq_true rfl) (fun j hj => by
  match j, hj with
  | 0, _ => exact a_ok101_0
  | j + 1, h => exact absurd h (by omega))
theorem a_ok102_0 : ((a_c102.drop (20 * 0)).take 20).all (a_rowok 102) = true := by decide +kernel
set_option maxRecDepth 100000 in
theorem a_ok102 : ∀ r ∈ a_c102, a_rowok 102 r = true := a_all20 1 (Nat.le_of_ble_eq_true rfl) (fun j hj => by
  match j, hj with
  | 0, _ => exact a_ok102_0
  | j + 1, h => exact absurd h (by omega))
theorem a_ok103_0 : ((a_c103.drop (20 * 0)).take 20).all (a_rowok 103) = true := by decide +kernel
theorem a_ok103_1 : ((a_c103.drop (20 * 1)).take 20).all (a_rowok 103) = true := by decide +kernel
theorem a_ok103_2 : ((a_c103.drop (20 * 2)).take 20).all (a_rowok 103) = true := by decide +kernel
theorem a_ok103_3 : ((a_c103.drop (20 * 3)).take 20).all (a_rowok 103) = true := by decide +kernel
set_option maxRecDepth 100000 in
theorem a_ok103 : ∀ r ∈ a_c103, a_rowok 103 r = true := a_all20 4 (Nat.le_of_ble_eq_true rfl) (fun j hj => by
  match j, hj with
  | 0, _ => exact a_ok103_0
  | 1, _ => exact a_ok103_1
  | 2, _ => exact a_ok103_2
  | 3, _ => exact a_ok103_3
  | j + 4, h => exact absurd h (by omega))
theorem a_ok104_0 : ((a_c104.drop (20 * 0)).take 20).all (a_rowok 104) = true := by decide +kernel
theorem a_ok104_1 : ((a_c104.drop (20 * 1)).take 20).all (a_rowok 104) = true := by decide +kernel
set_option maxRecDepth 100000 in
theorem a_ok104 : ∀ r ∈ a_c104, a_rowok 104 r = true := a_all20 2 (Nat.le_of_ble_eq_true rfl) (fun j hj => by
  match j, hj with
  | 0, _ => exact a_ok104_0
  | 1, _ => exact a_ok104_1
  | j + 2, h => exact absurd h (by omega))
theorem a_ok105_0 : ((a_c105.drop (20 * 0)).take 20).all (a_rowok 105) = true := by decide +kernel
set_option maxRecDepth 100000 in
theorem a_ok105 : ∀ r ∈ a_c105, a_rowok 105 r = true := a_all20 1 (Nat.le_of_ble_eq_true rfl) (fun j hj => by
  match j, hj with
  | 0, _ => exact a_ok105_0
  | j + 1, h => exact absurd h (by omega))
theorem a_ok106_0 : ((a_c106.drop (20 * 0)).take 20).all (a_rowok 106) = true := by decide +kernel
set_option maxRecDepth 100000 in
theorem a_ok106 : ∀ r ∈ a_c106, a_rowok 106 r = true := a_all20 1 (Nat.le_of_ble_eq_true rfl) (fun j hj => by
  match j, hj with
  | 0, _ => exact a_ok106_0
  | j + 1, h => exact absurd h (by omega))
theorem a_ok107_0 : ((a_c107.drop (20 * 0)).take 20).all (a_rowok 107) = true := by decide +kernel
theorem a_ok107_1 : ((a_c107.drop (20 * 1)).take 20).all (a_rowok 107) = true := by decide +kernel
set_option maxRecDepth 100000 in
theorem a_ok107 : ∀ r ∈ a_c107, a_rowok 107 r = true := a_all20 2 (Nat.le_of_ble_eq_true rfl) (fun j hj => by
  match j, hj with
  | 0, _ => exact a_ok107_0
  | 1, _ => exact a_ok107_1
  | j + 2, h => exact absurd h (by omega))
theorem a_ok108_0 : ((a_c108.drop (20 * 0)).take 20).all (a_rowok 108) = true := by decide +kernel
theorem a_ok108_1 : ((a_c108.drop (20 * 1)).take 20).all (a_rowok 108) = true := by decide +kernel
set_option maxRecDepth 100000 in
theorem a_ok108 : ∀ r ∈ a_c108, a_rowok 108 r = true := a_all20 2 (Nat.le_of_ble_eq_true rfl) (fun j hj => by
  match j, hj with
  | 0, _ => exact a_ok108_0
  | 1, _ => exact a_ok108_1
  | j + 2, h => exact absurd h (by omega))
theorem a_ok109_0 : ((a_c109.drop (20 * 0)).take 20).all (a_rowok 109) = true := by decide +kernel
theorem a_ok109_1 : ((a_c109.drop (20 * 1)).take 20).all (a_rowok 109) = true := by decide +kernel
theorem a_ok109_2 : ((a_c109.drop (20 * 2)).take 20).all (a_rowok 109) = true := by decide +kernel
set_option maxRecDepth 100000 in
theorem a_ok109 : ∀ r ∈ a_c109, a_rowok 109 r = true := a_all20 3 (Nat.le_of_ble_eq_true rfl) (fun j hj => by
  match j, hj with
  | 0, _ => exact a_ok109_0
  | 1, _ => exact a_ok109_1
  | 2, _ => exact a_ok109_2
  | j + 3, h => exact absurd h (by omega))
theorem a_ok110_0 : ((a_c110.drop (20 * 0)).take 20).all (a_rowok 110) = true := by decide +kernel
theorem a_ok110_1 : ((a_c110.drop (20 * 1)).take 20).all (a_rowok 110) = true := by decide +kernel
theorem a_ok110_2 : ((a_c110.drop (20 * 2)).take 20).all (a_rowok 110) = true := by decide +kernel
theorem a_ok110_3 : ((a_c110.drop (20 * 3)).take 20).all (a_rowok 110) = true := by decide +kernel
set_option maxRecDepth 100000 in
theorem a_ok110 : ∀ r ∈ a_c110, a_rowok 110 r = true := a_all20 4 (Nat.le_of_ble_eq_true rfl) (fun j hj => by
  match j, hj with
  | 0, _ => exact a_ok110_0
  | 1, _ => exact a_ok110_1
  | 2, _ => exact a_ok110_2
  | 3, _ => exact a_ok110_3
  | j + 4, h => exact absurd h (by omega))
theorem a_ok111_0 : ((a_c111.drop (20 * 0)).take 20).all (a_rowok 111) = true := by decide +kernel
theorem a_ok111_1 : ((a_c111.drop (20 * 1)).take 20).all (a_rowok 111) = true := by decide +kernel
set_option maxRecDepth 100000 in
theorem a_ok111 : ∀ r ∈ a_c111, a_rowok 111 r = true := a_all20 2 (Nat.le_of_ble_eq_true rfl) (fun j hj => by
  match j, hj with
  | 0, _ => exact a_ok111_0
  | 1, _ => exact a_ok111_1
  | j + 2, h => exact absurd h (by omega))
theorem a_ok112_0 : ((a_c112.drop (20 * 0)).take 20).all (a_rowok 112) = true := by decide +kernel
set_option maxRecDepth 100000 in
theorem a_ok112 : ∀ r ∈ a_c112, a_rowok 112 r = true := a_all20 1 (Nat.le_of_ble_eq_true rfl) (fun j hj => by
  match j, hj with
  | 0, _ => exact a_ok112_0
  | j + 1, h => exact absurd h (by omega))
theorem a_ok113_0 : ((a_c113.drop (20 * 0)).take 20).all (a_rowok 113) = true := by decide +kernel
set_option maxRecDepth 100000 in
theorem a_ok113 : ∀ r ∈ a_c113, a_rowok 113 r = true := a_all20 1 (Nat.le_of_ble_eq_true rfl) (fun j hj => by
  match j, hj with
  | 0, _ => exact a_ok113_0
  | j + 1, h => exact absurd h (by omega))
theorem a_ok114_0 : ((a_c114.drop (20 * 0)).take 20).all (a_rowok 114) = true := by decide +kernel
set_option maxRecDepth 100000 in
theorem a_ok114 : ∀ r ∈ a_c114, a_rowok 114 r = true := a_all20 1 (Nat.le_of_ble_eq_true rfl) (fun j hj => by
  match j, hj with
  | 0, _ => exact a_ok114_0
  | j + 1, h => exact absurd h (by omega))
theorem a_ok115_0 : ((a_c115.drop (20 * 0)).take 20).all (a_rowok 115) = true := by decide +kernel
theorem a_ok115_1 : ((a_c115.drop (20 * 1)).take 20).all (a_rowok 115) = true := by decide +kernel
set_option maxRecDepth 100000 in
theorem a_ok115 : ∀ r ∈ a_c115, a_rowok 115 r = true := a_all20 2 (Nat.le_of_ble_eq_true rfl) (fun j hj => by
  match j, hj with
  | 0, _ => exact a_ok115_0
  | 1, _ => exact a_ok115_1
  | j + 2, h => exact absurd h (by omega))
theorem a_ok116_0 : ((a_c116.drop (20 * 0)).take 20).all (a_rowok 116) = true := by decide +kernel
theorem a_ok116_1 : ((a_c116.drop (20 * 1)).take 20).all (a_rowok 116) = true := by decide +kernel
set_option maxRecDepth 100000 in
theorem a_ok116 : ∀ r ∈ a_c116, a_rowok 116 r = true := a_all20 2 (Nat.le_of_ble_eq_true rfl) (fun j hj => by
  match j, hj with
  | 0, _ => exact a_ok116_0
  | 1, _ => exact a_ok116_1
  | j + 2, h => exact absurd h (by omega))
theorem a_ok117_0 : ((a_c117.drop (20 * 0)).take 20).all (a_rowok 117) = true := by decide +kernel
theorem a_ok117_1 : ((a_c117.drop (20 * 1)).take 20).all (a_rowok 117) = true := by decide +kernel
set_option maxRecDepth 100000 in
theorem a_ok117 : ∀ r ∈ a_c117, a_rowok 117 r = true := a_all20 2 (Nat.le_of_ble_eq_true rfl) (fun j hj => by
  match j, hj with
  | 0, _ => exact a_ok117_0
  | 1, _ => exact a_ok117_1
  | j + 2, h => exact absurd h (by omega))
theorem a_ok118_0 : ((a_c118.drop (20 * 0)).take 20).all (a_rowok 118) = true := by decide +kernel
theorem a_ok118_1 : ((a_c118.drop (20 * 1)).take 20).all (a_rowok 118) = true := by decide +kernel
set_option maxRecDepth 100000 in
theorem a_ok118 : ∀ r ∈ a_c118, a_rowok 118 r = true := a_all20 2 (Nat.le_of_ble_eq_true rfl) (fun j hj => by
  match j, hj with
  | 0, _ => exact a_ok118_0
  | 1, _ => exact a_ok118_1
  | j + 2, h => exact absurd h (by omega))
theorem a_ok119_0 : ((a_c119.drop (20 * 0)).take 20).all (a_rowok 119) = true := by decide +kernel
set_option maxRecDepth 100000 in
theorem a_ok119 : ∀ r ∈ a_c119, a_rowok 119 r = true := a_all20 1 (Nat.le_of_ble_eq_true rfl) (fun j hj => by
  match j, hj with
  | 0, _ => exact a_ok119_0
  | j + 1, h => exact absurd h (by omega))
theorem a_ok120_0 : ((a_c120.drop (20 * 0)).take 20).all (a_rowok 120) = true := by decide +kernel
set_option maxRecDepth 100000 in
theorem a_ok120 : ∀ r ∈ a_c120, a_rowok 120 r = true := a_all20 1 (Nat.le_of_ble_eq_true rfl) (fun j hj => by
  match j, hj with
  | 0, _ => exact a_ok120_0
  | j + 1, h => exact absurd h (by omega))
theorem a_ok121_0 : ((a_c121.drop (20 * 0)).take 20).all (a_rowok 121) = true := by decide +kernel
theorem a_ok121_1 : ((a_c121.drop (20 * 1)).take 20).all (a_rowok 121) = true := by decide +kernel
set_option maxRecDepth 100000 in
theorem a_ok121 : ∀ r ∈ a_c121, a_rowok 121 r = true := a_all20 2 (Nat.le_of_ble_eq_true rfl) (fun j hj => by
  match j, hj with
  | 0, _ => exact a_ok121_0
  | 1, _ => exact a_ok121_1
  | j + 2, h => exact absurd h (by omega))
theorem a_ok122_0 : ((a_c122.drop (20 * 0)).take 20).all (a_rowok 122) = true := by decide +kernel
set_option maxRecDepth 100000 in
theorem a_ok122 : ∀ r ∈ a_c122, a_rowok 122 r = true := a_all20 1 (Nat.le_of_ble_eq_true rfl) (fun j hj => by
  match j, hj with
  | 0, _ => exact a_ok122_0
  | j + 1, h => exact absurd h (by omega))
theorem a_ok123_0 : ((a_c123.drop (20 * 0)).take 20).all (a_rowok 123) = true := by decide +kernel
theorem a_ok123_1 : ((a_c123.drop (20 * 1)).take 20).all (a_rowok 123) = true := by decide +kernel
theorem a_ok123_2 : ((a_c123.drop (20 * 2)).take 20).all (a_rowok 123) = true := by decide +kernel
set_option maxRecDepth 100000 in
theorem a_ok123 : ∀ r ∈ a_c123, a_rowok 123 r = true := a_all20 3 (Nat.le_of_ble_eq_true rfl) (fun j hj => by
  match j, hj with
  | 0, _ => exact a_ok123_0
  | 1, _ => exact a_ok123_1
  | 2, _ => exact a_ok123_2
  | j + 3, h => exact absurd h (by omega))
theorem a_ok124_0 : ((a_c124.drop (20 * 0)).take 20).all (a_rowok 124) = true := by decide +kernel
set_option maxRecDepth 100000 in
theorem a_ok124 : ∀ r ∈ a_c124, a_rowok 124 r = true := a_all20 1 (Nat.le_of_ble_eq_true rfl) (fun j hj => by
  match j, hj with
  | 0, _ => exact a_ok124_0
  | j + 1, h => exact absurd h (by omega))
theorem a_ok125_0 : ((a_c125.drop (20 * 0)).take 20).all (a_rowok 125) = true := by decide +kernel
theorem a_ok125_1 : ((a_c125.drop (20 * 1)).take 20).all (a_rowok 125) = true := by decide +kernel
set_option maxRecDepth 100000 in
theorem a_ok125 : ∀ r ∈ a_c125, a_rowok 125 r = true := a_all20 2 (Nat.le_of_ble_eq_true rfl) (fun j hj => by
  match j, hj with
  | 0, _ => exact a_ok125_0
  | 1, _ => exact a_ok125_1
  | j + 2, h => exact absurd h (by omega))
theorem a_ok126_0 : ((a_c126.drop (20 * 0)).take 20).all (a_rowok 126) = true := by decide +kernel
set_option maxRecDepth 100000 in
theorem a_ok126 : ∀ r ∈ a_c126, a_rowok 126 r = true := a_all20 1 (Nat.le_of_ble_eq_true rfl) (fun j hj => by
  match j, hj with
  | 0, _ => exact a_ok126_0
  | j + 1, h => exact absurd h (by omega))
theorem a_ok127_0 : ((a_c127.drop (20 * 0)).take 20).all (a_rowok 127) = true := by decide +kernel
theorem a_ok127_1 : ((a_c127.drop (20 * 1)).take 20).all (a_rowok 127) = true := by decide +kernel
theorem a_ok127_2 : ((a_c127.drop (20 * 2)).take 20).all (a_rowok 127) = true := by decide +kernel
set_option maxRecDepth 100000 in
theorem a_ok127 : ∀ r ∈ a_c127, a_rowok 127 r = true := a_all20 3 (Nat.le_of_ble_eq_true rfl) (fun j hj => by
  match j, hj with
  | 0, _ => exact a_ok127_0
  | 1, _ => exact a_ok127_1
  | 2, _ => exact a_ok127_2
  | j + 3, h => exact absurd h (by omega))
theorem a_ok128_0 : ((a_c128.drop (20 * 0)).take 20).all (a_rowok 128) = true := by decide +kernel
theorem a_ok128_1 : ((a_c128.drop (20 * 1)).take 20).all (a_rowok 128) = true := by decide +kernel
set_option maxRecDepth 100000 in
theorem a_ok128 : ∀ r ∈ a_c128, a_rowok 128 r = true := a_all20 2 (Nat.le_of_ble_eq_true rfl) (fun j hj => by
  match j, hj with
  | 0, _ => exact a_ok128_0
  | 1, _ => exact a_ok128_1
  | j + 2, h => exact absurd h (by omega))
theorem a_ok129_0 : ((a_c129.drop (20 * 0)).take 20).all (a_rowok 129) = true := by decide +kernel
theorem a_ok129_1 : ((a_c129.drop (20 * 1)).take 20).all (a_rowok 129) = true := by decide +kernel
theorem a_ok129_2 : ((a_c129.drop (20 * 2)).take 20).all (a_rowok 129) = true := by decide +kernel
theorem a_ok129_3 : ((a_c129.drop (20 * 3)).take 20).all (a_rowok 129) = true := by decide +kernel
theorem a_ok129_4 : ((a_c129.drop (20 * 4)).take 20).all (a_rowok 129) = true := by decide +kernel
theorem a_ok129_5 : ((a_c129.drop (20 * 5)).take 20).all (a_rowok 129) = true := by decide +kernel
theorem a_ok129_6 : ((a_c129.drop (20 * 6)).take 20).all (a_rowok 129) = true := by decide +kernel
set_option maxRecDepth 100000 in
theorem a_ok129 : ∀ r ∈ a_c129, a_rowok 129 r = true := a_all20 7 (Nat.le_of_ble_eq_true rfl) (fun j hj => by
  match j, hj with
  | 0, _ => exact a_ok129_0
  | 1, _ => exact a_ok129_1
  | 2, _ => exact a_ok129_2
  | 3, _ => exact a_ok129_3
  | 4, _ => exact a_ok129_4
  | 5, _ => exact a_ok129_5
  | 6, _ => exact a_ok129_6
  | j + 7, h => exact absurd h (by omega))
theorem a_ok130_0 : ((a_c130.drop (20 * 0)).take 20).all (a_rowok 130) = true := by decide +kernel
theorem a_ok130_1 : ((a_c130.drop (20 * 1)).take 20).all (a_rowok 130) = true := by decide +kernel
theorem a_ok130_2 : ((a_c130.drop (20 * 2)).take 20).all (a_rowok 130) = true := by decide +kernel
set_option maxRecDepth 100000 in
theorem a_ok130 : ∀ r ∈ a_c130, a_rowok 130 r = true := a_all20 3 (Nat.le_of_ble_eq_true rfl) (fun j hj => by
  match j, hj with
  | 0, _ => exact a_ok130_0
  | 1, _ => exact a_ok130_1
  | 2, _ => exact a_ok130_2
  | j + 3, h => exact absurd h (by omega))
theorem a_ok131_0 : ((a_c131.drop (20 * 0)).take 20).all (a_rowok 131) = true := by decide +kernel
set_option maxRecDepth 100000 in
theorem a_ok131 : ∀ r ∈ a_c131, a_rowok 131 r = true := a_all20 1 (Nat.le_of_ble_eq_true rfl) (fun j hj => by
  match j, hj with
  | 0, _ => exact a_ok131_0
  | j + 1, h => exact absurd h (by omega))
theorem a_ok132_0 : ((a_c132.drop (20 * 0)).take 20).all (a_rowok 132) = true := by decide +kernel
theorem a_ok132_1 : ((a_c132.drop (20 * 1)).take 20).all (a_rowok 132) = true := by decide +kernel
theorem a_ok132_2 : ((a_c132.drop (20 * 2)).take 20).all (a_rowok 132) = true := by decide +kernel
set_option maxRecDepth 100000 in
theorem a_ok132 : ∀ r ∈ a_c132, a_rowok 132 r = true := a_all20 3 (Nat.le_of_ble_eq_true rfl) (fun j hj => by
  match j, hj with
  | 0, _ => exact a_ok132_0
  | 1, _ => exact a_ok132_1
  | 2, _ => exact a_ok132_2
  | j + 3, h => exact absurd h (by omega))
theorem a_ok133_0 : ((a_c133.drop (20 * 0)).take 20).all (a_rowok 133) = true := by decide +kernel
set_option maxRecDepth 100000 in
theorem a_ok133 : ∀ r ∈ a_c133, a_rowok 133 r = true := a_all20 1 (Nat.le_of_ble_eq_true rfl) (fun j hj => by
  match j, hj with
  | 0, _ => exact a_ok133_0
  | j + 1, h => exact absurd h (by omega))
theorem a_ok134_0 : ((a_c134.drop (20 * 0)).take 20).all (a_rowok 134) = true := by decide +kernel
set_option maxRecDepth 100000 in
theorem a_ok134 : ∀ r ∈ a_c134, a_rowok 134 r = true := a_all20 1 (Nat.le_of_ble_eq_true rfl) (fun j hj => by
  match j, hj with
  | 0, _ => exact a_ok134_0
  | j + 1, h => exact absurd h (by omega))
theorem a_ok135_0 : ((a_c135.drop (20 * 0)).take 20).all (a_rowok 135) = true := by decide +kernel
theorem a_ok135_1 : ((a_c135.drop (20 * 1)).take 20).all (a_rowok 135) = true := by decide +kernel
set_option maxRecDepth 100000 in
theorem a_ok135 : ∀ r ∈ a_c135, a_rowok 135 r = true := a_all20 2 (Nat.le_of_ble_eq_true rfl) (fun j hj => by
  match j, hj with
  | 0, _ => exact a_ok135_0
  | 1, _ => exact a_ok135_1
  | j + 2, h => exact absurd h (by omega))
theorem a_ok136_0 : ((a_c136.drop (20 * 0)).take 20).all (a_rowok 136) = true := by decide +kernel
theorem a_ok136_1 : ((a_c136.drop (20 * 1)).take 20).all (a_rowok 136) = true := by decide +kernel
theorem a_ok136_2 : ((a_c136.drop (20 * 2)).take 20).all (a_rowok 136) = true := by decide +kernel
set_option maxRecDepth 100000 in
theorem a_ok136 : ∀ r ∈ a_c136, a_rowok 136 r = true := a_all20 3 (Nat.le_of_ble_eq_true rfl) (fun j hj => by
  match j, hj with
  | 0, _ => exact a_ok136_0
  | 1, _ => exact a_ok136_1
  | 2, _ => exact a_ok136_2
  | j + 3, h => exact absurd h (by omega))
theorem a_ok137_0 : ((a_c137.drop (20 * 0)).take 20).all (a_rowok 137) = true := by decide +kernel
theorem a_ok137_1 : ((a_c137.drop (20 * 1)).take 20).all (a_rowok 137) = true := by decide +kernel
theorem a_ok137_2 : ((a_c137.drop (20 * 2)).take 20).all (a_rowok 137) = true := by decide +kernel
set_option maxRecDepth 100000 in
theorem a_ok137 : ∀ r ∈ a_c137, a_rowok 137 r = true := a_all20 3 (Nat.le_of_ble_eq_true rfl) (fun j hj => by
  match j, hj with
  | 0, _ => exact a_ok137_0
  | 1, _ => exact a_ok137_1
  | 2, _ => exact a_ok137_2
  | j + 3, h => exact absurd h (by omega))
theorem a_ok138_0 : ((a_c138.drop (20 * 0)).take 20).all (a_rowok 138) = true := by decide +kernel
set_option maxRecDepth 100000 in
theorem a_ok138 : ∀ r ∈ a_c138, a_rowok 138 r = true := a_all20 1 (Nat.le_of_ble_eq_true rfl) (fun j hj => by
  match j, hj with
  | 0, _ => exact a_ok138_0
  | j + 1, h => exact absurd h (by omega))
theorem a_ok139_0 : ((a_c139.drop (20 * 0)).take 20).all (a_rowok 139) = true := by decide +kernel
theorem a_ok139_1 : ((a_c139.drop (20 * 1)).take 20).all (a_rowok 139) = true := by decide +kernel
set_option maxRecDepth 100000 in
theorem a_ok139 : ∀ r ∈ a_c139, a_rowok 139 r = true := a_all20 2 (Nat.le_of_ble_eq_true rfl) (fun j hj => by
  match j, hj with
  | 0, _ => exact a_ok139_0
  | 1, _ => exact a_ok139_1
  | j + 2, h => exact absurd h (by omega))
theorem a_ok140_0 : ((a_c140.drop (20 * 0)).take 20).all (a_rowok 140) = true := by decide +kernel
theorem a_ok140_1 : ((a_c140.drop (20 * 1)).take 20).all (a_rowok 140) = true := by decide +kernel
theorem a_ok140_2 : ((a_c140.drop (20 * 2)).take 20).all (a_rowok 140) = true := by decide +kernel
set_option maxRecDepth 100000 in
theorem a_ok140 : ∀ r ∈ a_c140, a_rowok 140 r = true := a_all20 3 (Nat.le_of_ble_eq_true rfl) (fun j hj => by
  match j, hj with
  | 0, _ => exact a_ok140_0
  | 1, _ => exact a_ok140_1
  | 2, _ => exact a_ok140_2
  | j + 3, h => exact absurd h (by omega))
theorem a_ok141_0 : ((a_c141.drop (20 * 0)).take 20).all (a_rowok 141) = true := by decide +kernel
set_option maxRecDepth 100000 in
theorem a_ok141 : ∀ r ∈ a_c141, a_rowok 141 r = true := a_all20 1 (Nat.le_of_ble_eq_true rfl) (fun j hj => by
  match j, hj with
  | 0, _ => exact a_ok141_0
  | j + 1, h => exact absurd h (by omega))
theorem a_ok142_0 : ((a_c142.drop (20 * 0)).take 20).all (a_rowok 142) = true := by decide +kernel
set_option maxRecDepth 100000 in
theorem a_ok142 : ∀ r ∈ a_c142, a_rowok 142 r = true := a_all20 1 (Nat.le_of_ble_eq_true rfl) (fun j hj => by
  match j, hj with
  | 0, _ => exact a_ok142_0
  | j + 1, h => exact absurd h (by omega))
theorem a_ok143_0 : ((a_c143.drop (20 * 0)).take 20).all (a_rowok 143) = true := by decide +kernel
theorem a_ok143_1 : ((a_c143.drop (20 * 1)).take 20).all (a_rowok 143) = true := by decide +kernel
theorem a_ok143_2 : ((a_c143.drop (20 * 2)).take 20).all (a_rowok 143) = true := by decide +kernel
theorem a_ok143_3 : ((a_c143.drop (20 * 3)).take 20).all (a_rowok 143) = true := by decide +kernel
set_option maxRecDepth 100000 in
theorem a_ok143 : ∀ r ∈ a_c143, a_rowok 143 r = true := a_all20 4 (Nat.le_of_ble_eq_true rfl) (fun j hj => by
  match j, hj with
  | 0, _ => exact a_ok143_0
  | 1, _ => exact a_ok143_1
  | 2, _ => exact a_ok143_2
  | 3, _ => exact a_ok143_3
  | j + 4, h => exact absurd h (by omega))
theorem a_ok144_0 : ((a_c144.drop (20 * 0)).take 20).all (a_rowok 144) = true := by decide +kernel
theorem a_ok144_1 : ((a_c144.drop (20 * 1)).take 20).all (a_rowok 144) = true := by decide +kernel
theorem a_ok144_2 : ((a_c144.drop (20 * 2)).take 20).all (a_rowok 144) = true := by decide +kernel
theorem a_ok144_3 : ((a_c144.drop (20 * 3)).take 20).all (a_rowok 144) = true := by decide +kernel
set_option maxRecDepth 100000 in
theorem a_ok144 : ∀ r ∈ a_c144, a_rowok 144 r = true := a_all20 4 (Nat.le_of_ble_eq_true rfl) (fun j hj => by
  match j, hj with
  | 0, _ => exact a_ok144_0
  | 1, _ => exact a_ok144_1
  | 2, _ => exact a_ok144_2
  | 3, _ => exact a_ok144_3
  | j + 4, h => exact absurd h (by omega))
theorem a_ok145_0 : ((a_c145.drop (20 * 0)).take 20).all (a_rowok 145) = true := by decide +kernel
set_option maxRecDepth 100000 in
theorem a_ok145 : ∀ r ∈ a_c145, a_rowok 145 r = true := a_all20 1 (Nat.le_of_ble_eq_true rfl) (fun j hj => by
  match j, hj with
  | 0, _ => exact a_ok145_0
  | j + 1, h => exact absurd h (by omega))
theorem a_ok146_0 : ((a_c146.drop (20 * 0)).take 20).all (a_rowok 146) = true := by decide +kernel
theorem a_ok146_1 : ((a_c146.drop (20 * 1)).take 20).all (a_rowok 146) = true := by decide +kernel
set_option maxRecDepth 100000 in
theorem a_ok146 : ∀ r ∈ a_c146, a_rowok 146 r = true := a_all20 2 (Nat.le_of_ble_eq_true rfl) (fun j hj => by
  match j, hj with
  | 0, _ => exact a_ok146_0
  | 1, _ => exact a_ok146_1
  | j + 2, h => exact absurd h (by omega))
theorem a_ok147_0 : ((a_c147.drop (20 * 0)).take 20).all (a_rowok 147) = true := by decide +kernel
set_option maxRecDepth 100000 in
theorem a_ok147 : ∀ r ∈ a_c147, a_rowok 147 r = true := a_all20 1 (Nat.le_of_ble_eq_true rfl) (fun j hj => by
  match j, hj with
  | 0, _ => exact a_ok147_0
  | j + 1, h => exact absurd h (by omega))
theorem a_ok148_0 : ((a_c148.drop (20 * 0)).take 20).all (a_rowok 148) = true := by decide +kernel
set_option maxRecDepth 100000 in
theorem a_ok148 : ∀ r ∈ a_c148, a_rowok 148 r = true := a_all20 1 (Nat.le_of_ble_eq_true rfl) (fun j hj => by
  match j, hj with
  | 0, _ => exact a_ok148_0
  | j + 1, h => exact absurd h (by omega))
theorem a_ok149_0 : ((a_c149.drop (20 * 0)).take 20).all (a_rowok 149) = true := by decide +kernel
set_option maxRecDepth 100000 in
theorem a_ok149 : ∀ r ∈ a_c149, a_rowok 149 r = true := a_all20 1 (Nat.le_of_ble_eq_true rfl) (fun j hj => by
  match j, hj with
  | 0, _ => exact a_ok149_0
  | j + 1, h => exact absurd h (by omega))
theorem a_ok150_0 : ((a_c150.drop (20 * 0)).take 20).all (a_rowok 150) = true := by decide +kernel
set_option maxRecDepth 100000 in
theorem a_ok150 : ∀ r ∈ a_c150, a_rowok 150 r = true := a_all20 1 (Nat.le_of_ble_eq_true rfl) (fun j hj => by
  match j, hj with
  | 0, _ => exact a_ok150_0
  | j + 1, h => exact absurd h (by omega))
theorem a_ok151_0 : ((a_c151.drop (20 * 0)).take 20).all (a_rowok 151) = true := by decide +kernel
theorem a_ok151_1 : ((a_c151.drop (20 * 1)).take 20).all (a_rowok 151) = true := by decide +kernel
theorem a_ok151_2 : ((a_c151.drop (20 * 2)).take 20).all (a_rowok 151) = true := by decide +kernel
set_option maxRecDepth 100000 in
theorem a_ok151 : ∀ r ∈ a_c151, a_rowok 151 r = true := a_all20 3 (Nat.le_of_ble_eq_true rfl) (fun j hj => by
  match j, hj with
  | 0, _ => exact a_ok151_0
  | 1, _ => exact a_ok151_1
  | 2, _ => exact a_ok151_2
  | j + 3, h => exact absurd h (by omega))
theorem a_ok152_0 : ((a_c152.drop (20 * 0)).take 20).all (a_rowok 152) = true := by decide +kernel
set_option maxRecDepth 100000 in
theorem a_ok152 : ∀ r ∈ a_c152, a_rowok 152 r = true := a_all20 1 (Nat.le_of_ble_eq_true rfl) (fun j hj => by
  match j, hj with
  | 0, _ => exact a_ok152_0
  | j + 1, h => exact absurd h (by omega))
theorem a_ok153_0 : ((a_c153.drop (20 * 0)).take 20).all (a_rowok 153) = true := by decide +kernel
theorem a_ok153_1 : ((a_c153.drop (20 * 1)).take 20).all (a_rowok 153) = true := by decide +kernel
set_option maxRecDepth 100000 in
theorem a_ok153 : ∀ r ∈ a_c153, a_rowok 153 r = true := a_all20 2 (Nat.le_of_ble_eq_true rfl) (fun j hj => by
  match j, hj with
  | 0, _ => exact a_ok153_0
  | 1, _ => exact a_ok153_1
  | j + 2, h => exact absurd h (by omega))
theorem a_ok154_0 : ((a_c154.drop (20 * 0)).take 20).all (a_rowok 154) = true := by decide +kernel
set_option maxRecDepth 100000 in
theorem a_ok154 : ∀ r ∈ a_c154, a_rowok 154 r = true := a_all20 1 (Nat.le_of_ble_eq_true rfl) (fun j hj => by
  match j, hj with
  | 0, _ => exact a_ok154_0
  | j + 1, h => exact absurd h (by omega))
theorem a_ok155_0 : ((a_c155.drop (20 * 0)).take 20).all (a_rowok 155) = true := by decide +kernel
set_option maxRecDepth 100000 in
theorem a_ok155 : ∀ r ∈ a_c155, a_rowok 155 r = true := a_all20 1 (Nat.le_of_ble_eq_true rfl) (fun j hj => by
  match j, hj with
  | 0, _ => exact a_ok155_0
  | j + 1, h => exact absurd h (by omega))
theorem a_ok156_0 : ((a_c156.drop (20 * 0)).take 20).all (a_rowok 156) = true := by decide +kernel
theorem a_ok156_1 : ((a_c156.drop (20 * 1)).take 20).all (a_rowok 156) = true := by decide +kernel
theorem a_ok156_2 : ((a_c156.drop (20 * 2)).take 20).all (a_rowok 156) = true := by decide +kernel
set_option maxRecDepth 100000 in
theorem a_ok156 : ∀ r ∈ a_c156, a_rowok 156 r = true := a_all20 3 (Nat.le_of_ble_eq_true rfl) (fun j hj => by
  match j, hj with
  | 0, _ => exact a_ok156_0
  | 1, _ => exact a_ok156_1
  | 2, _ => exact a_ok156_2
  | j + 3, h => exact absurd h (by omega))
theorem a_ok157_0 : ((a_c157.drop (20 * 0)).take 20).all (a_rowok 157) = true := by decide +kernel
set_option maxRecDepth 100000 in
theorem a_ok157 : ∀ r ∈ a_c157, a_rowok 157 r = true := a_all20 1 (Nat.le_of_ble_eq_true rfl) (fun j hj => by
  match j, hj with
  | 0, _ => exact a_ok157_0
  | j + 1, h => exact absurd h (by omega))
theorem a_ok158_0 : ((a_c158.drop (20 * 0)).take 20).all (a_rowok 158) = true := by decide +kernel
theorem a_ok158_1 : ((a_c158.drop (20 * 1)).take 20).all (a_rowok 158) = true := by decide +kernel
set_option maxRecDepth 100000 in
theorem a_ok158 : ∀ r ∈ a_c158, a_rowok 158 r = true := a_all20 2 (Nat.le_of_ble_eq_true rfl) (fun j hj => by
  match j, hj with
  | 0, _ => exact a_ok158_0
  | 1, _ => exact a_ok158_1
  | j + 2, h => exact absurd h (by omega))
theorem a_ok159_0 : ((a_c159.drop (20 * 0)).take 20).all (a_rowok 159) = true := by decide +kernel
set_option maxRecDepth 100000 in
theorem a_ok159 : ∀ r ∈ a_c159, a_rowok 159 r = true := a_all20 1 (Nat.le_of_ble_eq_true rfl) (fun j hj => by
  match j, hj with
  | 0, _ => exact a_ok159_0
  | j + 1, h => exact absurd h (by omega))
theorem a_ok160_0 : ((a_c160.drop (20 * 0)).take 20).all (a_rowok 160) = true := by decide +kernel
theorem a_ok160_1 : ((a_c160.drop (20 * 1)).take 20).all (a_rowok 160) = true := by decide +kernel
set_option maxRecDepth 100000 in
theorem a_ok160 : ∀ r ∈ a_c160, a_rowok 160 r = true := a_all20 2 (Nat.le_of_ble_eq_true rfl) (fun j hj => by
  match j, hj with
  | 0, _ => exact a_ok160_0
  | 1, _ => exact a_ok160_1
  | j + 2, h => exact absurd h (by omega))
theorem a_ok161_0 : ((a_c161.drop (20 * 0)).take 20).all (a_rowok 161) = true := by decide +kernel
set_option maxRecDepth 100000 in
theorem a_ok161 : ∀ r ∈ a_c161, a_rowok 161 r = true := a_all20 1 (Nat.le_of_ble_eq_true rfl) (fun j hj => by
  match j, hj with
  | 0, _ => exact a_ok161_0
  | j + 1, h => exact absurd h (by omega))
theorem a_ok162_0 : ((a_c162.drop (20 * 0)).take 20).all (a_rowok 162) = true := by decide +kernel
theorem a_ok162_1 : ((a_c162.drop (20 * 1)).take 20).all (a_rowok 162) = true := by decide +kernel
theorem a_ok162_2 : ((a_c162.drop (20 * 2)).take 20).all (a_rowok 162) = true := by decide +kernel
set_option maxRecDepth 100000 in
theorem a_ok162 : ∀ r ∈ a_c162, a_rowok 162 r = true := a_all20 3 (Nat.le_of_ble_eq_true rfl) (fun j hj => by
  match j, hj with
  | 0, _ => exact a_ok162_0
  | 1, _ => exact a_ok162_1
  | 2, _ => exact a_ok162_2
  | j + 3, h => exact absurd h (by omega))
theorem a_ok163_0 : ((a_c163.drop (20 * 0)).take 20).all (a_rowok 163) = true := by decide +kernel
set_option maxRecDepth 100000 in
theorem a_ok163 : ∀ r ∈ a_c163, a_rowok 163 r = true := a_all20 1 (Nat.le_of_ble_eq_true rfl) (fun j hj => by
  match j, hj with
  | 0, _ => exact a_ok163_0
  | j + 1, h => exact absurd h (by omega))
theorem a_ok164_0 : ((a_c164.drop (20 * 0)).take 20).all (a_rowok 164) = true := by decide +kernel
theorem a_ok164_1 : ((a_c164.drop (20 * 1)).take 20).all (a_rowok 164) = true := by decide +kernel
theorem a_ok164_2 : ((a_c164.drop (20 * 2)).take 20).all (a_rowok 164) = true := by decide +kernel
theorem a_ok164_3 : ((a_c164.drop (20 * 3)).take 20).all (a_rowok 164) = true := by decide +kernel
theorem a_ok164_4 : ((a_c164.drop (20 * 4)).take 20).all (a_rowok 164) = true := by decide +kernel
theorem a_ok164_5 : ((a_c164.drop (20 * 5)).take 20).all (a_rowok 164) = true := by decide +kernel
set_option maxRecDepth 100000 in
theorem a_ok164 : ∀ r ∈ a_c164, a_rowok 164 r = true := a_all20 6 (Nat.le_of_ble_eq_true rfl) (fun j hj => by
  match j, hj with
  | 0, _ => exact a_ok164_0
  | 1, _ => exact a_ok164_1
  | 2, _ => exact a_ok164_2
  | 3, _ => exact a_ok164_3
  | 4, _ => exact a_ok164_4
  | 5, _ => exact a_ok164_5
  | j + 6, h => exact absurd h (by omega))
theorem a_ok165_0 : ((a_c165.drop (20 * 0)).take 20).all (a_rowok 165) = true := by decide +kernel
set_option maxRecDepth 100000 in
theorem a_ok165 : ∀ r ∈ a_c165, a_rowok 165 r = true := a_all20 1 (Nat.le_of_ble_eq_true rfl) (fun j hj => by
  match j, hj with
  | 0, _ => exact a_ok165_0
  | j + 1, h => exact absurd h (by omega))
theorem a_ok166_0 : ((a_c166.drop (20 * 0)).take 20).all (a_rowok 166) = true := by decide +kernel
set_option maxRecDepth 100000 in
theorem a_ok166 : ∀ r ∈ a_c166, a_rowok 166 r = true := a_all20 1 (Nat.le_of_ble_eq_true rfl) (fun j hj => by
  match j, hj with
  | 0, _ => exact a_ok166_0
  | j + 1, h => exact absurd h (by omega))
theorem a_ok167_0 : ((a_c167.drop (20 * 0)).take 20).all (a_rowok 167) = true := by decide +kernel
theorem a_ok167_1 : ((a_c167.drop (20 * 1)).take 20).all (a_rowok 167) = true := by decide +kernel
set_option maxRecDepth 100000 in
theorem a_ok167 : ∀ r ∈ a_c167, a_rowok 167 r = true := a_all20 2 (Nat.le_of_ble_eq_true rfl) (fun j hj => by
  match j, hj with
  | 0, _ => exact a_ok167_0
  | 1, _ => exact a_ok167_1
  | j + 2, h => exact absurd h (by omega))
theorem a_ok168_0 : ((a_c168.drop (20 * 0)).take 20).all (a_rowok 168) = true := by decide +kernel
theorem a_ok168_1 : ((a_c168.drop (20 * 1)).take 20).all (a_rowok 168) = true := by decide +kernel
theorem a_ok168_2 : ((a_c168.drop (20 * 2)).take 20).all (a_rowok 168) = true := by decide +kernel
theorem a_ok168_3 : ((a_c168.drop (20 * 3)).take 20).all (a_rowok 168) = true := by decide +kernel
theorem a_ok168_4 : ((a_c168.drop (20 * 4)).take 20).all (a_rowok 168) = true := by decide +kernel
set_option maxRecDepth 100000 in
theorem a_ok168 : ∀ r ∈ a_c168, a_rowok 168 r = true := a_all20 5 (Nat.le_of_ble_eq_true rfl) (fun j hj => by
  match j, hj with
  | 0, _ => exact a_ok168_0
  | 1, _ => exact a_ok168_1
  | 2, _ => exact a_ok168_2
  | 3, _ => exact a_ok168_3
  | 4, _ => exact a_ok168_4
  | j + 5, h => exact absurd h (by omega))
theorem a_ok169_0 : ((a_c169.drop (20 * 0)).take 20).all (a_rowok 169) = true := by decide +kernel
theorem a_ok169_1 : ((a_c169.drop (20 * 1)).take 20).all (a_rowok 169) = true := by decide +kernel
set_option maxRecDepth 100000 in
theorem a_ok169 : ∀ r ∈ a_c169, a_rowok 169 r = true := a_all20 2 (Nat.le_of_ble_eq_true rfl) (fun j hj => by
  match j, hj with
  | 0, _ => exact a_ok169_0
  | 1, _ => exact a_ok169_1
  | j + 2, h => exact absurd h (by omega))
theorem a_ok170_0 : ((a_c170.drop (20 * 0)).take 20).all (a_rowok 170) = true := by decide +kernel
set_option maxRecDepth 100000 in
theorem a_ok170 : ∀ r ∈ a_c170, a_rowok 170 r = true := a_all20 1 (Nat.le_of_ble_eq_true rfl) (fun j hj => by
  match j, hj with
  | 0, _ => exact a_ok170_0
  | j + 1, h => exact absurd h (by omega))
theorem a_ok171_0 : ((a_c171.drop (20 * 0)).take 20).all (a_rowok 171) = true := by decide +kernel
theorem a_ok171_1 : ((a_c171.drop (20 * 1)).take 20).all (a_rowok 171) = true := by decide +kernel
theorem a_ok171_2 : ((a_c171.drop (20 * 2)).take 20).all (a_rowok 171) = true := by decide +kernel
set_option maxRecDepth 100000 in
theorem a_ok171 : ∀ r ∈ a_c171, a_rowok 171 r = true := a_all20 3 (Nat.le_of_ble_eq_true rfl) (fun j hj => by
  match j, hj with
  | 0, _ => exact a_ok171_0
  | 1, _ => exact a_ok171_1
  | 2, _ => exact a_ok171_2
  | j + 3, h => exact absurd h (by omega))
theorem a_ok172_0 : ((a_c172.drop (20 * 0)).take 20).all (a_rowok 172) = true := by decide +kernel
set_option maxRecDepth 100000 in
theorem a_ok172 : ∀ r ∈ a_c172, a_rowok 172 r = true := a_all20 1 (Nat.le_of_ble_eq_true rfl) (fun j hj => by
  match j, hj with
  | 0, _ => exact a_ok172_0
  | j + 1, h => exact absurd h (by omega))
theorem a_ok173_0 : ((a_c173.drop (20 * 0)).take 20).all (a_rowok 173) = true := by decide +kernel
set_option maxRecDepth 100000 in
theorem a_ok173 : ∀ r ∈ a_c173, a_rowok 173 r = true := a_all20 1 (Nat.le_of_ble_eq_true rfl) (fun j hj => by
  match j, hj with
  | 0, _ => exact a_ok173_0
  | j + 1, h => exact absurd h (by omega))
theorem a_ok174_0 : ((a_c174.drop (20 * 0)).take 20).all (a_rowok 174) = true := by decide +kernel
set_option maxRecDepth 100000 in
theorem a_ok174 : ∀ r ∈ a_c174, a_rowok 174 r = true := a_all20 1 (Nat.le_of_ble_eq_true rfl) (fun j hj => by
  match j, hj with
  | 0, _ => exact a_ok174_0
  | j + 1, h => exact absurd h (by omega))
theorem a_ok175_0 : ((a_c175.drop (20 * 0)).take 20).all (a_rowok 175) = true := by decide +kernel
set_option maxRecDepth 100000 in
theorem a_ok175 : ∀ r ∈ a_c175, a_rowok 175 r = true := a_all20 1 (Nat.le_of_ble_eq_true rfl) (fun j hj => by
  match j, hj with
  | 0, _ => exact a_ok175_0
  | j + 1, h => exact absurd h (by omega))
theorem a_ok176_0 : ((a_c176.drop (20 * 0)).take 20).all (a_rowok 176) = true := by decide +kernel
theorem a_ok176_1 : ((a_c176.drop (20 * 1)).take 20).all (a_rowok 176) = true := by decide +kernel
theorem a_ok176_2 : ((a_c176.drop (20 * 2)).take 20).all (a_rowok 176) = true := by decide +kernel
theorem a_ok176_3 : ((a_c176.drop (20 * 3)).take 20).all (a_rowok 176) = true := by decide +kernel
theorem a_ok176_4 : ((a_c176.drop (20 * 4)).take 20).all (a_rowok 176) = true := by decide +kernel
set_option maxRecDepth 100000 in
theorem a_ok176 : ∀ r ∈ a_c176, a_rowok 176 r = true := a_all20 5 (Nat.le_of_ble_eq_true rfl) (fun j hj => by
  match j, hj with
  | 0, _ => exact a_ok176_0
  | 1, _ => exact a_ok176_1
  | 2, _ => exact a_ok176_2
  | 3, _ => exact a_ok176_3
  | 4, _ => exact a_ok176_4
  | j + 5, h => exact absurd h (by omega))
theorem a_ok177_0 : ((a_c177.drop (20 * 0)).take 20).all (a_rowok 177) = true := by decide +kernel
set_option maxRecDepth 100000 in
theorem a_ok177 : ∀ r ∈ a_c177, a_rowok 177 r = true := a_all20 1 (Nat.le_of_ble_eq_true rfl) (fun j hj => by
  match j, hj with
  | 0, _ => exact a_ok177_0
  | j + 1, h => exact absurd h (by omega))
theorem a_ok178_0 : ((a_c178.drop (20 * 0)).take 20).all (a_rowok 178) = true := by decide +kernel
theorem a_ok178_1 : ((a_c178.drop (20 * 1)).take 20).all (a_rowok 178) = true := by decide +kernel
theorem a_ok178_2 : ((a_c178.drop (20 * 2)).take 20).all (a_rowok 178) = true := by decide +kernel
theorem a_ok178_3 : ((a_c178.drop (20 * 3)).take 20).all (a_rowok 178) = true := by decide +kernel
set_option maxRecDepth 100000 in
theorem a_ok178 : ∀ r ∈ a_c178, a_rowok 178 r = true := a_all20 4 (Nat.le_of_ble_eq_true rfl) (fun j hj => by
  match j, hj with
  | 0, _ => exact a_ok178_0
  | 1, _ => exact a_ok178_1
  | 2, _ => exact a_ok178_2
  | 3, _ => exact a_ok178_3
  | j + 4, h => exact absurd h (by omega))
theorem a_ok179_0 : ((a_c179.drop (20 * 0)).take 20).all (a_rowok 179) = true := by decide +kernel
set_option maxRecDepth 100000 in
theorem a_ok179 : ∀ r ∈ a_c179, a_rowok 179 r = true := a_all20 1 (Nat.le_of_ble_eq_true rfl) (fun j hj => by
  match j, hj with
  | 0, _ => exact a_ok179_0
  | j + 1, h => exact absurd h (by omega))
theorem a_ok180_0 : ((a_c180.drop (20 * 0)).take 20).all (a_rowok 180) = true := by decide +kernel
set_option maxRecDepth 100000 in
theorem a_ok180 : ∀ r ∈ a_c180, a_rowok 180 r = true := a_all20 1 (Nat.le_of_ble_eq_true rfl) (fun j hj => by
  match j, hj with
  | 0, _ => exact a_ok180_0
  | j + 1, h => exact absurd h (by omega))
theorem a_ok181_0 : ((a_c181.drop (20 * 0)).take 20).all (a_rowok 181) = true := by decide +kernel
theorem a_ok181_1 : ((a_c181.drop (20 * 1)).take 20).all (a_rowok 181) = true := by decide +kernel
set_option maxRecDepth 100000 in
theorem a_ok181 : ∀ r ∈ a_c181, a_rowok 181 r = true := a_all20 2 (Nat.le_of_ble_eq_true rfl) (fun j hj => by
  match j, hj with
  | 0, _ => exact a_ok181_0
  | 1, _ => exact a_ok181_1
  | j + 2, h => exact absurd h (by omega))
theorem a_ok182_0 : ((a_c182.drop (20 * 0)).take 20).all (a_rowok 182) = true := by decide +kernel
set_option maxRecDepth 100000 in
theorem a_ok182 : ∀ r ∈ a_c182, a_rowok 182 r = true := a_all20 1 (Nat.le_of_ble_eq_true rfl) (fun j hj => by
  match j, hj with
  | 0, _ => exact a_ok182_0
  | j + 1, h => exact absurd h (by omega))
theorem a_ok183_0 : ((a_c183.drop (20 * 0)).take 20).all (a_rowok 183) = true := by decide +kernel
theorem a_ok183_1 : ((a_c183.drop (20 * 1)).take 20).all (a_rowok 183) = true := by decide +kernel
set_option maxRecDepth 100000 in
theorem a_ok183 : ∀ r ∈ a_c183, a_rowok 183 r = true := a_all20 2 (Nat.le_of_ble_eq_true rfl) (fun j hj => by
  match j, hj with
  | 0, _ => exact a_ok183_0
  | 1, _ => exact a_ok183_1
  | j + 2, h => exact absurd h (by omega))
theorem a_ok184_0 : ((a_c184.drop (20 * 0)).take 20).all (a_rowok 184) = true := by decide +kernel
set_option maxRecDepth 100000 in
theorem a_ok184 : ∀ r ∈ a_c184, a_rowok 184 r = true := a_all20 1 (Nat.le_of_ble_eq_true rfl) (fun j hj => by
  match j, hj with
  | 0, _ => exact a_ok184_0
  | j + 1, h => exact absurd h (by omega))
theorem a_ok185_0 : ((a_c185.drop (20 * 0)).take 20).all (a_rowok 185) = true := by decide +kernel
theorem a_ok185_1 : ((a_c185.drop (20 * 1)).take 20).all (a_rowok 185) = true := by decide +kernel
theorem a_ok185_2 : ((a_c185.drop (20 * 2)).take 20).all (a_rowok 185) = true := by decide +kernel
theorem a_ok185_3 : ((a_c185.drop (20 * 3)).take 20).all (a_rowok 185) = true := by decide +kernel
set_option maxRecDepth 100000 in
theorem a_ok185 : ∀ r ∈ a_c185, a_rowok 185 r = true := a_all20 4 (Nat.le_of_ble_eq_true rfl) (fun j hj => by
  match j, hj with
  | 0, _ => exact a_ok185_0
  | 1, _ => exact a_ok185_1
  | 2, _ => exact a_ok185_2
  | 3, _ => exact a_ok185_3
  | j + 4, h => exact absurd h (by omega))
theorem a_ok186_0 : ((a_c186.drop (20 * 0)).take 20).all (a_rowok 186) = true := by decide +kernel
set_option maxRecDepth 100000 in
theorem a_ok186 : ∀ r ∈ a_c186, a_rowok 186 r = true := a_all20 1 (Nat.le_of_ble_eq_true rfl) (fun j hj => by
  match j, hj with
  | 0, _ => exact a_ok186_0
  | j + 1, h => exact absurd h (by omega))
theorem a_ok187_0 : ((a_c187.drop (20 * 0)).take 20).all (a_rowok 187) = true := by decide +kernel
theorem a_ok187_1 : ((a_c187.drop (20 * 1)).take 20).all (a_rowok 187) = true := by decide +kernel
theorem a_ok187_2 : ((a_c187.drop (20 * 2)).take 20).all (a_rowok 187) = true := by decide +kernel
set_option maxRecDepth 100000 in
theorem a_ok187 : ∀ r ∈ a_c187, a_rowok 187 r = true := a_all20 3 (Nat.le_of_ble_eq_true rfl) (fun j hj => by
  match j, hj with
  | 0, _ => exact a_ok187_0
  | 1, _ => exact a_ok187_1
  | 2, _ => exact a_ok187_2
  | j + 3, h => exact absurd h (by omega))
theorem a_ok188_0 : ((a_c188.drop (20 * 0)).take 20).all (a_rowok 188) = true := by decide +kernel
set_option maxRecDepth 100000 in
theorem a_ok188 : ∀ r ∈ a_c188, a_rowok 188 r = true := a_all20 1 (Nat.le_of_ble_eq_true rfl) (fun j hj => by
  match j, hj with
  | 0, _ => exact a_ok188_0
  | j + 1, h => exact absurd h (by omega))
theorem a_ok189_0 : ((a_c189.drop (20 * 0)).take 20).all (a_rowok 189) = true := by decide +kernel
theorem a_ok189_1 : ((a_c189.drop (20 * 1)).take 20).all (a_rowok 189) = true := by decide +kernel
theorem a_ok189_2 : ((a_c189.drop (20 * 2)).take 20).all (a_rowok 189) = true := by decide +kernel
theorem a_ok189_3 : ((a_c189.drop (20 * 3)).take 20).all (a_rowok 189) = true := by decide +kernel
theorem a_ok189_4 : ((a_c189.drop (20 * 4)).take 20).all (a_rowok 189) = true := by decide +kernel
theorem a_ok189_5 : ((a_c189.drop (20 * 5)).take 20).all (a_rowok 189) = true := by decide +kernel
set_option maxRecDepth 100000 in
theorem a_ok189 : ∀ r ∈ a_c189, a_rowok 189 r = true := a_all20 6 (Nat.le_of_ble_eq_true rfl) (fun j hj => by
  match j, hj with
  | 0, _ => exact a_ok189_0
  | 1, _ => exact a_ok189_1
  | 2, _ => exact a_ok189_2
  | 3, _ => exact a_ok189_3
  | 4, _ => exact a_ok189_4
  | 5, _ => exact a_ok189_5
  | j + 6, h => exact absurd h (by omega))
theorem a_ok190_0 : ((a_c190.drop (20 * 0)).take 20).all (a_rowok 190) = true := by decide +kernel
set_option maxRecDepth 100000 in
theorem a_ok190 : ∀ r ∈ a_c190, a_rowok 190 r = true := a_all20 1 (Nat.le_of_ble_eq_true rfl) (fun j hj => by
  match j, hj with
  | 0, _ => exact a_ok190_0
  | j + 1, h => exact absurd h (by omega))
theorem a_ok191_0 : ((a_c191.drop (20 * 0)).take 20).all (a_rowok 191) = true := by decide +kernel
theorem a_ok191_1 : ((a_c191.drop (20 * 1)).take 20).all (a_rowok 191) = true := by decide +kernel
theorem a_ok191_2 : ((a_c191.drop (20 * 2)).take 20).all (a_rowok 191) = true := by decide +kernel
theorem a_ok191_3 : ((a_c191.drop (20 * 3)).take 20).all (a_rowok 191) = true := by decide +kernel
theorem a_ok191_4 : ((a_c191.drop (20 * 4)).take 20).all (a_rowok 191) = true := by decide +kernel
theorem a_ok191_5 : ((a_c191.drop (20 * 5)).take 20).all (a_rowok 191) = true := by decide +kernel
set_option maxRecDepth 100000 in
theorem a_ok191 : ∀ r ∈ a_c191, a_rowok 191 r = true := a_all20 6 (Nat.le_of_ble_eq_true rfl) (fun j hj => by
  match j, hj with
  | 0, _ => exact a_ok191_0
  | 1, _ => exact a_ok191_1
  | 2, _ => exact a_ok191_2
  | 3, _ => exact a_ok191_3
  | 4, _ => exact a_ok191_4
  | 5, _ => exact a_ok191_5
  | j + 6, h => exact absurd h (by omega))
theorem a_ok192_0 : ((a_c192.drop (20 * 0)).take 20).all (a_rowok 192) = true := by decide +kernel
theorem a_ok192_1 : ((a_c192.drop (20 * 1)).take 20).all (a_rowok 192) = true := by decide +kernel
set_option maxRecDepth 100000 in
theorem a_ok192 : ∀ r ∈ a_c192, a_rowok 192 r = true := a_all20 2 (Nat.le_of_ble_eq_true rfl) (fun j hj => by
  match j, hj with
  | 0, _ => exact a_ok192_0
  | 1, _ => exact a_ok192_1
  | j + 2, h => exact absurd h (by omega))
theorem a_ok193_0 : ((a_c193.drop (20 * 0)).take 20).all (a_rowok 193) = true := by decide +kernel
set_option maxRecDepth 100000 in
theorem a_ok193 : ∀ r ∈ a_c193, a_rowok 193 r = true := a_all20 1 (Nat.le_of_ble_eq_true rfl) (fun j hj => by
  match j, hj with
  | 0, _ => exact a_ok193_0
  | j + 1, h => exact absurd h (by omega))
theorem a_ok194_0 : ((a_c194.drop (20 * 0)).take 20).all (a_rowok 194) = true := by decide +kernel
theorem a_ok194_1 : ((a_c194.drop (20 * 1)).take 20).all (a_rowok 194) = true := by decide +kernel
theorem a_ok194_2 : ((a_c194.drop (20 * 2)).take 20).all (a_rowok 194) = true := by decide +kernel
theorem a_ok194_3 : ((a_c194.drop (20 * 3)).take 20).all (a_rowok 194) = true := by decide +kernel
theorem a_ok194_4 : ((a_c194.drop (20 * 4)).take 20).all (a_rowok 194) = true := by decide +kernel
set_option maxRecDepth 100000 in
theorem a_ok194 : ∀ r ∈ a_c194, a_rowok 194 r = true := a_all20 5 (Nat.le_of_ble_eq_true rfl) (fun j hj => by
  match j, hj with
  | 0, _ => exact a_ok194_0
  | 1, _ => exact a_ok194_1
  | 2, _ => exact a_ok194_2
  | 3, _ => exact a_ok194_3
  | 4, _ => exact a_ok194_4
  | j + 5, h => exact absurd h (by omega))
theorem a_ok195_0 : ((a_c195.drop (20 * 0)).take 20).all (a_rowok 195) = true := by decide +kernel
theorem a_ok195_1 : ((a_c195.drop (20 * 1)).take 20).all (a_rowok 195) = true := by decide +kernel
theorem a_ok195_2 : ((a_c195.drop (20 * 2)).take 20).all (a_rowok 195) = true := by decide +kernel
set_option maxRecDepth 100000 in
theorem a_ok195 : ∀ r ∈ a_c195, a_rowok 195 r = true := a_all20 3 (Nat.le_of_ble_eq_true rfl) (fun j hj => by
  match j, hj with
  | 0, _ => exact a_ok195_0
  | 1, _ => exact a_ok195_1
  | 2, _ => exact a_ok195_2
  | j + 3, h => exact absurd h (by omega))
theorem a_ok196_0 : ((a_c196.drop (20 * 0)).take 20).all (a_rowok 196) = true := by decide +kernel
set_option maxRecDepth 100000 in
theorem a_ok196 : ∀ r ∈ a_c196, a_rowok 196 r = true := a_all20 1 (Nat.le_of_ble_eq_true rfl) (fun j hj => by
  match j, hj with
  | 0, _ => exact a_ok196_0
  | j + 1, h => exact absurd h (by omega))
theorem a_ok197_0 : ((a_c197.drop (20 * 0)).take 20).all (a_rowok 197) = true := by decide +kernel
theorem a_ok197_1 : ((a_c197.drop (20 * 1)).take 20).all (a_rowok 197) = true := by decide +kernel
theorem a_ok197_2 : ((a_c197.drop (20 * 2)).take 20).all (a_rowok 197) = true := by decide +kernel
theorem a_ok197_3 : ((a_c197.drop (20 * 3)).take 20).all (a_rowok 197) = true := by decide +kernel
theorem a_ok197_4 : ((a_c197.drop (20 * 4)).take 20).all (a_rowok 197) = true := by decide +kernel
set_option maxRecDepth 100000 in
theorem a_ok197 : ∀ r ∈ a_c197, a_rowok 197 r = true := a_all20 5 (Nat.le_of_ble_eq_true rfl) (fun j hj => by
  match j, hj with
  | 0, _ => exact a_ok197_0
  | 1, _ => exact a_ok197_1
  | 2, _ => exact a_ok197_2
  | 3, _ => exact a_ok197_3
  | 4, _ => exact a_ok197_4
  | j + 5, h => exact absurd h (by omega))
theorem a_ok198_0 : ((a_c198.drop (20 * 0)).take 20).all (a_rowok 198) = true := by decide +kernel
theorem a_ok198_1 : ((a_c198.drop (20 * 1)).take 20).all (a_rowok 198) = true := by decide +kernel
set_option maxRecDepth 100000 in
theorem a_ok198 : ∀ r ∈ a_c198, a_rowok 198 r = true := a_all20 2 (Nat.le_of_ble_eq_true rfl) (fun j hj => by
  match j, hj with
  | 0, _ => exact a_ok198_0
  | 1, _ => exact a_ok198_1
  | j + 2, h => exact absurd h (by omega))
theorem a_ok199_0 : ((a_c199.drop (20 * 0)).take 20).all (a_rowok 199) = true := by decide +kernel
set_option maxRecDepth 100000 in
theorem a_ok199 : ∀ r ∈ a_c199, a_rowok 199 r = true := a_all20 1 (Nat.le_of_ble_eq_true rfl) (fun j hj => by
  match j, hj with
  | 0, _ => exact a_ok199_0
  | j + 1, h => exact absurd h (by omega))
theorem a_ok200_0 : ((a_c200.drop (20 * 0)).take 20).all (a_rowok 200) = true := by decide +kernel
set_option maxRecDepth 100000 in
theorem a_ok200 : ∀ r ∈ a_c200, a_rowok 200 r = true := a_all20 1 (Nat.le_of_ble_eq_true rfl) (fun j hj => by
  match j, hj with
  | 0, _ => exact a_ok200_0
  | j + 1, h => exact absurd h (by omega))
theorem a_ok201_0 : ((a_c201.drop (20 * 0)).take 20).all (a_rowok 201) = true := by decide +kernel
theorem a_ok201_1 : ((a_c201.drop (20 * 1)).take 20).all (a_rowok 201) = true := by decide +kernel
set_option maxRecDepth 100000 in
theorem a_ok201 : ∀ r ∈ a_c201, a_rowok 201 r = true := a_all20 2 (Nat.le_of_ble_eq_true rfl) (fun j hj => by
  match j, hj with
  | 0, _ => exact a_ok201_0
  | 1, _ => exact a_ok201_1
  | j + 2, h => exact absurd h (by omega))
theorem a_ok202_0 : ((a_c202.drop (20 * 0)).take 20).all (a_rowok 202) = true := by decide +kernel
set_option maxRecDepth 100000 in
theorem a_ok202 : ∀ r ∈ a_c202, a_rowok 202 r = true := a_all20 1 (Nat.le_of_ble_eq_true rfl) (fun j hj => by
  match j, hj with
  | 0, _ => exact a_ok202_0
  | j + 1, h => exact absurd h (by omega))
theorem a_ok203_0 : ((a_c203.drop (20 * 0)).take 20).all (a_rowok 203) = true := by decide +kernel
theorem a_ok203_1 : ((a_c203.drop (20 * 1)).take 20).all (a_rowok 203) = true := by decide +kernel
theorem a_ok203_2 : ((a_c203.drop (20 * 2)).take 20).all (a_rowok 203) = true := by decide +kernel
set_option maxRecDepth 100000 in
theorem a_ok203 : ∀ r ∈ a_c203, a_rowok 203 r = true := a_all20 3 (Nat.le_of_ble_eq_true rfl) (fun j hj => by
  match j, hj with
  | 0, _ => exact a_ok203_0
  | 1, _ => exact a_ok203_1
  | 2, _ => exact a_ok203_2
  | j + 3, h => exact absurd h (by omega))
theorem a_ok204_0 : ((a_c204.drop (20 * 0)).take 20).all (a_rowok 204) = true := by decide +kernel
theorem a_ok204_1 : ((a_c204.drop (20 * 1)).take 20).all (a_rowok 204) = true := by decide +kernel
set_option maxRecDepth 100000 in
theorem a_ok204 : ∀ r ∈ a_c204, a_rowok 204 r = true := a_all20 2 (Nat.le_of_ble_eq_true rfl) (fun j hj => by
  match j, hj with
  | 0, _ => exact a_ok204_0
  | 1, _ => exact a_ok204_1
  | j + 2, h => exact absurd h (by omega))
theorem a_ok205_0 : ((a_c205.drop (20 * 0)).take 20).all (a_rowok 205) = true := by decide +kernel
set_option maxRecDepth 100000 in
theorem a_ok205 : ∀ r ∈ a_c205, a_rowok 205 r = true := a_all20 1 (Nat.le_of_ble_eq_true rfl) (fun j hj => by
  match j, hj with
  | 0, _ => exact a_ok205_0
  | j + 1, h => exact absurd h (by omega))
theorem a_ok206_0 : ((a_c206.drop (20 * 0)).take 20).all (a_rowok 206) = true := by decide +kernel
set_option maxRecDepth 100000 in
theorem a_ok206 : ∀ r ∈ a_c206, a_rowok 206 r = true := a_all20 1 (Nat.le_of_ble_eq_true rfl) (fun j hj => by
  match j, hj with
  | 0, _ => exact a_ok206_0
  | j + 1, h => exact absurd h (by omega))
theorem a_ok207_0 : ((a_c207.drop (20 * 0)).take 20).all (a_rowok 207) = true := by decide +kernel
set_option maxRecDepth 100000 in
theorem a_ok207 : ∀ r ∈ a_c207, a_rowok 207 r = true := a_all20 1 (Nat.le_of_ble_eq_true rfl) (fun j hj => by
  match j, hj with
  | 0, _ => exact a_ok207_0
  | j + 1, h => exact absurd h (by omega))
theorem a_ok208_0 : ((a_c208.drop (20 * 0)).take 20).all (a_rowok 208) = true := by decide +kernel
theorem a_ok208_1 : ((a_c208.drop (20 * 1)).take 20).all (a_rowok 208) = true := by decide +kernel
theorem a_ok208_2 : ((a_c208.drop (20 * 2)).take 20).all (a_rowok 208) = true := by decide +kernel
set_option maxRecDepth 100000 in
theorem a_ok208 : ∀ r ∈ a_c208, a_rowok 208 r = true := a_all20 3 (Nat.le_of_ble_eq_true rfl) (fun j hj => by
  match j, hj with
  | 0, _ => exact a_ok208_0
  | 1, _ => exact a_ok208_1
  | 2, _ => exact a_ok208_2
  | j + 3, h => exact absurd h (by omega))
theorem a_ok209_0 : ((a_c209.drop (20 * 0)).take 20).all (a_rowok 209) = true := by decide +kernel
theorem a_ok209_1 : ((a_c209.drop (20 * 1)).take 20).all (a_rowok 209) = true := by decide +kernel
set_option maxRecDepth 100000 in
theorem a_ok209 : ∀ r ∈ a_c209, a_rowok 209 r = true := a_all20 2 (Nat.le_of_ble_eq_true rfl) (fun j hj => by
  match j, hj with
  | 0, _ => exact a_ok209_0
  | 1, _ => exact a_ok209_1
  | j + 2, h => exact absurd h (by omega))
theorem a_ok210_0 : ((a_c210.drop (20 * 0)).take 20).all (a_rowok 210) = true := by decide +kernel
theorem a_ok210_1 : ((a_c210.drop (20 * 1)).take 20).all (a_rowok 210) = true := by decide +kernel
theorem a_ok210_2 : ((a_c210.drop (20 * 2)).take 20).all (a_rowok 210) = true := by decide +kernel
set_option maxRecDepth 100000 in
theorem a_ok210 : ∀ r ∈ a_c210, a_rowok 210 r = true := a_all20 3 (Nat.le_of_ble_eq_true rfl) (fun j hj => by
  match j, hj with
  | 0, _ => exact a_ok210_0
  | 1, _ => exact a_ok210_1
  | 2, _ => exact a_ok210_2
  | j + 3, h => exact absurd h (by omega))
theorem a_ok211_0 : ((a_c211.drop (20 * 0)).take 20).all (a_rowok 211) = true := by decide +kernel
theorem a_ok211_1 : ((a_c211.drop (20 * 1)).take 20).all (a_rowok 211) = true := by decide +kernel
set_option maxRecDepth 100000 in
theorem a_ok211 : ∀ r ∈ a_c211, a_rowok 211 r = true := a_all20 2 (Nat.le_of_ble_eq_true rfl) (fun j hj => by
  match j, hj with
  | 0, _ => exact a_ok211_0
  | 1, _ => exact a_ok211_1
  | j + 2, h => exact absurd h (by omega))
theorem a_ok212_0 : ((a_c212.drop (20 * 0)).take 20).all (a_rowok 212) = true := by decide +kernel
set_option maxRecDepth 100000 in
theorem a_ok212 : ∀ r ∈ a_c212, a_rowok 212 r = true := a_all20 1 (Nat.le_of_ble_eq_true rfl) (fun j hj => by
  match j, hj with
  | 0, _ => exact a_ok212_0
  | j + 1, h => exact absurd h (by omega))
theorem a_ok213_0 : ((a_c213.drop (20 * 0)).take 20).all (a_rowok 213) = true := by decide +kernel
theorem a_ok213_1 : ((a_c213.drop (20 * 1)).take 20).all (a_rowok 213) = true := by decide +kernel
set_option maxRecDepth 100000 in
theorem a_ok213 : ∀ r ∈ a_c213, a_rowok 213 r = true := a_all20 2 (Nat.le_of_ble_eq_true rfl) (fun j hj => by
  match j, hj with
  | 0, _ => exact a_ok213_0
  | 1, _ => exact a_ok213_1
  | j + 2, h => exact absurd h (by omega))
theorem a_ok214_0 : ((a_c214.drop (20 * 0)).take 20).all (a_rowok 214) = true := by decide +kernel
theorem a_ok214_1 : ((a_c214.drop (20 * 1)).take 20).all (a_rowok 214) = true := by decide +kernel
theorem a_ok214_2 : ((a_c214.drop (20 * 2)).take 20).all (a_rowok 214) = true := by decide +kernel
set_option maxRecDepth 100000 in
theorem a_ok214 : ∀ r ∈ a_c214, a_rowok 214 r = true := a_all20 3 (Nat.le_of_ble_eq_true rfl) (fun j hj => by
  match j, hj with
  | 0, _ => exact a_ok214_0
  | 1, _ => exact a_ok214_1
  | 2, _ => exact a_ok214_2
  | j + 3, h => exact absurd h (by omega))
theorem a_ok215_0 : ((a_c215.drop (20 * 0)).take 20).all (a_rowok 215) = true := by decide +kernel
set_option maxRecDepth 100000 in
theorem a_ok215 : ∀ r ∈ a_c215, a_rowok 215 r = true := a_all20 1 (Nat.le_of_ble_eq_true rfl) (fun j hj => by
  match j, hj with
  | 0, _ => exact a_ok215_0
  | j + 1, h => exact absurd h (by omega))
theorem a_ok216_0 : ((a_c216.drop (20 * 0)).take 20).all (a_rowok 216) = true := by decide +kernel
theorem a_ok216_1 : ((a_c216.drop (20 * 1)).take 20).all (a_rowok 216) = true := by decide +kernel
set_option maxRecDepth 100000 in
theorem a_ok216 : ∀ r ∈ a_c216, a_rowok 216 r = true := a_all20 2 (Nat.le_of_ble_eq_true rfl) (fun j hj => by
  match j, hj with
  | 0, _ => exact a_ok216_0
  | 1, _ => exact a_ok216_1
  | j + 2, h => exact absurd h (by omega))
theorem a_ok217_0 : ((a_c217.drop (20 * 0)).take 20).all (a_rowok 217) = true := by decide +kernel
theorem a_ok217_1 : ((a_c217.drop (20 * 1)).take 20).all (a_rowok 217) = true := by decide +kernel
theorem a_ok217_2 : ((a_c217.drop (20 * 2)).take 20).all (a_rowok 217) = true := by decide +kernel
set_option maxRecDepth 100000 in
theorem a_ok217 : ∀ r ∈ a_c217, a_rowok 217 r = true := a_all20 3 (Nat.le_of_ble_eq_true rfl) (fun j hj => by
  match j, hj with
  | 0, _ => exact a_ok217_0
  | 1, _ => exact a_ok217_1
  | 2, _ => exact a_ok217_2
  | j + 3, h => exact absurd h (by omega))
theorem a_ok218_0 : ((a_c218.drop (20 * 0)).take 20).all (a_rowok 218) = true := by decide +kernel
set_option maxRecDepth 100000 in
theorem a_ok218 : ∀ r ∈ a_c218, a_rowok 218 r = true := a_all20 1 (Nat.le_of_ble_eq_true rfl) (fun j hj => by
  match j, hj with
  | 0, _ => exact a_ok218_0
  | j + 1, h => exact absurd h (by omega))
theorem a_ok219_0 : ((a_c219.drop (20 * 0)).take 20).all (a_rowok 219) = true := by decide +kernel
theorem a_ok219_1 : ((a_c219.drop (20 * 1)).take 20).all (a_rowok 219) = true := by decide +kernel
theorem a_ok219_2 : ((a_c219.drop (20 * 2)).take 20).all (a_rowok 219) = true := by decide +kernel
theorem a_ok219_3 : ((a_c219.drop (20 * 3)).take 20).all (a_rowok 219) = true := by decide +kernel
set_option maxRecDepth 100000 in
theorem a_ok219 : ∀ r ∈ a_c219, a_rowok 219 r = true := a_all20 4 (Nat.le_of_ble_eq_true rfl) (fun j hj => by
  match j, hj with
  | 0, _ => exact a_ok219_0
  | 1, _ => exact a_ok219_1
  | 2, _ => exact a_ok219_2
  | 3, _ => exact a_ok219_3
  | j + 4, h => exact absurd h (by omega))
theorem a_ok220_0 : ((a_c220.drop (20 * 0)).take 20).all (a_rowok 220) = true := by decide +kernel
theorem a_ok220_1 : ((a_c220.drop (20 * 1)).take 20).all (a_rowok 220) = true := by decide +kernel
theorem a_ok220_2 : ((a_c220.drop (20 * 2)).take 20).all (a_rowok 220) = true := by decide +kernel
theorem a_ok220_3 : ((a_c220.drop (20 * 3)).take 20).all (a_rowok 220) = true := by decide +kernel
set_option maxRecDepth 100000 in
theorem a_ok220 : ∀ r ∈ a_c220, a_rowok 220 r = true := a_all20 4 (Nat.le_of_ble_eq_true rfl) (fun j hj => by
  match j, hj with
  | 0, _ => exact a_ok220_0
  | 1, _ => exact a_ok220_1
  | 2, _ => exact a_ok220_2
  | 3, _ => exact a_ok220_3
  | j + 4, h => exact absurd h (by omega))
theorem a_ok221_0 : ((a_c221.drop (20 * 0)).take 20).all (a_rowok 221) = true := by decide +kernel
set_option maxRecDepth 100000 in
theorem a_ok221 : ∀ r ∈ a_c221, a_rowok 221 r = true := a_all20 1 (Nat.le_of_ble_eq_true rfl) (fun j hj => by
  match j, hj with
  | 0, _ => exact a_ok221_0
  | j + 1, h => exact absurd h (by omega))
theorem a_ok222_0 : ((a_c222.drop (20 * 0)).take 20).all (a_rowok 222) = true := by decide +kernel
set_option maxRecDepth 100000 in
theorem a_ok222 : ∀ r ∈ a_c222, a_rowok 222 r = true := a_all20 1 (Nat.le_of_ble_eq_true rfl) (fun j hj => by
  match j, hj with
  | 0, _ => exact a_ok222_0
  | j + 1, h => exact absurd h (by omega))
theorem a_ok223_0 : ((a_c223.drop (20 * 0)).take 20).all (a_rowok 223) = true := by decide +kernel
theorem a_ok223_1 : ((a_c223.drop (20 * 1)).take 20).all (a_rowok 223) = true := by decide +kernel
set_option maxRecDepth 100000 in
theorem a_ok223 : ∀ r ∈ a_c223, a_rowok 223 r = true := a_all20 2 (Nat.le_of_ble_eq_true rfl) (fun j hj => by
  match j, hj with
  | 0, _ => exact a_ok223_0
  | 1, _ => exact a_ok223_1
  | j + 2, h => exact absurd h (by omega))
theorem a_ok224_0 : ((a_c224.drop (20 * 0)).take 20).all (a_rowok 224) = true := by decide +kernel
theorem a_ok224_1 : ((a_c224.drop (20 * 1)).take 20).all (a_rowok 224) = true := by decide +kernel
set_option maxRecDepth 100000 in
theorem a_ok224 : ∀ r ∈ a_c224, a_rowok 224 r = true := a_all20 2 (Nat.le_of_ble_eq_true rfl) (fun j hj => by
  match j, hj with
  | 0, _ => exact a_ok224_0
  | 1, _ => exact a_ok224_1
  | j + 2, h => exact absurd h (by omega))
theorem a_ok225_0 : ((a_c225.drop (20 * 0)).take 20).all (a_rowok 225) = true := by decide +kernel
theorem a_ok225_1 : ((a_c225.drop (20 * 1)).take 20).all (a_rowok 225) = true := by decide +kernel
theorem a_ok225_2 : ((a_c225.drop (20 * 2)).take 20).all (a_rowok 225) = true := by decide +kernel
theorem a_ok225_3 : ((a_c225.drop (20 * 3)).take 20).all (a_rowok 225) = true := by decide +kernel
theorem a_ok225_4 : ((a_c225.drop (20 * 4)).take 20).all (a_rowok 225) = true := by decide +kernel
theorem a_ok225_5 : ((a_c225.drop (20 * 5)).take 20).all (a_rowok 225) = true := by decide +kernel
set_option maxRecDepth 100000 in
theorem a_ok225 : ∀ r ∈ a_c225, a_rowok 225 r = true := a_all20 6 (Nat.le_of_ble_eq_true rfl) (fun j hj => by
  match j, hj with
  | 0, _ => exact a_ok225_0
  | 1, _ => exact a_ok225_1
  | 2, _ => exact a_ok225_2
  | 3, _ => exact a_ok225_3
  | 4, _ => exact a_ok225_4
  | 5, _ => exact a_ok225_5
  | j + 6, h => exact absurd h (by omega))
theorem a_ok226_0 : ((a_c226.drop (20 * 0)).take 20).all (a_rowok 226) = true := by decide +kernel
theorem a_ok226_1 : ((a_c226.drop (20 * 1)).take 20).all (a_rowok 226) = true := by decide +kernel
theorem a_ok226_2 : ((a_c226.drop (20 * 2)).take 20).all (a_rowok 226) = true := by decide +kernel
theorem a_ok226_3 : ((a_c226.drop (20 * 3)).take 20).all (a_rowok 226) = true := by decide +kernel
theorem a_ok226_4 : ((a_c226.drop (20 * 4)).take 20).all (a_rowok 226) = true := by decide +kernel
theorem a_ok226_5 : ((a_c226.drop (20 * 5)).take 20).all (a_rowok 226) = true := by decide +kernel
theorem a_ok226_6 : ((a_c226.drop (20 * 6)).take 20).all (a_rowok 226) = true := by decide +kernel
set_option maxRecDepth 100000 in
theorem a_ok226 : ∀ r ∈ a_c226, a_rowok 226 r = true := a_all20 7 (Nat.le_of_ble_eq_true rfl) (fun j hj => by
  match j, hj with
  | 0, _ => exact a_ok226_0
  | 1, _ => exact a_ok226_1
  | 2, _ => exact a_ok226_2
  | 3, _ => exact a_ok226_3
  | 4, _ => exact a_ok226_4
  | 5, _ => exact a_ok226_5
  | 6, _ => exact a_ok226_6
  | j + 7, h => exact absurd h (by omega))
theorem a_ok227_0 : ((a_c227.drop (20 * 0)).take 20).all (a_rowok 227) = true := by decide +kernel
theorem a_ok227_1 : ((a_c227.drop (20 * 1)).take 20).all (a_rowok 227) = true := by decide +kernel
theorem a_ok227_2 : ((a_c227.drop (20 * 2)).take 20).all (a_rowok 227) = true := by decide +kernel
set_option maxRecDepth 100000 in
theorem a_ok227 : ∀ r ∈ a_c227, a_rowok 227 r = true := a_all20 3 (Nat.le_of_ble_eq_true rfl) (fun j hj => by
  match j, hj with
  | 0, _ => exact a_ok227_0
  | 1, _ => exact a_ok227_1
  | 2, _ => exact a_ok227_2
  | j + 3, h => exact absurd h (by omega))
theorem a_ok228_0 : ((a_c228.drop (20 * 0)).take 20).all (a_rowok 228) = true := by decide +kernel
theorem a_ok228_1 : ((a_c228.drop (20 * 1)).take 20).all (a_rowok 228) = true := by decide +kernel
theorem a_ok228_2 : ((a_c228.drop (20 * 2)).take 20).all (a_rowok 228) = true := by decide +kernel
set_option maxRecDepth 100000 in
theorem a_ok228 : ∀ r ∈ a_c228, a_rowok 228 r = true := a_all20 3 (Nat.le_of_ble_eq_true rfl) (fun j hj => by
  match j, hj with
  | 0, _ => exact a_ok228_0
  | 1, _ => exact a_ok228_1
  | 2, _ => exact a_ok228_2
  | j + 3, h => exact absurd h (by omega))
theorem a_ok229_0 : ((a_c229.drop (20 * 0)).take 20).all (a_rowok 229) = true := by decide +kernel
set_option maxRecDepth 100000 in
theorem a_ok229 : ∀ r ∈ a_c229, a_rowok 229 r = true := a_all20 1 (Nat.le_of_ble_eq_true rfl) (fun j hj => by
  match j, hj with
  | 0, _ => exact a_ok229_0
  | j + 1, h => exact absurd h (by omega))
theorem a_ok230_0 : ((a_c230.drop (20 * 0)).take 20).all (a_rowok 230) = true := by decide +kernel
theorem a_ok230_1 : ((a_c230.drop (20 * 1)).take 20).all (a_rowok 230) = true := by decide +kernel
theorem a_ok230_2 : ((a_c230.drop (20 * 2)).take 20).all (a_rowok 230) = true := by decide +kernel
theorem a_ok230_3 : ((a_c230.drop (20 * 3)).take 20).all (a_rowok 230) = true := by decide +kernel
theorem a_ok230_4 : ((a_c230.drop (20 * 4)).take 20).all (a_rowok 230) = true := by decide +kernel
set_option maxRecDepth 100000 in
theorem a_ok230 : ∀ r ∈ a_c230, a_rowok 230 r = true := a_all20 5 (Nat.le_of_ble_eq_true rfl) (fun j hj => by
  match j, hj with
  | 0, _ => exact a_ok230_0
  | 1, _ => exact a_ok230_1
  | 2, _ => exact a_ok230_2
  | 3, _ => exact a_ok230_3
  | 4, _ => exact a_ok230_4
  | j + 5, h => exact absurd h (by omega))
theorem a_ok231_0 : ((a_c231.drop (20 * 0)).take 20).all (a_rowok 231) = true := by decide +kernel
theorem a_ok231_1 : ((a_c231.drop (20 * 1)).take 20).all (a_rowok 231) = true := by decide +kernel
theorem a_ok231_2 : ((a_c231.drop (20 * 2)).take 20).all (a_rowok 231) = true := by decide +kernel
theorem a_ok231_3 : ((a_c231.drop (20 * 3)).take 20).all (a_rowok 231) = true := by decide +kernel
set_option maxRecDepth 100000 in
theorem a_ok231 : ∀ r ∈ a_c231, a_rowok 231 r = true := a_all20 4 (Nat.le_of_ble_eq_true rfl) (fun j hj => by
  match j, hj with
  | 0, _ => exact a_ok231_0
  | 1, _ => exact a_ok231_1
  | 2, _ => exact a_ok231_2
  | 3, _ => exact a_ok231_3
  | j + 4, h => exact absurd h (by omega))
theorem a_ok232_0 : ((a_c232.drop (20 * 0)).take 20).all (a_rowok 232) = true := by decide +kernel
theorem a_ok232_1 : ((a_c232.drop (20 * 1)).take 20).all (a_rowok 232) = true := by decide +kernel
theorem a_ok232_2 : ((a_c232.drop (20 * 2)).take 20).all (a_rowok 232) = true := by decide +kernel
theorem a_ok232_3 : ((a_c232.drop (20 * 3)).take 20).all (a_rowok 232) = true := by decide +kernel
set_option maxRecDepth 100000 in
theorem a_ok232 : ∀ r ∈ a_c232, a_rowok 232 r = true := a_all20 4 (Nat.le_of_ble_eq_true rfl) (fun j hj => by
  match j, hj with
  | 0, _ => exact a_ok232_0
  | 1, _ => exact a_ok232_1
  | 2, _ => exact a_ok232_2
  | 3, _ => exact a_ok232_3
  | j + 4, h => exact absurd h (by omega))
theorem a_ok233_0 : ((a_c233.drop (20 * 0)).take 20).all (a_rowok 233) = true := by decide +kernel
theorem a_ok233_1 : ((a_c233.drop (20 * 1)).take 20).all (a_rowok 233) = true := by decide +kernel
theorem a_ok233_2 : ((a_c233.drop (20 * 2)).take 20).all (a_rowok 233) = true := by decide +kernel
set_option maxRecDepth 100000 in
theorem a_ok233 : ∀ r ∈ a_c233, a_rowok 233 r = true := a_all20 3 (Nat.le_of_ble_eq_true rfl) (fun j hj => by
  match j, hj with
  | 0, _ => exact a_ok233_0
  | 1, _ => exact a_ok233_1
  | 2, _ => exact a_ok233_2
  | j + 3, h => exact absurd h (by omega))
theorem a_ok234_0 : ((a_c234.drop (20 * 0)).take 20).all (a_rowok 234) = true := by decide +kernel
theorem a_ok234_1 : ((a_c234.drop (20 * 1)).take 20).all (a_rowok 234) = true := by decide +kernel
theorem a_ok234_2 : ((a_c234.drop (20 * 2)).take 20).all (a_rowok 234) = true := by decide +kernel
theorem a_ok234_3 : ((a_c234.drop (20 * 3)).take 20).all (a_rowok 234) = true := by decide +kernel
theorem a_ok234_4 : ((a_c234.drop (20 * 4)).take 20).all (a_rowok 234) = true := by decide +kernel
set_option maxRecDepth 100000 in
theorem a_ok234 : ∀ r ∈ a_c234, a_rowok 234 r = true := a_all20 5 (Nat.le_of_ble_eq_true rfl) (fun j hj => by
  match j, hj with
  | 0, _ => exact a_ok234_0
  | 1, _ => exact a_ok234_1
  | 2, _ => exact a_ok234_2
  | 3, _ => exact a_ok234_3
  | 4, _ => exact a_ok234_4
  | j + 5, h => exact absurd h (by omega))
theorem a_ok235_0 : ((a_c235.drop (20 * 0)).take 20).all (a_rowok 235) = true := by decide +kernel
set_option maxRecDepth 100000 in
theorem a_ok235 : ∀ r ∈ a_c235, a_rowok 235 r = true := a_all20 1 (Nat.le_of_ble_eq_true rfl) (fun j hj => by
  match j, hj with
  | 0, _ => exact a_ok235_0
  | j + 1, h => exact absurd h (by omega))
theorem a_ok236_0 : ((a_c236.drop (20 * 0)).take 20).all (a_rowok 236) = true := by decide +kernel
theorem a_ok236_1 : ((a_c236.drop (20 * 1)).take 20).all (a_rowok 236) = true := by decide +kernel
theorem a_ok236_2 : ((a_c236.drop (20 * 2)).take 20).all (a_rowok 236) = true := by decide +kernel
set_option maxRecDepth 100000 in
theorem a_ok236 : ∀ r ∈ a_c236, a_rowok 236 r = true := a_all20 3 (Nat.le_of_ble_eq_true rfl) (fun j hj => by
  match j, hj with
  | 0, _ => exact a_ok236_0
  | 1, _ => exact a_ok236_1
  | 2, _ => exact a_ok236_2
  | j + 3, h => exact absurd h (by omega))
theorem a_ok237_0 : ((a_c237.drop (20 * 0)).take 20).all (a_rowok 237) = true := by decide +kernel
theorem a_ok237_1 : ((a_c237.drop (20 * 1)).take 20).all (a_rowok 237) = true := by decide +kernel
theorem a_ok237_2 : ((a_c237.drop (20 * 2)).take 20).all (a_rowok 237) = true := by decide +kernel
set_option maxRecDepth 100000 in
theorem a_ok237 : ∀ r ∈ a_c237, a_rowok 237 r = true := a_all20 3 (Nat.le_of_ble_eq_true rfl) (fun j hj => by
  match j, hj with
  | 0, _ => exact a_ok237_0
  | 1, _ => exact a_ok237_1
  | 2, _ => exact a_ok237_2
  | j + 3, h => exact absurd h (by omega))
theorem a_ok238_0 : ((a_c238.drop (20 * 0)).take 20).all (a_rowok 238) = true := by decide +kernel
theorem a_ok238_1 : ((a_c238.drop (20 * 1)).take 20).all (a_rowok 238) = true := by decide +kernel
theorem a_ok238_2 : ((a_c238.drop (20 * 2)).take 20).all (a_rowok 238) = true := by decide +kernel
theorem a_ok238_3 : ((a_c238.drop (20 * 3)).take 20).all (a_rowok 238) = true := by decide +kernel
set_option maxRecDepth 100000 in
theorem a_ok238 : ∀ r ∈ a_c238, a_rowok 238 r = true := a_all20 4 (Nat.le_of_ble_eq_true rfl) (fun j hj => by
  match j, hj with
  | 0, _ => exact a_ok238_0
  | 1, _ => exact a_ok238_1
  | 2, _ => exact a_ok238_2
  | 3, _ => exact a_ok238_3
  | j + 4, h => exact absurd h (by omega))
theorem a_ok239_0 : ((a_c239.drop (20 * 0)).take 20).all (a_rowok 239) = true := by decide +kernel
theorem a_ok239_1 : ((a_c239.drop (20 * 1)).take 20).all (a_rowok 239) = true := by decide +kernel
theorem a_ok239_2 : ((a_c239.drop (20 * 2)).take 20).all (a_rowok 239) = true := by decide +kernel
theorem a_ok239_3 : ((a_c239.drop (20 * 3)).take 20).all (a_rowok 239) = true := by decide +kernel
set_option maxRecDepth 100000 in
theorem a_ok239 : ∀ r ∈ a_c239, a_rowok 239 r = true := a_all20 4 (Nat.le_of_ble_eq_true rfl) (fun j hj => by
  match j, hj with
  | 0, _ => exact a_ok239_0
  | 1, _ => exact a_ok239_1
  | 2, _ => exact a_ok239_2
  | 3, _ => exact a_ok239_3
  | j + 4, h => exact absurd h (by omega))
theorem a_ok240_0 : ((a_c240.drop (20 * 0)).take 20).all (a_rowok 240) = true := by decide +kernel
theorem a_ok240_1 : ((a_c240.drop (20 * 1)).take 20).all (a_rowok 240) = true := by decide +kernel
theorem a_ok240_2 : ((a_c240.drop (20 * 2)).take 20).all (a_rowok 240) = true := by decide +kernel
theorem a_ok240_3 : ((a_c240.drop (20 * 3)).take 20).all (a_rowok 240) = true := by decide +kernel
theorem a_ok240_4 : ((a_c240.drop (20 * 4)).take 20).all (a_rowok 240) = true := by decide +kernel
set_option maxRecDepth 100000 in
theorem a_ok240 : ∀ r ∈ a_c240, a_rowok 240 r = true := a_all20 5 (Nat.le_of_ble_eq_true rfl) (fun j hj => by
  match j, hj with
  | 0, _ => exact a_ok240_0
  | 1, _ => exact a_ok240_1
  | 2, _ => exact a_ok240_2
  | 3, _ => exact a_ok240_3
  | 4, _ => exact a_ok240_4
  | j + 5, h => exact absurd h (by omega))
theorem a_ok241_0 : ((a_c241.drop (20 * 0)).take 20).all (a_rowok 241) = true := by decide +kernel
theorem a_ok241_1 : ((a_c241.drop (20 * 1)).take 20).all (a_rowok 241) = true := by decide +kernel
theorem a_ok241_2 : ((a_c241.drop (20 * 2)).take 20).all (a_rowok 241) = true := by decide +kernel
theorem a_ok241_3 : ((a_c241.drop (20 * 3)).take 20).all (a_rowok 241) = true := by decide +kernel
theorem a_ok241_4 : ((a_c241.drop (20 * 4)).take 20).all (a_rowok 241) = true := by decide +kernel
theorem a_ok241_5 : ((a_c241.drop (20 * 5)).take 20).all (a_rowok 241) = true := by decide +kernel
set_option maxRecDepth 100000 in
theorem a_ok241 : ∀ r ∈ a_c241, a_rowok 241 r = true := a_all20 6 (Nat.le_of_ble_eq_true rfl) (fun j hj => by
  match j, hj with
  | 0, _ => exact a_ok241_0
  | 1, _ => exact a_ok241_1
  | 2, _ => exact a_ok241_2
  | 3, _ => exact a_ok241_3
  | 4, _ => exact a_ok241_4
  | 5, _ => exact a_ok241_5
  | j + 6, h => exact absurd h (by omega))
theorem a_ok242_0 : ((a_c242.drop (20 * 0)).take 20).all (a_rowok 242) = true := by decide +kernel
theorem a_ok242_1 : ((a_c242.drop (20 * 1)).take 20).all (a_rowok 242) = true := by decide +kernel
theorem a_ok242_2 : ((a_c242.drop (20 * 2)).take 20).all (a_rowok 242) = true := by decide +kernel
set_option maxRecDepth 100000 in
theorem a_ok242 : ∀ r ∈ a_c242, a_rowok 242 r = true := a_all20 3 (Nat.le_of_ble_eq_true rfl) (fun j hj => by
  match j, hj with
  | 0, _ => exact a_ok242_0
  | 1, _ => exact a_ok242_1
  | 2, _ => exact a_ok242_2
  | j + 3, h => exact absurd h (by omega))
theorem a_ok243_0 : ((a_c243.drop (20 * 0)).take 20).all (a_rowok 243) = true := by decide +kernel
set_option maxRecDepth 100000 in
theorem a_ok243 : ∀ r ∈ a_c243, a_rowok 243 r = true := a_all20 1 (Nat.le_of_ble_eq_true rfl) (fun j hj => by
  match j, hj with
  | 0, _ => exact a_ok243_0
  | j + 1, h => exact absurd h (by omega))
theorem a_ok244_0 : ((a_c244.drop (20 * 0)).take 20).all (a_rowok 244) = true := by decide +kernel
set_option maxRecDepth 100000 in
theorem a_ok244 : ∀ r ∈ a_c244, a_rowok 244 r = true := a_all20 1 (Nat.le_of_ble_eq_true rfl) (fun j hj => by
  match j, hj with
  | 0, _ => exact a_ok244_0
  | j + 1, h => exact absurd h (by omega))
theorem a_ok245_0 : ((a_c245.drop (20 * 0)).take 20).all (a_rowok 245) = true := by decide +kernel
set_option maxRecDepth 100000 in
theorem a_ok245 : ∀ r ∈ a_c245, a_rowok 245 r = true := a_all20 1 (Nat.le_of_ble_eq_true rfl) (fun j hj => by
  match j, hj with
  | 0, _ => exact a_ok245_0
  | j + 1, h => exact absurd h (by omega))
theorem a_ok246_0 : ((a_c246.drop (20 * 0)).take 20).all (a_rowok 246) = true := by decide +kernel
theorem a_ok246_1 : ((a_c246.drop (20 * 1)).take 20).all (a_rowok 246) = true := by decide +kernel
theorem a_ok246_2 : ((a_c246.drop (20 * 2)).take 20).all (a_rowok 246) = true := by decide +kernel
theorem a_ok246_3 : ((a_c246.drop (20 * 3)).take 20).all (a_rowok 246) = true := by decide +kernel
theorem a_ok246_4 : ((a_c246.drop (20 * 4)).take 20).all (a_rowok 246) = true := by decide +kernel
set_option maxRecDepth 100000 in
theorem a_ok246 : ∀ r ∈ a_c246, a_rowok 246 r = true := a_all20 5 (Nat.le_of_ble_eq_true rfl) (fun j hj => by
  match j, hj with
  | 0, _ => exact a_ok246_0
  | 1, _ => exact a_ok246_1
  | 2, _ => exact a_ok246_2
  | 3, _ => exact a_ok246_3
  | 4, _ => exact a_ok246_4
  | j + 5, h => exact absurd h (by omega))
theorem a_ok247_0 : ((a_c247.drop (20 * 0)).take 20).all (a_rowok 247) = true := by decide +kernel
theorem a_ok247_1 : ((a_c247.drop (20 * 1)).take 20).all (a_rowok 247) = true := by decide +kernel
set_option maxRecDepth 100000 in
theorem a_ok247 : ∀ r ∈ a_c247, a_rowok 247 r = true := a_all20 2 (Nat.le_of_ble_eq_true rfl) (fun j hj => by
  match j, hj with
  | 0, _ => exact a_ok247_0
  | 1, _ => exact a_ok247_1
  | j + 2, h => exact absurd h (by omega))
theorem a_ok248_0 : ((a_c248.drop (20 * 0)).take 20).all (a_rowok 248) = true := by decide +kernel
theorem a_ok248_1 : ((a_c248.drop (20 * 1)).take 20).all (a_rowok 248) = true := by decide +kernel
set_option maxRecDepth 100000 in
theorem a_ok248 : ∀ r ∈ a_c248, a_rowok 248 r = true := a_all20 2 (Nat.le_of_ble_eq_true rfl) (fun j hj => by
  match j, hj with
  | 0, _ => exact a_ok248_0
  | 1, _ => exact a_ok248_1
  | j + 2, h => exact absurd h (by omega))
theorem a_ok249_0 : ((a_c249.drop (20 * 0)).take 20).all (a_rowok 249) = true := by decide +kernel
theorem a_ok249_1 : ((a_c249.drop (20 * 1)).take 20).all (a_rowok 249) = true := by decide +kernel
set_option maxRecDepth 100000 in
theorem a_ok249 : ∀ r ∈ a_c249, a_rowok 249 r = true := a_all20 2 (Nat.le_of_ble_eq_true rfl) (fun j hj => by
  match j, hj with
  | 0, _ => exact a_ok249_0
  | 1, _ => exact a_ok249_1
  | j + 2, h => exact absurd h (by omega))
theorem a_ok250_0 : ((a_c250.drop (20 * 0)).take 20).all (a_rowok 250) = true := by decide +kernel
set_option maxRecDepth 100000 in
theorem a_ok250 : ∀ r ∈ a_c250, a_rowok 250 r = true := a_all20 1 (Nat.le_of_ble_eq_true rfl) (fun j hj => by
  match j, hj with
  | 0, _ => exact a_ok250_0
  | j + 1, h => exact absurd h (by omega))
theorem a_ok251_0 : ((a_c251.drop (20 * 0)).take 20).all (a_rowok 251) = true := by decide +kernel
set_option maxRecDepth 100000 in
theorem a_ok251 : ∀ r ∈ a_c251, a_rowok 251 r = true := a_all20 1 (Nat.le_of_ble_eq_true rfl) (fun j hj => by
  match j, hj with
  | 0, _ => exact a_ok251_0
  | j + 1, h => exact absurd h (by omega))
theorem a_ok252_0 : ((a_c252.drop (20 * 0)).take 20).all (a_rowok 252) = true := by decide +kernel
theorem a_ok252_1 : ((a_c252.drop (20 * 1)).take 20).all (a_rowok 252) = true := by decide +kernel
theorem a_ok252_2 : ((a_c252.drop (20 * 2)).take 20).all (a_rowok 252) = true := by decide +kernel
set_option maxRecDepth 100000 in
theorem a_ok252 : ∀ r ∈ a_c252, a_rowok 252 r = true := a_all20 3 (Nat.le_of_ble_eq_true rfl) (fun j hj => by
  match j, hj with
  | 0, _ => exact a_ok252_0
  | 1, _ => exact a_ok252_1
  | 2, _ => exact a_ok252_2
  | j + 3, h => exact absurd h (by omega))
theorem a_ok253_0 : ((a_c253.drop (20 * 0)).take 20).all (a_rowok 253) = true := by decide +kernel
theorem a_ok253_1 : ((a_c253.drop (20 * 1)).take 20).all (a_rowok 253) = true := by decide +kernel
set_option maxRecDepth 100000 in
theorem a_ok253 : ∀ r ∈ a_c253, a_rowok 253 r = true := a_all20 2 (Nat.le_of_ble_eq_true rfl) (fun j hj => by
  match j, hj with
  | 0, _ => exact a_ok253_0
  | 1, _ => exact a_ok253_1
  | j + 2, h => exact absurd h (by omega))
theorem a_ok254_0 : ((a_c254.drop (20 * 0)).take 20).all (a_rowok 254) = true := by decide +kernel
set_option maxRecDepth 100000 in
theorem a_ok254 : ∀ r ∈ a_c254, a_rowok 254 r = true := a_all20 1 (Nat.le_of_ble_eq_true rfl) (fun j hj => by
  match j, hj with
  | 0, _ => exact a_ok254_0
  | j + 1, h => exact absurd h (by omega))
theorem a_ok255_0 : ((a_c255.drop (20 * 0)).take 20).all (a_rowok 255) = true := by decide +kernel
theorem a_ok255_1 : ((a_c255.drop (20 * 1)).take 20).all (a_rowok 255) = true := by decide +kernel
theorem a_ok255_2 : ((a_c255.drop (20 * 2)).take 20).all (a_rowok 255) = true := by decide +kernel
theorem a_ok255_3 : ((a_c255.drop (20 * 3)).take 20).all (a_rowok 255) = true := by decide +kernel
theorem a_ok255_4 : ((a_c255.drop (20 * 4)).take 20).all (a_rowok 255) = true := by decide +kernel
set_option maxRecDepth 100000 in
theorem a_ok255 : ∀ r ∈ a_c255, a_rowok 255 r = true := a_all20 5 (Nat.le_of_ble_eq_true rfl) (fun j hj => by
  match j, hj with
  | 0, _ => exact a_ok255_0
  | 1, _ => exact a_ok255_1
  | 2, _ => exact a_ok255_2
  | 3, _ => exact a_ok255_3
  | 4, _ => exact a_ok255_4
  | j + 5, h => exact absurd h (by omega))
theorem a_ok256_0 : ((a_c256.drop (20 * 0)).take 20).all (a_rowok 256) = true := by decide +kernel
set_option maxRecDepth 100000 in
theorem a_ok256 : ∀ r ∈ a_c256, a_rowok 256 r = true := a_all20 1 (Nat.le_of_ble_eq_true rfl) (fun j hj => by
  match j, hj with
  | 0, _ => exact a_ok256_0
  | j + 1, h => exact absurd h (by omega))
theorem a_ok257_0 : ((a_c257.drop (20 * 0)).take 20).all (a_rowok 257) = true := by decide +kernel
theorem a_ok257_1 : ((a_c257.drop (20 * 1)).take 20).all (a_rowok 257) = true := by decide +kernel
set_option maxRecDepth 100000 in
theorem a_ok257 : ∀ r ∈ a_c257, a_rowok 257 r = true := a_all20 2 (Nat.le_of_ble_eq_true rfl) (fun j hj => by
  match j, hj with
  | 0, _ => exact a_ok257_0
  | 1, _ => exact a_ok257_1
  | j + 2, h => exact absurd h (by omega))
theorem a_ok258_0 : ((a_c258.drop (20 * 0)).take 20).all (a_rowok 258) = true := by decide +kernel
theorem a_ok258_1 : ((a_c258.drop (20 * 1)).take 20).all (a_rowok 258) = true := by decide +kernel
set_option maxRecDepth 100000 in
theorem a_ok258 : ∀ r ∈ a_c258, a_rowok 258 r = true := a_all20 2 (Nat.le_of_ble_eq_true rfl) (fun j hj => by
  match j, hj with
  | 0, _ => exact a_ok258_0
  | 1, _ => exact a_ok258_1
  | j + 2, h => exact absurd h (by omega))
theorem a_ok259_0 : ((a_c259.drop (20 * 0)).take 20).all (a_rowok 259) = true := by decide +kernel
theorem a_ok259_1 : ((a_c259.drop (20 * 1)).take 20).all (a_rowok 259) = true := by decide +kernel
set_option maxRecDepth 100000 in
theorem a_ok259 : ∀ r ∈ a_c259, a_rowok 259 r = true := a_all20 2 (Nat.le_of_ble_eq_true rfl) (fun j hj => by
  match j, hj with
  | 0, _ => exact a_ok259_0
  | 1, _ => exact a_ok259_1
  | j + 2, h => exact absurd h (by omega))
theorem a_ok260_0 : ((a_c260.drop (20 * 0)).take 20).all (a_rowok 260) = true := by decide +kernel
theorem a_ok260_1 : ((a_c260.drop (20 * 1)).take 20).all (a_rowok 260) = true := by decide +kernel
set_option maxRecDepth 100000 in
theorem a_ok260 : ∀ r ∈ a_c260, a_rowok 260 r = true := a_all20 2 (Nat.le_of_ble_eq_true rfl) (fun j hj => by
  match j, hj with
  | 0, _ => exact a_ok260_0
  | 1, _ => exact a_ok260_1
  | j + 2, h => exact absurd h (by omega))
theorem a_ok261_0 : ((a_c261.drop (20 * 0)).take 20).all (a_rowok 261) = true := by decide +kernel
theorem a_ok261_1 : ((a_c261.drop (20 * 1)).take 20).all (a_rowok 261) = true := by decide +kernel
theorem a_ok261_2 : ((a_c261.drop (20 * 2)).take 20).all (a_rowok 261) = true := by decide +kernel
set_option maxRecDepth 100000 in
theorem a_ok261 : ∀ r ∈ a_c261, a_rowok 261 r = true := a_all20 3 (Nat.le_of_ble_eq_true rfl) (fun j hj => by
  match j, hj with
  | 0, _ => exact a_ok261_0
  | 1, _ => exact a_ok261_1
  | 2, _ => exact a_ok261_2
  | j + 3, h => exact absurd h (by omega))
theorem a_ok262_0 : ((a_c262.drop (20 * 0)).take 20).all (a_rowok 262) = true := by decide +kernel
theorem a_ok262_1 : ((a_c262.drop (20 * 1)).take 20).all (a_rowok 262) = true := by decide +kernel
theorem a_ok262_2 : ((a_c262.drop (20 * 2)).take 20).all (a_rowok 262) = true := by decide +kernel
theorem a_ok262_3 : ((a_c262.drop (20 * 3)).take 20).all (a_rowok 262) = true := by decide +kernel
theorem a_ok262_4 : ((a_c262.drop (20 * 4)).take 20).all (a_rowok 262) = true := by decide +kernel
theorem a_ok262_5 : ((a_c262.drop (20 * 5)).take 20).all (a_rowok 262) = true := by decide +kernel
theorem a_ok262_6 : ((a_c262.drop (20 * 6)).take 20).all (a_rowok 262) = true := by decide +kernel
theorem a_ok262_7 : ((a_c262.drop (20 * 7)).take 20).all (a_rowok 262) = true := by decide +kernel
theorem a_ok262_8 : ((a_c262.drop (20 * 8)).take 20).all (a_rowok 262) = true := by decide +kernel
theorem a_ok262_9 : ((a_c262.drop (20 * 9)).take 20).all (a_rowok 262) = true := by decide +kernel
theorem a_ok262_10 : ((a_c262.drop (20 * 10)).take 20).all (a_rowok 262) = true := by decide +kernel
theorem a_ok262_11 : ((a_c262.drop (20 * 11)).take 20).all (a_rowok 262) = true := by decide +kernel
theorem a_ok262_12 : ((a_c262.drop (20 * 12)).take 20).all (a_rowok 262) = true := by decide +kernel
theorem a_ok262_13 : ((a_c262.drop (20 * 13)).take 20).all (a_rowok 262) = true := by decide +kernel
theorem a_ok262_14 : ((a_c262.drop (20 * 14)).take 20).all (a_rowok 262) = true := by decide +kernel
theorem a_ok262_15 : ((a_c262.drop (20 * 15)).take 20).all (a_rowok 262) = true := by decide +kernel
theorem a_ok262_16 : ((a_c262.drop (20 * 16)).take 20).all (a_rowok 262) = true := by decide +kernel
theorem a_ok262_17 : ((a_c262.drop (20 * 17)).take 20).all (a_rowok 262) = true := by decide +kernel
theorem a_ok262_18 : ((a_c262.drop (20 * 18)).take 20).all (a_rowok 262) = true := by decide +kernel
theorem a_ok262_19 : ((a_c262.drop (20 * 19)).take 20).all (a_rowok 262) = true := by decide +kernel
theorem a_ok262_20 : ((a_c262.drop (20 * 20)).take 20).all (a_rowok 262) = true := by decide +kernel
theorem a_ok262_21 : ((a_c262.drop (20 * 21)).take 20).all (a_rowok 262) = true := by decide +kernel
theorem a_ok262_22 : ((a_c262.drop (20 * 22)).take 20).all (a_rowok 262) = true := by decide +kernel
theorem a_ok262_23 : ((a_c262.drop (20 * 23)).take 20).all (a_rowok 262) = true := by decide +kernel
theorem a_ok262_24 : ((a_c262.drop (20 * 24)).take 20).all (a_rowok 262) = true := by decide +kernel
theorem a_ok262_25 : ((a_c262.drop (20 * 25)).take 20).all (a_rowok 262) = true := by decide +kernel
theorem a_ok262_26 : ((a_c262.drop (20 * 26)).take 20).all (a_rowok 262) = true := by decide +kernel
theorem a_ok262_27 : ((a_c262.drop (20 * 27)).take 20).all (a_rowok 262) = true := by decide +kernel
theorem a_ok262_28 : ((a_c262.drop (20 * 28)).take 20).all (a_rowok 262) = true := by decide +kernel
theorem a_ok262_29 : ((a_c262.drop (20 * 29)).take 20).all (a_rowok 262) = true := by decide +kernel
theorem a_ok262_30 : ((a_c262.drop (20 * 30)).take 20).all (a_rowok 262) = true := by decide +kernel
theorem a_ok262_31 : ((a_c262.drop (20 * 31)).take 20).all (a_rowok 262) = true := by decide +kernel
theorem a_ok262_32 : ((a_c262.drop (20 * 32)).take 20).all (a_rowok 262) = true := by decide +kernel
theorem a_ok262_33 : ((a_c262.drop (20 * 33)).take 20).all (a_rowok 262) = true := by decide +kernel
theorem a_ok262_34 : ((a_c262.drop (20 * 34)).take 20).all (a_rowok 262) = true := by decide +kernel
theorem a_ok262_35 : ((a_c262.drop (20 * 35)).take 20).all (a_rowok 262) = true := by decide +kernel
theorem a_ok262_36 : ((a_c262.drop (20 * 36)).take 20).all (a_rowok 262) = true := by decide +kernel
theorem a_ok262_37 : ((a_c262.drop (20 * 37)).take 20).all (a_rowok 262) = true := by decide +kernel
theorem a_ok262_38 : ((a_c262.drop (20 * 38)).take 20).all (a_rowok 262) = true := by decide +kernel
theorem a_ok262_39 : ((a_c262.drop (20 * 39)).take 20).all (a_rowok 262) = true := by decide +kernel
theorem a_ok262_40 : ((a_c262.drop (20 * 40)).take 20).all (a_rowok 262) = true := by decide +kernel
theorem a_ok262_41 : ((a_c262.drop (20 * 41)).take 20).all (a_rowok 262) = true := by decide +kernel
theorem a_ok262_42 : ((a_c262.drop (20 * 42)).take 20).all (a_rowok 262) = true := by decide +kernel
set_option maxRecDepth 100000 in
theorem a_ok262 : ∀ r ∈ a_c262, a_rowok 262 r = true := a_all20 43 (Nat.le_of_ble_eq_true rfl) (fun j hj => by
  match j, hj with
  | 0, _ => exact a_ok262_0
  | 1, _ => exact a_ok262_1
  | 2, _ => exact a_ok262_2
  | 3, _ => exact a_ok262_3
  | 4, _ => exact a_ok262_4
  | 5, _ => exact a_ok262_5
  | 6, _ => exact a_ok262_6
  | 7, _ => exact a_ok262_7
  | 8, _ => exact a_ok262_8
  | 9, _ => exact a_ok262_9
  | 10, _ => exact a_ok262_10
  | 11, _ => exact a_ok262_11
  | 12, _ => exact a_ok262_12
  | 13, _ => exact a_ok262_13
  | 14, _ => exact a_ok262_14
  | 15, _ => exact a_ok262_15
  | 16, _ => exact a_ok262_16
  | 17, _ => exact a_ok262_17
  | 18, _ => exact a_ok262_18
  | 19, _ => exact a_ok262_19
  | 20, _ => exact a_ok262_20
  | 21, _ => exact a_ok262_21
  | 22, _ => exact a_ok262_22
  | 23, _ => exact a_ok262_23
  | 24, _ => exact a_ok262_24
  | 25, _ => exact a_ok262_25
  | 26, _ => exact a_ok262_26
  | 27, _ => exact a_ok262_27
  | 28, _ => exact a_ok262_28
  | 29, _ => exact a_ok262_29
  | 30, _ => exact a_ok262_30
  | 31, _ => exact a_ok262_31
  | 32, _ => exact a_ok262_32
  | 33, _ => exact a_ok262_33
  | 34, _ => exact a_ok262_34
  | 35, _ => exact a_ok262_35
  | 36, _ => exact a_ok262_36
  | 37, _ => exact a_ok262_37
  | 38, _ => exact a_ok262_38
  | 39, _ => exact a_ok262_39
  | 40, _ => exact a_ok262_40
  | 41, _ => exact a_ok262_41
  | 42, _ => exact a_ok262_42
  | j + 43, h => exact absurd h (by omega))
theorem a_ok263_0 : ((a_c263.drop (20 * 0)).take 20).all (a_rowok 263) = true := by decide +kernel
set_option maxRecDepth 100000 in
theorem a_ok263 : ∀ r ∈ a_c263, a_rowok 263 r = true := a_all20 1 (Nat.le_of_ble_eq_true rfl) (fun j hj => by
  match j, hj with
  | 0, _ => exact a_ok263_0
  | j + 1, h => exact absurd h (by omega))
theorem a_ok264_0 : ((a_c264.drop (20 * 0)).take 20).all (a_rowok 264) = true := by decide +kernel
set_option maxRecDepth 100000 in
theorem a_ok264 : ∀ r ∈ a_c264, a_rowok 264 r = true := a_all20 1 (Nat.le_of_ble_eq_true rfl) (fun j hj => by
  match j, hj with
  | 0, _ => exact a_ok264_0
  | j + 1, h => exact absurd h (by omega))
theorem a_ok265_0 : ((a_c265.drop (20 * 0)).take 20).all (a_rowok 265) = true := by decide +kernel
theorem a_ok265_1 : ((a_c265.drop (20 * 1)).take 20).all (a_rowok 265) = true := by decide +kernel
theorem a_ok265_2 : ((a_c265.drop (20 * 2)).take 20).all (a_rowok 265) = true := by decide +kernel
set_option maxRecDepth 100000 in
theorem a_ok265 : ∀ r ∈ a_c265, a_rowok 265 r = true := a_all20 3 (Nat.le_of_ble_eq_true rfl) (fun j hj => by
  match j, hj with
  | 0, _ => exact a_ok265_0
  | 1, _ => exact a_ok265_1
  | 2, _ => exact a_ok265_2
  | j + 3, h => exact absurd h (by omega))
theorem a_ok266_0 : ((a_c266.drop (20 * 0)).take 20).all (a_rowok 266) = true := by decide +kernel
set_option maxRecDepth 100000 in
theorem a_ok266 : ∀ r ∈ a_c266, a_rowok 266 r = true := a_all20 1 (Nat.le_of_ble_eq_true rfl) (fun j hj => by
  match j, hj with
  | 0, _ => exact a_ok266_0
  | j + 1, h => exact absurd h (by omega))
theorem a_ok267_0 : ((a_c267.drop (20 * 0)).take 20).all (a_rowok 267) = true := by decide +kernel
set_option maxRecDepth 100000 in
theorem a_ok267 : ∀ r ∈ a_c267, a_rowok 267 r = true := a_all20 1 (Nat.le_of_ble_eq_true rfl) (fun j hj => by
  match j, hj with
  | 0, _ => exact a_ok267_0
  | j + 1, h => exact absurd h (by omega))
theorem a_ok268_0 : ((a_c268.drop (20 * 0)).take 20).all (a_rowok 268) = true := by decide +kernel
set_option maxRecDepth 100000 in
theorem a_ok268 : ∀ r ∈ a_c268, a_rowok 268 r = true := a_all20 1 (Nat.le_of_ble_eq_true rfl) (fun j hj => by
  match j, hj with
  | 0, _ => exact a_ok268_0
  | j + 1, h => exact absurd h (by omega))
theorem a_ok269_0 : ((a_c269.drop (20 * 0)).take 20).all (a_rowok 269) = true := by decide +kernel
set_option maxRecDepth 100000 in
theorem a_ok269 : ∀ r ∈ a_c269, a_rowok 269 r = true := a_all20 1 (Nat.le_of_ble_eq_true rfl) (fun j hj => by
  match j, hj with
  | 0, _ => exact a_ok269_0
  | j + 1, h => exact absurd h (by omega))
theorem a_ok270_0 : ((a_c270.drop (20 * 0)).take 20).all (a_rowok 270) = true := by decide +kernel
set_option maxRecDepth 100000 in
theorem a_ok270 : ∀ r ∈ a_c270, a_rowok 270 r = true := a_all20 1 (Nat.le_of_ble_eq_true rfl) (fun j hj => by
  match j, hj with
  | 0, _ => exact a_ok270_0
  | j + 1, h => exact absurd h (by omega))
theorem a_ok271_0 : ((a_c271.drop (20 * 0)).take 20).all (a_rowok 271) = true := by decide +kernel
set_option maxRecDepth 100000 in
theorem a_ok271 : ∀ r ∈ a_c271, a_rowok 271 r = true := a_all20 1 (Nat.le_of_ble_eq_true rfl) (fun j hj => by
  match j, hj with
  | 0, _ => exact a_ok271_0
  | j + 1, h => exact absurd h (by omega))
theorem a_ok272_0 : ((a_c272.drop (20 * 0)).take 20).all (a_rowok 272) = true := by decide +kernel
set_option maxRecDepth 100000 in
theorem a_ok272 : ∀ r ∈ a_c272, a_rowok 272 r = true := a_all20 1 (Nat.le_of_ble_eq_true rfl) (fun j hj => by
  match j, hj with
  | 0, _ => exact a_ok272_0
  | j + 1, h => exact absurd h (by omega))
theorem a_ok273_0 : ((a_c273.drop (20 * 0)).take 20).all (a_rowok 273) = true := by decide +kernel
set_option maxRecDepth 100000 in
theorem a_ok273 : ∀ r ∈ a_c273, a_rowok 273 r = true := a_all20 1 (Nat.le_of_ble_eq_true rfl) (fun j hj => by
  match j, hj with
  | 0, _ => exact a_ok273_0
  | j + 1, h => exact absurd h (by omega))
theorem a_codes_len : a_codes.length = 274 := by decide +kernel
set_option maxRecDepth 100000 in
theorem a_allok : ∀ (i : Nat) (L : List (Nat × a_Rw)), a_codes[i]? = some L → ∀ r ∈ L, a_rowok i r = true := by
  intro i L h
  match i, h with
  | 0, h => cases h; exact a_ok0
  | 1, h => cases h; exact a_ok1
  | 2, h => cases h; exact a_ok2
  | 3, h => cases h; exact a_ok3
  | 4, h => cases h; exact a_ok4
  | 5, h => cases h; exact a_ok5
  | 6, h => cases h; exact a_ok6
  | 7, h => cases h; exact a_ok7
  | 8, h => cases h; exact a_ok8
  | 9, h => cases h; exact a_ok9
  | 10, h => cases h; exact a_ok10
  | 11, h => cases h; exact a_ok11
  | 12, h => cases h; exact a_ok12
  | 13, h => cases h; exact a_ok13
  | 14, h => cases h; exact a_ok14
  | 15, h => cases h; exact a_ok15
  | 16, h => cases h; exact a_ok16
  | 17, h => cases h; exact a_ok17
  | 18, h => cases h; exact a_ok18
  | 19, h => cases h; exact a_ok19
  | 20, h => cases h; exact a_ok20
  | 21, h => cases h; exact a_ok21
  | 22, h => cases h; exact a_ok22
  | 23, h => cases h; exact a_ok23
  | 24, h => cases h; exact a_ok24
  | 25, h => cases h; exact a_ok25
  | 26, h => cases h; exact a_ok26
  | 27, h => cases h; exact a_ok27
  | 28, h => cases h; exact a_ok28
  | 29, h => cases h; exact a_ok29
  | 30, h => cases h; exact a_ok30
  | 31, h => cases h; exact a_ok31
  | 32, h => cases h; exact a_ok32
  | 33, h => cases h; exact a_ok33
  | 34, h => cases h; exact a_ok34
  | 35, h => cases h; exact a_ok35
  | 36, h => cases h; exact a_ok36
  | 37, h => cases h; exact a_ok37
  | 38, h => cases h; exact a_ok38
  | 39, h => cases h; exact a_ok39
  | 40, h => cases h; exact a_ok40
  | 41, h => cases h; exact a_ok41
  | 42, h => cases h; exact a_ok42
  | 43, h => cases h; exact a_ok43
  | 44, h => cases h; exact a_ok44
  | 45, h => cases h; exact a_ok45
  | 46, h => cases h; exact a_ok46
  | 47, h => cases h; exact a_ok47
  | 48, h => cases h; exact a_ok48
  | 49, h => cases h; exact a_ok49
  | 50, h => cases h; exact a_ok50
  | 51, h => cases h; exact a_ok51
  | 52, h => cases h; exact a_ok52
  | 53, h => cases h; exact a_ok53
  | 54, h => cases h; exact a_ok54
  | 55, h => cases h; exact a_ok55
  | 56, h => cases h; exact a_ok56
  | 57, h => cases h; exact a_ok57
  | 58, h => cases h; exact a_ok58
  | 59, h => cases h; exact a_ok59
  | 60, h => cases h; exact a_ok60
  | 61, h => cases h; exact a_ok61
  | 62, h => cases h; exact a_ok62
  | 63, h => cases h; exact a_ok63
  | 64, h => cases h; exact a_ok64
  | 65, h => cases h; exact a_ok65
  | 66, h => cases h; exact a_ok66
  | 67, h => cases h; exact a_ok67
  | 68, h => cases h; exact a_ok68
  | 69, h => cases h; exact a_ok69
  | 70, h => cases h; exact a_ok70
  | 71, h => cases h; exact a_ok71
  | 72, h => cases h; exact a_ok72
  | 73, h => cases h; exact a_ok73
  | 74, h => cases h; exact a_ok74
  | 75, h => cases h; exact a_ok75
  | 76, h => cases h; exact a_ok76
  | 77, h => cases h; exact a_ok77
  | 78, h => cases h; exact a_ok78
  | 79, h => cases h; exact a_ok79
  | 80, h => cases h; exact a_ok80
  | 81, h => cases h; exact a_ok81
  | 82, h => cases h; exact a_ok82
  | 83, h => cases h; exact a_ok83
  | 84, h => cases h; exact a_ok84
  | 85, h => cases h; exact a_ok85
  | 86, h => cases h; exact a_ok86
  | 87, h => cases h; exact a_ok87
  | 88, h => cases h; exact a_ok88
  | 89, h => cases h; exact a_ok89
  | 90, h => cases h; exact a_ok90
  | 91, h => cases h; exact a_ok91
  | 92, h => cases h; exact a_ok92
  | 93, h => cases h; exact a_ok93
  | 94, h => cases h; exact a_ok94
  | 95, h => cases h; exact a_ok95
  | 96, h => cases h; exact a_ok96
  | 97, h => cases h; exact a_ok97
  | 98, h => cases h; exact a_ok98
  | 99, h => cases h; exact a_ok99
  | 100, h => cases h; exact a_ok100
  | 101, h => cases h; exact a_ok101
  | 102, h => cases h; exact a_ok102
  | 103, h => cases h; exact a_ok103
  | 104, h => cases h; exact a_ok104
  | 105, h => cases h; exact a_ok105
  | 106, h => cases h; exact a_ok106
  | 107, h => cases h; exact a_ok107
  | 108, h => cases h; exact a_ok108
  | 109, h => cases h; exact a_ok109
  | 110, h => cases h; exact a_ok110
  | 111, h => cases h; exact a_ok111
  | 112, h => cases h; exact a_ok112
  | 113, h => cases h; exact a_ok113
  | 114, h => cases h; exact a_ok114
  | 115, h => cases h; exact a_ok115
  | 116, h => cases h; exact a_ok116
  | 117, h => cases h; exact a_ok117
  | 118, h => cases h; exact a_ok118
  | 119, h => cases h; exact a_ok119
  | 120, h => cases h; exact a_ok120
  | 121, h => cases h; exact a_ok121
  | 122, h => cases h; exact a_ok122
  | 123, h => cases h; exact a_ok123
  | 124, h => cases h; exact a_ok124
  | 125, h => cases h; exact a_ok125
  | 126, h => cases h; exact a_ok126
  | 127, h => cases h; exact a_ok127
  | 128, h => cases h; exact a_ok128
  | 129, h => cases h; exact a_ok129
  | 130, h => cases h; exact a_ok130
  | 131, h => cases h; exact a_ok131
  | 132, h => cases h; exact a_ok132
  | 133, h => cases h; exact a_ok133
  | 134, h => cases h; exact a_ok134
  | 135, h => cases h; exact a_ok135
  | 136, h => cases h; exact a_ok136
  | 137, h => cases h; exact a_ok137
  | 138, h => cases h; exact a_ok138
  | 139, h => cases h; exact a_ok139
  | 140, h => cases h; exact a_ok140
  | 141, h => cases h; exact a_ok141
  | 142, h => cases h; exact a_ok142
  | 143, h => cases h; exact a_ok143
  | 144, h => cases h; exact a_ok144
  | 145, h => cases h; exact a_ok145
  | 146, h => cases h; exact a_ok146
  | 147, h => cases h; exact a_ok147
  | 148, h => cases h; exact a_ok148
  | 149, h => cases h; exact a_ok149
  | 150, h => cases h; exact a_ok150
  | 151, h => cases h; exact a_ok151
  | 152, h => cases h; exact a_ok152
  | 153, h => cases h; exact a_ok153
  | 154, h => cases h; exact a_ok154
  | 155, h => cases h; exact a_ok155
  | 156, h => cases h; exact a_ok156
  | 157, h => cases h; exact a_ok157
  | 158, h => cases h; exact a_ok158
  | 159, h => cases h; exact a_ok159
  | 160, h => cases h; exact a_ok160
  | 161, h => cases h; exact a_ok161
  | 162, h => cases h; exact a_ok162
  | 163, h => cases h; exact a_ok163
  | 164, h => cases h; exact a_ok164
  | 165, h => cases h; exact a_ok165
  | 166, h => cases h; exact a_ok166
  | 167, h => cases h; exact a_ok167
  | 168, h => cases h; exact a_ok168
  | 169, h => cases h; exact a_ok169
  | 170, h => cases h; exact a_ok170
  | 171, h => cases h; exact a_ok171
  | 172, h => cases h; exact a_ok172
  | 173, h => cases h; exact a_ok173
  | 174, h => cases h; exact a_ok174
  | 175, h => cases h; exact a_ok175
  | 176, h => cases h; exact a_ok176
  | 177, h => cases h; exact a_ok177
  | 178, h => cases h; exact a_ok178
  | 179, h => cases h; exact a_ok179
  | 180, h => cases h; exact a_ok180
  | 181, h => cases h; exact a_ok181
  | 182, h => cases h; exact a_ok182
  | 183, h => cases h; exact a_ok183
  | 184, h => cases h; exact a_ok184
  | 185, h => cases h; exact a_ok185
  | 186, h => cases h; exact a_ok186
  | 187, h => cases h; exact a_ok187
  | 188, h => cases h; exact a_ok188
  | 189, h => cases h; exact a_ok189
  | 190, h => cases h; exact a_ok190
  | 191, h => cases h; exact a_ok191
  | 192, h => cases h; exact a_ok192
  | 193, h => cases h; exact a_ok193
  | 194, h => cases h; exact a_ok194
  | 195, h => cases h; exact a_ok195
  | 196, h => cases h; exact a_ok196
  | 197, h => cases h; exact a_ok197
  | 198, h => cases h; exact a_ok198
  | 199, h => cases h; exact a_ok199
  | 200, h => cases h; exact a_ok200
  | 201, h => cases h; exact a_ok201
  | 202, h => cases h; exact a_ok202
  | 203, h => cases h; exact a_ok203
  | 204, h => cases h; exact a_ok204
  | 205, h => cases h; exact a_ok205
  | 206, h => cases h; exact a_ok206
  | 207, h => cases h; exact a_ok207
  | 208, h => cases h; exact a_ok208
  | 209, h => cases h; exact a_ok209
  | 210, h => cases h; exact a_ok210
  | 211, h => cases h; exact a_ok211
  | 212, h => cases h; exact a_ok212
  | 213, h => cases h; exact a_ok213
  | 214, h => cases h; exact a_ok214
  | 215, h => cases h; exact a_ok215
  | 216, h => cases h; exact a_ok216
  | 217, h => cases h; exact a_ok217
  | 218, h => cases h; exact a_ok218
  | 219, h => cases h; exact a_ok219
  | 220, h => cases h; exact a_ok220
  | 221, h => cases h; exact a_ok221
  | 222, h => cases h; exact a_ok222
  | 223, h => cases h; exact a_ok223
  | 224, h => cases h; exact a_ok224
  | 225, h => cases h; exact a_ok225
  | 226, h => cases h; exact a_ok226
  | 227, h => cases h; exact a_ok227
  | 228, h => cases h; exact a_ok228
  | 229, h => cases h; exact a_ok229
  | 230, h => cases h; exact a_ok230
  | 231, h => cases h; exact a_ok231
  | 232, h => cases h; exact a_ok232
  | 233, h => cases h; exact a_ok233
  | 234, h => cases h; exact a_ok234
  | 235, h => cases h; exact a_ok235
  | 236, h => cases h; exact a_ok236
  | 237, h => cases h; exact a_ok237
  | 238, h => cases h; exact a_ok238
  | 239, h => cases h; exact a_ok239
  | 240, h => cases h; exact a_ok240
  | 241, h => cases h; exact a_ok241
  | 242, h => cases h; exact a_ok242
  | 243, h => cases h; exact a_ok243
  | 244, h => cases h; exact a_ok244
  | 245, h => cases h; exact a_ok245
  | 246, h => cases h; exact a_ok246
  | 247, h => cases h; exact a_ok247
  | 248, h => cases h; exact a_ok248
  | 249, h => cases h; exact a_ok249
  | 250, h => cases h; exact a_ok250
  | 251, h => cases h; exact a_ok251
  | 252, h => cases h; exact a_ok252
  | 253, h => cases h; exact a_ok253
  | 254, h => cases h; exact a_ok254
  | 255, h => cases h; exact a_ok255
  | 256, h => cases h; exact a_ok256
  | 257, h => cases h; exact a_ok257
  | 258, h => cases h; exact a_ok258
  | 259, h => cases h; exact a_ok259
  | 260, h => cases h; exact a_ok260
  | 261, h => cases h; exact a_ok261
  | 262, h => cases h; exact a_ok262
  | 263, h => cases h; exact a_ok263
  | 264, h => cases h; exact a_ok264
  | 265, h => cases h; exact a_ok265
  | 266, h => cases h; exact a_ok266
  | 267, h => cases h; exact a_ok267
  | 268, h => cases h; exact a_ok268
  | 269, h => cases h; exact a_ok269
  | 270, h => cases h; exact a_ok270
  | 271, h => cases h; exact a_ok271
  | 272, h => cases h; exact a_ok272
  | 273, h => cases h; exact a_ok273
  | i + 274, h => exact absurd (List.getElem?_eq_some_iff.mp h).1 (by rw [a_codes_len]; omega)
