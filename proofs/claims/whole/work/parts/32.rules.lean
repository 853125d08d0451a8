/-! rules for calls that are not walked in place -/
theorem lg_lt (x y : Int32) : (lg_cmp x.toInt64 y.toInt64 < 0) = (x < y) := by
  have e : (x.toInt64 < y.toInt64) = (x < y) := by
    rw [Int64.lt_iff_toInt_lt, Int32.lt_iff_toInt_lt, Int32.toInt_toInt64, Int32.toInt_toInt64]
  have e2 : (x.toInt64 = y.toInt64) = (x.toInt = y.toInt) := by
    rw [← Int64.toInt_inj, Int32.toInt_toInt64, Int32.toInt_toInt64]
  unfold lg_cmp
  by_cases h1 : x.toInt64 > y.toInt64
  · rw [if_pos h1]
    rw [gt_iff_lt, Int64.lt_iff_toInt_lt, Int32.toInt_toInt64, Int32.toInt_toInt64] at h1
    rw [show (x < y) = (x.toInt < y.toInt) from propext Int32.lt_iff_toInt_lt]
    refine propext ⟨fun h => absurd h (by decide), fun h => by omega⟩
  · rw [if_neg h1]
    rw [gt_iff_lt, Int64.lt_iff_toInt_lt, Int32.toInt_toInt64, Int32.toInt_toInt64] at h1
    rw [show (x < y) = (x.toInt < y.toInt) from propext Int32.lt_iff_toInt_lt]
    by_cases h2 : x.toInt64 = y.toInt64
    · rw [if_pos h2]
      rw [e2] at h2
      refine propext ⟨fun h => absurd h (by decide), fun h => by omega⟩
    · rw [if_neg h2]
      rw [e2] at h2
      refine propext ⟨fun _ => by omega, fun _ => by decide⟩
theorem lg_gt (x y : Int32) : (0 < lg_cmp x.toInt64 y.toInt64) = (y < x) := by
  have e : (y.toInt64 < x.toInt64) = (y < x) := by
    rw [Int64.lt_iff_toInt_lt, Int32.lt_iff_toInt_lt, Int32.toInt_toInt64, Int32.toInt_toInt64]
  unfold lg_cmp
  by_cases h1 : x.toInt64 > y.toInt64
  · rw [if_pos h1]
    refine propext ⟨fun _ => cast e h1, fun _ => by decide⟩
  · rw [if_neg h1]
    have h3 : ¬ y < x := fun h => h1 (cast e.symm h)
    by_cases h2 : x.toInt64 = y.toInt64
    · rw [if_pos h2]
      refine propext ⟨fun h => absurd h (by decide), fun h => absurd h h3⟩
    · rw [if_neg h2]
      refine propext ⟨fun h => absurd h (by decide), fun h => absurd h h3⟩
def a_fil (m : Nat) (v : Int32) (f : Nat → Int32) : Nat → Int32 := fun k => if k < m then v else f k
def a_cpyOk (m1 m2 : Nat) (p1 p2 len : Int32) : Prop := ¬ p1 < 0 ∧ ¬ p2 < 0 ∧ ¬ len < 0 ∧ p1.toNatClampNeg + len.toNatClampNeg ≤ m1 ∧ p2.toNatClampNeg + len.toNatClampNeg ≤ m2
section RUL
variable {i pc : Nat} {lc : a_Lc} {st : List Value} {sc : a_Sc} {fd : Nat} {M : a_Mm} {Q : Option Value → a_Hp → Prop} {n a b : Nat} {v : Int32} {x y : Int32} {o z : Nat}
theorem x_cpy' {t m1 m2 d : Nat} {p1 p2 len : Int32} (hi : a_ins i pc = some (.invokestatic z, n, 1001, b, v)) (h1 : a_AR t o m1) (h2 : a_AR t d m2) (ht : t < 2) (hk : a_cpyOk m1 m2 p1 p2 len) (hc : (st.map (fun v => v.category)).sum ≤ 8)
    (k : a_Ex i (pc + n) lc st (a_hp sc fd (a_row M d (va_cpy (M o) (M d) p1.toNatClampNeg p2.toNatClampNeg len.toNatClampNeg))) Q) : a_Ex i pc lc (.int len :: .int p2 :: .ref d :: .int p1 :: .ref o :: st) (a_hp sc fd M) Q :=
  x_cpy hi h1 h2 ht hk.1 hk.2.1 hk.2.2.1 hk.2.2.2.1 hk.2.2.2.2 hc k
theorem x_within {lo up : Int32} (hi : a_ins i pc = some (.invokestatic z, n, 147, 3, v)) (hc : (st.map (fun v => v.category)).sum ≤ 8) (H : (lo ≤ x ∧ x ≤ up → a_Ex i (pc + n) lc (.int 1 :: st) (a_hp sc fd M) Q) ∧ (¬ (lo ≤ x ∧ x ≤ up) → a_Ex i (pc + n) lc (.int 0 :: st) (a_hp sc fd M) Q)) : a_Ex i pc lc (.long up.toInt64 :: .long lo.toInt64 :: .long x.toInt64 :: st) (a_hp sc fd M) Q := by
  refine x_sh (r := st) (lj := [some _, none, some _, none, some _, none]) hi ws_147 [_, _, _] rfl rfl hc (Nat.le_of_ble_eq_true rfl) rfl ?_
  refine v_147_0 ⟨fun h => ?_, fun h => ⟨fun g => ?_, fun g => ?_⟩⟩
  · rw [lg_lt] at h
    exact H.2 (fun q => absurd q.1 (Int32.not_le.mpr h))
  · rw [lg_gt] at g
    exact H.2 (fun q => absurd q.2 (Int32.not_le.mpr g))
  · rw [lg_lt] at h
    rw [lg_gt] at g
    exact H.1 ⟨Int32.not_lt.mp h, Int32.not_lt.mp g⟩
theorem x_fill {m : Nat} (hi : a_ins i pc = some (.invokestatic z, n, 263, 2, v)) (ho : a_AR 0 o m) (hm : m < 2147483648) (hc : (st.map (fun v => v.category)).sum ≤ 8) (k : a_Ex i (pc + n) lc st (a_hp sc fd (a_row M o (a_fil m x (M o)))) Q) : a_Ex i pc lc (.int x :: .ref o :: st) (a_hp sc fd M) Q := by
  refine x_sh (r := st) (lj := [some _, some _, none, none]) hi ws_263 [_, _] rfl rfl hc (Nat.le_of_ble_eq_true rfl) rfl ?_
  have L : ∀ d s, m - s = d → s ≤ m → a_Ex 263 5 [some (.ref o), some (.int x), some (.int (N s)), some (.int (N m))] [] (a_hp sc fd (a_row M o (a_fil s x (M o)))) (a_Rt i (pc + n) lc st Q) := by
    intro d
    induction d with
    | zero =>
      intro s hd hs
      have e : s = m := by omega
      subst e
      exact v_263_5 ho ⟨fun _ => k, fun h => absurd (Int32.le_refl _) h⟩
    | succ d ih =>
      intro s hd hs
      refine v_263_5 ho ⟨fun h => ?_, fun _ => ⟨by rw [a_in_N (by omega)]; omega, ?_⟩⟩
      · rw [N_le (by omega) (by omega)] at h; omega
      · have i1 := ih (s + 1) (by omega) (by omega)
        rw [N_toNat (by omega), nN 1, N_add]
        have e : a_up (a_row M o (a_fil s x (M o))) o s x = a_row M o (a_fil (s + 1) x (M o)) := by
          funext q j
          unfold a_up a_row a_fil
          by_cases h1 : q = o
          · rw [if_pos h1, if_pos h1]
            by_cases h2 : j = s
            · rw [if_pos h2, if_pos h1, if_pos (by omega)]
            · rw [if_neg h2, if_pos h1]
              by_cases h3 : j < s
              · rw [if_pos h3, if_pos (by omega)]
              · rw [if_neg h3, if_neg (by omega)]
          · rw [if_neg h1, if_neg h1, if_neg h1]
        rw [e]
        exact i1
  have L0 := L m 0 rfl (Nat.zero_le _)
  have e0 : a_row M o (a_fil 0 x (M o)) = M := by
    funext q j
    unfold a_row a_fil
    by_cases h1 : q = o
    · subst h1; rw [if_pos rfl, if_neg (by omega)]
    · rw [if_neg h1]
  rw [e0] at L0
  exact v_263_0 ho L0
end RUL
