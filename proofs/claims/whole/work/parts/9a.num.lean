/-! stands as numbers: the class's (vl), the reference's (ph of it); what is laid by a number (std) -/
def dg (n q s : Nat) : Nat := if n = 2 then (if s = 0 then q / 6 else q % 6) else (if s = 0 then q / 36 else if s = 1 then q / 6 % 6 else q % 6)
def std (n : Nat) (T : HA) (c : Nat) : HA := fun w k => if w = 0 then dg n (c / 128) k else if w = 1 then c / 16 / 2 ^ k % 2 else if w = 2 then (if k = 0 then 0 else c / 4 / 2 ^ (k - 1) % 2) else if w = 6 ∧ k = 2 then c % 4 else T w k
def vl (n : Nat) (A : HA) : Nat := if n = 2 then ((A 0 0 * 6 + A 0 1) * 8 + (A 1 0 + 2 * A 1 1)) * 16 + A 2 1 * 4 + A 6 2 else (((A 0 0 * 6 + A 0 1) * 6 + A 0 2) * 8 + (A 1 0 + 2 * A 1 1 + 4 * A 1 2)) * 16 + (A 2 1 + 2 * A 2 2) * 4 + A 6 2
def VS (n : Nat) (A : HA) : Prop := (n = 2 ∨ n = 3) ∧ (∀ s, s < n → A 0 s ≤ 5 ∧ A 1 s ≤ 1 ∧ A 2 s ≤ 1) ∧ A 2 0 = 0 ∧ A 6 2 ≤ 3
def phi (n c : Nat) : Nat := (if n = 2 then c / 128 % 6 * 6 + c / 128 / 6 else c / 128 % 6 * 36 + c / 128 / 6 % 6 * 6 + c / 128 / 36) * 128 + c % 128
def cb (n : Nat) : Nat := if n = 2 then 4608 else 27648
section NUM
variable {n c c' : Nat} {A B T : HA}
theorem or2 {x : Nat} (h : x ≤ 1) : x = 0 ∨ x = 1 := by omega
theorem s69_3 (h : ∀ s, s < 3 → A 1 s ≤ 1) : s_69 3 A 1 = A 1 0 + 2 * A 1 1 + 4 * A 1 2 := by
  rw [s69_bs A 1 (by omega)]
  show ((0 ||| (if decide (A 1 0 = 1) = true then 1 <<< 0 else 0)) ||| (if decide (A 1 1 = 1) = true then 1 <<< 1 else 0)) ||| (if decide (A 1 2 = 1) = true then 1 <<< 2 else 0) = _
  rcases or2 (h 0 (by omega)) with a | a <;> rcases or2 (h 1 (by omega)) with b | b <;> rcases or2 (h 2 (by omega)) with d | d <;> rw [a, b, d] <;> rfl
theorem s69_2 (h : ∀ s, s < 2 → A 1 s ≤ 1) : s_69 2 A 1 = A 1 0 + 2 * A 1 1 := by
  rw [s69_bs A 1 (by omega)]
  show (0 ||| (if decide (A 1 0 = 1) = true then 1 <<< 0 else 0)) ||| (if decide (A 1 1 = 1) = true then 1 <<< 1 else 0) = _
  rcases or2 (h 0 (by omega)) with a | a <;> rcases or2 (h 1 (by omega)) with b | b <;> rw [a, b] <;> rfl
theorem s74_3 (h : ∀ s, s < 3 → A 2 s ≤ 1) : s_74 3 A 1 = A 2 0 + 2 * A 2 1 + 4 * A 2 2 := by
  rw [s74_bs A 1 (by omega)]
  show ((0 ||| (if decide (A 2 0 = 1) = true then 1 <<< 0 else 0)) ||| (if decide (A 2 1 = 1) = true then 1 <<< 1 else 0)) ||| (if decide (A 2 2 = 1) = true then 1 <<< 2 else 0) = _
  rcases or2 (h 0 (by omega)) with a | a <;> rcases or2 (h 1 (by omega)) with b | b <;> rcases or2 (h 2 (by omega)) with d | d <;> rw [a, b, d] <;> rfl
theorem s74_2 (h : ∀ s, s < 2 → A 2 s ≤ 1) : s_74 2 A 1 = A 2 0 + 2 * A 2 1 := by
  rw [s74_bs A 1 (by omega)]
  show (0 ||| (if decide (A 2 0 = 1) = true then 1 <<< 0 else 0)) ||| (if decide (A 2 1 = 1) = true then 1 <<< 1 else 0) = _
  rcases or2 (h 0 (by omega)) with a | a <;> rcases or2 (h 1 (by omega)) with b | b <;> rw [a, b] <;> rfl
theorem s93_vl (v : VS n A) : s_93 n A = vl n A := by
  obtain ⟨hn, h, h0, h3⟩ := v
  rcases hn with rfl | rfl
  · have e : s_93 2 A = (((((0 * 6 + A 0 0) * 6 + A 0 1) * 8 + s_69 2 A 1) * 4 + (s_74 2 A 1 >>> 1)) * 4) + A 6 2 := rfl
    rw [e, s69_2 (fun s hs => (h s hs).2.1), s74_2 (fun s hs => (h s hs).2.2), Nat.shiftRight_eq_div_pow]
    show _ = ((A 0 0 * 6 + A 0 1) * 8 + (A 1 0 + 2 * A 1 1)) * 16 + A 2 1 * 4 + A 6 2
    omega
  · have e : s_93 3 A = ((((((0 * 6 + A 0 0) * 6 + A 0 1) * 6 + A 0 2) * 8 + s_69 3 A 1) * 4 + (s_74 3 A 1 >>> 1)) * 4) + A 6 2 := rfl
    rw [e, s69_3 (fun s hs => (h s hs).2.1), s74_3 (fun s hs => (h s hs).2.2), Nat.shiftRight_eq_div_pow]
    show _ = (((A 0 0 * 6 + A 0 1) * 6 + A 0 2) * 8 + (A 1 0 + 2 * A 1 1 + 4 * A 1 2)) * 16 + (A 2 1 + 2 * A 2 2) * 4 + A 6 2
    omega
theorem vl_lt (v : VS n A) : vl n A < cb n := by
  obtain ⟨hn, h, h0, h3⟩ := v
  rcases hn with rfl | rfl
  · have a := h 0 (by omega); have b := h 1 (by omega)
    show ((A 0 0 * 6 + A 0 1) * 8 + (A 1 0 + 2 * A 1 1)) * 16 + A 2 1 * 4 + A 6 2 < 4608
    omega
  · have a := h 0 (by omega); have b := h 1 (by omega); have d := h 2 (by omega)
    show (((A 0 0 * 6 + A 0 1) * 6 + A 0 2) * 8 + (A 1 0 + 2 * A 1 1 + 4 * A 1 2)) * 16 + (A 2 1 + 2 * A 2 2) * 4 + A 6 2 < 27648
    omega
theorem ES.vlq (e : ES n A B) (hn : n = 2 ∨ n = 3) : vl n A = vl n B := by
  unfold vl
  rcases hn with rfl | rfl
  · rw [if_pos rfl, if_pos rfl, e.1 0 (by omega) 0 (by omega), e.1 0 (by omega) 1 (by omega), e.1 1 (by omega) 0 (by omega), e.1 1 (by omega) 1 (by omega), e.1 2 (by omega) 1 (by omega), e.2 2 (by omega) (by omega)]
  · rw [if_neg (by omega), if_neg (by omega), e.1 0 (by omega) 0 (by omega), e.1 0 (by omega) 1 (by omega), e.1 0 (by omega) 2 (by omega), e.1 1 (by omega) 0 (by omega), e.1 1 (by omega) 1 (by omega), e.1 1 (by omega) 2 (by omega), e.1 2 (by omega) 1 (by omega), e.1 2 (by omega) 2 (by omega), e.2 2 (by omega) (by omega)]
/-- an equality of stands, site by site -/
theorem ES.mk2 (h : ∀ w, w < 5 → A w 0 = B w 0 ∧ A w 1 = B w 1) (h6 : A 6 1 = B 6 1 ∧ A 6 2 = B 6 2 ∧ A 6 3 = B 6 3 ∧ A 6 4 = B 6 4) : ES 2 A B := by
  refine ⟨fun w hw s hs => ?_, fun k k1 k2 => ?_⟩
  · rcases (by omega : s = 0 ∨ s = 1) with rfl | rfl
    · exact (h w hw).1
    · exact (h w hw).2
  · rcases (by omega : k = 1 ∨ k = 2 ∨ k = 3 ∨ k = 4) with rfl | rfl | rfl | rfl
    · exact h6.1
    · exact h6.2.1
    · exact h6.2.2.1
    · exact h6.2.2.2
theorem ES.mk3 (h : ∀ w, w < 5 → A w 0 = B w 0 ∧ A w 1 = B w 1 ∧ A w 2 = B w 2) (h6 : A 6 1 = B 6 1 ∧ A 6 2 = B 6 2 ∧ A 6 3 = B 6 3 ∧ A 6 4 = B 6 4) : ES 3 A B := by
  refine ⟨fun w hw s hs => ?_, fun k k1 k2 => ?_⟩
  · rcases (by omega : s = 0 ∨ s = 1 ∨ s = 2) with rfl | rfl | rfl
    · exact (h w hw).1
    · exact (h w hw).2.1
    · exact (h w hw).2.2
  · rcases (by omega : k = 1 ∨ k = 2 ∨ k = 3 ∨ k = 4) with rfl | rfl | rfl | rfl
    · exact h6.1
    · exact h6.2.1
    · exact h6.2.2.1
    · exact h6.2.2.2
/-- the terms are the same -/
def TM (n : Nat) (T A : HA) : Prop := (∀ w, 3 ≤ w → w < 5 → ∀ s, s < n → A w s = T w s) ∧ ∀ k, 1 ≤ k → k < 5 → ¬ k = 2 → A 6 k = T 6 k
theorem TM.refl (n : Nat) (T : HA) : TM n T T := ⟨fun _ _ _ _ _ => rfl, fun _ _ _ _ => rfl⟩
theorem TM.tr (t : TM n T A) (h : Tr n A B) : TM n T B := ⟨fun w w1 w2 s hs => (h.2.2.2.1 w s (by omega) w2 hs).trans (t.1 w w1 w2 s hs), fun k k1 k2 k3 => (h.2.2.2.2 k k1 k2 k3).trans (t.2 k k1 k2 k3)⟩
theorem TM.es (t : TM n T A) (e : ES n A B) : TM n T B := ⟨fun w w1 w2 s hs => (e.1 w (by omega) s hs).symm.trans (t.1 w w1 w2 s hs), fun k k1 k2 k3 => (e.2 k k1 k2).symm.trans (t.2 k k1 k2 k3)⟩
theorem std_tm : TM n T (std n T c) := by
  refine ⟨fun w w1 w2 s hs => ?_, fun k k1 k2 k3 => ?_⟩
  · unfold std; rw [if_neg (by omega), if_neg (by omega), if_neg (by omega), if_neg (by omega)]
  · unfold std; rw [if_neg (by omega), if_neg (by omega), if_neg (by omega), if_neg (by omega)]
theorem std_vl (v : VS n A) (t : TM n T A) : ES n (std n T (vl n A)) A := by
  obtain ⟨hn, h, h0, h3⟩ := v
  rcases hn with rfl | rfl
  · have a := h 0 (by omega); have b := h 1 (by omega)
    have e : vl 2 A = ((A 0 0 * 6 + A 0 1) * 8 + (A 1 0 + 2 * A 1 1)) * 16 + A 2 1 * 4 + A 6 2 := rfl
    generalize vl 2 A = c at e ⊢
    refine ES.mk2 (fun w hw => ?_) ⟨(t.2 1 (by omega) (by omega) (by omega)).symm, ?_, (t.2 3 (by omega) (by omega) (by omega)).symm, (t.2 4 (by omega) (by omega) (by omega)).symm⟩
    · rcases (by omega : w = 0 ∨ w = 1 ∨ w = 2 ∨ (3 ≤ w ∧ w < 5)) with rfl | rfl | rfl | hw
      · constructor
        · show c / 128 / 6 = A 0 0; omega
        · show c / 128 % 6 = A 0 1; omega
      · constructor
        · show c / 16 / 1 % 2 = A 1 0; omega
        · show c / 16 / 2 % 2 = A 1 1; omega
      · constructor
        · show 0 = A 2 0; omega
        · show c / 4 / 1 % 2 = A 2 1; omega
      · have q := std_tm (n := 2) (T := T) (c := c)
        exact ⟨(q.1 w hw.1 hw.2 0 (by omega)).trans (t.1 w hw.1 hw.2 0 (by omega)).symm, (q.1 w hw.1 hw.2 1 (by omega)).trans (t.1 w hw.1 hw.2 1 (by omega)).symm⟩
    · show c % 4 = A 6 2; omega
  · have a := h 0 (by omega); have b := h 1 (by omega); have d := h 2 (by omega)
    have e : vl 3 A = (((A 0 0 * 6 + A 0 1) * 6 + A 0 2) * 8 + (A 1 0 + 2 * A 1 1 + 4 * A 1 2)) * 16 + (A 2 1 + 2 * A 2 2) * 4 + A 6 2 := rfl
    generalize vl 3 A = c at e ⊢
    refine ES.mk3 (fun w hw => ?_) ⟨(t.2 1 (by omega) (by omega) (by omega)).symm, ?_, (t.2 3 (by omega) (by omega) (by omega)).symm, (t.2 4 (by omega) (by omega) (by omega)).symm⟩
    · rcases (by omega : w = 0 ∨ w = 1 ∨ w = 2 ∨ (3 ≤ w ∧ w < 5)) with rfl | rfl | rfl | hw
      · refine ⟨?_, ?_, ?_⟩
        · show c / 128 / 36 = A 0 0; omega
        · show c / 128 / 6 % 6 = A 0 1; omega
        · show c / 128 % 6 = A 0 2; omega
      · refine ⟨?_, ?_, ?_⟩
        · show c / 16 / 1 % 2 = A 1 0; omega
        · show c / 16 / 2 % 2 = A 1 1; omega
        · show c / 16 / 4 % 2 = A 1 2; omega
      · refine ⟨?_, ?_, ?_⟩
        · show 0 = A 2 0; omega
        · show c / 4 / 1 % 2 = A 2 1; omega
        · show c / 4 / 2 % 2 = A 2 2; omega
      · have q := std_tm (n := 3) (T := T) (c := c)
        exact ⟨(q.1 w hw.1 hw.2 0 (by omega)).trans (t.1 w hw.1 hw.2 0 (by omega)).symm, (q.1 w hw.1 hw.2 1 (by omega)).trans (t.1 w hw.1 hw.2 1 (by omega)).symm, (q.1 w hw.1 hw.2 2 (by omega)).trans (t.1 w hw.1 hw.2 2 (by omega)).symm⟩
    · show c % 4 = A 6 2; omega
theorem std_vs (hn : n = 2 ∨ n = 3) (hc : c < cb n) : VS n (std n T c) := by
  refine ⟨hn, fun s hs => ⟨?_, ?_, ?_⟩, rfl, ?_⟩
  · show dg n (c / 128) s ≤ 5
    unfold dg cb at *
    rcases hn with rfl | rfl
    · rw [if_pos rfl] at hc ⊢; split <;> omega
    · rw [if_neg (by omega)] at hc ⊢
      split
      · omega
      · split <;> omega
  · show c / 16 / 2 ^ s % 2 ≤ 1; omega
  · show (if s = 0 then 0 else c / 4 / 2 ^ (s - 1) % 2) ≤ 1; split <;> omega
  · show c % 4 ≤ 3; omega
theorem std_wn (hn : n = 2 ∨ n = 3) (hc : c < cb n) (w : WN n T) : WN n (std n T c) := by
  obtain ⟨w1, w2, w3, w4, w5⟩ := w
  refine ⟨w1, ⟨w2.1, ?_, w2.2.2⟩, fun s hs => ?_, w4, w5⟩
  · show c % 4 < 4; omega
  · have := w3 s hs
    refine ⟨?_, ?_, ?_, this.2.2.2⟩
    · show dg n (c / 128) s < 6
      unfold dg cb at *
      rcases hn with rfl | rfl
      · rw [if_pos rfl] at hc ⊢; split <;> omega
      · rw [if_neg (by omega)] at hc ⊢
        split
        · omega
        · split <;> omega
    · show c / 16 / 2 ^ s % 2 < 3; omega
    · show (if s = 0 then 0 else c / 4 / 2 ^ (s - 1) % 2) < 5; split <;> omega
/-- the reference's number -/
theorem phi_vl (v : VS n A) : phi n (vl n A) = (if n = 2 then (A 0 1 * 6 + A 0 0) * 8 + (A 1 0 + 2 * A 1 1) else ((A 0 2 * 6 + A 0 1) * 6 + A 0 0) * 8 + (A 1 0 + 2 * A 1 1 + 4 * A 1 2)) * 16 + (if n = 2 then A 2 1 else A 2 1 + 2 * A 2 2) * 4 + A 6 2 := by
  obtain ⟨hn, h, h0, h3⟩ := v
  unfold phi vl
  rcases hn with rfl | rfl
  · have a := h 0 (by omega); have b := h 1 (by omega)
    rw [if_pos rfl, if_pos rfl, if_pos rfl, if_pos rfl]
    omega
  · have a := h 0 (by omega); have b := h 1 (by omega); have d := h 2 (by omega)
    rw [if_neg (by omega), if_neg (by omega), if_neg (by omega), if_neg (by omega)]
    have e1 : ((((A 0 0 * 6 + A 0 1) * 6 + A 0 2) * 8 + (A 1 0 + 2 * A 1 1 + 4 * A 1 2)) * 16 + (A 2 1 + 2 * A 2 2) * 4 + A 6 2) / 128 = (A 0 0 * 6 + A 0 1) * 6 + A 0 2 := by omega
    have e2 : ((((A 0 0 * 6 + A 0 1) * 6 + A 0 2) * 8 + (A 1 0 + 2 * A 1 1 + 4 * A 1 2)) * 16 + (A 2 1 + 2 * A 2 2) * 4 + A 6 2) % 128 = (A 1 0 + 2 * A 1 1 + 4 * A 1 2) * 16 + (A 2 1 + 2 * A 2 2) * 4 + A 6 2 := by omega
    rw [e1, e2]
    have e3 : ((A 0 0 * 6 + A 0 1) * 6 + A 0 2) % 6 = A 0 2 := by omega
    have e4 : ((A 0 0 * 6 + A 0 1) * 6 + A 0 2) / 6 = A 0 0 * 6 + A 0 1 := by omega
    have e5 : ((A 0 0 * 6 + A 0 1) * 6 + A 0 2) / 36 = A 0 0 := by omega
    rw [e3, e4, e5]
    have e6 : (A 0 0 * 6 + A 0 1) % 6 = A 0 1 := by omega
    rw [e6]
    omega
theorem phi_lt (hc : c < cb n) (hn : n = 2 ∨ n = 3) : phi n c < cb n := by
  unfold phi cb at *
  rcases hn with rfl | rfl
  · rw [if_pos rfl] at hc ⊢; rw [if_pos rfl]; omega
  · rw [if_neg (by omega)] at hc ⊢; rw [if_neg (by omega)]; omega
theorem phi_inj (hc : c < cb n) (hc' : c' < cb n) (hn : n = 2 ∨ n = 3) (e : phi n c = phi n c') : c = c' := by
  unfold phi cb at *
  rcases hn with rfl | rfl
  · rw [if_pos rfl] at hc hc'
    rw [if_pos rfl, if_pos rfl] at e
    omega
  · rw [if_neg (by omega)] at hc hc'
    rw [if_neg (by omega), if_neg (by omega)] at e
    have q1 : c / 128 < 216 := by omega
    have q2 : c' / 128 < 216 := by omega
    have r1 : c = c / 128 * 128 + c % 128 := by omega
    have r2 : c' = c' / 128 * 128 + c' % 128 := by omega
    have r3 : c % 128 < 128 := Nat.mod_lt _ (by omega)
    have r4 : c' % 128 < 128 := Nat.mod_lt _ (by omega)
    generalize c / 128 = q at e q1 r1
    generalize c' / 128 = q' at e q2 r2
    generalize c % 128 = r at e r1 r3
    generalize c' % 128 = r' at e r2 r4
    have x1 : q % 6 * 36 + q / 6 % 6 * 6 + q / 36 = q' % 6 * 36 + q' / 6 % 6 * 6 + q' / 36 := by omega
    have x2 : r = r' := by omega
    have y1 : q = q / 36 * 36 + q / 6 % 6 * 6 + q % 6 := by omega
    have y2 : q' = q' / 36 * 36 + q' / 6 % 6 * 6 + q' % 6 := by omega
    have z1 : q / 36 < 6 := by omega
    have z2 : q' / 36 < 6 := by omega
    have z3 : q / 6 % 6 < 6 := Nat.mod_lt _ (by omega)
    have z4 : q' / 6 % 6 < 6 := Nat.mod_lt _ (by omega)
    have z5 : q % 6 < 6 := Nat.mod_lt _ (by omega)
    have z6 : q' % 6 < 6 := Nat.mod_lt _ (by omega)
    generalize q / 36 = a at x1 y1 z1
    generalize q' / 36 = a' at x1 y2 z2
    generalize q / 6 % 6 = b at x1 y1 z3
    generalize q' / 6 % 6 = b' at x1 y2 z4
    generalize q % 6 = d at x1 y1 z5
    generalize q' % 6 = d' at x1 y2 z6
    omega
end NUM
