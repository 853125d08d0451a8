/-! for the class's search: laying a stand, how many messages, which acts can be, which limits tell nothing new -/
section LEM
variable {n g i a c k m : Nat} {A B T E : HA} {S : HA × Nat} {D : Nat → Prop} {L : List Nat}
theorem sh1 (x s : Nat) : (x >>> s) &&& 1 = x / 2 ^ s % 2 := by rw [Nat.shiftRight_eq_div_pow, Nat.and_one_is_mod]
theorem s94_es (hn : n = 2 ∨ n = 3) (hc : c < cb n) : ES n (s_94 n A c) (std n A c) := by
  rcases hn with rfl | rfl
  · have hc : c < 4608 := hc
    refine ES.mk2 (fun w hw => ?_) ⟨rfl, rfl, rfl, rfl⟩
    rcases (by omega : w = 0 ∨ w = 1 ∨ w = 2 ∨ w = 3 ∨ w = 4) with rfl | rfl | rfl | rfl | rfl
    · constructor
      · show c / 128 / 6 % 6 = c / 128 / 6; omega
      · rfl
    · constructor
      · show ((c / 16 % 8) >>> 0) &&& 1 = c / 16 / 1 % 2; rw [sh1]; show c / 16 % 8 / 1 % 2 = _; omega
      · show ((c / 16 % 8) >>> 1) &&& 1 = c / 16 / 2 % 2; rw [sh1]; show c / 16 % 8 / 2 % 2 = _; omega
    · constructor
      · show ((c / 4 % 4 * 2) >>> 0) &&& 1 = 0; rw [sh1]; show c / 4 % 4 * 2 / 1 % 2 = _; omega
      · show ((c / 4 % 4 * 2) >>> 1) &&& 1 = c / 4 / 1 % 2; rw [sh1]; show c / 4 % 4 * 2 / 2 % 2 = _; omega
    · exact ⟨rfl, rfl⟩
    · exact ⟨rfl, rfl⟩
  · have hc : c < 27648 := hc
    refine ES.mk3 (fun w hw => ?_) ⟨rfl, rfl, rfl, rfl⟩
    rcases (by omega : w = 0 ∨ w = 1 ∨ w = 2 ∨ w = 3 ∨ w = 4) with rfl | rfl | rfl | rfl | rfl
    · refine ⟨?_, ?_, ?_⟩
      · show c / 128 / 6 / 6 % 6 = c / 128 / 36; omega
      · rfl
      · rfl
    · refine ⟨?_, ?_, ?_⟩
      · show ((c / 16 % 8) >>> 0) &&& 1 = c / 16 / 1 % 2; rw [sh1]; show c / 16 % 8 / 1 % 2 = _; omega
      · show ((c / 16 % 8) >>> 1) &&& 1 = c / 16 / 2 % 2; rw [sh1]; show c / 16 % 8 / 2 % 2 = _; omega
      · show ((c / 16 % 8) >>> 2) &&& 1 = c / 16 / 4 % 2; rw [sh1]; show c / 16 % 8 / 4 % 2 = _; omega
    · refine ⟨?_, ?_, ?_⟩
      · show ((c / 4 % 4 * 2) >>> 0) &&& 1 = 0; rw [sh1]; show c / 4 % 4 * 2 / 1 % 2 = _; omega
      · show ((c / 4 % 4 * 2) >>> 1) &&& 1 = c / 4 / 1 % 2; rw [sh1]; show c / 4 % 4 * 2 / 2 % 2 = _; omega
      · show ((c / 4 % 4 * 2) >>> 2) &&& 1 = c / 4 / 2 % 2; rw [sh1]; show c / 4 % 4 * 2 / 4 % 2 = _; omega
    · exact ⟨rfl, rfl, rfl⟩
    · exact ⟨rfl, rfl, rfl⟩
theorem std_es (t : TM n T A) : ES n (std n A c) (std n T c) := by
  have u1 := std_tm (n := n) (T := A) (c := c)
  have u2 := std_tm (n := n) (T := T) (c := c)
  refine ⟨fun w hw s hs => ?_, fun k k1 k2 => ?_⟩
  · by_cases z : 3 ≤ w
    · rw [u1.1 w z hw s hs, u2.1 w z hw s hs, t.1 w z hw s hs]
    · rcases (by omega : w = 0 ∨ w = 1 ∨ w = 2) with rfl | rfl | rfl
      · rfl
      · rfl
      · rfl
  · by_cases z : k = 2
    · subst z; rfl
    · rw [u1.2 k k1 k2 z, u2.2 k k1 k2 z, t.2 k k1 k2 z]
theorem VS.es (v : VS n A) (e : ES n A B) : VS n B := by
  obtain ⟨hn, h, h0, h3⟩ := v
  refine ⟨hn, fun s hs => ?_, by rw [← e.1 2 (by omega) 0 (by omega)]; exact h0, by rw [← e.2 2 (by omega) (by omega)]; exact h3⟩
  rw [← e.1 0 (by omega) s hs, ← e.1 1 (by omega) s hs, ← e.1 2 (by omega) s hs]
  exact h s hs
/-- how many messages -/
theorem fi_ub (h5 : n ≤ 5) {fr set to m : Nat} : ∀ d (A : HA) t, (fi n fr set to m d A t).2 6 13 ≤ A 6 13 + (n - t) := by
  intro d
  induction d with
  | zero => intro A t; exact Nat.le_add_right _ _
  | succ d ih =>
    intro A t
    unfold fi
    split
    · exact Nat.le_add_right _ _
    · split
      · exact Nat.le_trans (ih A (t + 1)) (by omega)
      · split
        · show s_63 n (hs n A fr to m t) fr 6 13 ≤ _
          rw [s63_6 h5 (by omega), hs13]; omega
        · have := ih (hs n A fr to m t) (t + 1)
          rw [hs13] at this
          omega
theorem s61_ub (h5 : n ≤ 5) {fr set to m : Nat} : (s_61 n A fr set to m).2 6 13 ≤ A 6 13 + n := by
  rw [s61_1]
  have a13 : s_62 n A fr to m 6 13 = A 6 13 := s62_o (by omega) (by omega) (by omega)
  split
  · show s_63 n _ fr 6 13 ≤ _
    rw [s63_6 h5 (by omega), a13]; omega
  · have := fi_ub h5 (fr := fr) (set := set) (to := to) (m := m) 6 (s_62 n A fr to m) 0
    omega
theorem st_ub (h5 : n ≤ 5) {fr set to m : Nat} : (s_61 n (a_up (a_up A 6 12 k) 6 13 0) fr set to m).2 6 13 ≤ n := by
  have := s61_ub (A := a_up (a_up A 6 12 k) 6 13 0) h5 (fr := fr) (set := set) (to := to) (m := m)
  rw [st_13] at this
  omega
theorem ub57 (h5 : n ≤ 5) (ha : (s_57 n A k).1 < 2147483648) : (s_57 n A k).2 6 13 ≤ 10 := by
  have u1 := st_ub (n := n) (A := A) (k := k) (fr := 0) (set := ev n) (to := 1) (m := 1) h5
  have u2 := s61_ub (n := n) (A := (s_61 n (a_up (a_up A 6 12 k) 6 13 0) 0 (ev n) 1 1).2) (fr := 0) (set := ev n) (to := 5) (m := 15) h5
  have u3 := st_ub (n := n) (A := A) (k := k) (fr := 0) (set := ev n) (to := 5) (m := 15) h5
  unfold s_57 at ha ⊢
  repeat' split at ha
  all_goals first
    | exact absurd ha (show ¬ (4294967293 : Nat) < 2147483648 by omega)
    | exact absurd ha (show ¬ (4294967291 : Nat) < 2147483648 by omega)
    | skip
  all_goals simp only [*, if_true, if_false]
  all_goals first
    | (show (s_61 n (a_up (a_up A 6 12 k) 6 13 0) 0 (ev n) 1 1).2 6 13 ≤ 10; omega)
    | (show (s_61 n (s_61 n (a_up (a_up A 6 12 k) 6 13 0) 0 (ev n) 1 1).2 0 (ev n) 5 15).2 6 13 ≤ 10; omega)
    | (show (s_61 n (a_up (a_up A 6 12 k) 6 13 0) 0 (ev n) 5 15).2 6 13 ≤ 10; omega)
theorem rf {x : Nat} {P : Prop} (h : x < 2147483648) (hx : ¬ x < 2147483648) : P := absurd h hx
/-- which leading acts can be -/
theorem can57 (hk : ¬ isK k = 0) (f2 : A 6 2 ≤ 3) (h5 : n ≤ 5) : ((s_57 n A k).1 < 2147483648) = (A 6 2 = 0 ∧ A 1 0 = 1 ∧ A 0 0 = 0) := by
  unfold s_57
  rw [if_neg hk]
  by_cases c1 : A 6 2 = 0
  · by_cases c2 : A 1 0 = 1
    · by_cases c3 : A 0 0 = 0
      · rw [if_pos c1, if_pos c2, if_pos c3]
        refine propext ⟨fun _ => ⟨c1, c2, c3⟩, fun _ => ?_⟩
        split
        · split
          · split
            · exact (by omega : (1 : Nat) < 2147483648)
            · exact (by omega : (3 : Nat) < 2147483648)
          · have S := sp_st (n := n) (fr := 0) (set := ev n) (to := 1) (m := 1) (A := A) h5 k
            obtain ⟨-, -, -, -, g⟩ := S
            show (s_61 n (a_up (a_up A 6 12 k) 6 13 0) 0 (ev n) 1 1).2 6 2 < _
            rcases g with ⟨-, -, g⟩ | ⟨-, -, g⟩
            · omega
            · rw [g]; split <;> omega
        · exact (by omega : (3 : Nat) < 2147483648)
      · rw [if_pos c1, if_pos c2, if_neg c3]; exact propext ⟨fun h => absurd (show (4294967291 : Nat) < 2147483648 from h) (by omega), fun h => absurd h.2.2 c3⟩
    · rw [if_pos c1, if_neg c2]; exact propext ⟨fun h => absurd (show (4294967291 : Nat) < 2147483648 from h) (by omega), fun h => absurd h.2.1 c2⟩
  · rw [if_neg c1]; exact propext ⟨fun h => absurd (show (4294967291 : Nat) < 2147483648 from h) (by omega), fun h => absurd h.1 c1⟩
theorem can64 (hk : ¬ isK k = 0) (f2 : A 6 2 ≤ 3) (h5 : n ≤ 5) : ((s_64 n A k).1 < 2147483648) = (A 6 2 = 1 ∧ A 1 0 = 1 ∧ A 0 0 = 1) := by
  unfold s_64
  rw [if_neg hk]
  by_cases c1 : A 6 2 = 1
  · by_cases c2 : A 1 0 = 1
    · by_cases c3 : A 0 0 = 1
      · rw [if_pos c1, if_pos c2, if_pos c3]
        refine propext ⟨fun _ => ⟨c1, c2, c3⟩, fun _ => ?_⟩
        split
        · split
          · exact (by omega : (2 : Nat) < 2147483648)
          · split
            · exact (by omega : (3 : Nat) < 2147483648)
            · exact (by omega : (2 : Nat) < 2147483648)
        · have S := sp_st (n := n) (fr := 0) (set := ev n) (to := 2) (m := 2) (A := A) h5 k
          obtain ⟨-, -, -, -, g⟩ := S
          show (s_61 n (a_up (a_up A 6 12 k) 6 13 0) 0 (ev n) 2 2).2 6 2 < _
          rcases g with ⟨-, -, g⟩ | ⟨-, -, g⟩
          · omega
          · rw [g]; split <;> omega
      · rw [if_pos c1, if_pos c2, if_neg c3]; exact propext ⟨fun h => absurd (show (4294967291 : Nat) < 2147483648 from h) (by omega), fun h => absurd h.2.2 c3⟩
    · rw [if_pos c1, if_neg c2]; exact propext ⟨fun h => absurd (show (4294967291 : Nat) < 2147483648 from h) (by omega), fun h => absurd h.2.1 c2⟩
  · rw [if_neg c1]; exact propext ⟨fun h => absurd (show (4294967291 : Nat) < 2147483648 from h) (by omega), fun h => absurd h.1 c1⟩
theorem can66 (hk : ¬ isK k = 0) : ((s_66 n A k).1 < 2147483648) = (A 6 2 = 2 ∧ A 1 0 = 1 ∧ A 0 0 = 2) := by
  unfold s_66
  rw [if_neg hk]
  by_cases c1 : A 6 2 = 2
  · by_cases c2 : A 1 0 = 1
    · by_cases c3 : A 0 0 = 2
      · rw [if_pos c1, if_pos c2, if_pos c3]
        refine propext ⟨fun _ => ⟨c1, c2, c3⟩, fun _ => ?_⟩
        have := pop_le (s_65 n (a_up (s_61 n (a_up (a_up A 6 12 k) 6 13 0) 0 (ev n) 4 31).2 6 2 3) 16)
        show pop _ < _
        omega
      · rw [if_pos c1, if_pos c2, if_neg c3]; exact propext ⟨fun h => absurd (show (4294967291 : Nat) < 2147483648 from h) (by omega), fun h => absurd h.2.2 c3⟩
    · rw [if_pos c1, if_neg c2]; exact propext ⟨fun h => absurd (show (4294967291 : Nat) < 2147483648 from h) (by omega), fun h => absurd h.2.1 c2⟩
  · rw [if_neg c1]; exact propext ⟨fun h => absurd (show (4294967291 : Nat) < 2147483648 from h) (by omega), fun h => absurd h.1 c1⟩
/-- the way to a stand stays among what was found -/
theorem iv_ch (v : IV n T L S i D) : CH S := by
  have hz := iv_sz v
  obtain ⟨⟨a1, a2, a3, a4, a5⟩, b1, c1, d1, e1, f1, h1⟩ := v
  intro u hu
  refine ⟨?_, ?_⟩
  · have := (f1 u hu).1
    have := mu_le (b1 u hu).1.1
    omega
  · have key : ∀ t, t ≤ S.1 3 u → anc S.1 u t < S.2 ∧ S.1 3 (anc S.1 u t) + t = S.1 3 u := by
      intro t
      induction t with
      | zero => intro _; exact ⟨hu, rfl⟩
      | succ t ih =>
        intro ht
        obtain ⟨i1, i2⟩ := ih (by omega)
        have hz : ¬ anc S.1 u t = 0 := fun q => by rw [q, a4] at i2; omega
        obtain ⟨q1, q2, q3, -⟩ := d1 (anc S.1 u t) (by omega) i1
        refine ⟨Nat.lt_trans q1 i1, ?_⟩
        show S.1 3 (S.1 1 (anc S.1 u t)) + (t + 1) = _
        omega
    exact fun t ht => (key t ht).1
end LEM
