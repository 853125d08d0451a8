/-! the acts of a search hang on states, life, groups, terms alone -/
section WEB
variable {n k k' : Nat} {A B C : HA}
theorem LM.mono {a b s s' : Nat} (l : LM a b s) (h : s' ≤ s) : LM a b s' := by
  rcases l with l | ⟨l1, l2, l3⟩
  · exact Or.inl l
  · exact Or.inr ⟨l1, by omega, l3⟩
theorem st_12 : (a_up (a_up A 6 12 k) 6 13 0) 6 12 = k := rfl
theorem st_13 : (a_up (a_up A 6 12 k) 6 13 0) 6 13 = 0 := rfl
theorem sim_st (h5 : n ≤ 5) {fr set to m : Nat} (hf : fr < n) (e : ES n A B) (l : LM k k' ((s_61 n (a_up (a_up A 6 12 k) 6 13 0) fr set to m).2 6 13)) : (s_61 n (a_up (a_up A 6 12 k) 6 13 0) fr set to m).1 = (s_61 n (a_up (a_up B 6 12 k') 6 13 0) fr set to m).1 ∧ ES n (s_61 n (a_up (a_up A 6 12 k) 6 13 0) fr set to m).2 (s_61 n (a_up (a_up B 6 12 k') 6 13 0) fr set to m).2 ∧ (s_61 n (a_up (a_up A 6 12 k) 6 13 0) fr set to m).2 6 13 = (s_61 n (a_up (a_up B 6 12 k') 6 13 0) fr set to m).2 6 13 ∧ (s_61 n (a_up (a_up A 6 12 k) 6 13 0) fr set to m).2 6 12 = k ∧ (s_61 n (a_up (a_up B 6 12 k') 6 13 0) fr set to m).2 6 12 = k' := by
  have := sim61 h5 (set := set) (to := to) (m := m) hf (e.st k k') (by rw [st_13, st_13]) (by rw [st_12, st_12]; exact l)
  rw [st_12, st_12] at this
  exact this
theorem sim57 (h5 : n ≤ 5) (hn : 2 ≤ n) (e : ES n A B) (l : LM k k' ((s_57 n A k).2 6 13)) : (s_57 n A k).1 = (s_57 n B k').1 ∧ ES n (s_57 n A k).2 (s_57 n B k').2 := by
  have hk := isK_l l
  unfold s_57 at l ⊢
  by_cases c0 : isK k = 0
  · rw [if_pos c0, if_pos (show isK k' = 0 by rw [← hk]; exact c0)]; exact ⟨rfl, e⟩
  rw [if_neg c0] at l ⊢
  rw [if_neg (show ¬ isK k' = 0 by rw [← hk]; exact c0)]
  have e2 := e.2 2 (by omega) (by omega)
  have e10 := e.1 1 (by omega) 0 (by omega)
  have e00 := e.1 0 (by omega) 0 (by omega)
  have e30 := e.1 3 (by omega) 0 (by omega)
  by_cases c1 : ¬ (A 6 2 = 0)
  · rw [if_neg c1, if_neg (show ¬ B 6 2 = 0 by rw [← e2]; exact c1)]; exact ⟨rfl, e⟩
  have c1 := Classical.not_not.mp c1
  rw [if_pos c1] at l ⊢
  rw [if_pos (show B 6 2 = 0 by rw [← e2]; exact c1)]
  by_cases c2 : ¬ (A 1 0 = 1)
  · rw [if_neg c2, if_neg (show ¬ B 1 0 = 1 by rw [← e10]; exact c2)]; exact ⟨rfl, e⟩
  have c2 := Classical.not_not.mp c2
  rw [if_pos c2] at l ⊢
  rw [if_pos (show B 1 0 = 1 by rw [← e10]; exact c2)]
  by_cases c3 : ¬ (A 0 0 = 0)
  · rw [if_neg c3, if_neg (show ¬ B 0 0 = 0 by rw [← e00]; exact c3)]; exact ⟨rfl, e⟩
  have c3 := Classical.not_not.mp c3
  rw [if_pos c3] at l ⊢
  rw [if_pos (show B 0 0 = 0 by rw [← e00]; exact c3)]
  by_cases c4 : ¬ (A 3 0 = 1)
  · rw [if_neg c4] at l ⊢
    rw [if_neg (show ¬ B 3 0 = 1 by rw [← e30]; exact c4)]
    obtain ⟨-, q2, -⟩ := sim_st h5 (set := ev n) (to := 5) (m := 15) (fr := 0) (by omega) e l
    exact ⟨rfl, q2.up6 2 3⟩
  have c4 := Classical.not_not.mp c4
  rw [if_pos c4] at l ⊢
  rw [if_pos (show B 3 0 = 1 by rw [← e30]; exact c4)]
  have S := sim_st h5 (set := ev n) (to := 1) (m := 1) (fr := 0) (k := k) (k' := k') (by omega) e
  generalize s_61 n (a_up (a_up A 6 12 k) 6 13 0) 0 (ev n) 1 1 = p at l S ⊢
  generalize s_61 n (a_up (a_up B 6 12 k') 6 13 0) 0 (ev n) 1 1 = p' at S ⊢
  by_cases c5 : p.1 = 0
  · rw [if_pos c5] at l ⊢
    by_cases c6 : s_55 n p.2 (ev n) = 2
    · rw [if_pos c6] at l ⊢
      obtain ⟨q1, q2, -⟩ := S l
      rw [if_pos (show p'.1 = 0 by rw [← q1]; exact c5), if_pos (show s_55 n p'.2 (ev n) = 2 by rw [← q2.c55]; exact c6)]
      exact ⟨rfl, q2.up6 2 1⟩
    · rw [if_neg c6] at l ⊢
      have hm := s61_mono (A := p.2) h5 (fr := 0) (set := ev n) (to := 5) (m := 15)
      obtain ⟨q1, q2, q3, q4, q5⟩ := S (l.mono hm)
      rw [if_pos (show p'.1 = 0 by rw [← q1]; exact c5), if_neg (show ¬ s_55 n p'.2 (ev n) = 2 by rw [← q2.c55]; exact c6)]
      obtain ⟨-, z2, -⟩ := sim61 h5 (set := ev n) (to := 5) (m := 15) (fr := 0) (by omega) q2 q3 (by rw [q4, q5]; exact l)
      exact ⟨rfl, z2.up6 2 3⟩
  · rw [if_neg c5] at l ⊢
    obtain ⟨q1, q2, -⟩ := S l
    rw [if_neg (show ¬ p'.1 = 0 by rw [← q1]; exact c5)]
    exact ⟨q2.2 2 (by omega) (by omega), q2⟩
theorem sim64 (h5 : n ≤ 5) (hn : 2 ≤ n) (e : ES n A B) (l : LM k k' ((s_64 n A k).2 6 13)) : (s_64 n A k).1 = (s_64 n B k').1 ∧ ES n (s_64 n A k).2 (s_64 n B k').2 := by
  have hk := isK_l l
  unfold s_64 at l ⊢
  by_cases c0 : isK k = 0
  · rw [if_pos c0, if_pos (show isK k' = 0 by rw [← hk]; exact c0)]; exact ⟨rfl, e⟩
  rw [if_neg c0] at l ⊢
  rw [if_neg (show ¬ isK k' = 0 by rw [← hk]; exact c0)]
  have e2 := e.2 2 (by omega) (by omega)
  have e10 := e.1 1 (by omega) 0 (by omega)
  have e00 := e.1 0 (by omega) 0 (by omega)
  by_cases c1 : ¬ (A 6 2 = 1)
  · rw [if_neg c1, if_neg (show ¬ B 6 2 = 1 by rw [← e2]; exact c1)]; exact ⟨rfl, e⟩
  have c1 := Classical.not_not.mp c1
  rw [if_pos c1] at l ⊢
  rw [if_pos (show B 6 2 = 1 by rw [← e2]; exact c1)]
  by_cases c2 : ¬ (A 1 0 = 1)
  · rw [if_neg c2, if_neg (show ¬ B 1 0 = 1 by rw [← e10]; exact c2)]; exact ⟨rfl, e⟩
  have c2 := Classical.not_not.mp c2
  rw [if_pos c2] at l ⊢
  rw [if_pos (show B 1 0 = 1 by rw [← e10]; exact c2)]
  by_cases c3 : ¬ (A 0 0 = 1)
  · rw [if_neg c3, if_neg (show ¬ B 0 0 = 1 by rw [← e00]; exact c3)]; exact ⟨rfl, e⟩
  have c3 := Classical.not_not.mp c3
  rw [if_pos c3] at l ⊢
  rw [if_pos (show B 0 0 = 1 by rw [← e00]; exact c3)]
  have S := sim_st h5 (set := ev n) (to := 2) (m := 2) (fr := 0) (k := k) (k' := k') (by omega) e
  generalize s_61 n (a_up (a_up A 6 12 k) 6 13 0) 0 (ev n) 2 2 = p at l S ⊢
  generalize s_61 n (a_up (a_up B 6 12 k') 6 13 0) 0 (ev n) 2 2 = p' at S ⊢
  have lp : LM k k' (p.2 6 13) := by
    revert l
    repeat' split
    all_goals exact id
  obtain ⟨q1, q2, -⟩ := S lp
  rw [← q1, ← q2.2 1 (by omega) (by omega), ← q2.2 3 (by omega) (by omega), ← q2.c65, ← q2.c49, ← e.c65, ← q2.2 2 (by omega) (by omega)]
  repeat' split
  all_goals first
    | exact ⟨rfl, q2.up6 2 2⟩
    | exact ⟨rfl, q2.up6 2 3⟩
    | exact ⟨rfl, q2⟩
theorem sim66 (h5 : n ≤ 5) (hn : 2 ≤ n) (e : ES n A B) (l : LM k k' ((s_66 n A k).2 6 13)) : (s_66 n A k).1 = (s_66 n B k').1 ∧ ES n (s_66 n A k).2 (s_66 n B k').2 := by
  have hk := isK_l l
  unfold s_66 at l ⊢
  by_cases c0 : isK k = 0
  · rw [if_pos c0, if_pos (show isK k' = 0 by rw [← hk]; exact c0)]; exact ⟨rfl, e⟩
  rw [if_neg c0] at l ⊢
  rw [if_neg (show ¬ isK k' = 0 by rw [← hk]; exact c0)]
  have e2 := e.2 2 (by omega) (by omega)
  have e10 := e.1 1 (by omega) 0 (by omega)
  have e00 := e.1 0 (by omega) 0 (by omega)
  by_cases c1 : ¬ (A 6 2 = 2)
  · rw [if_neg c1, if_neg (show ¬ B 6 2 = 2 by rw [← e2]; exact c1)]; exact ⟨rfl, e⟩
  have c1 := Classical.not_not.mp c1
  rw [if_pos c1] at l ⊢
  rw [if_pos (show B 6 2 = 2 by rw [← e2]; exact c1)]
  by_cases c2 : ¬ (A 1 0 = 1)
  · rw [if_neg c2, if_neg (show ¬ B 1 0 = 1 by rw [← e10]; exact c2)]; exact ⟨rfl, e⟩
  have c2 := Classical.not_not.mp c2
  rw [if_pos c2] at l ⊢
  rw [if_pos (show B 1 0 = 1 by rw [← e10]; exact c2)]
  by_cases c3 : ¬ (A 0 0 = 2)
  · rw [if_neg c3, if_neg (show ¬ B 0 0 = 2 by rw [← e00]; exact c3)]; exact ⟨rfl, e⟩
  have c3 := Classical.not_not.mp c3
  rw [if_pos c3] at l ⊢
  rw [if_pos (show B 0 0 = 2 by rw [← e00]; exact c3)]
  obtain ⟨q1, q2, -⟩ := sim_st h5 (set := ev n) (to := 4) (m := 31) (fr := 0) (by omega) e l
  exact ⟨by rw [(q2.up6 2 3).c65], q2.up6 2 3⟩
theorem sim67 (h5 : n ≤ 5) (e : ES n A B) (s : Nat) : (s_67 n A s).1 = (s_67 n B s).1 ∧ ES n (s_67 n A s).2 (s_67 n B s).2 := by
  unfold s_67
  by_cases c0 : 2147483648 ≤ s
  · rw [if_pos c0, if_pos c0]; exact ⟨rfl, e⟩
  rw [if_neg c0, if_neg c0]
  by_cases c1 : n ≤ s
  · rw [if_pos c1, if_pos c1]; exact ⟨rfl, e⟩
  rw [if_neg c1, if_neg c1, e.1 1 (by omega) s (by omega)]
  have g := ES.c63 h5 e s
  split
  · exact ⟨rfl, e⟩
  · exact ⟨by rw [g.c69], g⟩
theorem ES.tlq (e : ES n A B) (fr : Nat) : ES n (tl fr A) (tl fr B) := by
  unfold tl
  split
  · exact e.up6 2 3
  · exact e
theorem tl13 {fr : Nat} : tl fr A 6 13 = A 6 13 := by
  unfold tl
  split
  · rfl
  · rfl
theorem sim_co (h5 : n ≤ 5) {fr y to m la : Nat} (hf : fr < n) (e : ES n A B) (l : LM k k' ((co n (a_up (a_up A 6 12 k) 6 13 0) fr y to m la) 6 13)) : ES n (co n (a_up (a_up A 6 12 k) 6 13 0) fr y to m la) (co n (a_up (a_up B 6 12 k') 6 13 0) fr y to m la) := by
  have S := sim_st h5 (set := y) (to := to) (m := m) (fr := fr) (k := k) (k' := k') hf e
  unfold co at l ⊢
  generalize s_61 n (a_up (a_up A 6 12 k) 6 13 0) fr y to m = p at l S ⊢
  generalize s_61 n (a_up (a_up B 6 12 k') 6 13 0) fr y to m = p' at S ⊢
  by_cases c5 : p.1 = 0
  · rw [if_pos c5] at l ⊢
    rw [tl13] at l
    have hm := s61_mono (A := p.2) h5 (fr := fr) (set := y) (to := la) (m := 63)
    obtain ⟨q1, q2, q3, q4, q5⟩ := S (l.mono hm)
    rw [if_pos (show p'.1 = 0 by rw [← q1]; exact c5)]
    obtain ⟨-, z2, -⟩ := sim61 h5 (set := y) (to := la) (m := 63) hf q2 q3 (by rw [q4, q5]; exact l)
    exact ES.tlq z2 fr
  · rw [if_neg c5] at l ⊢
    rw [tl13] at l
    obtain ⟨q1, q2, -⟩ := S l
    rw [if_neg (show ¬ p'.1 = 0 by rw [← q1]; exact c5)]
    exact ES.tlq q2 fr
theorem sim79 (h5 : n ≤ 5) {fr y v : Nat} (hf : fr < n) (hv : v ≤ 3) (e : ES n A B) (l : LM k k' ((s_79 n A fr y v k) 6 13)) : ES n (s_79 n A fr y v k) (s_79 n B fr y v k') := by
  rw [s79_co n A fr y v k hv] at l ⊢
  rw [s79_co n B fr y v k' hv, ← e.2 1 (by omega) (by omega)]
  by_cases c2 : v = 2
  · rw [if_pos c2] at l ⊢
    rw [if_pos c2]
    exact sim_co h5 hf e l
  rw [if_neg c2] at l ⊢
  rw [if_neg c2]
  by_cases c3 : v = 3
  · rw [if_pos c3] at l ⊢
    rw [if_pos c3]
    exact sim_co h5 hf e l
  rw [if_neg c3] at l ⊢
  rw [if_neg c3]
  rw [tl13] at l
  obtain ⟨-, q2, -⟩ := sim_st h5 hf e l
  exact ES.tlq q2 fr
theorem sim72 (h5 : n ≤ 5) (e : ES n A B) {s : Nat} (l : LM k k' ((s_72 n A s k).2 6 13)) : (s_72 n A s k).1 = (s_72 n B s k').1 ∧ ES n (s_72 n A s k).2 (s_72 n B s k').2 := by
  have hk := isK_l l
  unfold s_72 at l ⊢
  by_cases c0 : 2147483648 ≤ s
  · rw [if_pos c0, if_pos c0]; exact ⟨rfl, e⟩
  rw [if_neg c0] at l ⊢
  rw [if_neg c0]
  by_cases c1 : n ≤ s
  · rw [if_pos c1, if_pos c1]; exact ⟨rfl, e⟩
  rw [if_neg c1] at l ⊢
  rw [if_neg c1]
  by_cases c2 : isK k = 0
  · rw [if_pos c2, if_pos (show isK k' = 0 by rw [← hk]; exact c2)]; exact ⟨rfl, e⟩
  rw [if_neg c2] at l ⊢
  rw [if_neg (show ¬ isK k' = 0 by rw [← hk]; exact c2), ← e.1 1 (by omega) s (by omega), ← e.1 2 (by omega) s (by omega), ← e.c69, ← e.c74, ← e.c76, ← e.c77]
  by_cases c3 : ¬ (A 1 s = 1)
  · rw [if_neg c3, if_neg c3]; exact ⟨rfl, e⟩
  have c3 := Classical.not_not.mp c3
  rw [if_pos c3] at l ⊢
  rw [if_pos c3]
  generalize s_69 n A 1 &&& s_74 n A (A 2 s) = X at l ⊢
  by_cases c4 : ¬ (lw n X = s)
  · rw [if_neg c4, if_neg c4]; exact ⟨rfl, e⟩
  have c4 := Classical.not_not.mp c4
  rw [if_pos c4] at l ⊢
  rw [if_pos c4]
  by_cases c5 : ¬ (s_76 n A X = 0)
  · rw [if_neg c5, if_neg c5]; exact ⟨rfl, e⟩
  have c5 := Classical.not_not.mp c5
  rw [if_pos c5] at l ⊢
  rw [if_pos c5]
  have hv := s77_le n A X X
  by_cases c6 : s_77 n A X X = 4294967295
  · rw [if_pos c6, if_pos c6]; exact ⟨rfl, e⟩
  rw [if_neg c6] at l ⊢
  rw [if_neg c6]
  exact ⟨rfl, sim79 h5 (by omega) (by omega) e l⟩
end WEB
