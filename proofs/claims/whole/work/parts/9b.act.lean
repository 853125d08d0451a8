/-! acts by their numbers -/
def kk (m : Nat) : Nat := if m = 0 then 4294967295 else m - 1
def grp (A : HA) (b : Nat) : HA := fun w s => if w = 2 then b / 2 ^ s % 2 else A w s
def act (n : Nat) (A : HA) (a : Nat) : Nat × HA := if a / 100 = 1 then s_57 n A (kk (a % 100)) else if a / 100 = 2 then s_64 n A (kk (a % 100)) else if a / 100 = 3 then s_66 n A (kk (a % 100)) else if a / 100 = 4 then s_67 n A (a % 100) else if a / 100 = 5 then s_72 n A (a % 100 / 10) (kk (a % 100 % 10)) else (0, grp A (a % 100))
def ract (n : Nat) (A : HA) (a : Nat) : Nat × HA := if a / 100 = 1 then s_164 n A (kk (a % 100)) else if a / 100 = 2 then s_176 n A (kk (a % 100)) else if a / 100 = 3 then s_178 n A (kk (a % 100)) else if a / 100 = 4 then s_181 n A (a % 100) else if a / 100 = 5 then s_187 n A (a % 100 / 10) (kk (a % 100 % 10)) else (0, grp A (a % 100))
def OKA (n a : Nat) : Prop := (100 ≤ a ∧ a < 106) ∨ (200 ≤ a ∧ a < 206) ∨ (300 ≤ a ∧ a < 306) ∨ (400 ≤ a ∧ a < 400 + n) ∨ (500 ≤ a ∧ a < 500 + 10 * n ∧ a % 10 < 6) ∨ (600 ≤ a ∧ a < 608 ∧ a % 2 = 0)
def IHs (n : Nat) (T A : HA) : Prop := VS n A ∧ WN n A ∧ QH n A ∧ TM n T A
def dn (x : Nat) : Nat := if x = 0 then 1 else 0
def mu (n : Nat) (A : HA) : Nat := rk (A 0 0) + dn (A 1 0) + (rk (A 0 1) + dn (A 1 1)) + (if n = 3 then rk (A 0 2) + dn (A 1 2) else 0) + A 6 2
section ACT
variable {n a b : Nat} {A B T : HA}
theorem kk_lt {m : Nat} (h : m < 100) : kk m < 4294967296 := by unfold kk; split <;> omega
theorem ES.grpq (e : ES n A B) (b : Nat) : ES n (grp A b) (grp B b) := by
  refine ⟨fun w hw s hs => ?_, fun k k1 k2 => ?_⟩
  · show (if w = 2 then _ else _) = (if w = 2 then _ else _)
    split
    · rfl
    · exact e.1 w hw s hs
  · show (if 6 = 2 then _ else _) = (if 6 = 2 then _ else _)
    rw [if_neg (by omega), if_neg (by omega)]; exact e.2 k k1 k2
theorem act_es (h5 : n ≤ 5) (hn : 2 ≤ n) (e : ES n A B) (a : Nat) : (act n A a).1 = (act n B a).1 ∧ ES n (act n A a).2 (act n B a).2 := by
  unfold act
  by_cases c1 : a / 100 = 1
  · rw [if_pos c1, if_pos c1]; exact sim57 h5 hn e (Or.inl rfl)
  rw [if_neg c1, if_neg c1]
  by_cases c2 : a / 100 = 2
  · rw [if_pos c2, if_pos c2]; exact sim64 h5 hn e (Or.inl rfl)
  rw [if_neg c2, if_neg c2]
  by_cases c3 : a / 100 = 3
  · rw [if_pos c3, if_pos c3]; exact sim66 h5 hn e (Or.inl rfl)
  rw [if_neg c3, if_neg c3]
  by_cases c4 : a / 100 = 4
  · rw [if_pos c4, if_pos c4]; exact sim67 h5 e _
  rw [if_neg c4, if_neg c4]
  by_cases c5 : a / 100 = 5
  · rw [if_pos c5, if_pos c5]; exact sim72 h5 e (Or.inl rfl)
  rw [if_neg c5, if_neg c5]
  exact ⟨rfl, e.grpq _⟩
theorem act_ref (w : WN n A) (r : NR n A) (a : Nat) : AE (act n A a) (ract n A a) := by
  unfold act ract
  by_cases c1 : a / 100 = 1
  · rw [if_pos c1, if_pos c1]; exact x57 (EQ.refl A) w r
  rw [if_neg c1, if_neg c1]
  by_cases c2 : a / 100 = 2
  · rw [if_pos c2, if_pos c2]; exact x64 (EQ.refl A) w
  rw [if_neg c2, if_neg c2]
  by_cases c3 : a / 100 = 3
  · rw [if_pos c3, if_pos c3]; exact x66 (EQ.refl A) w
  rw [if_neg c3, if_neg c3]
  by_cases c4 : a / 100 = 4
  · rw [if_pos c4, if_pos c4]; exact x67 (EQ.refl A) w
  rw [if_neg c4, if_neg c4]
  by_cases c5 : a / 100 = 5
  · rw [if_pos c5, if_pos c5]; exact x72 (EQ.refl A) w
  rw [if_neg c5, if_neg c5]
  exact ⟨rfl, EQ.refl _⟩
theorem QH.nr (q : QH n A) : NR n A := fun h s hs c => by
  have q0 := (q.1 h).2
  by_cases z : s = 0
  · rw [z] at c; omega
  · have := (q.2.2.2.2.1 s (by omega) hs).1 q0; omega
theorem QH.es (q : QH n A) (e : ES n A B) (hn : 2 ≤ n) : QH n B := by
  have e0 : ∀ s, s < n → A 0 s = B 0 s := e.1 0 (by omega)
  obtain ⟨q0, q1, q2, q3, q4, q5⟩ := q
  unfold QH
  rw [← e.2 2 (by omega) (by omega), ← e0 0 (by omega), ← e.1 1 (by omega) 0 (by omega)]
  refine ⟨q0, q1, q2, q3, fun s h1 h2 => ?_, ?_⟩
  · rw [← e0 s h2]; exact q4 s h1 h2
  · rcases q5 with h | h
    · exact Or.inl fun s hs => by rw [← e0 s hs]; exact h s hs
    · exact Or.inr fun s hs => by rw [← e0 s hs]; exact h s hs
/-- an act that can be: the invariant is kept; but for parting, the measure tells -/
theorem act_inv (i : IHs n T A) (ha : OKA n a) (hb : (act n A a).1 < 2147483648) : IHs n T (act n A a).2 ∧ (a < 600 → Tr n A (act n A a).2) := by
  obtain ⟨v, w, q, t⟩ := i
  have k1 := kk_lt (Nat.mod_lt a (show 0 < 100 by omega))
  have k2 := kk_lt (show a % 100 % 10 < 100 by omega)
  have fin : ∀ B, WN n B → QH n B → Tr n A B → IHs n T B := fun B wb qb tb => by
    obtain ⟨hn, h, h0, h3⟩ := v
    refine ⟨⟨hn, fun s hs => ⟨wb.b0 (by omega), ?_, ?_⟩, (tb.2.2.2.1 2 0 (by omega) (by omega) (by omega)).trans h0, wb.f2⟩, wb, qb, t.tr tb⟩
    · have := tb.2.1 s hs; have := (h s hs).2.1; omega
    · rw [tb.2.2.2.1 2 s (by omega) (by omega) hs]; exact (h s hs).2.2
  unfold act at hb ⊢
  by_cases c1 : a / 100 = 1
  · rw [if_pos c1] at hb ⊢
    have := q57 w q hb
    exact ⟨fin _ (wn57 w k1) this.1 this.2, fun _ => this.2⟩
  rw [if_neg c1] at hb ⊢
  by_cases c2 : a / 100 = 2
  · rw [if_pos c2] at hb ⊢
    have := q64 w q hb
    exact ⟨fin _ (wn64 w k1) this.1 this.2, fun _ => this.2⟩
  rw [if_neg c2] at hb ⊢
  by_cases c3 : a / 100 = 3
  · rw [if_pos c3] at hb ⊢
    have := q66 w q hb
    exact ⟨fin _ (wn66 w k1) this.1 this.2, fun _ => this.2⟩
  rw [if_neg c3] at hb ⊢
  by_cases c4 : a / 100 = 4
  · rw [if_pos c4] at hb ⊢
    have := q67 w q hb
    exact ⟨fin _ (wn67 w (by omega)) this.1 this.2, fun _ => this.2⟩
  rw [if_neg c4] at hb ⊢
  by_cases c5 : a / 100 = 5
  · rw [if_pos c5] at hb ⊢
    have := q72 w q hb
    exact ⟨fin _ (wn72 w (by omega) k2) this.1 this.2, fun _ => this.2⟩
  rw [if_neg c5]
  refine ⟨⟨?_, ?_, q, ?_⟩, fun h => ?_⟩
  · obtain ⟨hn, h, h0, h3⟩ := v
    refine ⟨hn, fun s hs => ⟨(h s hs).1, (h s hs).2.1, ?_⟩, ?_, h3⟩
    · show a % 100 / 2 ^ s % 2 ≤ 1; omega
    · show a % 100 / 1 % 2 = 0
      unfold OKA at ha; omega
  · obtain ⟨w1, w2, w3, w4, w5⟩ := w
    refine ⟨w1, w2, fun s hs => ?_, w4, w5⟩
    have := w3 s hs
    refine ⟨this.1, this.2.1, ?_, this.2.2.2⟩
    show a % 100 / 2 ^ s % 2 < 5; omega
  · exact ⟨fun w w1 w2 s hs => by show (if w = 2 then _ else _) = _; rw [if_neg (by omega)]; exact t.1 w w1 w2 s hs, fun k k1 k2 k3 => t.2 k k1 k2 k3⟩
  · unfold OKA at ha; omega
theorem rk_le {v : Nat} (h : v ≤ 5) : rk v ≤ 4 := by unfold rk; split; omega; split <;> omega
theorem dn_le (x : Nat) : dn x ≤ 1 := by unfold dn; split <;> omega
theorem mu_le (v : VS n A) : mu n A ≤ 18 := by
  obtain ⟨hn, h, h0, h3⟩ := v
  have a0 := rk_le (h 0 (by omega)).1
  have a1 := rk_le (h 1 (by omega)).1
  have b0 := dn_le (A 1 0)
  have b1 := dn_le (A 1 1)
  unfold mu
  split
  · rename_i z
    have a2 := rk_le (h 2 (by omega)).1
    have b2 := dn_le (A 1 2)
    omega
  · omega
theorem ES.muq (e : ES n A B) (hn : n = 2 ∨ n = 3) : mu n A = mu n B := by
  unfold mu
  rw [e.1 0 (by omega) 0 (by omega), e.1 0 (by omega) 1 (by omega), e.1 1 (by omega) 0 (by omega), e.1 1 (by omega) 1 (by omega), e.2 2 (by omega) (by omega)]
  split
  · rw [e.1 0 (by omega) 2 (by omega), e.1 1 (by omega) 2 (by omega)]
  · rfl
theorem grp_mu : mu n (grp A b) = mu n A := rfl
theorem mu_tr (v : VS n A) (u : VS n B) (t : Tr n A B) : mu n A < mu n B ∨ ES n A B := by
  obtain ⟨hn, h, h0, h3⟩ := v
  have site : ∀ s, s < n → (B 0 s = A 0 s ∧ B 1 s = A 1 s) ∨ rk (A 0 s) + dn (A 1 s) < rk (B 0 s) + dn (B 1 s) := fun s hs => by
    have t0 := t.1 s hs
    have t1 := t.2.1 s hs
    have hA := (h s hs).2.1
    unfold dn
    rcases t1 with t1 | t1
    · rw [t1]
      rcases t0 with t0 | t0
      · exact Or.inl ⟨t0, rfl⟩
      · right; omega
    · rw [t1, if_pos rfl]
      by_cases z : A 1 s = 0
      · rw [if_pos z]
        rcases t0 with t0 | t0
        · exact Or.inl ⟨t0, z.symm⟩
        · right; omega
      · rw [if_neg z]
        right
        rcases t0 with t0 | t0
        · rw [t0]; omega
        · omega
  have le : ∀ s, s < n → rk (A 0 s) + dn (A 1 s) ≤ rk (B 0 s) + dn (B 1 s) := fun s hs => by
    rcases site s hs with g | g
    · rw [g.1, g.2]; exact Nat.le_refl _
    · omega
  have ph := t.2.2.1
  have es : (∀ s, s < n → B 0 s = A 0 s ∧ B 1 s = A 1 s) → B 6 2 = A 6 2 → ES n A B := fun g g2 => by
    refine ⟨fun w hw s hs => ?_, fun k k1 k2 => ?_⟩
    · rcases (by omega : w = 0 ∨ w = 1 ∨ 2 ≤ w) with rfl | rfl | z
      · exact (g s hs).1.symm
      · exact (g s hs).2.symm
      · exact (t.2.2.2.1 w s z hw hs).symm
    · by_cases z : k = 2
      · rw [z]; exact g2.symm
      · exact (t.2.2.2.2 k k1 k2 z).symm
  have l0 := le 0 (by omega)
  have l1 := le 1 (by omega)
  unfold mu
  rcases hn with rfl | rfl
  · rw [if_neg (by omega), if_neg (by omega)]
    rcases site 0 (by omega) with g0 | g0
    · rcases site 1 (by omega) with g1 | g1
      · rcases ph with p | p
        · right
          refine es (fun s hs => ?_) p
          rcases (by omega : s = 0 ∨ s = 1) with rfl | rfl
          · exact g0
          · exact g1
        · left; omega
      · left; omega
    · left; omega
  · rw [if_pos rfl, if_pos rfl]
    have l2 := le 2 (by omega)
    rcases site 0 (by omega) with g0 | g0
    · rcases site 1 (by omega) with g1 | g1
      · rcases site 2 (by omega) with g2 | g2
        · rcases ph with p | p
          · right
            refine es (fun s hs => ?_) p
            rcases (by omega : s = 0 ∨ s = 1 ∨ s = 2) with rfl | rfl | rfl
            · exact g0
            · exact g1
            · exact g2
          · left; omega
        · left; omega
      · left; omega
    · left; omega
/-- a stand that was reached, laid anew -/
theorem IHs.stdq (i : IHs n T A) (w : WN n T) : IHs n T (std n T (vl n A)) ∧ vl n (std n T (vl n A)) = vl n A ∧ ES n (std n T (vl n A)) A := by
  obtain ⟨v, wa, q, t⟩ := i
  have hn := v.1
  have hc := vl_lt v
  have e := std_vl v t
  exact ⟨⟨std_vs hn hc, std_wn hn hc w, q.es e.symm (by omega), std_tm⟩, e.vlq hn, e⟩
/-- two partings behind each other are as the second -/
theorem grp_grp {b b' : Nat} : grp (grp A b) b' = grp A b' := by
  funext w s
  show (if w = 2 then _ else (if w = 2 then _ else _)) = (if w = 2 then _ else _)
  split
  · rfl
  · rfl
end ACT
