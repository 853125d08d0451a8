/-! the reference tells of steps and of the way -/
def okd : Nat → Nat → Prop
  | 0, l => l = 0
  | k + 1, l => l % 10 < 6 ∧ okd k (l / 10)
def v1 : Nat → Nat → Nat
  | 0, _ => 0
  | k + 1, l => l % 10 + 6 * v1 k (l / 10)
def v2 : Nat → Nat → Nat
  | 0, _ => 0
  | k + 1, l => l % 10 * 6 ^ k + v2 k (l / 10)
section STE
variable {sc : a_Sc} {fd : Nat} {M M0 : a_Mm} {n g x s c k p q z i a b m y w o l u st : Nat} {T A B C E F B0 : HA} {S : HA × Nat} {h : a_Hp} {Q : Option Value → a_Hp → Prop}
theorem st_A (A B : HA) : ∀ k d l x y p l5, n - l5 = k → l5 ≤ n → k < d → (okd k l → s_95_16 n d A l x p l5 = x + p * v1 k l ∧ s_237_13 n d B l y l5 = y * 6 ^ k + v2 k l) ∧ (¬ okd k l → s_95_16 n d A l x p l5 = 4294967295 ∧ s_237_13 n d B l y l5 = 4294967295) := by
  intro k
  induction k with
  | zero =>
    intro d l x y p l5 hk hl hd
    obtain ⟨d, rfl⟩ : ∃ e, d = e + 1 := ⟨d - 1, by omega⟩
    have c : n ≤ l5 := by omega
    unfold s_95_16 s_237_13
    rw [if_pos c, if_pos c]
    refine ⟨fun h => ?_, fun h => ?_⟩
    · have h : l = 0 := h
      rw [if_pos h, if_pos (by omega)]
      exact ⟨rfl, by show y = y * 1 + 0; omega⟩
    · have h : ¬ l = 0 := h
      rw [if_neg h, if_neg (by omega)]
      exact ⟨rfl, rfl⟩
  | succ k ih =>
    intro d l x y p l5 hk hl hd
    obtain ⟨d, rfl⟩ : ∃ e, d = e + 1 := ⟨d - 1, by omega⟩
    have c : ¬ n ≤ l5 := by omega
    unfold s_95_16 s_237_13
    rw [if_neg c, if_neg c]
    obtain ⟨i1, i2⟩ := ih d (l / 10) (x + l % 10 * p) (6 * y + l % 10) (p * 6) (l5 + 1) (by omega) (by omega) (by omega)
    refine ⟨fun h => ?_, fun h => ?_⟩
    · have h : l % 10 < 6 ∧ okd k (l / 10) := h
      rw [if_pos h.1, if_pos (by omega)]
      obtain ⟨j1, j2⟩ := i1 h.2
      rw [j1, j2]
      refine ⟨?_, ?_⟩
      · show x + l % 10 * p + p * 6 * v1 k (l / 10) = x + p * (l % 10 + 6 * v1 k (l / 10))
        rw [Nat.mul_add, Nat.mul_comm (l % 10) p, Nat.mul_assoc, Nat.add_assoc]
      · show (6 * y + l % 10) * 6 ^ k + v2 k (l / 10) = y * 6 ^ (k + 1) + (l % 10 * 6 ^ k + v2 k (l / 10))
        rw [Nat.add_mul, Nat.pow_succ, Nat.mul_comm 6 y, Nat.mul_assoc, Nat.mul_comm 6 (6 ^ k), Nat.add_assoc]
    · by_cases e : l % 10 < 6
      · rw [if_pos e, if_pos (by omega)]
        exact i2 (fun q => h ⟨e, q⟩)
      · rw [if_neg e, if_neg (by omega)]
        exact ⟨rfl, rfl⟩
theorem v_lt : ∀ k l, okd k l → v1 k l < 6 ^ k ∧ v2 k l < 6 ^ k := by
  intro k
  induction k with
  | zero => intro l _; exact ⟨by show 0 < 1; omega, by show 0 < 1; omega⟩
  | succ k ih =>
    intro l h
    obtain ⟨h1, h2⟩ := h
    obtain ⟨i1, i2⟩ := ih _ h2
    have e : 6 ^ (k + 1) = 6 * 6 ^ k := by rw [Nat.pow_succ, Nat.mul_comm]
    have m := Nat.mul_le_mul_right (6 ^ k) (show l % 10 ≤ 5 by omega)
    refine ⟨?_, ?_⟩
    · show l % 10 + 6 * v1 k (l / 10) < _
      rw [e]; omega
    · show l % 10 * 6 ^ k + v2 k (l / 10) < _
      rw [e]; omega
theorem st_val (h5 : n ≤ 5) (l : Nat) : (2147483648 ≤ l ∨ ¬ okd n l → s_95 n A l = 4294967295 ∧ s_237 n B l = 4294967295) ∧ (¬ 2147483648 ≤ l → okd n l → s_95 n A l = v1 n l ∧ s_237 n B l = v2 n l) := by
  unfold s_95 s_237
  obtain ⟨i1, i2⟩ := st_A (n := n) A B n 6 l 0 0 1 0 rfl (Nat.zero_le _) (by omega)
  by_cases c : 2147483648 ≤ l
  · rw [if_pos c, if_pos c]
    exact ⟨fun _ => ⟨rfl, rfl⟩, fun h => absurd c h⟩
  · rw [if_neg c, if_neg c]
    refine ⟨fun h => i2 (h.resolve_left c), fun _ h => ?_⟩
    obtain ⟨j1, j2⟩ := i1 h
    rw [j1, j2]
    exact ⟨by omega, by omega⟩
theorem s95_i (h5 : n ≤ 5) (A B : HA) (l : Nat) : s_95 n A l = s_95 n B l := by
  obtain ⟨a1, a2⟩ := st_val (A := A) (B := A) h5 l
  obtain ⟨b1, b2⟩ := st_val (A := B) (B := A) h5 l
  by_cases c : 2147483648 ≤ l ∨ ¬ okd n l
  · rw [(a1 c).1, (b1 c).1]
  · have c1 : ¬ 2147483648 ≤ l := fun q => c (Or.inl q)
    have c2 : okd n l := Classical.byContradiction fun q => c (Or.inr q)
    rw [(a2 c1 c2).1, (b2 c1 c2).1]
theorem st_no (h5 : n ≤ 5) (l : Nat) : (s_95 n A l = 4294967295) = (s_237 n B l = 4294967295) := by
  obtain ⟨a1, a2⟩ := st_val (A := A) (B := B) h5 l
  by_cases c : 2147483648 ≤ l ∨ ¬ okd n l
  · rw [(a1 c).1, (a1 c).2]
  · have c1 : ¬ 2147483648 ≤ l := fun q => c (Or.inl q)
    have c2 : okd n l := Classical.byContradiction fun q => c (Or.inr q)
    obtain ⟨b1, b2⟩ := v_lt n l c2
    have : 6 ^ n ≤ 7776 := Nat.le_trans (Nat.pow_le_pow_right (by omega) h5) (by decide)
    rw [(a2 c1 c2).1, (a2 c1 c2).2]
    exact propext ⟨fun h => by omega, fun h => by omega⟩
theorem st_ps (hn : n = 2 ∨ n = 3) (hu : u < 8) (h : ¬ s_95 n A l = 4294967295) : 8 * s_237 n B l + u = ps n (s_95 n A l * 8 + u) ∧ s_95 n A l * 8 + u < cb n / 16 ∧ 8 * s_237 n B l + u < 1728 := by
  have h5 : n ≤ 5 := by omega
  obtain ⟨a1, a2⟩ := st_val (A := A) (B := B) h5 l
  by_cases c : 2147483648 ≤ l ∨ ¬ okd n l
  · exact absurd (a1 c).1 h
  · have c1 : ¬ 2147483648 ≤ l := fun q => c (Or.inl q)
    have c2 : okd n l := Classical.byContradiction fun q => c (Or.inr q)
    rw [(a2 c1 c2).1, (a2 c1 c2).2]
    rcases hn with rfl | rfl
    · obtain ⟨d0, d1, -⟩ := c2
      have e1 : v1 2 l = l % 10 + 6 * (l / 10 % 10 + 6 * 0) := rfl
      have e2 : v2 2 l = l % 10 * 6 + (l / 10 % 10 * 1 + 0) := rfl
      have e3 : cb 2 = 4608 := rfl
      have e4 : ps 2 (v1 2 l * 8 + u) = ((v1 2 l * 8 + u) / 8 % 6 * 6 + (v1 2 l * 8 + u) / 8 / 6) * 8 + (v1 2 l * 8 + u) % 8 := rfl
      rw [e4, e3, show (v1 2 l * 8 + u) / 8 = v1 2 l by omega, show (v1 2 l * 8 + u) % 8 = u by omega]
      have g1 : v1 2 l % 6 = l % 10 := by omega
      have g2 : v1 2 l / 6 = l / 10 % 10 := by omega
      rw [g1, g2]
      omega
    · obtain ⟨d0, d1, d2, -⟩ := c2
      have e1 : v1 3 l = l % 10 + 6 * (l / 10 % 10 + 6 * (l / 10 / 10 % 10 + 6 * 0)) := rfl
      have e2 : v2 3 l = l % 10 * 36 + (l / 10 % 10 * 6 + (l / 10 / 10 % 10 * 1 + 0)) := rfl
      have e3 : cb 3 = 27648 := rfl
      have e4 : ps 3 (v1 3 l * 8 + u) = ((v1 3 l * 8 + u) / 8 % 6 * 36 + (v1 3 l * 8 + u) / 8 / 6 % 6 * 6 + (v1 3 l * 8 + u) / 8 / 36) * 8 + (v1 3 l * 8 + u) % 8 := rfl
      rw [e4, e3, show (v1 3 l * 8 + u) / 8 = v1 3 l by omega, show (v1 3 l * 8 + u) % 8 = u by omega]
      have g1 : v1 3 l % 6 = l % 10 := by omega
      have g2 : v1 3 l / 6 = l / 10 % 10 + 6 * (l / 10 / 10 % 10) := by omega
      have g3 : v1 3 l / 36 = l / 10 / 10 % 10 := by omega
      rw [g1, g2, g3]
      omega
theorem e_236 (hst : st < 4294967296) (hu : u < 4294967296) (hg : g < 4294967296) (r : RM M n B) (K : ∀ M' B', RM M' n B' → EQ B B' → FRt M M' → Q (some (.int (N (m30 n B st u g)))) (a_hp sc fd M')) : a_Ex 236 0 [some (.ref 170), some (.int (N st)), some (.int (N u)), some (.int (N g)), none] [] (a_hp sc fd M) Q := by
  have n5 := r.n5
  have n2 := r.n2
  have sno := st_no (A := B) (B := a_up B 9 0 0) n5 st
  have hev := ev_le n5
  have s237 : s_237 n (a_up B 9 0 0) st < 4294967296 := by
    obtain ⟨a1, a2⟩ := st_val (A := B) (B := a_up B 9 0 0) n5 st
    by_cases c : 2147483648 ≤ st ∨ ¬ okd n st
    · rw [(a1 c).2]; omega
    · have c1 : ¬ 2147483648 ≤ st := fun q => c (Or.inl q)
      have c2 : okd n st := Classical.byContradiction fun q => c (Or.inr q)
      have := (v_lt n st c2).2
      have : 6 ^ n ≤ 7776 := Nat.le_trans (Nat.pow_le_pow_right (by omega) n5) (by decide)
      rw [(a2 c1 c2).2]
      omega
  refine x_aload_n i_236_0 rfl ?_
  refine n_iconst 0 i_236_1 rfl ?_
  refine x_pi i_236_2 ob_170 pf_8_0.1 pf_8_0.2 ?_
  have f1 : ∀ q k, ¬ (q = 170 ∧ k = 0) → a_up M 170 0 (N 0) q k = M q k := fun q k h => by rw [a_up_def, if_neg h]
  have r1 : RM (a_up M 170 0 (N 0)) n (a_up B 9 0 0) := r.putg
  generalize a_up M 170 0 (N 0) = M1 at f1 r1 ⊢
  have e1 : EQ B (a_up B 9 0 0) := (EQ.refl B).r 9 0 0 (by omega)
  have F1 : FRt M M1 := fun q k a b c => f1 q k (by omega)
  have K0 := K M1 _ r1 e1 F1
  unfold m30 at K0
  refine x_aload_n i_236_5 rfl ?_
  refine x_iload_n i_236_6 rfl ?_
  refine x_vh (r := []) (lj := [some _, some _, none, none, none]) i_236_7 w_237 ob_170 [_] rfl rfl (Nat.le_of_ble_eq_true rfl) (Nat.le_of_ble_eq_true rfl) rfl ?_
  refine c_237 r1 (by omega) (rt_i ?_)
  refine x_istore i_236_10 rfl rfl ?_
  refine x_iload i_236_12 rfl ?_
  refine n_iconst 4294967295 i_236_14 rfl ?_
  refine n_ieqU (by omega) (by omega) i_236_15 ⟨fun g1 => ?_, fun g1 => ?_⟩
  · rw [if_pos (Or.inl (sno.mpr g1))] at K0
    refine n_bipush 4294967293 i_236_42 rfl ?_
    refine x_iret i_236_44 rn_236 rfl ?_
    exact K0
  · have s9 : ¬ s_95 n B st = 4294967295 := fun q => g1 (sno.mp q)
    refine x_iload_n i_236_18 rfl ?_
    refine x_i2l i_236_19 ?_
    refine n_lconst 0 i_236_20 rfl ?_
    refine x_aload_n i_236_21 rfl ?_
    refine x_vh (r := [_, _]) (lj := [some _]) i_236_22 w_159 ob_170 [] rfl rfl (Nat.le_of_ble_eq_true rfl) (Nat.le_of_ble_eq_true rfl) rfl ?_
    refine c_159 r1 (fun hq => rt_i ?_)
    refine x_i2l i_236_25 ?_
    refine n_within i_236_26 (Nat.le_of_ble_eq_true rfl) hu (by omega) (by omega) ⟨fun g2 => ?_, fun g2 => ?_⟩
    · refine x_ifF i_236_29 (by decide +kernel) ?_
      refine x_iload_n i_236_32 rfl ?_
      refine x_i2l i_236_33 ?_
      refine n_lconst 0 i_236_34 rfl ?_
      refine n_lconst 1 i_236_35 rfl ?_
      refine n_within i_236_36 (Nat.le_of_ble_eq_true rfl) hg (by omega) (by omega) ⟨fun g3 => ?_, fun g3 => ?_⟩
      · have hok : ¬ (s_95 n B st = 4294967295 ∨ ¬ u ≤ ev n ∨ ¬ g ≤ 1) := by omega
        rw [if_neg hok] at K0
        refine x_ifT i_236_39 (by decide +kernel) ?_
        refine x_aload_n i_236_45 rfl ?_
        refine x_gr i_236_46 ob_170 gr_8_1.1 gr_8_1.2 (rt_170_1 _) ?_
        refine n_iconst 0 i_236_49 rfl ?_
        refine n_ld (x := n) i_236_50 ar_171 (by omega) (by omega) r1.nn ?_
        refine n_iconst 3 i_236_51 rfl ?_
        refine x_ileN (by omega) (by omega) i_236_52 ⟨fun g4 => ?_, fun g4 => ?_⟩
        · have hn : n = 2 ∨ n = 3 := by omega
          refine x_aload_n i_236_58 rfl ?_
          refine x_iload_n i_236_59 rfl ?_
          refine x_vh (r := []) (lj := [some _, some _, none, none, none]) i_236_60 w_226 ob_170 [_] rfl rfl (Nat.le_of_ble_eq_true rfl) (Nat.le_of_ble_eq_true rfl) rfl ?_
          refine b_226 hn (show g ≤ 1 by omega) e1 r1 (fun M2 B2 r2 e2 s2 m2 f2 => rt_n ?_)
          have K := K M2 B2 r2 e2 (FM.t f1 f2)
          unfold m30 at K
          rw [if_neg hok, if_neg (fun q => q (show n ≤ 3 by omega))] at K
          have v := bf_iv (g := g) hn r.w
          have sb := SB.of hn v
          have hev7 : ev n ≤ 7 := by rcases hn with rfl | rfl <;> decide
          obtain ⟨p1, p2, p3⟩ := st_ps (B := a_up B 9 0 0) hn (show u < 8 by omega) s9
          refine x_aload_n i_236_63 rfl ?_
          refine x_gr i_236_64 ob_170 gr_8_15.1 gr_8_15.2 (rt_170_15 _) ?_
          refine n_bipush 8 i_236_67 rfl ?_
          refine x_iload i_236_69 rfl ?_
          refine x_imulN i_236_71 ?_
          refine x_iload_n i_236_72 rfl ?_
          refine x_iaddN i_236_73 ?_
          refine n_ld (x := far (BF n B g).1 (s_95 n B st * 8 + u) (BF n B g).2) i_236_74 ar_180 (by omega) p3 ((m2 _ p3).trans (by rw [p1, rfr_far hn p2 _ (fun j hj => (sb.2 j hj).1)])) ?_
          clear K0
          refine x_iret i_236_75 rn_236 rfl ?_
          exact K
        · rw [if_pos g4] at K0
          refine n_bipush 4294967291 i_236_55 rfl ?_
          refine x_iret i_236_57 rn_236 rfl ?_
          exact K0
      · rw [if_pos (Or.inr (Or.inr (fun q => g3 ⟨Nat.zero_le _, q⟩)))] at K0
        refine x_ifF i_236_39 (by decide +kernel) ?_
        refine n_bipush 4294967293 i_236_42 rfl ?_
        refine x_iret i_236_44 rn_236 rfl ?_
        exact K0
    · rw [if_pos (Or.inr (Or.inl (fun q => g2 ⟨Nat.zero_le _, q⟩)))] at K0
      refine x_ifT i_236_29 (by decide +kernel) ?_
      refine n_bipush 4294967293 i_236_42 rfl ?_
      refine x_iret i_236_44 rn_236 rfl ?_
      exact K0
end STE
