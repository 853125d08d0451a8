/-! the whole search in the abstract, its end -/
def qf (ph u s0 s1 s2 : Nat) : Bool := (match ph with
    | 0 => Nat.beq u 1 && Nat.beq s0 0
    | 1 => Nat.beq u 1 && Nat.beq s0 1 && !Nat.beq s1 0 && !Nat.beq s2 0
    | 2 => Nat.beq u 1 && Nat.beq s0 2
    | _ => !Nat.beq u 1 || Nat.beq s0 2 || Nat.beq s0 4 || Nat.beq s0 5) && (match s0 with
    | 0 => (Nat.beq s1 0 || Nat.beq s1 3 || Nat.beq s1 5) && (Nat.beq s2 0 || Nat.beq s2 3 || Nat.beq s2 5)
    | 1 => !(Nat.beq s1 2 || Nat.beq s1 4 || Nat.beq s2 2 || Nat.beq s2 4)
    | 3 => !(Nat.beq s1 2 || Nat.beq s1 4 || Nat.beq s2 2 || Nat.beq s2 4)
    | 2 => !(Nat.beq s1 0 || Nat.beq s2 0)
    | 4 => !(Nat.beq s1 0 || Nat.beq s2 0)
    | _ => !(Nat.beq s1 0 || Nat.beq s2 0) || !(Nat.beq s1 2 || Nat.beq s1 4 || Nat.beq s2 2 || Nat.beq s2 4))
def hyb (ph u s0 s1 s2 : Nat) : Bool := decide (ph = 0 → u = 1 ∧ s0 = 0) && (decide (ph = 1 → u = 1 ∧ s0 = 1) && (decide (ph = 2 → u = 1 ∧ s0 = 2) && (decide (ph = 3 → u = 1 → s0 = 2 ∨ s0 = 4 ∨ s0 = 5) && (decide ((s0 = 0 → s1 = 0 ∨ s1 = 3 ∨ s1 = 5) ∧ (s0 = 1 ∨ s0 = 3 → ¬ s1 = 2 ∧ ¬ s1 = 4) ∧ (ph = 1 → ¬ s1 = 0)) && (decide ((s0 = 0 → s2 = 0 ∨ s2 = 3 ∨ s2 = 5) ∧ (s0 = 1 ∨ s0 = 3 → ¬ s2 = 2 ∧ ¬ s2 = 4) ∧ (ph = 1 → ¬ s2 = 0)) && decide ((¬ s0 = 0 ∧ ¬ s1 = 0 ∧ ¬ s2 = 0) ∨ ((¬ s0 = 2 ∧ ¬ s0 = 4) ∧ (¬ s1 = 2 ∧ ¬ s1 = 4) ∧ (¬ s2 = 2 ∧ ¬ s2 = 4))))))))
theorem qf_oc : ∀ x, x < 1728 → (!hyb (x % 4) (x / 4 % 2) (x / 8 % 6) (x / 48 % 6) (x / 288) || qf (x % 4) (x / 4 % 2) (x / 8 % 6) (x / 48 % 6) (x / 288)) = true := by decide +kernel
theorem qf_ob (ph : Nat) (h1 : ph < 4) (u : Nat) (h2 : u < 2) (s0 : Nat) (h3 : s0 < 6) (s1 : Nat) (h4 : s1 < 6) (s2 : Nat) (h5 : s2 < 6) (h : hyb ph u s0 s1 s2 = true) : qf ph u s0 s1 s2 = true := by
  have := qf_oc (ph + 4 * u + 8 * s0 + 48 * s1 + 288 * s2) (by omega)
  rw [show (ph + 4 * u + 8 * s0 + 48 * s1 + 288 * s2) % 4 = ph by omega, show (ph + 4 * u + 8 * s0 + 48 * s1 + 288 * s2) / 4 % 2 = u by omega, show (ph + 4 * u + 8 * s0 + 48 * s1 + 288 * s2) / 8 % 6 = s0 by omega, show (ph + 4 * u + 8 * s0 + 48 * s1 + 288 * s2) / 48 % 6 = s1 by omega, show (ph + 4 * u + 8 * s0 + 48 * s1 + 288 * s2) / 288 = s2 by omega, h] at this
  exact this
theorem qf_ok {ph u s0 s1 s2 : Nat} (h1 : ph < 4) (h2 : u < 2) (h3 : s0 < 6) (h4 : s1 < 6) (h5 : s2 < 6) (p1 : ph = 0 → u = 1 ∧ s0 = 0) (p2 : ph = 1 → u = 1 ∧ s0 = 1) (p3 : ph = 2 → u = 1 ∧ s0 = 2) (p4 : ph = 3 → u = 1 → s0 = 2 ∨ s0 = 4 ∨ s0 = 5) (p5 : (s0 = 0 → s1 = 0 ∨ s1 = 3 ∨ s1 = 5) ∧ (s0 = 1 ∨ s0 = 3 → ¬ s1 = 2 ∧ ¬ s1 = 4) ∧ (ph = 1 → ¬ s1 = 0)) (p6 : (s0 = 0 → s2 = 0 ∨ s2 = 3 ∨ s2 = 5) ∧ (s0 = 1 ∨ s0 = 3 → ¬ s2 = 2 ∧ ¬ s2 = 4) ∧ (ph = 1 → ¬ s2 = 0)) (p7 : (¬ s0 = 0 ∧ ¬ s1 = 0 ∧ ¬ s2 = 0) ∨ ((¬ s0 = 2 ∧ ¬ s0 = 4) ∧ (¬ s1 = 2 ∧ ¬ s1 = 4) ∧ (¬ s2 = 2 ∧ ¬ s2 = 4))) : qf ph u s0 s1 s2 = true := by
  refine qf_ob ph h1 u h2 s0 h3 s1 h4 s2 h5 ?_
  unfold hyb
  rw [decide_eq_true p1, decide_eq_true p2, decide_eq_true p3, decide_eq_true p4, decide_eq_true p5, decide_eq_true p6, decide_eq_true p7]
  rfl
theorem qb_qf (c : Nat) : qb 3 c = (Nat.ble (c + 1) 27648 && qf (c % 4) (c / 16 % 2) (c / 128 / 36) (c / 128 / 6 % 6) (c / 128 % 6)) := by
  unfold qb qf
  rw [if_neg (by omega), Bool.and_assoc]
  rfl
section BFT
variable {n g i : Nat} {T E : HA} {L : List Nat} {S : HA × Nat} {D : Nat → Prop}
theorem qb_of {c : Nat} (h : IHs n T (std n T c)) (e : vl n (std n T c) = c) : qb n c = true := by
  obtain ⟨v, w, q, t⟩ := h
  have hc := vl_lt v
  rw [e] at hc
  have hn := v.1
  rcases hn with rfl | rfl
  · have hc : c < 4608 := hc
    have e : ((dg 2 (c / 128) 0 * 6 + dg 2 (c / 128) 1) * 8 + (c / 16 / 1 % 2 + 2 * (c / 16 / 2 % 2))) * 16 + (c / 4 / 1 % 2) * 4 + c % 4 = c := e
    have d0 : dg 2 (c / 128) 0 = c / 128 / 6 := rfl
    have d1 : dg 2 (c / 128) 1 = c / 128 % 6 := rfl
    rw [d0, d1] at e
    unfold qb
    rw [if_pos rfl]
    have x1 : c / 16 % 8 ≤ 3 := by omega
    have x2 : c / 4 % 4 ≤ 1 := by omega
    rw [Nat.ble_eq_true_of_le (show c + 1 ≤ 4608 by omega), Nat.ble_eq_true_of_le x1, Nat.ble_eq_true_of_le x2]
    rfl
  · have hc : c < 27648 := hc
    rw [qb_qf, Nat.ble_eq_true_of_le (show c + 1 ≤ 27648 by omega), Bool.true_and]
    obtain ⟨q0, q1, q2, q3, q4, q5⟩ := q
    have a0 : std 3 T c 0 0 = c / 128 / 36 := rfl
    have a1 : std 3 T c 0 1 = c / 128 / 6 % 6 := rfl
    have a2 : std 3 T c 0 2 = c / 128 % 6 := rfl
    have a3 : std 3 T c 1 0 = c / 16 % 2 := by show c / 16 / 1 % 2 = _; rw [Nat.div_one]
    have a4 : std 3 T c 6 2 = c % 4 := rfl
    have b1 := q4 1 (by omega) (by omega)
    have b2 := q4 2 (by omega) (by omega)
    rw [a4, a3, a0] at q0 q1 q2 q3
    rw [a4, a0, a1] at b1
    rw [a4, a0, a2] at b2
    refine qf_ok (Nat.mod_lt _ (by omega)) (Nat.mod_lt _ (by omega)) (by omega) (Nat.mod_lt _ (by omega)) (Nat.mod_lt _ (by omega)) q0 q1 q2 q3 b1 b2 ?_
    rcases q5 with h | h
    · left
      have h0 := h 0 (by omega); have h1 := h 1 (by omega); have h2 := h 2 (by omega)
      rw [a0] at h0; rw [a1] at h1; rw [a2] at h2
      exact ⟨h0, h1, h2⟩
    · right
      have h0 := h 0 (by omega); have h1 := h 1 (by omega); have h2 := h 2 (by omega)
      rw [a0] at h0; rw [a1] at h1; rw [a2] at h2
      exact ⟨h0, h1, h2⟩
theorem cnt2_le {p q : Nat → Bool} (h : ∀ c, q c = true → p c = true) : ∀ k lo, cnt2 q k lo ≤ cnt2 p k lo := by
  intro k
  induction k with
  | zero =>
    intro lo
    unfold cnt2
    by_cases c : q lo = true
    · rw [if_pos c, if_pos (h lo c)]; exact Nat.le_refl _
    · rw [if_neg c]; exact Nat.zero_le _
  | succ k ih =>
    intro lo
    unfold cnt2
    exact Nat.add_le_add (ih _) (ih _)
theorem cnt2_rm {p q : Nat → Bool} {x : Nat} (h : ∀ c, q c = true → p c = true) (hx : p x = true) (hq : q x = false) : ∀ k lo, lo ≤ x → x < lo + 2 ^ k → cnt2 q k lo + 1 ≤ cnt2 p k lo := by
  intro k
  induction k with
  | zero =>
    intro lo h1 h2
    have e : lo = x := by have : 2 ^ 0 = 1 := rfl; omega
    unfold cnt2
    rw [e, if_pos hx, hq, if_neg (by decide)]
    exact Nat.le_refl _
  | succ k ih =>
    intro lo h1 h2
    have e2 : 2 ^ (k + 1) = 2 ^ k + 2 ^ k := by rw [Nat.pow_succ]; omega
    unfold cnt2
    by_cases c : x < lo + 2 ^ k
    · have := ih lo h1 c
      have := cnt2_le h k (lo + 2 ^ k)
      omega
    · have := ih (lo + 2 ^ k) (by omega) (by omega)
      have := cnt2_le h k lo
      omega
theorem pig (k : Nat) (f : Nat → Nat) : ∀ z (p : Nat → Bool), (∀ j, j < z → p (f j) = true ∧ f j < 2 ^ k) → (∀ i j, i < j → j < z → ¬ f i = f j) → z ≤ cnt2 p k 0 := by
  intro z
  induction z with
  | zero => intro p _ _; exact Nat.zero_le _
  | succ z ih =>
    intro p h1 h2
    have hz := h1 z (by omega)
    have i1 := ih (fun c => p c && !decide (c = f z)) (fun j hj => ⟨by
      have := h2 j z hj (by omega)
      rw [(h1 j (by omega)).1, Bool.true_and]
      simp [this], (h1 j (by omega)).2⟩) (fun i j h3 h4 => h2 i j h3 (by omega))
    have i2 := cnt2_rm (p := p) (q := fun c => p c && !decide (c = f z)) (x := f z) (fun c hc => by
      cases e : p c with
      | true => rfl
      | false => rw [e] at hc; exact absurd (show false = true from hc) (by decide)) hz.1 (by simp) k 0 (Nat.zero_le _) (by omega)
    omega
theorem iv_sz (v : IV n T L S i D) : S.2 ≤ 3968 := by
  obtain ⟨-, b1, c1, -⟩ := v
  have h : ∀ j, j < S.2 → qb n (S.1 0 j) = true ∧ S.1 0 j < 2 ^ 15 := fun j hj => by
    obtain ⟨x, y⟩ := b1 j hj
    refine ⟨qb_of x y, ?_⟩
    have := vl_lt x.1
    rw [y] at this
    unfold cb at this
    have : 2 ^ 15 = 32768 := rfl
    split at * <;> omega
  have := pig 15 (fun j => S.1 0 j) S.2 (qb n) h c1
  by_cases z : S.2 = 0
  · omega
  · have hn := (b1 0 (by omega)).1.1.1
    rcases hn with rfl | rfl
    · exact Nat.le_trans this (Nat.le_trans qb_2 (by omega))
    · exact Nat.le_trans this qb_3
theorem iv_run (hL : ∀ a, a ∈ L → OKA n a) (w : WN n T) : ∀ (l : List Nat) (S : HA × Nat) (D : Nat → Prop), (∀ a, a ∈ l → a ∈ L) → i < S.2 → IV n T L S i D → IV n T L (l.foldl (stq n T i) S) i (fun b => D b ∨ b ∈ l) ∧ S.2 ≤ (l.foldl (stq n T i) S).2 := by
  intro l
  induction l with
  | nil =>
    intro S D _ _ v
    refine ⟨?_, Nat.le_refl _⟩
    obtain ⟨a, b, c, d, e, f, h⟩ := v
    exact ⟨a, b, c, d, e, f, fun p b' hp hb hbl q => h p b' hp hb hbl (q.imp id (fun z => ⟨z.1, z.2.resolve_right (by simp)⟩))⟩
  | cons a l ih =>
    intro S D hl hi v
    obtain ⟨s1, s2, s3⟩ := iv_st hL w (by have := iv_sz v; omega) v hi (hl a (by simp))
    obtain ⟨r1, r2⟩ := ih (stq n T i S a) _ (fun b hb => hl b (by simp [hb])) (by omega) s1
    refine ⟨?_, Nat.le_trans s2 r2⟩
    obtain ⟨a', b, c, d, e, f, h⟩ := r1
    exact ⟨a', b, c, d, e, f, fun p b' hp hb hbl q => h p b' hp hb hbl (q.imp id (fun z => ⟨z.1, by
      rcases z.2 with y | y
      · exact Or.inl (Or.inl y)
      · rcases List.mem_cons.mp y with y | y
        · exact Or.inl (Or.inr y)
        · exact Or.inr y⟩))⟩
theorem iv_next (v : IV n T L S i (fun b => False ∨ b ∈ L)) (hi : i < S.2) : IV n T L S (i + 1) (fun _ => False) := by
  obtain ⟨⟨a1, a2, a3⟩, b, c, d, e, f, h⟩ := v
  refine ⟨⟨a1, by omega, a3⟩, b, c, fun j h1 h2 => ?_, e, f, fun p b' hp hb hbl q => ?_⟩
  · obtain ⟨q1, q2, q3⟩ := d j h1 h2
    exact ⟨q1, by omega, q3⟩
  · rcases q with q | ⟨-, q⟩
    · by_cases z : p = i
      · exact h p b' hp hb hbl (Or.inr ⟨z, Or.inr hbl⟩)
      · exact h p b' hp hb hbl (Or.inl (by omega))
    · exact q.elim
theorem iv_bfs (hL : ∀ a, a ∈ AL n g → OKA n a) (w : WN n T) : ∀ d i (S : HA × Nat), d + i = 4096 → IV n T (AL n g) S i (fun _ => False) → IV n T (AL n g) (bfs n T g d i S) (bfs n T g d i S).2 (fun _ => False) := by
  intro d
  induction d with
  | zero =>
    intro i S hd v
    have := iv_sz v
    have := v.1.2.1
    omega
  | succ d ih =>
    intro i S hd v
    unfold bfs
    by_cases c : i < S.2
    · rw [if_pos c]
      obtain ⟨r1, r2⟩ := iv_run hL w (AL n g) S (fun _ => False) (fun _ h => h) c v
      exact ih (i + 1) _ (by omega) (iv_next r1 (by omega))
    · rw [if_neg c]
      have e : i = S.2 := by have := v.1.2.1; omega
      rw [← e]; exact v
theorem al_ok (hn : n = 2 ∨ n = 3) : ∀ a, a ∈ AL n g → OKA n a := by
  intro a h
  have h : a ∈ AL n (if g = 1 then 1 else 0) := by
    unfold AL at h ⊢
    by_cases c : g = 1
    · rw [c] at h ⊢; exact h
    · rw [if_neg c] at h ⊢; exact h
  have key : ∀ m, (m = 2 ∨ m = 3) → ∀ g', (g' = 0 ∨ g' = 1) → ∀ a, a ∈ AL m g' → (100 ≤ a ∧ a < 106) ∨ (200 ≤ a ∧ a < 206) ∨ (300 ≤ a ∧ a < 306) ∨ (400 ≤ a ∧ a < 400 + m) ∨ (500 ≤ a ∧ a < 500 + 10 * m ∧ a % 10 < 6) ∨ (600 ≤ a ∧ a < 608 ∧ a % 2 = 0) := by
    intro m hm g' hg
    rcases hm with rfl | rfl <;> rcases hg with rfl | rfl <;> decide
  exact key n hn _ (by split <;> omega) a h
theorem iv_0 (hn : n = 2 ∨ n = 3) (w : WN n T) : IV n T L (S0 n) 0 (fun _ => False) := by
  have hc : c0 n < cb n := by rcases hn with rfl | rfl <;> decide
  have hv : vl n (std n T (c0 n)) = c0 n := by rcases hn with rfl | rfl <;> rfl
  have z0 : ∀ s, s < n → std n T (c0 n) 0 s = 0 := by
    intro s hs
    rcases hn with rfl | rfl
    · rcases (by omega : s = 0 ∨ s = 1) with rfl | rfl <;> rfl
    · rcases (by omega : s = 0 ∨ s = 1 ∨ s = 2) with rfl | rfl | rfl <;> rfl
  have z1 : std n T (c0 n) 1 0 = 1 := by rcases hn with rfl | rfl <;> rfl
  have z2 : std n T (c0 n) 6 2 = 0 := by rcases hn with rfl | rfl <;> rfl
  have q : QH n (std n T (c0 n)) := by
    unfold QH
    rw [z2, z1, z0 0 (by omega)]
    refine ⟨by omega, by omega, by omega, by omega, fun s h1 h2 => ?_, Or.inr fun s hs => ?_⟩
    · rw [z0 s h2]; omega
    · rw [z0 s hs]; omega
  refine ⟨⟨Nat.le_refl _, Nat.zero_le _, rfl, rfl, rfl⟩, fun j hj => ?_, fun j k h1 h2 => ?_, fun j h1 h2 => ?_, fun j h => ?_, fun j hj => ?_, fun p b hp hb hbl h => ?_⟩
  · show IHs n T (std n T (c0 n)) ∧ vl n (std n T (c0 n)) = c0 n
    exact ⟨⟨std_vs hn hc, std_wn hn hc w, q, std_tm⟩, hv⟩
  · have h2 : k < 1 := h2; omega
  · have h2 : j < 1 := h2; omega
  · have h : j + 1 < 1 := h; omega
  · show 0 ≤ _ ∧ (_ → 0 ≤ _)
    exact ⟨Nat.zero_le _, fun _ => Nat.zero_le _⟩
  · rcases h with h | ⟨-, h⟩
    · omega
    · exact h.elim
/-- all that is found -/
def BF (n : Nat) (T : HA) (g : Nat) : HA × Nat := bfs n T g 4096 0 (S0 n)
theorem bf_iv (hn : n = 2 ∨ n = 3) (w : WN n T) : IV n T (AL n g) (BF n T g) (BF n T g).2 (fun _ => False) := iv_bfs (al_ok hn) w 4096 0 (S0 n) rfl (iv_0 hn w)
theorem bf_dep (hn : n = 2 ∨ n = 3) (w : WN n T) {j : Nat} (hj : j < (BF n T g).2) : (BF n T g).1 3 j ≤ 37 := by
  have v := bf_iv (g := g) hn w
  have f := (v.2.2.2.2.2.1 j hj).1
  have := mu_le (v.2.1 j hj).1.1
  omega
end BFT
