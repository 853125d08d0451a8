/-! what is noted of the stands found; the class's noting -/
def far (E : HA) (m : Nat) : Nat → Nat
  | 0 => 4294967295
  | j + 1 => if far E m j = 4294967295 ∧ E 0 j / 16 = m then E 3 j else far E m j
def nw (E : HA) (j : Nat) : Bool := decide (far E (E 0 j / 16) j = 4294967295)
def un (n c : Nat) : Bool := decide (s_55 n (std n (fun _ _ => 0) c) (ev n) &&& 48 = 48)
def mz (E : HA) : Nat → Nat
  | 0 => 0
  | j + 1 => if nw E j = true then mz E j + 1 else mz E j
def mn (n : Nat) (E : HA) : Nat → Nat
  | 0 => 0
  | j + 1 => if nw E j = true ∧ un n (E 0 j) = true then mn n E j + 1 else mn n E j
def mm (E : HA) : Nat → Nat
  | 0 => 0
  | j + 1 => if nw E j = true then E 3 j else mm E j
def bh (n : Nat) (A : HA) (x : Nat) : Nat → Nat → Nat → Nat
  | 0, _, y => y
  | d + 1, s, y => if n ≤ s then y else bh n A x d (s + 1) (if A 0 s = x then y ||| s_55 n A (ev n &&& ((1 <<< s) ^^^ 4294967295)) else y)
def bes (n : Nat) (E : HA) (x : Nat) : Nat → Nat
  | 0 => 0
  | j + 1 => if nw E j = true then bh n (std n (fun _ _ => 0) (E 0 j)) x 6 0 (bes n E x j) else bes n E x j
def wln (n : Nat) (E : HA) : Nat → Nat
  | 0 => 4294967295
  | j + 1 => if wln n E j = 4294967295 ∧ un n (E 0 j) = true then min (E 3 j) 64 else wln n E j
def anc (E : HA) (u : Nat) : Nat → Nat
  | 0 => u
  | t + 1 => E 1 (anc E u t)
/-- the first unlike one -/
def fun1 (n : Nat) (E : HA) (u : Nat) : Prop := un n (E 0 u) = true ∧ ∀ v, v < u → ¬ un n (E 0 v) = true
def MXS (M : a_Mm) (o n : Nat) (E : HA) (z : Nat) : Prop := (∀ m, m < 1728 → M (o + 1) m = N (far E m z)) ∧ M o 5 = N (mz E z) ∧ M o 6 = N (mn n E z) ∧ M o 7 = N (mm E z) ∧ M o 4 = N (wln n E z) ∧ (∀ x, x < 6 → M (o + 2) x = N (bes n E x z)) ∧ ∀ u, u < z → fun1 n E u → ∀ i, i < E 3 u → M (o + 3) i = N (E 2 (anc E u (E 3 u - 1 - i)))
section NOT
variable {sc : a_Sc} {fd : Nat} {M M0 : a_Mm} {A B T E F : HA} {Q : Option Value → a_Hp → Prop} {n o z : Nat}
theorem far_c {m : Nat} : ∀ z, (∀ w j, j < z → F w j = E w j) → far F m z = far E m z := by
  intro z
  induction z with
  | zero => intro _; rfl
  | succ z ih =>
    intro h
    unfold far
    rw [ih (fun w j hj => h w j (by omega)), h 0 z (by omega), h 3 z (by omega)]
theorem nw_c {z : Nat} (h : ∀ w j, j < z + 1 → F w j = E w j) : nw F z = nw E z := by
  unfold nw
  rw [far_c z (fun w j hj => h w j (by omega)), h 0 z (by omega)]
theorem mz_c : ∀ z, (∀ w j, j < z → F w j = E w j) → mz F z = mz E z := by
  intro z
  induction z with
  | zero => intro _; rfl
  | succ z ih => intro h; unfold mz; rw [ih (fun w j hj => h w j (by omega)), nw_c h]
theorem mn_c : ∀ z, (∀ w j, j < z → F w j = E w j) → mn n F z = mn n E z := by
  intro z
  induction z with
  | zero => intro _; rfl
  | succ z ih => intro h; unfold mn; rw [ih (fun w j hj => h w j (by omega)), nw_c h, h 0 z (by omega)]
theorem mm_c : ∀ z, (∀ w j, j < z → F w j = E w j) → mm F z = mm E z := by
  intro z
  induction z with
  | zero => intro _; rfl
  | succ z ih => intro h; unfold mm; rw [ih (fun w j hj => h w j (by omega)), nw_c h, h 3 z (by omega)]
theorem bes_c {x : Nat} : ∀ z, (∀ w j, j < z → F w j = E w j) → bes n F x z = bes n E x z := by
  intro z
  induction z with
  | zero => intro _; rfl
  | succ z ih => intro h; unfold bes; rw [ih (fun w j hj => h w j (by omega)), nw_c h, h 0 z (by omega)]
theorem wln_c : ∀ z, (∀ w j, j < z → F w j = E w j) → wln n F z = wln n E z := by
  intro z
  induction z with
  | zero => intro _; rfl
  | succ z ih => intro h; unfold wln; rw [ih (fun w j hj => h w j (by omega)), h 0 z (by omega), h 3 z (by omega)]
theorem c55_0 (h : ∀ s, s < n → A 0 s = B 0 s) (x : Nat) : s_55 n A x = s_55 n B x := by
  have L : ∀ d y s, s_55_4 n d A x y s = s_55_4 n d B x y s := by
    intro d
    induction d with
    | zero => intro y s; rfl
    | succ d ih =>
      intro y s
      unfold s_55_4
      by_cases c : n ≤ s
      · rw [if_pos c, if_pos c]
      · rw [if_neg c, if_neg c, h s (by omega), ih, ih]
  exact L 6 0 0
/-- the states of a hall, by its number -/
theorem st_vl (v : VS n A) (t : TM n T A) : ∀ s, s < n → A 0 s = std n (fun _ _ => 0) (vl n A) 0 s := fun s hs => ((std_vl v t).1 0 (by omega) s hs).symm
theorem un_A (v : VS n A) (t : TM n T A) : (s_55 n A (ev n) &&& 48 = 48) = (un n (vl n A) = true) := by
  unfold un
  rw [c55_0 (st_vl v t)]
  exact propext ⟨fun h => decide_eq_true h, fun h => of_decide_eq_true h⟩
theorem bh_A (v : VS n A) (t : TM n T A) (x : Nat) : ∀ d s y, bh n A x d s y = bh n (std n (fun _ _ => 0) (vl n A)) x d s y := by
  intro d
  induction d with
  | zero => intro s y; rfl
  | succ d ih =>
    intro s y
    unfold bh
    by_cases c : n ≤ s
    · rw [if_pos c, if_pos c]
    · rw [if_neg c, if_neg c, st_vl v t s (by omega), c55_0 (st_vl v t), ih]
theorem c_141 (r : RC M 156 n A) (mb : MB o) (K : Q (some (.int (N (if s_55 n A (ev n) &&& 48 = 48 then 1 else 0)))) (a_hp sc fd M)) : a_Ex 141 0 [some (.ref o), some (.ref 156)] [] (a_hp sc fd M) Q := by
  refine x_aload_n i_141_0 rfl ?_
  refine x_aload_n i_141_1 rfl ?_
  refine x_vh (r := [_]) (lj := [some _]) i_141_2 w_47 hb156.ob [] rfl rfl (Nat.le_of_ble_eq_true rfl) (Nat.le_of_ble_eq_true rfl) rfl ?_
  refine c_47 hb156 r (fun h1 => rt_i ?_)
  refine x_vh (r := []) (lj := [some _, some _, none, none]) i_141_5 w_55 hb156.ob [_] rfl rfl (Nat.le_of_ble_eq_true rfl) (Nat.le_of_ble_eq_true rfl) rfl ?_
  refine c_55 hb156 r h1 (fun h2 => rt_i ?_)
  refine n_bipush 48 i_141_8 rfl ?_
  refine x_iandN i_141_10 ?_
  refine n_bipush 48 i_141_11 rfl ?_
  refine x_ineN (by have := @Nat.and_le_left (s_55 n A (ev n)) 48; omega) (by omega) i_141_13 ⟨fun g1 => ?_, fun g1 => ?_⟩
  · rw [if_neg g1] at K
    refine n_iconst 0 i_141_20 rfl ?_
    refine x_iret i_141_21 rn_141 (by decide +kernel) ?_
    exact K
  · rw [if_pos g1] at K
    refine n_iconst 1 i_141_16 rfl ?_
    refine x_goto i_141_17 ?_
    refine x_iret i_141_21 rn_141 (by decide +kernel) ?_
    exact K
theorem s55_b (h5 : n ≤ 5) (w : WN n A) (x : Nat) : s_55 n A x < 64 := by
  show s_55 n A x < 2 ^ 6
  refine Nat.lt_pow_two_of_testBit _ (fun i hi => ?_)
  cases e : (s_55 n A x).testBit i with
  | false => rfl
  | true =>
    obtain ⟨s, hs, -, hv⟩ := (s55_t h5 x i).mp e
    have := w.b0 (show s < 5 by omega)
    omega
/-- the states beside each other, noted -/
theorem c_140_L (mb : MB o) {m p : Nat} (k : ∀ M' (l5 : Option Value) (g : Nat → Nat), RC M' 156 n A → (∀ x, x < 6 → M' (o + 2) x = N (g x)) → (∀ q j, ¬ q = o + 2 → M' q j = M0 q j) → (∀ x, x < 6 → g x = E 0 x) → a_Ex 140 74 [some (.ref o), some (.ref 156), some (.int (N m)), some (.int (N p)), some (.int (N n)), l5] [] (a_hp sc fd M') Q) : ∀ d s {M : a_Mm} {l5 : Option Value} {g : Nat → Nat}, n - s < d → s ≤ n → RC M 156 n A → (∀ x, x < 6 → M (o + 2) x = N (g x)) → (∀ q j, ¬ q = o + 2 → M q j = M0 q j) → (∀ x, x < 6 → bh n A x d s (g x) = E 0 x) → a_Ex 140 25 [some (.ref o), some (.ref 156), some (.int (N m)), some (.int (N p)), some (.int (N s)), l5] [] (a_hp sc fd M) Q := by
  intro d
  induction d with
  | zero => intro s M l5 g h; exact absurd h (Nat.not_lt_zero _)
  | succ d ih =>
    intro s M l5 g hd hs r hg fr he
    have n5 := r.n5
    have w := r.w
    have hm := mb.lt
    by_cases c : n ≤ s
    · have e : n = s := by omega
      subst e
      have he' : ∀ x, x < 6 → g x = E 0 x := fun x hx => by
        have := he x hx
        unfold bh at this
        rw [if_pos (Nat.le_refl _)] at this
        exact this
      refine x_iload i_140_25 rfl ?_
      refine x_aload_n i_140_27 rfl ?_
      refine n_gi (x := n) i_140_28 hb156.ob gf_1_0.1 gf_1_0.2 r.nn ?_
      refine x_igeN (by omega) (by omega) i_140_31 ⟨fun g1 => ?_, fun g1 => ?_⟩
      · exact k M l5 g r hg fr he'
      · exact absurd (Nat.le_refl _) g1
    · have hb0 := w.b0 (show s < 5 by omega)
      have hs1 : 1 <<< s ≤ 2 ^ 4 := shl_le 4 (by omega)
      refine x_iload i_140_25 rfl ?_
      refine x_aload_n i_140_27 rfl ?_
      refine n_gi (x := n) i_140_28 hb156.ob gf_1_0.1 gf_1_0.2 r.nn ?_
      refine x_igeN (by omega) (by omega) i_140_31 ⟨fun g1 => ?_, fun g1 => ?_⟩
      · exact absurd g1 c
      · refine x_aload_n i_140_34 rfl ?_
        refine x_vh (r := []) (lj := [some _]) i_140_35 w_47 hb156.ob [] rfl rfl (Nat.le_of_ble_eq_true rfl) (Nat.le_of_ble_eq_true rfl) rfl ?_
        refine c_47 hb156 r (fun h1 => rt_i ?_)
        refine n_iconst 1 i_140_38 rfl ?_
        refine x_iload i_140_39 rfl ?_
        refine x_ishlN (by omega) i_140_41 ?_
        refine n_iconst 4294967295 i_140_42 rfl ?_
        refine x_ixorN i_140_43 ?_
        refine x_iandN i_140_44 ?_
        have h2 : ev n &&& (1 <<< s ^^^ 4294967295) ≤ 31 := Nat.le_trans Nat.and_le_left h1
        refine x_istore i_140_45 rfl rfl ?_
        refine x_aload_n i_140_47 rfl ?_
        refine x_gr i_140_48 mb.ob gr_7_2.1 gr_7_2.2 (mb.r2 _) ?_
        refine x_aload_n i_140_51 rfl ?_
        refine x_gr i_140_52 hb156.ob gr_1_5.1 gr_1_5.2 (hb156.r5 _) ?_
        refine x_iload i_140_55 rfl ?_
        refine n_ld (x := A 0 s) i_140_57 hb156.a1 (by omega) (by omega) (r.a0 (by omega)) ?_
        refine x_dup2 i_140_58 rfl rfl ?_
        refine n_ld (x := g (A 0 s)) i_140_59 mb.a2 (by omega) (by omega) (hg _ (by omega)) ?_
        refine x_aload_n i_140_60 rfl ?_
        refine x_iload i_140_61 rfl ?_
        refine x_vh (r := [_, _, _]) (lj := [some _, some _, none, none]) i_140_63 w_55 hb156.ob [_] rfl rfl (Nat.le_of_ble_eq_true rfl) (Nat.le_of_ble_eq_true rfl) rfl ?_
        refine c_55 hb156 r h2 (fun h3 => rt_i ?_)
        refine x_iorN i_140_66 ?_
        refine n_st i_140_67 mb.a2 (by omega) (by omega) ?_
        refine n_iinc 1 i_140_68 rfl rfl rfl rfl ?_
        refine x_goto i_140_71 ?_
        refine ih (s + 1) (g := fun x => if A 0 s = x then g x ||| s_55 n A (ev n &&& (1 <<< s ^^^ 4294967295)) else g x) (by omega) (by omega) (r.same (fun q j h4 h5 => by rw [a_up_def, if_neg (by rcases mb with rfl | rfl <;> omega)])) (fun x hx => ?_) (fun q j hq => by rw [a_up_def, if_neg (fun z => hq z.1)]; exact fr q j hq) (fun x hx => ?_)
        · rw [a_up_def]
          by_cases y : A 0 s = x
          · rw [if_pos ⟨rfl, y.symm⟩, if_pos y, y]
          · rw [if_neg (fun z => y z.2.symm), if_neg y]; exact hg x hx
        · have := he x hx
          unfold bh at this
          rw [if_neg c] at this
          exact this
theorem c_140 (mb : MB o) (r : RC M 156 n A) {m p c5 c6 : Nat} {g : Nat → Nat} (hm : m < 1728) (e5 : M o 5 = N c5) (e6 : M o 6 = N c6) (hg : ∀ x, x < 6 → M (o + 2) x = N (g x)) (k : ∀ M', RC M' 156 n A → M' (o + 1) m = N p → (∀ j, ¬ j = m → M' (o + 1) j = M (o + 1) j) → M' o 7 = N p → M' o 5 = N (c5 + 1) → M' o 6 = N (if s_55 n A (ev n) &&& 48 = 48 then c6 + 1 else c6) → (∀ x, x < 6 → M' (o + 2) x = N (bh n A x 6 0 (g x))) → (∀ q j, ¬ (q = o ∧ (j = 5 ∨ j = 6 ∨ j = 7)) → ¬ q = o + 1 → ¬ q = o + 2 → M' q j = M q j) → Q none (a_hp sc fd M')) : a_Ex 140 0 [some (.ref o), some (.ref 156), some (.int (N m)), some (.int (N p)), none, none] [] (a_hp sc fd M) Q := by
  have n5 := r.n5
  refine x_aload_n i_140_0 rfl ?_
  refine x_gr i_140_1 mb.ob gr_7_1.1 gr_7_1.2 (mb.r1 _) ?_
  refine x_iload_n i_140_4 rfl ?_
  refine x_iload_n i_140_5 rfl ?_
  refine n_st i_140_6 mb.a1 (by omega) hm ?_
  refine x_aload_n i_140_7 rfl ?_
  refine x_iload_n i_140_8 rfl ?_
  refine x_pi i_140_9 mb.ob pf_7_7.1 pf_7_7.2 ?_
  refine x_aload_n i_140_12 rfl ?_
  refine x_dup i_140_13 rfl ?_
  refine n_gi (x := c5) i_140_14 mb.ob gf_7_5.1 gf_7_5.2 (by rw [a_up_def, if_neg (by omega), a_up_def, if_neg (by omega)]; exact e5) ?_
  refine n_iconst 1 i_140_17 rfl ?_
  refine x_iaddN i_140_18 ?_
  refine x_pi i_140_19 mb.ob pf_7_5.1 pf_7_5.2 ?_
  have a1 : ∀ q j, ¬ (q = o ∧ (j = 5 ∨ j = 7)) → ¬ (q = o + 1 ∧ j = m) → a_up (a_up (a_up M (o + 1) m (N p)) o 7 (N p)) o 5 (N (c5 + 1)) q j = M q j := fun q j h1 h2 => by rw [a_up_def, if_neg (by omega), a_up_def, if_neg (by omega), a_up_def, if_neg (by omega)]
  have a2 : a_up (a_up (a_up M (o + 1) m (N p)) o 7 (N p)) o 5 (N (c5 + 1)) (o + 1) m = N p := by rw [a_up_def, if_neg (by omega), a_up_def, if_neg (by omega), a_up_def, if_pos ⟨rfl, rfl⟩]
  have a3 : a_up (a_up (a_up M (o + 1) m (N p)) o 7 (N p)) o 5 (N (c5 + 1)) o 7 = N p := by rw [a_up_def, if_neg (by omega), a_up_def, if_pos ⟨rfl, rfl⟩]
  have a4 : a_up (a_up (a_up M (o + 1) m (N p)) o 7 (N p)) o 5 (N (c5 + 1)) o 5 = N (c5 + 1) := by rw [a_up_def, if_pos ⟨rfl, rfl⟩]
  generalize a_up (a_up (a_up M (o + 1) m (N p)) o 7 (N p)) o 5 (N (c5 + 1)) = M1 at a1 a2 a3 a4 ⊢
  have r1 : RC M1 156 n A := r.same (fun q j h1 h2 => a1 q j (by rcases mb with rfl | rfl <;> omega) (by rcases mb with rfl | rfl <;> omega))
  refine n_iconst 0 i_140_22 rfl ?_
  refine x_istore i_140_23 rfl rfl ?_
  refine c_140_L (E := fun _ x => bh n A x 6 0 (g x)) (M0 := M1) mb (fun M2 l5 g2 r2 hg2 fr2 he2 => ?_) 6 0 (g := g) (by omega) (Nat.zero_le _) r1 (fun x hx => (a1 _ _ (by omega) (by omega)).trans (hg x hx)) (fun _ _ _ => rfl) (fun x hx => rfl)
  refine x_aload_n i_140_74 rfl ?_
  refine x_aload_n i_140_75 rfl ?_
  refine x_vh (r := []) (lj := [some _, some _]) i_140_76 w_141 mb.ob [_] rfl rfl (Nat.le_of_ble_eq_true rfl) (Nat.le_of_ble_eq_true rfl) rfl ?_
  refine c_141 r2 mb (rt_i ?_)
  by_cases u : s_55 n A (ev n) &&& 48 = 48
  · rw [if_pos u]
    rw [if_pos u] at k
    refine x_ifF i_140_79 (by decide +kernel) ?_
    refine x_aload_n i_140_82 rfl ?_
    refine x_dup i_140_83 rfl ?_
    refine n_gi (x := c6) i_140_84 mb.ob gf_7_6.1 gf_7_6.2 ((fr2 _ _ (by omega)).trans ((a1 _ _ (by omega) (by omega)).trans e6)) ?_
    refine n_iconst 1 i_140_87 rfl ?_
    refine x_iaddN i_140_88 ?_
    refine x_pi i_140_89 mb.ob pf_7_6.1 pf_7_6.2 ?_
    refine x_vret i_140_92 rn_140 ?_
    have b1 : ∀ q j, ¬ (q = o ∧ j = 6) → a_up M2 o 6 (N (c6 + 1)) q j = M2 q j := fun q j h => by rw [a_up_def, if_neg h]
    refine k _ (r2.same (fun q j h1 h2 => b1 q j (by rcases mb with rfl | rfl <;> omega))) ?_ (fun j hj => ?_) ?_ ?_ ?_ (fun x hx => ?_) (fun q j h1 h2 h3 => ?_)
    · rw [b1 _ _ (by omega), fr2 _ _ (by omega)]; exact a2
    · rw [b1 _ _ (by omega), fr2 _ _ (by omega)]; exact a1 _ _ (by omega) (by omega)
    · rw [b1 _ _ (by omega), fr2 _ _ (by omega)]; exact a3
    · rw [b1 _ _ (by omega), fr2 _ _ (by omega)]; exact a4
    · rw [a_up_def, if_pos ⟨rfl, rfl⟩]
    · rw [b1 _ _ (by omega), hg2 x hx, he2 x hx]
    · rw [b1 _ _ (by omega), fr2 _ _ (by omega)]; exact a1 _ _ (by omega) (by omega)
  rw [if_neg u]
  rw [if_neg u] at k
  refine x_ifT i_140_79 (by decide +kernel) ?_
  refine x_vret i_140_92 rn_140 ?_
  refine k _ r2 ?_ (fun j hj => ?_) ?_ ?_ ?_ (fun x hx => ?_) (fun q j h1 h2 h3 => ?_)
  · rw [fr2 _ _ (by omega)]; exact a2
  · rw [fr2 _ _ (by omega)]; exact a1 _ _ (by omega) (by omega)
  · rw [fr2 _ _ (by omega)]; exact a3
  · rw [fr2 _ _ (by omega)]; exact a4
  · rw [fr2 _ _ (by omega), a1 _ _ (by omega) (by omega)]; exact e6
  · rw [hg2 x hx, he2 x hx]
  · rw [fr2 _ _ (by omega)]; exact a1 _ _ (by omega) (by omega)
end NOT
