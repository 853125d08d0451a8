/-! the methods of the class's hall as functions, by program -/
def s_49_4 (n : Nat) : Nat → HA → Nat → Nat → Nat → Nat
  | 0, _, _, _, _ => 0
  | d + 1, A, l1, l2, l3 => (if n ≤ l3 then l2 else (if ((l1 >>> l3) &&& 1) = 1 then (s_49_4 n d A l1 (l2 + (A 4 l3)) (l3 + 1)) else (s_49_4 n d A l1 l2 (l3 + 1))))
theorem c_49_4 {sc : a_Sc} {fd : Nat} {Q : Option Value → a_Hp → Prop} {b n : Nat} (hb : HB b) : ∀ (d : Nat) {M : a_Mm} {A : HA} {l1 l2 l3 : Nat} (r : RC M b n A) (hl1 : l1 ≤ 31) (hl2 : l2 ≤ 15) (hl3 : l3 ≤ 5) (i0 : l2 ≤ 3 * l3) (i1 : l3 ≤ n) (hm : n - l3 < d) (k : KP 15 Q (a_hp sc fd M) (s_49_4 n d A l1 l2 l3)), a_Ex 49 4 [some (.ref b), some (.int (N l1)), some (.int (N l2)), some (.int (N l3))] [] (a_hp sc fd M) Q := by
  intro d
  induction d with
  | zero => intro M A l1 l2 l3 r hl1 hl2 hl3 i0 i1 hm k; exact absurd hm (Nat.not_lt_zero _)
  | succ d ih =>
      intro M A l1 l2 l3 r hl1 hl2 hl3 i0 i1 hm k
      unfold s_49_4 at k
      have n5 := r.n5
      have n2 := r.n2
      refine x_iload_n i_49_4 rfl ?_
      refine x_aload_n i_49_5 rfl ?_
      refine n_gi (x := n) i_49_6 hb.ob gf_1_0.1 gf_1_0.2 r.nn ?_
      refine x_igeN (by omega) (by omega) i_49_9 ⟨fun g1 => ?_, fun g1 => ?_⟩
      · have k := kp g1 k
        refine x_iload_n i_49_36 rfl ?_
        refine x_iret i_49_37 rn_49 rfl ?_
        exact k (show l2 ≤ 15 by omega)
      · have k := kn g1 k
        refine x_iload_n i_49_12 rfl ?_
        refine x_iload_n i_49_13 rfl ?_
        refine x_ishrN (by omega) (by omega) i_49_14 ?_
        refine n_iconst 1 i_49_15 rfl ?_
        refine x_iandN i_49_16 ?_
        refine n_iconst 1 i_49_17 rfl ?_
        have q2 : l1 >>> l3 ≤ l1 := shr_le _ _
        have q3 : (l1 >>> l3) &&& 1 ≤ 1 := Nat.le_trans Nat.and_le_right (by omega)
        refine x_ineN (by omega) (by omega) i_49_18 ⟨fun g4 => ?_, fun g4 => ?_⟩
        · have k := kn g4 k
          refine n_iinc 1 i_49_30 rfl rfl rfl rfl ?_
          refine x_goto i_49_33 ?_
          exact ih r (by omega) (by omega) (by omega) (by omega) (by omega) (by omega) k
        · have k := kp g4 k
          refine x_iload_n i_49_21 rfl ?_
          refine x_aload_n i_49_22 rfl ?_
          refine x_gr i_49_23 hb.ob gr_1_9.1 gr_1_9.2 (hb.r9 _) ?_
          refine x_iload_n i_49_26 rfl ?_
          refine n_ld (x := A 4 l3) i_49_27 hb.a5 (by omega) (by omega) (r.a4 (by omega)) ?_
          refine x_iaddN i_49_28 ?_
          refine x_istore_n i_49_29 rfl rfl ?_
          refine n_iinc 1 i_49_30 rfl rfl rfl rfl ?_
          refine x_goto i_49_33 ?_
          have q5 : A 4 l3 ≤ 3 := r.w.b4 (by omega)
          exact ih r (by omega) (by omega) (by omega) (by omega) (by omega) (by omega) k
def s_49 (n : Nat) (A : HA) (l1 : Nat) : Nat :=
  (s_49_4 n (6) A l1 0 0)
theorem c_49 {sc : a_Sc} {fd : Nat} {M : a_Mm} {A : HA} {Q : Option Value → a_Hp → Prop} {b n : Nat} (hb : HB b) (r : RC M b n A) {l1 : Nat} (hl1 : l1 ≤ 31) (k : KP 15 Q (a_hp sc fd M) (s_49 n A l1)) : a_Ex 49 0 [some (.ref b), some (.int (N l1)), none, none] [] (a_hp sc fd M) Q := by
  unfold s_49 at k
  have n5 := r.n5
  have n2 := r.n2
  refine n_iconst 0 i_49_0 rfl ?_
  refine x_istore_n i_49_1 rfl rfl ?_
  refine n_iconst 0 i_49_2 rfl ?_
  refine x_istore_n i_49_3 rfl rfl ?_
  exact c_49_4 hb (6) r (by omega) (by omega) (by omega) (by omega) (by omega) (by omega) k
def s_55_4 (n : Nat) : Nat → HA → Nat → Nat → Nat → Nat
  | 0, _, _, _, _ => 0
  | d + 1, A, l1, l2, l3 => (if n ≤ l3 then l2 else (if ((l1 >>> l3) &&& 1) = 1 then (s_55_4 n d A l1 (l2 ||| (1 <<< (A 0 l3))) (l3 + 1)) else (s_55_4 n d A l1 l2 (l3 + 1))))
theorem c_55_4 {sc : a_Sc} {fd : Nat} {Q : Option Value → a_Hp → Prop} {b n : Nat} (hb : HB b) : ∀ (d : Nat) {M : a_Mm} {A : HA} {l1 l2 l3 : Nat} (r : RC M b n A) (hl1 : l1 ≤ 31) (hl2 : l2 ≤ 63) (hl3 : l3 ≤ 5) (i0 : l3 ≤ n) (hm : n - l3 < d) (k : KP 63 Q (a_hp sc fd M) (s_55_4 n d A l1 l2 l3)), a_Ex 55 4 [some (.ref b), some (.int (N l1)), some (.int (N l2)), some (.int (N l3))] [] (a_hp sc fd M) Q := by
  intro d
  induction d with
  | zero => intro M A l1 l2 l3 r hl1 hl2 hl3 i0 hm k; exact absurd hm (Nat.not_lt_zero _)
  | succ d ih =>
      intro M A l1 l2 l3 r hl1 hl2 hl3 i0 hm k
      unfold s_55_4 at k
      have n5 := r.n5
      have n2 := r.n2
      refine x_iload_n i_55_4 rfl ?_
      refine x_aload_n i_55_5 rfl ?_
      refine n_gi (x := n) i_55_6 hb.ob gf_1_0.1 gf_1_0.2 r.nn ?_
      refine x_igeN (by omega) (by omega) i_55_9 ⟨fun g1 => ?_, fun g1 => ?_⟩
      · have k := kp g1 k
        refine x_iload_n i_55_38 rfl ?_
        refine x_iret i_55_39 rn_55 rfl ?_
        exact k (show l2 ≤ 63 by omega)
      · have k := kn g1 k
        refine x_iload_n i_55_12 rfl ?_
        refine x_iload_n i_55_13 rfl ?_
        refine x_ishrN (by omega) (by omega) i_55_14 ?_
        refine n_iconst 1 i_55_15 rfl ?_
        refine x_iandN i_55_16 ?_
        refine n_iconst 1 i_55_17 rfl ?_
        have q2 : l1 >>> l3 ≤ l1 := shr_le _ _
        have q3 : (l1 >>> l3) &&& 1 ≤ 1 := Nat.le_trans Nat.and_le_right (by omega)
        refine x_ineN (by omega) (by omega) i_55_18 ⟨fun g4 => ?_, fun g4 => ?_⟩
        · have k := kn g4 k
          refine n_iinc 1 i_55_32 rfl rfl rfl rfl ?_
          refine x_goto i_55_35 ?_
          exact ih r (by omega) (by omega) (by omega) (by omega) (by omega) k
        · have k := kp g4 k
          refine x_iload_n i_55_21 rfl ?_
          refine n_iconst 1 i_55_22 rfl ?_
          refine x_aload_n i_55_23 rfl ?_
          refine x_gr i_55_24 hb.ob gr_1_5.1 gr_1_5.2 (hb.r5 _) ?_
          refine x_iload_n i_55_27 rfl ?_
          refine n_ld (x := A 0 l3) i_55_28 hb.a1 (by omega) (by omega) (r.a0 (by omega)) ?_
          have q5 : A 0 l3 ≤ 5 := r.w.b0 (by omega)
          refine x_ishlN (by omega) i_55_29 ?_
          refine x_iorN i_55_30 ?_
          refine x_istore_n i_55_31 rfl rfl ?_
          refine n_iinc 1 i_55_32 rfl rfl rfl rfl ?_
          refine x_goto i_55_35 ?_
          have q6 : 1 <<< (A 0 l3) ≤ 32 := shl_le 5 (by omega)
          have q7 : l2 ||| (1 <<< (A 0 l3)) ≤ 63 := or_le 6 (by omega) (by omega)
          exact ih r (by omega) (by omega) (by omega) (by omega) (by omega) k
def s_55 (n : Nat) (A : HA) (l1 : Nat) : Nat :=
  (s_55_4 n (6) A l1 0 0)
theorem c_55 {sc : a_Sc} {fd : Nat} {M : a_Mm} {A : HA} {Q : Option Value → a_Hp → Prop} {b n : Nat} (hb : HB b) (r : RC M b n A) {l1 : Nat} (hl1 : l1 ≤ 31) (k : KP 63 Q (a_hp sc fd M) (s_55 n A l1)) : a_Ex 55 0 [some (.ref b), some (.int (N l1)), none, none] [] (a_hp sc fd M) Q := by
  unfold s_55 at k
  have n5 := r.n5
  have n2 := r.n2
  refine n_iconst 0 i_55_0 rfl ?_
  refine x_istore_n i_55_1 rfl rfl ?_
  refine n_iconst 0 i_55_2 rfl ?_
  refine x_istore_n i_55_3 rfl rfl ?_
  exact c_55_4 hb (6) r (by omega) (by omega) (by omega) (by omega) (by omega) k
def s_65_4 (n : Nat) : Nat → HA → Nat → Nat → Nat → Nat
  | 0, _, _, _, _ => 0
  | d + 1, A, l1, l2, l3 => (if n ≤ l3 then l2 else (if ((l1 >>> (A 0 l3)) &&& 1) = 1 then (s_65_4 n d A l1 (l2 ||| (1 <<< l3)) (l3 + 1)) else (s_65_4 n d A l1 l2 (l3 + 1))))
theorem c_65_4 {sc : a_Sc} {fd : Nat} {Q : Option Value → a_Hp → Prop} {b n : Nat} (hb : HB b) : ∀ (d : Nat) {M : a_Mm} {A : HA} {l1 l2 l3 : Nat} (r : RC M b n A) (hl1 : l1 ≤ 63) (hl2 : l2 ≤ 31) (hl3 : l3 ≤ 5) (i0 : l3 ≤ n) (hm : n - l3 < d) (k : KP 31 Q (a_hp sc fd M) (s_65_4 n d A l1 l2 l3)), a_Ex 65 4 [some (.ref b), some (.int (N l1)), some (.int (N l2)), some (.int (N l3))] [] (a_hp sc fd M) Q := by
  intro d
  induction d with
  | zero => intro M A l1 l2 l3 r hl1 hl2 hl3 i0 hm k; exact absurd hm (Nat.not_lt_zero _)
  | succ d ih =>
      intro M A l1 l2 l3 r hl1 hl2 hl3 i0 hm k
      unfold s_65_4 at k
      have n5 := r.n5
      have n2 := r.n2
      refine x_iload_n i_65_4 rfl ?_
      refine x_aload_n i_65_5 rfl ?_
      refine n_gi (x := n) i_65_6 hb.ob gf_1_0.1 gf_1_0.2 r.nn ?_
      refine x_igeN (by omega) (by omega) i_65_9 ⟨fun g1 => ?_, fun g1 => ?_⟩
      · have k := kp g1 k
        refine x_iload_n i_65_38 rfl ?_
        refine x_iret i_65_39 rn_65 rfl ?_
        exact k (show l2 ≤ 31 by omega)
      · have k := kn g1 k
        refine x_iload_n i_65_12 rfl ?_
        refine x_aload_n i_65_13 rfl ?_
        refine x_gr i_65_14 hb.ob gr_1_5.1 gr_1_5.2 (hb.r5 _) ?_
        refine x_iload_n i_65_17 rfl ?_
        refine n_ld (x := A 0 l3) i_65_18 hb.a1 (by omega) (by omega) (r.a0 (by omega)) ?_
        have q2 : A 0 l3 ≤ 5 := r.w.b0 (by omega)
        refine x_ishrN (by omega) (by omega) i_65_19 ?_
        refine n_iconst 1 i_65_20 rfl ?_
        refine x_iandN i_65_21 ?_
        refine n_iconst 1 i_65_22 rfl ?_
        have q3 : l1 >>> (A 0 l3) ≤ l1 := shr_le _ _
        have q4 : (l1 >>> (A 0 l3)) &&& 1 ≤ 1 := Nat.le_trans Nat.and_le_right (by omega)
        refine x_ineN (by omega) (by omega) i_65_23 ⟨fun g5 => ?_, fun g5 => ?_⟩
        · have k := kn g5 k
          refine n_iinc 1 i_65_32 rfl rfl rfl rfl ?_
          refine x_goto i_65_35 ?_
          exact ih r (by omega) (by omega) (by omega) (by omega) (by omega) k
        · have k := kp g5 k
          refine x_iload_n i_65_26 rfl ?_
          refine n_iconst 1 i_65_27 rfl ?_
          refine x_iload_n i_65_28 rfl ?_
          refine x_ishlN (by omega) i_65_29 ?_
          refine x_iorN i_65_30 ?_
          refine x_istore_n i_65_31 rfl rfl ?_
          refine n_iinc 1 i_65_32 rfl rfl rfl rfl ?_
          refine x_goto i_65_35 ?_
          have q6 : 1 <<< l3 ≤ 16 := shl_le 4 (by omega)
          have q7 : l2 ||| (1 <<< l3) ≤ 31 := or_le 5 (by omega) (by omega)
          exact ih r (by omega) (by omega) (by omega) (by omega) (by omega) k
def s_65 (n : Nat) (A : HA) (l1 : Nat) : Nat :=
  (s_65_4 n (6) A l1 0 0)
theorem c_65 {sc : a_Sc} {fd : Nat} {M : a_Mm} {A : HA} {Q : Option Value → a_Hp → Prop} {b n : Nat} (hb : HB b) (r : RC M b n A) {l1 : Nat} (hl1 : l1 ≤ 63) (k : KP 31 Q (a_hp sc fd M) (s_65 n A l1)) : a_Ex 65 0 [some (.ref b), some (.int (N l1)), none, none] [] (a_hp sc fd M) Q := by
  unfold s_65 at k
  have n5 := r.n5
  have n2 := r.n2
  refine n_iconst 0 i_65_0 rfl ?_
  refine x_istore_n i_65_1 rfl rfl ?_
  refine n_iconst 0 i_65_2 rfl ?_
  refine x_istore_n i_65_3 rfl rfl ?_
  exact c_65_4 hb (6) r (by omega) (by omega) (by omega) (by omega) (by omega) k
def s_69_4 (n : Nat) : Nat → HA → Nat → Nat → Nat → Nat
  | 0, _, _, _, _ => 0
  | d + 1, A, l1, l2, l3 => (if n ≤ l3 then l2 else (if (A 1 l3) = l1 then (s_69_4 n d A l1 (l2 ||| (1 <<< l3)) (l3 + 1)) else (s_69_4 n d A l1 l2 (l3 + 1))))
theorem c_69_4 {sc : a_Sc} {fd : Nat} {Q : Option Value → a_Hp → Prop} {b n : Nat} (hb : HB b) : ∀ (d : Nat) {M : a_Mm} {A : HA} {l1 l2 l3 : Nat} (r : RC M b n A) (hl1 : l1 ≤ 4) (hl2 : l2 ≤ 31) (hl3 : l3 ≤ 5) (i0 : l3 ≤ n) (hm : n - l3 < d) (k : KP 31 Q (a_hp sc fd M) (s_69_4 n d A l1 l2 l3)), a_Ex 69 4 [some (.ref b), some (.int (N l1)), some (.int (N l2)), some (.int (N l3))] [] (a_hp sc fd M) Q := by
  intro d
  induction d with
  | zero => intro M A l1 l2 l3 r hl1 hl2 hl3 i0 hm k; exact absurd hm (Nat.not_lt_zero _)
  | succ d ih =>
      intro M A l1 l2 l3 r hl1 hl2 hl3 i0 hm k
      unfold s_69_4 at k
      have n5 := r.n5
      have n2 := r.n2
      refine x_iload_n i_69_4 rfl ?_
      refine x_aload_n i_69_5 rfl ?_
      refine n_gi (x := n) i_69_6 hb.ob gf_1_0.1 gf_1_0.2 r.nn ?_
      refine x_igeN (by omega) (by omega) i_69_9 ⟨fun g1 => ?_, fun g1 => ?_⟩
      · have k := kp g1 k
        refine x_iload_n i_69_34 rfl ?_
        refine x_iret i_69_35 rn_69 rfl ?_
        exact k (show l2 ≤ 31 by omega)
      · have k := kn g1 k
        refine x_aload_n i_69_12 rfl ?_
        refine x_gr i_69_13 hb.ob gr_1_6.1 gr_1_6.2 (hb.r6 _) ?_
        refine x_iload_n i_69_16 rfl ?_
        refine n_ld (x := A 1 l3) i_69_17 hb.a2 (by omega) (by omega) (r.a1 (by omega)) ?_
        refine x_iload_n i_69_18 rfl ?_
        have q2 : A 1 l3 ≤ 2 := r.w.b1 (by omega)
        refine x_ineN (by omega) (by omega) i_69_19 ⟨fun g3 => ?_, fun g3 => ?_⟩
        · have k := kn g3 k
          refine n_iinc 1 i_69_28 rfl rfl rfl rfl ?_
          refine x_goto i_69_31 ?_
          exact ih r (by omega) (by omega) (by omega) (by omega) (by omega) k
        · have k := kp g3 k
          refine x_iload_n i_69_22 rfl ?_
          refine n_iconst 1 i_69_23 rfl ?_
          refine x_iload_n i_69_24 rfl ?_
          refine x_ishlN (by omega) i_69_25 ?_
          refine x_iorN i_69_26 ?_
          refine x_istore_n i_69_27 rfl rfl ?_
          refine n_iinc 1 i_69_28 rfl rfl rfl rfl ?_
          refine x_goto i_69_31 ?_
          have q4 : 1 <<< l3 ≤ 16 := shl_le 4 (by omega)
          have q5 : l2 ||| (1 <<< l3) ≤ 31 := or_le 5 (by omega) (by omega)
          exact ih r (by omega) (by omega) (by omega) (by omega) (by omega) k
def s_69 (n : Nat) (A : HA) (l1 : Nat) : Nat :=
  (s_69_4 n (6) A l1 0 0)
theorem c_69 {sc : a_Sc} {fd : Nat} {M : a_Mm} {A : HA} {Q : Option Value → a_Hp → Prop} {b n : Nat} (hb : HB b) (r : RC M b n A) {l1 : Nat} (hl1 : l1 ≤ 4) (k : KP 31 Q (a_hp sc fd M) (s_69 n A l1)) : a_Ex 69 0 [some (.ref b), some (.int (N l1)), none, none] [] (a_hp sc fd M) Q := by
  unfold s_69 at k
  have n5 := r.n5
  have n2 := r.n2
  refine n_iconst 0 i_69_0 rfl ?_
  refine x_istore_n i_69_1 rfl rfl ?_
  refine n_iconst 0 i_69_2 rfl ?_
  refine x_istore_n i_69_3 rfl rfl ?_
  exact c_69_4 hb (6) r (by omega) (by omega) (by omega) (by omega) (by omega) k
def s_74_4 (n : Nat) : Nat → HA → Nat → Nat → Nat → Nat
  | 0, _, _, _, _ => 0
  | d + 1, A, l1, l2, l3 => (if n ≤ l3 then l2 else (if (A 2 l3) = l1 then (s_74_4 n d A l1 (l2 ||| (1 <<< l3)) (l3 + 1)) else (s_74_4 n d A l1 l2 (l3 + 1))))
theorem c_74_4 {sc : a_Sc} {fd : Nat} {Q : Option Value → a_Hp → Prop} {b n : Nat} (hb : HB b) : ∀ (d : Nat) {M : a_Mm} {A : HA} {l1 l2 l3 : Nat} (r : RC M b n A) (hl1 : l1 ≤ 4) (hl2 : l2 ≤ 31) (hl3 : l3 ≤ 5) (i0 : l3 ≤ n) (hm : n - l3 < d) (k : KP 31 Q (a_hp sc fd M) (s_74_4 n d A l1 l2 l3)), a_Ex 74 4 [some (.ref b), some (.int (N l1)), some (.int (N l2)), some (.int (N l3))] [] (a_hp sc fd M) Q := by
  intro d
  induction d with
  | zero => intro M A l1 l2 l3 r hl1 hl2 hl3 i0 hm k; exact absurd hm (Nat.not_lt_zero _)
  | succ d ih =>
      intro M A l1 l2 l3 r hl1 hl2 hl3 i0 hm k
      unfold s_74_4 at k
      have n5 := r.n5
      have n2 := r.n2
      refine x_iload_n i_74_4 rfl ?_
      refine x_aload_n i_74_5 rfl ?_
      refine n_gi (x := n) i_74_6 hb.ob gf_1_0.1 gf_1_0.2 r.nn ?_
      refine x_igeN (by omega) (by omega) i_74_9 ⟨fun g1 => ?_, fun g1 => ?_⟩
      · have k := kp g1 k
        refine x_iload_n i_74_34 rfl ?_
        refine x_iret i_74_35 rn_74 rfl ?_
        exact k (show l2 ≤ 31 by omega)
      · have k := kn g1 k
        refine x_aload_n i_74_12 rfl ?_
        refine x_gr i_74_13 hb.ob gr_1_7.1 gr_1_7.2 (hb.r7 _) ?_
        refine x_iload_n i_74_16 rfl ?_
        refine n_ld (x := A 2 l3) i_74_17 hb.a3 (by omega) (by omega) (r.a2 (by omega)) ?_
        refine x_iload_n i_74_18 rfl ?_
        have q2 : A 2 l3 ≤ 4 := r.w.b2 (by omega)
        refine x_ineN (by omega) (by omega) i_74_19 ⟨fun g3 => ?_, fun g3 => ?_⟩
        · have k := kn g3 k
          refine n_iinc 1 i_74_28 rfl rfl rfl rfl ?_
          refine x_goto i_74_31 ?_
          exact ih r (by omega) (by omega) (by omega) (by omega) (by omega) k
        · have k := kp g3 k
          refine x_iload_n i_74_22 rfl ?_
          refine n_iconst 1 i_74_23 rfl ?_
          refine x_iload_n i_74_24 rfl ?_
          refine x_ishlN (by omega) i_74_25 ?_
          refine x_iorN i_74_26 ?_
          refine x_istore_n i_74_27 rfl rfl ?_
          refine n_iinc 1 i_74_28 rfl rfl rfl rfl ?_
          refine x_goto i_74_31 ?_
          have q4 : 1 <<< l3 ≤ 16 := shl_le 4 (by omega)
          have q5 : l2 ||| (1 <<< l3) ≤ 31 := or_le 5 (by omega) (by omega)
          exact ih r (by omega) (by omega) (by omega) (by omega) (by omega) k
def s_74 (n : Nat) (A : HA) (l1 : Nat) : Nat :=
  (s_74_4 n (6) A l1 0 0)
theorem c_74 {sc : a_Sc} {fd : Nat} {M : a_Mm} {A : HA} {Q : Option Value → a_Hp → Prop} {b n : Nat} (hb : HB b) (r : RC M b n A) {l1 : Nat} (hl1 : l1 ≤ 4) (k : KP 31 Q (a_hp sc fd M) (s_74 n A l1)) : a_Ex 74 0 [some (.ref b), some (.int (N l1)), none, none] [] (a_hp sc fd M) Q := by
  unfold s_74 at k
  have n5 := r.n5
  have n2 := r.n2
  refine n_iconst 0 i_74_0 rfl ?_
  refine x_istore_n i_74_1 rfl rfl ?_
  refine n_iconst 0 i_74_2 rfl ?_
  refine x_istore_n i_74_3 rfl rfl ?_
  exact c_74_4 hb (6) r (by omega) (by omega) (by omega) (by omega) (by omega) k
def s_75_2 (n : Nat) : Nat → HA → Nat → Nat → Nat
  | 0, _, _, _ => 0
  | d + 1, A, l1, l2 => (if n ≤ l2 then 4294967295 else (if ((l1 >>> l2) &&& 1) = 1 then l2 else (s_75_2 n d A l1 (l2 + 1))))
theorem c_75_2 {sc : a_Sc} {fd : Nat} {Q : Option Value → a_Hp → Prop} {b n : Nat} (hb : HB b) : ∀ (d : Nat) {M : a_Mm} {A : HA} {l1 l2 : Nat} (r : RC M b n A) (hl1 : l1 ≤ 31) (hl2 : l2 ≤ 5) (i0 : l2 ≤ n) (hm : n - l2 < d) (k : KP 4294967295 Q (a_hp sc fd M) (s_75_2 n d A l1 l2)), a_Ex 75 2 [some (.ref b), some (.int (N l1)), some (.int (N l2))] [] (a_hp sc fd M) Q := by
  intro d
  induction d with
  | zero => intro M A l1 l2 r hl1 hl2 i0 hm k; exact absurd hm (Nat.not_lt_zero _)
  | succ d ih =>
      intro M A l1 l2 r hl1 hl2 i0 hm k
      unfold s_75_2 at k
      have n5 := r.n5
      have n2 := r.n2
      refine x_iload_n i_75_2 rfl ?_
      refine x_aload_n i_75_3 rfl ?_
      refine n_gi (x := n) i_75_4 hb.ob gf_1_0.1 gf_1_0.2 r.nn ?_
      refine x_igeN (by omega) (by omega) i_75_7 ⟨fun g1 => ?_, fun g1 => ?_⟩
      · have k := kp g1 k
        refine n_iconst 4294967295 i_75_27 rfl ?_
        refine x_iret i_75_28 rn_75 rfl ?_
        exact k (show 4294967295 ≤ 4294967295 by omega)
      · have k := kn g1 k
        refine x_iload_n i_75_10 rfl ?_
        refine x_iload_n i_75_11 rfl ?_
        refine x_ishrN (by omega) (by omega) i_75_12 ?_
        refine n_iconst 1 i_75_13 rfl ?_
        refine x_iandN i_75_14 ?_
        refine n_iconst 1 i_75_15 rfl ?_
        have q2 : l1 >>> l2 ≤ l1 := shr_le _ _
        have q3 : (l1 >>> l2) &&& 1 ≤ 1 := Nat.le_trans Nat.and_le_right (by omega)
        refine x_ineN (by omega) (by omega) i_75_16 ⟨fun g4 => ?_, fun g4 => ?_⟩
        · have k := kn g4 k
          refine n_iinc 1 i_75_21 rfl rfl rfl rfl ?_
          refine x_goto i_75_24 ?_
          exact ih r (by omega) (by omega) (by omega) (by omega) k
        · have k := kp g4 k
          refine x_iload_n i_75_19 rfl ?_
          refine x_iret i_75_20 rn_75 rfl ?_
          exact k (show l2 ≤ 4294967295 by omega)
def s_75 (n : Nat) (A : HA) (l1 : Nat) : Nat :=
  (s_75_2 n (6) A l1 0)
theorem c_75 {sc : a_Sc} {fd : Nat} {M : a_Mm} {A : HA} {Q : Option Value → a_Hp → Prop} {b n : Nat} (hb : HB b) (r : RC M b n A) {l1 : Nat} (hl1 : l1 ≤ 31) (k : KP 4294967295 Q (a_hp sc fd M) (s_75 n A l1)) : a_Ex 75 0 [some (.ref b), some (.int (N l1)), none] [] (a_hp sc fd M) Q := by
  unfold s_75 at k
  have n5 := r.n5
  have n2 := r.n2
  refine n_iconst 0 i_75_0 rfl ?_
  refine x_istore_n i_75_1 rfl rfl ?_
  exact c_75_2 hb (6) r (by omega) (by omega) (by omega) (by omega) k
def s_84_7 (n : Nat) : Nat → HA → Nat → Nat → Nat → Nat
  | 0, _, _, _, _ => 0
  | d + 1, A, l1, l2, l3 => (if n ≤ l3 then l2 else (if ((l1 >>> l3) &&& 1) = 1 then (s_84_7 n d A l1 (l2 &&& (A 5 l3)) (l3 + 1)) else (s_84_7 n d A l1 l2 (l3 + 1))))
theorem c_84_7 {sc : a_Sc} {fd : Nat} {Q : Option Value → a_Hp → Prop} {b n : Nat} (hb : HB b) : ∀ (d : Nat) {M : a_Mm} {A : HA} {l1 l2 l3 : Nat} (r : RC M b n A) (hl1 : l1 ≤ 31) (hl2 : l2 ≤ 31) (hl3 : l3 ≤ 5) (i0 : l3 ≤ n) (hm : n - l3 < d) (k : KP 31 Q (a_hp sc fd M) (s_84_7 n d A l1 l2 l3)), a_Ex 84 7 [some (.ref b), some (.int (N l1)), some (.int (N l2)), some (.int (N l3))] [] (a_hp sc fd M) Q := by
  intro d
  induction d with
  | zero => intro M A l1 l2 l3 r hl1 hl2 hl3 i0 hm k; exact absurd hm (Nat.not_lt_zero _)
  | succ d ih =>
      intro M A l1 l2 l3 r hl1 hl2 hl3 i0 hm k
      unfold s_84_7 at k
      have n5 := r.n5
      have n2 := r.n2
      refine x_iload_n i_84_7 rfl ?_
      refine x_aload_n i_84_8 rfl ?_
      refine n_gi (x := n) i_84_9 hb.ob gf_1_0.1 gf_1_0.2 r.nn ?_
      refine x_igeN (by omega) (by omega) i_84_12 ⟨fun g1 => ?_, fun g1 => ?_⟩
      · have k := kp g1 k
        refine x_iload_n i_84_39 rfl ?_
        refine x_iret i_84_40 rn_84 rfl ?_
        exact k (show l2 ≤ 31 by omega)
      · have k := kn g1 k
        refine x_iload_n i_84_15 rfl ?_
        refine x_iload_n i_84_16 rfl ?_
        refine x_ishrN (by omega) (by omega) i_84_17 ?_
        refine n_iconst 1 i_84_18 rfl ?_
        refine x_iandN i_84_19 ?_
        refine n_iconst 1 i_84_20 rfl ?_
        have q2 : l1 >>> l3 ≤ l1 := shr_le _ _
        have q3 : (l1 >>> l3) &&& 1 ≤ 1 := Nat.le_trans Nat.and_le_right (by omega)
        refine x_ineN (by omega) (by omega) i_84_21 ⟨fun g4 => ?_, fun g4 => ?_⟩
        · have k := kn g4 k
          refine n_iinc 1 i_84_33 rfl rfl rfl rfl ?_
          refine x_goto i_84_36 ?_
          exact ih r (by omega) (by omega) (by omega) (by omega) (by omega) k
        · have k := kp g4 k
          refine x_iload_n i_84_24 rfl ?_
          refine x_aload_n i_84_25 rfl ?_
          refine x_gr i_84_26 hb.ob gr_1_10.1 gr_1_10.2 (hb.r10 _) ?_
          refine x_iload_n i_84_29 rfl ?_
          refine n_ld (x := A 5 l3) i_84_30 hb.a6 (by omega) (by omega) (r.a5 (by omega)) ?_
          refine x_iandN i_84_31 ?_
          refine x_istore_n i_84_32 rfl rfl ?_
          refine n_iinc 1 i_84_33 rfl rfl rfl rfl ?_
          refine x_goto i_84_36 ?_
          have q5 : A 5 l3 ≤ 31 := r.w.b5 (by omega)
          have q6 : l2 &&& (A 5 l3) ≤ 31 := Nat.le_trans Nat.and_le_left (by omega)
          exact ih r (by omega) (by omega) (by omega) (by omega) (by omega) k
def s_84 (n : Nat) (A : HA) (l1 : Nat) : Nat :=
  (s_84_7 n (6) A l1 (ev n) 0)
theorem c_84 {sc : a_Sc} {fd : Nat} {M : a_Mm} {A : HA} {Q : Option Value → a_Hp → Prop} {b n : Nat} (hb : HB b) (r : RC M b n A) {l1 : Nat} (hl1 : l1 ≤ 31) (k : KP 31 Q (a_hp sc fd M) (s_84 n A l1)) : a_Ex 84 0 [some (.ref b), some (.int (N l1)), none, none] [] (a_hp sc fd M) Q := by
  unfold s_84 at k
  have n5 := r.n5
  have n2 := r.n2
  refine x_aload_n i_84_0 rfl ?_
  refine x_vh (r := []) (lj := [some _]) i_84_1 w_47 hb.ob [] rfl rfl (Nat.le_of_ble_eq_true rfl) (Nat.le_of_ble_eq_true rfl) rfl ?_
  refine c_47 hb r   (fun q1 => rt_i ?_)
  refine x_istore_n i_84_4 rfl rfl ?_
  refine n_iconst 0 i_84_5 rfl ?_
  refine x_istore_n i_84_6 rfl rfl ?_
  exact c_84_7 hb (6) r (by omega) (by omega) (by omega) (by omega) (by omega) k
def s_48 (n : Nat) (A : HA) : HA :=
  ((a_up (a_up A 6 3 (((s_49 n A (ev n)) / 2) + 1)) 6 4 (((s_49 n A (ev n)) / 2) + 1)))
theorem c_48 {sc : a_Sc} {fd : Nat} {M : a_Mm} {A : HA} {Q : Option Value → a_Hp → Prop} {b n : Nat} (hb : HB b) (r : RC M b n A) (k : KV Q sc fd M b n (s_48 n A)) : a_Ex 48 0 [some (.ref b), none] [] (a_hp sc fd M) Q := by
  unfold s_48 at k
  have n5 := r.n5
  have n2 := r.n2
  refine x_aload_n i_48_0 rfl ?_
  refine x_aload_n i_48_1 rfl ?_
  refine x_vh (r := [_]) (lj := [some _]) i_48_2 w_47 hb.ob [] rfl rfl (Nat.le_of_ble_eq_true rfl) (Nat.le_of_ble_eq_true rfl) rfl ?_
  refine c_47 hb r   (fun q1 => rt_i ?_)
  refine x_vh (r := []) (lj := [some _, some _, none, none]) i_48_5 w_49 hb.ob [_] rfl rfl (Nat.le_of_ble_eq_true rfl) (Nat.le_of_ble_eq_true rfl) rfl ?_
  refine c_49 hb r (by omega)  (fun q2 => rt_i ?_)
  refine n_iconst 2 i_48_8 rfl ?_
  refine x_idivN (by omega) (by omega) (by omega) i_48_9 ?_
  refine n_iconst 1 i_48_10 rfl ?_
  refine x_iaddN i_48_11 ?_
  refine x_istore_n i_48_12 rfl rfl ?_
  refine x_aload_n i_48_13 rfl ?_
  refine x_iload_n i_48_14 rfl ?_
  refine n_pC i_48_15 hb r pf_1_3 (by omega) (by unfold okf; omega) (fun M3 r3 f3 => ?_)
  refine x_aload_n i_48_18 rfl ?_
  refine x_iload_n i_48_19 rfl ?_
  refine n_pC i_48_20 hb r3 pf_1_4 (by omega) (by unfold okf; omega) (fun M4 r4 f4 => ?_)
  refine x_vret i_48_23 rn_48 ?_
  exact k _ r4 (f3.trans f4)
def s_76 (n : Nat) (A : HA) (l1 : Nat) : Nat :=
  (if ((s_55 n A l1) &&& 15) = 0 then 1 else 0)
theorem c_76 {sc : a_Sc} {fd : Nat} {M : a_Mm} {A : HA} {Q : Option Value → a_Hp → Prop} {b n : Nat} (hb : HB b) (r : RC M b n A) {l1 : Nat} (hl1 : l1 ≤ 31) (k : KP 1 Q (a_hp sc fd M) (s_76 n A l1)) : a_Ex 76 0 [some (.ref b), some (.int (N l1))] [] (a_hp sc fd M) Q := by
  unfold s_76 at k
  have n5 := r.n5
  have n2 := r.n2
  refine x_aload_n i_76_0 rfl ?_
  refine x_iload_n i_76_1 rfl ?_
  refine x_vh (r := []) (lj := [some _, some _, none, none]) i_76_2 w_55 hb.ob [_] rfl rfl (Nat.le_of_ble_eq_true rfl) (Nat.le_of_ble_eq_true rfl) rfl ?_
  refine c_55 hb r (by omega)  (fun q1 => rt_i ?_)
  refine n_bipush 15 i_76_5 rfl ?_
  refine x_iandN i_76_7 ?_
  have q2 : (s_55 n A l1) &&& 15 ≤ 15 := Nat.le_trans Nat.and_le_right (by omega)
  refine x_zneN (by omega) i_76_8 ⟨fun g3 => ?_, fun g3 => ?_⟩
  · have k := kn g3 k
    refine n_iconst 0 i_76_15 rfl ?_
    refine x_iret i_76_16 rn_76 (by decide +kernel) ?_
    exact k (show 0 ≤ 1 by omega)
  · have k := kp g3 k
    refine n_iconst 1 i_76_11 rfl ?_
    refine x_goto i_76_12 ?_
    refine x_iret i_76_16 rn_76 (by decide +kernel) ?_
    exact k (show 1 ≤ 1 by omega)
def s_77 (n : Nat) (A : HA) (l1 : Nat) (l2 : Nat) : Nat :=
  (if ((s_55 n A l1) &&& 16) = 0 then (if ((s_55 n A l1) &&& 32) = 0 then (if ((s_55 n A l1) &&& 4) = 0 then (if (A 6 1) = 0 then 0 else (if (A 6 1) = 0 then (if (A 6 1) = 0 then (if ((s_55 n A l2) &&& 3) = 0 then 1 else 2) else (if ((s_55 n A l2) &&& 2) = 0 then 1 else 2)) else (if (s_49 n A (l1 &&& (s_65 n A 11))) < (A 6 4) then 4294967295 else (if ((s_55 n A l2) &&& 3) = 0 then 0 else 3)))) else (if (A 6 1) = 0 then (if (A 6 1) = 0 then (if (A 6 1) = 0 then (if ((s_55 n A l2) &&& 3) = 0 then 1 else 2) else (if ((s_55 n A l2) &&& 2) = 0 then 1 else 2)) else (if (s_49 n A (l1 &&& (s_65 n A 6))) < (A 6 3) then (if (s_49 n A (l1 &&& (s_65 n A 11))) < (A 6 4) then 4294967295 else (if ((s_55 n A l2) &&& 3) = 0 then 0 else 3)) else (if (A 6 1) = 0 then (if ((s_55 n A l2) &&& 3) = 0 then 1 else 2) else (if ((s_55 n A l2) &&& 2) = 0 then 1 else 2)))) else (if (A 6 1) = 0 then (if (A 6 1) = 0 then (if ((s_55 n A l2) &&& 3) = 0 then 1 else 2) else (if ((s_55 n A l2) &&& 2) = 0 then 1 else 2)) else (if (s_49 n A (l1 &&& (s_65 n A 6))) < (A 6 3) then (if (s_49 n A (l1 &&& (s_65 n A 11))) < (A 6 4) then 4294967295 else (if ((s_55 n A l2) &&& 3) = 0 then 0 else 3)) else (if (A 6 1) = 0 then (if ((s_55 n A l2) &&& 3) = 0 then 1 else 2) else (if ((s_55 n A l2) &&& 2) = 0 then 1 else 2)))))) else 0) else 1)
theorem c_77 {sc : a_Sc} {fd : Nat} {M : a_Mm} {A : HA} {Q : Option Value → a_Hp → Prop} {b n : Nat} (hb : HB b) (r : RC M b n A) {l1 l2 : Nat} (hl1 : l1 ≤ 31) (hl2 : l2 ≤ 31) (k : KP 4294967295 Q (a_hp sc fd M) (s_77 n A l1 l2)) : a_Ex 77 0 [some (.ref b), some (.int (N l1)), some (.int (N l2)), none, none] [] (a_hp sc fd M) Q := by
  unfold s_77 at k
  have n5 := r.n5
  have n2 := r.n2
  refine x_aload_n i_77_0 rfl ?_
  refine x_iload_n i_77_1 rfl ?_
  refine x_vh (r := []) (lj := [some _, some _, none, none]) i_77_2 w_55 hb.ob [_] rfl rfl (Nat.le_of_ble_eq_true rfl) (Nat.le_of_ble_eq_true rfl) rfl ?_
  refine c_55 hb r (by omega)  (fun q1 => rt_i ?_)
  refine x_istore_n i_77_5 rfl rfl ?_
  refine x_iload_n i_77_6 rfl ?_
  refine n_bipush 16 i_77_7 rfl ?_
  refine x_iandN i_77_9 ?_
  have q2 : (s_55 n A l1) &&& 16 ≤ 16 := Nat.le_trans Nat.and_le_right (by omega)
  refine x_zeqN (by omega) i_77_10 ⟨fun g3 => ?_, fun g3 => ?_⟩
  · have k := kp g3 k
    refine x_iload_n i_77_15 rfl ?_
    refine n_bipush 32 i_77_16 rfl ?_
    refine x_iandN i_77_18 ?_
    have q4 : (s_55 n A l1) &&& 32 ≤ 32 := Nat.le_trans Nat.and_le_right (by omega)
    refine x_zeqN (by omega) i_77_19 ⟨fun g5 => ?_, fun g5 => ?_⟩
    · have k := kp g5 k
      refine x_iload_n i_77_24 rfl ?_
      refine n_iconst 4 i_77_25 rfl ?_
      refine x_iandN i_77_26 ?_
      have q6 : (s_55 n A l1) &&& 4 ≤ 4 := Nat.le_trans Nat.and_le_right (by omega)
      refine x_zeqN (by omega) i_77_27 ⟨fun g7 => ?_, fun g7 => ?_⟩
      · have k := kp g7 k
        refine n_iconst 0 i_77_34 rfl ?_
        refine x_istore i_77_35 rfl rfl ?_
        refine x_aload_n i_77_37 rfl ?_
        refine n_gi (x := A 6 1) i_77_38 hb.ob gf_1_1.1 gf_1_1.2 r.f1 ?_
        have q8 : A 6 1 ≤ 1 := r.w.f1
        refine x_zneN (by omega) i_77_41 ⟨fun g9 => ?_, fun g9 => ?_⟩
        · have k := kn g9 k
          refine x_aload_n i_77_51 rfl ?_
          refine n_gi (x := A 6 1) i_77_52 hb.ob gf_1_1.1 gf_1_1.2 r.f1 ?_
          refine x_zeqN (by omega) i_77_55 ⟨fun g10 => ?_, fun g10 => ?_⟩
          · have k := kp g10 k
            refine x_aload_n i_77_82 rfl ?_
            refine x_iload_n i_77_83 rfl ?_
            refine x_vh (r := []) (lj := [some _, some _, none, none]) i_77_84 w_55 hb.ob [_] rfl rfl (Nat.le_of_ble_eq_true rfl) (Nat.le_of_ble_eq_true rfl) rfl ?_
            refine c_55 hb r (by omega)  (fun q11 => rt_i ?_)
            refine x_aload_n i_77_87 rfl ?_
            refine x_vh (r := [_]) (lj := [some _]) i_77_88 w_78 hb.ob [] rfl rfl (Nat.le_of_ble_eq_true rfl) (Nat.le_of_ble_eq_true rfl) rfl ?_
            refine x_aload_n i_78_0 rfl ?_
            refine n_gi (x := A 6 1) i_78_1 hb.ob gf_1_1.1 gf_1_1.2 r.f1 ?_
            refine x_zneN (by omega) i_78_4 ⟨fun g12 => ?_, fun g12 => ?_⟩
            · have k := kn g12 k
              refine n_iconst 2 i_78_11 rfl ?_
              refine x_iretI i_78_12 rn_78 rfl ?_
              refine x_iandN i_77_91 ?_
              have q13 : (s_55 n A l2) &&& 2 ≤ 2 := Nat.le_trans Nat.and_le_right (by omega)
              refine x_zeqN (by omega) i_77_92 ⟨fun g14 => ?_, fun g14 => ?_⟩
              · have k := kp g14 k
                refine n_iconst 1 i_77_99 rfl ?_
                refine x_iret i_77_100 rn_77 rfl ?_
                exact k (show 1 ≤ 4294967295 by omega)
              · have k := kn g14 k
                refine n_iconst 2 i_77_95 rfl ?_
                refine x_goto i_77_96 ?_
                refine x_iret i_77_100 rn_77 rfl ?_
                exact k (show 2 ≤ 4294967295 by omega)
            · have k := kp g12 k
              refine n_iconst 3 i_78_7 rfl ?_
              refine x_goto i_78_8 ?_
              refine x_iretI i_78_12 rn_78 rfl ?_
              refine x_iandN i_77_91 ?_
              have q15 : (s_55 n A l2) &&& 3 ≤ 3 := Nat.le_trans Nat.and_le_right (by omega)
              refine x_zeqN (by omega) i_77_92 ⟨fun g16 => ?_, fun g16 => ?_⟩
              · have k := kp g16 k
                refine n_iconst 1 i_77_99 rfl ?_
                refine x_iret i_77_100 rn_77 rfl ?_
                exact k (show 1 ≤ 4294967295 by omega)
              · have k := kn g16 k
                refine n_iconst 2 i_77_95 rfl ?_
                refine x_goto i_77_96 ?_
                refine x_iret i_77_100 rn_77 rfl ?_
                exact k (show 2 ≤ 4294967295 by omega)
          · have k := kn g10 k
            refine x_iload i_77_58 rfl ?_
            refine x_ifT i_77_60 (by decide +kernel) ?_
            refine x_aload_n i_77_101 rfl ?_
            refine x_iload_n i_77_102 rfl ?_
            refine x_aload_n i_77_103 rfl ?_
            refine n_bipush 11 i_77_104 rfl ?_
            refine x_vh (r := [_, _]) (lj := [some _, some _, none, none]) i_77_106 w_65 hb.ob [_] rfl rfl (Nat.le_of_ble_eq_true rfl) (Nat.le_of_ble_eq_true rfl) rfl ?_
            refine c_65 hb r (by omega)  (fun q17 => rt_i ?_)
            refine x_iandN i_77_109 ?_
            have q18 : l1 &&& (s_65 n A 11) ≤ 31 := Nat.le_trans Nat.and_le_left (by omega)
            refine x_vh (r := []) (lj := [some _, some _, none, none]) i_77_110 w_49 hb.ob [_] rfl rfl (Nat.le_of_ble_eq_true rfl) (Nat.le_of_ble_eq_true rfl) rfl ?_
            refine c_49 hb r (by omega)  (fun q19 => rt_i ?_)
            refine x_aload_n i_77_113 rfl ?_
            refine n_gi (x := A 6 4) i_77_114 hb.ob gf_1_4.1 gf_1_4.2 r.f4 ?_
            have q20 : A 6 4 ≤ 15 := r.w.f4
            refine x_iltN (by omega) (by omega) i_77_117 ⟨fun g21 => ?_, fun g21 => ?_⟩
            · have k := kp g21 k
              refine n_iconst 4294967295 i_77_136 rfl ?_
              refine x_iret i_77_137 rn_77 rfl ?_
              exact k (show 4294967295 ≤ 4294967295 by omega)
            · have k := kn g21 k
              refine x_aload_n i_77_120 rfl ?_
              refine x_iload_n i_77_121 rfl ?_
              refine x_vh (r := []) (lj := [some _, some _, none, none]) i_77_122 w_55 hb.ob [_] rfl rfl (Nat.le_of_ble_eq_true rfl) (Nat.le_of_ble_eq_true rfl) rfl ?_
              refine c_55 hb r (by omega)  (fun q22 => rt_i ?_)
              refine n_iconst 3 i_77_125 rfl ?_
              refine x_iandN i_77_126 ?_
              have q23 : (s_55 n A l2) &&& 3 ≤ 3 := Nat.le_trans Nat.and_le_right (by omega)
              refine x_zeqN (by omega) i_77_127 ⟨fun g24 => ?_, fun g24 => ?_⟩
              · have k := kp g24 k
                refine n_iconst 0 i_77_134 rfl ?_
                refine x_iret i_77_135 rn_77 rfl ?_
                exact k (show 0 ≤ 4294967295 by omega)
              · have k := kn g24 k
                refine n_iconst 3 i_77_130 rfl ?_
                refine x_goto i_77_131 ?_
                refine x_iret i_77_135 rn_77 rfl ?_
                exact k (show 3 ≤ 4294967295 by omega)
        · have k := kp g9 k
          refine x_iload i_77_44 rfl ?_
          refine x_ifF i_77_46 (by decide +kernel) ?_
          refine n_iconst 0 i_77_49 rfl ?_
          refine x_iret i_77_50 rn_77 rfl ?_
          exact k (show 0 ≤ 4294967295 by omega)
      · have k := kn g7 k
        refine n_iconst 1 i_77_30 rfl ?_
        refine x_goto i_77_31 ?_
        refine x_istore i_77_35 rfl rfl ?_
        refine x_aload_n i_77_37 rfl ?_
        refine n_gi (x := A 6 1) i_77_38 hb.ob gf_1_1.1 gf_1_1.2 r.f1 ?_
        have q25 : A 6 1 ≤ 1 := r.w.f1
        refine x_zneN (by omega) i_77_41 ⟨fun g26 => ?_, fun g26 => ?_⟩
        · have k := kn g26 k
          refine x_aload_n i_77_51 rfl ?_
          refine n_gi (x := A 6 1) i_77_52 hb.ob gf_1_1.1 gf_1_1.2 r.f1 ?_
          refine x_zeqN (by omega) i_77_55 ⟨fun g27 => ?_, fun g27 => ?_⟩
          · have k := kp g27 k
            refine x_aload_n i_77_82 rfl ?_
            refine x_iload_n i_77_83 rfl ?_
            refine x_vh (r := []) (lj := [some _, some _, none, none]) i_77_84 w_55 hb.ob [_] rfl rfl (Nat.le_of_ble_eq_true rfl) (Nat.le_of_ble_eq_true rfl) rfl ?_
            refine c_55 hb r (by omega)  (fun q28 => rt_i ?_)
            refine x_aload_n i_77_87 rfl ?_
            refine x_vh (r := [_]) (lj := [some _]) i_77_88 w_78 hb.ob [] rfl rfl (Nat.le_of_ble_eq_true rfl) (Nat.le_of_ble_eq_true rfl) rfl ?_
            refine x_aload_n i_78_0 rfl ?_
            refine n_gi (x := A 6 1) i_78_1 hb.ob gf_1_1.1 gf_1_1.2 r.f1 ?_
            refine x_zneN (by omega) i_78_4 ⟨fun g29 => ?_, fun g29 => ?_⟩
            · have k := kn g29 k
              refine n_iconst 2 i_78_11 rfl ?_
              refine x_iretI i_78_12 rn_78 rfl ?_
              refine x_iandN i_77_91 ?_
              have q30 : (s_55 n A l2) &&& 2 ≤ 2 := Nat.le_trans Nat.and_le_right (by omega)
              refine x_zeqN (by omega) i_77_92 ⟨fun g31 => ?_, fun g31 => ?_⟩
              · have k := kp g31 k
                refine n_iconst 1 i_77_99 rfl ?_
                refine x_iret i_77_100 rn_77 rfl ?_
                exact k (show 1 ≤ 4294967295 by omega)
              · have k := kn g31 k
                refine n_iconst 2 i_77_95 rfl ?_
                refine x_goto i_77_96 ?_
                refine x_iret i_77_100 rn_77 rfl ?_
                exact k (show 2 ≤ 4294967295 by omega)
            · have k := kp g29 k
              refine n_iconst 3 i_78_7 rfl ?_
              refine x_goto i_78_8 ?_
              refine x_iretI i_78_12 rn_78 rfl ?_
              refine x_iandN i_77_91 ?_
              have q32 : (s_55 n A l2) &&& 3 ≤ 3 := Nat.le_trans Nat.and_le_right (by omega)
              refine x_zeqN (by omega) i_77_92 ⟨fun g33 => ?_, fun g33 => ?_⟩
              · have k := kp g33 k
                refine n_iconst 1 i_77_99 rfl ?_
                refine x_iret i_77_100 rn_77 rfl ?_
                exact k (show 1 ≤ 4294967295 by omega)
              · have k := kn g33 k
                refine n_iconst 2 i_77_95 rfl ?_
                refine x_goto i_77_96 ?_
                refine x_iret i_77_100 rn_77 rfl ?_
                exact k (show 2 ≤ 4294967295 by omega)
          · have k := kn g27 k
            refine x_iload i_77_58 rfl ?_
            refine x_ifF i_77_60 (by decide +kernel) ?_
            refine x_aload_n i_77_63 rfl ?_
            refine x_iload_n i_77_64 rfl ?_
            refine x_aload_n i_77_65 rfl ?_
            refine n_bipush 6 i_77_66 rfl ?_
            refine x_vh (r := [_, _]) (lj := [some _, some _, none, none]) i_77_68 w_65 hb.ob [_] rfl rfl (Nat.le_of_ble_eq_true rfl) (Nat.le_of_ble_eq_true rfl) rfl ?_
            refine c_65 hb r (by omega)  (fun q34 => rt_i ?_)
            refine x_iandN i_77_71 ?_
            have q35 : l1 &&& (s_65 n A 6) ≤ 31 := Nat.le_trans Nat.and_le_left (by omega)
            refine x_vh (r := []) (lj := [some _, some _, none, none]) i_77_72 w_49 hb.ob [_] rfl rfl (Nat.le_of_ble_eq_true rfl) (Nat.le_of_ble_eq_true rfl) rfl ?_
            refine c_49 hb r (by omega)  (fun q36 => rt_i ?_)
            refine x_aload_n i_77_75 rfl ?_
            refine n_gi (x := A 6 3) i_77_76 hb.ob gf_1_3.1 gf_1_3.2 r.f3 ?_
            have q37 : A 6 3 ≤ 15 := r.w.f3
            refine x_iltN (by omega) (by omega) i_77_79 ⟨fun g38 => ?_, fun g38 => ?_⟩
            · have k := kp g38 k
              refine x_aload_n i_77_101 rfl ?_
              refine x_iload_n i_77_102 rfl ?_
              refine x_aload_n i_77_103 rfl ?_
              refine n_bipush 11 i_77_104 rfl ?_
              refine x_vh (r := [_, _]) (lj := [some _, some _, none, none]) i_77_106 w_65 hb.ob [_] rfl rfl (Nat.le_of_ble_eq_true rfl) (Nat.le_of_ble_eq_true rfl) rfl ?_
              refine c_65 hb r (by omega)  (fun q39 => rt_i ?_)
              refine x_iandN i_77_109 ?_
              have q40 : l1 &&& (s_65 n A 11) ≤ 31 := Nat.le_trans Nat.and_le_left (by omega)
              refine x_vh (r := []) (lj := [some _, some _, none, none]) i_77_110 w_49 hb.ob [_] rfl rfl (Nat.le_of_ble_eq_true rfl) (Nat.le_of_ble_eq_true rfl) rfl ?_
              refine c_49 hb r (by omega)  (fun q41 => rt_i ?_)
              refine x_aload_n i_77_113 rfl ?_
              refine n_gi (x := A 6 4) i_77_114 hb.ob gf_1_4.1 gf_1_4.2 r.f4 ?_
              have q42 : A 6 4 ≤ 15 := r.w.f4
              refine x_iltN (by omega) (by omega) i_77_117 ⟨fun g43 => ?_, fun g43 => ?_⟩
              · have k := kp g43 k
                refine n_iconst 4294967295 i_77_136 rfl ?_
                refine x_iret i_77_137 rn_77 rfl ?_
                exact k (show 4294967295 ≤ 4294967295 by omega)
              · have k := kn g43 k
                refine x_aload_n i_77_120 rfl ?_
                refine x_iload_n i_77_121 rfl ?_
                refine x_vh (r := []) (lj := [some _, some _, none, none]) i_77_122 w_55 hb.ob [_] rfl rfl (Nat.le_of_ble_eq_true rfl) (Nat.le_of_ble_eq_true rfl) rfl ?_
                refine c_55 hb r (by omega)  (fun q44 => rt_i ?_)
                refine n_iconst 3 i_77_125 rfl ?_
                refine x_iandN i_77_126 ?_
                have q45 : (s_55 n A l2) &&& 3 ≤ 3 := Nat.le_trans Nat.and_le_right (by omega)
                refine x_zeqN (by omega) i_77_127 ⟨fun g46 => ?_, fun g46 => ?_⟩
                · have k := kp g46 k
                  refine n_iconst 0 i_77_134 rfl ?_
                  refine x_iret i_77_135 rn_77 rfl ?_
                  exact k (show 0 ≤ 4294967295 by omega)
                · have k := kn g46 k
                  refine n_iconst 3 i_77_130 rfl ?_
                  refine x_goto i_77_131 ?_
                  refine x_iret i_77_135 rn_77 rfl ?_
                  exact k (show 3 ≤ 4294967295 by omega)
            · have k := kn g38 k
              refine x_aload_n i_77_82 rfl ?_
              refine x_iload_n i_77_83 rfl ?_
              refine x_vh (r := []) (lj := [some _, some _, none, none]) i_77_84 w_55 hb.ob [_] rfl rfl (Nat.le_of_ble_eq_true rfl) (Nat.le_of_ble_eq_true rfl) rfl ?_
              refine c_55 hb r (by omega)  (fun q47 => rt_i ?_)
              refine x_aload_n i_77_87 rfl ?_
              refine x_vh (r := [_]) (lj := [some _]) i_77_88 w_78 hb.ob [] rfl rfl (Nat.le_of_ble_eq_true rfl) (Nat.le_of_ble_eq_true rfl) rfl ?_
              refine x_aload_n i_78_0 rfl ?_
              refine n_gi (x := A 6 1) i_78_1 hb.ob gf_1_1.1 gf_1_1.2 r.f1 ?_
              refine x_zneN (by omega) i_78_4 ⟨fun g48 => ?_, fun g48 => ?_⟩
              · have k := kn g48 k
                refine n_iconst 2 i_78_11 rfl ?_
                refine x_iretI i_78_12 rn_78 rfl ?_
                refine x_iandN i_77_91 ?_
                have q49 : (s_55 n A l2) &&& 2 ≤ 2 := Nat.le_trans Nat.and_le_right (by omega)
                refine x_zeqN (by omega) i_77_92 ⟨fun g50 => ?_, fun g50 => ?_⟩
                · have k := kp g50 k
                  refine n_iconst 1 i_77_99 rfl ?_
                  refine x_iret i_77_100 rn_77 rfl ?_
                  exact k (show 1 ≤ 4294967295 by omega)
                · have k := kn g50 k
                  refine n_iconst 2 i_77_95 rfl ?_
                  refine x_goto i_77_96 ?_
                  refine x_iret i_77_100 rn_77 rfl ?_
                  exact k (show 2 ≤ 4294967295 by omega)
              · have k := kp g48 k
                refine n_iconst 3 i_78_7 rfl ?_
                refine x_goto i_78_8 ?_
                refine x_iretI i_78_12 rn_78 rfl ?_
                refine x_iandN i_77_91 ?_
                have q51 : (s_55 n A l2) &&& 3 ≤ 3 := Nat.le_trans Nat.and_le_right (by omega)
                refine x_zeqN (by omega) i_77_92 ⟨fun g52 => ?_, fun g52 => ?_⟩
                · have k := kp g52 k
                  refine n_iconst 1 i_77_99 rfl ?_
                  refine x_iret i_77_100 rn_77 rfl ?_
                  exact k (show 1 ≤ 4294967295 by omega)
                · have k := kn g52 k
                  refine n_iconst 2 i_77_95 rfl ?_
                  refine x_goto i_77_96 ?_
                  refine x_iret i_77_100 rn_77 rfl ?_
                  exact k (show 2 ≤ 4294967295 by omega)
        · have k := kp g26 k
          refine x_iload i_77_44 rfl ?_
          refine x_ifT i_77_46 (by decide +kernel) ?_
          refine x_aload_n i_77_51 rfl ?_
          refine n_gi (x := A 6 1) i_77_52 hb.ob gf_1_1.1 gf_1_1.2 r.f1 ?_
          refine x_zeqN (by omega) i_77_55 ⟨fun g53 => ?_, fun g53 => ?_⟩
          · have k := kp g53 k
            refine x_aload_n i_77_82 rfl ?_
            refine x_iload_n i_77_83 rfl ?_
            refine x_vh (r := []) (lj := [some _, some _, none, none]) i_77_84 w_55 hb.ob [_] rfl rfl (Nat.le_of_ble_eq_true rfl) (Nat.le_of_ble_eq_true rfl) rfl ?_
            refine c_55 hb r (by omega)  (fun q54 => rt_i ?_)
            refine x_aload_n i_77_87 rfl ?_
            refine x_vh (r := [_]) (lj := [some _]) i_77_88 w_78 hb.ob [] rfl rfl (Nat.le_of_ble_eq_true rfl) (Nat.le_of_ble_eq_true rfl) rfl ?_
            refine x_aload_n i_78_0 rfl ?_
            refine n_gi (x := A 6 1) i_78_1 hb.ob gf_1_1.1 gf_1_1.2 r.f1 ?_
            refine x_zneN (by omega) i_78_4 ⟨fun g55 => ?_, fun g55 => ?_⟩
            · have k := kn g55 k
              refine n_iconst 2 i_78_11 rfl ?_
              refine x_iretI i_78_12 rn_78 rfl ?_
              refine x_iandN i_77_91 ?_
              have q56 : (s_55 n A l2) &&& 2 ≤ 2 := Nat.le_trans Nat.and_le_right (by omega)
              refine x_zeqN (by omega) i_77_92 ⟨fun g57 => ?_, fun g57 => ?_⟩
              · have k := kp g57 k
                refine n_iconst 1 i_77_99 rfl ?_
                refine x_iret i_77_100 rn_77 rfl ?_
                exact k (show 1 ≤ 4294967295 by omega)
              · have k := kn g57 k
                refine n_iconst 2 i_77_95 rfl ?_
                refine x_goto i_77_96 ?_
                refine x_iret i_77_100 rn_77 rfl ?_
                exact k (show 2 ≤ 4294967295 by omega)
            · have k := kp g55 k
              refine n_iconst 3 i_78_7 rfl ?_
              refine x_goto i_78_8 ?_
              refine x_iretI i_78_12 rn_78 rfl ?_
              refine x_iandN i_77_91 ?_
              have q58 : (s_55 n A l2) &&& 3 ≤ 3 := Nat.le_trans Nat.and_le_right (by omega)
              refine x_zeqN (by omega) i_77_92 ⟨fun g59 => ?_, fun g59 => ?_⟩
              · have k := kp g59 k
                refine n_iconst 1 i_77_99 rfl ?_
                refine x_iret i_77_100 rn_77 rfl ?_
                exact k (show 1 ≤ 4294967295 by omega)
              · have k := kn g59 k
                refine n_iconst 2 i_77_95 rfl ?_
                refine x_goto i_77_96 ?_
                refine x_iret i_77_100 rn_77 rfl ?_
                exact k (show 2 ≤ 4294967295 by omega)
          · have k := kn g53 k
            refine x_iload i_77_58 rfl ?_
            refine x_ifF i_77_60 (by decide +kernel) ?_
            refine x_aload_n i_77_63 rfl ?_
            refine x_iload_n i_77_64 rfl ?_
            refine x_aload_n i_77_65 rfl ?_
            refine n_bipush 6 i_77_66 rfl ?_
            refine x_vh (r := [_, _]) (lj := [some _, some _, none, none]) i_77_68 w_65 hb.ob [_] rfl rfl (Nat.le_of_ble_eq_true rfl) (Nat.le_of_ble_eq_true rfl) rfl ?_
            refine c_65 hb r (by omega)  (fun q60 => rt_i ?_)
            refine x_iandN i_77_71 ?_
            have q61 : l1 &&& (s_65 n A 6) ≤ 31 := Nat.le_trans Nat.and_le_left (by omega)
            refine x_vh (r := []) (lj := [some _, some _, none, none]) i_77_72 w_49 hb.ob [_] rfl rfl (Nat.le_of_ble_eq_true rfl) (Nat.le_of_ble_eq_true rfl) rfl ?_
            refine c_49 hb r (by omega)  (fun q62 => rt_i ?_)
            refine x_aload_n i_77_75 rfl ?_
            refine n_gi (x := A 6 3) i_77_76 hb.ob gf_1_3.1 gf_1_3.2 r.f3 ?_
            have q63 : A 6 3 ≤ 15 := r.w.f3
            refine x_iltN (by omega) (by omega) i_77_79 ⟨fun g64 => ?_, fun g64 => ?_⟩
            · have k := kp g64 k
              refine x_aload_n i_77_101 rfl ?_
              refine x_iload_n i_77_102 rfl ?_
              refine x_aload_n i_77_103 rfl ?_
              refine n_bipush 11 i_77_104 rfl ?_
              refine x_vh (r := [_, _]) (lj := [some _, some _, none, none]) i_77_106 w_65 hb.ob [_] rfl rfl (Nat.le_of_ble_eq_true rfl) (Nat.le_of_ble_eq_true rfl) rfl ?_
              refine c_65 hb r (by omega)  (fun q65 => rt_i ?_)
              refine x_iandN i_77_109 ?_
              have q66 : l1 &&& (s_65 n A 11) ≤ 31 := Nat.le_trans Nat.and_le_left (by omega)
              refine x_vh (r := []) (lj := [some _, some _, none, none]) i_77_110 w_49 hb.ob [_] rfl rfl (Nat.le_of_ble_eq_true rfl) (Nat.le_of_ble_eq_true rfl) rfl ?_
              refine c_49 hb r (by omega)  (fun q67 => rt_i ?_)
              refine x_aload_n i_77_113 rfl ?_
              refine n_gi (x := A 6 4) i_77_114 hb.ob gf_1_4.1 gf_1_4.2 r.f4 ?_
              have q68 : A 6 4 ≤ 15 := r.w.f4
              refine x_iltN (by omega) (by omega) i_77_117 ⟨fun g69 => ?_, fun g69 => ?_⟩
              · have k := kp g69 k
                refine n_iconst 4294967295 i_77_136 rfl ?_
                refine x_iret i_77_137 rn_77 rfl ?_
                exact k (show 4294967295 ≤ 4294967295 by omega)
              · have k := kn g69 k
                refine x_aload_n i_77_120 rfl ?_
                refine x_iload_n i_77_121 rfl ?_
                refine x_vh (r := []) (lj := [some _, some _, none, none]) i_77_122 w_55 hb.ob [_] rfl rfl (Nat.le_of_ble_eq_true rfl) (Nat.le_of_ble_eq_true rfl) rfl ?_
                refine c_55 hb r (by omega)  (fun q70 => rt_i ?_)
                refine n_iconst 3 i_77_125 rfl ?_
                refine x_iandN i_77_126 ?_
                have q71 : (s_55 n A l2) &&& 3 ≤ 3 := Nat.le_trans Nat.and_le_right (by omega)
                refine x_zeqN (by omega) i_77_127 ⟨fun g72 => ?_, fun g72 => ?_⟩
                · have k := kp g72 k
                  refine n_iconst 0 i_77_134 rfl ?_
                  refine x_iret i_77_135 rn_77 rfl ?_
                  exact k (show 0 ≤ 4294967295 by omega)
                · have k := kn g72 k
                  refine n_iconst 3 i_77_130 rfl ?_
                  refine x_goto i_77_131 ?_
                  refine x_iret i_77_135 rn_77 rfl ?_
                  exact k (show 3 ≤ 4294967295 by omega)
            · have k := kn g64 k
              refine x_aload_n i_77_82 rfl ?_
              refine x_iload_n i_77_83 rfl ?_
              refine x_vh (r := []) (lj := [some _, some _, none, none]) i_77_84 w_55 hb.ob [_] rfl rfl (Nat.le_of_ble_eq_true rfl) (Nat.le_of_ble_eq_true rfl) rfl ?_
              refine c_55 hb r (by omega)  (fun q73 => rt_i ?_)
              refine x_aload_n i_77_87 rfl ?_
              refine x_vh (r := [_]) (lj := [some _]) i_77_88 w_78 hb.ob [] rfl rfl (Nat.le_of_ble_eq_true rfl) (Nat.le_of_ble_eq_true rfl) rfl ?_
              refine x_aload_n i_78_0 rfl ?_
              refine n_gi (x := A 6 1) i_78_1 hb.ob gf_1_1.1 gf_1_1.2 r.f1 ?_
              refine x_zneN (by omega) i_78_4 ⟨fun g74 => ?_, fun g74 => ?_⟩
              · have k := kn g74 k
                refine n_iconst 2 i_78_11 rfl ?_
                refine x_iretI i_78_12 rn_78 rfl ?_
                refine x_iandN i_77_91 ?_
                have q75 : (s_55 n A l2) &&& 2 ≤ 2 := Nat.le_trans Nat.and_le_right (by omega)
                refine x_zeqN (by omega) i_77_92 ⟨fun g76 => ?_, fun g76 => ?_⟩
                · have k := kp g76 k
                  refine n_iconst 1 i_77_99 rfl ?_
                  refine x_iret i_77_100 rn_77 rfl ?_
                  exact k (show 1 ≤ 4294967295 by omega)
                · have k := kn g76 k
                  refine n_iconst 2 i_77_95 rfl ?_
                  refine x_goto i_77_96 ?_
                  refine x_iret i_77_100 rn_77 rfl ?_
                  exact k (show 2 ≤ 4294967295 by omega)
              · have k := kp g74 k
                refine n_iconst 3 i_78_7 rfl ?_
                refine x_goto i_78_8 ?_
                refine x_iretI i_78_12 rn_78 rfl ?_
                refine x_iandN i_77_91 ?_
                have q77 : (s_55 n A l2) &&& 3 ≤ 3 := Nat.le_trans Nat.and_le_right (by omega)
                refine x_zeqN (by omega) i_77_92 ⟨fun g78 => ?_, fun g78 => ?_⟩
                · have k := kp g78 k
                  refine n_iconst 1 i_77_99 rfl ?_
                  refine x_iret i_77_100 rn_77 rfl ?_
                  exact k (show 1 ≤ 4294967295 by omega)
                · have k := kn g78 k
                  refine n_iconst 2 i_77_95 rfl ?_
                  refine x_goto i_77_96 ?_
                  refine x_iret i_77_100 rn_77 rfl ?_
                  exact k (show 2 ≤ 4294967295 by omega)
    · have k := kn g5 k
      refine n_iconst 0 i_77_22 rfl ?_
      refine x_iret i_77_23 rn_77 rfl ?_
      exact k (show 0 ≤ 4294967295 by omega)
  · have k := kn g3 k
    refine n_iconst 1 i_77_13 rfl ?_
    refine x_iret i_77_14 rn_77 rfl ?_
    exact k (show 1 ≤ 4294967295 by omega)
def s_83 (n : Nat) (A : HA) (l1 : Nat) : Nat :=
  (if (s_84 n A l1) = 0 then 0 else (if ((s_84 n A l1) &&& (l1 ^^^ 4294967295)) = 0 then 1 else 0))
theorem c_83 {sc : a_Sc} {fd : Nat} {M : a_Mm} {A : HA} {Q : Option Value → a_Hp → Prop} {b n : Nat} (hb : HB b) (r : RC M b n A) {l1 : Nat} (hl1 : l1 ≤ 31) (k : KP 1 Q (a_hp sc fd M) (s_83 n A l1)) : a_Ex 83 0 [some (.ref b), some (.int (N l1)), none] [] (a_hp sc fd M) Q := by
  unfold s_83 at k
  have n5 := r.n5
  have n2 := r.n2
  refine x_aload_n i_83_0 rfl ?_
  refine x_iload_n i_83_1 rfl ?_
  refine x_vh (r := []) (lj := [some _, some _, none, none]) i_83_2 w_84 hb.ob [_] rfl rfl (Nat.le_of_ble_eq_true rfl) (Nat.le_of_ble_eq_true rfl) rfl ?_
  refine c_84 hb r (by omega)  (fun q1 => rt_i ?_)
  refine x_istore_n i_83_5 rfl rfl ?_
  refine x_iload_n i_83_6 rfl ?_
  refine x_zeqN (by omega) i_83_7 ⟨fun g2 => ?_, fun g2 => ?_⟩
  · have k := kp g2 k
    refine n_iconst 0 i_83_22 rfl ?_
    refine x_iret i_83_23 rn_83 (by decide +kernel) ?_
    exact k (show 0 ≤ 1 by omega)
  · have k := kn g2 k
    refine x_iload_n i_83_10 rfl ?_
    refine x_iload_n i_83_11 rfl ?_
    refine n_iconst 4294967295 i_83_12 rfl ?_
    refine x_ixorN i_83_13 ?_
    refine x_iandN i_83_14 ?_
    have q3 : (s_84 n A l1) &&& (l1 ^^^ 4294967295) ≤ 31 := Nat.le_trans Nat.and_le_left (by omega)
    refine x_zneN (by omega) i_83_15 ⟨fun g4 => ?_, fun g4 => ?_⟩
    · have k := kn g4 k
      refine n_iconst 0 i_83_22 rfl ?_
      refine x_iret i_83_23 rn_83 (by decide +kernel) ?_
      exact k (show 0 ≤ 1 by omega)
    · have k := kp g4 k
      refine n_iconst 1 i_83_18 rfl ?_
      refine x_goto i_83_19 ?_
      refine x_iret i_83_23 rn_83 (by decide +kernel) ?_
      exact k (show 1 ≤ 1 by omega)
def s_85 (n : Nat) (A : HA) (l1 : Nat) : Nat :=
  (if (s_76 n A l1) = 0 then s_77 n A l1 l1 else 4294967295)
theorem c_85 {sc : a_Sc} {fd : Nat} {M : a_Mm} {A : HA} {Q : Option Value → a_Hp → Prop} {b n : Nat} (hb : HB b) (r : RC M b n A) {l1 : Nat} (hl1 : l1 ≤ 31) (k : KP 4294967295 Q (a_hp sc fd M) (s_85 n A l1)) : a_Ex 85 0 [some (.ref b), some (.int (N l1))] [] (a_hp sc fd M) Q := by
  unfold s_85 at k
  have n5 := r.n5
  have n2 := r.n2
  refine x_aload_n i_85_0 rfl ?_
  refine x_iload_n i_85_1 rfl ?_
  refine x_vh (r := []) (lj := [some _, some _]) i_85_2 w_76 hb.ob [_] rfl rfl (Nat.le_of_ble_eq_true rfl) (Nat.le_of_ble_eq_true rfl) rfl ?_
  refine c_76 hb r (by omega)  (fun q1 => rt_i ?_)
  refine x_zeqN (by omega) i_85_5 ⟨fun g2 => ?_, fun g2 => ?_⟩
  · have k := kp g2 k
    refine x_aload_n i_85_12 rfl ?_
    refine x_iload_n i_85_13 rfl ?_
    refine x_iload_n i_85_14 rfl ?_
    refine x_vh (r := []) (lj := [some _, some _, some _, none, none]) i_85_15 w_77 hb.ob [_, _] rfl rfl (Nat.le_of_ble_eq_true rfl) (Nat.le_of_ble_eq_true rfl) rfl ?_
    refine c_77 hb r (by omega) (by omega)  (fun q3 => rt_i ?_)
    refine x_iret i_85_18 rn_85 rfl ?_
    exact k (show s_77 n A l1 l1 ≤ 4294967295 by omega)
  · have k := kn g2 k
    refine n_iconst 4294967295 i_85_8 rfl ?_
    refine x_goto i_85_9 ?_
    refine x_iret i_85_18 rn_85 rfl ?_
    exact k (show 4294967295 ≤ 4294967295 by omega)
def s_88 (n : Nat) (A : HA) (l1 : Nat) : Nat :=
  (if (s_77 n A l1 l1) = 1 then 1 else (if (s_77 n A l1 l1) = 2 then 1 else 0))
theorem c_88 {sc : a_Sc} {fd : Nat} {M : a_Mm} {A : HA} {Q : Option Value → a_Hp → Prop} {b n : Nat} (hb : HB b) (r : RC M b n A) {l1 : Nat} (hl1 : l1 ≤ 31) (k : KP 1 Q (a_hp sc fd M) (s_88 n A l1)) : a_Ex 88 0 [some (.ref b), some (.int (N l1)), none] [] (a_hp sc fd M) Q := by
  unfold s_88 at k
  have n5 := r.n5
  have n2 := r.n2
  refine x_aload_n i_88_0 rfl ?_
  refine x_iload_n i_88_1 rfl ?_
  refine x_iload_n i_88_2 rfl ?_
  refine x_vh (r := []) (lj := [some _, some _, some _, none, none]) i_88_3 w_77 hb.ob [_, _] rfl rfl (Nat.le_of_ble_eq_true rfl) (Nat.le_of_ble_eq_true rfl) rfl ?_
  refine c_77 hb r (by omega) (by omega)  (fun q1 => rt_i ?_)
  refine x_istore_n i_88_6 rfl rfl ?_
  refine x_iload_n i_88_7 rfl ?_
  refine n_iconst 1 i_88_8 rfl ?_
  refine n_ieqU (by omega) (by omega) i_88_9 ⟨fun g2 => ?_, fun g2 => ?_⟩
  · have k := kp g2 k
    refine n_iconst 1 i_88_17 rfl ?_
    refine x_goto i_88_18 ?_
    refine x_iret i_88_22 rn_88 (by decide +kernel) ?_
    exact k (show 1 ≤ 1 by omega)
  · have k := kn g2 k
    refine x_iload_n i_88_12 rfl ?_
    refine n_iconst 2 i_88_13 rfl ?_
    refine n_ineU (by omega) (by omega) i_88_14 ⟨fun g3 => ?_, fun g3 => ?_⟩
    · have k := kn g3 k
      refine n_iconst 0 i_88_21 rfl ?_
      refine x_iret i_88_22 rn_88 (by decide +kernel) ?_
      exact k (show 0 ≤ 1 by omega)
    · have k := kp g3 k
      refine n_iconst 1 i_88_17 rfl ?_
      refine x_goto i_88_18 ?_
      refine x_iret i_88_22 rn_88 (by decide +kernel) ?_
      exact k (show 1 ≤ 1 by omega)
def s_89 (n : Nat) (A : HA) (l1 : Nat) : Nat :=
  (if (s_77 n A l1 l1) = 0 then 1 else (if (s_77 n A l1 l1) = 3 then 1 else 0))
theorem c_89 {sc : a_Sc} {fd : Nat} {M : a_Mm} {A : HA} {Q : Option Value → a_Hp → Prop} {b n : Nat} (hb : HB b) (r : RC M b n A) {l1 : Nat} (hl1 : l1 ≤ 31) (k : KP 1 Q (a_hp sc fd M) (s_89 n A l1)) : a_Ex 89 0 [some (.ref b), some (.int (N l1)), none] [] (a_hp sc fd M) Q := by
  unfold s_89 at k
  have n5 := r.n5
  have n2 := r.n2
  refine x_aload_n i_89_0 rfl ?_
  refine x_iload_n i_89_1 rfl ?_
  refine x_iload_n i_89_2 rfl ?_
  refine x_vh (r := []) (lj := [some _, some _, some _, none, none]) i_89_3 w_77 hb.ob [_, _] rfl rfl (Nat.le_of_ble_eq_true rfl) (Nat.le_of_ble_eq_true rfl) rfl ?_
  refine c_77 hb r (by omega) (by omega)  (fun q1 => rt_i ?_)
  refine x_istore_n i_89_6 rfl rfl ?_
  refine x_iload_n i_89_7 rfl ?_
  refine n_zeqU (by omega) i_89_8 ⟨fun g2 => ?_, fun g2 => ?_⟩
  · have k := kp g2 k
    refine n_iconst 1 i_89_16 rfl ?_
    refine x_goto i_89_17 ?_
    refine x_iret i_89_21 rn_89 (by decide +kernel) ?_
    exact k (show 1 ≤ 1 by omega)
  · have k := kn g2 k
    refine x_iload_n i_89_11 rfl ?_
    refine n_iconst 3 i_89_12 rfl ?_
    refine n_ineU (by omega) (by omega) i_89_13 ⟨fun g3 => ?_, fun g3 => ?_⟩
    · have k := kn g3 k
      refine n_iconst 0 i_89_20 rfl ?_
      refine x_iret i_89_21 rn_89 (by decide +kernel) ?_
      exact k (show 0 ≤ 1 by omega)
    · have k := kp g3 k
      refine n_iconst 1 i_89_16 rfl ?_
      refine x_goto i_89_17 ?_
      refine x_iret i_89_21 rn_89 (by decide +kernel) ?_
      exact k (show 1 ≤ 1 by omega)
def s_86_4 (n : Nat) : Nat → HA → Nat → Nat → Nat → Nat
  | 0, _, _, _, _ => 0
  | d + 1, A, l1, l2, l3 => (if 4 < l3 then l2 else (if (s_76 n A (l1 &&& (s_74 n A l3))) = 0 then (if (s_77 n A (l1 &&& (s_74 n A l3)) (l1 &&& (s_74 n A l3))) = 4294967295 then (s_86_4 n d A l1 (l2 ||| (l1 &&& (s_74 n A l3))) (l3 + 1)) else (s_86_4 n d A l1 l2 (l3 + 1))) else (s_86_4 n d A l1 l2 (l3 + 1))))
theorem c_86_4 {sc : a_Sc} {fd : Nat} {Q : Option Value → a_Hp → Prop} {b n : Nat} (hb : HB b) : ∀ (d : Nat) {M : a_Mm} {A : HA} {l1 l2 l3 : Nat} (r : RC M b n A) (hl1 : l1 ≤ 31) (hl2 : l2 ≤ 31) (hl3 : l3 ≤ 5) (i0 : l3 ≤ 5) (hm : 5 - l3 < d) (k : KP 31 Q (a_hp sc fd M) (s_86_4 n d A l1 l2 l3)), a_Ex 86 4 [some (.ref b), some (.int (N l1)), some (.int (N l2)), some (.int (N l3)), none] [] (a_hp sc fd M) Q := by
  intro d
  induction d with
  | zero => intro M A l1 l2 l3 r hl1 hl2 hl3 i0 hm k; exact absurd hm (Nat.not_lt_zero _)
  | succ d ih =>
      intro M A l1 l2 l3 r hl1 hl2 hl3 i0 hm k
      unfold s_86_4 at k
      have n5 := r.n5
      have n2 := r.n2
      refine x_iload_n i_86_4 rfl ?_
      refine n_iconst 4 i_86_5 rfl ?_
      refine x_igtN (by omega) (by omega) i_86_6 ⟨fun g1 => ?_, fun g1 => ?_⟩
      · have k := kp g1 k
        refine x_iload_n i_86_50 rfl ?_
        refine x_iret i_86_51 rn_86 rfl ?_
        exact k (show l2 ≤ 31 by omega)
      · have k := kn g1 k
        refine x_iload_n i_86_9 rfl ?_
        refine x_aload_n i_86_10 rfl ?_
        refine x_iload_n i_86_11 rfl ?_
        refine x_vh (r := [_]) (lj := [some _, some _, none, none]) i_86_12 w_74 hb.ob [_] rfl rfl (Nat.le_of_ble_eq_true rfl) (Nat.le_of_ble_eq_true rfl) rfl ?_
        refine c_74 hb r (by omega)  (fun q2 => rt_i ?_)
        refine x_iandN i_86_15 ?_
        refine x_istore i_86_16 rfl rfl ?_
        refine x_aload_n i_86_18 rfl ?_
        refine x_iload i_86_19 rfl ?_
        have q3 : l1 &&& (s_74 n A l3) ≤ 31 := Nat.le_trans Nat.and_le_left (by omega)
        refine x_vh (r := []) (lj := [some _, some _]) i_86_21 w_76 hb.ob [_] rfl rfl (Nat.le_of_ble_eq_true rfl) (Nat.le_of_ble_eq_true rfl) rfl ?_
        refine c_76 hb r (by omega)  (fun q4 => rt_i ?_)
        refine x_zneN (by omega) i_86_24 ⟨fun g5 => ?_, fun g5 => ?_⟩
        · have k := kn g5 k
          refine n_iinc 1 i_86_44 rfl rfl rfl rfl ?_
          refine x_goto i_86_47 ?_
          refine x_wk (a_wk.s (a_wk.s (a_wk.s (a_wk.s (a_wk.d rfl a_wk.n))))) ?_
          exact ih r (by omega) (by omega) (by omega) (by omega) (by omega) k
        · have k := kp g5 k
          refine x_aload_n i_86_27 rfl ?_
          refine x_iload i_86_28 rfl ?_
          refine x_iload i_86_30 rfl ?_
          refine x_vh (r := []) (lj := [some _, some _, some _, none, none]) i_86_32 w_77 hb.ob [_, _] rfl rfl (Nat.le_of_ble_eq_true rfl) (Nat.le_of_ble_eq_true rfl) rfl ?_
          refine c_77 hb r (by omega) (by omega)  (fun q6 => rt_i ?_)
          refine n_iconst 4294967295 i_86_35 rfl ?_
          refine n_ineU (by omega) (by omega) i_86_36 ⟨fun g7 => ?_, fun g7 => ?_⟩
          · have k := kn g7 k
            refine n_iinc 1 i_86_44 rfl rfl rfl rfl ?_
            refine x_goto i_86_47 ?_
            refine x_wk (a_wk.s (a_wk.s (a_wk.s (a_wk.s (a_wk.d rfl a_wk.n))))) ?_
            exact ih r (by omega) (by omega) (by omega) (by omega) (by omega) k
          · have k := kp g7 k
            refine x_iload_n i_86_39 rfl ?_
            refine x_iload i_86_40 rfl ?_
            refine x_iorN i_86_42 ?_
            refine x_istore_n i_86_43 rfl rfl ?_
            refine n_iinc 1 i_86_44 rfl rfl rfl rfl ?_
            refine x_goto i_86_47 ?_
            refine x_wk (a_wk.s (a_wk.s (a_wk.s (a_wk.s (a_wk.d rfl a_wk.n))))) ?_
            have q8 : l2 ||| (l1 &&& (s_74 n A l3)) ≤ 31 := or_le 5 (by omega) (by omega)
            exact ih r (by omega) (by omega) (by omega) (by omega) (by omega) k
def s_86 (n : Nat) (A : HA) (l1 : Nat) : Nat :=
  (s_86_4 n (6) A l1 0 0)
theorem c_86 {sc : a_Sc} {fd : Nat} {M : a_Mm} {A : HA} {Q : Option Value → a_Hp → Prop} {b n : Nat} (hb : HB b) (r : RC M b n A) {l1 : Nat} (hl1 : l1 ≤ 31) (k : KP 31 Q (a_hp sc fd M) (s_86 n A l1)) : a_Ex 86 0 [some (.ref b), some (.int (N l1)), none, none, none] [] (a_hp sc fd M) Q := by
  unfold s_86 at k
  have n5 := r.n5
  have n2 := r.n2
  refine n_iconst 0 i_86_0 rfl ?_
  refine x_istore_n i_86_1 rfl rfl ?_
  refine n_iconst 0 i_86_2 rfl ?_
  refine x_istore_n i_86_3 rfl rfl ?_
  exact c_86_4 hb (6) r (by omega) (by omega) (by omega) (by omega) (by omega) k
def s_90_2 (n : Nat) : Nat → HA → Nat → Nat → Nat → Nat
  | 0, _, _, _, _ => 0
  | d + 1, A, l1, l2, l3 => (if n ≤ l3 then 1 else (if ((l1 >>> l3) &&& 1) = 1 then (if (s_49 n A (l1 &&& ((1 <<< l3) ^^^ 4294967295))) < l2 then (s_90_2 n d A l1 l2 (l3 + 1)) else 0) else (s_90_2 n d A l1 l2 (l3 + 1))))
theorem c_90_2 {sc : a_Sc} {fd : Nat} {Q : Option Value → a_Hp → Prop} {b n : Nat} (hb : HB b) : ∀ (d : Nat) {M : a_Mm} {A : HA} {l1 l2 l3 : Nat} (r : RC M b n A) (hl1 : l1 ≤ 31) (hl2 : l2 ≤ 15) (hl3 : l3 ≤ 5) (i0 : l3 ≤ n) (hm : n - l3 < d) (k : KP 1 Q (a_hp sc fd M) (s_90_2 n d A l1 l2 l3)), a_Ex 90 2 [some (.ref b), some (.int (N l1)), some (.int (N l2)), some (.int (N l3))] [] (a_hp sc fd M) Q := by
  intro d
  induction d with
  | zero => intro M A l1 l2 l3 r hl1 hl2 hl3 i0 hm k; exact absurd hm (Nat.not_lt_zero _)
  | succ d ih =>
      intro M A l1 l2 l3 r hl1 hl2 hl3 i0 hm k
      unfold s_90_2 at k
      have n5 := r.n5
      have n2 := r.n2
      refine x_iload_n i_90_2 rfl ?_
      refine x_aload_n i_90_3 rfl ?_
      refine n_gi (x := n) i_90_4 hb.ob gf_1_0.1 gf_1_0.2 r.nn ?_
      refine x_igeN (by omega) (by omega) i_90_7 ⟨fun g1 => ?_, fun g1 => ?_⟩
      · have k := kp g1 k
        refine n_iconst 1 i_90_42 rfl ?_
        refine x_iret i_90_43 rn_90 (by decide +kernel) ?_
        exact k (show 1 ≤ 1 by omega)
      · have k := kn g1 k
        refine x_iload_n i_90_10 rfl ?_
        refine x_iload_n i_90_11 rfl ?_
        refine x_ishrN (by omega) (by omega) i_90_12 ?_
        refine n_iconst 1 i_90_13 rfl ?_
        refine x_iandN i_90_14 ?_
        refine n_iconst 1 i_90_15 rfl ?_
        have q2 : l1 >>> l3 ≤ l1 := shr_le _ _
        have q3 : (l1 >>> l3) &&& 1 ≤ 1 := Nat.le_trans Nat.and_le_right (by omega)
        refine x_ineN (by omega) (by omega) i_90_16 ⟨fun g4 => ?_, fun g4 => ?_⟩
        · have k := kn g4 k
          refine n_iinc 1 i_90_36 rfl rfl rfl rfl ?_
          refine x_goto i_90_39 ?_
          exact ih r (by omega) (by omega) (by omega) (by omega) (by omega) k
        · have k := kp g4 k
          refine x_aload_n i_90_19 rfl ?_
          refine x_iload_n i_90_20 rfl ?_
          refine n_iconst 1 i_90_21 rfl ?_
          refine x_iload_n i_90_22 rfl ?_
          refine x_ishlN (by omega) i_90_23 ?_
          refine n_iconst 4294967295 i_90_24 rfl ?_
          refine x_ixorN i_90_25 ?_
          refine x_iandN i_90_26 ?_
          have q5 : 1 <<< l3 ≤ 16 := shl_le 4 (by omega)
          have q6 : l1 &&& ((1 <<< l3) ^^^ 4294967295) ≤ 31 := Nat.le_trans Nat.and_le_left (by omega)
          refine x_vh (r := []) (lj := [some _, some _, none, none]) i_90_27 w_49 hb.ob [_] rfl rfl (Nat.le_of_ble_eq_true rfl) (Nat.le_of_ble_eq_true rfl) rfl ?_
          refine c_49 hb r (by omega)  (fun q7 => rt_i ?_)
          refine x_iload_n i_90_30 rfl ?_
          refine x_iltN (by omega) (by omega) i_90_31 ⟨fun g8 => ?_, fun g8 => ?_⟩
          · have k := kp g8 k
            refine n_iinc 1 i_90_36 rfl rfl rfl rfl ?_
            refine x_goto i_90_39 ?_
            exact ih r (by omega) (by omega) (by omega) (by omega) (by omega) k
          · have k := kn g8 k
            refine n_iconst 0 i_90_34 rfl ?_
            refine x_iret i_90_35 rn_90 (by decide +kernel) ?_
            exact k (show 0 ≤ 1 by omega)
def s_90 (n : Nat) (A : HA) (l1 : Nat) (l2 : Nat) : Nat :=
  (s_90_2 n (6) A l1 l2 0)
theorem c_90 {sc : a_Sc} {fd : Nat} {M : a_Mm} {A : HA} {Q : Option Value → a_Hp → Prop} {b n : Nat} (hb : HB b) (r : RC M b n A) {l1 l2 : Nat} (hl1 : l1 ≤ 31) (hl2 : l2 ≤ 15) (k : KP 1 Q (a_hp sc fd M) (s_90 n A l1 l2)) : a_Ex 90 0 [some (.ref b), some (.int (N l1)), some (.int (N l2)), none] [] (a_hp sc fd M) Q := by
  unfold s_90 at k
  have n5 := r.n5
  have n2 := r.n2
  refine n_iconst 0 i_90_0 rfl ?_
  refine x_istore_n i_90_1 rfl rfl ?_
  exact c_90_2 hb (6) r (by omega) (by omega) (by omega) (by omega) (by omega) k
def s_91_4 (n : Nat) : Nat → HA → Nat → Nat → Nat
  | 0, _, _, _ => 0
  | d + 1, A, l1, l2 => (if n ≤ l2 then l1 else (s_91_4 n d A ((l1 * 10) + (A 0 l2)) (l2 + 1)))
theorem c_91_4 {sc : a_Sc} {fd : Nat} {Q : Option Value → a_Hp → Prop} {b n : Nat} (hb : HB b) : ∀ (d : Nat) {M : a_Mm} {A : HA} {l1 l2 : Nat} (r : RC M b n A) (hl2 : l2 ≤ 5) (i0 : l2 ≤ n) (hm : n - l2 < d) (k : KQ Q (a_hp sc fd M) (s_91_4 n d A l1 l2)), a_Ex 91 4 [some (.ref b), some (.int (N l1)), some (.int (N l2))] [] (a_hp sc fd M) Q := by
  intro d
  induction d with
  | zero => intro M A l1 l2 r hl2 i0 hm k; exact absurd hm (Nat.not_lt_zero _)
  | succ d ih =>
      intro M A l1 l2 r hl2 i0 hm k
      unfold s_91_4 at k
      have n5 := r.n5
      have n2 := r.n2
      refine x_iload_n i_91_4 rfl ?_
      refine x_aload_n i_91_5 rfl ?_
      refine n_gi (x := n) i_91_6 hb.ob gf_1_0.1 gf_1_0.2 r.nn ?_
      refine x_igeN (by omega) (by omega) i_91_9 ⟨fun g1 => ?_, fun g1 => ?_⟩
      · have k := kp g1 k
        refine x_iload_n i_91_30 rfl ?_
        refine x_iret i_91_31 rn_91 rfl ?_
        exact k
      · have k := kn g1 k
        refine x_iload_n i_91_12 rfl ?_
        refine n_bipush 10 i_91_13 rfl ?_
        refine x_imulN i_91_15 ?_
        refine x_aload_n i_91_16 rfl ?_
        refine x_gr i_91_17 hb.ob gr_1_5.1 gr_1_5.2 (hb.r5 _) ?_
        refine x_iload_n i_91_20 rfl ?_
        refine n_ld (x := A 0 l2) i_91_21 hb.a1 (by omega) (by omega) (r.a0 (by omega)) ?_
        refine x_iaddN i_91_22 ?_
        refine x_istore_n i_91_23 rfl rfl ?_
        refine n_iinc 1 i_91_24 rfl rfl rfl rfl ?_
        refine x_goto i_91_27 ?_
        have q2 : A 0 l2 ≤ 5 := r.w.b0 (by omega)
        exact ih r (by omega) (by omega) (by omega) k
def s_91 (n : Nat) (A : HA) : Nat :=
  (s_91_4 n (6) A 0 0)
theorem c_91 {sc : a_Sc} {fd : Nat} {M : a_Mm} {A : HA} {Q : Option Value → a_Hp → Prop} {b n : Nat} (hb : HB b) (r : RC M b n A) (k : KQ Q (a_hp sc fd M) (s_91 n A)) : a_Ex 91 0 [some (.ref b), none, none] [] (a_hp sc fd M) Q := by
  unfold s_91 at k
  have n5 := r.n5
  have n2 := r.n2
  refine n_iconst 0 i_91_0 rfl ?_
  refine x_istore_n i_91_1 rfl rfl ?_
  refine n_iconst 0 i_91_2 rfl ?_
  refine x_istore_n i_91_3 rfl rfl ?_
  exact c_91_4 hb (6) r (by omega) (by omega) (by omega) k
def s_92_14 (n : Nat) : Nat → HA → Nat → Nat → Nat
  | 0, _, _, _ => 0
  | d + 1, A, l1, l2 => (if 3 ≤ l2 then (((l1 * 16) + (A 6 3)) * 16) + (A 6 4) else (s_92_14 n d A (((l1 * 8) + ((A 3 l2) * 4)) + (A 4 l2)) (l2 + 1)))
theorem c_92_14 {sc : a_Sc} {fd : Nat} {Q : Option Value → a_Hp → Prop} {b n : Nat} (hb : HB b) : ∀ (d : Nat) {M : a_Mm} {A : HA} {l1 l2 : Nat} (r : RC M b n A) (hl2 : l2 ≤ 3) (i0 : l2 ≤ 3) (hm : 3 - l2 < d) (k : KQ Q (a_hp sc fd M) (s_92_14 n d A l1 l2)), a_Ex 92 14 [some (.ref b), some (.int (N l1)), some (.int (N l2))] [] (a_hp sc fd M) Q := by
  intro d
  induction d with
  | zero => intro M A l1 l2 r hl2 i0 hm k; exact absurd hm (Nat.not_lt_zero _)
  | succ d ih =>
      intro M A l1 l2 r hl2 i0 hm k
      unfold s_92_14 at k
      have n5 := r.n5
      have n2 := r.n2
      refine x_iload_n i_92_14 rfl ?_
      refine n_iconst 3 i_92_15 rfl ?_
      refine x_igeN (by omega) (by omega) i_92_16 ⟨fun g1 => ?_, fun g1 => ?_⟩
      · have k := kp g1 k
        refine x_iload_n i_92_46 rfl ?_
        refine n_bipush 16 i_92_47 rfl ?_
        refine x_imulN i_92_49 ?_
        refine x_aload_n i_92_50 rfl ?_
        refine n_gi (x := A 6 3) i_92_51 hb.ob gf_1_3.1 gf_1_3.2 r.f3 ?_
        refine x_iaddN i_92_54 ?_
        refine n_bipush 16 i_92_55 rfl ?_
        refine x_imulN i_92_57 ?_
        refine x_aload_n i_92_58 rfl ?_
        refine n_gi (x := A 6 4) i_92_59 hb.ob gf_1_4.1 gf_1_4.2 r.f4 ?_
        refine x_iaddN i_92_62 ?_
        have q2 : A 6 3 ≤ 15 := r.w.f3
        have q3 : A 6 4 ≤ 15 := r.w.f4
        refine x_iret i_92_63 rn_92 rfl ?_
        exact k
      · have k := kn g1 k
        refine x_iload_n i_92_19 rfl ?_
        refine n_bipush 8 i_92_20 rfl ?_
        refine x_imulN i_92_22 ?_
        refine x_aload_n i_92_23 rfl ?_
        refine x_gr i_92_24 hb.ob gr_1_8.1 gr_1_8.2 (hb.r8 _) ?_
        refine x_iload_n i_92_27 rfl ?_
        refine n_ld (x := A 3 l2) i_92_28 hb.a4 (by omega) (by omega) (r.a3 (by omega)) ?_
        refine n_iconst 4 i_92_29 rfl ?_
        refine x_imulN i_92_30 ?_
        refine x_iaddN i_92_31 ?_
        refine x_aload_n i_92_32 rfl ?_
        refine x_gr i_92_33 hb.ob gr_1_9.1 gr_1_9.2 (hb.r9 _) ?_
        refine x_iload_n i_92_36 rfl ?_
        refine n_ld (x := A 4 l2) i_92_37 hb.a5 (by omega) (by omega) (r.a4 (by omega)) ?_
        refine x_iaddN i_92_38 ?_
        refine x_istore_n i_92_39 rfl rfl ?_
        refine n_iinc 1 i_92_40 rfl rfl rfl rfl ?_
        refine x_goto i_92_43 ?_
        have q4 : A 3 l2 ≤ 1 := r.w.b3 (by omega)
        have q5 : A 4 l2 ≤ 3 := r.w.b4 (by omega)
        exact ih r (by omega) (by omega) (by omega) k
def s_92 (n : Nat) (A : HA) : Nat :=
  (s_92_14 n (6) A ((n * 2) + (A 6 1)) 0)
theorem c_92 {sc : a_Sc} {fd : Nat} {M : a_Mm} {A : HA} {Q : Option Value → a_Hp → Prop} {b n : Nat} (hb : HB b) (r : RC M b n A) (k : KQ Q (a_hp sc fd M) (s_92 n A)) : a_Ex 92 0 [some (.ref b), none, none] [] (a_hp sc fd M) Q := by
  unfold s_92 at k
  have n5 := r.n5
  have n2 := r.n2
  refine x_aload_n i_92_0 rfl ?_
  refine n_gi (x := n) i_92_1 hb.ob gf_1_0.1 gf_1_0.2 r.nn ?_
  refine n_iconst 2 i_92_4 rfl ?_
  refine x_imulN i_92_5 ?_
  refine x_aload_n i_92_6 rfl ?_
  refine n_gi (x := A 6 1) i_92_7 hb.ob gf_1_1.1 gf_1_1.2 r.f1 ?_
  refine x_iaddN i_92_10 ?_
  refine x_istore_n i_92_11 rfl rfl ?_
  refine n_iconst 0 i_92_12 rfl ?_
  refine x_istore_n i_92_13 rfl rfl ?_
  have q1 : A 6 1 ≤ 1 := r.w.f1
  exact c_92_14 hb (6) r (by omega) (by omega) (by omega) k
def s_93_4 (n : Nat) : Nat → HA → Nat → Nat → Nat
  | 0, _, _, _ => 0
  | d + 1, A, l1, l2 => (if n ≤ l2 then (((((l1 * 8) + (s_69 n A 1)) * 4) + ((s_74 n A 1) >>> 1)) * 4) + (A 6 2) else (s_93_4 n d A ((l1 * 6) + (A 0 l2)) (l2 + 1)))
theorem c_93_4 {sc : a_Sc} {fd : Nat} {Q : Option Value → a_Hp → Prop} {b n : Nat} (hb : HB b) : ∀ (d : Nat) {M : a_Mm} {A : HA} {l1 l2 : Nat} (r : RC M b n A) (hl2 : l2 ≤ 5) (i0 : l2 ≤ n) (hm : n - l2 < d) (k : KQ Q (a_hp sc fd M) (s_93_4 n d A l1 l2)), a_Ex 93 4 [some (.ref b), some (.int (N l1)), some (.int (N l2))] [] (a_hp sc fd M) Q := by
  intro d
  induction d with
  | zero => intro M A l1 l2 r hl2 i0 hm k; exact absurd hm (Nat.not_lt_zero _)
  | succ d ih =>
      intro M A l1 l2 r hl2 i0 hm k
      unfold s_93_4 at k
      have n5 := r.n5
      have n2 := r.n2
      refine x_iload_n i_93_4 rfl ?_
      refine x_aload_n i_93_5 rfl ?_
      refine n_gi (x := n) i_93_6 hb.ob gf_1_0.1 gf_1_0.2 r.nn ?_
      refine x_igeN (by omega) (by omega) i_93_9 ⟨fun g1 => ?_, fun g1 => ?_⟩
      · have k := kp g1 k
        refine x_iload_n i_93_30 rfl ?_
        refine n_bipush 8 i_93_31 rfl ?_
        refine x_imulN i_93_33 ?_
        refine x_aload_n i_93_34 rfl ?_
        refine x_vh (r := [_]) (lj := [some _]) i_93_35 w_68 hb.ob [] rfl rfl (Nat.le_of_ble_eq_true rfl) (Nat.le_of_ble_eq_true rfl) rfl ?_
        refine x_aload_n i_68_0 rfl ?_
        refine n_iconst 1 i_68_1 rfl ?_
        refine x_vh (r := []) (lj := [some _, some _, none, none]) i_68_2 w_69 hb.ob [_] rfl rfl (Nat.le_of_ble_eq_true rfl) (Nat.le_of_ble_eq_true rfl) rfl ?_
        refine c_69 hb r (by omega)  (fun q2 => rt_i ?_)
        refine x_iretI i_68_5 rn_68 rfl ?_
        refine x_iaddN i_93_38 ?_
        refine n_iconst 4 i_93_39 rfl ?_
        refine x_imulN i_93_40 ?_
        refine x_aload_n i_93_41 rfl ?_
        refine n_iconst 1 i_93_42 rfl ?_
        refine x_vh (r := [_]) (lj := [some _, some _, none, none]) i_93_43 w_74 hb.ob [_] rfl rfl (Nat.le_of_ble_eq_true rfl) (Nat.le_of_ble_eq_true rfl) rfl ?_
        refine c_74 hb r (by omega)  (fun q3 => rt_i ?_)
        refine n_iconst 1 i_93_46 rfl ?_
        refine x_ishrN (by omega) (by omega) i_93_47 ?_
        refine x_iaddN i_93_48 ?_
        refine n_iconst 4 i_93_49 rfl ?_
        refine x_imulN i_93_50 ?_
        refine x_aload_n i_93_51 rfl ?_
        refine n_gi (x := A 6 2) i_93_52 hb.ob gf_1_2.1 gf_1_2.2 r.f2 ?_
        refine x_iaddN i_93_55 ?_
        have q4 : (s_74 n A 1) >>> 1 ≤ (s_74 n A 1) := shr_le _ _
        have q5 : A 6 2 ≤ 3 := r.w.f2
        refine x_iret i_93_56 rn_93 rfl ?_
        exact k
      · have k := kn g1 k
        refine x_iload_n i_93_12 rfl ?_
        refine n_bipush 6 i_93_13 rfl ?_
        refine x_imulN i_93_15 ?_
        refine x_aload_n i_93_16 rfl ?_
        refine x_gr i_93_17 hb.ob gr_1_5.1 gr_1_5.2 (hb.r5 _) ?_
        refine x_iload_n i_93_20 rfl ?_
        refine n_ld (x := A 0 l2) i_93_21 hb.a1 (by omega) (by omega) (r.a0 (by omega)) ?_
        refine x_iaddN i_93_22 ?_
        refine x_istore_n i_93_23 rfl rfl ?_
        refine n_iinc 1 i_93_24 rfl rfl rfl rfl ?_
        refine x_goto i_93_27 ?_
        have q6 : A 0 l2 ≤ 5 := r.w.b0 (by omega)
        exact ih r (by omega) (by omega) (by omega) k
def s_93 (n : Nat) (A : HA) : Nat :=
  (s_93_4 n (6) A 0 0)
theorem c_93 {sc : a_Sc} {fd : Nat} {M : a_Mm} {A : HA} {Q : Option Value → a_Hp → Prop} {b n : Nat} (hb : HB b) (r : RC M b n A) (k : KQ Q (a_hp sc fd M) (s_93 n A)) : a_Ex 93 0 [some (.ref b), none, none] [] (a_hp sc fd M) Q := by
  unfold s_93 at k
  have n5 := r.n5
  have n2 := r.n2
  refine n_iconst 0 i_93_0 rfl ?_
  refine x_istore_n i_93_1 rfl rfl ?_
  refine n_iconst 0 i_93_2 rfl ?_
  refine x_istore_n i_93_3 rfl rfl ?_
  exact c_93_4 hb (6) r (by omega) (by omega) (by omega) k
def s_95_16 (n : Nat) : Nat → HA → Nat → Nat → Nat → Nat → Nat
  | 0, _, _, _, _, _ => 0
  | d + 1, A, l2, l3, l4, l5 => (if n ≤ l5 then (if l2 = 0 then l3 else 4294967295) else (if (l2 % 10) < 6 then (s_95_16 n d A (l2 / 10) (l3 + ((l2 % 10) * l4)) (l4 * 6) (l5 + 1)) else 4294967295))
theorem c_95_16 {sc : a_Sc} {fd : Nat} {Q : Option Value → a_Hp → Prop} {b n : Nat} (hb : HB b) : ∀ (d : Nat) {M : a_Mm} {A : HA} {l2 l3 l4 l5 : Nat} (r : RC M b n A) (hl2 : l2 ≤ 2147483647) (hl5 : l5 ≤ 5) (i0 : l5 ≤ n) (hm : n - l5 < d) (k : KQ Q (a_hp sc fd M) (s_95_16 n d A l2 l3 l4 l5)), a_Ex 95 16 [some (.ref b), none, some (.int (N l2)), some (.int (N l3)), some (.int (N l4)), some (.int (N l5))] [] (a_hp sc fd M) Q := by
  intro d
  induction d with
  | zero => intro M A l2 l3 l4 l5 r hl2 hl5 i0 hm k; exact absurd hm (Nat.not_lt_zero _)
  | succ d ih =>
      intro M A l2 l3 l4 l5 r hl2 hl5 i0 hm k
      unfold s_95_16 at k
      have n5 := r.n5
      have n2 := r.n2
      refine x_iload i_95_16 rfl ?_
      refine x_aload_n i_95_18 rfl ?_
      refine n_gi (x := n) i_95_19 hb.ob gf_1_0.1 gf_1_0.2 r.nn ?_
      refine x_igeN (by omega) (by omega) i_95_22 ⟨fun g1 => ?_, fun g1 => ?_⟩
      · have k := kp g1 k
        refine x_iload_n i_95_64 rfl ?_
        refine x_zneN (by omega) i_95_65 ⟨fun g2 => ?_, fun g2 => ?_⟩
        · have k := kn g2 k
          refine n_iconst 4294967295 i_95_72 rfl ?_
          refine x_iret i_95_73 rn_95 rfl ?_
          exact k
        · have k := kp g2 k
          refine x_iload_n i_95_68 rfl ?_
          refine x_goto i_95_69 ?_
          refine x_iret i_95_73 rn_95 rfl ?_
          exact k
      · have k := kn g1 k
        refine x_iload_n i_95_25 rfl ?_
        refine n_bipush 10 i_95_26 rfl ?_
        refine x_iremN (by omega) (by omega) (by omega) i_95_28 ?_
        refine n_bipush 6 i_95_29 rfl ?_
        refine x_iltN (by omega) (by omega) i_95_31 ⟨fun g3 => ?_, fun g3 => ?_⟩
        · have k := kp g3 k
          refine x_iload_n i_95_36 rfl ?_
          refine x_iload_n i_95_37 rfl ?_
          refine n_bipush 10 i_95_38 rfl ?_
          refine x_iremN (by omega) (by omega) (by omega) i_95_40 ?_
          refine x_iload i_95_41 rfl ?_
          refine x_imulN i_95_43 ?_
          refine x_iaddN i_95_44 ?_
          refine x_istore_n i_95_45 rfl rfl ?_
          refine x_iload i_95_46 rfl ?_
          refine n_bipush 6 i_95_48 rfl ?_
          refine x_imulN i_95_50 ?_
          refine x_istore i_95_51 rfl rfl ?_
          refine x_iload_n i_95_53 rfl ?_
          refine n_bipush 10 i_95_54 rfl ?_
          refine x_idivN (by omega) (by omega) (by omega) i_95_56 ?_
          refine x_istore_n i_95_57 rfl rfl ?_
          refine n_iinc 1 i_95_58 rfl rfl rfl rfl ?_
          refine x_goto i_95_61 ?_
          exact ih r (by omega) (by omega) (by omega) (by omega) k
        · have k := kn g3 k
          refine n_iconst 4294967295 i_95_34 rfl ?_
          refine x_iret i_95_35 rn_95 rfl ?_
          exact k
def s_95 (n : Nat) (A : HA) (l1 : Nat) : Nat :=
  (if 2147483648 ≤ l1 then 4294967295 else (s_95_16 n (6) A l1 0 1 0))
theorem c_95 {sc : a_Sc} {fd : Nat} {M : a_Mm} {A : HA} {Q : Option Value → a_Hp → Prop} {b n : Nat} (hb : HB b) (r : RC M b n A) {l1 : Nat} (hl1 : l1 ≤ 4294967295) (k : KQ Q (a_hp sc fd M) (s_95 n A l1)) : a_Ex 95 0 [some (.ref b), some (.int (N l1)), none, none, none, none] [] (a_hp sc fd M) Q := by
  unfold s_95 at k
  have n5 := r.n5
  have n2 := r.n2
  refine x_iload_n i_95_0 rfl ?_
  refine n_zgeU (by omega) i_95_1 ⟨fun g1 => ?_, fun g1 => ?_⟩
  · have k := kn g1 k
    refine x_iload_n i_95_6 rfl ?_
    refine x_istore_n i_95_7 rfl rfl ?_
    refine n_iconst 0 i_95_8 rfl ?_
    refine x_istore_n i_95_9 rfl rfl ?_
    refine n_iconst 1 i_95_10 rfl ?_
    refine x_istore i_95_11 rfl rfl ?_
    refine n_iconst 0 i_95_13 rfl ?_
    refine x_istore i_95_14 rfl rfl ?_
    refine x_wk (a_wk.s (a_wk.d rfl (a_wk.s (a_wk.s (a_wk.s (a_wk.s a_wk.n)))))) ?_
    exact c_95_16 hb (6) r (by omega) (by omega) (by omega) (by omega) k
  · have k := kp g1 k
    refine n_iconst 4294967295 i_95_4 rfl ?_
    refine x_iret i_95_5 rn_95 rfl ?_
    exact k
