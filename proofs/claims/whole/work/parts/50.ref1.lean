/-! the methods of the reference as functions, by program -/
def s_158_5 (n : Nat) : Nat → HA → Nat → Nat → Nat → Nat → Nat
  | 0, _, _, _, _, _ => 0
  | d + 1, A, l1, l2, l3, l4 => (if n ≤ l4 then l3 else (if (A l1 l4) = l2 then (s_158_5 n d A l1 l2 (l3 ||| (1 <<< l4)) (l4 + 1)) else (s_158_5 n d A l1 l2 (l3 ||| 0) (l4 + 1))))
theorem c_158_5 {sc : a_Sc} {fd : Nat} {Q : Option Value → a_Hp → Prop} {n : Nat} : ∀ (d : Nat) {M : a_Mm} {A : HA} {l1 l2 l3 l4 : Nat} (r : RM M n A) (hl1 : l1 ≤ 5) (hl2 : l2 ≤ 5) (hl3 : l3 ≤ 31) (hl4 : l4 ≤ 5) (i0 : l4 ≤ n) (hm : n - l4 < d) (k : KP 31 Q (a_hp sc fd M) (s_158_5 n d A l1 l2 l3 l4)), a_Ex 158 5 [some (.ref 170), some (.int (N l1)), some (.int (N l2)), some (.int (N l3)), some (.int (N l4))] [] (a_hp sc fd M) Q := by
  intro d
  induction d with
  | zero => intro M A l1 l2 l3 l4 r hl1 hl2 hl3 hl4 i0 hm k; exact absurd hm (Nat.not_lt_zero _)
  | succ d ih =>
      intro M A l1 l2 l3 l4 r hl1 hl2 hl3 hl4 i0 hm k
      unfold s_158_5 at k
      have n5 := r.n5
      have n2 := r.n2
      refine x_iload i_158_5 rfl ?_
      refine x_aload_n i_158_7 rfl ?_
      refine x_gr i_158_8 ob_170 gr_8_1.1 gr_8_1.2 (rt_170_1 _) ?_
      refine n_iconst 0 i_158_11 rfl ?_
      refine n_ld (x := n) i_158_12 ar_171 (by omega) (by omega) r.nn ?_
      refine x_igeN (by omega) (by omega) i_158_13 ⟨fun g1 => ?_, fun g1 => ?_⟩
      · have k := kp g1 k
        refine x_iload_n i_158_44 rfl ?_
        refine x_iret i_158_45 rn_158 rfl ?_
        exact k (show l3 ≤ 31 by omega)
      · have k := kn g1 k
        refine x_iload_n i_158_16 rfl ?_
        refine x_aload_n i_158_17 rfl ?_
        refine x_iload i_158_18 rfl ?_
        refine x_iload_n i_158_20 rfl ?_
        refine n_atx (A l1 l4) i_158_21 r l1 (by omega) (by omega) (Nat.le_of_ble_eq_true rfl) rfl ?_
        refine x_iload_n i_158_24 rfl ?_
        have q2 : A l1 l4 ≤ 31 := r.w.ball (by omega) (by omega)
        refine x_ineN (by omega) (by omega) i_158_25 ⟨fun g3 => ?_, fun g3 => ?_⟩
        · have k := kn g3 k
          refine n_iconst 0 i_158_35 rfl ?_
          refine x_iorN i_158_36 ?_
          refine x_istore_n i_158_37 rfl rfl ?_
          refine n_iinc 1 i_158_38 rfl rfl rfl rfl ?_
          refine x_goto i_158_41 ?_
          have q4 : l3 ||| 0 ≤ 31 := or_le 5 (by omega) (by omega)
          exact ih r (by omega) (by omega) (by omega) (by omega) (by omega) (by omega) k
        · have k := kp g3 k
          refine n_iconst 1 i_158_28 rfl ?_
          refine x_iload i_158_29 rfl ?_
          refine x_ishlN (by omega) i_158_31 ?_
          refine x_goto i_158_32 ?_
          refine x_iorN i_158_36 ?_
          refine x_istore_n i_158_37 rfl rfl ?_
          refine n_iinc 1 i_158_38 rfl rfl rfl rfl ?_
          refine x_goto i_158_41 ?_
          have q5 : 1 <<< l4 ≤ 16 := shl_le 4 (by omega)
          have q6 : l3 ||| (1 <<< l4) ≤ 31 := or_le 5 (by omega) (by omega)
          exact ih r (by omega) (by omega) (by omega) (by omega) (by omega) (by omega) k
def s_158 (n : Nat) (A : HA) (l1 : Nat) (l2 : Nat) : Nat :=
  (s_158_5 n (6) A l1 l2 0 0)
theorem c_158 {sc : a_Sc} {fd : Nat} {M : a_Mm} {A : HA} {Q : Option Value → a_Hp → Prop} {n : Nat} (r : RM M n A) {l1 l2 : Nat} (hl1 : l1 ≤ 5) (hl2 : l2 ≤ 5) (k : KP 31 Q (a_hp sc fd M) (s_158 n A l1 l2)) : a_Ex 158 0 [some (.ref 170), some (.int (N l1)), some (.int (N l2)), none, none] [] (a_hp sc fd M) Q := by
  unfold s_158 at k
  have n5 := r.n5
  have n2 := r.n2
  refine n_iconst 0 i_158_0 rfl ?_
  refine x_istore_n i_158_1 rfl rfl ?_
  refine n_iconst 0 i_158_2 rfl ?_
  refine x_istore i_158_3 rfl rfl ?_
  exact c_158_5 (6) r (by omega) (by omega) (by omega) (by omega) (by omega) (by omega) k
def s_160_4 (n : Nat) : Nat → HA → Nat → Nat → Nat → Nat
  | 0, _, _, _, _ => 0
  | d + 1, A, l1, l2, l3 => (if n ≤ l3 then l2 else (if ((l1 >>> l3) &&& 1) = 1 then (s_160_4 n d A l1 (l2 + (A 4 l3)) (l3 + 1)) else (s_160_4 n d A l1 (l2 + 0) (l3 + 1))))
theorem c_160_4 {sc : a_Sc} {fd : Nat} {Q : Option Value → a_Hp → Prop} {n : Nat} : ∀ (d : Nat) {M : a_Mm} {A : HA} {l1 l2 l3 : Nat} (r : RM M n A) (hl1 : l1 ≤ 31) (hl2 : l2 ≤ 15) (hl3 : l3 ≤ 5) (i0 : l2 ≤ 3 * l3) (i1 : l3 ≤ n) (hm : n - l3 < d) (k : KP 15 Q (a_hp sc fd M) (s_160_4 n d A l1 l2 l3)), a_Ex 160 4 [some (.ref 170), some (.int (N l1)), some (.int (N l2)), some (.int (N l3))] [] (a_hp sc fd M) Q := by
  intro d
  induction d with
  | zero => intro M A l1 l2 l3 r hl1 hl2 hl3 i0 i1 hm k; exact absurd hm (Nat.not_lt_zero _)
  | succ d ih =>
      intro M A l1 l2 l3 r hl1 hl2 hl3 i0 i1 hm k
      unfold s_160_4 at k
      have n5 := r.n5
      have n2 := r.n2
      refine x_iload_n i_160_4 rfl ?_
      refine x_aload_n i_160_5 rfl ?_
      refine x_gr i_160_6 ob_170 gr_8_1.1 gr_8_1.2 (rt_170_1 _) ?_
      refine n_iconst 0 i_160_9 rfl ?_
      refine n_ld (x := n) i_160_10 ar_171 (by omega) (by omega) r.nn ?_
      refine x_igeN (by omega) (by omega) i_160_11 ⟨fun g1 => ?_, fun g1 => ?_⟩
      · have k := kp g1 k
        refine x_iload_n i_160_41 rfl ?_
        refine x_iret i_160_42 rn_160 rfl ?_
        exact k (show l2 ≤ 15 by omega)
      · have k := kn g1 k
        refine x_iload_n i_160_14 rfl ?_
        refine x_iload_n i_160_15 rfl ?_
        refine x_iload_n i_160_16 rfl ?_
        refine x_sh (r := [_]) (lj := [some _, some _]) i_160_17 ws_161 [_, _] rfl rfl (Nat.le_of_ble_eq_true rfl) (Nat.le_of_ble_eq_true rfl) rfl ?_
        refine x_iload_n i_161_0 rfl ?_
        refine x_iload_n i_161_1 rfl ?_
        refine x_ishrN (by omega) (by omega) i_161_2 ?_
        refine n_iconst 1 i_161_3 rfl ?_
        refine x_iandN i_161_4 ?_
        refine n_iconst 1 i_161_5 rfl ?_
        have q2 : l1 >>> l3 ≤ l1 := shr_le _ _
        have q3 : (l1 >>> l3) &&& 1 ≤ 1 := Nat.le_trans Nat.and_le_right (by omega)
        have q4 : (l1 >>> l3) &&& 1 ≤ (l1 >>> l3) := Nat.and_le_left
        refine x_ineN (by omega) (by omega) i_161_6 ⟨fun g5 => ?_, fun g5 => ?_⟩
        · have k := kn g5 k
          refine n_iconst 0 i_161_13 rfl ?_
          refine x_iretI i_161_14 rn_161 (by decide +kernel) ?_
          refine x_ifT i_160_20 (by decide +kernel) ?_
          refine n_iconst 0 i_160_32 rfl ?_
          refine x_iaddN i_160_33 ?_
          refine x_istore_n i_160_34 rfl rfl ?_
          refine n_iinc 1 i_160_35 rfl rfl rfl rfl ?_
          refine x_goto i_160_38 ?_
          exact ih r (by omega) (by omega) (by omega) (by omega) (by omega) (by omega) k
        · have k := kp g5 k
          refine n_iconst 1 i_161_9 rfl ?_
          refine x_goto i_161_10 ?_
          refine x_iretI i_161_14 rn_161 (by decide +kernel) ?_
          refine x_ifF i_160_20 (by decide +kernel) ?_
          refine x_aload_n i_160_23 rfl ?_
          refine x_iload_n i_160_24 rfl ?_
          refine n_iconst 4 i_160_25 rfl ?_
          refine n_atx (A 4 l3) i_160_26 r 4 (by omega) (by omega) (Nat.le_of_ble_eq_true rfl) rfl ?_
          refine x_goto i_160_29 ?_
          refine x_iaddN i_160_33 ?_
          refine x_istore_n i_160_34 rfl rfl ?_
          refine n_iinc 1 i_160_35 rfl rfl rfl rfl ?_
          refine x_goto i_160_38 ?_
          have q6 : A 4 l3 ≤ 3 := r.w.b4 (by omega)
          exact ih r (by omega) (by omega) (by omega) (by omega) (by omega) (by omega) k
def s_160 (n : Nat) (A : HA) (l1 : Nat) : Nat :=
  (s_160_4 n (6) A l1 0 0)
theorem c_160 {sc : a_Sc} {fd : Nat} {M : a_Mm} {A : HA} {Q : Option Value → a_Hp → Prop} {n : Nat} (r : RM M n A) {l1 : Nat} (hl1 : l1 ≤ 31) (k : KP 15 Q (a_hp sc fd M) (s_160 n A l1)) : a_Ex 160 0 [some (.ref 170), some (.int (N l1)), none, none] [] (a_hp sc fd M) Q := by
  unfold s_160 at k
  have n5 := r.n5
  have n2 := r.n2
  refine n_iconst 0 i_160_0 rfl ?_
  refine x_istore_n i_160_1 rfl rfl ?_
  refine n_iconst 0 i_160_2 rfl ?_
  refine x_istore_n i_160_3 rfl rfl ?_
  exact c_160_4 (6) r (by omega) (by omega) (by omega) (by omega) (by omega) (by omega) k
def s_198_7 (n : Nat) : Nat → HA → Nat → Nat → Nat → Nat
  | 0, _, _, _, _ => 0
  | d + 1, A, l1, l2, l3 => (if n ≤ l3 then l2 else (if ((l1 >>> l3) &&& 1) = 1 then (s_198_7 n d A l1 (l2 &&& (A 5 l3)) (l3 + 1)) else (s_198_7 n d A l1 l2 (l3 + 1))))
theorem c_198_7 {sc : a_Sc} {fd : Nat} {Q : Option Value → a_Hp → Prop} {n : Nat} : ∀ (d : Nat) {M : a_Mm} {A : HA} {l1 l2 l3 : Nat} (r : RM M n A) (hl1 : l1 ≤ 31) (hl2 : l2 ≤ 31) (hl3 : l3 ≤ 5) (i0 : l3 ≤ n) (hm : n - l3 < d) (k : KP 31 Q (a_hp sc fd M) (s_198_7 n d A l1 l2 l3)), a_Ex 198 7 [some (.ref 170), some (.int (N l1)), some (.int (N l2)), some (.int (N l3))] [] (a_hp sc fd M) Q := by
  intro d
  induction d with
  | zero => intro M A l1 l2 l3 r hl1 hl2 hl3 i0 hm k; exact absurd hm (Nat.not_lt_zero _)
  | succ d ih =>
      intro M A l1 l2 l3 r hl1 hl2 hl3 i0 hm k
      unfold s_198_7 at k
      have n5 := r.n5
      have n2 := r.n2
      refine x_iload_n i_198_7 rfl ?_
      refine x_aload_n i_198_8 rfl ?_
      refine x_gr i_198_9 ob_170 gr_8_1.1 gr_8_1.2 (rt_170_1 _) ?_
      refine n_iconst 0 i_198_12 rfl ?_
      refine n_ld (x := n) i_198_13 ar_171 (by omega) (by omega) r.nn ?_
      refine x_igeN (by omega) (by omega) i_198_14 ⟨fun g1 => ?_, fun g1 => ?_⟩
      · have k := kp g1 k
        refine x_iload_n i_198_40 rfl ?_
        refine x_iret i_198_41 rn_198 rfl ?_
        exact k (show l2 ≤ 31 by omega)
      · have k := kn g1 k
        refine x_iload_n i_198_17 rfl ?_
        refine x_iload_n i_198_18 rfl ?_
        refine x_sh (r := []) (lj := [some _, some _]) i_198_19 ws_161 [_, _] rfl rfl (Nat.le_of_ble_eq_true rfl) (Nat.le_of_ble_eq_true rfl) rfl ?_
        refine x_iload_n i_161_0 rfl ?_
        refine x_iload_n i_161_1 rfl ?_
        refine x_ishrN (by omega) (by omega) i_161_2 ?_
        refine n_iconst 1 i_161_3 rfl ?_
        refine x_iandN i_161_4 ?_
        refine n_iconst 1 i_161_5 rfl ?_
        have q2 : l1 >>> l3 ≤ l1 := shr_le _ _
        have q3 : (l1 >>> l3) &&& 1 ≤ 1 := Nat.le_trans Nat.and_le_right (by omega)
        have q4 : (l1 >>> l3) &&& 1 ≤ (l1 >>> l3) := Nat.and_le_left
        refine x_ineN (by omega) (by omega) i_161_6 ⟨fun g5 => ?_, fun g5 => ?_⟩
        · have k := kn g5 k
          refine n_iconst 0 i_161_13 rfl ?_
          refine x_iretI i_161_14 rn_161 (by decide +kernel) ?_
          refine x_ifT i_198_22 (by decide +kernel) ?_
          refine n_iinc 1 i_198_34 rfl rfl rfl rfl ?_
          refine x_goto i_198_37 ?_
          exact ih r (by omega) (by omega) (by omega) (by omega) (by omega) k
        · have k := kp g5 k
          refine n_iconst 1 i_161_9 rfl ?_
          refine x_goto i_161_10 ?_
          refine x_iretI i_161_14 rn_161 (by decide +kernel) ?_
          refine x_ifF i_198_22 (by decide +kernel) ?_
          refine x_iload_n i_198_25 rfl ?_
          refine x_aload_n i_198_26 rfl ?_
          refine x_iload_n i_198_27 rfl ?_
          refine n_iconst 5 i_198_28 rfl ?_
          refine n_atx (A 5 l3) i_198_29 r 5 (by omega) (by omega) (Nat.le_of_ble_eq_true rfl) rfl ?_
          refine x_iandN i_198_32 ?_
          refine x_istore_n i_198_33 rfl rfl ?_
          refine n_iinc 1 i_198_34 rfl rfl rfl rfl ?_
          refine x_goto i_198_37 ?_
          have q6 : A 5 l3 ≤ 31 := r.w.b5 (by omega)
          have q7 : l2 &&& (A 5 l3) ≤ 31 := Nat.le_trans Nat.and_le_left (by omega)
          have q8 : l2 &&& (A 5 l3) ≤ l2 := Nat.and_le_left
          exact ih r (by omega) (by omega) (by omega) (by omega) (by omega) k
def s_198 (n : Nat) (A : HA) (l1 : Nat) : Nat :=
  (s_198_7 n (6) A l1 (ev n) 0)
theorem c_198 {sc : a_Sc} {fd : Nat} {M : a_Mm} {A : HA} {Q : Option Value → a_Hp → Prop} {n : Nat} (r : RM M n A) {l1 : Nat} (hl1 : l1 ≤ 31) (k : KP 31 Q (a_hp sc fd M) (s_198 n A l1)) : a_Ex 198 0 [some (.ref 170), some (.int (N l1)), none, none] [] (a_hp sc fd M) Q := by
  unfold s_198 at k
  have n5 := r.n5
  have n2 := r.n2
  refine x_aload_n i_198_0 rfl ?_
  refine x_vh (r := []) (lj := [some _]) i_198_1 w_159 ob_170 [] rfl rfl (Nat.le_of_ble_eq_true rfl) (Nat.le_of_ble_eq_true rfl) rfl ?_
  refine c_159 r   (fun q1 => rt_i ?_)
  refine x_istore_n i_198_4 rfl rfl ?_
  refine n_iconst 0 i_198_5 rfl ?_
  refine x_istore_n i_198_6 rfl rfl ?_
  exact c_198_7 (6) r (by omega) (by omega) (by omega) (by omega) (by omega) k
def s_172 (n : Nat) (A : HA) (l1 : Nat) : Nat :=
  (s_158 n A 1 1) &&& (s_158 n A 2 (A 2 l1))
theorem c_172 {sc : a_Sc} {fd : Nat} {M : a_Mm} {A : HA} {Q : Option Value → a_Hp → Prop} {n : Nat} (r : RM M n A) {l1 : Nat} (hl1 : l1 ≤ 4) (i0 : l1 < n) (k : KP 31 Q (a_hp sc fd M) (s_172 n A l1)) : a_Ex 172 0 [some (.ref 170), some (.int (N l1))] [] (a_hp sc fd M) Q := by
  unfold s_172 at k
  have n5 := r.n5
  have n2 := r.n2
  refine x_aload_n i_172_0 rfl ?_
  refine n_iconst 1 i_172_1 rfl ?_
  refine n_iconst 1 i_172_2 rfl ?_
  refine x_vh (r := []) (lj := [some _, some _, some _, none, none]) i_172_3 w_158 ob_170 [_, _] rfl rfl (Nat.le_of_ble_eq_true rfl) (Nat.le_of_ble_eq_true rfl) rfl ?_
  refine c_158 r (by omega) (by omega)  (fun q1 => rt_i ?_)
  refine x_aload_n i_172_6 rfl ?_
  refine n_iconst 2 i_172_7 rfl ?_
  refine x_aload_n i_172_8 rfl ?_
  refine x_iload_n i_172_9 rfl ?_
  refine n_iconst 2 i_172_10 rfl ?_
  refine n_atx (A 2 l1) i_172_11 r 2 (by omega) (by omega) (Nat.le_of_ble_eq_true rfl) rfl ?_
  have q2 : A 2 l1 ≤ 4 := r.w.b2 (by omega)
  refine x_vh (r := [_]) (lj := [some _, some _, some _, none, none]) i_172_14 w_158 ob_170 [_, _] rfl rfl (Nat.le_of_ble_eq_true rfl) (Nat.le_of_ble_eq_true rfl) rfl ?_
  refine c_158 r (by omega) (by omega)  (fun q3 => rt_i ?_)
  refine x_iandN i_172_17 ?_
  have q4 : (s_158 n A 1 1) &&& (s_158 n A 2 (A 2 l1)) ≤ 31 := Nat.le_trans Nat.and_le_left (by omega)
  have q5 : (s_158 n A 1 1) &&& (s_158 n A 2 (A 2 l1)) ≤ (s_158 n A 1 1) := Nat.and_le_left
  refine x_iret i_172_18 rn_172 rfl ?_
  exact k (show (s_158 n A 1 1) &&& (s_158 n A 2 (A 2 l1)) ≤ 31 by omega)
def s_190 (n : Nat) (A : HA) (l1 : Nat) (l2 : Nat) : Nat :=
  l1 &&& (s_158 n A 0 l2)
theorem c_190 {sc : a_Sc} {fd : Nat} {M : a_Mm} {A : HA} {Q : Option Value → a_Hp → Prop} {n : Nat} (r : RM M n A) {l1 l2 : Nat} (hl1 : l1 ≤ 31) (hl2 : l2 ≤ 5) (k : KP 31 Q (a_hp sc fd M) (s_190 n A l1 l2)) : a_Ex 190 0 [some (.ref 170), some (.int (N l1)), some (.int (N l2))] [] (a_hp sc fd M) Q := by
  unfold s_190 at k
  have n5 := r.n5
  have n2 := r.n2
  refine x_iload_n i_190_0 rfl ?_
  refine x_aload_n i_190_1 rfl ?_
  refine n_iconst 0 i_190_2 rfl ?_
  refine x_iload_n i_190_3 rfl ?_
  refine x_vh (r := [_]) (lj := [some _, some _, some _, none, none]) i_190_4 w_158 ob_170 [_, _] rfl rfl (Nat.le_of_ble_eq_true rfl) (Nat.le_of_ble_eq_true rfl) rfl ?_
  refine c_158 r (by omega) (by omega)  (fun q1 => rt_i ?_)
  refine x_iandN i_190_7 ?_
  have q2 : l1 &&& (s_158 n A 0 l2) ≤ 31 := Nat.le_trans Nat.and_le_left (by omega)
  have q3 : l1 &&& (s_158 n A 0 l2) ≤ l1 := Nat.and_le_left
  refine x_iret i_190_8 rn_190 rfl ?_
  exact k (show l1 &&& (s_158 n A 0 l2) ≤ 31 by omega)
def s_174 (n : Nat) (A : HA) : Nat :=
  (s_158 n A 0 4) ||| (s_158 n A 0 5)
theorem c_174 {sc : a_Sc} {fd : Nat} {M : a_Mm} {A : HA} {Q : Option Value → a_Hp → Prop} {n : Nat} (r : RM M n A) (k : KP 31 Q (a_hp sc fd M) (s_174 n A)) : a_Ex 174 0 [some (.ref 170)] [] (a_hp sc fd M) Q := by
  unfold s_174 at k
  have n5 := r.n5
  have n2 := r.n2
  refine x_aload_n i_174_0 rfl ?_
  refine n_iconst 0 i_174_1 rfl ?_
  refine n_iconst 4 i_174_2 rfl ?_
  refine x_vh (r := []) (lj := [some _, some _, some _, none, none]) i_174_3 w_158 ob_170 [_, _] rfl rfl (Nat.le_of_ble_eq_true rfl) (Nat.le_of_ble_eq_true rfl) rfl ?_
  refine c_158 r (by omega) (by omega)  (fun q1 => rt_i ?_)
  refine x_aload_n i_174_6 rfl ?_
  refine n_iconst 0 i_174_7 rfl ?_
  refine n_iconst 5 i_174_8 rfl ?_
  refine x_vh (r := [_]) (lj := [some _, some _, some _, none, none]) i_174_9 w_158 ob_170 [_, _] rfl rfl (Nat.le_of_ble_eq_true rfl) (Nat.le_of_ble_eq_true rfl) rfl ?_
  refine c_158 r (by omega) (by omega)  (fun q2 => rt_i ?_)
  refine x_iorN i_174_12 ?_
  have q3 : (s_158 n A 0 4) ||| (s_158 n A 0 5) ≤ 31 := or_le 5 (by omega) (by omega)
  refine x_iret i_174_13 rn_174 rfl ?_
  exact k (show (s_158 n A 0 4) ||| (s_158 n A 0 5) ≤ 31 by omega)
def s_173 (n : Nat) (A : HA) (l1 : Nat) : Nat :=
  (if (l1 &&& ((s_174 n A) ^^^ 4294967295)) = 0 then 1 else 0)
theorem c_173 {sc : a_Sc} {fd : Nat} {M : a_Mm} {A : HA} {Q : Option Value → a_Hp → Prop} {n : Nat} (r : RM M n A) {l1 : Nat} (hl1 : l1 ≤ 31) (k : KP 1 Q (a_hp sc fd M) (s_173 n A l1)) : a_Ex 173 0 [some (.ref 170), some (.int (N l1))] [] (a_hp sc fd M) Q := by
  unfold s_173 at k
  have n5 := r.n5
  have n2 := r.n2
  refine x_iload_n i_173_0 rfl ?_
  refine x_aload_n i_173_1 rfl ?_
  refine x_vh (r := [_]) (lj := [some _]) i_173_2 w_174 ob_170 [] rfl rfl (Nat.le_of_ble_eq_true rfl) (Nat.le_of_ble_eq_true rfl) rfl ?_
  refine c_174 r   (fun q1 => rt_i ?_)
  refine n_iconst 4294967295 i_173_5 rfl ?_
  refine x_ixorN i_173_6 ?_
  refine x_iandN i_173_7 ?_
  have q2 : l1 &&& ((s_174 n A) ^^^ 4294967295) ≤ 31 := Nat.le_trans Nat.and_le_left (by omega)
  have q3 : l1 &&& ((s_174 n A) ^^^ 4294967295) ≤ l1 := Nat.and_le_left
  refine x_zneN (by omega) i_173_8 ⟨fun g4 => ?_, fun g4 => ?_⟩
  · have k := kn g4 k
    refine n_iconst 0 i_173_15 rfl ?_
    refine x_iret i_173_16 rn_173 (by decide +kernel) ?_
    exact k (show 0 ≤ 1 by omega)
  · have k := kp g4 k
    refine n_iconst 1 i_173_11 rfl ?_
    refine x_goto i_173_12 ?_
    refine x_iret i_173_16 rn_173 (by decide +kernel) ?_
    exact k (show 1 ≤ 1 by omega)
def s_157 (n : Nat) (A : HA) : Nat :=
  (if (s_158 n A 0 0) = (ev n) then 1 else 0)
theorem c_157 {sc : a_Sc} {fd : Nat} {M : a_Mm} {A : HA} {Q : Option Value → a_Hp → Prop} {n : Nat} (r : RM M n A) (k : KP 1 Q (a_hp sc fd M) (s_157 n A)) : a_Ex 157 0 [some (.ref 170)] [] (a_hp sc fd M) Q := by
  unfold s_157 at k
  have n5 := r.n5
  have n2 := r.n2
  refine x_aload_n i_157_0 rfl ?_
  refine n_iconst 0 i_157_1 rfl ?_
  refine n_iconst 0 i_157_2 rfl ?_
  refine x_vh (r := []) (lj := [some _, some _, some _, none, none]) i_157_3 w_158 ob_170 [_, _] rfl rfl (Nat.le_of_ble_eq_true rfl) (Nat.le_of_ble_eq_true rfl) rfl ?_
  refine c_158 r (by omega) (by omega)  (fun q1 => rt_i ?_)
  refine x_aload_n i_157_6 rfl ?_
  refine x_vh (r := [_]) (lj := [some _]) i_157_7 w_159 ob_170 [] rfl rfl (Nat.le_of_ble_eq_true rfl) (Nat.le_of_ble_eq_true rfl) rfl ?_
  refine c_159 r   (fun q2 => rt_i ?_)
  refine x_ineN (by omega) (by omega) i_157_10 ⟨fun g3 => ?_, fun g3 => ?_⟩
  · have k := kn g3 k
    refine n_iconst 0 i_157_17 rfl ?_
    refine x_iret i_157_18 rn_157 (by decide +kernel) ?_
    exact k (show 0 ≤ 1 by omega)
  · have k := kp g3 k
    refine n_iconst 1 i_157_13 rfl ?_
    refine x_goto i_157_14 ?_
    refine x_iret i_157_18 rn_157 (by decide +kernel) ?_
    exact k (show 1 ≤ 1 by omega)
def s_199 (n : Nat) (A : HA) (l1 : Nat) : Nat :=
  (if (s_198 n A l1) = 0 then 0 else (if ((s_198 n A l1) &&& (l1 ^^^ 4294967295)) = 0 then 1 else 0))
theorem c_199 {sc : a_Sc} {fd : Nat} {M : a_Mm} {A : HA} {Q : Option Value → a_Hp → Prop} {n : Nat} (r : RM M n A) {l1 : Nat} (hl1 : l1 ≤ 31) (k : KP 1 Q (a_hp sc fd M) (s_199 n A l1)) : a_Ex 199 0 [some (.ref 170), some (.int (N l1))] [] (a_hp sc fd M) Q := by
  unfold s_199 at k
  have n5 := r.n5
  have n2 := r.n2
  refine x_aload_n i_199_0 rfl ?_
  refine x_iload_n i_199_1 rfl ?_
  refine x_vh (r := []) (lj := [some _, some _, none, none]) i_199_2 w_198 ob_170 [_] rfl rfl (Nat.le_of_ble_eq_true rfl) (Nat.le_of_ble_eq_true rfl) rfl ?_
  refine c_198 r (by omega)  (fun q1 => rt_i ?_)
  refine x_zeqN (by omega) i_199_5 ⟨fun g2 => ?_, fun g2 => ?_⟩
  · have k := kp g2 k
    refine n_iconst 0 i_199_24 rfl ?_
    refine x_iret i_199_25 rn_199 (by decide +kernel) ?_
    exact k (show 0 ≤ 1 by omega)
  · have k := kn g2 k
    refine x_aload_n i_199_8 rfl ?_
    refine x_iload_n i_199_9 rfl ?_
    refine x_vh (r := []) (lj := [some _, some _, none, none]) i_199_10 w_198 ob_170 [_] rfl rfl (Nat.le_of_ble_eq_true rfl) (Nat.le_of_ble_eq_true rfl) rfl ?_
    refine c_198 r (by omega)  (fun q3 => rt_i ?_)
    refine x_iload_n i_199_13 rfl ?_
    refine n_iconst 4294967295 i_199_14 rfl ?_
    refine x_ixorN i_199_15 ?_
    refine x_iandN i_199_16 ?_
    have q4 : (s_198 n A l1) &&& (l1 ^^^ 4294967295) ≤ 31 := Nat.le_trans Nat.and_le_left (by omega)
    have q5 : (s_198 n A l1) &&& (l1 ^^^ 4294967295) ≤ (s_198 n A l1) := Nat.and_le_left
    refine x_zneN (by omega) i_199_17 ⟨fun g6 => ?_, fun g6 => ?_⟩
    · have k := kn g6 k
      refine n_iconst 0 i_199_24 rfl ?_
      refine x_iret i_199_25 rn_199 (by decide +kernel) ?_
      exact k (show 0 ≤ 1 by omega)
    · have k := kp g6 k
      refine n_iconst 1 i_199_20 rfl ?_
      refine x_goto i_199_21 ?_
      refine x_iret i_199_25 rn_199 (by decide +kernel) ?_
      exact k (show 1 ≤ 1 by omega)
def s_192 (n : Nat) (A : HA) (l1 : Nat) (l2 : Nat) : Nat :=
  (if 2 ≤ l1 then (if l1 = 2 then (if (A 6 1) = 1 then (s_190 n A l2 1) ||| 0 else (s_190 n A l2 1) ||| (s_190 n A l2 0)) else (s_190 n A l2 1) ||| (s_190 n A l2 0)) else 0)
theorem c_192 {sc : a_Sc} {fd : Nat} {M : a_Mm} {A : HA} {Q : Option Value → a_Hp → Prop} {n : Nat} (r : RM M n A) {l1 l2 : Nat} (hl1 : l1 ≤ 3) (hl2 : l2 ≤ 31) (k : KP 31 Q (a_hp sc fd M) (s_192 n A l1 l2)) : a_Ex 192 0 [some (.ref 170), some (.int (N l1)), some (.int (N l2))] [] (a_hp sc fd M) Q := by
  unfold s_192 at k
  have n5 := r.n5
  have n2 := r.n2
  refine x_iload_n i_192_0 rfl ?_
  refine n_iconst 2 i_192_1 rfl ?_
  refine x_igeN (by omega) (by omega) i_192_2 ⟨fun g1 => ?_, fun g1 => ?_⟩
  · have k := kp g1 k
    refine x_aload_n i_192_7 rfl ?_
    refine x_iload_n i_192_8 rfl ?_
    refine n_iconst 1 i_192_9 rfl ?_
    refine x_vh (r := []) (lj := [some _, some _, some _]) i_192_10 w_190 ob_170 [_, _] rfl rfl (Nat.le_of_ble_eq_true rfl) (Nat.le_of_ble_eq_true rfl) rfl ?_
    refine c_190 r (by omega) (by omega)  (fun q2 => rt_i ?_)
    refine x_iload_n i_192_13 rfl ?_
    refine n_iconst 2 i_192_14 rfl ?_
    refine x_ineN (by omega) (by omega) i_192_15 ⟨fun g3 => ?_, fun g3 => ?_⟩
    · have k := kn g3 k
      refine x_aload_n i_192_32 rfl ?_
      refine x_iload_n i_192_33 rfl ?_
      refine n_iconst 0 i_192_34 rfl ?_
      refine x_vh (r := [_]) (lj := [some _, some _, some _]) i_192_35 w_190 ob_170 [_, _] rfl rfl (Nat.le_of_ble_eq_true rfl) (Nat.le_of_ble_eq_true rfl) rfl ?_
      refine c_190 r (by omega) (by omega)  (fun q4 => rt_i ?_)
      refine x_iorN i_192_38 ?_
      have q5 : (s_190 n A l2 1) ||| (s_190 n A l2 0) ≤ 31 := or_le 5 (by omega) (by omega)
      refine x_iret i_192_39 rn_192 rfl ?_
      exact k (show (s_190 n A l2 1) ||| (s_190 n A l2 0) ≤ 31 by omega)
    · have k := kp g3 k
      refine x_aload_n i_192_18 rfl ?_
      refine x_gr i_192_19 ob_170 gr_8_1.1 gr_8_1.2 (rt_170_1 _) ?_
      refine n_iconst 1 i_192_22 rfl ?_
      refine n_ld (x := A 6 1) i_192_23 ar_171 (by omega) (by omega) r.f1 ?_
      refine n_iconst 1 i_192_24 rfl ?_
      have q6 : A 6 1 ≤ 1 := r.w.f1
      refine x_ineN (by omega) (by omega) i_192_25 ⟨fun g7 => ?_, fun g7 => ?_⟩
      · have k := kn g7 k
        refine x_aload_n i_192_32 rfl ?_
        refine x_iload_n i_192_33 rfl ?_
        refine n_iconst 0 i_192_34 rfl ?_
        refine x_vh (r := [_]) (lj := [some _, some _, some _]) i_192_35 w_190 ob_170 [_, _] rfl rfl (Nat.le_of_ble_eq_true rfl) (Nat.le_of_ble_eq_true rfl) rfl ?_
        refine c_190 r (by omega) (by omega)  (fun q8 => rt_i ?_)
        refine x_iorN i_192_38 ?_
        have q9 : (s_190 n A l2 1) ||| (s_190 n A l2 0) ≤ 31 := or_le 5 (by omega) (by omega)
        refine x_iret i_192_39 rn_192 rfl ?_
        exact k (show (s_190 n A l2 1) ||| (s_190 n A l2 0) ≤ 31 by omega)
      · have k := kp g7 k
        refine n_iconst 0 i_192_28 rfl ?_
        refine x_goto i_192_29 ?_
        refine x_iorN i_192_38 ?_
        have q10 : (s_190 n A l2 1) ||| 0 ≤ 31 := or_le 5 (by omega) (by omega)
        refine x_iret i_192_39 rn_192 rfl ?_
        exact k (show (s_190 n A l2 1) ||| 0 ≤ 31 by omega)
  · have k := kn g1 k
    refine n_iconst 0 i_192_5 rfl ?_
    refine x_iret i_192_6 rn_192 rfl ?_
    exact k (show 0 ≤ 31 by omega)
def s_189 (n : Nat) (A : HA) (l1 : Nat) (l2 : Nat) : Nat :=
  (if (s_190 n A l1 4) = 0 then (if (s_190 n A l1 5) = 0 then (if (A 6 1) = 0 then (if (s_190 n A l1 2) = 0 then 0 else (if ((s_190 n A l2 0) ||| (s_190 n A l2 1)) = 0 then 1 else 2)) else (if (s_190 n A l1 2) = 0 then (if (A 6 4) ≤ (s_160 n A (((s_190 n A l1 0) ||| (s_190 n A l1 1)) ||| (s_190 n A l1 3))) then (if ((s_190 n A l2 0) ||| (s_190 n A l2 1)) = 0 then 0 else 3) else 4294967295) else (if (s_160 n A ((s_190 n A l1 2) ||| (s_190 n A l1 1))) < (A 6 3) then (if (A 6 4) ≤ (s_160 n A (((s_190 n A l1 0) ||| (s_190 n A l1 1)) ||| (s_190 n A l1 3))) then (if ((s_190 n A l2 0) ||| (s_190 n A l2 1)) = 0 then 0 else 3) else 4294967295) else (if (s_190 n A l2 1) = 0 then 1 else 2)))) else 0) else 1)
theorem c_189 {sc : a_Sc} {fd : Nat} {M : a_Mm} {A : HA} {Q : Option Value → a_Hp → Prop} {n : Nat} (r : RM M n A) {l1 l2 : Nat} (hl1 : l1 ≤ 31) (hl2 : l2 ≤ 31) (k : KP 4294967295 Q (a_hp sc fd M) (s_189 n A l1 l2)) : a_Ex 189 0 [some (.ref 170), some (.int (N l1)), some (.int (N l2)), none] [] (a_hp sc fd M) Q := by
  unfold s_189 at k
  have n5 := r.n5
  have n2 := r.n2
  refine x_aload_n i_189_0 rfl ?_
  refine x_iload_n i_189_1 rfl ?_
  refine n_iconst 4 i_189_2 rfl ?_
  refine x_vh (r := []) (lj := [some _, some _, some _]) i_189_3 w_190 ob_170 [_, _] rfl rfl (Nat.le_of_ble_eq_true rfl) (Nat.le_of_ble_eq_true rfl) rfl ?_
  refine c_190 r (by omega) (by omega)  (fun q1 => rt_i ?_)
  refine x_zeqN (by omega) i_189_6 ⟨fun g2 => ?_, fun g2 => ?_⟩
  · have k := kp g2 k
    refine x_aload_n i_189_11 rfl ?_
    refine x_iload_n i_189_12 rfl ?_
    refine n_iconst 5 i_189_13 rfl ?_
    refine x_vh (r := []) (lj := [some _, some _, some _]) i_189_14 w_190 ob_170 [_, _] rfl rfl (Nat.le_of_ble_eq_true rfl) (Nat.le_of_ble_eq_true rfl) rfl ?_
    refine c_190 r (by omega) (by omega)  (fun q3 => rt_i ?_)
    refine x_zeqN (by omega) i_189_17 ⟨fun g4 => ?_, fun g4 => ?_⟩
    · have k := kp g4 k
      refine x_aload_n i_189_22 rfl ?_
      refine x_iload_n i_189_23 rfl ?_
      refine n_iconst 2 i_189_24 rfl ?_
      refine x_vh (r := []) (lj := [some _, some _, some _]) i_189_25 w_190 ob_170 [_, _] rfl rfl (Nat.le_of_ble_eq_true rfl) (Nat.le_of_ble_eq_true rfl) rfl ?_
      refine c_190 r (by omega) (by omega)  (fun q5 => rt_i ?_)
      refine x_istore_n i_189_28 rfl rfl ?_
      refine x_aload_n i_189_29 rfl ?_
      refine x_gr i_189_30 ob_170 gr_8_1.1 gr_8_1.2 (rt_170_1 _) ?_
      refine n_iconst 1 i_189_33 rfl ?_
      refine n_ld (x := A 6 1) i_189_34 ar_171 (by omega) (by omega) r.f1 ?_
      have q6 : A 6 1 ≤ 1 := r.w.f1
      refine x_zneN (by omega) i_189_35 ⟨fun g7 => ?_, fun g7 => ?_⟩
      · have k := kn g7 k
        refine x_iload_n i_189_66 rfl ?_
        refine x_zeqN (by omega) i_189_67 ⟨fun g8 => ?_, fun g8 => ?_⟩
        · have k := kp g8 k
          refine x_aload_n i_189_106 rfl ?_
          refine x_aload_n i_189_107 rfl ?_
          refine x_iload_n i_189_108 rfl ?_
          refine n_iconst 0 i_189_109 rfl ?_
          refine x_vh (r := [_]) (lj := [some _, some _, some _]) i_189_110 w_190 ob_170 [_, _] rfl rfl (Nat.le_of_ble_eq_true rfl) (Nat.le_of_ble_eq_true rfl) rfl ?_
          refine c_190 r (by omega) (by omega)  (fun q9 => rt_i ?_)
          refine x_aload_n i_189_113 rfl ?_
          refine x_iload_n i_189_114 rfl ?_
          refine n_iconst 1 i_189_115 rfl ?_
          refine x_vh (r := [_, _]) (lj := [some _, some _, some _]) i_189_116 w_190 ob_170 [_, _] rfl rfl (Nat.le_of_ble_eq_true rfl) (Nat.le_of_ble_eq_true rfl) rfl ?_
          refine c_190 r (by omega) (by omega)  (fun q10 => rt_i ?_)
          refine x_iorN i_189_119 ?_
          refine x_aload_n i_189_120 rfl ?_
          refine x_iload_n i_189_121 rfl ?_
          refine n_iconst 3 i_189_122 rfl ?_
          refine x_vh (r := [_, _]) (lj := [some _, some _, some _]) i_189_123 w_190 ob_170 [_, _] rfl rfl (Nat.le_of_ble_eq_true rfl) (Nat.le_of_ble_eq_true rfl) rfl ?_
          refine c_190 r (by omega) (by omega)  (fun q11 => rt_i ?_)
          refine x_iorN i_189_126 ?_
          have q12 : (s_190 n A l1 0) ||| (s_190 n A l1 1) ≤ 31 := or_le 5 (by omega) (by omega)
          have q13 : ((s_190 n A l1 0) ||| (s_190 n A l1 1)) ||| (s_190 n A l1 3) ≤ 31 := or_le 5 (by omega) (by omega)
          refine x_vh (r := []) (lj := [some _, some _, none, none]) i_189_127 w_160 ob_170 [_] rfl rfl (Nat.le_of_ble_eq_true rfl) (Nat.le_of_ble_eq_true rfl) rfl ?_
          refine c_160 r (by omega)  (fun q14 => rt_i ?_)
          refine x_aload_n i_189_130 rfl ?_
          refine x_gr i_189_131 ob_170 gr_8_1.1 gr_8_1.2 (rt_170_1 _) ?_
          refine n_iconst 4 i_189_134 rfl ?_
          refine n_ld (x := A 6 4) i_189_135 ar_171 (by omega) (by omega) r.f4 ?_
          have q15 : A 6 4 ≤ 15 := r.w.f4
          refine x_igeN (by omega) (by omega) i_189_136 ⟨fun g16 => ?_, fun g16 => ?_⟩
          · have k := kp g16 k
            refine x_aload_n i_189_141 rfl ?_
            refine x_iload_n i_189_142 rfl ?_
            refine n_iconst 0 i_189_143 rfl ?_
            refine x_vh (r := []) (lj := [some _, some _, some _]) i_189_144 w_190 ob_170 [_, _] rfl rfl (Nat.le_of_ble_eq_true rfl) (Nat.le_of_ble_eq_true rfl) rfl ?_
            refine c_190 r (by omega) (by omega)  (fun q17 => rt_i ?_)
            refine x_aload_n i_189_147 rfl ?_
            refine x_iload_n i_189_148 rfl ?_
            refine n_iconst 1 i_189_149 rfl ?_
            refine x_vh (r := [_]) (lj := [some _, some _, some _]) i_189_150 w_190 ob_170 [_, _] rfl rfl (Nat.le_of_ble_eq_true rfl) (Nat.le_of_ble_eq_true rfl) rfl ?_
            refine c_190 r (by omega) (by omega)  (fun q18 => rt_i ?_)
            refine x_iorN i_189_153 ?_
            have q19 : (s_190 n A l2 0) ||| (s_190 n A l2 1) ≤ 31 := or_le 5 (by omega) (by omega)
            refine x_zneN (by omega) i_189_154 ⟨fun g20 => ?_, fun g20 => ?_⟩
            · have k := kn g20 k
              refine n_iconst 3 i_189_161 rfl ?_
              refine x_iret i_189_162 rn_189 rfl ?_
              exact k (show 3 ≤ 4294967295 by omega)
            · have k := kp g20 k
              refine n_iconst 0 i_189_157 rfl ?_
              refine x_goto i_189_158 ?_
              refine x_iret i_189_162 rn_189 rfl ?_
              exact k (show 0 ≤ 4294967295 by omega)
          · have k := kn g16 k
            refine n_iconst 4294967295 i_189_139 rfl ?_
            refine x_iret i_189_140 rn_189 rfl ?_
            exact k (show 4294967295 ≤ 4294967295 by omega)
        · have k := kn g8 k
          refine x_aload_n i_189_70 rfl ?_
          refine x_iload_n i_189_71 rfl ?_
          refine x_aload_n i_189_72 rfl ?_
          refine x_iload_n i_189_73 rfl ?_
          refine n_iconst 1 i_189_74 rfl ?_
          refine x_vh (r := [_, _]) (lj := [some _, some _, some _]) i_189_75 w_190 ob_170 [_, _] rfl rfl (Nat.le_of_ble_eq_true rfl) (Nat.le_of_ble_eq_true rfl) rfl ?_
          refine c_190 r (by omega) (by omega)  (fun q21 => rt_i ?_)
          refine x_iorN i_189_78 ?_
          have q22 : (s_190 n A l1 2) ||| (s_190 n A l1 1) ≤ 31 := or_le 5 (by omega) (by omega)
          refine x_vh (r := []) (lj := [some _, some _, none, none]) i_189_79 w_160 ob_170 [_] rfl rfl (Nat.le_of_ble_eq_true rfl) (Nat.le_of_ble_eq_true rfl) rfl ?_
          refine c_160 r (by omega)  (fun q23 => rt_i ?_)
          refine x_aload_n i_189_82 rfl ?_
          refine x_gr i_189_83 ob_170 gr_8_1.1 gr_8_1.2 (rt_170_1 _) ?_
          refine n_iconst 3 i_189_86 rfl ?_
          refine n_ld (x := A 6 3) i_189_87 ar_171 (by omega) (by omega) r.f3 ?_
          have q24 : A 6 3 ≤ 15 := r.w.f3
          refine x_iltN (by omega) (by omega) i_189_88 ⟨fun g25 => ?_, fun g25 => ?_⟩
          · have k := kp g25 k
            refine x_aload_n i_189_106 rfl ?_
            refine x_aload_n i_189_107 rfl ?_
            refine x_iload_n i_189_108 rfl ?_
            refine n_iconst 0 i_189_109 rfl ?_
            refine x_vh (r := [_]) (lj := [some _, some _, some _]) i_189_110 w_190 ob_170 [_, _] rfl rfl (Nat.le_of_ble_eq_true rfl) (Nat.le_of_ble_eq_true rfl) rfl ?_
            refine c_190 r (by omega) (by omega)  (fun q26 => rt_i ?_)
            refine x_aload_n i_189_113 rfl ?_
            refine x_iload_n i_189_114 rfl ?_
            refine n_iconst 1 i_189_115 rfl ?_
            refine x_vh (r := [_, _]) (lj := [some _, some _, some _]) i_189_116 w_190 ob_170 [_, _] rfl rfl (Nat.le_of_ble_eq_true rfl) (Nat.le_of_ble_eq_true rfl) rfl ?_
            refine c_190 r (by omega) (by omega)  (fun q27 => rt_i ?_)
            refine x_iorN i_189_119 ?_
            refine x_aload_n i_189_120 rfl ?_
            refine x_iload_n i_189_121 rfl ?_
            refine n_iconst 3 i_189_122 rfl ?_
            refine x_vh (r := [_, _]) (lj := [some _, some _, some _]) i_189_123 w_190 ob_170 [_, _] rfl rfl (Nat.le_of_ble_eq_true rfl) (Nat.le_of_ble_eq_true rfl) rfl ?_
            refine c_190 r (by omega) (by omega)  (fun q28 => rt_i ?_)
            refine x_iorN i_189_126 ?_
            have q29 : (s_190 n A l1 0) ||| (s_190 n A l1 1) ≤ 31 := or_le 5 (by omega) (by omega)
            have q30 : ((s_190 n A l1 0) ||| (s_190 n A l1 1)) ||| (s_190 n A l1 3) ≤ 31 := or_le 5 (by omega) (by omega)
            refine x_vh (r := []) (lj := [some _, some _, none, none]) i_189_127 w_160 ob_170 [_] rfl rfl (Nat.le_of_ble_eq_true rfl) (Nat.le_of_ble_eq_true rfl) rfl ?_
            refine c_160 r (by omega)  (fun q31 => rt_i ?_)
            refine x_aload_n i_189_130 rfl ?_
            refine x_gr i_189_131 ob_170 gr_8_1.1 gr_8_1.2 (rt_170_1 _) ?_
            refine n_iconst 4 i_189_134 rfl ?_
            refine n_ld (x := A 6 4) i_189_135 ar_171 (by omega) (by omega) r.f4 ?_
            have q32 : A 6 4 ≤ 15 := r.w.f4
            refine x_igeN (by omega) (by omega) i_189_136 ⟨fun g33 => ?_, fun g33 => ?_⟩
            · have k := kp g33 k
              refine x_aload_n i_189_141 rfl ?_
              refine x_iload_n i_189_142 rfl ?_
              refine n_iconst 0 i_189_143 rfl ?_
              refine x_vh (r := []) (lj := [some _, some _, some _]) i_189_144 w_190 ob_170 [_, _] rfl rfl (Nat.le_of_ble_eq_true rfl) (Nat.le_of_ble_eq_true rfl) rfl ?_
              refine c_190 r (by omega) (by omega)  (fun q34 => rt_i ?_)
              refine x_aload_n i_189_147 rfl ?_
              refine x_iload_n i_189_148 rfl ?_
              refine n_iconst 1 i_189_149 rfl ?_
              refine x_vh (r := [_]) (lj := [some _, some _, some _]) i_189_150 w_190 ob_170 [_, _] rfl rfl (Nat.le_of_ble_eq_true rfl) (Nat.le_of_ble_eq_true rfl) rfl ?_
              refine c_190 r (by omega) (by omega)  (fun q35 => rt_i ?_)
              refine x_iorN i_189_153 ?_
              have q36 : (s_190 n A l2 0) ||| (s_190 n A l2 1) ≤ 31 := or_le 5 (by omega) (by omega)
              refine x_zneN (by omega) i_189_154 ⟨fun g37 => ?_, fun g37 => ?_⟩
              · have k := kn g37 k
                refine n_iconst 3 i_189_161 rfl ?_
                refine x_iret i_189_162 rn_189 rfl ?_
                exact k (show 3 ≤ 4294967295 by omega)
              · have k := kp g37 k
                refine n_iconst 0 i_189_157 rfl ?_
                refine x_goto i_189_158 ?_
                refine x_iret i_189_162 rn_189 rfl ?_
                exact k (show 0 ≤ 4294967295 by omega)
            · have k := kn g33 k
              refine n_iconst 4294967295 i_189_139 rfl ?_
              refine x_iret i_189_140 rn_189 rfl ?_
              exact k (show 4294967295 ≤ 4294967295 by omega)
          · have k := kn g25 k
            refine x_aload_n i_189_91 rfl ?_
            refine x_iload_n i_189_92 rfl ?_
            refine n_iconst 1 i_189_93 rfl ?_
            refine x_vh (r := []) (lj := [some _, some _, some _]) i_189_94 w_190 ob_170 [_, _] rfl rfl (Nat.le_of_ble_eq_true rfl) (Nat.le_of_ble_eq_true rfl) rfl ?_
            refine c_190 r (by omega) (by omega)  (fun q38 => rt_i ?_)
            refine x_zneN (by omega) i_189_97 ⟨fun g39 => ?_, fun g39 => ?_⟩
            · have k := kn g39 k
              refine n_iconst 2 i_189_104 rfl ?_
              refine x_iret i_189_105 rn_189 rfl ?_
              exact k (show 2 ≤ 4294967295 by omega)
            · have k := kp g39 k
              refine n_iconst 1 i_189_100 rfl ?_
              refine x_goto i_189_101 ?_
              refine x_iret i_189_105 rn_189 rfl ?_
              exact k (show 1 ≤ 4294967295 by omega)
      · have k := kp g7 k
        refine x_iload_n i_189_38 rfl ?_
        refine x_zneN (by omega) i_189_39 ⟨fun g40 => ?_, fun g40 => ?_⟩
        · have k := kn g40 k
          refine x_aload_n i_189_44 rfl ?_
          refine x_iload_n i_189_45 rfl ?_
          refine n_iconst 0 i_189_46 rfl ?_
          refine x_vh (r := []) (lj := [some _, some _, some _]) i_189_47 w_190 ob_170 [_, _] rfl rfl (Nat.le_of_ble_eq_true rfl) (Nat.le_of_ble_eq_true rfl) rfl ?_
          refine c_190 r (by omega) (by omega)  (fun q41 => rt_i ?_)
          refine x_aload_n i_189_50 rfl ?_
          refine x_iload_n i_189_51 rfl ?_
          refine n_iconst 1 i_189_52 rfl ?_
          refine x_vh (r := [_]) (lj := [some _, some _, some _]) i_189_53 w_190 ob_170 [_, _] rfl rfl (Nat.le_of_ble_eq_true rfl) (Nat.le_of_ble_eq_true rfl) rfl ?_
          refine c_190 r (by omega) (by omega)  (fun q42 => rt_i ?_)
          refine x_iorN i_189_56 ?_
          have q43 : (s_190 n A l2 0) ||| (s_190 n A l2 1) ≤ 31 := or_le 5 (by omega) (by omega)
          refine x_zneN (by omega) i_189_57 ⟨fun g44 => ?_, fun g44 => ?_⟩
          · have k := kn g44 k
            refine n_iconst 2 i_189_64 rfl ?_
            refine x_iret i_189_65 rn_189 rfl ?_
            exact k (show 2 ≤ 4294967295 by omega)
          · have k := kp g44 k
            refine n_iconst 1 i_189_60 rfl ?_
            refine x_goto i_189_61 ?_
            refine x_iret i_189_65 rn_189 rfl ?_
            exact k (show 1 ≤ 4294967295 by omega)
        · have k := kp g40 k
          refine n_iconst 0 i_189_42 rfl ?_
          refine x_iret i_189_43 rn_189 rfl ?_
          exact k (show 0 ≤ 4294967295 by omega)
    · have k := kn g4 k
      refine n_iconst 0 i_189_20 rfl ?_
      refine x_iret i_189_21 rn_189 rfl ?_
      exact k (show 0 ≤ 4294967295 by omega)
  · have k := kn g2 k
    refine n_iconst 1 i_189_9 rfl ?_
    refine x_iret i_189_10 rn_189 rfl ?_
    exact k (show 1 ≤ 4294967295 by omega)
def s_202 (n : Nat) (A : HA) (l1 : Nat) : Nat :=
  (if (s_173 n A l1) = 0 then s_189 n A l1 l1 else 4294967295)
theorem c_202 {sc : a_Sc} {fd : Nat} {M : a_Mm} {A : HA} {Q : Option Value → a_Hp → Prop} {n : Nat} (r : RM M n A) {l1 : Nat} (hl1 : l1 ≤ 31) (k : KP 4294967295 Q (a_hp sc fd M) (s_202 n A l1)) : a_Ex 202 0 [some (.ref 170), some (.int (N l1))] [] (a_hp sc fd M) Q := by
  unfold s_202 at k
  have n5 := r.n5
  have n2 := r.n2
  refine x_aload_n i_202_0 rfl ?_
  refine x_iload_n i_202_1 rfl ?_
  refine x_vh (r := []) (lj := [some _, some _]) i_202_2 w_173 ob_170 [_] rfl rfl (Nat.le_of_ble_eq_true rfl) (Nat.le_of_ble_eq_true rfl) rfl ?_
  refine c_173 r (by omega)  (fun q1 => rt_i ?_)
  refine x_zeqN (by omega) i_202_5 ⟨fun g2 => ?_, fun g2 => ?_⟩
  · have k := kp g2 k
    refine x_aload_n i_202_12 rfl ?_
    refine x_iload_n i_202_13 rfl ?_
    refine x_iload_n i_202_14 rfl ?_
    refine x_vh (r := []) (lj := [some _, some _, some _, none]) i_202_15 w_189 ob_170 [_, _] rfl rfl (Nat.le_of_ble_eq_true rfl) (Nat.le_of_ble_eq_true rfl) rfl ?_
    refine c_189 r (by omega) (by omega)  (fun q3 => rt_i ?_)
    refine x_iret i_202_18 rn_202 rfl ?_
    exact k (show s_189 n A l1 l1 ≤ 4294967295 by omega)
  · have k := kn g2 k
    refine n_iconst 4294967295 i_202_8 rfl ?_
    refine x_goto i_202_9 ?_
    refine x_iret i_202_18 rn_202 rfl ?_
    exact k (show 4294967295 ≤ 4294967295 by omega)
def s_205 (n : Nat) (A : HA) (l1 : Nat) : Nat :=
  (if (s_173 n A l1) = 0 then (if (s_189 n A l1 l1) = 4294967295 then 1 else 0) else 0)
theorem c_205 {sc : a_Sc} {fd : Nat} {M : a_Mm} {A : HA} {Q : Option Value → a_Hp → Prop} {n : Nat} (r : RM M n A) {l1 : Nat} (hl1 : l1 ≤ 31) (k : KP 1 Q (a_hp sc fd M) (s_205 n A l1)) : a_Ex 205 0 [some (.ref 170), some (.int (N l1))] [] (a_hp sc fd M) Q := by
  unfold s_205 at k
  have n5 := r.n5
  have n2 := r.n2
  refine x_aload_n i_205_0 rfl ?_
  refine x_iload_n i_205_1 rfl ?_
  refine x_vh (r := []) (lj := [some _, some _]) i_205_2 w_173 ob_170 [_] rfl rfl (Nat.le_of_ble_eq_true rfl) (Nat.le_of_ble_eq_true rfl) rfl ?_
  refine c_173 r (by omega)  (fun q1 => rt_i ?_)
  refine x_zneN (by omega) i_205_5 ⟨fun g2 => ?_, fun g2 => ?_⟩
  · have k := kn g2 k
    refine n_iconst 0 i_205_22 rfl ?_
    refine x_iret i_205_23 rn_205 (by decide +kernel) ?_
    exact k (show 0 ≤ 1 by omega)
  · have k := kp g2 k
    refine x_aload_n i_205_8 rfl ?_
    refine x_iload_n i_205_9 rfl ?_
    refine x_iload_n i_205_10 rfl ?_
    refine x_vh (r := []) (lj := [some _, some _, some _, none]) i_205_11 w_189 ob_170 [_, _] rfl rfl (Nat.le_of_ble_eq_true rfl) (Nat.le_of_ble_eq_true rfl) rfl ?_
    refine c_189 r (by omega) (by omega)  (fun q3 => rt_i ?_)
    refine n_iconst 4294967295 i_205_14 rfl ?_
    refine n_ineU (by omega) (by omega) i_205_15 ⟨fun g4 => ?_, fun g4 => ?_⟩
    · have k := kn g4 k
      refine n_iconst 0 i_205_22 rfl ?_
      refine x_iret i_205_23 rn_205 (by decide +kernel) ?_
      exact k (show 0 ≤ 1 by omega)
    · have k := kp g4 k
      refine n_iconst 1 i_205_18 rfl ?_
      refine x_goto i_205_19 ?_
      refine x_iret i_205_23 rn_205 (by decide +kernel) ?_
      exact k (show 1 ≤ 1 by omega)
def s_209 (n : Nat) (A : HA) (l1 : Nat) : Nat :=
  (if (s_173 n A l1) = 0 then (if (s_189 n A l1 l1) = 4294967295 then 4294967295 else (if (s_189 n A l1 l1) = 1 then 1 else (if (s_189 n A l1 l1) = 2 then 1 else 0))) else (if (s_190 n A l1 4) = 0 then 0 else 1))
theorem c_209 {sc : a_Sc} {fd : Nat} {M : a_Mm} {A : HA} {Q : Option Value → a_Hp → Prop} {n : Nat} (r : RM M n A) {l1 : Nat} (hl1 : l1 ≤ 31) (k : KP 4294967295 Q (a_hp sc fd M) (s_209 n A l1)) : a_Ex 209 0 [some (.ref 170), some (.int (N l1)), none] [] (a_hp sc fd M) Q := by
  unfold s_209 at k
  have n5 := r.n5
  have n2 := r.n2
  refine x_aload_n i_209_0 rfl ?_
  refine x_iload_n i_209_1 rfl ?_
  refine x_vh (r := []) (lj := [some _, some _]) i_209_2 w_173 ob_170 [_] rfl rfl (Nat.le_of_ble_eq_true rfl) (Nat.le_of_ble_eq_true rfl) rfl ?_
  refine c_173 r (by omega)  (fun q1 => rt_i ?_)
  refine x_zeqN (by omega) i_209_5 ⟨fun g2 => ?_, fun g2 => ?_⟩
  · have k := kp g2 k
    refine x_aload_n i_209_23 rfl ?_
    refine x_iload_n i_209_24 rfl ?_
    refine x_iload_n i_209_25 rfl ?_
    refine x_vh (r := []) (lj := [some _, some _, some _, none]) i_209_26 w_189 ob_170 [_, _] rfl rfl (Nat.le_of_ble_eq_true rfl) (Nat.le_of_ble_eq_true rfl) rfl ?_
    refine c_189 r (by omega) (by omega)  (fun q3 => rt_i ?_)
    refine x_istore_n i_209_29 rfl rfl ?_
    refine x_iload_n i_209_30 rfl ?_
    refine n_iconst 4294967295 i_209_31 rfl ?_
    refine n_ineU (by omega) (by omega) i_209_32 ⟨fun g4 => ?_, fun g4 => ?_⟩
    · have k := kn g4 k
      refine x_iload_n i_209_39 rfl ?_
      refine n_iconst 1 i_209_40 rfl ?_
      refine n_ieqU (by omega) (by omega) i_209_41 ⟨fun g5 => ?_, fun g5 => ?_⟩
      · have k := kp g5 k
        refine n_iconst 1 i_209_49 rfl ?_
        refine x_goto i_209_50 ?_
        refine x_iret i_209_54 rn_209 rfl ?_
        exact k (show 1 ≤ 4294967295 by omega)
      · have k := kn g5 k
        refine x_iload_n i_209_44 rfl ?_
        refine n_iconst 2 i_209_45 rfl ?_
        refine n_ineU (by omega) (by omega) i_209_46 ⟨fun g6 => ?_, fun g6 => ?_⟩
        · have k := kn g6 k
          refine n_iconst 0 i_209_53 rfl ?_
          refine x_iret i_209_54 rn_209 rfl ?_
          exact k (show 0 ≤ 4294967295 by omega)
        · have k := kp g6 k
          refine n_iconst 1 i_209_49 rfl ?_
          refine x_goto i_209_50 ?_
          refine x_iret i_209_54 rn_209 rfl ?_
          exact k (show 1 ≤ 4294967295 by omega)
    · have k := kp g4 k
      refine n_iconst 4294967295 i_209_35 rfl ?_
      refine x_goto i_209_36 ?_
      refine x_iret i_209_54 rn_209 rfl ?_
      exact k (show 4294967295 ≤ 4294967295 by omega)
  · have k := kn g2 k
    refine x_aload_n i_209_8 rfl ?_
    refine x_iload_n i_209_9 rfl ?_
    refine n_iconst 4 i_209_10 rfl ?_
    refine x_vh (r := []) (lj := [some _, some _, some _]) i_209_11 w_190 ob_170 [_, _] rfl rfl (Nat.le_of_ble_eq_true rfl) (Nat.le_of_ble_eq_true rfl) rfl ?_
    refine c_190 r (by omega) (by omega)  (fun q7 => rt_i ?_)
    refine x_zeqN (by omega) i_209_14 ⟨fun g8 => ?_, fun g8 => ?_⟩
    · have k := kp g8 k
      refine n_iconst 0 i_209_21 rfl ?_
      refine x_iret i_209_22 rn_209 rfl ?_
      exact k (show 0 ≤ 4294967295 by omega)
    · have k := kn g8 k
      refine n_iconst 1 i_209_17 rfl ?_
      refine x_goto i_209_18 ?_
      refine x_iret i_209_22 rn_209 rfl ?_
      exact k (show 1 ≤ 4294967295 by omega)
def s_211_13 (n : Nat) : Nat → HA → Nat → Nat → Nat
  | 0, _, _, _ => 0
  | d + 1, A, l2, l3 => (if n ≤ l3 then 1 else (if ((l2 >>> l3) &&& 1) = 1 then (if (s_205 n A (l2 &&& (s_158 n A 2 (A 2 l3)))) = 0 then (s_211_13 n d A l2 (l3 + 1)) else 0) else (s_211_13 n d A l2 (l3 + 1))))
theorem c_211_13 {sc : a_Sc} {fd : Nat} {Q : Option Value → a_Hp → Prop} {n : Nat} : ∀ (d : Nat) {M : a_Mm} {A : HA} {l2 l3 : Nat} (r : RM M n A) (hl2 : l2 ≤ 31) (hl3 : l3 ≤ 5) (i0 : l3 ≤ n) (hm : n - l3 < d) (k : KP 1 Q (a_hp sc fd M) (s_211_13 n d A l2 l3)), a_Ex 211 13 [some (.ref 170), none, some (.int (N l2)), some (.int (N l3))] [] (a_hp sc fd M) Q := by
  intro d
  induction d with
  | zero => intro M A l2 l3 r hl2 hl3 i0 hm k; exact absurd hm (Nat.not_lt_zero _)
  | succ d ih =>
      intro M A l2 l3 r hl2 hl3 i0 hm k
      unfold s_211_13 at k
      have n5 := r.n5
      have n2 := r.n2
      refine x_iload_n i_211_13 rfl ?_
      refine x_aload_n i_211_14 rfl ?_
      refine x_gr i_211_15 ob_170 gr_8_1.1 gr_8_1.2 (rt_170_1 _) ?_
      refine n_iconst 0 i_211_18 rfl ?_
      refine n_ld (x := n) i_211_19 ar_171 (by omega) (by omega) r.nn ?_
      refine x_igeN (by omega) (by omega) i_211_20 ⟨fun g1 => ?_, fun g1 => ?_⟩
      · have k := kp g1 k
        refine n_iconst 1 i_211_59 rfl ?_
        refine x_iret i_211_60 rn_211 (by decide +kernel) ?_
        exact k (show 1 ≤ 1 by omega)
      · have k := kn g1 k
        refine x_iload_n i_211_23 rfl ?_
        refine x_iload_n i_211_24 rfl ?_
        refine x_sh (r := []) (lj := [some _, some _]) i_211_25 ws_161 [_, _] rfl rfl (Nat.le_of_ble_eq_true rfl) (Nat.le_of_ble_eq_true rfl) rfl ?_
        refine x_iload_n i_161_0 rfl ?_
        refine x_iload_n i_161_1 rfl ?_
        refine x_ishrN (by omega) (by omega) i_161_2 ?_
        refine n_iconst 1 i_161_3 rfl ?_
        refine x_iandN i_161_4 ?_
        refine n_iconst 1 i_161_5 rfl ?_
        have q2 : l2 >>> l3 ≤ l2 := shr_le _ _
        have q3 : (l2 >>> l3) &&& 1 ≤ 1 := Nat.le_trans Nat.and_le_right (by omega)
        have q4 : (l2 >>> l3) &&& 1 ≤ (l2 >>> l3) := Nat.and_le_left
        refine x_ineN (by omega) (by omega) i_161_6 ⟨fun g5 => ?_, fun g5 => ?_⟩
        · have k := kn g5 k
          refine n_iconst 0 i_161_13 rfl ?_
          refine x_iretI i_161_14 rn_161 (by decide +kernel) ?_
          refine x_ifT i_211_28 (by decide +kernel) ?_
          refine n_iinc 1 i_211_53 rfl rfl rfl rfl ?_
          refine x_goto i_211_56 ?_
          exact ih r (by omega) (by omega) (by omega) (by omega) k
        · have k := kp g5 k
          refine n_iconst 1 i_161_9 rfl ?_
          refine x_goto i_161_10 ?_
          refine x_iretI i_161_14 rn_161 (by decide +kernel) ?_
          refine x_ifF i_211_28 (by decide +kernel) ?_
          refine x_aload_n i_211_31 rfl ?_
          refine x_iload_n i_211_32 rfl ?_
          refine x_aload_n i_211_33 rfl ?_
          refine n_iconst 2 i_211_34 rfl ?_
          refine x_aload_n i_211_35 rfl ?_
          refine x_iload_n i_211_36 rfl ?_
          refine n_iconst 2 i_211_37 rfl ?_
          refine n_atx (A 2 l3) i_211_38 r 2 (by omega) (by omega) (Nat.le_of_ble_eq_true rfl) rfl ?_
          have q6 : A 2 l3 ≤ 4 := r.w.b2 (by omega)
          refine x_vh (r := [_, _]) (lj := [some _, some _, some _, none, none]) i_211_41 w_158 ob_170 [_, _] rfl rfl (Nat.le_of_ble_eq_true rfl) (Nat.le_of_ble_eq_true rfl) rfl ?_
          refine c_158 r (by omega) (by omega)  (fun q7 => rt_i ?_)
          refine x_iandN i_211_44 ?_
          have q8 : l2 &&& (s_158 n A 2 (A 2 l3)) ≤ 31 := Nat.le_trans Nat.and_le_left (by omega)
          have q9 : l2 &&& (s_158 n A 2 (A 2 l3)) ≤ l2 := Nat.and_le_left
          refine x_vh (r := []) (lj := [some _, some _]) i_211_45 w_205 ob_170 [_] rfl rfl (Nat.le_of_ble_eq_true rfl) (Nat.le_of_ble_eq_true rfl) rfl ?_
          refine c_205 r (by omega)  (fun q10 => rt_i ?_)
          refine x_zeqN (by omega) i_211_48 ⟨fun g11 => ?_, fun g11 => ?_⟩
          · have k := kp g11 k
            refine n_iinc 1 i_211_53 rfl rfl rfl rfl ?_
            refine x_goto i_211_56 ?_
            exact ih r (by omega) (by omega) (by omega) (by omega) k
          · have k := kn g11 k
            refine n_iconst 0 i_211_51 rfl ?_
            refine x_iret i_211_52 rn_211 (by decide +kernel) ?_
            exact k (show 0 ≤ 1 by omega)
def s_211 (n : Nat) (A : HA) (l1 : Nat) : Nat :=
  (s_211_13 n (6) A ((s_158 n A 1 1) &&& (l1 ^^^ 4294967295)) 0)
theorem c_211 {sc : a_Sc} {fd : Nat} {M : a_Mm} {A : HA} {Q : Option Value → a_Hp → Prop} {n : Nat} (r : RM M n A) {l1 : Nat} (hl1 : l1 ≤ 31) (k : KP 1 Q (a_hp sc fd M) (s_211 n A l1)) : a_Ex 211 0 [some (.ref 170), some (.int (N l1)), none, none] [] (a_hp sc fd M) Q := by
  unfold s_211 at k
  have n5 := r.n5
  have n2 := r.n2
  refine x_aload_n i_211_0 rfl ?_
  refine n_iconst 1 i_211_1 rfl ?_
  refine n_iconst 1 i_211_2 rfl ?_
  refine x_vh (r := []) (lj := [some _, some _, some _, none, none]) i_211_3 w_158 ob_170 [_, _] rfl rfl (Nat.le_of_ble_eq_true rfl) (Nat.le_of_ble_eq_true rfl) rfl ?_
  refine c_158 r (by omega) (by omega)  (fun q1 => rt_i ?_)
  refine x_iload_n i_211_6 rfl ?_
  refine n_iconst 4294967295 i_211_7 rfl ?_
  refine x_ixorN i_211_8 ?_
  refine x_iandN i_211_9 ?_
  refine x_istore_n i_211_10 rfl rfl ?_
  refine n_iconst 0 i_211_11 rfl ?_
  refine x_istore_n i_211_12 rfl rfl ?_
  refine x_wk (a_wk.s (a_wk.d rfl (a_wk.s (a_wk.s a_wk.n)))) ?_
  have q2 : (s_158 n A 1 1) &&& (l1 ^^^ 4294967295) ≤ 31 := Nat.le_trans Nat.and_le_left (by omega)
  have q3 : (s_158 n A 1 1) &&& (l1 ^^^ 4294967295) ≤ (s_158 n A 1 1) := Nat.and_le_left
  exact c_211_13 (6) r (by omega) (by omega) (by omega) (by omega) k
def s_215 (n : Nat) (A : HA) (l1 : Nat) (l2 : Nat) : Nat :=
  (if (s_160 n A l1) < (A 6 l2) then 0 else 1)
theorem c_215 {sc : a_Sc} {fd : Nat} {M : a_Mm} {A : HA} {Q : Option Value → a_Hp → Prop} {n : Nat} (r : RM M n A) {l1 l2 : Nat} (hl1 : l1 ≤ 31) (hl2 : l2 ≤ 4) (i0 : 1 ≤ l2) (k : KP 1 Q (a_hp sc fd M) (s_215 n A l1 l2)) : a_Ex 215 0 [some (.ref 170), some (.int (N l1)), some (.int (N l2))] [] (a_hp sc fd M) Q := by
  unfold s_215 at k
  have n5 := r.n5
  have n2 := r.n2
  refine x_aload_n i_215_0 rfl ?_
  refine x_iload_n i_215_1 rfl ?_
  refine x_vh (r := []) (lj := [some _, some _, none, none]) i_215_2 w_160 ob_170 [_] rfl rfl (Nat.le_of_ble_eq_true rfl) (Nat.le_of_ble_eq_true rfl) rfl ?_
  refine c_160 r (by omega)  (fun q1 => rt_i ?_)
  refine x_aload_n i_215_5 rfl ?_
  refine x_gr i_215_6 ob_170 gr_8_1.1 gr_8_1.2 (rt_170_1 _) ?_
  refine x_iload_n i_215_9 rfl ?_
  refine n_ld (x := A 6 l2) i_215_10 ar_171 (by omega) (by omega) (r.fx (by omega)) ?_
  have q2 : A 6 l2 ≤ 15 := r.w.fx (by omega)
  refine x_iltN (by omega) (by omega) i_215_11 ⟨fun g3 => ?_, fun g3 => ?_⟩
  · have k := kp g3 k
    refine n_iconst 0 i_215_18 rfl ?_
    refine x_iret i_215_19 rn_215 (by decide +kernel) ?_
    exact k (show 0 ≤ 1 by omega)
  · have k := kn g3 k
    refine n_iconst 1 i_215_14 rfl ?_
    refine x_goto i_215_15 ?_
    refine x_iret i_215_19 rn_215 (by decide +kernel) ?_
    exact k (show 1 ≤ 1 by omega)
def s_216_2 (n : Nat) : Nat → HA → Nat → Nat → Nat → Nat
  | 0, _, _, _, _ => 0
  | d + 1, A, l1, l2, l3 => (if n ≤ l3 then s_215 n A l1 l2 else (if ((l1 >>> l3) &&& 1) = 1 then (if (s_215 n A (l1 &&& ((1 <<< l3) ^^^ 4294967295)) l2) = 0 then (s_216_2 n d A l1 l2 (l3 + 1)) else 0) else (s_216_2 n d A l1 l2 (l3 + 1))))
theorem c_216_2 {sc : a_Sc} {fd : Nat} {Q : Option Value → a_Hp → Prop} {n : Nat} : ∀ (d : Nat) {M : a_Mm} {A : HA} {l1 l2 l3 : Nat} (r : RM M n A) (hl1 : l1 ≤ 31) (hl2 : l2 ≤ 4) (hl3 : l3 ≤ 5) (i0 : l3 ≤ n) (i1 : 1 ≤ l2) (hm : n - l3 < d) (k : KP 1 Q (a_hp sc fd M) (s_216_2 n d A l1 l2 l3)), a_Ex 216 2 [some (.ref 170), some (.int (N l1)), some (.int (N l2)), some (.int (N l3))] [] (a_hp sc fd M) Q := by
  intro d
  induction d with
  | zero => intro M A l1 l2 l3 r hl1 hl2 hl3 i0 i1 hm k; exact absurd hm (Nat.not_lt_zero _)
  | succ d ih =>
      intro M A l1 l2 l3 r hl1 hl2 hl3 i0 i1 hm k
      unfold s_216_2 at k
      have n5 := r.n5
      have n2 := r.n2
      refine x_iload_n i_216_2 rfl ?_
      refine x_aload_n i_216_3 rfl ?_
      refine x_gr i_216_4 ob_170 gr_8_1.1 gr_8_1.2 (rt_170_1 _) ?_
      refine n_iconst 0 i_216_7 rfl ?_
      refine n_ld (x := n) i_216_8 ar_171 (by omega) (by omega) r.nn ?_
      refine x_igeN (by omega) (by omega) i_216_9 ⟨fun g1 => ?_, fun g1 => ?_⟩
      · have k := kp g1 k
        refine x_aload_n i_216_43 rfl ?_
        refine x_iload_n i_216_44 rfl ?_
        refine x_iload_n i_216_45 rfl ?_
        refine x_vh (r := []) (lj := [some _, some _, some _]) i_216_46 w_215 ob_170 [_, _] rfl rfl (Nat.le_of_ble_eq_true rfl) (Nat.le_of_ble_eq_true rfl) rfl ?_
        refine c_215 r (by omega) (by omega) (by omega) (fun q2 => rt_i ?_)
        refine x_iret i_216_49 rn_216 (nb1 (by omega)) ?_
        exact k (show s_215 n A l1 l2 ≤ 1 by omega)
      · have k := kn g1 k
        refine x_iload_n i_216_12 rfl ?_
        refine x_iload_n i_216_13 rfl ?_
        refine x_sh (r := []) (lj := [some _, some _]) i_216_14 ws_161 [_, _] rfl rfl (Nat.le_of_ble_eq_true rfl) (Nat.le_of_ble_eq_true rfl) rfl ?_
        refine x_iload_n i_161_0 rfl ?_
        refine x_iload_n i_161_1 rfl ?_
        refine x_ishrN (by omega) (by omega) i_161_2 ?_
        refine n_iconst 1 i_161_3 rfl ?_
        refine x_iandN i_161_4 ?_
        refine n_iconst 1 i_161_5 rfl ?_
        have q3 : l1 >>> l3 ≤ l1 := shr_le _ _
        have q4 : (l1 >>> l3) &&& 1 ≤ 1 := Nat.le_trans Nat.and_le_right (by omega)
        have q5 : (l1 >>> l3) &&& 1 ≤ (l1 >>> l3) := Nat.and_le_left
        refine x_ineN (by omega) (by omega) i_161_6 ⟨fun g6 => ?_, fun g6 => ?_⟩
        · have k := kn g6 k
          refine n_iconst 0 i_161_13 rfl ?_
          refine x_iretI i_161_14 rn_161 (by decide +kernel) ?_
          refine x_ifT i_216_17 (by decide +kernel) ?_
          refine n_iinc 1 i_216_37 rfl rfl rfl rfl ?_
          refine x_goto i_216_40 ?_
          exact ih r (by omega) (by omega) (by omega) (by omega) (by omega) (by omega) k
        · have k := kp g6 k
          refine n_iconst 1 i_161_9 rfl ?_
          refine x_goto i_161_10 ?_
          refine x_iretI i_161_14 rn_161 (by decide +kernel) ?_
          refine x_ifF i_216_17 (by decide +kernel) ?_
          refine x_aload_n i_216_20 rfl ?_
          refine x_iload_n i_216_21 rfl ?_
          refine n_iconst 1 i_216_22 rfl ?_
          refine x_iload_n i_216_23 rfl ?_
          refine x_ishlN (by omega) i_216_24 ?_
          refine n_iconst 4294967295 i_216_25 rfl ?_
          refine x_ixorN i_216_26 ?_
          refine x_iandN i_216_27 ?_
          refine x_iload_n i_216_28 rfl ?_
          have q7 : 1 <<< l3 ≤ 16 := shl_le 4 (by omega)
          have q8 : l1 &&& ((1 <<< l3) ^^^ 4294967295) ≤ 31 := Nat.le_trans Nat.and_le_left (by omega)
          have q9 : l1 &&& ((1 <<< l3) ^^^ 4294967295) ≤ l1 := Nat.and_le_left
          refine x_vh (r := []) (lj := [some _, some _, some _]) i_216_29 w_215 ob_170 [_, _] rfl rfl (Nat.le_of_ble_eq_true rfl) (Nat.le_of_ble_eq_true rfl) rfl ?_
          refine c_215 r (by omega) (by omega) (by omega) (fun q10 => rt_i ?_)
          refine x_zeqN (by omega) i_216_32 ⟨fun g11 => ?_, fun g11 => ?_⟩
          · have k := kp g11 k
            refine n_iinc 1 i_216_37 rfl rfl rfl rfl ?_
            refine x_goto i_216_40 ?_
            exact ih r (by omega) (by omega) (by omega) (by omega) (by omega) (by omega) k
          · have k := kn g11 k
            refine n_iconst 0 i_216_35 rfl ?_
            refine x_iret i_216_36 rn_216 (by decide +kernel) ?_
            exact k (show 0 ≤ 1 by omega)
def s_216 (n : Nat) (A : HA) (l1 : Nat) (l2 : Nat) : Nat :=
  (s_216_2 n (6) A l1 l2 0)
theorem c_216 {sc : a_Sc} {fd : Nat} {M : a_Mm} {A : HA} {Q : Option Value → a_Hp → Prop} {n : Nat} (r : RM M n A) {l1 l2 : Nat} (hl1 : l1 ≤ 31) (hl2 : l2 ≤ 4) (i0 : 1 ≤ l2) (k : KP 1 Q (a_hp sc fd M) (s_216 n A l1 l2)) : a_Ex 216 0 [some (.ref 170), some (.int (N l1)), some (.int (N l2)), none] [] (a_hp sc fd M) Q := by
  unfold s_216 at k
  have n5 := r.n5
  have n2 := r.n2
  refine n_iconst 0 i_216_0 rfl ?_
  refine x_istore_n i_216_1 rfl rfl ?_
  exact c_216_2 (6) r (by omega) (by omega) (by omega) (by omega) (by omega) (by omega) k
def s_218 (n : Nat) (A : HA) (l1 : Nat) : Nat :=
  (if l1 = 0 then 4294967295 else s_202 n A l1)
theorem c_218 {sc : a_Sc} {fd : Nat} {M : a_Mm} {A : HA} {Q : Option Value → a_Hp → Prop} {n : Nat} (r : RM M n A) {l1 : Nat} (hl1 : l1 ≤ 31) (k : KP 4294967295 Q (a_hp sc fd M) (s_218 n A l1)) : a_Ex 218 0 [some (.ref 170), some (.int (N l1))] [] (a_hp sc fd M) Q := by
  unfold s_218 at k
  have n5 := r.n5
  have n2 := r.n2
  refine x_iload_n i_218_0 rfl ?_
  refine x_zneN (by omega) i_218_1 ⟨fun g1 => ?_, fun g1 => ?_⟩
  · have k := kn g1 k
    refine x_aload_n i_218_8 rfl ?_
    refine x_iload_n i_218_9 rfl ?_
    refine x_vh (r := []) (lj := [some _, some _]) i_218_10 w_202 ob_170 [_] rfl rfl (Nat.le_of_ble_eq_true rfl) (Nat.le_of_ble_eq_true rfl) rfl ?_
    refine c_202 r (by omega)  (fun q2 => rt_i ?_)
    refine x_iret i_218_13 rn_218 rfl ?_
    exact k (show s_202 n A l1 ≤ 4294967295 by omega)
  · have k := kp g1 k
    refine n_iconst 4294967295 i_218_4 rfl ?_
    refine x_goto i_218_5 ?_
    refine x_iret i_218_13 rn_218 rfl ?_
    exact k (show 4294967295 ≤ 4294967295 by omega)
def s_223_4 (n : Nat) : Nat → HA → Nat → Nat → Nat
  | 0, _, _, _ => 0
  | d + 1, A, l1, l2 => (if n ≤ l2 then l1 else (s_223_4 n d A ((10 * l1) + (A 0 l2)) (l2 + 1)))
theorem c_223_4 {sc : a_Sc} {fd : Nat} {Q : Option Value → a_Hp → Prop} {n : Nat} : ∀ (d : Nat) {M : a_Mm} {A : HA} {l1 l2 : Nat} (r : RM M n A) (hl2 : l2 ≤ 5) (i0 : l2 ≤ n) (hm : n - l2 < d) (k : KQ Q (a_hp sc fd M) (s_223_4 n d A l1 l2)), a_Ex 223 4 [some (.ref 170), some (.int (N l1)), some (.int (N l2))] [] (a_hp sc fd M) Q := by
  intro d
  induction d with
  | zero => intro M A l1 l2 r hl2 i0 hm k; exact absurd hm (Nat.not_lt_zero _)
  | succ d ih =>
      intro M A l1 l2 r hl2 i0 hm k
      unfold s_223_4 at k
      have n5 := r.n5
      have n2 := r.n2
      refine x_iload_n i_223_4 rfl ?_
      refine x_aload_n i_223_5 rfl ?_
      refine x_gr i_223_6 ob_170 gr_8_1.1 gr_8_1.2 (rt_170_1 _) ?_
      refine n_iconst 0 i_223_9 rfl ?_
      refine n_ld (x := n) i_223_10 ar_171 (by omega) (by omega) r.nn ?_
      refine x_igeN (by omega) (by omega) i_223_11 ⟨fun g1 => ?_, fun g1 => ?_⟩
      · have k := kp g1 k
        refine x_iload_n i_223_32 rfl ?_
        refine x_iret i_223_33 rn_223 rfl ?_
        exact k
      · have k := kn g1 k
        refine n_bipush 10 i_223_14 rfl ?_
        refine x_iload_n i_223_16 rfl ?_
        refine x_imulN i_223_17 ?_
        refine x_aload_n i_223_18 rfl ?_
        refine x_iload_n i_223_19 rfl ?_
        refine n_iconst 0 i_223_20 rfl ?_
        refine n_atx (A 0 l2) i_223_21 r 0 (by omega) (by omega) (Nat.le_of_ble_eq_true rfl) rfl ?_
        refine x_iaddN i_223_24 ?_
        refine x_istore_n i_223_25 rfl rfl ?_
        refine n_iinc 1 i_223_26 rfl rfl rfl rfl ?_
        refine x_goto i_223_29 ?_
        have q2 : A 0 l2 ≤ 5 := r.w.b0 (by omega)
        exact ih r (by omega) (by omega) (by omega) k
def s_223 (n : Nat) (A : HA) : Nat :=
  (s_223_4 n (6) A 0 0)
theorem c_223 {sc : a_Sc} {fd : Nat} {M : a_Mm} {A : HA} {Q : Option Value → a_Hp → Prop} {n : Nat} (r : RM M n A) (k : KQ Q (a_hp sc fd M) (s_223 n A)) : a_Ex 223 0 [some (.ref 170), none, none] [] (a_hp sc fd M) Q := by
  unfold s_223 at k
  have n5 := r.n5
  have n2 := r.n2
  refine n_iconst 0 i_223_0 rfl ?_
  refine x_istore_n i_223_1 rfl rfl ?_
  refine n_iconst 0 i_223_2 rfl ?_
  refine x_istore_n i_223_3 rfl rfl ?_
  exact c_223_4 (6) r (by omega) (by omega) (by omega) k
def s_237_13 (n : Nat) : Nat → HA → Nat → Nat → Nat → Nat
  | 0, _, _, _, _ => 0
  | d + 1, A, l2, l3, l4 => (if n ≤ l4 then (if l2 ≤ 0 then l3 else 4294967295) else (if (l2 % 10) ≤ 5 then (s_237_13 n d A (l2 / 10) ((6 * l3) + (l2 % 10)) (l4 + 1)) else 4294967295))
theorem c_237_13 {sc : a_Sc} {fd : Nat} {Q : Option Value → a_Hp → Prop} {n : Nat} : ∀ (d : Nat) {M : a_Mm} {A : HA} {l2 l3 l4 : Nat} (r : RM M n A) (hl2 : l2 ≤ 2147483647) (hl4 : l4 ≤ 5) (i0 : l4 ≤ n) (hm : n - l4 < d) (k : KQ Q (a_hp sc fd M) (s_237_13 n d A l2 l3 l4)), a_Ex 237 13 [some (.ref 170), none, some (.int (N l2)), some (.int (N l3)), some (.int (N l4))] [] (a_hp sc fd M) Q := by
  intro d
  induction d with
  | zero => intro M A l2 l3 l4 r hl2 hl4 i0 hm k; exact absurd hm (Nat.not_lt_zero _)
  | succ d ih =>
      intro M A l2 l3 l4 r hl2 hl4 i0 hm k
      unfold s_237_13 at k
      have n5 := r.n5
      have n2 := r.n2
      refine x_iload i_237_13 rfl ?_
      refine x_aload_n i_237_15 rfl ?_
      refine x_gr i_237_16 ob_170 gr_8_1.1 gr_8_1.2 (rt_170_1 _) ?_
      refine n_iconst 0 i_237_19 rfl ?_
      refine n_ld (x := n) i_237_20 ar_171 (by omega) (by omega) r.nn ?_
      refine x_igeN (by omega) (by omega) i_237_21 ⟨fun g1 => ?_, fun g1 => ?_⟩
      · have k := kp g1 k
        refine x_iload_n i_237_55 rfl ?_
        refine x_zleN (by omega) i_237_56 ⟨fun g2 => ?_, fun g2 => ?_⟩
        · have k := kp g2 k
          refine x_iload_n i_237_63 rfl ?_
          refine x_iret i_237_64 rn_237 rfl ?_
          exact k
        · have k := kn g2 k
          refine n_iconst 4294967295 i_237_59 rfl ?_
          refine x_goto i_237_60 ?_
          refine x_iret i_237_64 rn_237 rfl ?_
          exact k
      · have k := kn g1 k
        refine x_iload_n i_237_24 rfl ?_
        refine n_bipush 10 i_237_25 rfl ?_
        refine x_iremN (by omega) (by omega) (by omega) i_237_27 ?_
        refine n_iconst 5 i_237_28 rfl ?_
        refine x_ileN (by omega) (by omega) i_237_29 ⟨fun g3 => ?_, fun g3 => ?_⟩
        · have k := kp g3 k
          refine n_bipush 6 i_237_34 rfl ?_
          refine x_iload_n i_237_36 rfl ?_
          refine x_imulN i_237_37 ?_
          refine x_iload_n i_237_38 rfl ?_
          refine n_bipush 10 i_237_39 rfl ?_
          refine x_iremN (by omega) (by omega) (by omega) i_237_41 ?_
          refine x_iaddN i_237_42 ?_
          refine x_istore_n i_237_43 rfl rfl ?_
          refine x_iload_n i_237_44 rfl ?_
          refine n_bipush 10 i_237_45 rfl ?_
          refine x_idivN (by omega) (by omega) (by omega) i_237_47 ?_
          refine x_istore_n i_237_48 rfl rfl ?_
          refine n_iinc 1 i_237_49 rfl rfl rfl rfl ?_
          refine x_goto i_237_52 ?_
          exact ih r (by omega) (by omega) (by omega) (by omega) k
        · have k := kn g3 k
          refine n_iconst 4294967295 i_237_32 rfl ?_
          refine x_iret i_237_33 rn_237 rfl ?_
          exact k
def s_237 (n : Nat) (A : HA) (l1 : Nat) : Nat :=
  (if 2147483648 ≤ l1 then 4294967295 else (s_237_13 n (6) A l1 0 0))
theorem c_237 {sc : a_Sc} {fd : Nat} {M : a_Mm} {A : HA} {Q : Option Value → a_Hp → Prop} {n : Nat} (r : RM M n A) {l1 : Nat} (hl1 : l1 ≤ 4294967295) (k : KQ Q (a_hp sc fd M) (s_237 n A l1)) : a_Ex 237 0 [some (.ref 170), some (.int (N l1)), none, none, none] [] (a_hp sc fd M) Q := by
  unfold s_237 at k
  have n5 := r.n5
  have n2 := r.n2
  refine x_iload_n i_237_0 rfl ?_
  refine x_istore_n i_237_1 rfl rfl ?_
  refine n_iconst 0 i_237_2 rfl ?_
  refine x_istore_n i_237_3 rfl rfl ?_
  refine x_iload_n i_237_4 rfl ?_
  refine n_zgeU (by omega) i_237_5 ⟨fun g1 => ?_, fun g1 => ?_⟩
  · have k := kn g1 k
    refine n_iconst 0 i_237_10 rfl ?_
    refine x_istore i_237_11 rfl rfl ?_
    refine x_wk (a_wk.s (a_wk.d rfl (a_wk.s (a_wk.s (a_wk.s a_wk.n))))) ?_
    exact c_237_13 (6) r (by omega) (by omega) (by omega) (by omega) k
  · have k := kp g1 k
    refine n_iconst 4294967295 i_237_8 rfl ?_
    refine x_iret i_237_9 rn_237 rfl ?_
    exact k
