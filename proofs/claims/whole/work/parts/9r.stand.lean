/-! the reference's search: numbers of stands -/
def sn (n : Nat) (A : HA) : Nat → Nat → Nat
  | 0, x => x
  | k + 1, x => sn n A k (6 * x + if n ≤ k then 0 else A 0 k)
section RSN
theorem n_bit {i p n0 t b0 n1 a1 b1 n3 j b3 n4 a4 b4 x : Nat} {v0 v1 v3 v4 : Int32} {c0 c3 : Int} {c1 c4 : Int} {lc : a_Lc} {st : List Value} {h : a_Hp} {Q : Option Value → a_Hp → Prop} (h1 : a_ins i p = some (.ifCond .eq c0, n0, t, b0, v0)) (h2 : a_ins i (p + n0) = some (.iconst c1, n1, a1, b1, v1)) (h3 : a_ins i (p + n0 + n1) = some (.goto c3, n3, j, b3, v3)) (h4 : a_ins i t = some (.iconst c4, n4, a4, b4, v4)) (e2 : v1 = N 1) (e4 : v4 = N 0) (e : t + n4 = j) (hx : x < 2) (k : a_Ex i j lc (.int (N x) :: st) h Q) : a_Ex i p lc (.int (N x) :: st) h Q := by
  refine x_zeqN (by omega) h1 ⟨fun g => ?_, fun g => ?_⟩
  · rw [g] at k
    refine n_iconst 0 h4 e4 ?_
    rw [e]; exact k
  · rw [show x = 1 by omega] at k
    refine n_iconst 1 h2 e2 ?_
    exact x_goto h3 k
variable {sc : a_Sc} {fd : Nat} {M M0 : a_Mm} {n g x s c k : Nat} {T A B C : HA} {h : a_Hp} {Q : Option Value → a_Hp → Prop}
theorem c_161 (hx : x < 2147483648) (hs : s < 32) (K : Q (some (.int (N (x / 2 ^ s % 2)))) h) (he : h = a_hp sc fd M) : a_Ex 161 0 [some (.int (N x)), some (.int (N s))] [] h Q := by
  have e : (x >>> s) &&& 1 = x / 2 ^ s % 2 := sh1 x s
  refine x_iload_n i_161_0 rfl ?_
  refine x_iload_n i_161_1 rfl ?_
  refine x_ishrN (by omega) (by omega) i_161_2 ?_
  refine n_iconst 1 i_161_3 rfl ?_
  refine x_iandN i_161_4 ?_
  refine n_iconst 1 i_161_5 rfl ?_
  refine x_ineN (by rw [e]; omega) (by omega) i_161_6 ⟨fun g1 => ?_, fun g1 => ?_⟩
  · rw [e] at g1
    rw [show x / 2 ^ s % 2 = 0 by omega] at K
    refine n_iconst 0 i_161_13 rfl ?_
    refine x_iret i_161_14 rn_161 rfl ?_
    exact K
  · rw [e] at g1
    rw [g1] at K
    refine n_iconst 1 i_161_9 rfl ?_
    refine x_goto i_161_10 ?_
    refine x_iret i_161_14 rn_161 rfl ?_
    exact K
theorem c_229 (hx : x < 2147483648) (K : Q (some (.int (N (x / 16)))) h) : a_Ex 229 0 [some (.int (N x))] [] h Q := by
  refine x_iload_n i_229_0 rfl ?_
  refine n_bipush 16 i_229_1 rfl ?_
  refine x_idivN (by omega) (by omega) (by omega) i_229_3 ?_
  refine x_iret i_229_4 rn_229 rfl ?_
  exact K
def sIn (x s : Nat) : Nat := if s = 0 then x % 6 else if s = 1 then x / 6 % 6 else x / 36
theorem c_235 (hx : x < 2147483648) (hs : s < 2147483648) (K : Q (some (.int (N (sIn x s)))) h) : a_Ex 235 0 [some (.int (N x)), some (.int (N s))] [] h Q := by
  unfold sIn at K
  refine x_iload_n i_235_0 rfl ?_
  refine x_zneN (by omega) i_235_1 ⟨fun g1 => ?_, fun g1 => ?_⟩
  · rw [if_neg g1] at K
    refine x_iload_n i_235_11 rfl ?_
    refine n_iconst 1 i_235_12 rfl ?_
    refine x_ineN (by omega) (by omega) i_235_13 ⟨fun g2 => ?_, fun g2 => ?_⟩
    · rw [if_neg g2] at K
      refine x_iload_n i_235_26 rfl ?_
      refine n_bipush 36 i_235_27 rfl ?_
      refine x_idivN (by omega) (by omega) (by omega) i_235_29 ?_
      refine x_iret i_235_30 rn_235 rfl ?_
      exact K
    · rw [if_pos g2] at K
      refine x_iload_n i_235_16 rfl ?_
      refine n_bipush 6 i_235_17 rfl ?_
      refine x_idivN (by omega) (by omega) (by omega) i_235_19 ?_
      refine n_bipush 6 i_235_20 rfl ?_
      refine x_iremN (by omega) (by omega) (by omega) i_235_22 ?_
      refine x_goto i_235_23 ?_
      refine x_iret i_235_30 rn_235 rfl ?_
      exact K
  · rw [if_pos g1] at K
    refine x_iload_n i_235_4 rfl ?_
    refine n_bipush 6 i_235_5 rfl ?_
    refine x_iremN (by omega) (by omega) (by omega) i_235_7 ?_
    refine x_goto i_235_8 ?_
    refine x_iret i_235_30 rn_235 rfl ?_
    exact K
theorem c_227_4 (r : RM M n A) (K : Q (some (.int (N (4 * (4 * (8 * sn n A 3 0 + s_158 n A 1 1) + s_158 n A 2 1 / 2) + A 6 2)))) (a_hp sc fd M)) : ∀ k x, k ≤ 3 → sn n A k x = sn n A 3 0 → a_Ex 227 4 [some (.ref 170), some (.int (N x)), some (.int (N (k + 4294967295)))] [] (a_hp sc fd M) Q := by
  have n5 := r.n5
  intro k
  induction k with
  | zero =>
    intro x hk hx
    have hx : x = sn n A 3 0 := hx
    refine x_iload_n i_227_4 rfl ?_
    refine n_declt (by omega) i_227_5 ⟨fun g1 => ?_, fun g1 => ?_⟩
    · refine n_iconst 4 i_227_40 rfl ?_
      refine n_iconst 4 i_227_41 rfl ?_
      refine n_bipush 8 i_227_42 rfl ?_
      refine x_iload_n i_227_44 rfl ?_
      refine x_imulN i_227_45 ?_
      refine x_aload_n i_227_46 rfl ?_
      refine n_iconst 1 i_227_47 rfl ?_
      refine n_iconst 1 i_227_48 rfl ?_
      refine x_vh (r := [_, _, _]) (lj := [some _, some _, some _, none, none]) i_227_49 w_158 ob_170 [_, _] rfl rfl (Nat.le_of_ble_eq_true rfl) (Nat.le_of_ble_eq_true rfl) rfl ?_
      refine c_158 r (by omega) (by omega) (fun h1 => rt_i ?_)
      refine x_iaddN i_227_52 ?_
      refine x_imulN i_227_53 ?_
      refine x_aload_n i_227_54 rfl ?_
      refine n_iconst 2 i_227_55 rfl ?_
      refine n_iconst 1 i_227_56 rfl ?_
      refine x_vh (r := [_, _]) (lj := [some _, some _, some _, none, none]) i_227_57 w_158 ob_170 [_, _] rfl rfl (Nat.le_of_ble_eq_true rfl) (Nat.le_of_ble_eq_true rfl) rfl ?_
      refine c_158 r (by omega) (by omega) (fun h2 => rt_i ?_)
      refine n_iconst 2 i_227_60 rfl ?_
      refine x_idivN (by omega) (by omega) (by omega) i_227_61 ?_
      refine x_iaddN i_227_62 ?_
      refine x_imulN i_227_63 ?_
      refine x_aload_n i_227_64 rfl ?_
      refine x_gr i_227_65 ob_170 gr_8_1.1 gr_8_1.2 (rt_170_1 _) ?_
      refine n_iconst 2 i_227_68 rfl ?_
      refine n_ld (x := A 6 2) i_227_69 ar_171 (by omega) (by omega) (r.2.2.1 2 (by omega) (by omega)) ?_
      refine x_iaddN i_227_70 ?_
      refine x_iret i_227_71 rn_227 rfl ?_
      rw [hx]
      exact K
    · exact absurd rfl g1
  | succ k ih =>
    intro x hk hx
    have hx : sn n A k (6 * x + if n ≤ k then 0 else A 0 k) = sn n A 3 0 := hx
    refine x_iload_n i_227_4 rfl ?_
    refine n_declt (by omega) i_227_5 ⟨fun g1 => ?_, fun g1 => ?_⟩
    · exact absurd g1 (by omega)
    · rw [N_dec (x := k + 1) (by omega), show k + 1 - 1 = k by omega]
      refine n_bipush 6 i_227_8 rfl ?_
      refine x_iload_n i_227_10 rfl ?_
      refine x_imulN i_227_11 ?_
      refine x_iload_n i_227_12 rfl ?_
      refine x_aload_n i_227_13 rfl ?_
      refine x_gr i_227_14 ob_170 gr_8_1.1 gr_8_1.2 (rt_170_1 _) ?_
      refine n_iconst 0 i_227_17 rfl ?_
      refine n_ld (x := n) i_227_18 ar_171 (by omega) (by omega) r.nn ?_
      refine x_igeN (by omega) (by omega) i_227_19 ⟨fun g2 => ?_, fun g2 => ?_⟩
      · rw [if_pos g2] at hx
        refine n_iconst 0 i_227_31 rfl ?_
        refine x_iaddN i_227_32 ?_
        refine x_istore_n i_227_33 rfl rfl ?_
        refine n_iinc 4294967295 i_227_34 rfl rfl rfl rfl ?_
        refine x_goto i_227_37 ?_
        exact ih _ (by omega) hx
      · rw [if_neg g2] at hx
        refine x_aload_n i_227_22 rfl ?_
        refine x_iload_n i_227_23 rfl ?_
        refine n_iconst 0 i_227_24 rfl ?_
        refine n_at i_227_25 r 0 (by omega) (by omega) (Nat.le_of_ble_eq_true rfl) ?_
        refine x_goto i_227_28 ?_
        refine x_iaddN i_227_32 ?_
        refine x_istore_n i_227_33 rfl rfl ?_
        refine n_iinc 4294967295 i_227_34 rfl rfl rfl rfl ?_
        refine x_goto i_227_37 ?_
        exact ih _ (by omega) hx
theorem sn_phi (w : WN n A) (v : VS n A) : 4 * (4 * (8 * sn n A 3 0 + s_158 n A 1 1) + s_158 n A 2 1 / 2) + A 6 2 = phi n (vl n A) := by
  have v0 := v
  obtain ⟨hn, h, h0, h3⟩ := v
  rw [phi_vl v0, x69 (EQ.refl A) w.1.2, x74 (EQ.refl A) w.1.2]
  rcases hn with rfl | rfl
  · rw [s69_2 (fun s hs => (h s hs).2.1), s74_2 (fun s hs => (h s hs).2.2), if_pos rfl, if_pos rfl]
    show 4 * (4 * (8 * (6 * (6 * (6 * 0 + 0) + A 0 1) + A 0 0) + _) + _) + _ = _
    omega
  · rw [s69_3 (fun s hs => (h s hs).2.1), s74_3 (fun s hs => (h s hs).2.2), if_neg (by omega), if_neg (by omega)]
    show 4 * (4 * (8 * (6 * (6 * (6 * 0 + A 0 2) + A 0 1) + A 0 0) + _) + _) + _ = _
    omega
theorem c_227 (r : RM M n A) (v : VS n A) (K : Q (some (.int (N (phi n (vl n A))))) (a_hp sc fd M)) : a_Ex 227 0 [some (.ref 170), none, none] [] (a_hp sc fd M) Q := by
  have e := sn_phi r.1 v
  refine n_iconst 0 i_227_0 rfl ?_
  refine x_istore_n i_227_1 rfl rfl ?_
  refine n_iconst 2 i_227_2 rfl ?_
  refine x_istore_n i_227_3 rfl rfl ?_
  rw [show N 2 = N (3 + 4294967295) by rw [N_dec (by omega)]]
  exact c_227_4 r (by rw [e]; exact K) 3 0 (Nat.le_refl _) rfl
theorem dgr2 : ∀ p, p < 36 → (p % 6 * 6 + p / 6) / 1 % 6 = p / 6 ∧ (p % 6 * 6 + p / 6) / 6 % 6 = p % 6 := by decide +kernel
theorem dgr3 : ∀ p, p < 216 → (p % 6 * 36 + p / 6 % 6 * 6 + p / 36) / 1 % 6 = p / 36 ∧ (p % 6 * 36 + p / 6 % 6 * 6 + p / 36) / 6 % 6 = p / 6 % 6 ∧ (p % 6 * 36 + p / 6 % 6 * 6 + p / 36) / 36 % 6 = p % 6 := by decide +kernel
/-- a stand is laid -/
theorem c_231_35 (hc : c < 27648) : ∀ d s {M : a_Mm} {A : HA} {x : Nat}, n - s = d → s ≤ n → x = c / 128 / 6 ^ s → RM M n A → FM M0 M → (∀ M' B, RM M' n B → FM M0 M' → (∀ w t, (3 ≤ w ∨ t < s ∨ n ≤ t) → B w t = A w t) → (∀ t, s ≤ t → t < n → B 0 t = c / 128 / 6 ^ t % 6 ∧ B 1 t = c / 16 % 8 / 2 ^ t % 2 ∧ B 2 t = c / 4 % 4 * 2 / 2 ^ t % 2) → Q none (a_hp sc fd M')) → a_Ex 231 35 [some (.ref 170), some (.int (N c)), some (.int (N (c / 4 % 4 * 2))), some (.int (N (c / 16 % 8))), some (.int (N x)), some (.int (N s))] [] (a_hp sc fd M) Q := by
  intro d
  induction d with
  | zero =>
    intro s M A x hd hs hx r fr K
    have n5 := r.n5
    have e : n = s := by omega
    subst e
    refine x_iload i_231_35 rfl ?_
    refine x_aload_n i_231_37 rfl ?_
    refine x_gr i_231_38 ob_170 gr_8_1.1 gr_8_1.2 (rt_170_1 _) ?_
    refine n_iconst 0 i_231_41 rfl ?_
    refine n_ld (x := n) i_231_42 ar_171 (by omega) (by omega) r.nn ?_
    refine x_igeN (by omega) (by omega) i_231_43 ⟨fun g1 => ?_, fun g1 => ?_⟩
    · refine x_vret i_231_113 rn_231 ?_
      exact K M A r fr (fun _ _ _ => rfl) (fun t h1 h2 => absurd h1 (by omega))
    · exact absurd (Nat.le_refl _) g1
  | succ d ih =>
    intro s M A x hd hs hx r fr K
    have n5 := r.n5
    have hxl : x < 27648 := by
      have := Nat.div_le_self (c / 128) (6 ^ s)
      omega
    refine x_iload i_231_35 rfl ?_
    refine x_aload_n i_231_37 rfl ?_
    refine x_gr i_231_38 ob_170 gr_8_1.1 gr_8_1.2 (rt_170_1 _) ?_
    refine n_iconst 0 i_231_41 rfl ?_
    refine n_ld (x := n) i_231_42 ar_171 (by omega) (by omega) r.nn ?_
    refine x_igeN (by omega) (by omega) i_231_43 ⟨fun g1 => ?_, fun g1 => ?_⟩
    · exact absurd g1 (by omega)
    · refine x_aload_n i_231_46 rfl ?_
      refine x_iload i_231_47 rfl ?_
      refine n_iconst 0 i_231_49 rfl ?_
      refine x_iload i_231_50 rfl ?_
      refine n_bipush 6 i_231_52 rfl ?_
      refine x_iremN (by omega) (by omega) (by omega) i_231_54 ?_
      refine n_lays i_231_55 r 0 (by omega) (by omega) (show x % 6 < 6 by omega) (Nat.le_of_ble_eq_true rfl) (fun M1 r1 f1 => ?_)
      refine x_aload_n i_231_58 rfl ?_
      refine x_iload i_231_59 rfl ?_
      refine n_iconst 1 i_231_61 rfl ?_
      refine x_iload_n i_231_62 rfl ?_
      refine x_iload i_231_63 rfl ?_
      refine x_sh (r := [_, _, _]) (lj := [some _, some _]) i_231_65 ws_161 [_, _] rfl rfl (Nat.le_of_ble_eq_true rfl) (Nat.le_of_ble_eq_true rfl) rfl ?_
      refine c_161 (sc := sc) (fd := fd) (M := M1) (by omega) (by omega) (rt_i ?_) rfl
      refine n_bit i_231_68 i_231_71 i_231_72 i_231_75 rfl rfl rfl (by omega) ?_
      refine n_lays i_231_76 r1 1 (by omega) (by omega) (show c / 16 % 8 / 2 ^ s % 2 < 3 by omega) (Nat.le_of_ble_eq_true rfl) (fun M2 r2 f2 => ?_)
      refine x_aload_n i_231_79 rfl ?_
      refine x_iload i_231_80 rfl ?_
      refine n_iconst 2 i_231_82 rfl ?_
      refine x_iload_n i_231_83 rfl ?_
      refine x_iload i_231_84 rfl ?_
      refine x_sh (r := [_, _, _]) (lj := [some _, some _]) i_231_86 ws_161 [_, _] rfl rfl (Nat.le_of_ble_eq_true rfl) (Nat.le_of_ble_eq_true rfl) rfl ?_
      refine c_161 (sc := sc) (fd := fd) (M := M2) (by omega) (by omega) (rt_i ?_) rfl
      refine n_bit i_231_89 i_231_92 i_231_93 i_231_96 rfl rfl rfl (by omega) ?_
      refine n_lays i_231_97 r2 2 (by omega) (by omega) (show c / 4 % 4 * 2 / 2 ^ s % 2 < 5 by omega) (Nat.le_of_ble_eq_true rfl) (fun M3 r3 f3 => ?_)
      refine x_iload i_231_100 rfl ?_
      refine n_bipush 6 i_231_102 rfl ?_
      refine x_idivN (by omega) (by omega) (by omega) i_231_104 ?_
      refine x_istore i_231_105 rfl rfl ?_
      refine n_iinc 1 i_231_107 rfl rfl rfl rfl ?_
      refine x_goto i_231_110 ?_
      refine ih (s + 1) (by omega) (by omega) (by rw [hx, Nat.pow_succ, Nat.div_div_eq_div_mul]) r3 (fr.trans (f1.trans (f2.trans f3))) (fun M4 B r4 f4 h1 h2 => K M4 B r4 f4 (fun w t h => ?_) (fun t h3 h4 => ?_))
      · rw [h1 w t (by omega), a_up_def, if_neg (by omega), a_up_def, if_neg (by omega), a_up_def, if_neg (by omega)]
      · by_cases y : t = s
        · subst y
          rw [h1 0 t (by omega), h1 1 t (by omega), h1 2 t (by omega)]
          refine ⟨?_, ?_, ?_⟩
          · rw [a_up_def, if_neg (by omega), a_up_def, if_neg (by omega), a_up_def, if_pos ⟨rfl, rfl⟩, hx]
          · rw [a_up_def, if_neg (by omega), a_up_def, if_pos ⟨rfl, rfl⟩]
          · rw [a_up_def, if_pos ⟨rfl, rfl⟩]
        · exact h2 t (by omega) h4
theorem c_231 {b : Nat} (hn : n = 2 ∨ n = 3) (hb : b < cb n) (r : RM M n A) (t : TM n T A) (K : ∀ M' B, RM M' n B → FM M M' → ES n B (std n T b) → Q none (a_hp sc fd M')) : a_Ex 231 0 [some (.ref 170), some (.int (N (phi n b))), none, none, none, none] [] (a_hp sc fd M) Q := by
  have n5 := r.n5
  have hp := phi_lt hb hn
  have hcb : cb n ≤ 27648 := by unfold cb; split <;> omega
  refine x_aload_n i_231_0 rfl ?_
  refine x_gr i_231_1 ob_170 gr_8_1.1 gr_8_1.2 (rt_170_1 _) ?_
  refine n_iconst 2 i_231_4 rfl ?_
  refine x_iload_n i_231_5 rfl ?_
  refine n_iconst 4 i_231_6 rfl ?_
  refine x_iremN (by omega) (by omega) (by omega) i_231_7 ?_
  refine n_stM i_231_8 r 2 (by omega) rfl (Or.inl ⟨rfl, Nat.mod_lt _ (by omega)⟩) (fun M1 r1 f1 => ?_)
  refine x_iload_n i_231_9 rfl ?_
  refine n_iconst 4 i_231_10 rfl ?_
  refine x_idivN (by omega) (by omega) (by omega) i_231_11 ?_
  refine n_iconst 4 i_231_12 rfl ?_
  refine x_iremN (by omega) (by omega) (by omega) i_231_13 ?_
  refine n_iconst 2 i_231_14 rfl ?_
  refine x_imulN i_231_15 ?_
  refine x_istore_n i_231_16 rfl rfl ?_
  refine x_iload_n i_231_17 rfl ?_
  refine n_bipush 16 i_231_18 rfl ?_
  refine x_idivN (by omega) (by omega) (by omega) i_231_20 ?_
  refine n_bipush 8 i_231_21 rfl ?_
  refine x_iremN (by omega) (by omega) (by omega) i_231_23 ?_
  refine x_istore_n i_231_24 rfl rfl ?_
  refine x_iload_n i_231_25 rfl ?_
  refine n_sipush 128 i_231_26 rfl ?_
  refine x_idivN (by omega) (by omega) (by omega) i_231_29 ?_
  refine x_istore i_231_30 rfl rfl ?_
  refine n_iconst 0 i_231_32 rfl ?_
  refine x_istore i_231_33 rfl rfl ?_
  refine c_231_35 (M0 := M) (c := phi n b) (by omega) n 0 rfl (Nat.zero_le _) (by rw [Nat.pow_zero, Nat.div_one]) r1 f1 (fun M2 B r2 f2 h1 h2 => K M2 B r2 f2 ?_)
  have q6 : ∀ k, B 6 k = a_up A 6 2 (phi n b % 4) 6 k := fun k => h1 6 k (Or.inl (by omega))
  have q2 : B 6 2 = phi n b % 4 := by rw [q6, a_up_def, if_pos ⟨rfl, rfl⟩]
  have qk : ∀ k, 1 ≤ k → k < 5 → ¬ k = 2 → B 6 k = T 6 k := fun k a1 a2 a3 => by rw [q6, a_up_def, if_neg (by omega)]; exact t.2 k a1 a2 a3
  have q3 : ∀ w, 3 ≤ w → w < 5 → ∀ s, s < n → B w s = T w s := fun w a1 a2 s a3 => by rw [h1 w s (Or.inl a1), a_up_def, if_neg (by omega)]; exact t.1 w a1 a2 s a3
  rcases hn with rfl | rfl
  · have hb : b < 4608 := hb
    have hp6 : b / 128 < 36 := by omega
    have ep : phi 2 b = (b / 128 % 6 * 6 + b / 128 / 6) * 128 + b % 128 := rfl
    have e1 : phi 2 b / 128 = b / 128 % 6 * 6 + b / 128 / 6 := by omega
    have e2 : phi 2 b / 16 % 8 = b / 16 % 8 := by omega
    have e3 : phi 2 b / 4 % 4 = b / 4 % 4 := by omega
    have e4 : phi 2 b % 4 = b % 4 := by omega
    obtain ⟨a0, a1, a2⟩ := h2 0 (by omega) (by omega)
    obtain ⟨b0, b1, b2⟩ := h2 1 (by omega) (by omega)
    rw [e4] at q2
    rw [e1] at a0 b0
    rw [e2] at a1 b1
    rw [e3] at a2 b2
    clear ep e1 e2 e3 e4
    rw [show 6 ^ 0 = 1 from rfl] at a0
    rw [show 2 ^ 0 = 1 from rfl] at a1 a2
    rw [show 6 ^ 1 = 6 from rfl] at b0
    rw [show 2 ^ 1 = 2 from rfl] at b1 b2
    refine ES.mk2 (fun w hw => ?_) ⟨qk 1 (by omega) (by omega) (by omega), ?_, qk 3 (by omega) (by omega) (by omega), qk 4 (by omega) (by omega) (by omega)⟩
    · rcases (by omega : w = 0 ∨ w = 1 ∨ w = 2 ∨ w = 3 ∨ w = 4) with rfl | rfl | rfl | rfl | rfl
      · constructor
        · exact a0.trans (dgr2 _ hp6).1
        · exact b0.trans (dgr2 _ hp6).2
      · constructor
        · show B 1 0 = b / 16 / 1 % 2; omega
        · show B 1 1 = b / 16 / 2 % 2; omega
      · constructor
        · show B 2 0 = 0; omega
        · show B 2 1 = b / 4 / 1 % 2; omega
      · exact ⟨q3 3 (by omega) (by omega) 0 (by omega), q3 3 (by omega) (by omega) 1 (by omega)⟩
      · exact ⟨q3 4 (by omega) (by omega) 0 (by omega), q3 4 (by omega) (by omega) 1 (by omega)⟩
    · show B 6 2 = b % 4; omega
  · have hb : b < 27648 := hb
    have hp6 : b / 128 < 216 := by omega
    have ep : phi 3 b = (b / 128 % 6 * 36 + b / 128 / 6 % 6 * 6 + b / 128 / 36) * 128 + b % 128 := rfl
    have e1 : phi 3 b / 128 = b / 128 % 6 * 36 + b / 128 / 6 % 6 * 6 + b / 128 / 36 := by omega
    have e2 : phi 3 b / 16 % 8 = b / 16 % 8 := by omega
    have e3 : phi 3 b / 4 % 4 = b / 4 % 4 := by omega
    have e4 : phi 3 b % 4 = b % 4 := by omega
    obtain ⟨a0, a1, a2⟩ := h2 0 (by omega) (by omega)
    obtain ⟨b0, b1, b2⟩ := h2 1 (by omega) (by omega)
    obtain ⟨d0, d1, d2⟩ := h2 2 (by omega) (by omega)
    rw [e4] at q2
    rw [e1] at a0 b0 d0
    rw [e2] at a1 b1 d1
    rw [e3] at a2 b2 d2
    clear ep e1 e2 e3 e4
    rw [show 6 ^ 0 = 1 from rfl] at a0
    rw [show 2 ^ 0 = 1 from rfl] at a1 a2
    rw [show 6 ^ 1 = 6 from rfl] at b0
    rw [show 2 ^ 1 = 2 from rfl] at b1 b2
    rw [show 6 ^ 2 = 36 from rfl] at d0
    rw [show 2 ^ 2 = 4 from rfl] at d1 d2
    refine ES.mk3 (fun w hw => ?_) ⟨qk 1 (by omega) (by omega) (by omega), ?_, qk 3 (by omega) (by omega) (by omega), qk 4 (by omega) (by omega) (by omega)⟩
    · rcases (by omega : w = 0 ∨ w = 1 ∨ w = 2 ∨ w = 3 ∨ w = 4) with rfl | rfl | rfl | rfl | rfl
      · refine ⟨?_, ?_, ?_⟩
        · exact a0.trans (dgr3 _ hp6).1
        · exact b0.trans (dgr3 _ hp6).2.1
        · exact d0.trans (dgr3 _ hp6).2.2
      · refine ⟨?_, ?_, ?_⟩
        · show B 1 0 = b / 16 / 1 % 2; omega
        · show B 1 1 = b / 16 / 2 % 2; omega
        · show B 1 2 = b / 16 / 4 % 2; omega
      · refine ⟨?_, ?_, ?_⟩
        · show B 2 0 = 0; omega
        · show B 2 1 = b / 4 / 1 % 2; omega
        · show B 2 2 = b / 4 / 2 % 2; omega
      · exact ⟨q3 3 (by omega) (by omega) 0 (by omega), q3 3 (by omega) (by omega) 1 (by omega), q3 3 (by omega) (by omega) 2 (by omega)⟩
      · exact ⟨q3 4 (by omega) (by omega) 0 (by omega), q3 4 (by omega) (by omega) 1 (by omega), q3 4 (by omega) (by omega) 2 (by omega)⟩
    · show B 6 2 = b % 4; omega
end RSN
