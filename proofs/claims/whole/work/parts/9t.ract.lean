/-! the reference's search: acting -/
section RAC
variable {sc : a_Sc} {fd : Nat} {M M0 : a_Mm} {n g x s c k p q z i a b m : Nat} {T A B C E : HA} {S : HA × Nat} {h : a_Hp} {Q : Option Value → a_Hp → Prop}
theorem kk_N : N (m + 4294967295) = N (kk m) := by
  unfold kk
  by_cases z : m = 0
  · rw [if_pos z, z]
  · rw [if_neg z, N_dec (by omega)]
theorem c_232_92 {l1 l2 : Option Value} (hb : b < 8) : ∀ d s {M : a_Mm} {A : HA}, n - s = d → s ≤ n → RM M n A → FM M0 M → (∀ M' B, RM M' n B → FM M0 M' → (∀ w t, ¬ w = 2 → B w t = A w t) → (∀ t, t < n → B 2 t = if s ≤ t then b / 2 ^ t % 2 else A 2 t) → Q (some (.int (N 0))) (a_hp sc fd M')) → a_Ex 232 92 [some (.ref 170), l1, l2, some (.int (N b)), some (.int (N s))] [] (a_hp sc fd M) Q := by
  intro d
  induction d with
  | zero =>
    intro s M A hd hs r fr K
    have n5 := r.n5
    have e : n = s := by omega
    subst e
    refine x_iload i_232_92 rfl ?_
    refine x_aload_n i_232_94 rfl ?_
    refine x_gr i_232_95 ob_170 gr_8_1.1 gr_8_1.2 (rt_170_1 _) ?_
    refine n_iconst 0 i_232_98 rfl ?_
    refine n_ld (x := n) i_232_99 ar_171 (by omega) (by omega) r.nn ?_
    refine x_igeN (by omega) (by omega) i_232_100 ⟨fun g1 => ?_, fun g1 => ?_⟩
    · refine n_iconst 0 i_232_130 rfl ?_
      refine x_iret i_232_131 rn_232 rfl ?_
      exact K M A r fr (fun _ _ _ => rfl) (fun t h1 => by rw [if_neg (by omega)])
    · exact absurd (Nat.le_refl _) g1
  | succ d ih =>
    intro s M A hd hs r fr K
    have n5 := r.n5
    refine x_iload i_232_92 rfl ?_
    refine x_aload_n i_232_94 rfl ?_
    refine x_gr i_232_95 ob_170 gr_8_1.1 gr_8_1.2 (rt_170_1 _) ?_
    refine n_iconst 0 i_232_98 rfl ?_
    refine n_ld (x := n) i_232_99 ar_171 (by omega) (by omega) r.nn ?_
    refine x_igeN (by omega) (by omega) i_232_100 ⟨fun g1 => ?_, fun g1 => ?_⟩
    · exact absurd g1 (by omega)
    · refine x_aload_n i_232_103 rfl ?_
      refine x_iload i_232_104 rfl ?_
      refine n_iconst 2 i_232_106 rfl ?_
      refine x_iload_n i_232_107 rfl ?_
      refine x_iload i_232_108 rfl ?_
      refine x_sh (r := [_, _, _]) (lj := [some _, some _]) i_232_110 ws_161 [_, _] rfl rfl (Nat.le_of_ble_eq_true rfl) (Nat.le_of_ble_eq_true rfl) rfl ?_
      refine c_161 (sc := sc) (fd := fd) (M := M) (by omega) (by omega) (rt_i ?_) rfl
      refine n_bit i_232_113 i_232_116 i_232_117 i_232_120 rfl rfl rfl (by omega) ?_
      refine n_lays i_232_121 r 2 (by omega) (by omega) (show b / 2 ^ s % 2 < 5 by omega) (Nat.le_of_ble_eq_true rfl) (fun M1 r1 f1 => ?_)
      refine n_iinc 1 i_232_124 rfl rfl rfl rfl ?_
      refine x_goto i_232_127 ?_
      refine ih (s + 1) (by omega) (by omega) r1 (fr.trans f1) (fun M2 B r2 f2 h1 h2 => K M2 B r2 f2 (fun w t h => by rw [h1 w t h, a_up_def, if_neg (fun q => h q.1)]) (fun t ht => ?_))
      rw [h2 t ht, a_up_def]
      by_cases y : t = s
      · rw [if_neg (by omega), if_pos ⟨rfl, y⟩, if_pos (by omega), y]
      · rw [if_neg (show ¬ (2 = 2 ∧ t = s) from fun q => y q.2)]
        by_cases w : s ≤ t
        · rw [if_pos (by omega), if_pos w]
        · rw [if_neg (by omega), if_neg w]
theorem c_232 (r : RM M n A) (ok : OKA n a) (K : ∀ M' C, RM M' n C → FM M M' → ES n C (ract n A a).2 → (ract n A a).1 < 4294967296 → Q (some (.int (N (ract n A a).1))) (a_hp sc fd M')) : a_Ex 232 0 [some (.ref 170), some (.int (N a)), none, none, none] [] (a_hp sc fd M) Q := by
  have n5 := r.n5
  have k1 : kk (a % 100) ≤ 4294967295 := by have := kk_lt (show a % 100 < 100 by omega); omega
  have k2 : kk (a % 100 % 10) ≤ 4294967295 := by have := kk_lt (show a % 100 % 10 < 100 by omega); omega
  have ha : a < 700 := by unfold OKA at ok; omega
  unfold ract at K
  refine x_iload_n i_232_0 rfl ?_
  refine n_bipush 100 i_232_1 rfl ?_
  refine x_idivN (by omega) (by omega) (by omega) i_232_3 ?_
  refine x_istore_n i_232_4 rfl rfl ?_
  refine x_iload_n i_232_5 rfl ?_
  refine n_bipush 100 i_232_6 rfl ?_
  refine x_iremN (by omega) (by omega) (by omega) i_232_8 ?_
  refine x_istore_n i_232_9 rfl rfl ?_
  refine x_iload_n i_232_10 rfl ?_
  by_cases c1 : a / 100 = 1
  · rw [if_pos c1] at K
    refine x_tswI (t := 44) (off := 33) i_232_11 (by rw [c1]; decide +kernel) (by rw [c1]; decide +kernel) (by decide) ?_
    refine x_aload_n i_232_44 rfl ?_
    refine x_iload_n i_232_45 rfl ?_
    refine n_iconst 1 i_232_46 rfl ?_
    refine n_isubK 4294967295 rfl i_232_47 ?_
    rw [kk_N]
    refine x_vh (r := []) (lj := [some _, some _, none, none]) i_232_48 w_164 ob_170 [_] rfl rfl (Nat.le_of_ble_eq_true rfl) (Nat.le_of_ble_eq_true rfl) rfl ?_
    refine c_164 r k1 (fun hq M1 r1 f1 => rt_i ?_)
    refine x_iret i_232_51 rn_232 rfl ?_
    exact K M1 _ r1 f1 (ES.refl n _) (by omega)
  rw [if_neg c1] at K
  by_cases c2 : a / 100 = 2
  · rw [if_pos c2] at K
    refine x_tswI (t := 52) (off := 41) i_232_11 (by rw [c2]; decide +kernel) (by rw [c2]; decide +kernel) (by decide) ?_
    refine x_aload_n i_232_52 rfl ?_
    refine x_iload_n i_232_53 rfl ?_
    refine n_iconst 1 i_232_54 rfl ?_
    refine n_isubK 4294967295 rfl i_232_55 ?_
    rw [kk_N]
    refine x_vh (r := []) (lj := [some _, some _, none, none]) i_232_56 w_176 ob_170 [_] rfl rfl (Nat.le_of_ble_eq_true rfl) (Nat.le_of_ble_eq_true rfl) rfl ?_
    refine c_176 r k1 (fun hq M1 r1 f1 => rt_i ?_)
    refine x_iret i_232_59 rn_232 rfl ?_
    exact K M1 _ r1 f1 (ES.refl n _) (by omega)
  rw [if_neg c2] at K
  by_cases c3 : a / 100 = 3
  · rw [if_pos c3] at K
    refine x_tswI (t := 60) (off := 49) i_232_11 (by rw [c3]; decide +kernel) (by rw [c3]; decide +kernel) (by decide) ?_
    refine x_aload_n i_232_60 rfl ?_
    refine x_iload_n i_232_61 rfl ?_
    refine n_iconst 1 i_232_62 rfl ?_
    refine n_isubK 4294967295 rfl i_232_63 ?_
    rw [kk_N]
    refine x_vh (r := []) (lj := [some _, some _, none]) i_232_64 w_178 ob_170 [_] rfl rfl (Nat.le_of_ble_eq_true rfl) (Nat.le_of_ble_eq_true rfl) rfl ?_
    refine c_178 r k1 (fun hq M1 r1 f1 => rt_i ?_)
    refine x_iret i_232_67 rn_232 rfl ?_
    exact K M1 _ r1 f1 (ES.refl n _) (by omega)
  rw [if_neg c3] at K
  by_cases c4 : a / 100 = 4
  · rw [if_pos c4] at K
    refine x_tswI (t := 68) (off := 57) i_232_11 (by rw [c4]; decide +kernel) (by rw [c4]; decide +kernel) (by decide) ?_
    refine x_aload_n i_232_68 rfl ?_
    refine x_iload_n i_232_69 rfl ?_
    refine x_vh (r := []) (lj := [some _, some _]) i_232_70 w_181 ob_170 [_] rfl rfl (Nat.le_of_ble_eq_true rfl) (Nat.le_of_ble_eq_true rfl) rfl ?_
    refine c_181 r (by omega) (fun hq M1 r1 f1 => rt_i ?_)
    refine x_iret i_232_73 rn_232 rfl ?_
    exact K M1 _ r1 f1 (ES.refl n _) (by omega)
  rw [if_neg c4] at K
  by_cases c5 : a / 100 = 5
  · rw [if_pos c5] at K
    refine x_tswI (t := 74) (off := 63) i_232_11 (by rw [c5]; decide +kernel) (by rw [c5]; decide +kernel) (by decide) ?_
    refine x_aload_n i_232_74 rfl ?_
    refine x_iload_n i_232_75 rfl ?_
    refine n_bipush 10 i_232_76 rfl ?_
    refine x_idivN (by omega) (by omega) (by omega) i_232_78 ?_
    refine x_iload_n i_232_79 rfl ?_
    refine n_bipush 10 i_232_80 rfl ?_
    refine x_iremN (by omega) (by omega) (by omega) i_232_82 ?_
    refine n_iconst 1 i_232_83 rfl ?_
    refine n_isubK 4294967295 rfl i_232_84 ?_
    rw [kk_N]
    refine x_vh (r := []) (lj := [some _, some _, some _, none, none]) i_232_85 w_187 ob_170 [_, _] rfl rfl (Nat.le_of_ble_eq_true rfl) (Nat.le_of_ble_eq_true rfl) rfl ?_
    refine c_187 r (by omega) k2 (fun hq M1 r1 f1 => rt_i ?_)
    refine x_iret i_232_88 rn_232 rfl ?_
    exact K M1 _ r1 f1 (ES.refl n _) (by omega)
  rw [if_neg c5] at K
  have hb : a % 100 < 8 := by unfold OKA at ok; omega
  have c6 : a / 100 = 6 := by unfold OKA at ok; omega
  refine x_tswO (t := 89) i_232_11 (n_tswO (lo := 1) (hi := 5) (by omega) (by omega)) (by decide) ?_
  refine n_iconst 0 i_232_89 rfl ?_
  refine x_istore i_232_90 rfl rfl ?_
  refine c_232_92 hb n 0 rfl (Nat.zero_le _) r (FM.refl M) (fun M1 B r1 f1 h1 h2 => K M1 B r1 f1 ?_ (by show 0 < 4294967296; omega))
  refine ⟨fun w hw s hs => ?_, fun k q1 q2 => h1 6 k (by omega)⟩
  show B w s = if w = 2 then a % 100 / 2 ^ s % 2 else A w s
  by_cases y : w = 2
  · rw [if_pos y, y, h2 s hs, if_pos (Nat.zero_le _)]
  · rw [if_neg y]; exact h1 w s y
end RAC
