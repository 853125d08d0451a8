/-! telling groups: digits -/
def pd : Nat → Nat → Bool
  | 0, x => decide (x = 0)
  | k + 1, x => decide (x % 10 ≤ 4) && pd k (x / 10)
def pl : Nat → HA → Nat → Nat → Nat × HA
  | 0, A, _, g => (pop g, A)
  | k + 1, A, x, g => pl k (a_up A 2 k (x % 10)) (x / 10) (g ||| 1 <<< (x % 10))
def s71 (n : Nat) (A : HA) (x : Nat) : Nat × HA := if x < 2147483648 ∧ pd n x = true then pl n A x 0 else (4294967293, A)
theorem pl_le : ∀ k (A : HA) x g, (pl k A x g).1 ≤ 5
  | 0, _, _, g => pop_le g
  | k + 1, A, x, g => pl_le k _ _ _
theorem pl_eq : ∀ k (A B : HA) x g, EQ A B → AE (pl k A x g) (pl k B x g)
  | 0, A, B, x, g, e => ⟨rfl, e⟩
  | k + 1, A, B, x, g, e => pl_eq k _ _ _ _ (e.up 2 k _)
theorem x71 {n l : Nat} {A B : HA} (e : EQ A B) : AE (s71 n A l) (s71 n B l) := by
  unfold s71
  split
  · exact pl_eq n A B l 0 e
  · exact ⟨rfl, e⟩
section PRT
variable {sc : a_Sc} {fd : Nat} {M : a_Mm} {A : HA} {Q : Option Value → a_Hp → Prop} {b n : Nat}
theorem c_71_58 (hb : HB b) {M0 : a_Mm} {l1 : Nat} : ∀ (c : Nat) {M : a_Mm} {A : HA} {x g : Nat} (r : RC M b n A) (f : FR b M0 M) (hc : c ≤ n) (hx : x < 2147483648) (hp : pd c x = true) (hg : g ≤ 31) (k : KR 4294967295 Q sc fd M0 b n (pl c A x g)), a_Ex 71 58 [some (.ref b), none, some (.int (N x)), some (.int (N g)), some (.int (N (c + 4294967295)))] [] (a_hp sc fd M) Q := by
  intro c
  induction c with
  | zero =>
    intro M A x g r f hc hx hp hg k
    refine x_iload i_71_58 rfl ?_
    refine n_declt (by omega) i_71_60 ⟨fun _ => ?_, fun q => absurd rfl q⟩
    refine x_iload_n i_71_97 rfl ?_
    refine x_sh (r := []) (lj := [some _]) i_71_98 ws_265 [_] rfl rfl (Nat.le_of_ble_eq_true rfl) (Nat.le_of_ble_eq_true rfl) rfl ?_
    refine k_265 hg (fun q => rt_i ?_)
    refine x_iret i_71_101 rn_71 rfl ?_
    exact k.ap (by omega) r f
  | succ c ih =>
    intro M A x g r f hc hx hp hg k
    have n5 := r.n5
    have hp' : x % 10 ≤ 4 ∧ pd c (x / 10) = true := by
      have : (decide (x % 10 ≤ 4) && pd c (x / 10)) = true := hp
      simpa using this
    have hs := shl_le 4 (s := x % 10) (by omega)
    have ho : g ||| 1 <<< (x % 10) ≤ 31 := or_le 5 (by omega) (by omega)
    refine x_iload i_71_58 rfl ?_
    refine n_declt (by omega) i_71_60 ⟨fun q => absurd q (by omega), fun _ => ?_⟩
    rw [N_dec (x := c + 1) (by omega), show c + 1 - 1 = c by omega]
    refine x_aload_n i_71_63 rfl ?_
    refine x_gr i_71_64 hb.ob gr_1_7.1 gr_1_7.2 (hb.r7 _) ?_
    refine x_iload i_71_67 rfl ?_
    refine x_iload_n i_71_69 rfl ?_
    refine n_bipush 10 i_71_70 rfl ?_
    refine x_iremN (by omega) (by omega) (by omega) i_71_72 ?_
    refine n_stC i_71_73 hb r 2 (by omega) (by omega) (show x % 10 < 5 by omega) rfl (fun M1 r1 f1 => ?_)
    have e1 : M1 (b + 3) c = N (x % 10) := by
      rw [r1.a2 (by omega), a_up_def, if_pos ⟨rfl, rfl⟩]
    refine x_iload_n i_71_74 rfl ?_
    refine n_iconst 1 i_71_75 rfl ?_
    refine x_aload_n i_71_76 rfl ?_
    refine x_gr i_71_77 hb.ob gr_1_7.1 gr_1_7.2 (hb.r7 _) ?_
    refine x_iload i_71_80 rfl ?_
    refine n_ld i_71_82 hb.a3 (by omega) (by omega) e1 ?_
    refine x_ishlN (by omega) i_71_83 ?_
    refine x_iorN i_71_84 ?_
    refine x_istore_n i_71_85 rfl rfl ?_
    refine x_iload_n i_71_86 rfl ?_
    refine n_bipush 10 i_71_87 rfl ?_
    refine x_idivN (by omega) (by omega) (by omega) i_71_89 ?_
    refine x_istore_n i_71_90 rfl rfl ?_
    refine n_iinc 4294967295 i_71_91 rfl rfl rfl rfl ?_
    refine x_goto i_71_94 ?_
    exact ih r1 (f.trans f1) (by omega) (by omega) hp'.2 ho k
theorem c_71 (hb : HB b) (r : RC M b n A) {l1 : Nat} (hl : l1 ≤ 4294967295) (k : KR 4294967295 Q sc fd M b n (s71 n A l1)) : a_Ex 71 0 [some (.ref b), some (.int (N l1)), none, none, none] [] (a_hp sc fd M) Q := by
  have n5 := r.n5
  have n2 := r.n2
  have no : ¬ (l1 < 2147483648 ∧ pd n l1 = true) → Q (some (.int (N 4294967293))) (a_hp sc fd M) := fun h => by
    unfold s71 at k
    rw [if_neg h] at k
    exact k.ap (by omega) r (FR.refl _ _)
  have L : ∀ c y, c ≤ n → y < 4294967296 → (c = n → y = l1) → (¬ c = n → l1 < 2147483648 ∧ y < 2147483648) → (l1 < 2147483648 → (pd n l1 = true ↔ pd c y = true)) → a_Ex 71 9 [some (.ref b), some (.int (N l1)), some (.int (N y)), some (.int (N (c + 4294967295))), none] [] (a_hp sc fd M) Q := by
    intro c
    induction c with
    | zero =>
      intro y hc hy h1 h2 hi
      have g := (h2 (by omega)).1
      refine x_iload_n i_71_9 rfl ?_
      refine n_declt (by omega) i_71_10 ⟨fun _ => ?_, fun q => absurd rfl q⟩
      refine x_iload_n i_71_39 rfl ?_
      refine n_zeqU hy i_71_40 ⟨fun q => ?_, fun q => ?_⟩
      · have ok : l1 < 2147483648 ∧ pd n l1 = true := ⟨g, (hi g).mpr (by subst q; rfl)⟩
        unfold s71 at k
        rw [if_pos ok] at k
        refine x_iload_n i_71_46 rfl ?_
        refine x_istore_n i_71_47 rfl rfl ?_
        refine n_iconst 0 i_71_48 rfl ?_
        refine x_istore_n i_71_49 rfl rfl ?_
        refine x_aload_n i_71_50 rfl ?_
        refine n_gi (x := n) i_71_51 hb.ob gf_1_0.1 gf_1_0.2 r.nn ?_
        refine n_iconst 1 i_71_54 rfl ?_
        refine n_isubK 4294967295 rfl i_71_55 ?_
        refine x_istore i_71_56 rfl rfl ?_
        refine x_wk (a_wk.s (a_wk.d rfl (a_wk.s (a_wk.s (a_wk.s a_wk.n))))) ?_
        exact c_71_58 (l1 := 0) hb n r (FR.refl _ _) (Nat.le_refl _) g ok.2 (by omega) k
      · refine n_bipush 4294967293 i_71_43 rfl ?_
        refine x_iret i_71_45 rn_71 rfl ?_
        exact no (fun z => by have := (hi g).mp z.2; simp [pd] at this; exact q this)
    | succ c ih =>
      intro y hc hy h1 h2 hi
      refine x_iload_n i_71_9 rfl ?_
      refine n_declt (by omega) i_71_10 ⟨fun q => absurd q (by omega), fun _ => ?_⟩
      rw [N_dec (x := c + 1) (by omega), show c + 1 - 1 = c by omega]
      refine x_iload_n i_71_13 rfl ?_
      refine n_zltU hy i_71_14 ⟨fun q => ?_, fun q => ?_⟩
      · refine n_bipush 4294967293 i_71_25 rfl ?_
        refine x_iret i_71_27 rn_71 rfl ?_
        refine no (fun z => ?_)
        by_cases e : c + 1 = n
        · have := h1 e; have := z.1; omega
        · have := (h2 e).2; omega
      · have g : l1 < 2147483648 := by
          by_cases e : c + 1 = n
          · have := h1 e; omega
          · exact (h2 e).1
        refine x_iload_n i_71_17 rfl ?_
        refine n_bipush 10 i_71_18 rfl ?_
        refine x_iremN (by omega) (by omega) (by omega) i_71_20 ?_
        refine n_iconst 4 i_71_21 rfl ?_
        refine x_ileN (by omega) (by omega) i_71_22 ⟨fun q2 => ?_, fun q2 => ?_⟩
        · skip
          refine x_iload_n i_71_28 rfl ?_
          refine n_bipush 10 i_71_29 rfl ?_
          refine x_idivN (by omega) (by omega) (by omega) i_71_31 ?_
          refine x_istore_n i_71_32 rfl rfl ?_
          refine n_iinc 4294967295 i_71_33 rfl rfl rfl rfl ?_
          refine x_goto i_71_36 ?_
          refine ih (y / 10) (by omega) (by omega) (fun e => by omega) (fun _ => ⟨g, by omega⟩) (fun _ => (hi g).trans ?_)
          show (decide (y % 10 ≤ 4) && pd c (y / 10)) = true ↔ _
          rw [decide_eq_true q2, Bool.true_and]
        · refine n_bipush 4294967293 i_71_25 rfl ?_
          refine x_iret i_71_27 rn_71 rfl ?_
          exact no (fun z => by have : (decide (y % 10 ≤ 4) && pd c (y / 10)) = true := (hi g).mp z.2; simp [q2] at this)

  refine x_iload_n i_71_0 rfl ?_
  refine x_istore_n i_71_1 rfl rfl ?_
  refine x_aload_n i_71_2 rfl ?_
  refine n_gi (x := n) i_71_3 hb.ob gf_1_0.1 gf_1_0.2 r.nn ?_
  refine n_iconst 1 i_71_6 rfl ?_
  refine n_isubK 4294967295 rfl i_71_7 ?_
  refine x_istore_n i_71_8 rfl rfl ?_
  exact L n l1 (Nat.le_refl _) (by omega) (fun _ => rfl) (fun h => absurd rfl h) (fun _ => Iff.rfl)
theorem c_185_64 {M0 : a_Mm} : ∀ (c : Nat) {M : a_Mm} {A : HA} {x g : Nat} (r : RM M n A) (f : FM M0 M) (hc : c ≤ n) (hx : x < 2147483648) (hp : pd c x = true) (hg : g ≤ 31) (k : MR 4294967295 Q sc fd M0 n (pl c A x g)), a_Ex 185 64 [some (.ref 170), none, none, some (.int (N x)), some (.int (N g)), some (.int (N (c + 4294967295)))] [] (a_hp sc fd M) Q := by
  intro c
  induction c with
  | zero =>
    intro M A x g r f hc hx hp hg k
    refine x_iload i_185_64 rfl ?_
    refine n_declt (by omega) i_185_66 ⟨fun _ => ?_, fun q => absurd rfl q⟩
    refine x_iload i_185_102 rfl ?_
    refine x_sh (r := []) (lj := [some _, none, none]) i_185_104 ws_179 [_] rfl rfl (Nat.le_of_ble_eq_true rfl) (Nat.le_of_ble_eq_true rfl) rfl ?_
    refine k_179 (by omega) (fun q => rt_i ?_)
    refine x_iret i_185_107 rn_185 rfl ?_
    exact k.ap (by omega) r f
  | succ c ih =>
    intro M A x g r f hc hx hp hg k
    have n5 := r.n5
    have hp' : x % 10 ≤ 4 ∧ pd c (x / 10) = true := by
      have : (decide (x % 10 ≤ 4) && pd c (x / 10)) = true := hp
      simpa using this
    have hs := shl_le 4 (s := x % 10) (by omega)
    have ho : g ||| 1 <<< (x % 10) ≤ 31 := or_le 5 (by omega) (by omega)
    refine x_iload i_185_64 rfl ?_
    refine n_declt (by omega) i_185_66 ⟨fun q => absurd q (by omega), fun _ => ?_⟩
    rw [N_dec (x := c + 1) (by omega), show c + 1 - 1 = c by omega]
    refine x_aload_n i_185_69 rfl ?_
    refine x_iload i_185_70 rfl ?_
    refine n_iconst 2 i_185_72 rfl ?_
    refine x_iload_n i_185_73 rfl ?_
    refine n_bipush 10 i_185_74 rfl ?_
    refine x_iremN (by omega) (by omega) (by omega) i_185_76 ?_
    refine n_lays i_185_77 r 2 (by omega) (by omega) (show x % 10 < 5 by omega) (Nat.le_of_ble_eq_true rfl) (fun M1 r1 f1 => ?_)
    refine x_iload i_185_80 rfl ?_
    refine n_iconst 1 i_185_82 rfl ?_
    refine x_iload_n i_185_83 rfl ?_
    refine n_bipush 10 i_185_84 rfl ?_
    refine x_iremN (by omega) (by omega) (by omega) i_185_86 ?_
    refine x_ishlN (by omega) i_185_87 ?_
    refine x_iorN i_185_88 ?_
    refine x_istore i_185_89 rfl rfl ?_
    refine x_iload_n i_185_91 rfl ?_
    refine n_bipush 10 i_185_92 rfl ?_
    refine x_idivN (by omega) (by omega) (by omega) i_185_94 ?_
    refine x_istore_n i_185_95 rfl rfl ?_
    refine n_iinc 4294967295 i_185_96 rfl rfl rfl rfl ?_
    refine x_goto i_185_99 ?_
    exact ih r1 (f.trans f1) (by omega) (by omega) hp'.2 ho k
theorem c_185 (r : RM M n A) {l1 : Nat} (hl : l1 ≤ 4294967295) (k : MR 4294967295 Q sc fd M n (s71 n A l1)) : a_Ex 185 0 [some (.ref 170), some (.int (N l1)), none, none, none, none] [] (a_hp sc fd M) Q := by
  have n5 := r.n5
  have n2 := r.n2
  have no : ¬ (l1 < 2147483648 ∧ pd n l1 = true) → Q (some (.int (N 4294967293))) (a_hp sc fd M) := fun h => by
    unfold s71 at k
    rw [if_neg h] at k
    exact k.ap (by omega) r (FM.refl _)
  have L : l1 < 2147483648 → ∀ d s y, n - s = d → s ≤ n → y < 2147483648 → (pd n l1 = true ↔ pd d y = true) → a_Ex 185 19 [some (.ref 170), some (.int (N l1)), some (.int (N n)), some (.int (N y)), some (.int (N s)), none] [] (a_hp sc fd M) Q := by
    intro g d
    induction d with
    | zero =>
      intro s y hd hs hy hi
      refine x_iload i_185_19 rfl ?_
      refine x_iload_n i_185_21 rfl ?_
      refine x_igeN (by omega) (by omega) i_185_22 ⟨fun _ => ?_, fun q => absurd (by omega) q⟩
      refine x_iload_n i_185_47 rfl ?_
      refine x_zleN hy i_185_48 ⟨fun q => ?_, fun q => ?_⟩
      · have ok : l1 < 2147483648 ∧ pd n l1 = true := ⟨g, hi.mpr (decide_eq_true (show y = 0 by omega))⟩
        unfold s71 at k
        rw [if_pos ok] at k
        refine x_iload_n i_185_54 rfl ?_
        refine x_istore_n i_185_55 rfl rfl ?_
        refine n_iconst 0 i_185_56 rfl ?_
        refine x_istore i_185_57 rfl rfl ?_
        refine x_iload_n i_185_59 rfl ?_
        refine n_iconst 1 i_185_60 rfl ?_
        refine n_isubK 4294967295 rfl i_185_61 ?_
        refine x_istore i_185_62 rfl rfl ?_
        refine x_wk (a_wk.s (a_wk.d rfl (a_wk.d rfl (a_wk.s (a_wk.s (a_wk.s a_wk.n)))))) ?_
        exact c_185_64 n r (FM.refl _) (Nat.le_refl _) g ok.2 (by omega) k
      · refine n_bipush 4294967293 i_185_51 rfl ?_
        refine x_iret i_185_53 rn_185 rfl ?_
        exact no (fun z => by have := hi.mp z.2; simp [pd] at this; omega)
    | succ d ih =>
      intro s y hd hs hy hi
      refine x_iload i_185_19 rfl ?_
      refine x_iload_n i_185_21 rfl ?_
      refine x_igeN (by omega) (by omega) i_185_22 ⟨fun q => absurd q (by omega), fun q => ?_⟩
      refine x_iload_n i_185_25 rfl ?_
      refine n_bipush 10 i_185_26 rfl ?_
      refine x_iremN (by omega) (by omega) (by omega) i_185_28 ?_
      refine n_iconst 5 i_185_29 rfl ?_
      refine x_iltN (by omega) (by omega) i_185_30 ⟨fun q2 => ?_, fun q2 => ?_⟩
      · skip
        refine x_iload_n i_185_36 rfl ?_
        refine n_bipush 10 i_185_37 rfl ?_
        refine x_idivN (by omega) (by omega) (by omega) i_185_39 ?_
        refine x_istore_n i_185_40 rfl rfl ?_
        refine n_iinc 1 i_185_41 rfl rfl rfl rfl ?_
        refine x_goto i_185_44 ?_
        refine ih (s + 1) (y / 10) (by omega) (by omega) (by omega) (hi.trans ?_)
        show (decide (y % 10 ≤ 4) && pd d (y / 10)) = true ↔ _
        rw [decide_eq_true (show y % 10 ≤ 4 by omega), Bool.true_and]
      · refine n_bipush 4294967293 i_185_33 rfl ?_
        refine x_iret i_185_35 rn_185 rfl ?_
        exact no (fun z => by have : (decide (y % 10 ≤ 4) && pd d (y / 10)) = true := hi.mp z.2; rw [decide_eq_false (show ¬ y % 10 ≤ 4 by omega)] at this; simp at this)
  refine x_aload_n i_185_0 rfl ?_
  refine x_gr i_185_1 ob_170 gr_8_1.1 gr_8_1.2 (rt_170_1 _) ?_
  refine n_iconst 0 i_185_4 rfl ?_
  refine n_ld (x := n) i_185_5 ar_171 (by omega) (by omega) r.nn ?_
  refine x_istore_n i_185_6 rfl rfl ?_
  refine x_iload_n i_185_7 rfl ?_
  refine x_istore_n i_185_8 rfl rfl ?_
  refine x_iload_n i_185_9 rfl ?_
  refine n_zgeU (by omega) i_185_10 ⟨fun q => ?_, fun q => ?_⟩
  · skip
    refine n_iconst 0 i_185_16 rfl ?_
    refine x_istore i_185_17 rfl rfl ?_
    exact L (by omega) n 0 l1 (by omega) (by omega) (by omega) Iff.rfl
  · refine n_bipush 4294967293 i_185_13 rfl ?_
    refine x_iret i_185_15 rn_185 rfl ?_
    exact no (fun z => by have := z.1; omega)
end PRT
