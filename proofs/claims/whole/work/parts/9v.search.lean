/-! the reference's search: all of it -/
def fll (M : a_Mm) (o l : Nat) (v : Int32) : a_Mm := fun q k => if q = o ∧ k < l then v else M q k
section RSV
variable {sc : a_Sc} {fd : Nat} {M M0 : a_Mm} {n n0 g x s c k p q z i a b m y o l : Nat} {v : Int32} {T A B C E F : HA} {S : HA × Nat} {h : a_Hp} {Q : Option Value → a_Hp → Prop}
theorem fll_s : a_up (fll M o l v) o l v = fll M o (l + 1) v := by
  funext q k
  rw [a_up_def]
  unfold fll
  by_cases c : q = o ∧ k = l
  · rw [if_pos c, if_pos (by omega)]
  · rw [if_neg c]
    by_cases d : q = o ∧ k < l
    · rw [if_pos d, if_pos (by omega)]
    · rw [if_neg d, if_neg (by omega)]
theorem fll_0 : fll M o 0 v = M := by
  funext q k
  unfold fll
  rw [if_neg (by omega)]
theorem c_226_15 (K : a_Ex 226 35 [some (.ref 170), some (.int (N g)), some (.int (N 27648)), none, none] [] (a_hp sc fd (fll M 176 27648 (N 4294967295))) Q) : ∀ d l, 27648 - l = d → l ≤ 27648 → a_Ex 226 15 [some (.ref 170), some (.int (N g)), some (.int (N l)), none, none] [] (a_hp sc fd (fll M 176 l (N 4294967295))) Q := by
  intro d
  induction d with
  | zero =>
    intro l hd hl
    have e : l = 27648 := by omega
    subst e
    refine x_iload_n i_226_15 rfl ?_
    refine n_sipush 27648 i_226_16 rfl ?_
    refine x_igeN (by omega) (by omega) i_226_19 ⟨fun g1 => ?_, fun g1 => ?_⟩
    · exact K
    · exact absurd (Nat.le_refl _) g1
  | succ d ih =>
    intro l hd hl
    have i1 := ih (l + 1) (by omega) (by omega)
    refine x_iload_n i_226_15 rfl ?_
    refine n_sipush 27648 i_226_16 rfl ?_
    refine x_igeN (by omega) (by omega) i_226_19 ⟨fun g1 => ?_, fun g1 => ?_⟩
    · exact absurd g1 (by omega)
    · refine x_aload_n i_226_22 rfl ?_
      refine x_gr i_226_23 ob_170 gr_8_11.1 gr_8_11.2 (rt_170_11 _) ?_
      refine x_iload_n i_226_26 rfl ?_
      refine n_iconst 4294967295 i_226_27 rfl ?_
      refine n_st i_226_28 ar_176 (by omega) (by omega) ?_
      rw [fll_s]
      refine n_iinc 1 i_226_29 rfl rfl rfl rfl ?_
      refine x_goto i_226_32 ?_
      exact i1
theorem c_226_37 (K : a_Ex 226 57 [some (.ref 170), some (.int (N g)), some (.int (N 1728)), none, none] [] (a_hp sc fd (fll M 180 1728 (N 4294967295))) Q) : ∀ d l, 1728 - l = d → l ≤ 1728 → a_Ex 226 37 [some (.ref 170), some (.int (N g)), some (.int (N l)), none, none] [] (a_hp sc fd (fll M 180 l (N 4294967295))) Q := by
  intro d
  induction d with
  | zero =>
    intro l hd hl
    have e : l = 1728 := by omega
    subst e
    refine x_iload_n i_226_37 rfl ?_
    refine n_sipush 1728 i_226_38 rfl ?_
    refine x_igeN (by omega) (by omega) i_226_41 ⟨fun g1 => ?_, fun g1 => ?_⟩
    · exact K
    · exact absurd (Nat.le_refl _) g1
  | succ d ih =>
    intro l hd hl
    have i1 := ih (l + 1) (by omega) (by omega)
    refine x_iload_n i_226_37 rfl ?_
    refine n_sipush 1728 i_226_38 rfl ?_
    refine x_igeN (by omega) (by omega) i_226_41 ⟨fun g1 => ?_, fun g1 => ?_⟩
    · exact absurd g1 (by omega)
    · refine x_aload_n i_226_44 rfl ?_
      refine x_gr i_226_45 ob_170 gr_8_15.1 gr_8_15.2 (rt_170_15 _) ?_
      refine x_iload_n i_226_48 rfl ?_
      refine n_iconst 4294967295 i_226_49 rfl ?_
      refine n_st i_226_50 ar_180 (by omega) (by omega) ?_
      rw [fll_s]
      refine n_iinc 1 i_226_51 rfl rfl rfl rfl ?_
      refine x_goto i_226_54 ?_
      exact i1
theorem c_226_71 (K : ∀ M' B, RM M' n B → FM M0 M' → (∀ w t, 3 ≤ w → B w t = A w t) → (∀ t, t < n → B 0 t = 0 ∧ B 1 t = 1 ∧ B 2 t = 0) → a_Ex 226 108 [some (.ref 170), some (.int (N g)), some (.int (N n)), none, none] [] (a_hp sc fd M') Q) : ∀ d s {M : a_Mm} {C : HA}, n - s = d → s ≤ n → RM M n C → FM M0 M → (∀ w t, 3 ≤ w → C w t = A w t) → (∀ t, t < s → C 0 t = 0 ∧ C 1 t = 1 ∧ C 2 t = 0) → a_Ex 226 71 [some (.ref 170), some (.int (N g)), some (.int (N s)), none, none] [] (a_hp sc fd M) Q := by
  intro d
  induction d with
  | zero =>
    intro s M C hd hs r fr h1 h2
    have n5 := r.n5
    have e : n = s := by omega
    subst e
    refine x_iload_n i_226_71 rfl ?_
    refine x_aload_n i_226_72 rfl ?_
    refine x_gr i_226_73 ob_170 gr_8_1.1 gr_8_1.2 (rt_170_1 _) ?_
    refine n_iconst 0 i_226_76 rfl ?_
    refine n_ld (x := n) i_226_77 ar_171 (by omega) (by omega) r.nn ?_
    refine x_igeN (by omega) (by omega) i_226_78 ⟨fun g1 => ?_, fun g1 => ?_⟩
    · exact K M C r fr h1 h2
    · exact absurd (Nat.le_refl _) g1
  | succ d ih =>
    intro s M C hd hs r fr h1 h2
    have n5 := r.n5
    refine x_iload_n i_226_71 rfl ?_
    refine x_aload_n i_226_72 rfl ?_
    refine x_gr i_226_73 ob_170 gr_8_1.1 gr_8_1.2 (rt_170_1 _) ?_
    refine n_iconst 0 i_226_76 rfl ?_
    refine n_ld (x := n) i_226_77 ar_171 (by omega) (by omega) r.nn ?_
    refine x_igeN (by omega) (by omega) i_226_78 ⟨fun g1 => ?_, fun g1 => ?_⟩
    · exact absurd g1 (by omega)
    · refine x_aload_n i_226_81 rfl ?_
      refine x_iload_n i_226_82 rfl ?_
      refine n_iconst 0 i_226_83 rfl ?_
      refine n_iconst 0 i_226_84 rfl ?_
      refine n_lays i_226_85 r 0 (by omega) (by omega) (show 0 < 6 by omega) (Nat.le_of_ble_eq_true rfl) (fun M1 r1 f1 => ?_)
      refine x_aload_n i_226_88 rfl ?_
      refine x_iload_n i_226_89 rfl ?_
      refine n_iconst 1 i_226_90 rfl ?_
      refine n_iconst 1 i_226_91 rfl ?_
      refine n_lays i_226_92 r1 1 (by omega) (by omega) (show 1 < 3 by omega) (Nat.le_of_ble_eq_true rfl) (fun M2 r2 f2 => ?_)
      refine x_aload_n i_226_95 rfl ?_
      refine x_iload_n i_226_96 rfl ?_
      refine n_iconst 2 i_226_97 rfl ?_
      refine n_iconst 0 i_226_98 rfl ?_
      refine n_lays i_226_99 r2 2 (by omega) (by omega) (show 0 < 5 by omega) (Nat.le_of_ble_eq_true rfl) (fun M3 r3 f3 => ?_)
      refine n_iinc 1 i_226_102 rfl rfl rfl rfl ?_
      refine x_goto i_226_105 ?_
      refine ih (s + 1) (by omega) (by omega) r3 (fr.trans (f1.trans (f2.trans f3))) (fun w t hw => by rw [a_up_def, if_neg (by omega), a_up_def, if_neg (by omega), a_up_def, if_neg (by omega)]; exact h1 w t hw) (fun t ht => ?_)
      by_cases y : t = s
      · subst y
        refine ⟨?_, ?_, ?_⟩
        · rw [a_up_def, if_neg (by omega), a_up_def, if_neg (by omega), a_up_def, if_pos ⟨rfl, rfl⟩]
        · rw [a_up_def, if_neg (by omega), a_up_def, if_pos ⟨rfl, rfl⟩]
        · rw [a_up_def, if_pos ⟨rfl, rfl⟩]
      · rw [a_up_def, if_neg (by omega), a_up_def, if_neg (by omega), a_up_def, if_neg (by omega), a_up_def, if_neg (by omega), a_up_def, if_neg (by omega), a_up_def, if_neg (by omega), a_up_def, if_neg (by omega), a_up_def, if_neg (by omega), a_up_def, if_neg (by omega)]
        exact h2 t (by omega)
theorem rfr_le {m : Nat} (h : ∀ j, j < z → E 3 j ≤ 64) : rfr n E m z ≤ 64 ∨ rfr n E m z = 4294967295 := by
  induction z with
  | zero => exact Or.inr rfl
  | succ z ih =>
    unfold rfr
    split
    · exact Or.inl (h z (by omega))
    · exact ih (fun j hj => h j (by omega))
theorem c_226_120 (hn : n = 2 ∨ n = 3) (hg : g ≤ 1) (w : WN n T) : ∀ d i {S : HA × Nat} {M : a_Mm} {A : HA} {l3 l4 : Option Value}, d + i = 4096 → RM M n A → TM n T A → SRr M n S → MFr M n S.1 i → IV n T (AL n g) S i (fun _ => False) → FRj M0 M → (∀ M' A' l2 l3 l4, RM M' n A' → SRr M' n (bfs n T g d i S) → MFr M' n (bfs n T g d i S).1 (bfs n T g d i S).2 → FRj M0 M' → a_Ex 226 221 [some (.ref 170), some (.int (N g)), l2, l3, l4] [] (a_hp sc fd M') Q) → a_Ex 226 120 [some (.ref 170), some (.int (N g)), some (.int (N i)), l3, l4] [] (a_hp sc fd M) Q := by
  intro d
  induction d with
  | zero =>
    intro i S M A l3 l4 hd r t sr mf v fr K
    have := iv_sz v
    have := v.1.2.1
    omega
  | succ d ih =>
    intro i S M A l3 l4 hd r t sr mf v fr K
    have hz := iv_sz v
    have his := v.1.2.1
    have sb := SB.of hn v
    have hcb2 : cb n ≤ 27648 := by unfold cb; split <;> omega
    have eb : bfs n T g (d + 1) i S = (if i < S.2 then bfs n T g d (i + 1) ((AL n g).foldl (stq n T i) S) else S) := rfl
    refine x_iload_n i_226_120 rfl ?_
    refine x_aload_n i_226_121 rfl ?_
    refine n_gi (x := S.2) i_226_122 ob_170 gf_8_16.1 gf_8_16.2 sr.1 ?_
    refine x_igeN (by omega) (by omega) i_226_125 ⟨fun g1 => ?_, fun g1 => ?_⟩
    · rw [if_neg (by omega)] at eb
      rw [eb] at K
      have e : i = S.2 := by omega
      rw [e] at mf
      exact K M A _ _ _ r sr mf fr
    · have hi : i < S.2 := by omega
      have hp := phi_lt (sb.2 i hi).1 hn
      rw [if_pos hi] at eb
      rw [eb] at K
      have hr := rfr_le (n := n) (E := S.1) (z := i) (m := phi n (S.1 0 i) / 16) (fun j hj => (sb.2 j (by omega)).2.1)
      refine x_aload_n i_226_128 rfl ?_
      refine x_gr i_226_129 ob_170 gr_8_14.1 gr_8_14.2 (rt_170_14 _) ?_
      refine x_iload_n i_226_132 rfl ?_
      refine n_ld (x := phi n (S.1 0 i)) i_226_133 ar_179 (by omega) (by omega) (sr.2.1 i hi).1 ?_
      refine x_istore_n i_226_134 rfl rfl ?_
      refine x_aload_n i_226_135 rfl ?_
      refine x_gr i_226_136 ob_170 gr_8_15.1 gr_8_15.2 (rt_170_15 _) ?_
      refine x_iload_n i_226_139 rfl ?_
      refine x_sh (r := [_]) (lj := [some _]) i_226_140 ws_229 [_] rfl rfl (Nat.le_of_ble_eq_true rfl) (Nat.le_of_ble_eq_true rfl) rfl ?_
      refine c_229 (by omega) (rt_i ?_)
      refine n_ld (x := rfr n S.1 (phi n (S.1 0 i) / 16) i) i_226_143 ar_180 (by omega) (by omega) (mf _ (by omega)) ?_
      refine n_iconst 4294967295 i_226_144 rfl ?_
      refine n_ineU (by omega) (by omega) i_226_145 ⟨fun g2 => ?_, fun g2 => ?_⟩
      · have x : SJ M n S T g i (i + 1) A := ⟨r, t, sr, fun m hm => by
          unfold rfr
          by_cases e : phi n (S.1 0 i) / 16 = m
          · rw [if_neg (fun q => g2 (by rw [e]; exact q.1))]; exact mf m hm
          · rw [if_neg (fun q => e q.2)]; exact mf m hm, w, ⟨_, v⟩, hi, Nat.le_refl _⟩
        have fx : FRj M0 M := fr
        refine x_aload_n i_226_163 rfl ?_
        refine n_bipush 99 i_226_164 rfl ?_
        refine x_iload_n i_226_166 rfl ?_
        refine x_vh (r := []) (lj := [some _, some _, some _, none, none, none, none]) i_226_167 w_230 ob_170 [_, _] rfl rfl (Nat.le_of_ble_eq_true rfl) (Nat.le_of_ble_eq_true rfl) rfl ?_
        refine c_230 (y := 99) x.1 hg (by omega) (by omega) (rt_i ?_)
        refine x_istore i_226_170 rfl rfl ?_
        refine c_226_172 (e := 100) hn hg (AL n g) (by omega) (by omega) (al_lsa hn hg) (fun a h => h) x fx (fun M2 A2 l4 x2 f2 => ?_)
        obtain ⟨r2, t2, sr2, mf2, -⟩ := x2
        obtain ⟨v1, v2⟩ := iv_run (al_ok hn) w (AL n g) S (fun _ => False) (fun _ h => h) hi v
        refine n_iinc 1 i_226_215 rfl rfl rfl rfl ?_
        refine x_goto i_226_218 ?_
        exact ih (i + 1) (by omega) r2 t2 sr2 mf2 (iv_next v1 (by omega)) f2 K
      · refine x_aload_n i_226_148 rfl ?_
        refine x_gr i_226_149 ob_170 gr_8_15.1 gr_8_15.2 (rt_170_15 _) ?_
        refine x_iload_n i_226_152 rfl ?_
        refine x_sh (r := [_]) (lj := [some _]) i_226_153 ws_229 [_] rfl rfl (Nat.le_of_ble_eq_true rfl) (Nat.le_of_ble_eq_true rfl) rfl ?_
        refine c_229 (by omega) (rt_i ?_)
        refine x_aload_n i_226_156 rfl ?_
        refine x_gr i_226_157 ob_170 gr_8_11.1 gr_8_11.2 (rt_170_11 _) ?_
        refine x_iload_n i_226_160 rfl ?_
        refine n_ld (x := S.1 3 i) i_226_161 ar_176 (by omega) (by omega) (sr.2.1 i hi).2.1 ?_
        refine n_st i_226_162 ar_180 (by omega) (by omega) ?_
        have f1 : ∀ q k, ¬ (q = 180 ∧ k = phi n (S.1 0 i) / 16) → a_up M 180 (phi n (S.1 0 i) / 16) (N (S.1 3 i)) q k = M q k := fun q k h => by rw [a_up_def, if_neg h]
        have f2 : a_up M 180 (phi n (S.1 0 i) / 16) (N (S.1 3 i)) 180 (phi n (S.1 0 i) / 16) = N (S.1 3 i) := by rw [a_up_def, if_pos ⟨rfl, rfl⟩]
        generalize a_up M 180 (phi n (S.1 0 i) / 16) (N (S.1 3 i)) = M1 at f1 f2 ⊢
        have x : SJ M1 n S T g i (i + 1) A := ⟨r.same (fun k hk => f1 _ _ (by omega)) (fun k hk => f1 _ _ (by omega)), t, sr.fm (fun q k h => f1 _ _ (by omega)), fun m hm => by
          unfold rfr
          by_cases e : phi n (S.1 0 i) / 16 = m
          · rw [if_pos ⟨by rw [← e]; exact g2, e⟩, ← e]; exact f2
          · rw [if_neg (fun q => e q.2), f1 _ _ (fun q => e q.2.symm)]; exact mf m hm, w, ⟨_, v⟩, hi, Nat.le_refl _⟩
        have fx : FRj M0 M1 := fr.trans (fun q k a b c => f1 q k (by omega))
        refine x_aload_n i_226_163 rfl ?_
        refine n_bipush 99 i_226_164 rfl ?_
        refine x_iload_n i_226_166 rfl ?_
        refine x_vh (r := []) (lj := [some _, some _, some _, none, none, none, none]) i_226_167 w_230 ob_170 [_, _] rfl rfl (Nat.le_of_ble_eq_true rfl) (Nat.le_of_ble_eq_true rfl) rfl ?_
        refine c_230 (y := 99) x.1 hg (by omega) (by omega) (rt_i ?_)
        refine x_istore i_226_170 rfl rfl ?_
        refine c_226_172 (e := 100) hn hg (AL n g) (by omega) (by omega) (al_lsa hn hg) (fun a h => h) x fx (fun M2 A2 l4 x2 f2 => ?_)
        obtain ⟨r2, t2, sr2, mf2, -⟩ := x2
        obtain ⟨v1, v2⟩ := iv_run (al_ok hn) w (AL n g) S (fun _ => False) (fun _ h => h) hi v
        refine n_iinc 1 i_226_215 rfl rfl rfl rfl ?_
        refine x_goto i_226_218 ?_
        exact ih (i + 1) (by omega) r2 t2 sr2 mf2 (iv_next v1 (by omega)) f2 K
theorem c_226 (hn : n = 2 ∨ n = 3) (hg : g ≤ 1) (r : RM M n B) (K : ∀ M' B', RM M' n B' → EQ B B' → SRr M' n (BF n B g) → MFr M' n (BF n B g).1 (BF n B g).2 → (∀ q k, ¬ (q = 170 ∧ (k = 0 ∨ (7 ≤ k ∧ k ≤ 10) ∨ k = 16)) → ¬ (q = 173 ∧ k < 216) → ¬ (176 ≤ q ∧ q ≤ 180) → M' q k = M q k) → Q none (a_hp sc fd M')) : a_Ex 226 0 [some (.ref 170), some (.int (N g)), none, none, none] [] (a_hp sc fd M) Q := by
  have r0 := r
  refine x_aload_n i_226_0 rfl ?_
  refine x_gr i_226_1 ob_170 gr_8_1.1 gr_8_1.2 (rt_170_1 _) ?_
  refine n_iconst 0 i_226_4 rfl ?_
  refine x_aload_n i_226_5 rfl ?_
  refine x_gr i_226_6 ob_170 gr_8_3.1 gr_8_3.2 (rt_170_3 _) ?_
  refine n_iconst 0 i_226_9 rfl ?_
  refine x_sh (r := []) (lj := [some _, some _, some _, some _, none]) i_226_10 ws_149 [_, _, _, _] rfl rfl (Nat.le_of_ble_eq_true rfl) (Nat.le_of_ble_eq_true rfl) rfl ?_
  refine c_149 ar_171 ar_173 (by omega) (by omega) (by omega) (by omega) (fun h => absurd h (by omega)) (rt_n ?_)
  have a1 : ∀ q k, ¬ (q = 173 ∧ k < 216) → cpr M 171 0 173 0 216 q k = M q k := fun q k h => by unfold cpr; rw [if_neg (by omega)]
  have a2 : ∀ k, k < 216 → cpr M 171 0 173 0 216 173 k = M 171 k := fun k h => by unfold cpr; rw [if_pos (by omega), show 0 + (k - 0) = k by omega]
  generalize cpr M 171 0 173 0 216 = M1 at a1 a2 ⊢
  have r1 : RM M1 n B := r.same (fun k hk => a1 _ _ (by omega)) (fun k hk => a1 _ _ (by omega))
  refine n_iconst 0 i_226_13 rfl ?_
  refine x_istore_n i_226_14 rfl rfl ?_
  have L0 := c_226_15 (sc := sc) (fd := fd) (M := M1) (Q := Q) (g := g) ?_ 27648 0 rfl (by omega)
  · rw [fll_0] at L0; exact L0
  have b1 : ∀ q k, ¬ (q = 176 ∧ k < 27648) → fll M1 176 27648 (N 4294967295) q k = M1 q k := fun q k h => by unfold fll; rw [if_neg h]
  have b2 : ∀ k, k < 27648 → fll M1 176 27648 (N 4294967295) 176 k = N 4294967295 := fun k h => by unfold fll; rw [if_pos ⟨rfl, h⟩]
  generalize fll M1 176 27648 (N 4294967295) = M2 at b1 b2 ⊢
  refine n_iconst 0 i_226_35 rfl ?_
  refine x_istore_n i_226_36 rfl rfl ?_
  have L0 := c_226_37 (sc := sc) (fd := fd) (M := M2) (Q := Q) (g := g) ?_ 1728 0 rfl (by omega)
  · rw [fll_0] at L0; exact L0
  have d1 : ∀ q k, ¬ (q = 180 ∧ k < 1728) → fll M2 180 1728 (N 4294967295) q k = M2 q k := fun q k h => by unfold fll; rw [if_neg h]
  have d2 : ∀ k, k < 1728 → fll M2 180 1728 (N 4294967295) 180 k = N 4294967295 := fun k h => by unfold fll; rw [if_pos ⟨rfl, h⟩]
  generalize fll M2 180 1728 (N 4294967295) = M3 at d1 d2 ⊢
  refine x_aload_n i_226_57 rfl ?_
  refine n_iconst 0 i_226_58 rfl ?_
  refine x_pi i_226_59 ob_170 pf_8_16.1 pf_8_16.2 ?_
  have p1 : ∀ q k, ¬ (q = 170 ∧ k = 16) → a_up M3 170 16 (N 0) q k = M3 q k := fun q k h => by rw [a_up_def, if_neg h]
  have p2 : a_up M3 170 16 (N 0) 170 16 = N 0 := by rw [a_up_def, if_pos ⟨rfl, rfl⟩]
  generalize a_up M3 170 16 (N 0) = M4 at p1 p2 ⊢
  have c4 : ∀ q k, ¬ (q = 170 ∧ k = 16) → ¬ (q = 180 ∧ k < 1728) → ¬ (q = 176 ∧ k < 27648) → M4 q k = M1 q k := fun q k h1 h2 h3 => by rw [p1 q k h1, d1 q k h2, b1 q k h3]
  have r4 : RM M4 n B := r1.same (fun k hk => c4 _ _ (by omega) (by omega) (by omega)) (fun k hk => c4 _ _ (by omega) (by omega) (by omega))
  refine x_aload_n i_226_62 rfl ?_
  refine x_gr i_226_63 ob_170 gr_8_1.1 gr_8_1.2 (rt_170_1 _) ?_
  refine n_iconst 2 i_226_66 rfl ?_
  refine n_iconst 0 i_226_67 rfl ?_
  refine n_stM i_226_68 r4 2 (by omega) rfl (Or.inl ⟨rfl, by omega⟩) (fun M5 r5 f5 => ?_)
  refine n_iconst 0 i_226_69 rfl ?_
  refine x_istore_n i_226_70 rfl rfl ?_
  refine c_226_71 (A := a_up B 6 2 0) (M0 := M4) (fun M6 C6 r6 f6 h1 h2 => ?_) n 0 rfl (Nat.zero_le _) r5 f5 (fun _ _ _ => rfl) (fun t ht => absurd ht (Nat.not_lt_zero _))
  have iv := iv_0 (L := AL n g) (T := B) hn r.w
  have i0 : IHs n B (std n B (c0 n)) := (iv.2.1 0 (Nat.lt_succ_self 0)).1
  have hv0 : vl n (std n B (c0 n)) = c0 n := (iv.2.1 0 (Nat.lt_succ_self 0)).2
  have es : ES n C6 (std n B (c0 n)) := by
    have q6 : ∀ k, C6 6 k = a_up B 6 2 0 6 k := fun k => h1 6 k (by omega)
    have k2 : C6 6 2 = 0 := by rw [q6, a_up_def, if_pos ⟨rfl, rfl⟩]
    have k1 : C6 6 1 = B 6 1 := by rw [q6, a_up_def, if_neg (by omega)]
    have k3 : C6 6 3 = B 6 3 := by rw [q6, a_up_def, if_neg (by omega)]
    have k4 : C6 6 4 = B 6 4 := by rw [q6, a_up_def, if_neg (by omega)]
    have w3 : ∀ w s, 3 ≤ w → w < 5 → C6 w s = B w s := fun w s a b => by rw [h1 w s a, a_up_def, if_neg (by omega)]
    rcases hn with rfl | rfl
    · obtain ⟨x0, x1, x2⟩ := h2 0 (by omega)
      obtain ⟨y0, y1, y2⟩ := h2 1 (by omega)
      refine ES.mk2 (fun w hw => ?_) ⟨k1, k2, k3, k4⟩
      rcases (by omega : w = 0 ∨ w = 1 ∨ w = 2 ∨ w = 3 ∨ w = 4) with rfl | rfl | rfl | rfl | rfl
      · exact ⟨x0, y0⟩
      · exact ⟨x1, y1⟩
      · exact ⟨x2, y2⟩
      · exact ⟨w3 3 0 (by omega) (by omega), w3 3 1 (by omega) (by omega)⟩
      · exact ⟨w3 4 0 (by omega) (by omega), w3 4 1 (by omega) (by omega)⟩
    · obtain ⟨x0, x1, x2⟩ := h2 0 (by omega)
      obtain ⟨y0, y1, y2⟩ := h2 1 (by omega)
      obtain ⟨z0, z1, z2⟩ := h2 2 (by omega)
      refine ES.mk3 (fun w hw => ?_) ⟨k1, k2, k3, k4⟩
      rcases (by omega : w = 0 ∨ w = 1 ∨ w = 2 ∨ w = 3 ∨ w = 4) with rfl | rfl | rfl | rfl | rfl
      · exact ⟨x0, y0, z0⟩
      · exact ⟨x1, y1, z1⟩
      · exact ⟨x2, y2, z2⟩
      · exact ⟨w3 3 0 (by omega) (by omega), w3 3 1 (by omega) (by omega), w3 3 2 (by omega) (by omega)⟩
      · exact ⟨w3 4 0 (by omega) (by omega), w3 4 1 (by omega) (by omega), w3 4 2 (by omega) (by omega)⟩
  have v6 : VS n C6 := i0.1.es es.symm
  have hv6 : vl n C6 = c0 n := (es.vlq hn).trans hv0
  have t6 : TM n B C6 := std_tm.es es.symm
  have hc0 : c0 n < cb n := by rcases hn with rfl | rfl <;> decide
  have hcb2 : cb n ≤ 27648 := by unfold cb; split <;> omega
  have sr6 : SRr M6 n ((S0 n).1, 0) := ⟨(f6 _ _ (by omega)).trans p2, fun j hj => absurd hj (Nat.not_lt_zero _), fun c hc _ => by have := phi_lt hc hn; rw [f6 _ _ (by omega), p1 _ _ (by omega), d1 _ _ (by omega)]; exact b2 _ (by omega)⟩
  refine x_aload_n i_226_108 rfl ?_
  refine x_aload_n i_226_109 rfl ?_
  refine x_vh (r := [_]) (lj := [some _, none, none]) i_226_110 w_227 ob_170 [] rfl rfl (Nat.le_of_ble_eq_true rfl) (Nat.le_of_ble_eq_true rfl) rfl ?_
  refine c_227 r6 v6 (rt_i ?_)
  rw [hv6]
  refine n_iconst 4294967295 i_226_113 rfl ?_
  refine n_iconst 4294967295 i_226_114 rfl ?_
  refine x_vh (r := []) (lj := [some _, some _, some _, some _]) i_226_115 w_228 ob_170 [_, _, _] rfl rfl (Nat.le_of_ble_eq_true rfl) (Nat.le_of_ble_eq_true rfl) rfl ?_
  refine c_228 (S := ((S0 n).1, 0)) (i := 4294967295) (a := 0) (b := 4294967295) hn ⟨Nat.zero_le _, fun j hj => absurd hj (Nat.not_lt_zero _)⟩ sr6 hc0 (Or.inl rfl) (fun h => absurd h (by show ¬ 1 ≤ 0; omega)) (fun M7 sr7 f7 => rt_n ?_)
  rw [ad_0] at sr7
  refine n_iconst 0 i_226_118 rfl ?_
  refine x_istore_n i_226_119 rfl rfl ?_
  refine c_226_120 (M0 := M4) (T := B) hn hg r.w 4096 0 rfl (r6.same (fun k hk => f7 _ _ (by omega) (by omega)) (fun k hk => f7 _ _ (by omega) (by omega))) t6 sr7 (fun m hm => ?_) (iv_0 hn r.w) (fun q k a b c => (f7 q k (by omega) (by omega)).trans (f6 q k (by omega))) (fun M8 B8 l2 l3 l4 r8 sr8 mf8 f8 => ?_)
  · rw [f7 _ _ (by omega) (by omega), f6 _ _ (by omega), p1 _ _ (by omega)]; exact d2 m hm
  refine x_aload_n i_226_221 rfl ?_
  refine x_gr i_226_222 ob_170 gr_8_3.1 gr_8_3.2 (rt_170_3 _) ?_
  refine n_iconst 0 i_226_225 rfl ?_
  refine x_aload_n i_226_226 rfl ?_
  refine x_gr i_226_227 ob_170 gr_8_1.1 gr_8_1.2 (rt_170_1 _) ?_
  refine n_iconst 0 i_226_230 rfl ?_
  refine x_sh (r := []) (lj := [some _, some _, some _, some _, none]) i_226_231 ws_149 [_, _, _, _] rfl rfl (Nat.le_of_ble_eq_true rfl) (Nat.le_of_ble_eq_true rfl) rfl ?_
  refine c_149 ar_173 ar_171 (by omega) (by omega) (by omega) (by omega) (fun h => absurd h (by omega)) (rt_n ?_)
  have u1 : ∀ q k, ¬ (q = 171 ∧ k < 216) → cpr M8 173 0 171 0 216 q k = M8 q k := fun q k h => by unfold cpr; rw [if_neg (by omega)]
  have u2 : ∀ k, k < 216 → cpr M8 173 0 171 0 216 171 k = M 171 k := fun k h => by
    unfold cpr
    rw [if_pos (by omega), show 0 + (k - 0) = k by omega, f8 _ _ (by omega) (by omega) (by omega), c4 _ _ (by omega) (by omega) (by omega)]
    exact a2 k h
  generalize cpr M8 173 0 171 0 216 = M9 at u1 u2 ⊢
  refine x_vret i_226_234 rn_226 ?_
  have rs : RS (M9 171) n B := by
    obtain ⟨g1, g2, g3, g4, g5, g6⟩ := r0.rs
    have h7 := g1.2.2.2.1
    refine ⟨g1, (u2 _ (by omega)).trans g2, fun k k1 k2 => (u2 _ (by omega)).trans (g3 k k1 k2), fun w hw s hs => (u2 _ (by have := r0.n5; omega)).trans (g4 w hw s hs), (u2 _ (by omega)).trans g5, fun j hj => ?_⟩
    obtain ⟨x1, x2, x3⟩ := g6 j hj
    exact ⟨(u2 _ (by omega)).trans x1, (u2 _ (by omega)).trans x2, (u2 _ (by omega)).trans x3⟩
  obtain ⟨B9, e9, r9⟩ := rs.rm
  refine K M9 B9 r9 e9 (sr8.fm (fun q k h => u1 q k (by omega))) (fun m hm => (u1 _ _ (by omega)).trans (mf8 m hm)) (fun q k h1 h2 h3 => ?_)
  by_cases z : q = 171 ∧ k < 216
  · rw [z.1]; exact u2 k z.2
  · rw [u1 q k z, f8 q k h1 z (by omega), c4 q k (by omega) (by omega) (by omega)]
    exact a1 q k h2
end RSV
