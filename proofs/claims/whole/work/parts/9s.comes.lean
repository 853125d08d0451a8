/-! the reference's search: coming to a stand, the next act, acting -/
def nv (n : Nat) (E : HA) (i : Nat) : Nat := if i = 4294967295 then 4294967295 else phi n (E 0 i)
def SRr (M : a_Mm) (n : Nat) (S : HA × Nat) : Prop := M 170 16 = N S.2 ∧ (∀ j, j < S.2 → M 179 j = N (phi n (S.1 0 j)) ∧ M 176 (phi n (S.1 0 j)) = N (S.1 3 j) ∧ M 178 (phi n (S.1 0 j)) = N (nv n S.1 (S.1 1 j)) ∧ (1 ≤ j → M 177 (phi n (S.1 0 j)) = N (S.1 2 j))) ∧ ∀ c, c < cb n → ¬ ms S.1 c S.2 = true → M 176 (phi n c) = N 4294967295
/-- what an abstract search is to keep for it -/
def SB (n : Nat) (S : HA × Nat) : Prop := S.2 ≤ 4000 ∧ ∀ j, j < S.2 → S.1 0 j < cb n ∧ S.1 3 j ≤ 64 ∧ (S.1 1 j = 4294967295 ∨ S.1 1 j < S.2)
def OKP (n g a : Nat) : Prop := (a / 100 < 4 ∧ a % 100 < 6) ∨ (¬ a / 100 < 4 ∧ a / 100 = 4 ∧ a % 100 < n) ∨ (¬ a / 100 < 4 ∧ ¬ a / 100 = 4 ∧ a / 100 = 5 ∧ a % 100 / 10 < n ∧ a % 100 % 10 < 6) ∨ (¬ a / 100 < 4 ∧ ¬ a / 100 = 4 ∧ ¬ a / 100 = 5 ∧ g = 1 ∧ a % 100 % 2 = 0 ∧ a % 100 ≤ ev n)
def okp (n g a : Nat) : Bool := decide ((a / 100 < 4 ∧ a % 100 < 6) ∨ (¬ a / 100 < 4 ∧ a / 100 = 4 ∧ a % 100 < n) ∨ (¬ a / 100 < 4 ∧ ¬ a / 100 = 4 ∧ a / 100 = 5 ∧ a % 100 / 10 < n ∧ a % 100 % 10 < 6) ∨ (¬ a / 100 < 4 ∧ ¬ a / 100 = 4 ∧ ¬ a / 100 = 5 ∧ g = 1 ∧ a % 100 % 2 = 0 ∧ a % 100 ≤ ev n))
theorem okp_t (n g a : Nat) : (okp n g a = true) = OKP n g a := decide_eq_true_eq
def nx (n g : Nat) : Nat → Nat → Nat
  | 0, _ => 4294967295
  | d + 1, a => if okp n g a = true then a else nx n g d (a + 1)
def lsa (n g : Nat) : Nat → Nat → List Nat
  | 0, _ => []
  | d + 1, a => if okp n g a = true then a :: lsa n g d (a + 1) else lsa n g d (a + 1)
def orr (t : Nat) : Nat → Nat → Nat → Nat
  | 0, u, _ => u
  | d + 1, u, x => orr t d (u ||| (if x % 6 = t then 1 else 0)) (x / 6)
section RSA
variable {sc : a_Sc} {fd : Nat} {M M0 : a_Mm} {n g x s c k p q z i a b : Nat} {T A B C E : HA} {S : HA × Nat} {h : a_Hp} {Q : Option Value → a_Hp → Prop}
theorem c_228_34 (hp : p < 27648) (hz : z < 27648) (h6 : M 170 16 = N z) (K : Q none (a_hp sc fd (a_up (a_up (a_up (a_up M 178 p (N q)) 177 p (N a)) 179 z (N p)) 170 16 (N (z + 1))))) : a_Ex 228 34 [some (.ref 170), some (.int (N p)), some (.int (N q)), some (.int (N a))] [] (a_hp sc fd M) Q := by
  refine x_aload_n i_228_34 rfl ?_
  refine x_gr i_228_35 ob_170 gr_8_13.1 gr_8_13.2 (rt_170_13 _) ?_
  refine x_iload_n i_228_38 rfl ?_
  refine x_iload_n i_228_39 rfl ?_
  refine n_st i_228_40 ar_178 (by omega) (by omega) ?_
  refine x_aload_n i_228_41 rfl ?_
  refine x_gr i_228_42 ob_170 gr_8_12.1 gr_8_12.2 (rt_170_12 _) ?_
  refine x_iload_n i_228_45 rfl ?_
  refine x_iload_n i_228_46 rfl ?_
  refine n_st i_228_47 ar_177 (by omega) (by omega) ?_
  refine x_aload_n i_228_48 rfl ?_
  refine x_gr i_228_49 ob_170 gr_8_14.1 gr_8_14.2 (rt_170_14 _) ?_
  refine x_aload_n i_228_52 rfl ?_
  refine n_gi (x := z) i_228_53 ob_170 gf_8_16.1 gf_8_16.2 (by rw [a_up_def, if_neg (by omega), a_up_def, if_neg (by omega)]; exact h6) ?_
  refine x_iload_n i_228_56 rfl ?_
  refine n_st i_228_57 ar_179 (by omega) (by omega) ?_
  refine x_aload_n i_228_58 rfl ?_
  refine x_dup i_228_59 rfl ?_
  refine n_gi (x := z) i_228_60 ob_170 gf_8_16.1 gf_8_16.2 (by rw [a_up_def, if_neg (by omega), a_up_def, if_neg (by omega), a_up_def, if_neg (by omega)]; exact h6) ?_
  refine n_iconst 1 i_228_63 rfl ?_
  refine x_iaddN i_228_64 ?_
  refine x_pi i_228_65 ob_170 pf_8_16.1 pf_8_16.2 ?_
  refine x_vret i_228_68 rn_228 ?_
  exact K
theorem sr_ad (hn : n = 2 ∨ n = 3) (sb : SB n S) (sr : SRr M n S) (hc : c < cb n) (hi : i = 4294967295 ∨ i < S.2) (no : ¬ ms S.1 c S.2 = true) {b : Nat} (hb : 1 ≤ S.2 → b = a) {M' : a_Mm} (e1 : M' 170 16 = N (S.2 + 1)) (e2 : M' 179 S.2 = N (phi n c)) (e3 : M' 176 (phi n c) = N (if i = 4294967295 then 0 else S.1 3 i + 1)) (e4 : M' 178 (phi n c) = N (nv n S.1 i)) (e5 : M' 177 (phi n c) = N b) (fr : ∀ q k, ¬ (q = 170 ∧ k = 16) → ¬ (q = 179 ∧ k = S.2) → ¬ ((q = 176 ∨ q = 177 ∨ q = 178) ∧ k = phi n c) → M' q k = M q k) : SRr M' n (adE S c i a) := by
  obtain ⟨E, z⟩ := S
  obtain ⟨s1, s2, s3⟩ := sr
  obtain ⟨hz, hsb⟩ := sb
  unfold adE
  rw [if_neg no]
  have nin : ∀ j, j < z → ¬ E 0 j = c := fun j hj q => no ((ms_t _).mpr ⟨j, hj, q⟩)
  refine ⟨e1, fun j hj => ?_, fun c' hc' no' => ?_⟩
  · have hj : j < z + 1 := hj
    show M' 179 j = N (phi n (exE E z c i a 0 j)) ∧ M' 176 (phi n (exE E z c i a 0 j)) = N (exE E z c i a 3 j) ∧ M' 178 (phi n (exE E z c i a 0 j)) = N (nv n (exE E z c i a) (exE E z c i a 1 j)) ∧ (1 ≤ j → M' 177 (phi n (exE E z c i a 0 j)) = N (exE E z c i a 2 j))
    by_cases y : j = z
    · subst y
      rw [exE_0, exE_1, exE_2]
      refine ⟨e2, e3.trans ?_, e4.trans ?_, fun h1 => ?_⟩
      · have e : exE E j c i a 3 j = (if i = 4294967295 then 0 else E 3 i + 1) := by
          unfold exE
          rw [a_up_def]
          exact if_pos ⟨rfl, rfl⟩
        rw [e]
      · unfold nv
        by_cases w : i = 4294967295
        · rw [if_pos w, if_pos w]
        · rw [if_neg w, if_neg w, exE_o (by have : i < j := hi.resolve_left w; omega)]
      · rw [e5, hb h1]
    · have hj' : j < z := by omega
      obtain ⟨y1, y2, y3, y4⟩ := s2 j hj'
      obtain ⟨z1, z2, z3⟩ := hsb j hj'
      have ne : ¬ phi n (E 0 j) = phi n c := fun q => nin j hj' (phi_inj z1 hc hn q)
      rw [exE_o y, exE_o y, exE_o y, exE_o y]
      refine ⟨(fr _ _ (by omega) (by show ¬ (_ ∧ j = z); omega) (by omega)).trans y1, (fr _ _ (by omega) (by omega) (fun q => ne q.2)).trans y2, ((fr _ _ (by omega) (by omega) (fun q => ne q.2)).trans y3).trans ?_, fun h1 => (fr _ _ (by omega) (by omega) (fun q => ne q.2)).trans (y4 h1)⟩
      show N (nv n E (E 1 j)) = N (nv n (exE E z c i a) (E 1 j))
      unfold nv
      by_cases w : E 1 j = 4294967295
      · rw [if_pos w, if_pos w]
      · rw [if_neg w, if_neg w, exE_o (by have : E 1 j < z := z3.resolve_left w; omega)]
  · have n1 : ¬ ms E c' z = true := fun q => no' (ms_ex q)
    have h0 : exE E z c i a 0 z = c := exE_0
    have n2 : ¬ c' = c := fun q => no' ((ms_t _).mpr ⟨z, Nat.lt_succ_self z, h0.trans q.symm⟩)
    have ne : ¬ phi n c' = phi n c := fun q => n2 (phi_inj hc' hc hn q)
    exact (fr _ _ (by omega) (by omega) (fun q => ne q.2)).trans (s3 c' hc' n1)
theorem c_228 {b : Nat} (hn : n = 2 ∨ n = 3) (sb : SB n S) (sr : SRr M n S) (hc : c < cb n) (hi : i = 4294967295 ∨ i < S.2) (hb : 1 ≤ S.2 → b = a) (K : ∀ M', SRr M' n (adE S c i a) → (∀ q k, ¬ (176 ≤ q ∧ q ≤ 179) → ¬ (q = 170 ∧ k = 16) → M' q k = M q k) → Q none (a_hp sc fd M')) : a_Ex 228 0 [some (.ref 170), some (.int (N (phi n c))), some (.int (N (nv n S.1 i))), some (.int (N b))] [] (a_hp sc fd M) Q := by
  have hp := phi_lt hc hn
  have hcb : cb n ≤ 27648 := by unfold cb; split <;> omega
  have hz := sb.1
  by_cases no : ms S.1 c S.2 = true
  · obtain ⟨j, hj, ej⟩ := (ms_t _).mp no
    have h64 := (sb.2 j hj).2.1
    have hv := (sr.2.1 j hj).2.1
    rw [ej] at hv
    have K := K M (by unfold adE; rw [if_pos no]; exact sr) (fun _ _ _ _ => rfl)
    refine x_aload_n i_228_0 rfl ?_
    refine x_gr i_228_1 ob_170 gr_8_11.1 gr_8_11.2 (rt_170_11 _) ?_
    refine x_iload_n i_228_4 rfl ?_
    refine n_ld (x := S.1 3 j) i_228_5 ar_176 (by omega) (by omega) hv ?_
    refine n_iconst 4294967295 i_228_6 rfl ?_
    refine n_ieqU (by omega) (by omega) i_228_7 ⟨fun g1 => ?_, fun g1 => ?_⟩
    · exact absurd g1 (by omega)
    · refine x_vret i_228_10 rn_228 ?_
      exact K
  · have hv := sr.2.2 c hc no
    have fin : ∀ dep, dep = (if i = 4294967295 then 0 else S.1 3 i + 1) → a_Ex 228 34 [some (.ref 170), some (.int (N (phi n c))), some (.int (N (nv n S.1 i))), some (.int (N b))] [] (a_hp sc fd (a_up M 176 (phi n c) (N dep))) Q := fun dep hdep => by
      refine c_228_34 (z := S.2) (by omega) (by omega) (by rw [a_up_def, if_neg (by omega)]; exact sr.1) (K _ (sr_ad hn sb sr hc hi no hb ?_ ?_ ?_ ?_ ?_ (fun q k h1 h2 h3 => ?_)) (fun q k h1 h2 => ?_))
      · rw [a_up_def, if_pos ⟨rfl, rfl⟩]
      · rw [a_up_def, if_neg (by omega), a_up_def, if_pos ⟨rfl, rfl⟩]
      · rw [a_up_def, if_neg (by omega), a_up_def, if_neg (by omega), a_up_def, if_neg (by omega), a_up_def, if_neg (by omega), a_up_def, if_pos ⟨rfl, rfl⟩, hdep]
      · rw [a_up_def, if_neg (by omega), a_up_def, if_neg (by omega), a_up_def, if_neg (by omega), a_up_def, if_pos ⟨rfl, rfl⟩]
      · rw [a_up_def, if_neg (by omega), a_up_def, if_neg (by omega), a_up_def, if_pos ⟨rfl, rfl⟩]
      · rw [a_up_def, if_neg (by omega), a_up_def, if_neg (by omega), a_up_def, if_neg (by omega), a_up_def, if_neg (by omega), a_up_def, if_neg (by omega)]
      · rw [a_up_def, if_neg (by omega), a_up_def, if_neg (by omega), a_up_def, if_neg (by omega), a_up_def, if_neg (by omega), a_up_def, if_neg (by omega)]
    by_cases w : i = 4294967295
    · have e : nv n S.1 i = 4294967295 := by unfold nv; rw [if_pos w]
      rw [if_pos w] at fin
      have fin := fin 0 rfl
      rw [e] at fin ⊢
      refine x_aload_n i_228_0 rfl ?_
      refine x_gr i_228_1 ob_170 gr_8_11.1 gr_8_11.2 (rt_170_11 _) ?_
      refine x_iload_n i_228_4 rfl ?_
      refine n_ld (x := 4294967295) i_228_5 ar_176 (by omega) (by omega) hv ?_
      refine n_iconst 4294967295 i_228_6 rfl ?_
      refine n_ieqU (by omega) (by omega) i_228_7 ⟨fun g1 => ?_, fun g1 => ?_⟩
      · refine x_aload_n i_228_11 rfl ?_
        refine x_gr i_228_12 ob_170 gr_8_11.1 gr_8_11.2 (rt_170_11 _) ?_
        refine x_iload_n i_228_15 rfl ?_
        refine x_iload_n i_228_16 rfl ?_
        refine n_iconst 4294967295 i_228_17 rfl ?_
        refine n_ineU (by omega) (by omega) i_228_18 ⟨fun g2 => ?_, fun g2 => ?_⟩
        · exact absurd rfl g2
        · refine n_iconst 0 i_228_21 rfl ?_
          refine x_goto i_228_22 ?_
          refine n_st i_228_33 ar_176 (by omega) (by omega) ?_
          exact fin
      · exact absurd rfl g1
    · have hi2 : i < S.2 := hi.resolve_left w
      have e : nv n S.1 i = phi n (S.1 0 i) := by unfold nv; rw [if_neg w]
      rw [if_neg w] at fin
      have fin := fin _ rfl
      have hpi := phi_lt (sb.2 i hi2).1 hn
      rw [e] at fin ⊢
      refine x_aload_n i_228_0 rfl ?_
      refine x_gr i_228_1 ob_170 gr_8_11.1 gr_8_11.2 (rt_170_11 _) ?_
      refine x_iload_n i_228_4 rfl ?_
      refine n_ld (x := 4294967295) i_228_5 ar_176 (by omega) (by omega) hv ?_
      refine n_iconst 4294967295 i_228_6 rfl ?_
      refine n_ieqU (by omega) (by omega) i_228_7 ⟨fun g1 => ?_, fun g1 => ?_⟩
      · refine x_aload_n i_228_11 rfl ?_
        refine x_gr i_228_12 ob_170 gr_8_11.1 gr_8_11.2 (rt_170_11 _) ?_
        refine x_iload_n i_228_15 rfl ?_
        refine x_iload_n i_228_16 rfl ?_
        refine n_iconst 4294967295 i_228_17 rfl ?_
        refine n_ineU (by omega) (by omega) i_228_18 ⟨fun g2 => ?_, fun g2 => ?_⟩
        · refine x_aload_n i_228_25 rfl ?_
          refine x_gr i_228_26 ob_170 gr_8_11.1 gr_8_11.2 (rt_170_11 _) ?_
          refine x_iload_n i_228_29 rfl ?_
          refine n_ld (x := S.1 3 i) i_228_30 ar_176 (by omega) (by omega) (sr.2.1 i hi2).2.1 ?_
          refine n_iconst 1 i_228_31 rfl ?_
          refine x_iaddN i_228_32 ?_
          refine n_st i_228_33 ar_176 (by omega) (by omega) ?_
          exact fin
        · exact absurd g2 (by omega)
      · exact absurd rfl g1
theorem c_230_4 {l1 : Option Value} (r : RM M n A) (hg : g ≤ 1) (K : ∀ x, x = nx n g 508 100 → True) : ∀ d a {l4 l5 l6 : Option Value}, a + d = 608 → 100 ≤ a → Q (some (.int (N (nx n g d a)))) (a_hp sc fd M) → a_Ex 230 4 [some (.ref 170), l1, some (.int (N g)), some (.int (N a)), l4, l5, l6] [] (a_hp sc fd M) Q := by
  have n5 := r.n5
  intro d
  induction d with
  | zero =>
    intro a l4 l5 l6 hd h100 K
    refine x_iload_n i_230_4 rfl ?_
    refine n_sipush 608 i_230_5 rfl ?_
    refine x_igeN (by omega) (by omega) i_230_8 ⟨fun g1 => ?_, fun g1 => ?_⟩
    · refine n_iconst 4294967295 i_230_148 rfl ?_
      refine x_iret i_230_149 rn_230 rfl ?_
      exact K
    · exact absurd (show 608 ≤ a by omega) g1
  | succ d ih =>
    intro a l4 l5 l6 hd h100 K
    unfold nx at K
    refine x_iload_n i_230_4 rfl ?_
    refine n_sipush 608 i_230_5 rfl ?_
    refine x_igeN (by omega) (by omega) i_230_8 ⟨fun g1 => ?_, fun g1 => ?_⟩
    · exact absurd g1 (by omega)
    · refine x_iload_n i_230_11 rfl ?_
      refine n_bipush 100 i_230_12 rfl ?_
      refine x_idivN (by omega) (by omega) (by omega) i_230_14 ?_
      refine x_istore i_230_15 rfl rfl ?_
      refine x_iload_n i_230_17 rfl ?_
      refine n_bipush 100 i_230_18 rfl ?_
      refine x_iremN (by omega) (by omega) (by omega) i_230_20 ?_
      refine x_istore i_230_21 rfl rfl ?_
      refine x_iload i_230_23 rfl ?_
      refine n_iconst 4 i_230_25 rfl ?_
      refine x_igeN (by omega) (by omega) i_230_26 ⟨fun g2 => ?_, fun g2 => ?_⟩
      · refine x_iload i_230_44 rfl ?_
        refine n_iconst 4 i_230_46 rfl ?_
        refine x_ineN (by omega) (by omega) i_230_47 ⟨fun g3 => ?_, fun g3 => ?_⟩
        · refine x_iload i_230_69 rfl ?_
          refine n_iconst 5 i_230_71 rfl ?_
          refine x_ineN (by omega) (by omega) i_230_72 ⟨fun g4 => ?_, fun g4 => ?_⟩
          · refine x_iload_n i_230_107 rfl ?_
            refine n_iconst 1 i_230_108 rfl ?_
            refine x_ineN (by omega) (by omega) i_230_109 ⟨fun g5 => ?_, fun g5 => ?_⟩
            · refine n_iconst 0 i_230_132 rfl ?_
              refine x_istore i_230_133 rfl rfl ?_
              refine x_iload i_230_135 rfl ?_
              refine x_ifT i_230_137 (by decide +kernel) ?_
              refine n_iinc 1 i_230_142 rfl rfl rfl rfl ?_
              refine x_goto i_230_145 ?_
              rw [if_neg (show ¬ okp n g a = true by rw [okp_t]; unfold OKP; omega)] at K
              exact ih (a + 1) (by omega) (by omega) K
            · refine x_iload i_230_112 rfl ?_
              refine n_iconst 2 i_230_114 rfl ?_
              refine x_iremN (by omega) (by omega) (by omega) i_230_115 ?_
              refine x_zneN (by omega) i_230_116 ⟨fun g6 => ?_, fun g6 => ?_⟩
              · refine n_iconst 0 i_230_132 rfl ?_
                refine x_istore i_230_133 rfl rfl ?_
                refine x_iload i_230_135 rfl ?_
                refine x_ifT i_230_137 (by decide +kernel) ?_
                refine n_iinc 1 i_230_142 rfl rfl rfl rfl ?_
                refine x_goto i_230_145 ?_
                rw [if_neg (show ¬ okp n g a = true by rw [okp_t]; unfold OKP; omega)] at K
                exact ih (a + 1) (by omega) (by omega) K
              · refine x_iload i_230_119 rfl ?_
                refine x_aload_n i_230_121 rfl ?_
                refine x_vh (r := [_]) (lj := [some _]) i_230_122 w_159 ob_170 [] rfl rfl (Nat.le_of_ble_eq_true rfl) (Nat.le_of_ble_eq_true rfl) rfl ?_
                refine c_159 r (fun hev => rt_i ?_)
                refine x_igtN (by omega) (by omega) i_230_125 ⟨fun g7 => ?_, fun g7 => ?_⟩
                · refine n_iconst 0 i_230_132 rfl ?_
                  refine x_istore i_230_133 rfl rfl ?_
                  refine x_iload i_230_135 rfl ?_
                  refine x_ifT i_230_137 (by decide +kernel) ?_
                  refine n_iinc 1 i_230_142 rfl rfl rfl rfl ?_
                  refine x_goto i_230_145 ?_
                  rw [if_neg (show ¬ okp n g a = true by rw [okp_t]; unfold OKP; omega)] at K
                  exact ih (a + 1) (by omega) (by omega) K
                · refine n_iconst 1 i_230_128 rfl ?_
                  refine x_goto i_230_129 ?_
                  refine x_istore i_230_133 rfl rfl ?_
                  refine x_iload i_230_135 rfl ?_
                  refine x_ifF i_230_137 (by decide +kernel) ?_
                  refine x_iload_n i_230_140 rfl ?_
                  refine x_iret i_230_141 rn_230 rfl ?_
                  rw [if_pos (show okp n g a = true by rw [okp_t]; unfold OKP; omega)] at K
                  exact K
          · refine x_iload i_230_75 rfl ?_
            refine n_bipush 10 i_230_77 rfl ?_
            refine x_idivN (by omega) (by omega) (by omega) i_230_79 ?_
            refine x_aload_n i_230_80 rfl ?_
            refine x_gr i_230_81 ob_170 gr_8_1.1 gr_8_1.2 (rt_170_1 _) ?_
            refine n_iconst 0 i_230_84 rfl ?_
            refine n_ld (x := n) i_230_85 ar_171 (by omega) (by omega) r.nn ?_
            refine x_igeN (by omega) (by omega) i_230_86 ⟨fun g5 => ?_, fun g5 => ?_⟩
            · refine n_iconst 0 i_230_103 rfl ?_
              refine x_goto i_230_104 ?_
              refine x_istore i_230_133 rfl rfl ?_
              refine x_iload i_230_135 rfl ?_
              refine x_ifT i_230_137 (by decide +kernel) ?_
              refine n_iinc 1 i_230_142 rfl rfl rfl rfl ?_
              refine x_goto i_230_145 ?_
              rw [if_neg (show ¬ okp n g a = true by rw [okp_t]; unfold OKP; omega)] at K
              exact ih (a + 1) (by omega) (by omega) K
            · refine x_iload i_230_89 rfl ?_
              refine n_bipush 10 i_230_91 rfl ?_
              refine x_iremN (by omega) (by omega) (by omega) i_230_93 ?_
              refine n_bipush 6 i_230_94 rfl ?_
              refine x_igeN (by omega) (by omega) i_230_96 ⟨fun g6 => ?_, fun g6 => ?_⟩
              · refine n_iconst 0 i_230_103 rfl ?_
                refine x_goto i_230_104 ?_
                refine x_istore i_230_133 rfl rfl ?_
                refine x_iload i_230_135 rfl ?_
                refine x_ifT i_230_137 (by decide +kernel) ?_
                refine n_iinc 1 i_230_142 rfl rfl rfl rfl ?_
                refine x_goto i_230_145 ?_
                rw [if_neg (show ¬ okp n g a = true by rw [okp_t]; unfold OKP; omega)] at K
                exact ih (a + 1) (by omega) (by omega) K
              · refine n_iconst 1 i_230_99 rfl ?_
                refine x_goto i_230_100 ?_
                refine x_istore i_230_133 rfl rfl ?_
                refine x_iload i_230_135 rfl ?_
                refine x_ifF i_230_137 (by decide +kernel) ?_
                refine x_iload_n i_230_140 rfl ?_
                refine x_iret i_230_141 rn_230 rfl ?_
                rw [if_pos (show okp n g a = true by rw [okp_t]; unfold OKP; omega)] at K
                exact K
        · refine x_iload i_230_50 rfl ?_
          refine x_aload_n i_230_52 rfl ?_
          refine x_gr i_230_53 ob_170 gr_8_1.1 gr_8_1.2 (rt_170_1 _) ?_
          refine n_iconst 0 i_230_56 rfl ?_
          refine n_ld (x := n) i_230_57 ar_171 (by omega) (by omega) r.nn ?_
          refine x_igeN (by omega) (by omega) i_230_58 ⟨fun g4 => ?_, fun g4 => ?_⟩
          · refine n_iconst 0 i_230_65 rfl ?_
            refine x_goto i_230_66 ?_
            refine x_istore i_230_133 rfl rfl ?_
            refine x_iload i_230_135 rfl ?_
            refine x_ifT i_230_137 (by decide +kernel) ?_
            refine n_iinc 1 i_230_142 rfl rfl rfl rfl ?_
            refine x_goto i_230_145 ?_
            rw [if_neg (show ¬ okp n g a = true by rw [okp_t]; unfold OKP; omega)] at K
            exact ih (a + 1) (by omega) (by omega) K
          · refine n_iconst 1 i_230_61 rfl ?_
            refine x_goto i_230_62 ?_
            refine x_istore i_230_133 rfl rfl ?_
            refine x_iload i_230_135 rfl ?_
            refine x_ifF i_230_137 (by decide +kernel) ?_
            refine x_iload_n i_230_140 rfl ?_
            refine x_iret i_230_141 rn_230 rfl ?_
            rw [if_pos (show okp n g a = true by rw [okp_t]; unfold OKP; omega)] at K
            exact K
      · refine x_iload i_230_29 rfl ?_
        refine n_bipush 6 i_230_31 rfl ?_
        refine x_igeN (by omega) (by omega) i_230_33 ⟨fun g3 => ?_, fun g3 => ?_⟩
        · refine n_iconst 0 i_230_40 rfl ?_
          refine x_goto i_230_41 ?_
          refine x_istore i_230_133 rfl rfl ?_
          refine x_iload i_230_135 rfl ?_
          refine x_ifT i_230_137 (by decide +kernel) ?_
          refine n_iinc 1 i_230_142 rfl rfl rfl rfl ?_
          refine x_goto i_230_145 ?_
          rw [if_neg (show ¬ okp n g a = true by rw [okp_t]; unfold OKP; omega)] at K
          exact ih (a + 1) (by omega) (by omega) K
        · refine n_iconst 1 i_230_36 rfl ?_
          refine x_goto i_230_37 ?_
          refine x_istore i_230_133 rfl rfl ?_
          refine x_iload i_230_135 rfl ?_
          refine x_ifF i_230_137 (by decide +kernel) ?_
          refine x_iload_n i_230_140 rfl ?_
          refine x_iret i_230_141 rn_230 rfl ?_
          rw [if_pos (show okp n g a = true by rw [okp_t]; unfold OKP; omega)] at K
          exact K
theorem c_230 {y : Nat} (r : RM M n A) (hg : g ≤ 1) (h1 : 100 ≤ y + 1) (h2 : y + 1 ≤ 608) (K : Q (some (.int (N (nx n g (608 - (y + 1)) (y + 1))))) (a_hp sc fd M)) : a_Ex 230 0 [some (.ref 170), some (.int (N y)), some (.int (N g)), none, none, none, none] [] (a_hp sc fd M) Q := by
  refine x_iload_n i_230_0 rfl ?_
  refine n_iconst 1 i_230_1 rfl ?_
  refine x_iaddN i_230_2 ?_
  refine x_istore_n i_230_3 rfl rfl ?_
  exact c_230_4 r hg (fun _ _ => trivial) _ _ (by omega) h1 K
theorem nx_lsa : ∀ d a, a + d = 608 → (nx n g d a = 4294967295 ∧ lsa n g d a = []) ∨ (a ≤ nx n g d a ∧ nx n g d a < 608 ∧ lsa n g d a = nx n g d a :: lsa n g (608 - (nx n g d a + 1)) (nx n g d a + 1)) := by
  intro d
  induction d with
  | zero => intro a _; exact Or.inl ⟨rfl, rfl⟩
  | succ d ih =>
    intro a hd
    rw [show nx n g (d + 1) a = (if okp n g a = true then a else nx n g d (a + 1)) from rfl, show lsa n g (d + 1) a = (if okp n g a = true then a :: lsa n g d (a + 1) else lsa n g d (a + 1)) from rfl]
    by_cases c : okp n g a = true
    · rw [if_pos c, if_pos c]
      exact Or.inr ⟨Nat.le_refl _, by omega, by rw [show 608 - (a + 1) = d by omega]⟩
    · rw [if_neg c, if_neg c]
      rcases ih (a + 1) (by omega) with h | ⟨h1, h2⟩
      · exact Or.inl h
      · exact Or.inr ⟨by omega, h2⟩
theorem al_lsa (hn : n = 2 ∨ n = 3) (hg : g ≤ 1) : lsa n g 508 100 = AL n g := by
  rcases hn with rfl | rfl <;> rcases (by omega : g = 0 ∨ g = 1) with rfl | rfl <;> decide +kernel
theorem c_233_12 {m : Nat} (he : h = a_hp sc fd M) : ∀ d s u v x, s + d = 3 → u < 2 → v < 2 → x < 2147483648 → Q (some (.int (N (if orr 4 d u x = 0 then 0 else if orr 5 d v x = 0 then 0 else 1)))) h → a_Ex 233 12 [some (.int (N m)), some (.int (N u)), some (.int (N v)), some (.int (N x)), some (.int (N s))] [] h Q := by
  subst he
  intro d
  induction d with
  | zero =>
    intro s u v x hs hu hv hx K
    have K : Q (some (.int (N (if u = 0 then 0 else if v = 0 then 0 else 1)))) (a_hp sc fd M) := K
    refine x_iload i_233_12 rfl ?_
    refine n_iconst 3 i_233_14 rfl ?_
    refine x_igeN (by omega) (by omega) i_233_15 ⟨fun g1 => ?_, fun g1 => ?_⟩
    · refine x_iload_n i_233_61 rfl ?_
      refine x_zeqN (by omega) i_233_62 ⟨fun g2 => ?_, fun g2 => ?_⟩
      · rw [if_pos g2] at K
        refine n_iconst 0 i_233_73 rfl ?_
        refine x_iret i_233_74 rn_233 rfl ?_
        exact K
      · rw [if_neg g2] at K
        refine x_iload_n i_233_65 rfl ?_
        refine x_zeqN (by omega) i_233_66 ⟨fun g3 => ?_, fun g3 => ?_⟩
        · rw [if_pos g3] at K
          refine n_iconst 0 i_233_73 rfl ?_
          refine x_iret i_233_74 rn_233 rfl ?_
          exact K
        · rw [if_neg g3] at K
          refine n_iconst 1 i_233_69 rfl ?_
          refine x_goto i_233_70 ?_
          refine x_iret i_233_74 rn_233 rfl ?_
          exact K
    · exact absurd (show 3 ≤ s by omega) g1
  | succ d ih =>
    intro s u v x hs hu hv hx K
    have K : Q (some (.int (N (if orr 4 d (u ||| (if x % 6 = 4 then 1 else 0)) (x / 6) = 0 then 0 else if orr 5 d (v ||| (if x % 6 = 5 then 1 else 0)) (x / 6) = 0 then 0 else 1)))) (a_hp sc fd M) := K
    have o2 : ∀ a b, a < 2 → b < 2 → a ||| b < 2 := fun a b ha hb => (by decide : ∀ a, a < 2 → ∀ b, b < 2 → a ||| b < 2) a ha b hb
    refine x_iload i_233_12 rfl ?_
    refine n_iconst 3 i_233_14 rfl ?_
    refine x_igeN (by omega) (by omega) i_233_15 ⟨fun g1 => ?_, fun g1 => ?_⟩
    · exact absurd g1 (by omega)
    · refine x_iload_n i_233_18 rfl ?_
      refine x_iload_n i_233_19 rfl ?_
      refine n_bipush 6 i_233_20 rfl ?_
      refine x_iremN (by omega) (by omega) (by omega) i_233_22 ?_
      refine n_iconst 4 i_233_23 rfl ?_
      refine x_ineN (by omega) (by omega) i_233_24 ⟨fun g2 => ?_, fun g2 => ?_⟩
      · rw [if_neg g2] at K
        refine n_iconst 0 i_233_31 rfl ?_
        refine x_iorN i_233_32 ?_
        refine x_istore_n i_233_33 rfl rfl ?_
        refine x_iload_n i_233_34 rfl ?_
        refine x_iload_n i_233_35 rfl ?_
        refine n_bipush 6 i_233_36 rfl ?_
        refine x_iremN (by omega) (by omega) (by omega) i_233_38 ?_
        refine n_iconst 5 i_233_39 rfl ?_
        refine x_ineN (by omega) (by omega) i_233_40 ⟨fun g3 => ?_, fun g3 => ?_⟩
        · rw [if_neg g3] at K
          refine n_iconst 0 i_233_47 rfl ?_
          refine x_iorN i_233_48 ?_
          refine x_istore_n i_233_49 rfl rfl ?_
          refine x_iload_n i_233_50 rfl ?_
          refine n_bipush 6 i_233_51 rfl ?_
          refine x_idivN (by omega) (by omega) (by omega) i_233_53 ?_
          refine x_istore_n i_233_54 rfl rfl ?_
          refine n_iinc 1 i_233_55 rfl rfl rfl rfl ?_
          refine x_goto i_233_58 ?_
          exact ih (s + 1) _ _ _ (by omega) (o2 _ _ hu (by omega)) (o2 _ _ hv (by omega)) (by omega) K
        · rw [if_pos g3] at K
          refine n_iconst 1 i_233_43 rfl ?_
          refine x_goto i_233_44 ?_
          refine x_iorN i_233_48 ?_
          refine x_istore_n i_233_49 rfl rfl ?_
          refine x_iload_n i_233_50 rfl ?_
          refine n_bipush 6 i_233_51 rfl ?_
          refine x_idivN (by omega) (by omega) (by omega) i_233_53 ?_
          refine x_istore_n i_233_54 rfl rfl ?_
          refine n_iinc 1 i_233_55 rfl rfl rfl rfl ?_
          refine x_goto i_233_58 ?_
          exact ih (s + 1) _ _ _ (by omega) (o2 _ _ hu (by omega)) (o2 _ _ hv (by omega)) (by omega) K
      · rw [if_pos g2] at K
        refine n_iconst 1 i_233_27 rfl ?_
        refine x_goto i_233_28 ?_
        refine x_iorN i_233_32 ?_
        refine x_istore_n i_233_33 rfl rfl ?_
        refine x_iload_n i_233_34 rfl ?_
        refine x_iload_n i_233_35 rfl ?_
        refine n_bipush 6 i_233_36 rfl ?_
        refine x_iremN (by omega) (by omega) (by omega) i_233_38 ?_
        refine n_iconst 5 i_233_39 rfl ?_
        refine x_ineN (by omega) (by omega) i_233_40 ⟨fun g3 => ?_, fun g3 => ?_⟩
        · rw [if_neg g3] at K
          refine n_iconst 0 i_233_47 rfl ?_
          refine x_iorN i_233_48 ?_
          refine x_istore_n i_233_49 rfl rfl ?_
          refine x_iload_n i_233_50 rfl ?_
          refine n_bipush 6 i_233_51 rfl ?_
          refine x_idivN (by omega) (by omega) (by omega) i_233_53 ?_
          refine x_istore_n i_233_54 rfl rfl ?_
          refine n_iinc 1 i_233_55 rfl rfl rfl rfl ?_
          refine x_goto i_233_58 ?_
          exact ih (s + 1) _ _ _ (by omega) (o2 _ _ hu (by omega)) (o2 _ _ hv (by omega)) (by omega) K
        · rw [if_pos g3] at K
          refine n_iconst 1 i_233_43 rfl ?_
          refine x_goto i_233_44 ?_
          refine x_iorN i_233_48 ?_
          refine x_istore_n i_233_49 rfl rfl ?_
          refine x_iload_n i_233_50 rfl ?_
          refine n_bipush 6 i_233_51 rfl ?_
          refine x_idivN (by omega) (by omega) (by omega) i_233_53 ?_
          refine x_istore_n i_233_54 rfl rfl ?_
          refine n_iinc 1 i_233_55 rfl rfl rfl rfl ?_
          refine x_goto i_233_58 ?_
          exact ih (s + 1) _ _ _ (by omega) (o2 _ _ hu (by omega)) (o2 _ _ hv (by omega)) (by omega) K
def ulk (m : Nat) : Nat := if orr 4 3 0 (m / 8) = 0 then 0 else if orr 5 3 0 (m / 8) = 0 then 0 else 1
theorem c_233 {m : Nat} (he : h = a_hp sc fd M) (hm : m < 2147483648) (K : Q (some (.int (N (ulk m)))) h) : a_Ex 233 0 [some (.int (N m)), none, none, none, none] [] h Q := by
  refine n_iconst 0 i_233_0 rfl ?_
  refine x_istore_n i_233_1 rfl rfl ?_
  refine n_iconst 0 i_233_2 rfl ?_
  refine x_istore_n i_233_3 rfl rfl ?_
  refine x_iload_n i_233_4 rfl ?_
  refine n_bipush 8 i_233_5 rfl ?_
  refine x_idivN (by omega) (by omega) (by omega) i_233_7 ?_
  refine x_istore_n i_233_8 rfl rfl ?_
  refine n_iconst 0 i_233_9 rfl ?_
  refine x_istore i_233_10 rfl rfl ?_
  exact c_233_12 he 3 0 0 0 _ rfl (by omega) (by omega) (by omega) K
end RSA
