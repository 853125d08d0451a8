/-! split -/
def spb (p : Nat → Nat → Bool) (a : Nat) : Nat → Nat → Nat → Nat
  | 0, _, c => c
  | d + 1, b, c => spb p a d (b + 1) (c + if p a b = true then 1 else 0)
def spa (h : Nat → Bool) (p : Nat → Nat → Bool) (top : Nat) : Nat → Nat → Nat → Nat
  | 0, _, c => c
  | d + 1, a, c => spa h p top d (a + 1) (if h a = true then spb p a top 1 c else c)
theorem spb_eq {p q : Nat → Nat → Bool} {a top : Nat} (h : ∀ b, 1 ≤ b → b ≤ top → p a b = q a b) : ∀ d b c, 1 ≤ b → b + d ≤ top + 1 → spb p a d b c = spb q a d b c
  | 0, _, _, _, _ => rfl
  | d + 1, b, c, h1, h2 => by
    show spb p a d (b + 1) (c + if p a b = true then 1 else 0) = spb q a d (b + 1) (c + if q a b = true then 1 else 0)
    rw [h b h1 (by omega)]
    exact spb_eq h d _ _ (by omega) (by omega)
theorem spa_eq {h h' : Nat → Bool} {p q : Nat → Nat → Bool} {top : Nat} (e : ∀ a, 1 ≤ a → a ≤ top → h a = h' a) (e' : ∀ a b, 1 ≤ b → b ≤ top → p a b = q a b) : ∀ d a c, 1 ≤ a → a + d ≤ top + 1 → spa h p top d a c = spa h' q top d a c
  | 0, _, _, _, _ => rfl
  | d + 1, a, c, h1, h2 => by
    show spa h p top d (a + 1) (if h a = true then spb p a top 1 c else c) = spa h' q top d (a + 1) (if h' a = true then spb q a top 1 c else c)
    rw [e a h1 (by omega), spb_eq (e' a) top 1 c (by omega) (by omega)]
    exact spa_eq e e' d _ _ (by omega) (by omega)
def p19 (n : Nat) (A : HA) (a b : Nat) : Bool := decide (a &&& b = 0 ∧ ¬ s_89 n A b = 0)
def h19 (n : Nat) (A : HA) (a : Nat) : Bool := decide (¬ s_88 n A a = 0)
def p208 (n : Nat) (B : HA) (a b : Nat) : Bool := decide (a &&& b = 0 ∧ s_209 n B b = 0)
def h208 (n : Nat) (B : HA) (a : Nat) : Bool := decide (s_209 n B a = 1)
def s_19 (n : Nat) (A : HA) : Nat := spa (h19 n A) (p19 n A) (ev n) (ev n) 1 0
def s_208 (n : Nat) (B : HA) : Nat := spa (h208 n B) (p208 n B) (ev n) (ev n) 1 0
section SPL
variable {sc : a_Sc} {fd : Nat} {M : a_Mm} {A B : HA} {Q : Option Value → a_Hp → Prop} {n : Nat}
theorem d_19 (r : RC M 1 n A) (k : Q (some (.int (N (s_19 n A)))) (a_hp sc fd M)) : a_Ex 19 0 [some (.ref 0), none, none, none, none] [] (a_hp sc fd M) Q := by
  have n5 := r.n5
  have e5 := ev_le n5
  have L : ∀ d a c l4, a + d = ev n + 1 → 1 ≤ a → c ≤ (a - 1) * 31 → spa (h19 n A) (p19 n A) (ev n) d a c = s_19 n A → a_Ex 19 12 [some (.ref 0), some (.int (N c)), some (.int (N (ev n))), some (.int (N a)), l4] [] (a_hp sc fd M) Q := by
    intro d
    induction d with
    | zero =>
      intro a c l4 hd ha hc he
      refine x_iload_n i_19_12 rfl ?_
      refine x_iload_n i_19_13 rfl ?_
      refine x_igtN (by omega) (by omega) i_19_14 ⟨fun _ => ?_, fun q => absurd (by omega) q⟩
      refine x_iload_n i_19_74 rfl ?_
      refine x_iret i_19_75 rn_19 rfl ?_
      rw [← he] at k
      exact k
    | succ d ih =>
      intro a c l4 hd ha hc he
      refine x_iload_n i_19_12 rfl ?_
      refine x_iload_n i_19_13 rfl ?_
      refine x_igtN (by omega) (by omega) i_19_14 ⟨fun q => absurd q (by omega), fun _ => ?_⟩
      refine x_aload_n i_19_17 rfl ?_
      refine x_gr i_19_18 ob_0 gr_0_0.1 gr_0_0.2 (rt_0_0 _) ?_
      refine x_iload_n i_19_21 rfl ?_
      refine x_vh (r := []) (lj := [some _, some _, none]) i_19_22 w_88 hb1.ob [_] rfl rfl (Nat.le_of_ble_eq_true rfl) (Nat.le_of_ble_eq_true rfl) rfl ?_
      refine c_88 hb1 r (by omega) (fun q8 => rt_i ?_)
      have st : ∀ c' l4', c' ≤ a * 31 → spa (h19 n A) (p19 n A) (ev n) d (a + 1) c' = s_19 n A → a_Ex 19 68 [some (.ref 0), some (.int (N c')), some (.int (N (ev n))), some (.int (N a)), l4'] [] (a_hp sc fd M) Q := fun c' l4' h1 h2 => by
        refine n_iinc 1 i_19_68 rfl rfl rfl rfl ?_
        refine x_goto i_19_71 ?_
        exact ih (a + 1) c' l4' (by omega) (by omega) (by simpa using h1) h2
      have ue : spa (h19 n A) (p19 n A) (ev n) (d + 1) a c = spa (h19 n A) (p19 n A) (ev n) d (a + 1) (if h19 n A a = true then spb (p19 n A) a (ev n) 1 c else c) := rfl
      refine x_zneN (by omega) i_19_25 ⟨fun g => ?_, fun g => ?_⟩
      · rw [ue, if_pos (show h19 n A a = true from decide_eq_true g)] at he
        have I : ∀ d' b c', b + d' = ev n + 1 → 1 ≤ b → c' ≤ (a - 1) * 31 + (b - 1) → spb (p19 n A) a d' b c' = spb (p19 n A) a (ev n) 1 c → a_Ex 19 34 [some (.ref 0), some (.int (N c')), some (.int (N (ev n))), some (.int (N a)), some (.int (N b))] [] (a_hp sc fd M) Q := by
          intro d'
          induction d' with
          | zero =>
            intro b c' hd' hb hc' he'
            refine x_iload i_19_34 rfl ?_
            refine x_iload_n i_19_36 rfl ?_
            refine x_igtN (by omega) (by omega) i_19_37 ⟨fun _ => ?_, fun q => absurd (by omega) q⟩
            refine st c' _ (by omega) ?_
            rw [← he, ← he']
            rfl
          | succ d' ih' =>
            intro b c' hd' hb hc' he'
            have ve : spb (p19 n A) a (d' + 1) b c' = spb (p19 n A) a d' (b + 1) (c' + if p19 n A a b = true then 1 else 0) := rfl
            refine x_iload i_19_34 rfl ?_
            refine x_iload_n i_19_36 rfl ?_
            refine x_igtN (by omega) (by omega) i_19_37 ⟨fun q => absurd q (by omega), fun _ => ?_⟩
            have ab : a &&& b ≤ a := Nat.and_le_left
            refine x_iload_n i_19_40 rfl ?_
            refine x_iload i_19_41 rfl ?_
            refine x_iandN i_19_43 ?_
            have no : p19 n A a b = false → a_Ex 19 62 [some (.ref 0), some (.int (N c')), some (.int (N (ev n))), some (.int (N a)), some (.int (N b))] [] (a_hp sc fd M) Q := fun hp => by
              rw [ve, hp, if_neg (by decide)] at he'
              refine n_iinc 1 i_19_62 rfl rfl rfl rfl ?_
              refine x_goto i_19_65 ?_
              exact ih' (b + 1) c' (by omega) (by omega) (by omega) he'
            refine x_zneN (by omega) i_19_44 ⟨fun g1 => no (decide_eq_false (fun q => g1 q.1)), fun g1 => ?_⟩
            refine x_aload_n i_19_47 rfl ?_
            refine x_gr i_19_48 ob_0 gr_0_0.1 gr_0_0.2 (rt_0_0 _) ?_
            refine x_iload i_19_51 rfl ?_
            refine x_vh (r := []) (lj := [some _, some _, none]) i_19_53 w_89 hb1.ob [_] rfl rfl (Nat.le_of_ble_eq_true rfl) (Nat.le_of_ble_eq_true rfl) rfl ?_
            refine c_89 hb1 r (by omega) (fun q9 => rt_i ?_)
            refine x_zeqN (by omega) i_19_56 ⟨fun g2 => no (decide_eq_false (fun q => q.2 g2)), fun g2 => ?_⟩
            rw [ve, if_pos (show p19 n A a b = true from decide_eq_true ⟨g1, g2⟩)] at he'
            refine n_iinc 1 i_19_59 rfl rfl rfl rfl ?_
            refine n_iinc 1 i_19_62 rfl rfl rfl rfl ?_
            refine x_goto i_19_65 ?_
            exact ih' (b + 1) (c' + 1) (by omega) (by omega) (by omega) he'
        refine n_iconst 1 i_19_31 rfl ?_
        refine x_istore i_19_32 rfl rfl ?_
        exact I (ev n) 1 c (by omega) (by omega) (by omega) rfl
      · rw [ue, if_neg (show ¬ h19 n A a = true from fun q => of_decide_eq_true q g)] at he
        refine x_goto i_19_28 ?_
        exact st c l4 (by omega) he
  refine n_iconst 0 i_19_0 rfl ?_
  refine x_istore_n i_19_1 rfl rfl ?_
  refine x_aload_n i_19_2 rfl ?_
  refine x_gr i_19_3 ob_0 gr_0_0.1 gr_0_0.2 (rt_0_0 _) ?_
  refine x_vh (r := []) (lj := [some _]) i_19_6 w_47 hb1.ob [] rfl rfl (Nat.le_of_ble_eq_true rfl) (Nat.le_of_ble_eq_true rfl) rfl ?_
  refine c_47 hb1 r (fun _ => rt_i ?_)
  refine x_istore_n i_19_9 rfl rfl ?_
  refine n_iconst 1 i_19_10 rfl ?_
  refine x_istore_n i_19_11 rfl rfl ?_
  exact L (ev n) 1 0 none (by omega) (by omega) (by omega) rfl
theorem e_208 (r : RM M n B) (k : ∀ M', RM M' n (a_up B 9 0 0) → FM M M' → Q (some (.int (N (s_208 n (a_up B 9 0 0))))) (a_hp sc fd M')) : a_Ex 208 0 [some (.ref 170), none, none, none] [] (a_hp sc fd M) Q := by
  have n5 := r.n5
  have e5 := ev_le n5
  refine x_aload_n i_208_0 rfl ?_
  refine n_iconst 0 i_208_1 rfl ?_
  refine n_pM i_208_2 r pf_8_0 (by omega) (fun M1 r1 f1 => ?_)
  have k := k M1 r1 f1
  generalize a_up B 9 0 0 = B' at r1 k
  have L : ∀ d a c l4, a + d = ev n + 1 → 1 ≤ a → c ≤ (a - 1) * 31 → spa (h208 n B') (p208 n B') (ev n) d a c = s_208 n B' → a_Ex 208 9 [some (.ref 170), some (.int (N c)), some (.int (N a)), l4] [] (a_hp sc fd M1) Q := by
    intro d
    induction d with
    | zero =>
      intro a c l4 hd ha hc he
      refine x_iload_n i_208_9 rfl ?_
      refine x_aload_n i_208_10 rfl ?_
      refine x_vh (r := [_]) (lj := [some _]) i_208_11 w_159 ob_170 [] rfl rfl (Nat.le_of_ble_eq_true rfl) (Nat.le_of_ble_eq_true rfl) rfl ?_
      refine c_159 r1 (fun _ => rt_i ?_)
      refine x_igtN (by omega) (by omega) i_208_14 ⟨fun _ => ?_, fun q => absurd (by omega) q⟩
      refine x_iload_n i_208_73 rfl ?_
      refine x_iret i_208_74 rn_208 rfl ?_
      rw [← he] at k
      exact k
    | succ d ih =>
      intro a c l4 hd ha hc he
      refine x_iload_n i_208_9 rfl ?_
      refine x_aload_n i_208_10 rfl ?_
      refine x_vh (r := [_]) (lj := [some _]) i_208_11 w_159 ob_170 [] rfl rfl (Nat.le_of_ble_eq_true rfl) (Nat.le_of_ble_eq_true rfl) rfl ?_
      refine c_159 r1 (fun _ => rt_i ?_)
      refine x_igtN (by omega) (by omega) i_208_14 ⟨fun q => absurd q (by omega), fun _ => ?_⟩
      refine x_aload_n i_208_17 rfl ?_
      refine x_iload_n i_208_18 rfl ?_
      refine x_vh (r := []) (lj := [some _, some _, none]) i_208_19 w_209 ob_170 [_] rfl rfl (Nat.le_of_ble_eq_true rfl) (Nat.le_of_ble_eq_true rfl) rfl ?_
      refine c_209 r1 (by omega) (fun q8 => rt_i ?_)
      have st : ∀ c' l4', c' ≤ a * 31 → spa (h208 n B') (p208 n B') (ev n) d (a + 1) c' = s_208 n B' → a_Ex 208 67 [some (.ref 170), some (.int (N c')), some (.int (N a)), l4'] [] (a_hp sc fd M1) Q := fun c' l4' h1 h2 => by
        refine n_iinc 1 i_208_67 rfl rfl rfl rfl ?_
        refine x_goto i_208_70 ?_
        exact ih (a + 1) c' l4' (by omega) (by omega) (by simpa using h1) h2
      have ue : spa (h208 n B') (p208 n B') (ev n) (d + 1) a c = spa (h208 n B') (p208 n B') (ev n) d (a + 1) (if h208 n B' a = true then spb (p208 n B') a (ev n) 1 c else c) := rfl
      refine n_iconst 1 i_208_22 rfl ?_
      refine n_ieqU (by omega) (by omega) i_208_23 ⟨fun g => ?_, fun g => ?_⟩
      · rw [ue, if_pos (show h208 n B' a = true from decide_eq_true g)] at he
        have I : ∀ d' b c', b + d' = ev n + 1 → 1 ≤ b → c' ≤ (a - 1) * 31 + (b - 1) → spb (p208 n B') a d' b c' = spb (p208 n B') a (ev n) 1 c → a_Ex 208 31 [some (.ref 170), some (.int (N c')), some (.int (N a)), some (.int (N b))] [] (a_hp sc fd M1) Q := by
          intro d'
          induction d' with
          | zero =>
            intro b c' hd' hb hc' he'
            refine x_iload_n i_208_31 rfl ?_
            refine x_aload_n i_208_32 rfl ?_
            refine x_vh (r := [_]) (lj := [some _]) i_208_33 w_159 ob_170 [] rfl rfl (Nat.le_of_ble_eq_true rfl) (Nat.le_of_ble_eq_true rfl) rfl ?_
            refine c_159 r1 (fun _ => rt_i ?_)
            refine x_igtN (by omega) (by omega) i_208_36 ⟨fun _ => ?_, fun q => absurd (by omega) q⟩
            refine st c' _ (by omega) ?_
            rw [← he, ← he']
            rfl
          | succ d' ih' =>
            intro b c' hd' hb hc' he'
            have ve : spb (p208 n B') a (d' + 1) b c' = spb (p208 n B') a d' (b + 1) (c' + if p208 n B' a b = true then 1 else 0) := rfl
            refine x_iload_n i_208_31 rfl ?_
            refine x_aload_n i_208_32 rfl ?_
            refine x_vh (r := [_]) (lj := [some _]) i_208_33 w_159 ob_170 [] rfl rfl (Nat.le_of_ble_eq_true rfl) (Nat.le_of_ble_eq_true rfl) rfl ?_
            refine c_159 r1 (fun _ => rt_i ?_)
            refine x_igtN (by omega) (by omega) i_208_36 ⟨fun q => absurd q (by omega), fun _ => ?_⟩
            have ab : a &&& b ≤ a := Nat.and_le_left
            refine x_iload_n i_208_39 rfl ?_
            refine x_iload_n i_208_40 rfl ?_
            refine x_iload_n i_208_41 rfl ?_
            refine x_iandN i_208_42 ?_
            have no : p208 n B' a b = false → a_Ex 208 58 [some (.ref 170), some (.int (N c')), some (.int (N a)), some (.int (N b))] [.int (N c')] (a_hp sc fd M1) Q := fun hp => by
              rw [ve, hp, if_neg (by decide)] at he'
              refine n_iconst 0 i_208_58 rfl ?_
              refine x_iaddN i_208_59 ?_
              refine x_istore_n i_208_60 rfl rfl ?_
              refine n_iinc 1 i_208_61 rfl rfl rfl rfl ?_
              refine x_goto i_208_64 ?_
              exact ih' (b + 1) c' (by omega) (by omega) (by omega) he'
            refine x_zneN (by omega) i_208_43 ⟨fun g1 => no (decide_eq_false (fun q => g1 q.1)), fun g1 => ?_⟩
            refine x_aload_n i_208_46 rfl ?_
            refine x_iload_n i_208_47 rfl ?_
            refine x_vh (r := [_]) (lj := [some _, some _, none]) i_208_48 w_209 ob_170 [_] rfl rfl (Nat.le_of_ble_eq_true rfl) (Nat.le_of_ble_eq_true rfl) rfl ?_
            refine c_209 r1 (by omega) (fun q9 => rt_i ?_)
            refine n_zneU (by omega) i_208_51 ⟨fun g2 => no (decide_eq_false (fun q => g2 q.2)), fun g2 => ?_⟩
            rw [ve, if_pos (show p208 n B' a b = true from decide_eq_true ⟨g1, g2⟩)] at he'
            refine n_iconst 1 i_208_54 rfl ?_
            refine x_goto i_208_55 ?_
            refine x_iaddN i_208_59 ?_
            refine x_istore_n i_208_60 rfl rfl ?_
            refine n_iinc 1 i_208_61 rfl rfl rfl rfl ?_
            refine x_goto i_208_64 ?_
            exact ih' (b + 1) (c' + 1) (by omega) (by omega) (by omega) he'
        refine n_iconst 1 i_208_29 rfl ?_
        refine x_istore_n i_208_30 rfl rfl ?_
        exact I (ev n) 1 c (by omega) (by omega) (by omega) rfl
      · rw [ue, if_neg (show ¬ h208 n B' a = true from fun q => g (of_decide_eq_true q))] at he
        refine x_goto i_208_26 ?_
        exact st c l4 (by omega) he
  refine n_iconst 0 i_208_5 rfl ?_
  refine x_istore_n i_208_6 rfl rfl ?_
  refine n_iconst 1 i_208_7 rfl ?_
  refine x_istore_n i_208_8 rfl rfl ?_
  exact L (ev n) 1 0 none (by omega) (by omega) (by omega) rfl
end SPL
theorem s189_v {n : Nat} {B : HA} (x y : Nat) : s_189 n B x y = 0 ∨ s_189 n B x y = 1 ∨ s_189 n B x y = 2 ∨ s_189 n B x y = 3 ∨ s_189 n B x y = 4294967295 := by
  unfold s_189
  repeat' (first | exact Or.inl rfl | exact Or.inr (Or.inl rfl) | exact Or.inr (Or.inr (Or.inl rfl)) | exact Or.inr (Or.inr (Or.inr (Or.inl rfl))) | exact Or.inr (Or.inr (Or.inr (Or.inr rfl))) | split)
theorem s189_d {n : Nat} {A B : HA} (e : EQ A B) (w : WN n A) {x : Nat} (hx : x < 2 ^ n) (h0 : ¬ x = 0) (h : ¬ s_173 n B x = 0) : s_189 n B x x = if s_190 n B x 4 = 0 then 0 else 1 := by
  have h5 := w.1.2
  unfold s_189
  by_cases c4 : s_190 n B x 4 = 0
  · rw [if_pos c4, if_pos c4]
    have c5 : ¬ s_190 n B x 5 = 0 := by
      intro c5
      rw [x190 e h5] at c4 c5
      rw [x76 e w hx] at h
      unfold s_76 at h
      have h15 : s_55 n A x &&& 15 = 0 := by
        by_cases q : s_55 n A x &&& 15 = 0
        · exact q
        · rw [if_neg q] at h; exact absurd rfl h
      rw [s55_0 h5] at h15
      refine h0 (Nat.eq_of_testBit_eq fun s => ?_)
      rw [Nat.zero_testBit]
      by_cases hs : x.testBit s = true
      · have hn : s < n := by
          rcases Nat.lt_or_ge s n with c | c
          · exact c
          · have := Nat.testBit_lt_two_pow (Nat.lt_of_lt_of_le hx (Nat.pow_le_pow_right (n := 2) (by omega) c))
            rw [this] at hs
            exact absurd hs (by simp)
        rcases (tb15 _ (w.b0 (by omega))).mp (h15 s hn hs) with c | c
        · exact absurd c (c4 s hn hs)
        · exact absurd c (c5 s hn hs)
      · exact Bool.eq_false_iff.mpr hs
    rw [if_neg c5]
  · rw [if_neg c4, if_neg c4]
theorem x209 {n : Nat} {A B : HA} (e : EQ A B) (w : WN n A) {x : Nat} (hx : x < 2 ^ n) (h0 : ¬ x = 0) : (s_209 n B x = 1 ↔ ¬ s_88 n A x = 0) ∧ (s_209 n B x = 0 ↔ ¬ s_89 n A x = 0) := by
  unfold s_88 s_89
  rw [← x77 e w]
  unfold s_209
  by_cases h : s_173 n B x = 0
  · rw [if_pos h]
    rcases s189_v (n := n) (B := B) x x with c | c | c | c | c <;> rw [c] <;> decide
  · rw [if_neg h, s189_d e w hx h0 h]
    by_cases c4 : s_190 n B x 4 = 0
    · rw [if_pos c4]; decide
    · rw [if_neg c4]; decide
theorem x19 {n : Nat} {A B : HA} (e : EQ A B) (w : WN n A) : s_19 n A = s_208 n B := by
  unfold s_19 s_208
  refine spa_eq (fun a h1 h2 => ?_) (fun a b h1 h2 => ?_) _ _ _ (by omega) (by omega)
  · unfold h19 h208
    rw [decide_eq_decide]
    exact (x209 e w (ev_lt' h2) (by omega)).1.symm
  · unfold p19 p208
    rw [decide_eq_decide]
    have := (x209 e w (ev_lt' h2) (by omega)).2
    exact ⟨fun q => ⟨q.1, this.mpr q.2⟩, fun q => ⟨q.1, this.mp q.2⟩⟩
