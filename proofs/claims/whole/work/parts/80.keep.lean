/-! acts keep the ranges; none but asking makes a site ready -/
theorem RC.ex {n : Nat} {A : HA} (w : WN n A) : ∃ M, RC M 1 n A := by
  refine ⟨fun o k => if o = 1 then (if k = 0 then N n else N (A 6 k)) else if o = 8 then (if k = 2 then N (A 7 0) else N 0) else if o = 9 then N (A 8 k) else N (A (o - 2) k), w, rfl, fun k hk => ?_, fun j hj s hs => ?_, 0, by omega, rfl, rfl, fun j hj => ?_⟩
  · show (if 1 = 1 then (if k = 0 then N n else N (A 6 k)) else _) = _
    rw [if_pos rfl, if_neg (by omega)]
  · show (if 1 + 1 + j = 1 then _ else if 1 + 1 + j = 8 then _ else if 1 + 1 + j = 9 then _ else N (A (1 + 1 + j - 2) s)) = _
    rw [if_neg (by omega), if_neg (by omega), if_neg (by omega), show 1 + 1 + j - 2 = j by omega]
  · have := w.2.2.2.1
    show N (A 8 ((0 + j) % 60)) = _
    rw [show (0 + j) % 60 = j by omega]
section WKP
variable {n k l m : Nat} {A : HA}
theorem wn57 (w : WN n A) (hk : k < 4294967296) : WN n (s_57 n A k).2 := by
  obtain ⟨M, r⟩ := RC.ex w
  obtain ⟨f, v, h', -, h⟩ := c_57 (sc := (0, fun _ => 0)) (fd := 148) (Q := fun _ _ => WN n (s_57 n A k).2) hb1 r (by omega : k ≤ 4294967295) (fun _ M' r' _ => r'.w)
  exact h
theorem wn64 (w : WN n A) (hk : k < 4294967296) : WN n (s_64 n A k).2 := by
  obtain ⟨M, r⟩ := RC.ex w
  obtain ⟨f, v, h', -, h⟩ := c_64 (sc := (0, fun _ => 0)) (fd := 148) (Q := fun _ _ => WN n (s_64 n A k).2) hb1 r (by omega : k ≤ 4294967295) (fun _ M' r' _ => r'.w)
  exact h
theorem wn66 (w : WN n A) (hk : k < 4294967296) : WN n (s_66 n A k).2 := by
  obtain ⟨M, r⟩ := RC.ex w
  obtain ⟨f, v, h', -, h⟩ := c_66 (sc := (0, fun _ => 0)) (fd := 148) (Q := fun _ _ => WN n (s_66 n A k).2) hb1 r (by omega : k ≤ 4294967295) (fun _ M' r' _ => r'.w)
  exact h
theorem wn67 (w : WN n A) (hk : k < 4294967296) : WN n (s_67 n A k).2 := by
  obtain ⟨M, r⟩ := RC.ex w
  obtain ⟨f, v, h', -, h⟩ := c_67 (sc := (0, fun _ => 0)) (fd := 148) (Q := fun _ _ => WN n (s_67 n A k).2) hb1 r (by omega : k ≤ 4294967295) (fun _ M' r' _ => r'.w)
  exact h
theorem wn70 (w : WN n A) (hk : k < 4294967296) : WN n (s_70 n A k).2 := by
  obtain ⟨M, r⟩ := RC.ex w
  obtain ⟨f, v, h', -, h⟩ := c_70 (sc := (0, fun _ => 0)) (fd := 148) (Q := fun _ _ => WN n (s_70 n A k).2) hb1 r (by omega : k ≤ 4294967295) (fun _ M' r' _ => r'.w)
  exact h
theorem wn80 (w : WN n A) (hk : k < 4294967296) : WN n (s_80 n A k).2 := by
  obtain ⟨M, r⟩ := RC.ex w
  obtain ⟨f, v, h', -, h⟩ := c_80 (sc := (0, fun _ => 0)) (fd := 148) (Q := fun _ _ => WN n (s_80 n A k).2) hb1 r (by omega : k ≤ 4294967295) (fun _ M' r' _ => r'.w)
  exact h
theorem wn82 (w : WN n A) (hk : k < 4294967296) : WN n (s_82 n A k).2 := by
  obtain ⟨M, r⟩ := RC.ex w
  obtain ⟨f, v, h', -, h⟩ := c_82 (sc := (0, fun _ => 0)) (fd := 148) (Q := fun _ _ => WN n (s_82 n A k).2) hb1 r (by omega : k ≤ 4294967295) (fun _ M' r' _ => r'.w)
  exact h
theorem wn71 (w : WN n A) (hk : k < 4294967296) : WN n (s71 n A k).2 := by
  obtain ⟨M, r⟩ := RC.ex w
  obtain ⟨f, v, h', -, h⟩ := c_71 (sc := (0, fun _ => 0)) (fd := 148) (Q := fun _ _ => WN n (s71 n A k).2) hb1 r (by omega : k ≤ 4294967295) (fun _ M' r' _ => r'.w)
  exact h
theorem wn72 (w : WN n A) (hl : l < 4294967296) (hk : k < 4294967296) : WN n (s_72 n A l k).2 := by
  obtain ⟨M, r⟩ := RC.ex w
  obtain ⟨f, v, h', -, h⟩ := c_72 (sc := (0, fun _ => 0)) (fd := 148) (Q := fun _ _ => WN n (s_72 n A l k).2) hb1 r (by omega : l ≤ 4294967295) (by omega : k ≤ 4294967295) (fun _ M' r' _ => r'.w)
  exact h
theorem wn52 (w : WN n A) (hl : l < 4294967296) (hk : k < 4294967296) : WN n (s_52 n A l k).2 := by
  obtain ⟨M, r⟩ := RC.ex w
  obtain ⟨f, v, h', -, h⟩ := c_52 (sc := (0, fun _ => 0)) (fd := 148) (Q := fun _ _ => WN n (s_52 n A l k).2) hb1 r (by omega : l ≤ 4294967295) (by omega : k ≤ 4294967295) (fun _ M' r' _ => r'.w)
  exact h
end WKP
def NR (n : Nat) (A : HA) : Prop := A 6 2 = 0 → ∀ s, s < n → ¬ A 0 s = 1
/-- no new beginning, no new ready one -/
def KN (A B : HA) : Prop := (B 6 2 = 0 → A 6 2 = 0) ∧ ∀ s, B 0 s = 1 → A 0 s = 1
theorem KN.refl (A : HA) : KN A A := ⟨id, fun _ => id⟩
theorem KN.trans {A B C : HA} (h : KN A B) (g : KN B C) : KN A C := ⟨fun q => h.1 (g.1 q), fun s q => h.2 s (g.2 s q)⟩
theorem KN.nr {n : Nat} {A B : HA} (h : KN A B) (r : NR n A) : NR n B := fun q s hs c => r (h.1 q) s hs (h.2 s c)
theorem KN.up {A : HA} {w k v : Nat} (h0 : ¬ w = 0) (h6 : w = 6 → k = 2 → ¬ v = 0) : KN A (a_up A w k v) := by
  refine ⟨fun q => ?_, fun s q => ?_⟩
  · rw [a_up_def] at q
    by_cases c : 6 = w ∧ 2 = k
    · rw [if_pos c] at q; exact absurd q (h6 c.1.symm c.2.symm)
    · rw [if_neg c] at q; exact q
  · rw [a_up_o (fun e => h0 e.symm)] at q; exact q
theorem KN.bec {A : HA} {s v : Nat} (hv : ¬ v = 1) : KN A (bec A s v) := by
  refine ⟨fun q => ?_, fun t q => ?_⟩
  · rw [bec_o (by omega) (by omega) (by omega)] at q; exact q
  · by_cases c : t = s
    · subst c; rw [bec_s] at q; exact absurd q hv
    · rw [bec_n c] at q; exact q
theorem KN.k62 {n : Nat} {A : HA} {s to m : Nat} (ht : ¬ to = 1) : KN A (s_62 n A s to m) := by
  rw [s62_bec]
  split
  · rw [tv_n ht]; exact KN.bec ht
  · exact KN.refl A
theorem KN.k63 {n : Nat} (h5 : n ≤ 5) (A : HA) (s : Nat) : KN A (s_63 n A s) := by
  refine ⟨fun q => ?_, fun t q => ?_⟩
  · by_cases c : s = 0
    · subst c
      rcases s63_62 n A with e | e
      · omega
      · omega
    · have L : ∀ d (A : HA) t, s_63_9 n d A s t 6 2 = A 6 2 := by
        intro d
        induction d with
        | zero => intro A t; rfl
        | succ d ih =>
          intro A t
          unfold s_63_9
          split
          · first | rfl | (rw [if_neg c])
          · split
            · split
              · rw [ih, a_up_o (by omega)]
              · exact ih _ _
            · exact ih _ _
      unfold s_63 at q
      rw [L, a_up_o (by omega)] at q
      exact q
  · rw [s63_o A (by omega) (by omega) (by omega)] at q; exact q
theorem KN.k81 {n : Nat} (A : HA) (s : Nat) : KN A (s_81 n A s) := ⟨fun q => by rw [s81_o A (by omega) (by omega)] at q; exact q, fun t q => by rw [s81_o A (by omega) (by omega)] at q; exact q⟩
theorem KN.k61 {n fr set to m : Nat} (h5 : n ≤ 5) (ht : ¬ to = 1) (A : HA) : KN A (s_61 n A fr set to m).2 := by
  have L : ∀ d (A : HA) t, KN A (s_61_25 n d A fr set to m t).2 := by
    intro d
    induction d with
    | zero => intro A t; exact KN.refl A
    | succ d ih =>
      intro A t
      have u : KN A (a_up A 6 13 (A 6 13 + 1)) := KN.up (by omega) (fun _ => by omega)
      have v : KN A (s_62 n (a_up A 6 13 (A 6 13 + 1)) t to m) := u.trans (KN.k62 ht)
      unfold s_61_25
      repeat' (first | exact KN.refl A | exact v.trans (KN.k63 h5 _ _) | exact u.trans (KN.k63 h5 _ _) | exact ih _ _ | exact v.trans (ih _ _) | exact u.trans (ih _ _) | split)
  unfold s_61
  split
  · exact (KN.k62 ht).trans (KN.k63 h5 _ _)
  · exact (KN.k62 ht).trans (L 6 _ 0)
theorem KN.st {A : HA} (k : Nat) : KN A (a_up (a_up A 6 12 k) 6 13 0) := (KN.up (by omega) (fun _ => by omega)).trans (KN.up (by omega) (fun _ => by omega))
theorem KN.tlk {A : HA} (fr : Nat) : KN A (tl fr A) := by
  unfold tl
  split
  · exact KN.up (by omega) (fun _ _ => by omega)
  · exact KN.refl A
section NRK
variable {n k l m : Nat} {A : HA}
theorem kn79 (h5 : n ≤ 5) {fr y v : Nat} (hv : v ≤ 3) : KN A (s_79 n A fr y v k) := by
  have h4 : ¬ 4 = 1 := by omega
  rw [s79_co n A fr y v k hv]
  have co1 : ∀ (B : HA) to m la, ¬ to = 1 → ¬ la = 1 → KN B (co n B fr y to m la) := fun B to m la h1 h2 => by
    unfold co
    split
    · exact (KN.k61 h5 h1 B).trans ((KN.k61 h5 h2 _).trans (KN.tlk fr))
    · exact (KN.k61 h5 h1 B).trans (KN.tlk fr)
  split
  · exact (KN.st k).trans (co1 _ _ _ _ (by omega) (by omega))
  · split
    · exact (KN.st k).trans (co1 _ _ _ _ (by omega) (by omega))
    · exact (KN.st k).trans ((KN.k61 h5 (by split <;> omega) _).trans (KN.tlk fr))
theorem nr57 (h5 : n ≤ 5) (r : NR n A) : NR n (s_57 n A k).2 := by
  have h3 : ∀ X : HA, ¬ (a_up X 6 2 3) 6 2 = 0 := fun X => by rw [a_up_def, if_pos ⟨rfl, rfl⟩]; omega
  have h1 : ∀ X : HA, ¬ (a_up X 6 2 1) 6 2 = 0 := fun X => by rw [a_up_def, if_pos ⟨rfl, rfl⟩]; omega
  have no : ∀ X : HA, ¬ X 6 2 = 0 → NR n X := fun X h q => absurd q h
  unfold s_57
  split
  · exact r
  · split
    · split
      · split
        · split
          · split
            · split
              · exact no (a_up _ 6 2 1) (h1 _)
              · exact no (a_up _ 6 2 3) (h3 _)
            · rename_i c
              refine no _ ?_
              have e : ∀ p : Nat × HA, p = s_61 n (a_up (a_up A 6 12 k) 6 13 0) 0 (ev n) 1 1 → ¬ p.1 = 0 → p.1 = 1 := fun p hp hc => by
                have L : ∀ d (A : HA) t, (s_61_25 n d A 0 (ev n) 1 1 t).1 = 0 ∨ (s_61_25 n d A 0 (ev n) 1 1 t).1 = 1 := by
                  intro d
                  induction d with
                  | zero => intro A t; exact Or.inl rfl
                  | succ d ih =>
                    intro A t
                    unfold s_61_25
                    repeat' (first | exact Or.inl rfl | exact Or.inr rfl | exact ih _ _ | split)
                subst hp
                revert hc
                unfold s_61
                split
                · exact fun _ => rfl
                · exact fun hc => (L 6 _ 0).resolve_left hc
              have := s61_62 (n := n) (set := ev n) (to := 1) (m := 1) h5 (a_up (a_up A 6 12 k) 6 13 0) (e _ rfl c)
              rw [this]; omega
          · exact no (a_up _ 6 2 3) (h3 _)
        · exact r
      · exact r
    · exact r
theorem nr64 (h5 : n ≤ 5) (r : NR n A) : NR n (s_64 n A k).2 := by
  have K := (KN.st k).trans (KN.k61 (n := n) (fr := 0) (set := ev n) (to := 2) (m := 2) h5 (by omega) (a_up (a_up A 6 12 k) 6 13 0))
  unfold s_64
  repeat' (first | exact r | exact K.nr r | exact (K.trans (KN.up (by omega) (fun _ _ => by omega))).nr r | split)
theorem nr66 (h5 : n ≤ 5) (r : NR n A) : NR n (s_66 n A k).2 := by
  have K := (KN.st k).trans (KN.k61 (n := n) (fr := 0) (set := ev n) (to := 4) (m := 31) h5 (by omega) (a_up (a_up A 6 12 k) 6 13 0))
  unfold s_66
  repeat' (first | exact r | exact (K.trans (KN.up (by omega) (fun _ _ => by omega))).nr r | split)
theorem nr67 (h5 : n ≤ 5) (r : NR n A) : NR n (s_67 n A l).2 := by
  unfold s_67
  repeat' (first | exact r | exact (KN.k63 h5 A l).nr r | split)
theorem nr70 (r : NR n A) : NR n (s_70 n A l).2 := by
  unfold s_70
  repeat' (first | exact r | exact (KN.up (by omega) (fun _ => by omega)).nr r | split)
theorem nr52 (r : NR n A) : NR n (s_52 n A l m).2 := by
  unfold s_52
  repeat' (first | exact r | exact (KN.up (by omega) (fun _ => by omega)).nr r | split)
theorem nr54 (r : NR n A) : NR n (s_54 n A l m).2 := by
  have K : KN A (s_48 n (a_up A 4 l m)) := (KN.up (by omega) (fun _ => by omega)).trans ((KN.up (by omega) (fun _ => by omega)).trans (KN.up (by omega) (fun _ => by omega)))
  unfold s_54
  repeat' (first | exact r | exact K.nr r | split)
theorem nr56 (r : NR n A) : NR n (s_56 n A l m).2 := by
  have K : KN A (a_up (a_up A 6 3 l) 6 4 m) := (KN.up (by omega) (fun _ => by omega)).trans (KN.up (by omega) (fun _ => by omega))
  unfold s_56
  repeat' (first | exact r | exact K.nr r | split)
theorem knpl : ∀ k (A : HA) x g, KN A (pl k A x g).2
  | 0, A, _, _ => KN.refl A
  | k + 1, A, x, g => (KN.up (by omega) (fun _ => by omega)).trans (knpl k _ _ _)
theorem nr71 (r : NR n A) : NR n (s71 n A l).2 := by
  unfold s71
  split
  · exact (knpl n A l 0).nr r
  · exact r
theorem nr72 (h5 : n ≤ 5) (r : NR n A) : NR n (s_72 n A l k).2 := by
  unfold s_72
  have hv := s77_le n A (s_69 n A 1 &&& s_74 n A (A 2 l)) (s_69 n A 1 &&& s_74 n A (A 2 l))
  split
  · exact r
  · split
    · exact r
    · split
      · exact r
      · split
        · split
          · split
            · split
              · exact r
              · exact (kn79 h5 (by omega)).nr r
            · exact r
          · exact r
        · exact r
theorem nr80 (h5 : n ≤ 5) (r : NR n A) : NR n (s_80 n A l).2 := by
  have K := (KN.k81 (n := n) A l)
  have K5 : KN A (s_81 n (s_62 n A l 5 63) l) := (KN.k62 (by omega)).trans (KN.k81 _ l)
  have K4 : KN A (s_81 n (s_62 n A l 4 63) l) := (KN.k62 (by omega)).trans (KN.k81 _ l)
  unfold s_80
  repeat' (first | exact r | exact K.nr r | exact K5.nr r | exact K4.nr r | split)
theorem nr82 (h5 : n ≤ 5) (r : NR n A) : NR n (s_82 n A k).2 := by
  have L : ∀ T J d (A : HA) t, A 6 1 = 0 → KN A (s_82_85 n d A k T J t).2 := by
    intro T J d
    induction d with
    | zero => intro A t _; exact KN.refl A
    | succ d ih =>
      intro A t f
      unfold s_82_85
      split
      · split
        · exact kn79 h5 (s77_f n A J T f)
        · exact KN.refl A
      · split
        · exact (KN.k81 A t).trans (ih _ _ (by rw [s81_f1]; exact f))
        · exact ih _ _ f
  unfold s_82
  split
  · exact r
  · split
    · rename_i c
      repeat' (first | exact r | exact (L _ _ 6 A 0 c).nr r | split)
    · exact r
theorem nropn {f : Nat} : NR n (opn n f A) := fun _ s _ => by show ¬ (0 : Nat) = 1; omega
end NRK
theorem NR.eq {n : Nat} {A B : HA} (e : EQ A B) (r : NR n A) : NR n B := fun q s hs => by
  rw [← e.a (by omega)]
  exact r (by rw [e.f (by omega)]; exact q) s hs
