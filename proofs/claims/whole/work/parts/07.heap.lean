section AHP
variable {p : Program} {l : Launch} {e : Env} {R : Room} {s : State} {m : MethodId} {args : Array Value} {below : List Frame} {meth : Method} {c : Code} {Q : State → Prop} {G : a_G} {n0 s0 : Nat} {h : a_Hp} {H : Heap} {locs : List Loc} {pc : Nat} {ls : Array Slot} {st : List Value} {sc : Nat × (Nat → Int32)} {i : Nat} {lc lc' : a_Lc} {pc' : Nat} {st' : List Value} {h' : a_Hp}
theorem a_cell_obj (G : a_G) {h : a_Hp} {o c n : Nat} (ho : h.1[o]? = some (10 + c, n)) : a_cell G h o = .inr (c, (List.range n).map (fun j => a_cv G (a_fv c j h o))) := by
  unfold a_cell
  rw [ho]
  dsimp only
  rw [if_neg (by omega), if_neg (by omega), if_neg (by omega), if_neg (by omega)]
  rw [show 10 + c - 10 = c by omega]
def a_cid (G : a_G) (k : Nat) : ClassId := if k = 0 then G.2.2.2.1 else if k = 1 then G.2.2.2.2.1 else if k = 2 then G.2.2.2.2.2.1 else G.2.2.2.2.2.2
theorem a_cell_num (G : a_G) {h : a_Hp} {o k n : Nat} (ho : h.1[o]? = some (k, n)) (hk : k < 3) : a_cell G h o = .inl (a_cid G k, n, .inl (h.2.2.1 o)) := by
  unfold a_cell a_cid
  rw [ho]
  dsimp only
  rcases (show k = 0 ∨ k = 1 ∨ k = 2 by omega) with rfl | rfl | rfl <;> rfl
theorem a_cell_arr (G : a_G) {h : a_Hp} {o n : Nat} (ho : h.1[o]? = some (3, n)) : a_cell G h o = .inl (G.2.2.2.2.2.2, n, .inr (.inr (.inr (.inr (fun j => (h.2.1 o j).map (a_ad G)))))) := by
  unfold a_cell
  rw [ho]
  rfl
theorem a_tys_at (G : a_G) {k : Nat} (hk : k < 3) : (a_tys G)[k]? = some (a_cid G k, a_tyk k) := by
  rcases (show k = 0 ∨ k = 1 ∨ k = 2 by omega) with rfl | rfl | rfl <;> rfl
theorem a_lt {h : a_Hp} {o : Nat} {q : Nat × Nat} (ho : h.1[o]? = some q) : o < h.1.length := (List.getElem?_eq_some_iff.mp ho).1
theorem a_rv_rf (G : a_G) (r : Option Nat) : va_rf (r.map (a_ad G)) = a_cv G (a_rv r) := by cases r <;> rfl
theorem a_evn {o : Nat} (h1 : o % 2 = 0) (h2 : a_CB ≤ o) (h3 : (o - a_CB) / 2 < 36) : ∃ k, k < 36 ∧ o = a_CB + 2 * k := by
  refine ⟨(o - a_CB) / 2, h3, ?_⟩
  simp only [a_CB] at h2 ⊢
  omega
theorem a_odn {o : Nat} (h1 : o % 2 = 1) (h2 : a_CB ≤ o) (h3 : (o - a_CB) / 2 < 36) : (o - a_CB) / 2 < 36 ∧ o = a_CB + (2 * ((o - a_CB) / 2) + 1) := by
  refine ⟨h3, ?_⟩
  simp only [a_CB] at h2 ⊢
  omega
theorem a_in_vp {x : Int32} {n : Nat} (h : a_in x n = true) : vp_in x n := by
  simp only [a_in, Bool.not_eq_true', Bool.or_eq_false_iff, decide_eq_false_iff_not] at h
  exact fun q => q.elim h.1 h.2
theorem a_s_getf (C : a_Cx p R s m args meth c G sc i) {x a b : Nat} {r : Nat × a_Lc × List Value × a_Hp} (hd : decode (a_bytes i) pc = .ok (.getfield x, 3)) (hq : (if a = 9 then a_key3 (a_own i) x a_sf = some b else a_key4 (a_own i) x a_fl = some (a, b))) (hs : a_getf a b (pc + 3) lc st h = some (.inl r))
    (HR : a_HR G h H) (HS : va_S (fun q => G.1 ≤ q) s.heap H locs) (HL : a_LR G lc ls (a_maxL i)) (kk : a_KK p l e R s m args below meth c Q G n0 s0 i r) : a_WW p l e R s m args below meth c Q G n0 s0 h H locs pc ls st := by
  obtain ⟨hx, hb, -, hown, hts, hK, -⟩ := C
  unfold a_getf at hs
  split at hs
  · rename_i o rest
    by_cases ha : a = 9
    · rw [if_pos ha] at hs hq
      split at hs
      · rename_i hc
        obtain ⟨h1, h2, h3⟩ := hc
        obtain ⟨k, hk36, hk⟩ := a_evn h1 h2 h3
        subst hk
        obtain ⟨-, g2, g3, -, -⟩ := hK.2.2.1 k hk36
        have hw := a_i_sf (a_e_sf _ (a_key3_mem hq))
        have e1 : ∀ y : Nat, a_cv G (.ref (a_CB + y)) = .ref (G.2.1 y) := fun y => by rw [a_cv_ref, a_ad_str]
        split at hs
        · rename_i hb0
          subst hb0
          obtain rfl := a_nx_inv hs
          have k1 := kk H locs ls HR HS HL
          unfold a_WW at k1 ⊢
          dsimp only at k1
          rw [List.map_cons, Nat.add_assoc, e1] at k1
          rw [List.map_cons, e1]
          exact vk_getf hx hb g3 HS hown (hts _ hw) (fun _ q => q) hd k1
        · rename_i hb0
          obtain rfl := a_nx_inv hs
          have k1 := kk H locs ls HR HS HL
          unfold a_WW at k1 ⊢
          rw [List.map_cons, e1]
          have hw' : Cond.fieldLink (a_cn (a_own i)) x "java/lang/String" "coder" "B" ∈ a_W := by
            have := hw
            unfold a_w_sf at this
            dsimp only at this
            rw [if_neg hb0] at this
            exact this
          exact vk_getf hx hb g2 HS hown (hts _ hw') (fun _ q => q) hd k1
      · cases hs
    · rw [if_neg ha] at hs hq
      split at hs
      · rename_i hc
        obtain ⟨h1, h2, h3, h4⟩ := hc
        obtain rfl := a_nx_inv hs
        have k1 := kk H locs ls HR HS HL
        unfold a_WW at k1 ⊢
        dsimp only at k1
        rw [List.map_cons] at k1
        rw [List.map_cons, a_cv_ref, a_ad_dyn G h1]
        have hw := a_i_fl (a_e_fl _ (a_key4_mem hq))
        refine va_get (own := a_cn (a_own i)) (ref := (a_T a b).1) hx hb hts (a_lays h4) hown hK.2.1 HR.2.1 o (a_wl_get G h (a_lt h2) |>.trans (by rw [a_cell_obj G h2])) (a_cls a h4) b h3 (hts _ hw) (fun _ q => q) (v := a_cv G (a_fv a b h o)) ?_ hd k1
        rw [List.getElem?_map, List.getElem?_range h3]
        rfl
      · cases hs
  · cases hs
theorem a_okH_up {h : a_Hp} {o k : Nat} {x : Int32} (hok : a_okH h) (hb : ∀ n, h.1[o]? = some (1, n) → fits .byte (.int x) = true) : a_okH (h.1, h.2.1, a_up h.2.2.1 o k x, h.2.2.2) := by
  refine ⟨hok.1, fun o' k' n' ho' => ⟨(hok.2 o' k' n' ho').1, fun h1 j => ?_⟩⟩
  show fits .byte (.int (a_up h.2.2.1 o k x o' j)) = true
  unfold a_up
  split
  · rename_i e1
    split
    · subst e1; subst h1
      exact hb n' ho'
    · exact (hok.2 o' k' n' ho').2 h1 j
  · exact (hok.2 o' k' n' ho').2 h1 j
theorem a_okH_up1 {h : a_Hp} {o k : Nat} {x : Option Nat} (hok : a_okH h) : a_okH (h.1, a_up h.2.1 o k x, h.2.2.1, h.2.2.2) := hok
theorem a_s_putf (C : a_Cx p R s m args meth c G sc i) {x a b : Nat} {r : Nat × a_Lc × List Value × a_Hp} (hd : decode (a_bytes i) pc = .ok (.putfield x, 3)) (hq : a_key4 (a_own i) x a_fl = some (a, b)) (hfi : (a_T a b).2.2.2 = false ∨ (a_nm i = "<init>" ∧ a_own i = a)) (hs : a_putf a b (pc + 3) lc st h = some (.inl r))
    (HR : a_HR G h H) (HS : va_S (fun q => G.1 ≤ q) s.heap H locs) (HL : a_LR G lc ls (a_maxL i)) (kk : a_KK p l e R s m args below meth c Q G n0 s0 i r) : a_WW p l e R s m args below meth c Q G n0 s0 h H locs pc ls st := by
  obtain ⟨hx, hb, -, hown, hts, hK, hnm, -⟩ := C
  have hw := a_i_fl (a_e_fl _ (a_key4_mem hq))
  have core : ∀ (o : Nat) (rest : List Value) (v : Value) (h' : a_Hp), o < a_CB → h.1[o]? = some (10 + a, a_fn a) → b < a_fn a → a < 9 → h'.1 = h.1 → a_okH h' → a_cv G (a_fv a b h' o) = a_cv G v → (∀ j, j ≠ b → a_fv a j h' o = a_fv a j h o) → (∀ j, j ≠ o → a_cell G h' j = a_cell G h j) →
      narrow (a_ty a b) (a_cv G v) = a_cv G v → fits (a_ty a b) (a_cv G v) = true → a_hs h' = a_hs h → a_KK p l e R s m args below meth c Q G n0 s0 i (pc + 3, lc, rest, h') → a_WW p l e R s m args below meth c Q G n0 s0 h H locs pc ls (v :: .ref o :: rest) := by
    intro o rest v h' h1 h2 h3 h4 e1 e2 e3 e4 e5 e6 e7 e8 k0
    have h2' : h'.1[o]? = some (10 + a, a_fn a) := by rw [e1]; exact h2
    have hset : (a_wl G h).set o (G.1 + o, .inr (a, ((List.range (a_fn a)).map (fun j => a_cv G (a_fv a j h o))).set b (a_cv G v))) = a_wl G h' := by
      refine a_wl_set G h h' (a_lt h2) e1 ?_ e5
      rw [a_cell_obj G h2', a_mapset (a_fn a) b _ (fun j => a_cv G (a_fv a j h' o)) (a_cv G v) e3 (fun j hj => by rw [e4 j hj])]
    have hk : ∀ (H1 : Heap) (locs1 : List Loc), H1.size = H.size → va_P G.2.2.1 a_cl ((a_wl G h).set o (G.1 + o, .inr (a, ((List.range (a_fn a)).map (fun j => a_cv G (a_fv a j h o))).set b (a_cv G v)))) H1 → va_S (fun q => G.1 ≤ q) s.heap H1 locs1 → W p l e R s m args below meth c H1 locs1 (h.1.length - n0) (a_hs h - s0) Q (F0 m (pc + 3) ls (rest.map (a_cv G))) := by
      intro H1 locs1 z hP hS1
      rw [hset] at hP
      have k1 := k0 H1 locs1 ls ⟨by rw [z, HR.1]; show _ = G.1 + h'.1.length; rw [e1], hP, e2⟩ hS1 HL
      unfold a_WW at k1
      dsimp only at k1
      rw [e1, e8] at k1
      exact k1
    have hsz : ∀ (H1 : Heap), va_P G.2.2.1 a_cl ((a_wl G h).set o (G.1 + o, .inr (a, ((List.range (a_fn a)).map (fun j => a_cv G (a_fv a j h o))).set b (a_cv G v)))) H1 → True := fun _ _ => trivial
    unfold a_WW
    rw [List.map_cons, List.map_cons, a_cv_ref, a_ad_dyn G h1]
    have hl : b < ((List.range (a_fn a)).map (fun j => a_cv G (a_fv a j h o))).length := by simp; exact h3
    obtain ⟨r0, q1, cell, q2, q3, q4, q5⟩ := HR.2.1 o _ (a_wl_get G h (a_lt h2) |>.trans (by rw [a_cell_obj G h2]))
    have hr0 : r0 = (a_cn a, a_T a, a_fn a) := Option.some.inj (q1.symm.trans (a_cls a h4))
    subst hr0
    have hKc := hK.2.1.1 a _ (a_cls a h4)
    obtain ⟨hSl, hfc, kC, hkC, hkind⟩ := hKc
    obtain ⟨cf, kf, fi, f, hi, hsl⟩ := hSl b h3
    have hap := va_apart (own := a_cn (a_own i)) hts (a_lays h4) (a_ty a) (a_tyo a h4) (a_nmm a h4) hK.2.1 (a_cls a h4)
    have hlays := u_lays hts (a_lays h4) h3
    have hst := (u_facts hfc hkC hlays hi).1
    have hP' : ∀ H1 : Heap, H1[G.1 + o]? = some (cell.setSlot f.slot (a_cv G v)) → (∀ q, q ≠ G.1 + o → H1[q]? = H[q]?) → va_P G.2.2.1 a_cl ((a_wl G h).set o (G.1 + o, .inr (a, ((List.range (a_fn a)).map (fun j => a_cv G (a_fv a j h o))).set b (a_cv G v)))) H1 := by
      intro H1 e1 e3
      rw [hsl] at e1
      exact HR.2.1.set (a_wl_D G h) (a_wl_get G h (a_lt h2)) ⟨_, a_cls a h4, t_OB.to (V := updV (vp_V ((List.range (a_fn a)).map (fun j => a_cv G (a_fv a j h o)))) b (a_cv G v)) ⟨_, e1, q3, q4, t_set q5 hap h3 _⟩ (fun j _ => vp_updV_set hl _ j)⟩ e3
    by_cases hfin : (a_T a b).2.2.2 = true
    · rcases hfi with hf0 | ⟨hf1, hf2⟩
      · rw [hfin] at hf0; cases hf0
      · have hlay := hts _ (a_lays h4 _ (u_in_lay h3))
        unfold u_lay at hlay
        rw [if_pos hfin] at hlay
        have hcf : m.cls = cf := by
          obtain ⟨_, _, c', _, _, _, -, -, hf', -, -, -, hown2, -⟩ := Cond.laysFinal_spec hlay
          have e1 : c' = cf := by have := hi.symm.trans hf'; simp at this; exact this.1.symm
          rw [a_selfT a h4 b h3, ← hf2] at hown2
          rw [← e1]; exact Option.some.inj (hown.symm.trans hown2)
        have h6 := u_fits hfc hkC hkind (Or.inr hlay) hi (a_tyo a h4 b h3) e6 e7
        refine W.putFinK hx hb hown (hts _ hw) hi hst hcf (hnm hf1) (by rw [q3]; exact h6) q2 q4 (by rw [hsl]; exact k2_hasslot (q5 b h3)) rfl rfl hd fun H1 e1 e2 e3 => ?_
        exact hk H1 _ e2 (hP' H1 e1 e3) (HS.put e2 e3 (by show G.1 ≤ _; omega))
    · have hfin' : (a_T a b).2.2.2 = false := by simpa using hfin
      have hlay := hts _ (a_lays h4 _ (u_in_lay h3))
      unfold u_lay at hlay
      rw [if_neg hfin] at hlay
      have h6 := u_store hfc hkC hkind hlay hi (a_tyo a h4 b h3) e6 e7
      refine W.putK hx hb (f := f) ⟨hown, hts _ hw, ⟨_, _, _, hi⟩, hst⟩ (by rw [q3]; exact h6) q2 q4 (by rw [hsl]; exact k2_hasslot (q5 b h3)) rfl rfl hd fun H1 e1 e2 e3 => ?_
      exact hk H1 _ e2 (hP' H1 e1 e3) (HS.put e2 e3 (by show G.1 ≤ _; omega))
  have cellne : ∀ (h' : a_Hp), h'.1 = h.1 → ∀ o, (∀ j, j ≠ o → h'.2.1 j = h.2.1 j ∧ h'.2.2.1 j = h.2.2.1 j) → ∀ j, j ≠ o → a_cell G h' j = a_cell G h j := by
    intro h' e1 o hj j hne
    obtain ⟨g1, g2⟩ := hj j hne
    unfold a_cell
    rw [e1, g1, g2]
    unfold a_fv
    rw [g1, g2]
  unfold a_putf at hs
  split at hs
  · rename_i y o rest
    split at hs
    · rename_i hc
      obtain ⟨h1, h2, h3, h4, h5⟩ := hc
      obtain rfl := a_nx_inv hs
      have hne1 : a_fk a b ≠ 1 := by omega
      refine core o rest (.int y) (h.1, h.2.1, a_up h.2.2.1 o b y, h.2.2.2) h1 h2 h3 h4 rfl (a_okH_up HR.2.2 (fun n hn => by rw [h2] at hn; simp at hn; omega)) ?_ ?_ (cellne (h.1, h.2.1, a_up h.2.2.1 o b y, h.2.2.2) rfl o (fun j hj => ⟨rfl, by show a_up h.2.2.1 o b y j = _; funext k; simp [a_up, hj]⟩)) ?_ ?_ rfl kk
      · simp [a_fv, hne1, a_up]
      · intro j hj
        simp [a_fv, a_up, hj]
      · rcases a_kinds a h4 b h3 with ⟨g1, g2⟩ | ⟨g1, g2⟩ | ⟨g1, g2⟩
        · rw [g2]; rfl
        · rw [g2]
          rcases h5 with h5 | ⟨-, rfl | rfl⟩
          · omega
          · rfl
          · rfl
        · omega
      · rcases a_kinds a h4 b h3 with ⟨g1, g2⟩ | ⟨g1, g2⟩ | ⟨g1, g2⟩
        · rw [g2]; rfl
        · rw [g2]
          rcases h5 with h5 | ⟨-, rfl | rfl⟩
          · omega
          · rfl
          · rfl
        · omega
    · cases hs
  · rename_i v o rest
    split at hs
    · rename_i hc
      obtain ⟨h1, h2, h3, h4, h5, h6, h7⟩ := hc
      obtain rfl := a_nx_inv hs
      have hty : a_fits (a_ty a b) = true := by
        rcases a_kinds a h4 b h3 with ⟨g1, g2⟩ | ⟨g1, g2⟩ | ⟨g1, g2⟩
        · omega
        · omega
        · exact g2
      refine core o rest (.ref v) (h.1, a_up h.2.1 o b (some v), h.2.2.1, h.2.2.2) h1 h2 h3 h4 rfl (a_okH_up1 HR.2.2) ?_ ?_ (cellne (h.1, a_up h.2.1 o b (some v), h.2.2.1, h.2.2.2) rfl o (fun j hj => ⟨by show a_up h.2.1 o b (some v) j = _; funext k; simp [a_up, hj], rfl⟩)) ?_ ?_ rfl kk
      · simp [a_fv, h5, a_up, a_rv]
      · intro j hj
        simp [a_fv, a_up, hj]
      · unfold a_fits at hty
        split at hty
        · rename_i e; rw [e]; rfl
        · rename_i e; rw [e]; rfl
        · cases hty
      · unfold a_fits at hty
        split at hty
        · rename_i e; rw [e]; rfl
        · rename_i e; rw [e]; rfl
        · cases hty
    · cases hs
  · cases hs
end AHP
