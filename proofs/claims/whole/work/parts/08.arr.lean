section AAR
variable {p : Program} {l : Launch} {e : Env} {R : Room} {s : State} {m : MethodId} {args : Array Value} {below : List Frame} {meth : Method} {c : Code} {Q : State → Prop} {G : a_G} {n0 s0 : Nat} {h : a_Hp} {H : Heap} {locs : List Loc} {pc : Nat} {ls : Array Slot} {st : List Value} {sc : Nat × (Nat → Int32)} {i : Nat} {lc lc' : a_Lc} {pc' : Nat} {st' : List Value} {h' : a_Hp}
theorem a_none_ge {h : a_Hp} {o : Nat} (ho : h.1[o]? = none) : h.1.length ≤ o := List.getElem?_eq_none_iff.mp ho
theorem a_s_ld (C : a_Cx p R s m args meth c G sc i) {t : Nat} {ins : Instr} {r : Nat × a_Lc × List Value × a_Hp} (hi : (ins = .iaload ∧ t = 0) ∨ (ins = .baload ∧ t = 1) ∨ (ins = .aaload ∧ t = 3)) (hd : decode (a_bytes i) pc = .ok (ins, 1)) (hs : a_ld t (pc + 1) lc st h = some (.inl r)) (hsc : h.2.2.2 = sc)
    (HR : a_HR G h H) (HS : va_S (fun q => G.1 ≤ q) s.heap H locs) (HL : a_LR G lc ls (a_maxL i)) (kk : a_KK p l e R s m args below meth c Q G n0 s0 i r) : a_WW p l e R s m args below meth c Q G n0 s0 h H locs pc ls st := by
  obtain ⟨hx, hb, -, hown, hts, hK, -⟩ := C
  unfold a_ld at hs
  split at hs
  · rename_i j o rest
    split at hs
    · rename_i k n ho
      split at hs
      · rename_i hc
        obtain ⟨h1, h2, h3⟩ := hc
        have hin := a_in_vp h2
        have hg := a_wl_get G h (a_lt ho)
        split at hs
        · rename_i ht3
          subst ht3
          obtain rfl := a_nx_inv hs
          have k1 := kk H locs ls HR HS HL
          unfold a_WW at k1 ⊢
          rcases hi with ⟨rfl, e1⟩ | ⟨rfl, e1⟩ | ⟨rfl, -⟩
          · omega
          · omega
          · have hk3 : k = 3 := by omega
            subst hk3
            rw [a_cell_arr G ho] at hg
            rw [List.map_cons, List.map_cons, a_cv_ref, a_ad_dyn G h1, a_cv_int]
            refine va_aldq hx hb hK.2.1 HR.2.1 o 3 hg rfl hin hd ?_
            rw [a_rv_rf]
            exact k1
        · rename_i ht3
          obtain rfl := a_nx_inv hs
          have k1 := kk H locs ls HR HS HL
          unfold a_WW at k1 ⊢
          rw [List.map_cons, List.map_cons, a_cv_ref, a_ad_dyn G h1, a_cv_int]
          rcases hi with ⟨rfl, e1⟩ | ⟨rfl, e1⟩ | ⟨rfl, e1⟩
          · have hk0 : k = 0 := by omega
            subst hk0
            rw [a_cell_num G ho (by omega)] at hg
            exact va_iald hx hb hK.2.1 HR.2.1 o 0 hg rfl hin hd k1
          · have hk12 : k = 1 ∨ k = 2 := by omega
            rcases hk12 with rfl | rfl
            · rw [a_cell_num G ho (by omega)] at hg
              exact va_bald hx hb hK.2.1 HR.2.1 o 1 hg rfl hin hd k1
            · rw [a_cell_num G ho (by omega)] at hg
              exact va_zald hx hb hK.2.1 HR.2.1 o 2 hg rfl hin hd k1
          · omega
      · cases hs
    · rename_i ho
      split at hs
      · rename_i hc
        obtain ⟨rfl, rfl, h3⟩ := hc
        obtain rfl := a_nx_inv hs
        have k1 := kk H locs ls HR HS HL
        unfold a_WW at k1 ⊢
        rw [List.map_cons, List.map_cons, a_cv_ref, a_ad_str, a_cv_int]
        rcases hi with ⟨rfl, -⟩ | ⟨-, e1⟩ | ⟨-, e1⟩
        · rw [hsc] at h3 k1
          have hlt := hK.2.2.2.2.1
          exact va_sld hx hb hK.2.2.2.1 (Nat.lt_of_lt_of_le hlt hK.1) (by omega) HS (a_in_vp h3) hd k1
        · omega
        · omega
      · split at hs
        · rename_i hc
          obtain ⟨rfl, h1, h2, h3, h4⟩ := hc
          obtain ⟨hk36, ek⟩ := a_odn h1 h2 h3
          obtain rfl := a_nx_inv hs
          have k1 := kk H locs ls HR HS HL
          generalize hkk : (o - a_CB) / 2 = k at *
          subst ek
          unfold a_WW at k1 ⊢
          rw [List.map_cons, List.map_cons, a_cv_ref, a_ad_str, a_cv_int]
          obtain ⟨-, -, -, g4, -⟩ := hK.2.2.1 k hk36
          rcases hi with ⟨-, e1⟩ | ⟨rfl, -⟩ | ⟨-, e1⟩
          · omega
          · exact va_tb hx hb g4 HS (a_in_vp h4) rfl hd k1
          · omega
        · cases hs
  · cases hs
theorem a_cellne {h h' : a_Hp} (e1 : h'.1 = h.1) (o : Nat) (hj : ∀ j, j ≠ o → h'.2.1 j = h.2.1 j ∧ h'.2.2.1 j = h.2.2.1 j) : ∀ j, j ≠ o → a_cell G h' j = a_cell G h j := by
  intro j hne
  obtain ⟨g1, g2⟩ := hj j hne
  unfold a_cell
  rw [e1, g1, g2]
  unfold a_fv
  rw [g1, g2]
theorem a_up_ne {α : Type} {f : Nat → Nat → α} {o k j : Nat} {v : α} (hj : j ≠ o) : a_up f o k v j = f j := by
  funext q
  simp [a_up, hj]
theorem a_up_upd (f : Nat → Nat → Int32) (o k : Nat) (v : Int32) : a_up f o k v o = upd (f o) k v := by
  funext q
  simp [a_up, upd]
theorem a_row_ne {α : Type} {f : Nat → Nat → α} {o j : Nat} {g : Nat → α} (hj : j ≠ o) : a_row f o g j = f j := by
  simp [a_row, hj]
theorem a_row_eq {α : Type} {f : Nat → Nat → α} {o : Nat} {g : Nat → α} : a_row f o g o = g := by
  simp [a_row]
theorem a_s_stx (C : a_Cx p R s m args meth c G sc i) {t : Nat} {ins : Instr} {r : Nat × a_Lc × List Value × a_Hp} (hi : (ins = .iastore ∧ t = 0) ∨ (ins = .bastore ∧ t = 1) ∨ (ins = .aastore ∧ t = 3)) (hd : decode (a_bytes i) pc = .ok (ins, 1)) (hs : a_stx t (pc + 1) lc st h = some (.inl r))
    (HR : a_HR G h H) (HS : va_S (fun q => G.1 ≤ q) s.heap H locs) (HL : a_LR G lc ls (a_maxL i)) (kk : a_KK p l e R s m args below meth c Q G n0 s0 i r) : a_WW p l e R s m args below meth c Q G n0 s0 h H locs pc ls st := by
  obtain ⟨hx, hb, -, hown, hts, hK, -⟩ := C
  unfold a_stx at hs
  split at hs
  · rename_i x j o rest
    split at hs
    · rename_i k n ho
      split at hs
      · rename_i hc
        obtain ⟨h1, h2, h3, h4⟩ := hc
        have hin := a_in_vp h2
        have hk3 : k < 3 := by omega
        have hg := a_wl_get G h (a_lt ho)
        rw [a_cell_num G ho hk3] at hg
        obtain rfl := a_nx_inv hs
        generalize hz : a_nar k x = z at *
        have hset : (a_wl G h).set o (G.1 + o, .inl (a_cid G k, n, .inl (upd (h.2.2.1 o) j.toNatClampNeg z))) = a_wl G (h.1, h.2.1, a_up h.2.2.1 o j.toNatClampNeg z, h.2.2.2) := by
          refine a_wl_set G h (h.1, h.2.1, a_up h.2.2.1 o j.toNatClampNeg z, h.2.2.2) (a_lt ho) rfl ?_ (a_cellne (G := G) (h := h) (h' := (h.1, h.2.1, a_up h.2.2.1 o j.toNatClampNeg z, h.2.2.2)) rfl o (fun q hq => ⟨rfl, a_up_ne hq⟩))
          rw [a_cell_num G (show (h.1, h.2.1, a_up h.2.2.1 o j.toNatClampNeg z, h.2.2.2).1[o]? = some (k, n) from ho) hk3]
          show Sum.inl (a_cid G k, n, Sum.inl (a_up h.2.2.1 o j.toNatClampNeg z o)) = _
          rw [a_up_upd]
        have hok : a_okH (h.1, h.2.1, a_up h.2.2.1 o j.toNatClampNeg z, h.2.2.2) := by
          refine a_okH_up HR.2.2 (fun n' hn' => ?_)
          rw [ho] at hn'
          cases hn'
          rw [← hz]
          show fits .byte (.int (a_nar 1 x)) = true
          unfold a_nar
          rw [if_pos rfl, vp_nar_byte]
          exact pk_fb x
        have go : ∀ (H1 : Heap), H1[G.1 + o]? = some (vp_cell (a_cid G k) (n, .inl (upd (h.2.2.1 o) j.toNatClampNeg z))) → H1.size = H.size → (∀ q, q ≠ G.1 + o → H1[q]? = H[q]?) → W p l e R s m args below meth c H1 (locs ++ [⟨G.1 + o, j.toNatClampNeg⟩]) (h.1.length - n0) (a_hs h - s0) Q (F0 m (pc + 1) ls (rest.map (a_cv G))) := by
          intro H1 e1 z1 oq
          refine kk H1 _ ls ⟨?_, ?_, hok⟩ (HS.put z1 oq (by show G.1 ≤ _; omega)) HL
          · rw [z1, HR.1]
          · rw [← hset]
            exact HR.2.1.set (a_wl_D G h) hg e1 oq
        unfold a_WW
        rw [List.map_cons, List.map_cons, List.map_cons, a_cv_ref, a_ad_dyn G h1, a_cv_int, a_cv_int]
        have hK2 := fun (q : Nat) (hq : q < 3) => hK.2.1.2 q _ (a_tys_at G hq)
        rcases hi with ⟨rfl, e1⟩ | ⟨rfl, e1⟩ | ⟨rfl, e1⟩
        · have hk0 : k = 0 := by omega
          subst hk0
          have hz' : z = x := by rw [← hz]; rfl
          refine W.iast hx hb (HR.2.1 o _ hg) ((hK2 0 (by omega)).1 n (fun q => .int (h.2.2.1 o q))) (fun q => by cases q) (by show ¬ (j < 0 ∨ (arrV _ _ _).slots.size ≤ _); rw [arrV_size]; exact hin) rfl rfl hd fun H1 e z1 oq => go H1 ?_ z1 oq
          rw [e]
          rw [vp_cell_i, vp_cell_i, arrV_store, hz']
          congr 2
          funext q
          by_cases hq : q = j.toNatClampNeg
          · subst hq
            simp [updV, upd]
          · simp [updV, upd, hq]
        · have hk12 : k = 1 ∨ k = 2 := by omega
          rcases hk12 with rfl | rfl
          · have hz' : z = vp_nar .byte x := by rw [← hz]; rfl
            refine W.bast hx hb (HR.2.1 o _ hg) ((hK2 1 (by omega)).1 n (fun q => .int (h.2.2.1 o q))) (fun q => by cases q) (by show ¬ (j < 0 ∨ (arrV _ _ _).slots.size ≤ _); rw [arrV_size]; exact hin) rfl rfl hd fun H1 e z1 oq => go H1 ?_ z1 oq
            rw [e]
            rw [vp_cell_i, vp_cell_i, arrV_store, hz']
            congr 2
            funext q
            by_cases hq : q = j.toNatClampNeg
            · subst hq
              simp [updV, upd, vp_nar]
              try rfl
            · simp [updV, upd, hq]
          · have hz' : z = vp_nar .boolean x := by rw [← hz]; rfl
            refine W.zast hx hb (HR.2.1 o _ hg) ((hK2 2 (by omega)).1 n (fun q => .int (h.2.2.1 o q))) (fun q => by cases q) (by show ¬ (j < 0 ∨ (arrV _ _ _).slots.size ≤ _); rw [arrV_size]; exact hin) rfl rfl hd fun H1 e z1 oq => go H1 ?_ z1 oq
            rw [e]
            rw [vp_cell_i, vp_cell_i, arrV_store, hz']
            congr 2
            funext q
            by_cases hq : q = j.toNatClampNeg
            · subst hq
              simp [updV, upd, vp_nar]
              try rfl
            · simp [updV, upd, hq]
        · omega
      · cases hs
    · cases hs
  · rename_i v j o rest
    split at hs
    · rename_i k n ho
      split at hs
      · rename_i hc
        obtain ⟨h1, h2, rfl, h4, h5, h6⟩ := hc
        have hin := a_in_vp h2
        have hg := a_wl_get G h (a_lt ho)
        rw [a_cell_arr G ho] at hg
        have hgv := a_wl_get G h (a_lt h6)
        rw [show (11 : Nat) = 10 + 1 from rfl] at h6
        rw [a_cell_obj G h6] at hgv
        obtain rfl := a_nx_inv hs
        have hset : (a_wl G h).set o (G.1 + o, .inl (G.2.2.2.2.2.2, n, .inr (.inr (.inr (.inr (va_up (fun q => (h.2.1 o q).map (a_ad G)) j.toNatClampNeg (some (G.1 + v)))))))) = a_wl G (h.1, a_up h.2.1 o j.toNatClampNeg (some v), h.2.2.1, h.2.2.2) := by
          refine a_wl_set G h (h.1, a_up h.2.1 o j.toNatClampNeg (some v), h.2.2.1, h.2.2.2) (a_lt ho) rfl ?_ (a_cellne (G := G) (h := h) (h' := (h.1, a_up h.2.1 o j.toNatClampNeg (some v), h.2.2.1, h.2.2.2)) rfl o (fun q hq => ⟨a_up_ne hq, rfl⟩))
          rw [a_cell_arr G (show (h.1, a_up h.2.1 o j.toNatClampNeg (some v), h.2.2.1, h.2.2.2).1[o]? = some (3, n) from ho)]
          congr 7
          funext q
          show (a_up h.2.1 o j.toNatClampNeg (some v) o q).map (a_ad G) = _
          unfold a_up va_up
          rw [if_pos rfl]
          by_cases hq : q = j.toNatClampNeg
          · rw [if_pos hq, if_pos hq]
            show some (a_ad G v) = _
            rw [a_ad_dyn G h5]
          · rw [if_neg hq, if_neg hq]
        unfold a_WW
        rw [List.map_cons, List.map_cons, List.map_cons, a_cv_ref, a_ad_dyn G h5, a_cv_ref, a_ad_dyn G h1, a_cv_int]
        rcases hi with ⟨-, e1⟩ | ⟨-, e1⟩ | ⟨rfl, -⟩
        · omega
        · omega
        · have hlt : j.toNatClampNeg < n := Nat.not_le.mp fun q => hin (Or.inr q)
          have h0 : ¬ j < 0 := fun q => hin (Or.inl q)
          obtain ⟨r', hr', cellV, g1, g2, g3, -⟩ := HR.2.1 v _ hgv
          have hcls := (hK.2.1.1 1 _ (a_cls 1 (by omega))).2
          obtain ⟨kA, comp, k1, k2, k3, -⟩ := (hK.2.1.2 3 _ (rfl : (a_tys G)[3]? = some (G.2.2.2.2.2.2, .object "PreCommitHall$Hall"))).2
          have hcomp : comp = G.2.2.1.1 1 := Option.some.inj (k3.symm.trans hcls.1)
          subst hcomp
          obtain ⟨kC, hkC, -⟩ := hcls.2
          refine W.aast hx hb (HR.2.1 o _ hg) (fun q h => by cases h) (fun h => by cases h) k1 k2 rfl hkC ⟨h0, by show _ < (arrV _ _ _).slots.size; rw [arrV_size]; exact hlt⟩ g1 (fun q h => by rw [g3] at h; cases h) (by rw [g2]; exact hkC) (by rw [g2]; exact va_assign hcls) rfl rfl hd fun H1 e z1 oq => ?_
          refine kk H1 _ ls ⟨?_, ?_, a_okH_up1 HR.2.2⟩ (HS.put z1 oq (by show G.1 ≤ _; omega)) HL
          · rw [z1, HR.1]
          · rw [← hset]
            refine HR.2.1.set (a_wl_D G h) hg ?_ oq
            show H1[G.1 + o]? = some (vp_cell _ _)
            rw [e]
            rw [vp_cell_q, vp_cell_q, arrV_store]
            congr 2
            funext q
            by_cases hq : q = j.toNatClampNeg
            · subst hq
              simp [updV, va_up, va_rf]
            · simp [updV, va_up, hq]
      · cases hs
    · cases hs
  · cases hs
theorem a_hs_push (h : a_Hp) (k n : Nat) : a_hs (a_push k n h) = a_hs h + n := by
  simp [a_hs, a_push]
theorem a_push_len (h : a_Hp) (k n : Nat) : (a_push k n h).1.length = h.1.length + 1 := by simp [a_push]
theorem a_push_okH {k n : Nat} (hok : a_okH h) (hl : h.1.length < a_CB) (hk : k < 4 ∨ (10 ≤ k ∧ k < 19 ∧ n = a_fn (k - 10))) : a_okH (a_push k n h) := by
  refine ⟨by rw [a_push_len]; omega, fun o k' n' ho => ?_⟩
  by_cases hlt : o < h.1.length
  · have ho' : h.1[o]? = some (k', n') := by
      rw [← ho]
      show _ = (h.1 ++ [(k, n)])[o]?
      rw [List.getElem?_append_left hlt]
    refine ⟨(hok.2 o k' n' ho').1, fun e1 j => ?_⟩
    show fits .byte (.int (a_row h.2.2.1 h.1.length (fun _ => 0) o j)) = true
    rw [a_row_ne (by omega)]
    exact (hok.2 o k' n' ho').2 e1 j
  · have ho' : (h.1 ++ [(k, n)])[o]? = some (k', n') := ho
    rw [List.getElem?_append_right (by omega)] at ho'
    have hz := (List.getElem?_eq_some_iff.mp ho').1
    simp at hz
    have he : o = h.1.length := by omega
    subst he
    rw [Nat.sub_self] at ho'
    cases ho'
    refine ⟨hk, fun e1 j => ?_⟩
    show fits .byte (.int (a_row h.2.2.1 h.1.length (fun _ => 0) h.1.length j)) = true
    rw [a_row_eq]
    rfl
theorem a_push_at (h : a_Hp) (k n : Nat) : (a_push k n h).1[h.1.length]? = some (k, n) := by simp [a_push]
theorem a_push_cells (G : a_G) (h : a_Hp) (k n : Nat) : ∀ j, j < h.1.length → a_cell G (a_push k n h) j = a_cell G h j := by
  intro j hj
  have e1 : (a_push k n h).1[j]? = h.1[j]? := List.getElem?_append_left hj
  have e2 : (a_push k n h).2.1 j = h.2.1 j := a_row_ne (by omega)
  have e3 : (a_push k n h).2.2.1 j = h.2.2.1 j := a_row_ne (by omega)
  unfold a_cell
  rw [e1, e2, e3]
  unfold a_fv
  rw [e2, e3]
theorem a_HR_push {k n : Nat} {H1 : Heap} (HR : a_HR G h H) (hl : h.1.length < a_CB) (hk : k < 4 ∨ (10 ≤ k ∧ k < 19 ∧ n = a_fn (k - 10))) (z1 : H1.size = H.size + 1) (o1 : ∀ q, q < H.size → H1[q]? = H[q]?) (hc : va_at G.2.2.1 a_cl (H.size, a_cell G (a_push k n h) h.1.length) H1) : a_HR G (a_push k n h) H1 := by
  refine ⟨by rw [z1, HR.1, a_push_len]; omega, ?_, a_push_okH HR.2.2 hl hk⟩
  rw [← a_wl_push G h (a_push k n h) (k, n) rfl rfl (a_push_cells G h k n)]
  refine (HR.2.1.kept (fun q x hx => o1 x.1 ((HR.2.1 q x hx).lt))).app (fun q x hx => ?_)
  have hz : q < 1 := (List.getElem?_eq_some_iff.mp hx).1
  rw [show q = 0 by omega] at hx
  cases hx
  rw [← HR.1]
  exact hc
theorem a_S_push {H1 : Heap} (HS : va_S (fun q => G.1 ≤ q) s.heap H locs) (z1 : H1.size = H.size + 1) (o1 : ∀ q, q < H.size → H1[q]? = H[q]?) : va_S (fun q => G.1 ≤ q) s.heap H1 locs :=
  ⟨Nat.le_trans HS.1 (by omega), fun x h1 h2 => (o1 x (Nat.lt_of_lt_of_le h1 HS.1)).trans (HS.2.1 x h1 h2), HS.2.2⟩
theorem a_s_newo (C : a_Cx p R s m args meth c G sc i) {x a : Nat} {r : Nat × a_Lc × List Value × a_Hp} (hd : decode (a_bytes i) pc = .ok (.new x, 3)) (hq : a_key3 (a_own i) x a_cll = some a) (hs : a_newo a (pc + 3) lc st h = some (.inl r)) (hN : n0 ≤ h.1.length ∧ s0 ≤ a_hs h) (hR : r.2.2.2.1.length - n0 ≤ R.cells ∧ a_hs r.2.2.2 - s0 ≤ R.slots)
    (HR : a_HR G h H) (HS : va_S (fun q => G.1 ≤ q) s.heap H locs) (HL : a_LR G lc ls (a_maxL i)) (kk : a_KK p l e R s m args below meth c Q G n0 s0 i r) : a_WW p l e R s m args below meth c Q G n0 s0 h H locs pc ls st := by
  obtain ⟨hx, hb, -, hown, hts, hK, -⟩ := C
  unfold a_newo at hs
  split at hs
  · rename_i hc
    obtain ⟨h1, h2⟩ := hc
    obtain rfl := a_nx_inv hs
    dsimp only at hR
    rw [a_push_len, a_hs_push] at hR
    have hcl : (Cond.classLink (a_cn (a_own i)) x (a_cn a)).before args s = true := hts _ (a_i_cll (a_e_cll _ (a_key3_mem hq)))
    have hin2 : (Cond.instantiable (a_cn a) (a_fn a)).before args s = true := hts _ (a_i_inst2 (a_e_inst2 a h2))
    have hini : (Cond.initialized (a_cn a)).before args s = true := hts _ (a_i_init (a_e_init a (by omega)))
    have hKc := hK.2.1.1 a _ (a_cls a h2)
    unfold a_WW
    refine W.newcK (n := a_fn a) (C := a_cn a) hx hb hown hcl hin2 hini rfl hd (by omega) (by omega) hKc.2.1 rfl fun H1 kC hkC e1 z1 o1 => ?_
    have k1 := kk H1 locs ls (a_HR_push HR h1 (Or.inr ⟨by omega, by omega, by rw [show 10 + a - 10 = a by omega]⟩) z1 o1 ?_) (a_S_push HS z1 o1) HL
    · unfold a_WW at k1
      dsimp only at k1
      rw [a_push_len, a_hs_push, List.map_cons, a_cv_ref, a_ad_dyn G h1, ← HR.1] at k1
      refine W.widen (by omega) (by omega) k1
    · rw [a_cell_obj G (a_push_at h (10 + a) (a_fn a))]
      refine ⟨_, a_cls a h2, (u_born (a_ty a) hts (a_lays h2) hKc hkC e1 (a_tyo a h2)).to (fun j hj => ?_)⟩
      have hj' : j < a_fn a := hj
      show defaultValue (a_ty a j) = ((List.range (a_fn a)).map _).getD j .null
      rw [List.getD_eq_getElem?_getD, List.getElem?_map, List.getElem?_range hj']
      show _ = a_cv G (a_fv a j (a_push (10 + a) (a_fn a) h) h.1.length)
      unfold a_fv
      rw [show (a_push (10 + a) (a_fn a) h).2.1 h.1.length = fun _ => none from a_row_eq, show (a_push (10 + a) (a_fn a) h).2.2.1 h.1.length = fun _ => 0 from a_row_eq]
      rcases a_kinds a h2 j hj' with ⟨g1, g2⟩ | ⟨g1, g2⟩ | ⟨g1, g2⟩
      · rw [g1, g2]; rfl
      · rw [g1, g2]; rfl
      · rw [if_pos g1]
        unfold a_fits at g2
        split at g2
        · rename_i e; rw [e]; rfl
        · rename_i e; rw [e]; rfl
        · cases g2
  · cases hs
theorem a_s_newa (C : a_Cx p R s m args meth c G sc i) {t : ArrayType} {a : Nat} {r : Nat × a_Lc × List Value × a_Hp} (hd : decode (a_bytes i) pc = .ok (.newarray t, 2)) (hq : (t = .int ∧ a = 0) ∨ (t = .byte ∧ a = 1) ∨ (t = .boolean ∧ a = 2)) (hs : a_newa a (pc + 2) lc st h = some (.inl r)) (hN : n0 ≤ h.1.length ∧ s0 ≤ a_hs h) (hR : r.2.2.2.1.length - n0 ≤ R.cells ∧ a_hs r.2.2.2 - s0 ≤ R.slots)
    (HR : a_HR G h H) (HS : va_S (fun q => G.1 ≤ q) s.heap H locs) (HL : a_LR G lc ls (a_maxL i)) (kk : a_KK p l e R s m args below meth c Q G n0 s0 i r) : a_WW p l e R s m args below meth c Q G n0 s0 h H locs pc ls st := by
  obtain ⟨hx, hb, -, hown, hts, hK, -⟩ := C
  unfold a_newa at hs
  split at hs
  · rename_i n rest
    split at hs
    · rename_i hc
      obtain ⟨h1, h2, h3, h4⟩ := hc
      obtain rfl := a_nx_inv hs
      dsimp only at hR
      rw [a_push_len, a_hs_push] at hR
      have ha3 : a < 3 := by omega
      have hty : newarray.typeOf t = a_tyk a := by rcases hq with ⟨rfl, rfl⟩ | ⟨rfl, rfl⟩ | ⟨rfl, rfl⟩ <;> rfl
      have harr : (Cond.arrayClass (newarray.typeOf t)).before args s = true := by
        rcases hq with ⟨rfl, rfl⟩ | ⟨rfl, rfl⟩ | ⟨rfl, rfl⟩
        · exact hts _ a_x_arrI
        · exact hts _ a_x_arrB
        · exact hts _ a_x_arrZ
      have hbytes : n.toNatClampNeg * componentBytes (newarray.typeOf t) ≤ 536870912 := by
        have : componentBytes (newarray.typeOf t) ≤ 4 := by rcases hq with ⟨rfl, -⟩ | ⟨rfl, -⟩ | ⟨rfl, -⟩ <;> decide
        calc n.toNatClampNeg * componentBytes (newarray.typeOf t) ≤ 100000 * 4 := Nat.mul_le_mul h3 this
          _ ≤ 536870912 := by decide
      unfold a_WW
      rw [List.map_cons, a_cv_int]
      refine va_newaK (g := F0 m pc ls (.int n :: rest.map (a_cv G))) hx hb harr rfl hd rfl h2 rfl hbytes (by omega) (by omega) rfl fun H1 cA e1 z1 o1 hAr hNm => ?_
      have hcA : cA = a_cid G a := by
        have g := (hK.2.1.2 a _ (a_tys_at G ha3)).2
        rw [hty] at hNm
        rcases (show a = 0 ∨ a = 1 ∨ a = 2 by omega) with rfl | rfl | rfl
        · exact Option.some.inj (hNm.symm.trans g)
        · exact Option.some.inj (hNm.symm.trans g)
        · exact Option.some.inj (hNm.symm.trans g)
      subst hcA
      have k1 := kk H1 locs ls (a_HR_push HR h1 (Or.inl (by omega)) z1 o1 ?_) (a_S_push HS z1 o1) HL
      · unfold a_WW at k1
        dsimp only at k1
        rw [a_push_len, a_hs_push, List.map_cons, a_cv_ref, a_ad_dyn G h1, ← HR.1] at k1
        exact W.widen (by omega) (by omega) k1
      · rw [a_cell_num G (a_push_at h a n.toNatClampNeg) ha3]
        show H1[H.size]? = some (vp_cell _ _)
        rw [e1, vp_cell_i]
        congr 2
        funext j
        show defaultValue (newarray.typeOf t) = .int ((a_push a n.toNatClampNeg h).2.2.1 h.1.length j)
        rw [show (a_push a n.toNatClampNeg h).2.2.1 h.1.length = fun _ => 0 from a_row_eq, hty]
        rcases (show a = 0 ∨ a = 1 ∨ a = 2 by omega) with rfl | rfl | rfl <;> rfl
    · cases hs
  · cases hs
theorem a_s_newq (C : a_Cx p R s m args meth c G sc i) {x : Nat} {r : Nat × a_Lc × List Value × a_Hp} (hd : decode (a_bytes i) pc = .ok (.anewarray x, 3)) (hq : a_key3 (a_own i) x a_cll = some 1) (hs : a_newa 3 (pc + 3) lc st h = some (.inl r)) (hN : n0 ≤ h.1.length ∧ s0 ≤ a_hs h) (hR : r.2.2.2.1.length - n0 ≤ R.cells ∧ a_hs r.2.2.2 - s0 ≤ R.slots)
    (HR : a_HR G h H) (HS : va_S (fun q => G.1 ≤ q) s.heap H locs) (HL : a_LR G lc ls (a_maxL i)) (kk : a_KK p l e R s m args below meth c Q G n0 s0 i r) : a_WW p l e R s m args below meth c Q G n0 s0 h H locs pc ls st := by
  obtain ⟨hx, hb, -, hown, hts, hK, -⟩ := C
  unfold a_newa at hs
  split at hs
  · rename_i n rest
    split at hs
    · rename_i hc
      obtain ⟨h1, h2, h3, h4⟩ := hc
      obtain rfl := a_nx_inv hs
      dsimp only at hR
      rw [a_push_len, a_hs_push] at hR
      have hcl := hts _ (a_i_cll (a_e_cll _ (a_key3_mem hq)))
      have hover := hK.2.2.2.2.2.2.2.1
      unfold a_WW
      rw [List.map_cons, a_cv_int]
      refine W.anew (g := F0 m pc ls (.int n :: rest.map (a_cv G))) hx hb hown hcl (va_AO.use hover) rfl hd rfl h2 (by omega) (by omega) (by omega) fun cA kA comp f1 f2 f3 f4 => ?_
      generalize hH1 : H.push ({ cls := cA, slots := Array.replicate n.toNatClampNeg .null, vm := .none } : Cell) = H1
      have z1 : H1.size = H.size + 1 := by rw [← hH1, Array.size_push]
      have e1 : H1[H.size]? = some (arrV cA n.toNatClampNeg (fun _ => .null)) := by rw [← hH1, Array.getElem?_push_size, ← arrV_new]
      have o1 : ∀ q : Nat, q < H.size → H1[q]? = H[q]? := fun q hq => by rw [← hH1, Array.getElem?_push, if_neg (Nat.ne_of_lt hq)]
      have hcA : cA = G.2.2.2.2.2.2 := by
        obtain ⟨kA', comp', g1, g2, g3, g4⟩ := (hK.2.1.2 3 _ (rfl : (a_tys G)[3]? = some (G.2.2.2.2.2.2, .object "PreCommitHall$Hall"))).2
        exact Option.some.inj (f1.symm.trans g4)
      subst hcA
      have k1 := kk H1 locs ls (a_HR_push HR h1 (Or.inl (by omega)) z1 o1 ?_) (a_S_push HS z1 o1) HL
      · unfold a_WW at k1
        dsimp only at k1
        rw [a_push_len, a_hs_push, List.map_cons, a_cv_ref, a_ad_dyn G h1, ← HR.1] at k1
        exact W.widen (by omega) (by omega) k1
      · rw [a_cell_arr G (a_push_at h 3 n.toNatClampNeg)]
        show H1[H.size]? = some (vp_cell _ _)
        rw [e1, vp_cell_q]
        congr 2
        funext j
        show Value.null = va_rf (((a_push 3 n.toNatClampNeg h).2.1 h.1.length j).map (a_ad G))
        rw [show (a_push 3 n.toNatClampNeg h).2.1 h.1.length = fun _ => none from a_row_eq]
        rfl
    · cases hs
  · cases hs
end AAR
