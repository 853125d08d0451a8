section ARS
variable {p : Program} {l : Launch} {e : Env} {R : Room} {s : State} {m : MethodId} {args : Array Value} {below : List Frame} {meth : Method} {c : Code} {Q : State → Prop} {G : a_G} {n0 s0 : Nat} {h : a_Hp} {H : Heap} {locs : List Loc} {pc : Nat} {ls : Array Slot} {st : List Value} {sc : Nat × (Nat → Int32)} {i : Nat} {lc lc' : a_Lc} {pc' : Nat} {st' : List Value} {h' : a_Hp}
theorem a_s_alen (C : a_Cx p R s m args meth c G sc i) {r : Nat × a_Lc × List Value × a_Hp} (hd : decode (a_bytes i) pc = .ok (.arraylength, 1)) (hs : a_alen (pc + 1) lc st h = some (.inl r)) (hsc : h.2.2.2 = sc)
    (HR : a_HR G h H) (HS : va_S (fun q => G.1 ≤ q) s.heap H locs) (HL : a_LR G lc ls (a_maxL i)) (kk : a_KK p l e R s m args below meth c Q G n0 s0 i r) : a_WW p l e R s m args below meth c Q G n0 s0 h H locs pc ls st := by
  obtain ⟨hx, hb, -, hown, hts, hK, -⟩ := C
  unfold a_alen at hs
  split at hs
  · rename_i o rest
    split at hs
    · rename_i k n ho
      split at hs
      · rename_i hc
        obtain ⟨h1, h2⟩ := hc
        obtain rfl := a_nx_inv hs
        have k1 := kk H locs ls HR HS HL
        unfold a_WW at k1 ⊢
        rw [List.map_cons, a_cv_ref, a_ad_dyn G h1]
        have hg := a_wl_get G h (a_lt ho)
        by_cases hk3 : k < 3
        · rw [a_cell_num G ho hk3] at hg
          exact va_alen (x := (n, .inl (h.2.2.1 o))) hx hb hK.2.1 HR.2.1 o k hg (a_tys_at G hk3) rfl hd k1
        · have hk : k = 3 := by omega
          subst hk
          rw [a_cell_arr G ho] at hg
          exact va_alen (x := (n, .inr (.inr (.inr (.inr (fun j => (h.2.1 o j).map (a_ad G))))))) hx hb hK.2.1 HR.2.1 o 3 hg (rfl : (a_tys G)[3]? = some (G.2.2.2.2.2.2, .object "PreCommitHall$Hall")) rfl hd k1
      · cases hs
    · rename_i ho
      split at hs
      · rename_i hc
        obtain ⟨hc, -⟩ := hc
        subst hc
        obtain rfl := a_nx_inv hs
        have k1 := kk H locs ls HR HS HL
        unfold a_WW at k1 ⊢
        rw [List.map_cons, a_cv_ref, a_ad_str]
        rw [hsc] at k1
        have hlt := hK.2.2.2.2.1
        exact va_slen hx hb hK.2.2.2.1 (Nat.lt_of_lt_of_le hlt hK.1) (by omega) HS hd k1
      · split at hs
        · rename_i hc
          obtain ⟨h1, h2, h3⟩ := hc
          obtain ⟨hk36, ek⟩ := a_odn h1 h2 h3
          obtain rfl := a_nx_inv hs
          have k1 := kk H locs ls HR HS HL
          generalize hkk : (o - a_CB) / 2 = k at *
          subst ek
          unfold a_WW at k1 ⊢
          rw [List.map_cons, a_cv_ref, a_ad_str]
          obtain ⟨-, -, -, g4, -⟩ := hK.2.2.1 k hk36
          exact va_tlen hx hb g4 HS rfl hd k1
        · cases hs
  · cases hs
theorem a_s_cpy (C : a_Cx p R s m args meth c G sc i) {x : Nat} {r : Nat × a_Lc × List Value × a_Hp} (hd : decode (a_bytes i) pc = .ok (.invokestatic x, 3)) (hq : a_key2 (a_own i) x a_ac = true) (hs : a_cpy (pc + 3) lc st h = some (.inl r)) (hfr : 1 ≤ R.frames ∧ 26 ≤ R.locals)
    (HR : a_HR G h H) (HS : va_S (fun q => G.1 ≤ q) s.heap H locs) (HL : a_LR G lc ls (a_maxL i)) (kk : a_KK p l e R s m args below meth c Q G n0 s0 i r) : a_WW p l e R s m args below meth c Q G n0 s0 h H locs pc ls st := by
  obtain ⟨hx, hb, hml, hown, hts, hK, -⟩ := C
  unfold a_cpy at hs
  split at hs
  · rename_i n dp d sp q rest
    split at hs
    · rename_i k0 nn0 k1 nn1 ho0 ho1
      split at hs
      · rename_i hc
        obtain ⟨g1, g2, rfl, g3, h1, h2, h3, h4, h5, h6⟩ := hc
        obtain rfl := a_nx_inv hs
        have hk3 : k0 < 3 := by omega
        have ha0 := a_wl_get G h (a_lt ho0)
        have ha1 := a_wl_get G h (a_lt ho1)
        rw [a_cell_num G ho0 hk3] at ha0
        rw [a_cell_num G ho1 hk3] at ha1
        have ht := a_tys_at G hk3
        generalize hf : h.2.2.1 q = f at *
        generalize hg : h.2.2.1 d = g at *
        have hprim : refKind (a_tyk k0) = false := by rcases (show k0 = 0 ∨ k0 = 1 by omega) with rfl | rfl <;> rfl
        have hfit : ∀ j, fits (a_tyk k0) (.int (f j)) = true := by
          intro j
          rcases (show k0 = 0 ∨ k0 = 1 by omega) with rfl | rfl
          · rfl
          · rw [← hf]; exact (HR.2.2.2 q 1 nn0 ho0).2 rfl j
        have hset : (a_wl G h).set d (G.1 + d, .inl (a_cid G k0, nn1, .inl (va_cpy f g sp.toNatClampNeg dp.toNatClampNeg n.toNatClampNeg))) = a_wl G (h.1, h.2.1, a_row h.2.2.1 d (va_cpy f g sp.toNatClampNeg dp.toNatClampNeg n.toNatClampNeg), h.2.2.2) := by
          refine a_wl_set G h (h.1, h.2.1, a_row h.2.2.1 d (va_cpy f g sp.toNatClampNeg dp.toNatClampNeg n.toNatClampNeg), h.2.2.2) (a_lt ho1) rfl ?_ (a_cellne (G := G) (h := h) (h' := (h.1, h.2.1, a_row h.2.2.1 d (va_cpy f g sp.toNatClampNeg dp.toNatClampNeg n.toNatClampNeg), h.2.2.2)) rfl d (fun j hj => ⟨rfl, a_row_ne hj⟩))
          rw [a_cell_num G (show (h.1, h.2.1, a_row h.2.2.1 d (va_cpy f g sp.toNatClampNeg dp.toNatClampNeg n.toNatClampNeg), h.2.2.2).1[d]? = some (k0, nn1) from ho1) hk3]
          show Sum.inl (a_cid G k0, nn1, Sum.inl (a_row h.2.2.1 d (va_cpy f g sp.toNatClampNeg dp.toNatClampNeg n.toNatClampNeg) d)) = _
          rw [a_row_eq]
        have hok : a_okH (h.1, h.2.1, a_row h.2.2.1 d (va_cpy f g sp.toNatClampNeg dp.toNatClampNeg n.toNatClampNeg), h.2.2.2) := by
          refine ⟨HR.2.2.1, fun o' k' n' ho' => ⟨(HR.2.2.2 o' k' n' ho').1, fun e1 j => ?_⟩⟩
          show fits .byte (.int (a_row h.2.2.1 d (va_cpy f g sp.toNatClampNeg dp.toNatClampNeg n.toNatClampNeg) o' j)) = true
          by_cases hod : o' = d
          · subst hod
            have ho'' : h.1[o']? = some (k', n') := ho'
            rw [ho1] at ho''
            cases ho''
            subst e1
            rw [a_row_eq]
            unfold va_cpy
            split
            · exact hfit _
            · rw [← hg]; exact (HR.2.2.2 o' 1 nn1 ho1).2 rfl j
          · rw [a_row_ne hod]
            exact (HR.2.2.2 o' k' n' ho').2 e1 j
        unfold a_WW
        rw [List.map_cons, List.map_cons, List.map_cons, List.map_cons, List.map_cons, a_cv_int, a_cv_int, a_cv_int, a_cv_ref, a_cv_ref, a_ad_dyn G g1, a_ad_dyn G g2]
        have nn : ∀ z : Int32, ¬ z < 0 → z.toInt = (z.toNatClampNeg : Int) := by
          intro z hz
          have hz0 : (0 : Int) ≤ z.toInt := by
            have := Int32.not_lt.mp hz
            simpa using Int32.le_iff_toInt_le.mp this
          show z.toInt = ((z.toInt.toNat : Nat) : Int)
          omega
        intro T hT X
        have hc0 : H[G.1 + q]? = some (vp_cell (a_cid G k0) (nn0, .inl f)) := HR.2.1 q _ ha0
        have hc1 : H[G.1 + d]? = some (vp_cell (a_cid G k0) (nn1, .inl g)) := HR.2.1 d _ ha1
        obtain ⟨-, kk0, hkk0, cm0, hkkk0⟩ := (hK.2.1.2 k0 _ ht).1 nn0 (fun j => .int (f j))
        obtain ⟨-, kk1, hkk1, cm1, hkkk1⟩ := (hK.2.1.2 k0 _ ht).1 nn1 (fun j => .int (g j))
        obtain ⟨vm', X', step⟩ := X.arraycopy hx hown (hts _ (a_i_ac (a_e_ac _ (a_key2_mem hq)))) (hts _ a_x_acN) (hts _ a_x_acS) (hts _ a_x_iniSys) (src := G.1 + q) (dst := G.1 + d) (cs := vp_cell (a_cid G k0) (nn0, .inl f)) (cd := vp_cell (a_cid G k0) (nn1, .inl g)) (srcPos := sp) (destPos := dp) (n := n) (by rw [hT]; exact hc0) (by rw [hT]; exact hc1)
          (fun _ h => by cases h) (fun _ h => by cases h) (fun h => by cases h) (fun h => by cases h) hkk0 hkk1 hkkk0 hkkk1 (by simp [hprim]) h1 h2 h3
          (by rw [nn sp h1, nn n h3]; show ¬ _ > ((arrV (a_cid G k0) nn0 (fun j => .int (f j))).slots.size : Int); rw [arrV_size]; omega)
          (by rw [nn dp h2, nn n h3]; show ¬ _ > ((arrV (a_cid G k0) nn1 (fun j => .int (g j))).slots.size : Int); rw [arrV_size]; omega)
          (fun vm₁ _ j hj => by
            have ee : (vp_cell (a_cid G k0) (nn0, .inl f)).slots.getD (sp.toNatClampNeg + j) .null = .int (f (sp.toNatClampNeg + j)) := by
              show (arrV (a_cid G k0) nn0 (fun j => .int (f j))).slots.getD _ _ = _
              rw [Array.getD_eq_getD_getElem?, arrV_read _ _ (by omega)]
              rfl
            refine ⟨?_, ?_⟩
            · rw [ee]
              exact hfit _
            · rw [ee]
              exact trivial)
          (g := F0 m pc ls (.int n :: .int dp :: .ref (G.1 + d) :: .int sp :: .ref (G.1 + q) :: rest.map (a_cv G))) rfl (by rw [hml]; exact HL.2.1) (rest := rest.map (a_cv G)) rfl (by rw [hb]; exact hd) hfr.1 (by rw [a_cat]; show 2 * 0 + _ + (7 + 11) ≤ _; omega)
        have e1 : copied (vp_cell (a_cid G k0) (nn0, .inl f)) (vp_cell (a_cid G k0) (nn1, .inl g)) sp dp n = vp_cell (a_cid G k0) (nn1, .inl (va_cpy f g sp.toNatClampNeg dp.toNatClampNeg n.toNatClampNeg)) := va_copied (fun z => .int z) (a_cid G k0) (a_cid G k0) f g h4
        rw [e1] at X' step
        have hl : G.1 + d < H.size := (Array.getElem?_eq_some_iff.mp hc1).1
        have hheap : ((T.setVm vm').setCell (G.1 + d) (vp_cell (a_cid G k0) (nn1, .inl (va_cpy f g sp.toNatClampNeg dp.toNatClampNeg n.toNatClampNeg)))).heap = H.setIfInBounds (G.1 + d) (vp_cell (a_cid G k0) (nn1, .inl (va_cpy f g sp.toNatClampNeg dp.toNatClampNeg n.toNatClampNeg))) := by rw [← hT]; rfl
        have oq : ∀ z : Nat, z ≠ G.1 + d → (H.setIfInBounds (G.1 + d) (vp_cell (a_cid G k0) (nn1, .inl (va_cpy f g sp.toNatClampNeg dp.toNatClampNeg n.toNatClampNeg))))[z]? = H[z]? := fun z hz => by simp [Array.getElem?_setIfInBounds, Ne.symm hz]
        have k1 := fun (L : List Loc) (hL : ∀ z ∈ L, z.base = G.1 + d) => kk (H.setIfInBounds (G.1 + d) (vp_cell (a_cid G k0) (nn1, .inl (va_cpy f g sp.toNatClampNeg dp.toNatClampNeg n.toNatClampNeg)))) (locs ++ L) ls ⟨by rw [Array.size_setIfInBounds, HR.1], by rw [← hset]; exact HR.2.1.set (a_wl_D G h) ha1 (show (H.setIfInBounds (G.1 + d) _)[G.1 + d]? = some _ by simp [Array.getElem?_setIfInBounds, hl]) oq, hok⟩
          ⟨by simp; exact HS.1, fun z g1 g2 => by
            rw [oq z (fun e => g2 (by rw [e]; show G.1 ≤ _; omega))]
            exact HS.2.1 z g1 g2, fun z hz => by
            rcases List.mem_append.mp hz with h | h
            · exact HS.2.2 z h
            · show G.1 ≤ z.base
              rw [hL z h]
              omega⟩ HL
        obtain ⟨t, a1, b1⟩ := k1 _ (fun z hz => by
          obtain ⟨w, -, hw⟩ := List.mem_map.mp hz
          rw [← hw]) _ hheap X'
        exact ⟨t, step t a1, b1⟩
      · cases hs
    · cases hs
  · cases hs
theorem a_s_op2 (C : a_Cx p R s m args meth c G sc i) {ins : Instr} {f : Int32 → Int32 → Int32} {r : Nat × a_Lc × List Value × a_Hp} (hi : (ins = .iadd ∧ f = fun (x y : Int32) => x + y) ∨ (ins = .isub ∧ f = fun (x y : Int32) => x - y) ∨ (ins = .imul ∧ f = fun (x y : Int32) => x * y) ∨ (ins = .iand ∧ f = fun (x y : Int32) => x &&& y) ∨ (ins = .ior ∧ f = fun (x y : Int32) => x ||| y) ∨ (ins = .ixor ∧ f = fun (x y : Int32) => x ^^^ y) ∨ (ins = .ishl ∧ f = fun (x y : Int32) => x <<< (y &&& 31)) ∨ (ins = .ishr ∧ f = fun (x y : Int32) => x >>> (y &&& 31)) ∨ (ins = .iushr ∧ f = fun (x y : Int32) => (x.toUInt32 >>> (y.toUInt32 &&& Int32.toUInt32 31)).toInt32))
    (hd : decode (a_bytes i) pc = .ok (ins, 1)) (hs : a_op2 f (pc + 1) lc st h = some (.inl r))
    (HR : a_HR G h H) (HS : va_S (fun q => G.1 ≤ q) s.heap H locs) (HL : a_LR G lc ls (a_maxL i)) (kk : a_KK p l e R s m args below meth c Q G n0 s0 i r) : a_WW p l e R s m args below meth c Q G n0 s0 h H locs pc ls st := by
  obtain ⟨hx, hb, -⟩ := C
  unfold a_op2 at hs
  split at hs
  · obtain rfl := a_nx_inv hs
    have k1 := kk H locs ls HR HS HL
    rcases hi with ⟨rfl, rfl⟩ | ⟨rfl, rfl⟩ | ⟨rfl, rfl⟩ | ⟨rfl, rfl⟩ | ⟨rfl, rfl⟩ | ⟨rfl, rfl⟩ | ⟨rfl, rfl⟩ | ⟨rfl, rfl⟩ | ⟨rfl, rfl⟩
    · exact lv_iadd hx hb hd k1
    · exact lv_isub hx hb hd k1
    · exact lv_imul hx hb hd k1
    · exact lv_iand hx hb hd k1
    · exact lv_ior hx hb hd k1
    · exact lv_ixor hx hb hd k1
    · exact lv_ishl hx hb hd k1
    · exact lv_ishr hx hb hd k1
    · exact lv_iushr hx hb hd rfl k1
  · cases hs
theorem a_s_opd (C : a_Cx p R s m args meth c G sc i) {ins : Instr} {f : Int32 → Int32 → Int32} {r : Nat × a_Lc × List Value × a_Hp} (hi : (ins = .idiv ∧ f = fun (x y : Int32) => x / y) ∨ (ins = .irem ∧ f = fun (x y : Int32) => x - x / y * y))
    (hd : decode (a_bytes i) pc = .ok (ins, 1)) (hs : a_opd f (pc + 1) lc st h = some (.inl r))
    (HR : a_HR G h H) (HS : va_S (fun q => G.1 ≤ q) s.heap H locs) (HL : a_LR G lc ls (a_maxL i)) (kk : a_KK p l e R s m args below meth c Q G n0 s0 i r) : a_WW p l e R s m args below meth c Q G n0 s0 h H locs pc ls st := by
  obtain ⟨hx, hb, -⟩ := C
  unfold a_opd at hs
  split at hs
  · split at hs
    · cases hs
    · rename_i hy
      obtain rfl := a_nx_inv hs
      have k1 := kk H locs ls HR HS HL
      rcases hi with ⟨rfl, rfl⟩ | ⟨rfl, rfl⟩
      · exact lv_idiv hx hb hd hy k1
      · exact lv_irem hx hb hd hy k1
  · cases hs
theorem a_s_if (C : a_Cx p R s m args meth c G sc i) {cc : Jvm.ClassFile.Cond} {off : Int} {a : Nat} {x : Int32} (hd : decode (a_bytes i) pc = .ok (.ifCond cc off, 3)) (ha : (pc : Int) + off = (a : Int))
    (HR : a_HR G h H) (HS : va_S (fun q => G.1 ≤ q) s.heap H locs) (HL : a_LR G lc ls (a_maxL i)) (kk : a_KK p l e R s m args below meth c Q G n0 s0 i (if a_cmp cc x 0 = true then a else pc + 3, lc, st, h)) : a_WW p l e R s m args below meth c Q G n0 s0 h H locs pc ls (.int x :: st) := by
  obtain ⟨hx, hb, -⟩ := C
  have k1 := kk H locs ls HR HS HL
  unfold a_WW at k1 ⊢
  dsimp only at k1
  rw [List.map_cons, a_cv_int]
  cases cc with
  | eq => exact lv_if_eq hx hb hd ha (fun q => by rw [if_pos (by simp [a_cmp]; exact q)] at k1; exact k1) (fun q => by rw [if_neg (by simp [a_cmp]; exact q)] at k1; exact k1)
  | ne => exact lv_if_ne hx hb hd ha (fun q => by rw [if_pos (by simp [a_cmp]; exact q)] at k1; exact k1) (fun q => by rw [if_neg (by simp [a_cmp]; exact q)] at k1; exact k1)
  | lt => exact lv_if_lt hx hb hd ha (fun q => by rw [if_pos (by simp [a_cmp]; exact q)] at k1; exact k1) (fun q => by rw [if_neg (by simpa [a_cmp] using q)] at k1; exact k1)
  | ge => exact lv_if_ge hx hb hd ha (fun q => by rw [if_pos (by simp [a_cmp]; exact q)] at k1; exact k1) (fun q => by rw [if_neg (by simpa [a_cmp] using q)] at k1; exact k1)
  | gt => exact lv_if_gt hx hb hd ha (fun q => by rw [if_pos (by simp [a_cmp]; exact q)] at k1; exact k1) (fun q => by rw [if_neg (by simpa [a_cmp] using q)] at k1; exact k1)
  | le => exact lv_if_le hx hb hd ha (fun q => by rw [if_pos (by simp [a_cmp]; exact q)] at k1; exact k1) (fun q => by rw [if_neg (by simpa [a_cmp] using q)] at k1; exact k1)
theorem a_s_icmp (C : a_Cx p R s m args meth c G sc i) {cc : Jvm.ClassFile.Cond} {off : Int} {a : Nat} {x y : Int32} (hd : decode (a_bytes i) pc = .ok (.if_icmp cc off, 3)) (ha : (pc : Int) + off = (a : Int))
    (HR : a_HR G h H) (HS : va_S (fun q => G.1 ≤ q) s.heap H locs) (HL : a_LR G lc ls (a_maxL i)) (kk : a_KK p l e R s m args below meth c Q G n0 s0 i (if a_cmp cc x y = true then a else pc + 3, lc, st, h)) : a_WW p l e R s m args below meth c Q G n0 s0 h H locs pc ls (.int y :: .int x :: st) := by
  obtain ⟨hx, hb, -⟩ := C
  have k1 := kk H locs ls HR HS HL
  unfold a_WW at k1 ⊢
  dsimp only at k1
  rw [List.map_cons, List.map_cons, a_cv_int, a_cv_int]
  cases cc with
  | eq => exact lv_icmp_eq hx hb hd ha (fun q => by rw [if_pos (by simp [a_cmp]; exact q)] at k1; exact k1) (fun q => by rw [if_neg (by simp [a_cmp]; exact q)] at k1; exact k1)
  | ne => exact lv_icmp_ne hx hb hd ha (fun q => by rw [if_pos (by simp [a_cmp]; exact q)] at k1; exact k1) (fun q => by rw [if_neg (by simp [a_cmp]; exact q)] at k1; exact k1)
  | lt => exact lv_icmp_lt hx hb hd ha (fun q => by rw [if_pos (by simp [a_cmp]; exact q)] at k1; exact k1) (fun q => by rw [if_neg (by simpa [a_cmp] using q)] at k1; exact k1)
  | ge => exact lv_icmp_ge hx hb hd ha (fun q => by rw [if_pos (by simp [a_cmp]; exact q)] at k1; exact k1) (fun q => by rw [if_neg (by simpa [a_cmp] using q)] at k1; exact k1)
  | gt => exact lv_icmp_gt hx hb hd ha (fun q => by rw [if_pos (by simp [a_cmp]; exact q)] at k1; exact k1) (fun q => by rw [if_neg (by simpa [a_cmp] using q)] at k1; exact k1)
  | le => exact lv_icmp_le hx hb hd ha (fun q => by rw [if_pos (by simp [a_cmp]; exact q)] at k1; exact k1) (fun q => by rw [if_neg (by simpa [a_cmp] using q)] at k1; exact k1)
end ARS
