/-! THE CLAIM OUT OF ONE WALK OF THE LAW'S BODY. Your part is whole_start (and what it stands on); all else here is the same for every law, but numbers. -/
def R_law : String := "PreCommitHallLaw"
def lw_P (b : Addr) (xs : List Int32) (args : Array Value) (s : State) : Prop := args = #[.ref b] ∧ s.IntsAt b xs ∧ xs.length ≤ 3072 ∧ (Jvm.Cond.and given_1 narrow_1).before args s = true
def lw_Q (_ : Array Value) (s : State) (o : Outcome) (t : State) : Prop := o = .returned (some (.int 1)) ∧ Framed s o t [] 600000 7302250
def lw_Z (below : List Frame) (a : Array Value) (s : State) : State → Prop := fun t => ∃ o, t.status = .running ∧ Ended t below o ∧ lw_Q a s o t
/-- the law's own end, with 1 on the stack, nothing written that was there before, its room as the claim has it -/
theorem lw_ret {p : Program} {l : Launch} {e : Env} {s : State} {m : MethodId} {below : List Frame} {meth : Method} {c : Code} {b : Nat} (hx : p.tables.exec = Jvm.exec) (hb : c.code = code) (hr : meth.sig.returnType = ret) (hlocks : meth.locks = false) {pc : Nat} {H : Heap} {ls : Array Slot} (hdg : decode code pc = .ok (.ireturn, 1)) : W p l e room_1 s m #[Value.ref b] below meth c H [] 600000 7302250 (lw_Z below #[Value.ref b] s) (F0 m pc ls [.int 1]) := by
  intro T hT X
  obtain ⟨fs, hret, hrun, hended, hW, hframe⟩ := X.leave (v := some (.int 1)) (hlocks := hlocks) (fun h => by rw [hr] at h; cases h)
  have hmeth' : T.vm.method? m = some meth := X.method'
  refine ⟨T.setFrames fs, ?_, .returned (some (.int 1)), hrun, hended, rfl, ⟨_, rfl⟩, hW, hframe⟩
  jvm_step X.here [X.here.top, hx, hb, hdg, hmeth', hr, ret, narrow_b1]
  (try refine ⟨rfl, ?_⟩); (try refine ⟨rfl, ?_⟩)
  first | (intro acts; rw [hret _ acts rfl rfl rfl]) | rw [hret _ _ rfl rfl rfl]
  exact Steps.refl _
/-- what holds at the law's entry: the machine, the code, the tables' words (any of lw_tbl by 'hts w (by decide +kernel)'), the script of L ints xs at the cell b, what the Statement gives of the start (any of its parts by flat_of_before) -/
def lw_At (p : Program) (s : State) (m : MethodId) (meth : Method) (c : Code) (b L : Nat) (xs : Nat → Int32) : Prop :=
  p.tables.exec = Jvm.exec ∧ c.code = code ∧ meth.sig.returnType = ret ∧ c.maxLocals = 4 ∧ s.vm.findClass R_law = some m.cls ∧ (∀ w ∈ lw_tbl, w.before #[Value.ref b] s = true) ∧ va_X b L xs s s.heap ∧ b < s.heap.size ∧ meth.locks = false ∧ (Jvm.Cond.and given_1 narrow_1).before #[Value.ref b] s = true

def a_tm (k : Nat) : Term := match a_str[k]? with | some q => .string (a_cn q.1) q.2.1 | none => .string "" 0
def a_nwl (k : Nat) : List Cond := [.exactly (a_tm k) "java/lang/String", .eq (.field (a_tm k) "java/lang/String" "coder" "B") (.int 0), .arrayOf (.field (a_tm k) "java/lang/String" "value" "[B") .byte, .eq (.length (.field (a_tm k) "java/lang/String" "value" "[B")) (.int (Int32.ofNat (a_byt.getD k []).length))] ++
  (List.range (a_byt.getD k []).length).map (fun j => .eq (.elem (.field (a_tm k) "java/lang/String" "value" "[B") (.int (Int32.ofNat j))) (.int ((a_byt.getD k []).getD j 0)))
def a_flat : List Cond := flatC (Jvm.Cond.and given_1 narrow_1)
theorem a_nwl_in : a_sub ((List.range 36).flatMap a_nwl) a_flat = true := by decide +kernel
theorem a_sref_in : a_sub (a_str.map (fun q => (Cond.stringRef (a_cn q.1) q.2.1 q.2.2))) lw_tbl = true := by decide +kernel
theorem a_x1 : a_sub [Cond.laysStatic "java/lang/String" "COMPACT_STRINGS" "Z"] lw_tbl = true := by decide +kernel
theorem a_x2 : a_sub [Cond.laysStatic "jdk/internal/util/Preconditions" "SIOOBE_FORMATTER" "Ljava/util/function/BiFunction;"] lw_tbl = true := by decide +kernel
theorem a_x3 : a_sub [Cond.initialized "java/lang/String", Cond.initialized "jdk/internal/util/Preconditions"] lw_tbl = true := by decide +kernel
theorem a_x4 : a_sub [Cond.arrayOver (.object "PreCommitHall$Hall")] lw_tbl = true := by decide +kernel
theorem a_x5 : a_sub [Cond.methodLinkNest "PreCommitHall" 51 ⟨"PreCommitHall$Draws", "<init>", "()V"⟩ "PreCommitHall"] lw_tbl = true := by decide +kernel
theorem a_x6 : a_sub [Cond.eq (.static "java/lang/String" "COMPACT_STRINGS" "Z") (.int 1), Cond.isRef (.static "jdk/internal/util/Preconditions" "SIOOBE_FORMATTER" "Ljava/util/function/BiFunction;")] a_flat = true := by decide +kernel
theorem a_law_bytes : a_bytes 262 = code := by rfl
def a_h0 (L : Nat) (xs : Nat → Int32) : a_Hp := ([], fun _ _ => none, fun _ _ => 0, L + 1, xs)
theorem a_bytlen : ∀ k, k < 36 → (a_byt.getD k []).length < 2 ^ 31 := by decide +kernel
/-- the law's start out of a run of the abstract machine -/
theorem a_start {p : Program} {e : Env} {s : State} {m : MethodId} {below : List Frame} {meth : Method} {c : Code} (l : Launch) {b L : Nat} {xs : Nat → Int32} (C0 : lw_At p s m meth c b L xs) {f : Nat} {h' : a_Hp}
    (hrun : a_ex f 262 0 (a_ent 262 [.ref (a_CB + 1000)]) [] (a_h0 L xs) = some (some (.int 1), h')) (hc1 : h'.1.length ≤ 600000) (hc2 : a_hs h' ≤ 7302250) :
    W p l e room_1 s m #[Value.ref b] below meth c s.heap [] 0 0 (lw_Z below #[Value.ref b] s) (entryFrame m ([Value.ref b] : List Value).toArray 4) := by
  obtain ⟨hx, hb, hr, hml, hown, hts, hX, hbl, hlocks, hgv⟩ := id C0
  have hfl := flat_of_before _ hgv
  have hA : ∀ a : Nat, a < s.heap.size → ¬ s.heap.size ≤ a := fun a h => by omega
  -- the classes
  have h0 : ∀ k : Nat, ∃ q : ClassId × (Nat → Nat), k < 9 → u_Kn s (a_cn k) (a_T k) (a_fn k) q.1 q.2 := by
    intro k
    by_cases hk : k < 9
    · obtain ⟨cC, iS, g⟩ := u_known (C := a_cn k) (T := a_T k) (N := a_fn k) (n := a_fn k) hts (fun w hw => (List.mem_filter.mp (a_lays hk w hw)).1) (hts _ (List.mem_filter.mp (a_i_inst2 (a_e_inst2 k hk))).1)
      exact ⟨(cC, iS), fun _ => g⟩
    · exact ⟨(0, fun _ => 0), fun h => absurd h hk⟩
  obtain ⟨dd, hdd⟩ := Classical.axiomOfChoice h0
  -- the arrays' classes
  have harr : ∀ ty : FieldType, (Cond.arrayClass ty) ∈ a_W → ∃ cA : ClassId, ArrOfT s cA ty ∧ s.vm.findClass ("[" ++ ty.toString) = some cA := by
    intro ty hw
    obtain ⟨cA, kA, comp, h1, h2, h3⟩ := Cond.arrayClass_spec (hts _ (List.mem_filter.mp hw).1)
    exact ⟨cA, fun n z => ⟨fun k h => (by cases h), kA, h2, comp, h3⟩, h1⟩
  obtain ⟨cI, hI1, hI2⟩ := harr .int a_x_arrI
  obtain ⟨cB, hB1, hB2⟩ := harr .byte a_x_arrB
  obtain ⟨cZ, hZ1, hZ2⟩ := harr .boolean a_x_arrZ
  have hover : (Cond.arrayOver (.object "PreCommitHall$Hall")).before #[Value.ref b] s = true := hts _ (a_sub_mem _ _ a_x4 _ List.mem_cons_self)
  obtain ⟨comp, cH, kH, hH1, -, hH3, hH4, hH5⟩ := Cond.arrayOver_spec hover
  -- the String constants
  have hstr : ∀ k : Nat, ∃ q : Nat × Nat, k < 36 → (a_tm k).eval #[Value.ref b] s none [] s = some (.ref q.1) ∧ va_O "java/lang/String" q.1 (fun a => s.heap.size ≤ a) s s.heap ∧ va_OF "java/lang/String" "coder" "B" (.int 0) q.1 (fun a => s.heap.size ≤ a) s s.heap ∧ va_OF "java/lang/String" "value" "[B" (.ref q.2) q.1 (fun a => s.heap.size ≤ a) s s.heap ∧ va_T .byte q.2 (a_byt.getD k []).length (fun j => .int ((a_byt.getD k []).getD j 0)) (fun a => s.heap.size ≤ a) s s.heap := by
    intro k
    by_cases hk : k < 36
    · have hin : ∀ w ∈ a_nwl k, w.before #[Value.ref b] s = true := fun w hw => hfl w (a_sub_mem _ _ a_nwl_in w (List.mem_flatMap.mpr ⟨k, List.mem_range.mpr hk, hw⟩))
      have hex : (Cond.exactly (a_tm k) "java/lang/String").before #[Value.ref b] s = true := hin _ (by simp [a_nwl])
      have hco : (Cond.eq (.field (a_tm k) "java/lang/String" "coder" "B") (.int 0)).before #[Value.ref b] s = true := hin _ (by simp [a_nwl])
      have har : (Cond.arrayOf (.field (a_tm k) "java/lang/String" "value" "[B") .byte).before #[Value.ref b] s = true := hin _ (by simp [a_nwl])
      have hle : (Cond.eq (.length (.field (a_tm k) "java/lang/String" "value" "[B")) (.int (Int32.ofNat (a_byt.getD k []).length))).before #[Value.ref b] s = true := hin _ (by simp [a_nwl])
      have hel : ∀ j : Nat, j < (a_byt.getD k []).length → (Cond.eq (.elem (.field (a_tm k) "java/lang/String" "value" "[B") (.int (Int32.ofNat j))) (.int ((a_byt.getD k []).getD j 0))).before #[Value.ref b] s = true := fun j hj => hin _ (List.mem_append_right _ (List.mem_map.mpr ⟨j, List.mem_range.mpr hj, rfl⟩))
      obtain ⟨a, c', cA, kA, q1, q2, q3, q4, q5, q6, -⟩ := Cond.exactly_spec (args := #[Value.ref b]) (first := s) (o := none) (s := s) (idx := []) (t := a_tm k) (cls := "java/lang/String") hex
      obtain ⟨t, ht, hT⟩ := va_Tof (f := fun j => .int ((a_byt.getD k []).getD j 0)) (A := fun a => s.heap.size ≤ a) (a_bytlen k hk) har (va_eqt hle) (fun j hj => va_eqt (hel j hj)) hA
      exact ⟨(a, t), fun _ => ⟨q1, ⟨cA, q3, q5, by rw [q6]; exact q2, hA a (Array.getElem?_eq_some_iff.mp q3).1⟩, vk_OFof q1 (va_eqt hco) hA, vk_OFof q1 ht hA, hT⟩⟩
    · exact ⟨(0, 0), fun h => absurd h hk⟩
  obtain ⟨ad, had⟩ := Classical.axiomOfChoice hstr
  -- the statics
  have hcs : va_Z "java/lang/String" "COMPACT_STRINGS" "Z" (.int 1) (fun a => s.heap.size ≤ a) s s.heap := va_Zof (hts _ (a_sub_mem _ _ a_x1 _ List.mem_cons_self)) (hts _ (a_sub_mem _ _ a_x3 _ List.mem_cons_self)) (va_eqi (hfl _ (a_sub_mem _ _ a_x6 _ List.mem_cons_self))) hA
  have hfm0 := va_Zqof (hts _ (a_sub_mem _ _ a_x2 _ List.mem_cons_self)) (hts _ (a_sub_mem _ _ a_x3 _ (List.mem_cons_of_mem _ List.mem_cons_self))) (hfl _ (a_sub_mem _ _ a_x6 _ (List.mem_cons_of_mem _ List.mem_cons_self))) hA
  obtain ⟨ft, ff, hfm⟩ : ∃ ft ff : Nat, va_Z "jdk/internal/util/Preconditions" "SIOOBE_FORMATTER" "Ljava/util/function/BiFunction;" (if ff = 0 then .null else .ref ft) (fun a => s.heap.size ≤ a) s s.heap := by
    rcases hfm0 with h | ⟨t, h⟩
    · exact ⟨0, 0, h⟩
    · exact ⟨t, 1, h⟩
  -- the world
  obtain ⟨ga, hga⟩ : ∃ ga : Nat → Nat, ga = fun n => if n = 1000 then b else if n = 1001 then ft else if n = 1002 then ff else if n % 2 = 0 then (ad (n / 2)).1 else (ad (n / 2)).2 := ⟨_, rfl⟩
  obtain ⟨G, hG⟩ : ∃ G : a_G, G = (s.heap.size, ga, (fun k => (dd k).1, fun k => (dd k).2), cI, cB, cZ, cH) := ⟨_, rfl⟩
  have g1000 : ga 1000 = b := by rw [hga]; rfl
  have gfm : a_fmt G = (if ff = 0 then .null else .ref ft) := by rw [hG, hga]; rfl
  have hK : a_K G (L + 1, xs) s := by
    refine ⟨by rw [hG]; exact Nat.le_refl _, ⟨fun k q hq => ?_, fun k q hq => ?_⟩, fun k hk => ?_, ?_, ?_, ?_, ?_, va_AO.of hover, va_Nw.of rfl (hts _ (a_sub_mem _ _ a_x5 _ List.mem_cons_self))⟩
    · have hk : k < 9 := (List.getElem?_eq_some_iff.mp hq).1
      cases (a_cls k hk).symm.trans hq
      rw [hG]
      exact hdd k hk
    · rw [hG] at hq
      match k, hq with
      | 0, hq => cases hq; exact ⟨hI1, hI2⟩
      | 1, hq => cases hq; exact ⟨hB1, hB2⟩
      | 2, hq => cases hq; exact ⟨hZ1, hZ2⟩
      | 3, hq => cases hq; exact ⟨fun n z => ⟨fun k h => (by cases h), kH, hH3, comp, hH4⟩, kH, comp, hH3, hH4, hH1, hH5⟩
      | k + 4, hq => simp [a_tys] at hq
    · obtain ⟨e1, e2, e3, e4, e5⟩ := had k hk
      have g1 : G.2.1 (2 * k) = (ad k).1 := by
        rw [hG, hga]
        dsimp only
        rw [if_neg (by omega), if_neg (by omega), if_neg (by omega), if_pos (by omega), show 2 * k / 2 = k by omega]
      have g2 : G.2.1 (2 * k + 1) = (ad k).2 := by
        rw [hG, hga]
        dsimp only
        rw [if_neg (by omega), if_neg (by omega), if_neg (by omega), if_neg (by omega), show (2 * k + 1) / 2 = k by omega]
      unfold a_strk
      rw [g1, g2, hG]
      obtain ⟨q, hq⟩ : ∃ q, a_str[k]? = some q := ⟨_, List.getElem?_eq_getElem (by rw [a_strlen]; exact hk)⟩
      refine ⟨e2, e3, e4, e5, q, hq, ?_⟩
      have e1' : (Term.string (a_cn q.1) q.2.1).eval #[Value.ref b] s none [] s = some (.ref (ad k).1) := by
        unfold a_tm at e1
        rw [hq] at e1
        exact e1
      exact vk_R.of (A := #[Value.ref b]) (hts _ (a_sub_mem _ _ a_sref_in _ (List.mem_map.mpr ⟨q, List.mem_of_getElem? hq, rfl⟩))) e1'
    · rw [hG]; show va_X (ga 1000) (L + 1 - 1) xs s s.heap; rw [g1000, Nat.add_sub_cancel]; exact hX
    · rw [hG]; show ga 1000 < s.heap.size; rw [g1000]; exact hbl
    · rw [hG]; exact hcs
    · rw [gfm, hG]; exact hfm
  have C : a_Cx p room_1 s m #[Value.ref b] meth c G (L + 1, xs) 262 := ⟨hx, by rw [a_law_bytes]; exact hb, hml, hown, fun w hw => hts w (List.mem_filter.mp hw).1, hK, fun q => absurd q (by decide +kernel), by omega, by show a_FR 262 ≤ 13; decide +kernel, by show a_LO 262 ≤ 518; decide +kernel⟩
  have e1 : ([Value.ref b] : List Value) = ([.ref (a_CB + 1000)] : List Value).map (a_cv G) := by
    rw [List.map_cons, a_cv_ref, a_ad_str, hG]
    show _ = [Value.ref (ga 1000)]
    rw [g1000]
  rw [lg_entry_eq]
  have k1 := a_main l G (L + 1, xs) f (p := p) (e := e) (below := below) (Q := lw_Z below #[Value.ref b] s) (n0 := 0) (s0 := 0) C hrun rfl ⟨Nat.zero_le _, Nat.zero_le _⟩ ⟨hc1, hc2⟩ (H := s.heap) (locs := []) ⟨by rw [hG]; rfl, fun k q hq => by simp [a_wl, a_h0] at hq, Nat.zero_le _, fun o k n ho => by simp [a_h0] at ho⟩ va_S.rf (a_entLR G (j := 262) (as := [.ref (a_CB + 1000)]) (by decide +kernel)) ?_
  · rw [← e1] at k1
    exact k1
  · intro H' locs' ls' pc' HR' HS' hE
    obtain ⟨g1, -⟩ := hE
    unfold a_WW
    refine va_forget (fun q hq => by have := HS'.2.2 q hq; rw [hG] at this; exact this) ?_
    refine W.widen (k := 600000) (n := 7302250) (by show h'.1.length - 0 ≤ _; omega) (by omega) ?_
    rw [a_law_bytes] at g1
    exact lw_ret hx hb hr hlocks g1
