/-! the methods of the reference as functions, by program -/
def s_191_144 (n : Nat) : Nat → HA → Nat → Nat → Nat → Nat → HA
  | 0, A, _, _, _, _ => A
  | d + 1, A, l1, l3, l5, l6 => (if n ≤ l6 then (if l1 = 0 then ((a_up (s_170 n A l1) 6 2 3)) else ((s_170 n A l1))) else (if l6 = l1 then (s_191_144 n d A l1 l3 l5 (l6 + 1)) else (if ((l3 >>> l6) &&& 1) = 1 then (if ((s_169 n A l1 l6).1) = 0 then (s_191_144 n d (s_169 n A l1 l6).2 l1 l3 l5 (l6 + 1)) else (s_191_144 n d (bec ((s_169 n A l1 l6).2) l6 l5) l1 l3 l5 (l6 + 1))) else (s_191_144 n d A l1 l3 l5 (l6 + 1)))))
theorem c_191_144 {sc : a_Sc} {fd : Nat} {Q : Option Value → a_Hp → Prop} {n : Nat} : ∀ (d : Nat) {M : a_Mm} {A : HA} {l1 l3 l5 l6 : Nat} (r : RM M n A) (hl1 : l1 ≤ 4) (hl3 : l3 ≤ 31) (hl5 : l5 ≤ 5) (hl6 : l6 ≤ 5) (i0 : l1 < n) (i1 : l6 ≤ n) (hm : n - l6 < d) (k : MV Q sc fd M n (s_191_144 n d A l1 l3 l5 l6)), a_Ex 191 144 [some (.ref 170), some (.int (N l1)), none, some (.int (N l3)), none, some (.int (N l5)), some (.int (N l6))] [] (a_hp sc fd M) Q := by
  intro d
  induction d with
  | zero => intro M A l1 l3 l5 l6 r hl1 hl3 hl5 hl6 i0 i1 hm k; exact absurd hm (Nat.not_lt_zero _)
  | succ d ih =>
      intro M A l1 l3 l5 l6 r hl1 hl3 hl5 hl6 i0 i1 hm k
      unfold s_191_144 at k
      have n5 := r.n5
      have n2 := r.n2
      refine x_iload i_191_144 rfl ?_
      refine x_aload_n i_191_146 rfl ?_
      refine x_gr i_191_147 ob_170 gr_8_1.1 gr_8_1.2 (rt_170_1 _) ?_
      refine n_iconst 0 i_191_150 rfl ?_
      refine n_ld (x := n) i_191_151 ar_171 (by omega) (by omega) r.nn ?_
      refine x_igeN (by omega) (by omega) i_191_152 ⟨fun g1 => ?_, fun g1 => ?_⟩
      · have k := kp g1 k
        refine x_aload_n i_191_194 rfl ?_
        refine x_iload_n i_191_195 rfl ?_
        refine x_vh (r := []) (lj := [some _, some _]) i_191_196 w_170 ob_170 [_] rfl rfl (Nat.le_of_ble_eq_true rfl) (Nat.le_of_ble_eq_true rfl) rfl ?_
        refine c_170 r (by omega) (by omega) (fun M2 r2 f2 => rt_n ?_)
        refine x_iload_n i_191_199 rfl ?_
        refine x_zneN (by omega) i_191_200 ⟨fun g3 => ?_, fun g3 => ?_⟩
        · have k := kn g3 k
          refine x_vret i_191_210 rn_191 ?_
          exact k _ r2 f2
        · have k := kp g3 k
          refine x_aload_n i_191_203 rfl ?_
          refine x_gr i_191_204 ob_170 gr_8_1.1 gr_8_1.2 (rt_170_1 _) ?_
          refine n_iconst 2 i_191_207 rfl ?_
          refine n_iconst 3 i_191_208 rfl ?_
          refine n_stM i_191_209 r2 2 (by omega) rfl (by unfold okf; omega) (fun M4 r4 f4 => ?_)
          refine x_vret i_191_210 rn_191 ?_
          exact k _ r4 (f2.trans f4)
      · have k := kn g1 k
        refine x_iload i_191_155 rfl ?_
        refine x_iload_n i_191_157 rfl ?_
        refine x_ieqN (by omega) (by omega) i_191_158 ⟨fun g5 => ?_, fun g5 => ?_⟩
        · have k := kp g5 k
          refine n_iinc 1 i_191_188 rfl rfl rfl rfl ?_
          refine x_goto i_191_191 ?_
          exact ih r (by omega) (by omega) (by omega) (by omega) (by omega) (by omega) (by omega) k
        · have k := kn g5 k
          refine x_iload_n i_191_161 rfl ?_
          refine x_iload i_191_162 rfl ?_
          refine x_sh (r := []) (lj := [some _, some _]) i_191_164 ws_161 [_, _] rfl rfl (Nat.le_of_ble_eq_true rfl) (Nat.le_of_ble_eq_true rfl) rfl ?_
          refine x_iload_n i_161_0 rfl ?_
          refine x_iload_n i_161_1 rfl ?_
          refine x_ishrN (by omega) (by omega) i_161_2 ?_
          refine n_iconst 1 i_161_3 rfl ?_
          refine x_iandN i_161_4 ?_
          refine n_iconst 1 i_161_5 rfl ?_
          have q6 : l3 >>> l6 ≤ l3 := shr_le _ _
          have q7 : (l3 >>> l6) &&& 1 ≤ 1 := Nat.le_trans Nat.and_le_right (by omega)
          have q8 : (l3 >>> l6) &&& 1 ≤ (l3 >>> l6) := Nat.and_le_left
          refine x_ineN (by omega) (by omega) i_161_6 ⟨fun g9 => ?_, fun g9 => ?_⟩
          · have k := kn g9 k
            refine n_iconst 0 i_161_13 rfl ?_
            refine x_iretI i_161_14 rn_161 (by decide +kernel) ?_
            refine x_ifT i_191_167 (by decide +kernel) ?_
            refine n_iinc 1 i_191_188 rfl rfl rfl rfl ?_
            refine x_goto i_191_191 ?_
            exact ih r (by omega) (by omega) (by omega) (by omega) (by omega) (by omega) (by omega) k
          · have k := kp g9 k
            refine n_iconst 1 i_161_9 rfl ?_
            refine x_goto i_161_10 ?_
            refine x_iretI i_161_14 rn_161 (by decide +kernel) ?_
            refine x_ifF i_191_167 (by decide +kernel) ?_
            refine x_aload_n i_191_170 rfl ?_
            refine x_iload_n i_191_171 rfl ?_
            refine x_iload i_191_172 rfl ?_
            refine x_vh (r := []) (lj := [some _, some _, some _]) i_191_174 w_169 ob_170 [_, _] rfl rfl (Nat.le_of_ble_eq_true rfl) (Nat.le_of_ble_eq_true rfl) rfl ?_
            refine c_169 r (by omega) (by omega) (by omega) (by omega) (fun q10 M10 r10 f10 => rt_i ?_)
            refine x_zeqN (by omega) i_191_177 ⟨fun g11 => ?_, fun g11 => ?_⟩
            · have k := kp g11 k
              refine n_iinc 1 i_191_188 rfl rfl rfl rfl ?_
              refine x_goto i_191_191 ?_
              exact ih r10 (by omega) (by omega) (by omega) (by omega) (by omega) (by omega) (by omega) (k.tr f10)
            · have k := kn g11 k
              refine x_aload_n i_191_180 rfl ?_
              refine x_iload i_191_181 rfl ?_
              refine x_iload i_191_183 rfl ?_
              refine x_vh (r := []) (lj := [some _, some _, some _, none]) i_191_185 w_168 ob_170 [_, _] rfl rfl (Nat.le_of_ble_eq_true rfl) (Nat.le_of_ble_eq_true rfl) rfl ?_
              refine c_168 r10 (by omega) (by omega) (by omega) (fun M12 r12 f12 => rt_n ?_)
              refine n_iinc 1 i_191_188 rfl rfl rfl rfl ?_
              refine x_goto i_191_191 ?_
              exact ih r12 (by omega) (by omega) (by omega) (by omega) (by omega) (by omega) (by omega) (k.tr (f10.trans f12))
def s_191_44 (n : Nat) : Nat → HA → Nat → Nat → Nat → Nat → Nat → Nat → HA
  | 0, A, _, _, _, _, _, _ => A
  | d + 1, A, l1, l2, l3, l4, l5, l6 => (if n ≤ l6 then (if N (((s_170 n A l1)) 9 9) = 0 then (if l2 = 1 then (s_191_144 n (6) (bec ((s_170 n A l1)) l1 4) l1 l3 4 0) else (if l2 = 2 then (s_191_144 n (6) (bec ((s_170 n A l1)) l1 4) l1 l3 4 0) else (s_191_144 n (6) (bec ((s_170 n A l1)) l1 5) l1 l3 5 0))) else ((s_170 n A l1))) else (if l6 = l1 then (s_191_44 n d A l1 l2 l3 l4 l5 (l6 + 1)) else (if ((l3 >>> l6) &&& 1) = 1 then (if ((s_169 n A l1 l6).1) = 0 then (s_191_44 n d (s_169 n A l1 l6).2 l1 l2 l3 l4 l5 (l6 + 1)) else (if ((l4 >>> l6) &&& 1) = 1 then (s_191_44 n d (bec ((s_169 n A l1 l6).2) l6 l5) l1 l2 l3 l4 l5 (l6 + 1)) else (s_191_44 n d (s_169 n A l1 l6).2 l1 l2 l3 l4 l5 (l6 + 1)))) else (s_191_44 n d A l1 l2 l3 l4 l5 (l6 + 1)))))
theorem c_191_44 {sc : a_Sc} {fd : Nat} {Q : Option Value → a_Hp → Prop} {n : Nat} : ∀ (d : Nat) {M : a_Mm} {A : HA} {l1 l2 l3 l4 l5 l6 : Nat} (r : RM M n A) (hl1 : l1 ≤ 4) (hl2 : l2 ≤ 3) (hl3 : l3 ≤ 31) (hl4 : l4 ≤ 31) (hl5 : l5 ≤ 5) (hl6 : l6 ≤ 5) (i0 : l1 < n) (i1 : l6 ≤ n) (hm : n - l6 < d) (k : MV Q sc fd M n (s_191_44 n d A l1 l2 l3 l4 l5 l6)), a_Ex 191 44 [some (.ref 170), some (.int (N l1)), some (.int (N l2)), some (.int (N l3)), some (.int (N l4)), some (.int (N l5)), some (.int (N l6))] [] (a_hp sc fd M) Q := by
  intro d
  induction d with
  | zero => intro M A l1 l2 l3 l4 l5 l6 r hl1 hl2 hl3 hl4 hl5 hl6 i0 i1 hm k; exact absurd hm (Nat.not_lt_zero _)
  | succ d ih =>
      intro M A l1 l2 l3 l4 l5 l6 r hl1 hl2 hl3 hl4 hl5 hl6 i0 i1 hm k
      unfold s_191_44 at k
      have n5 := r.n5
      have n2 := r.n2
      refine x_iload i_191_44 rfl ?_
      refine x_aload_n i_191_46 rfl ?_
      refine x_gr i_191_47 ob_170 gr_8_1.1 gr_8_1.2 (rt_170_1 _) ?_
      refine n_iconst 0 i_191_50 rfl ?_
      refine n_ld (x := n) i_191_51 ar_171 (by omega) (by omega) r.nn ?_
      refine x_igeN (by omega) (by omega) i_191_52 ⟨fun g1 => ?_, fun g1 => ?_⟩
      · have k := kp g1 k
        refine x_aload_n i_191_104 rfl ?_
        refine x_iload_n i_191_105 rfl ?_
        refine x_vh (r := []) (lj := [some _, some _]) i_191_106 w_170 ob_170 [_] rfl rfl (Nat.le_of_ble_eq_true rfl) (Nat.le_of_ble_eq_true rfl) rfl ?_
        refine c_170 r (by omega) (by omega) (fun M2 r2 f2 => rt_n ?_)
        refine x_aload_n i_191_109 rfl ?_
        refine n_gi (x := ((s_170 n A l1)) 9 9) i_191_110 ob_170 gf_8_9.1 gf_8_9.2 (r2.g (by omega)) ?_
        refine x_zeq i_191_113 ⟨fun g3 => ?_, fun g3 => ?_⟩
        · have k := kp g3 k
          refine x_iload_n i_191_117 rfl ?_
          refine n_iconst 1 i_191_118 rfl ?_
          refine x_ieqN (by omega) (by omega) i_191_119 ⟨fun g4 => ?_, fun g4 => ?_⟩
          · have k := kp g4 k
            refine n_iconst 4 i_191_127 rfl ?_
            refine x_goto i_191_128 ?_
            refine x_istore i_191_132 rfl rfl ?_
            refine x_aload_n i_191_134 rfl ?_
            refine x_iload_n i_191_135 rfl ?_
            refine x_iload i_191_136 rfl ?_
            refine x_vh (r := []) (lj := [some _, some _, some _, none]) i_191_138 w_168 ob_170 [_, _] rfl rfl (Nat.le_of_ble_eq_true rfl) (Nat.le_of_ble_eq_true rfl) rfl ?_
            refine c_168 r2 (by omega) (by omega) (by omega) (fun M5 r5 f5 => rt_n ?_)
            refine n_iconst 0 i_191_141 rfl ?_
            refine x_istore i_191_142 rfl rfl ?_
            refine x_wk (a_wk.s (a_wk.s (a_wk.d rfl (a_wk.s (a_wk.d rfl (a_wk.s (a_wk.s a_wk.n))))))) ?_
            exact c_191_144 (6) r5 (by omega) (by omega) (by omega) (by omega) (by omega) (by omega) (by omega) (k.tr (f2.trans f5))
          · have k := kn g4 k
            refine x_iload_n i_191_122 rfl ?_
            refine n_iconst 2 i_191_123 rfl ?_
            refine x_ineN (by omega) (by omega) i_191_124 ⟨fun g6 => ?_, fun g6 => ?_⟩
            · have k := kn g6 k
              refine n_iconst 5 i_191_131 rfl ?_
              refine x_istore i_191_132 rfl rfl ?_
              refine x_aload_n i_191_134 rfl ?_
              refine x_iload_n i_191_135 rfl ?_
              refine x_iload i_191_136 rfl ?_
              refine x_vh (r := []) (lj := [some _, some _, some _, none]) i_191_138 w_168 ob_170 [_, _] rfl rfl (Nat.le_of_ble_eq_true rfl) (Nat.le_of_ble_eq_true rfl) rfl ?_
              refine c_168 r2 (by omega) (by omega) (by omega) (fun M7 r7 f7 => rt_n ?_)
              refine n_iconst 0 i_191_141 rfl ?_
              refine x_istore i_191_142 rfl rfl ?_
              refine x_wk (a_wk.s (a_wk.s (a_wk.d rfl (a_wk.s (a_wk.d rfl (a_wk.s (a_wk.s a_wk.n))))))) ?_
              exact c_191_144 (6) r7 (by omega) (by omega) (by omega) (by omega) (by omega) (by omega) (by omega) (k.tr (f2.trans f7))
            · have k := kp g6 k
              refine n_iconst 4 i_191_127 rfl ?_
              refine x_goto i_191_128 ?_
              refine x_istore i_191_132 rfl rfl ?_
              refine x_aload_n i_191_134 rfl ?_
              refine x_iload_n i_191_135 rfl ?_
              refine x_iload i_191_136 rfl ?_
              refine x_vh (r := []) (lj := [some _, some _, some _, none]) i_191_138 w_168 ob_170 [_, _] rfl rfl (Nat.le_of_ble_eq_true rfl) (Nat.le_of_ble_eq_true rfl) rfl ?_
              refine c_168 r2 (by omega) (by omega) (by omega) (fun M8 r8 f8 => rt_n ?_)
              refine n_iconst 0 i_191_141 rfl ?_
              refine x_istore i_191_142 rfl rfl ?_
              refine x_wk (a_wk.s (a_wk.s (a_wk.d rfl (a_wk.s (a_wk.d rfl (a_wk.s (a_wk.s a_wk.n))))))) ?_
              exact c_191_144 (6) r8 (by omega) (by omega) (by omega) (by omega) (by omega) (by omega) (by omega) (k.tr (f2.trans f8))
        · have k := kn g3 k
          refine x_vret i_191_116 rn_191 ?_
          exact k _ r2 f2
      · have k := kn g1 k
        refine x_iload i_191_55 rfl ?_
        refine x_iload_n i_191_57 rfl ?_
        refine x_ieqN (by omega) (by omega) i_191_58 ⟨fun g9 => ?_, fun g9 => ?_⟩
        · have k := kp g9 k
          refine n_iinc 1 i_191_98 rfl rfl rfl rfl ?_
          refine x_goto i_191_101 ?_
          exact ih r (by omega) (by omega) (by omega) (by omega) (by omega) (by omega) (by omega) (by omega) (by omega) k
        · have k := kn g9 k
          refine x_iload_n i_191_61 rfl ?_
          refine x_iload i_191_62 rfl ?_
          refine x_sh (r := []) (lj := [some _, some _]) i_191_64 ws_161 [_, _] rfl rfl (Nat.le_of_ble_eq_true rfl) (Nat.le_of_ble_eq_true rfl) rfl ?_
          refine x_iload_n i_161_0 rfl ?_
          refine x_iload_n i_161_1 rfl ?_
          refine x_ishrN (by omega) (by omega) i_161_2 ?_
          refine n_iconst 1 i_161_3 rfl ?_
          refine x_iandN i_161_4 ?_
          refine n_iconst 1 i_161_5 rfl ?_
          have q10 : l3 >>> l6 ≤ l3 := shr_le _ _
          have q11 : (l3 >>> l6) &&& 1 ≤ 1 := Nat.le_trans Nat.and_le_right (by omega)
          have q12 : (l3 >>> l6) &&& 1 ≤ (l3 >>> l6) := Nat.and_le_left
          refine x_ineN (by omega) (by omega) i_161_6 ⟨fun g13 => ?_, fun g13 => ?_⟩
          · have k := kn g13 k
            refine n_iconst 0 i_161_13 rfl ?_
            refine x_iretI i_161_14 rn_161 (by decide +kernel) ?_
            refine x_ifT i_191_67 (by decide +kernel) ?_
            refine n_iinc 1 i_191_98 rfl rfl rfl rfl ?_
            refine x_goto i_191_101 ?_
            exact ih r (by omega) (by omega) (by omega) (by omega) (by omega) (by omega) (by omega) (by omega) (by omega) k
          · have k := kp g13 k
            refine n_iconst 1 i_161_9 rfl ?_
            refine x_goto i_161_10 ?_
            refine x_iretI i_161_14 rn_161 (by decide +kernel) ?_
            refine x_ifF i_191_67 (by decide +kernel) ?_
            refine x_aload_n i_191_70 rfl ?_
            refine x_iload_n i_191_71 rfl ?_
            refine x_iload i_191_72 rfl ?_
            refine x_vh (r := []) (lj := [some _, some _, some _]) i_191_74 w_169 ob_170 [_, _] rfl rfl (Nat.le_of_ble_eq_true rfl) (Nat.le_of_ble_eq_true rfl) rfl ?_
            refine c_169 r (by omega) (by omega) (by omega) (by omega) (fun q14 M14 r14 f14 => rt_i ?_)
            refine x_zeqN (by omega) i_191_77 ⟨fun g15 => ?_, fun g15 => ?_⟩
            · have k := kp g15 k
              refine n_iinc 1 i_191_98 rfl rfl rfl rfl ?_
              refine x_goto i_191_101 ?_
              exact ih r14 (by omega) (by omega) (by omega) (by omega) (by omega) (by omega) (by omega) (by omega) (by omega) (k.tr f14)
            · have k := kn g15 k
              refine x_iload i_191_80 rfl ?_
              refine x_iload i_191_82 rfl ?_
              refine x_sh (r := []) (lj := [some _, some _]) i_191_84 ws_161 [_, _] rfl rfl (Nat.le_of_ble_eq_true rfl) (Nat.le_of_ble_eq_true rfl) rfl ?_
              refine x_iload_n i_161_0 rfl ?_
              refine x_iload_n i_161_1 rfl ?_
              refine x_ishrN (by omega) (by omega) i_161_2 ?_
              refine n_iconst 1 i_161_3 rfl ?_
              refine x_iandN i_161_4 ?_
              refine n_iconst 1 i_161_5 rfl ?_
              have q16 : l4 >>> l6 ≤ l4 := shr_le _ _
              have q17 : (l4 >>> l6) &&& 1 ≤ 1 := Nat.le_trans Nat.and_le_right (by omega)
              have q18 : (l4 >>> l6) &&& 1 ≤ (l4 >>> l6) := Nat.and_le_left
              refine x_ineN (by omega) (by omega) i_161_6 ⟨fun g19 => ?_, fun g19 => ?_⟩
              · have k := kn g19 k
                refine n_iconst 0 i_161_13 rfl ?_
                refine x_iretI i_161_14 rn_161 (by decide +kernel) ?_
                refine x_ifT i_191_87 (by decide +kernel) ?_
                refine n_iinc 1 i_191_98 rfl rfl rfl rfl ?_
                refine x_goto i_191_101 ?_
                exact ih r14 (by omega) (by omega) (by omega) (by omega) (by omega) (by omega) (by omega) (by omega) (by omega) (k.tr f14)
              · have k := kp g19 k
                refine n_iconst 1 i_161_9 rfl ?_
                refine x_goto i_161_10 ?_
                refine x_iretI i_161_14 rn_161 (by decide +kernel) ?_
                refine x_ifF i_191_87 (by decide +kernel) ?_
                refine x_aload_n i_191_90 rfl ?_
                refine x_iload i_191_91 rfl ?_
                refine x_iload i_191_93 rfl ?_
                refine x_vh (r := []) (lj := [some _, some _, some _, none]) i_191_95 w_168 ob_170 [_, _] rfl rfl (Nat.le_of_ble_eq_true rfl) (Nat.le_of_ble_eq_true rfl) rfl ?_
                refine c_168 r14 (by omega) (by omega) (by omega) (fun M20 r20 f20 => rt_n ?_)
                refine n_iinc 1 i_191_98 rfl rfl rfl rfl ?_
                refine x_goto i_191_101 ?_
                exact ih r20 (by omega) (by omega) (by omega) (by omega) (by omega) (by omega) (by omega) (by omega) (by omega) (k.tr (f14.trans f20))
def s_191 (n : Nat) (A : HA) (l1 : Nat) (l2 : Nat) (l3 : Nat) : HA :=
  (if (s_192 n A l2 l3) = 0 then (if N (A 9 9) = 0 then (if l2 = 1 then (s_191_144 n (6) (bec A l1 4) l1 l3 4 0) else (if l2 = 2 then (s_191_144 n (6) (bec A l1 4) l1 l3 4 0) else (s_191_144 n (6) (bec A l1 5) l1 l3 5 0))) else A) else (if l2 = 2 then (if (((s_192 n A l2 l3) >>> l1) &&& 1) = 1 then (s_191_44 n (6) (bec A l1 2) l1 l2 l3 (s_192 n A l2 l3) 2 0) else (s_191_44 n (6) A l1 l2 l3 (s_192 n A l2 l3) 2 0)) else (if (((s_192 n A l2 l3) >>> l1) &&& 1) = 1 then (s_191_44 n (6) (bec A l1 3) l1 l2 l3 (s_192 n A l2 l3) 3 0) else (s_191_44 n (6) A l1 l2 l3 (s_192 n A l2 l3) 3 0))))
theorem c_191 {sc : a_Sc} {fd : Nat} {M : a_Mm} {A : HA} {Q : Option Value → a_Hp → Prop} {n : Nat} (r : RM M n A) {l1 l2 l3 : Nat} (hl1 : l1 ≤ 4) (hl2 : l2 ≤ 3) (hl3 : l3 ≤ 31) (i0 : l1 < n) (k : MV Q sc fd M n (s_191 n A l1 l2 l3)) : a_Ex 191 0 [some (.ref 170), some (.int (N l1)), some (.int (N l2)), some (.int (N l3)), none, none, none] [] (a_hp sc fd M) Q := by
  unfold s_191 at k
  have n5 := r.n5
  have n2 := r.n2
  refine x_aload_n i_191_0 rfl ?_
  refine x_iload_n i_191_1 rfl ?_
  refine x_iload_n i_191_2 rfl ?_
  refine x_vh (r := []) (lj := [some _, some _, some _]) i_191_3 w_192 ob_170 [_, _] rfl rfl (Nat.le_of_ble_eq_true rfl) (Nat.le_of_ble_eq_true rfl) rfl ?_
  refine c_192 r (by omega) (by omega)  (fun q1 => rt_i ?_)
  refine x_istore i_191_6 rfl rfl ?_
  refine x_iload i_191_8 rfl ?_
  refine x_zeqN (by omega) i_191_10 ⟨fun g2 => ?_, fun g2 => ?_⟩
  · have k := kp g2 k
    refine x_aload_n i_191_109 rfl ?_
    refine n_gi (x := A 9 9) i_191_110 ob_170 gf_8_9.1 gf_8_9.2 (r.g (by omega)) ?_
    refine x_zeq i_191_113 ⟨fun g3 => ?_, fun g3 => ?_⟩
    · have k := kp g3 k
      refine x_iload_n i_191_117 rfl ?_
      refine n_iconst 1 i_191_118 rfl ?_
      refine x_ieqN (by omega) (by omega) i_191_119 ⟨fun g4 => ?_, fun g4 => ?_⟩
      · have k := kp g4 k
        refine n_iconst 4 i_191_127 rfl ?_
        refine x_goto i_191_128 ?_
        refine x_istore i_191_132 rfl rfl ?_
        refine x_aload_n i_191_134 rfl ?_
        refine x_iload_n i_191_135 rfl ?_
        refine x_iload i_191_136 rfl ?_
        refine x_vh (r := []) (lj := [some _, some _, some _, none]) i_191_138 w_168 ob_170 [_, _] rfl rfl (Nat.le_of_ble_eq_true rfl) (Nat.le_of_ble_eq_true rfl) rfl ?_
        refine c_168 r (by omega) (by omega) (by omega) (fun M5 r5 f5 => rt_n ?_)
        refine n_iconst 0 i_191_141 rfl ?_
        refine x_istore i_191_142 rfl rfl ?_
        refine x_wk (a_wk.s (a_wk.s (a_wk.d rfl (a_wk.s (a_wk.d rfl (a_wk.s (a_wk.s a_wk.n))))))) ?_
        exact c_191_144 (6) r5 (by omega) (by omega) (by omega) (by omega) (by omega) (by omega) (by omega) (k.tr f5)
      · have k := kn g4 k
        refine x_iload_n i_191_122 rfl ?_
        refine n_iconst 2 i_191_123 rfl ?_
        refine x_ineN (by omega) (by omega) i_191_124 ⟨fun g6 => ?_, fun g6 => ?_⟩
        · have k := kn g6 k
          refine n_iconst 5 i_191_131 rfl ?_
          refine x_istore i_191_132 rfl rfl ?_
          refine x_aload_n i_191_134 rfl ?_
          refine x_iload_n i_191_135 rfl ?_
          refine x_iload i_191_136 rfl ?_
          refine x_vh (r := []) (lj := [some _, some _, some _, none]) i_191_138 w_168 ob_170 [_, _] rfl rfl (Nat.le_of_ble_eq_true rfl) (Nat.le_of_ble_eq_true rfl) rfl ?_
          refine c_168 r (by omega) (by omega) (by omega) (fun M7 r7 f7 => rt_n ?_)
          refine n_iconst 0 i_191_141 rfl ?_
          refine x_istore i_191_142 rfl rfl ?_
          refine x_wk (a_wk.s (a_wk.s (a_wk.d rfl (a_wk.s (a_wk.d rfl (a_wk.s (a_wk.s a_wk.n))))))) ?_
          exact c_191_144 (6) r7 (by omega) (by omega) (by omega) (by omega) (by omega) (by omega) (by omega) (k.tr f7)
        · have k := kp g6 k
          refine n_iconst 4 i_191_127 rfl ?_
          refine x_goto i_191_128 ?_
          refine x_istore i_191_132 rfl rfl ?_
          refine x_aload_n i_191_134 rfl ?_
          refine x_iload_n i_191_135 rfl ?_
          refine x_iload i_191_136 rfl ?_
          refine x_vh (r := []) (lj := [some _, some _, some _, none]) i_191_138 w_168 ob_170 [_, _] rfl rfl (Nat.le_of_ble_eq_true rfl) (Nat.le_of_ble_eq_true rfl) rfl ?_
          refine c_168 r (by omega) (by omega) (by omega) (fun M8 r8 f8 => rt_n ?_)
          refine n_iconst 0 i_191_141 rfl ?_
          refine x_istore i_191_142 rfl rfl ?_
          refine x_wk (a_wk.s (a_wk.s (a_wk.d rfl (a_wk.s (a_wk.d rfl (a_wk.s (a_wk.s a_wk.n))))))) ?_
          exact c_191_144 (6) r8 (by omega) (by omega) (by omega) (by omega) (by omega) (by omega) (by omega) (k.tr f8)
    · have k := kn g3 k
      refine x_vret i_191_116 rn_191 ?_
      exact k _ r (FM.refl _)
  · have k := kn g2 k
    refine x_iload_n i_191_13 rfl ?_
    refine n_iconst 2 i_191_14 rfl ?_
    refine x_ineN (by omega) (by omega) i_191_15 ⟨fun g9 => ?_, fun g9 => ?_⟩
    · have k := kn g9 k
      refine n_iconst 3 i_191_22 rfl ?_
      refine x_istore i_191_23 rfl rfl ?_
      refine x_iload i_191_25 rfl ?_
      refine x_iload_n i_191_27 rfl ?_
      refine x_sh (r := []) (lj := [some _, some _]) i_191_28 ws_161 [_, _] rfl rfl (Nat.le_of_ble_eq_true rfl) (Nat.le_of_ble_eq_true rfl) rfl ?_
      refine x_iload_n i_161_0 rfl ?_
      refine x_iload_n i_161_1 rfl ?_
      refine x_ishrN (by omega) (by omega) i_161_2 ?_
      refine n_iconst 1 i_161_3 rfl ?_
      refine x_iandN i_161_4 ?_
      refine n_iconst 1 i_161_5 rfl ?_
      have q10 : (s_192 n A l2 l3) >>> l1 ≤ (s_192 n A l2 l3) := shr_le _ _
      have q11 : ((s_192 n A l2 l3) >>> l1) &&& 1 ≤ 1 := Nat.le_trans Nat.and_le_right (by omega)
      have q12 : ((s_192 n A l2 l3) >>> l1) &&& 1 ≤ ((s_192 n A l2 l3) >>> l1) := Nat.and_le_left
      refine x_ineN (by omega) (by omega) i_161_6 ⟨fun g13 => ?_, fun g13 => ?_⟩
      · have k := kn g13 k
        refine n_iconst 0 i_161_13 rfl ?_
        refine x_iretI i_161_14 rn_161 (by decide +kernel) ?_
        refine x_ifT i_191_31 (by decide +kernel) ?_
        refine n_iconst 0 i_191_41 rfl ?_
        refine x_istore i_191_42 rfl rfl ?_
        exact c_191_44 (6) r (by omega) (by omega) (by omega) (by omega) (by omega) (by omega) (by omega) (by omega) (by omega) k
      · have k := kp g13 k
        refine n_iconst 1 i_161_9 rfl ?_
        refine x_goto i_161_10 ?_
        refine x_iretI i_161_14 rn_161 (by decide +kernel) ?_
        refine x_ifF i_191_31 (by decide +kernel) ?_
        refine x_aload_n i_191_34 rfl ?_
        refine x_iload_n i_191_35 rfl ?_
        refine x_iload i_191_36 rfl ?_
        refine x_vh (r := []) (lj := [some _, some _, some _, none]) i_191_38 w_168 ob_170 [_, _] rfl rfl (Nat.le_of_ble_eq_true rfl) (Nat.le_of_ble_eq_true rfl) rfl ?_
        refine c_168 r (by omega) (by omega) (by omega) (fun M14 r14 f14 => rt_n ?_)
        refine n_iconst 0 i_191_41 rfl ?_
        refine x_istore i_191_42 rfl rfl ?_
        exact c_191_44 (6) r14 (by omega) (by omega) (by omega) (by omega) (by omega) (by omega) (by omega) (by omega) (by omega) (k.tr f14)
    · have k := kp g9 k
      refine n_iconst 2 i_191_18 rfl ?_
      refine x_goto i_191_19 ?_
      refine x_istore i_191_23 rfl rfl ?_
      refine x_iload i_191_25 rfl ?_
      refine x_iload_n i_191_27 rfl ?_
      refine x_sh (r := []) (lj := [some _, some _]) i_191_28 ws_161 [_, _] rfl rfl (Nat.le_of_ble_eq_true rfl) (Nat.le_of_ble_eq_true rfl) rfl ?_
      refine x_iload_n i_161_0 rfl ?_
      refine x_iload_n i_161_1 rfl ?_
      refine x_ishrN (by omega) (by omega) i_161_2 ?_
      refine n_iconst 1 i_161_3 rfl ?_
      refine x_iandN i_161_4 ?_
      refine n_iconst 1 i_161_5 rfl ?_
      have q15 : (s_192 n A l2 l3) >>> l1 ≤ (s_192 n A l2 l3) := shr_le _ _
      have q16 : ((s_192 n A l2 l3) >>> l1) &&& 1 ≤ 1 := Nat.le_trans Nat.and_le_right (by omega)
      have q17 : ((s_192 n A l2 l3) >>> l1) &&& 1 ≤ ((s_192 n A l2 l3) >>> l1) := Nat.and_le_left
      refine x_ineN (by omega) (by omega) i_161_6 ⟨fun g18 => ?_, fun g18 => ?_⟩
      · have k := kn g18 k
        refine n_iconst 0 i_161_13 rfl ?_
        refine x_iretI i_161_14 rn_161 (by decide +kernel) ?_
        refine x_ifT i_191_31 (by decide +kernel) ?_
        refine n_iconst 0 i_191_41 rfl ?_
        refine x_istore i_191_42 rfl rfl ?_
        exact c_191_44 (6) r (by omega) (by omega) (by omega) (by omega) (by omega) (by omega) (by omega) (by omega) (by omega) k
      · have k := kp g18 k
        refine n_iconst 1 i_161_9 rfl ?_
        refine x_goto i_161_10 ?_
        refine x_iretI i_161_14 rn_161 (by decide +kernel) ?_
        refine x_ifF i_191_31 (by decide +kernel) ?_
        refine x_aload_n i_191_34 rfl ?_
        refine x_iload_n i_191_35 rfl ?_
        refine x_iload i_191_36 rfl ?_
        refine x_vh (r := []) (lj := [some _, some _, some _, none]) i_191_38 w_168 ob_170 [_, _] rfl rfl (Nat.le_of_ble_eq_true rfl) (Nat.le_of_ble_eq_true rfl) rfl ?_
        refine c_168 r (by omega) (by omega) (by omega) (fun M19 r19 f19 => rt_n ?_)
        refine n_iconst 0 i_191_41 rfl ?_
        refine x_istore i_191_42 rfl rfl ?_
        exact c_191_44 (6) r19 (by omega) (by omega) (by omega) (by omega) (by omega) (by omega) (by omega) (by omega) (by omega) (k.tr f19)
def s_187 (n : Nat) (A : HA) (l1 : Nat) (l2 : Nat) : Nat × HA :=
  (if (0 ≤ l1 ∧ l1 ≤ (n - 1)) then (if (isK l2) = 0 then (4294967293, A) else (if (A 1 l1) = 1 then (if (low (s_172 n A l1) 5 0) = l1 then (if (s_173 n A (s_172 n A l1)) = 0 then (if (s_189 n A (s_172 n A l1) (s_172 n A l1)) = 4294967295 then (4294967292, A) else (s_189 n A (s_172 n A l1) (s_172 n A l1), (s_191 n ((s_166 n A l2)) l1 (s_189 n A (s_172 n A l1) (s_172 n A l1)) (s_172 n A l1)))) else (4294967291, A)) else (4294967291, A)) else (4294967291, A))) else (4294967294, A))
theorem c_187 {sc : a_Sc} {fd : Nat} {M : a_Mm} {A : HA} {Q : Option Value → a_Hp → Prop} {n : Nat} (r : RM M n A) {l1 l2 : Nat} (hl1 : l1 ≤ 4294967295) (hl2 : l2 ≤ 4294967295) (k : MR 4294967295 Q sc fd M n (s_187 n A l1 l2)) : a_Ex 187 0 [some (.ref 170), some (.int (N l1)), some (.int (N l2)), none, none] [] (a_hp sc fd M) Q := by
  unfold s_187 at k
  have n5 := r.n5
  have n2 := r.n2
  refine x_aload_n i_187_0 rfl ?_
  refine x_iload_n i_187_1 rfl ?_
  refine x_vh (r := []) (lj := [some _, some _]) i_187_2 w_154 ob_170 [_] rfl rfl (Nat.le_of_ble_eq_true rfl) (Nat.le_of_ble_eq_true rfl) rfl ?_
  refine x_iload_n i_154_0 rfl ?_
  refine x_i2l i_154_1 ?_
  refine n_lconst 0 i_154_2 rfl ?_
  refine x_aload_n i_154_3 rfl ?_
  refine x_gr i_154_4 ob_170 gr_8_1.1 gr_8_1.2 (rt_170_1 _) ?_
  refine n_iconst 0 i_154_7 rfl ?_
  refine n_ld (x := n) i_154_8 ar_171 (by omega) (by omega) r.nn ?_
  refine n_iconst 1 i_154_9 rfl ?_
  refine x_isubN (by omega) i_154_10 ?_
  refine x_i2l i_154_11 ?_
  refine n_within i_154_12 (Nat.le_of_ble_eq_true rfl) (by omega) (by omega) (by omega) ⟨fun g1 => ?_, fun g1 => ?_⟩
  · have k := kp g1 k
    refine x_iretI i_154_15 rn_154 (by decide +kernel) ?_
    refine x_ifT i_187_5 (by decide +kernel) ?_
    refine x_iload_n i_187_11 rfl ?_
    refine x_sh (r := []) (lj := [some _]) i_187_12 ws_165 [_] rfl rfl (Nat.le_of_ble_eq_true rfl) (Nat.le_of_ble_eq_true rfl) rfl ?_
    refine c_165 (by omega)  (fun q2 => rt_i ?_)
    refine x_zneN (by omega) i_187_15 ⟨fun g3 => ?_, fun g3 => ?_⟩
    · have k := kn g3 k
      refine x_aload_n i_187_21 rfl ?_
      refine x_iload_n i_187_22 rfl ?_
      refine n_iconst 1 i_187_23 rfl ?_
      refine n_atx (A 1 l1) i_187_24 r 1 (by omega) (by omega) (Nat.le_of_ble_eq_true rfl) rfl ?_
      refine n_iconst 1 i_187_27 rfl ?_
      have q4 : A 1 l1 ≤ 2 := r.w.b1 (by omega)
      refine x_ineN (by omega) (by omega) i_187_28 ⟨fun g5 => ?_, fun g5 => ?_⟩
      · have k := kn g5 k
        refine n_bipush 4294967291 i_187_55 rfl ?_
        refine x_iret i_187_57 rn_187 rfl ?_
        exact k (show 4294967291 ≤ 4294967295 by omega) _ r (FM.refl _)
      · have k := kp g5 k
        refine x_aload_n i_187_31 rfl ?_
        refine x_iload_n i_187_32 rfl ?_
        refine x_vh (r := []) (lj := [some _, some _]) i_187_33 w_172 ob_170 [_] rfl rfl (Nat.le_of_ble_eq_true rfl) (Nat.le_of_ble_eq_true rfl) rfl ?_
        refine c_172 r (by omega) (by omega) (fun q6 => rt_i ?_)
        have m172a := s172_ne n A l1 n5
        have m172b := s172_lt n A l1 n5
        refine x_sh (r := []) (lj := [some _, none]) i_187_36 ws_188 [_] rfl rfl (Nat.le_of_ble_eq_true rfl) (Nat.le_of_ble_eq_true rfl) rfl ?_
        refine k_188 (by omega) (by omega) (fun q7 => rt_i ?_)
        have m188 := low_or (x := (s_172 n A l1)) n5
        refine x_iload_n i_187_39 rfl ?_
        refine x_ineN (by omega) (by omega) i_187_40 ⟨fun g8 => ?_, fun g8 => ?_⟩
        · have k := kn g8 k
          refine n_bipush 4294967291 i_187_55 rfl ?_
          refine x_iret i_187_57 rn_187 rfl ?_
          exact k (show 4294967291 ≤ 4294967295 by omega) _ r (FM.refl _)
        · have k := kp g8 k
          refine x_aload_n i_187_43 rfl ?_
          refine x_aload_n i_187_44 rfl ?_
          refine x_iload_n i_187_45 rfl ?_
          refine x_vh (r := [_]) (lj := [some _, some _]) i_187_46 w_172 ob_170 [_] rfl rfl (Nat.le_of_ble_eq_true rfl) (Nat.le_of_ble_eq_true rfl) rfl ?_
          refine c_172 r (by omega) (by omega) (fun q9 => rt_i ?_)
          have m172a := s172_ne n A l1 n5
          have m172b := s172_lt n A l1 n5
          refine x_vh (r := []) (lj := [some _, some _]) i_187_49 w_173 ob_170 [_] rfl rfl (Nat.le_of_ble_eq_true rfl) (Nat.le_of_ble_eq_true rfl) rfl ?_
          refine c_173 r (by omega)  (fun q10 => rt_i ?_)
          refine x_zeqN (by omega) i_187_52 ⟨fun g11 => ?_, fun g11 => ?_⟩
          · have k := kp g11 k
            refine x_aload_n i_187_58 rfl ?_
            refine x_iload_n i_187_59 rfl ?_
            refine x_vh (r := []) (lj := [some _, some _]) i_187_60 w_172 ob_170 [_] rfl rfl (Nat.le_of_ble_eq_true rfl) (Nat.le_of_ble_eq_true rfl) rfl ?_
            refine c_172 r (by omega) (by omega) (fun q12 => rt_i ?_)
            have m172a := s172_ne n A l1 n5
            have m172b := s172_lt n A l1 n5
            refine x_istore_n i_187_63 rfl rfl ?_
            refine x_aload_n i_187_64 rfl ?_
            refine x_iload_n i_187_65 rfl ?_
            refine x_iload_n i_187_66 rfl ?_
            refine x_vh (r := []) (lj := [some _, some _, some _, none]) i_187_67 w_189 ob_170 [_, _] rfl rfl (Nat.le_of_ble_eq_true rfl) (Nat.le_of_ble_eq_true rfl) rfl ?_
            refine c_189 r (by omega) (by omega)  (fun q13 => rt_i ?_)
            have m189a := s189_le n A (s_172 n A l1) (s_172 n A l1)
            have m189b := s189_f n A (s_172 n A l1) (s_172 n A l1)
            refine x_istore i_187_70 rfl rfl ?_
            refine x_iload i_187_72 rfl ?_
            refine n_iconst 4294967295 i_187_74 rfl ?_
            refine n_ineU (by omega) (by omega) i_187_75 ⟨fun g14 => ?_, fun g14 => ?_⟩
            · have k := kn g14 k
              refine x_aload_n i_187_81 rfl ?_
              refine x_iload_n i_187_82 rfl ?_
              refine x_vh (r := []) (lj := [some _, some _]) i_187_83 w_166 ob_170 [_] rfl rfl (Nat.le_of_ble_eq_true rfl) (Nat.le_of_ble_eq_true rfl) rfl ?_
              refine c_166 r (by omega)  (fun M15 r15 f15 => rt_n ?_)
              refine x_aload_n i_187_86 rfl ?_
              refine x_iload_n i_187_87 rfl ?_
              refine x_iload i_187_88 rfl ?_
              refine x_iload_n i_187_90 rfl ?_
              refine x_vh (r := []) (lj := [some _, some _, some _, some _, none, none, none]) i_187_91 w_191 ob_170 [_, _, _] rfl rfl (Nat.le_of_ble_eq_true rfl) (Nat.le_of_ble_eq_true rfl) rfl ?_
              refine c_191 r15 (by omega) (by omega) (by omega) (by omega) (fun M16 r16 f16 => rt_n ?_)
              refine x_iload i_187_94 rfl ?_
              refine x_iret i_187_96 rn_187 rfl ?_
              exact k (show s_189 n A (s_172 n A l1) (s_172 n A l1) ≤ 4294967295 by omega) _ r16 (f15.trans f16)
            · have k := kp g14 k
              refine n_bipush 4294967292 i_187_78 rfl ?_
              refine x_iret i_187_80 rn_187 rfl ?_
              exact k (show 4294967292 ≤ 4294967295 by omega) _ r (FM.refl _)
          · have k := kn g11 k
            refine n_bipush 4294967291 i_187_55 rfl ?_
            refine x_iret i_187_57 rn_187 rfl ?_
            exact k (show 4294967291 ≤ 4294967295 by omega) _ r (FM.refl _)
    · have k := kp g3 k
      refine n_bipush 4294967293 i_187_18 rfl ?_
      refine x_iret i_187_20 rn_187 rfl ?_
      exact k (show 4294967293 ≤ 4294967295 by omega) _ r (FM.refl _)
  · have k := kn g1 k
    refine x_iretI i_154_15 rn_154 (by decide +kernel) ?_
    refine x_ifF i_187_5 (by decide +kernel) ?_
    refine n_bipush 4294967294 i_187_8 rfl ?_
    refine x_iret i_187_10 rn_187 rfl ?_
    exact k (show 4294967294 ≤ 4294967295 by omega) _ r (FM.refl _)
def s_194 (n : Nat) (A : HA) (l1 : Nat) : Nat × HA :=
  (if (0 ≤ l1 ∧ l1 ≤ (n - 1)) then (if (A 1 l1) = 2 then (if (A 0 l1) = 0 then (((s_195 n ((bec A l1 5)) l1)) 0 l1, (s_195 n ((bec A l1 5)) l1)) else (if (s_173 n A (1 <<< l1)) = 0 then (if (s_190 n A (s_172 n A l1) 4) = 0 then (if (s_173 n A (1 <<< l1)) = 0 then (if (s_190 n A (s_172 n A l1) 5) = 0 then (if (s_173 n A (1 <<< l1)) = 0 then (if (A 6 1) = 0 then (4294967292, A) else (((s_195 n A l1)) 0 l1, (s_195 n A l1))) else (((s_195 n A l1)) 0 l1, (s_195 n A l1))) else (((s_195 n ((bec A l1 5)) l1)) 0 l1, (s_195 n ((bec A l1 5)) l1))) else (if (s_173 n A (1 <<< l1)) = 0 then (if (A 6 1) = 0 then (4294967292, A) else (((s_195 n A l1)) 0 l1, (s_195 n A l1))) else (((s_195 n A l1)) 0 l1, (s_195 n A l1)))) else (((s_195 n ((bec A l1 4)) l1)) 0 l1, (s_195 n ((bec A l1 4)) l1))) else (if (s_173 n A (1 <<< l1)) = 0 then (if (s_190 n A (s_172 n A l1) 5) = 0 then (if (s_173 n A (1 <<< l1)) = 0 then (if (A 6 1) = 0 then (4294967292, A) else (((s_195 n A l1)) 0 l1, (s_195 n A l1))) else (((s_195 n A l1)) 0 l1, (s_195 n A l1))) else (((s_195 n ((bec A l1 5)) l1)) 0 l1, (s_195 n ((bec A l1 5)) l1))) else (if (s_173 n A (1 <<< l1)) = 0 then (if (A 6 1) = 0 then (4294967292, A) else (((s_195 n A l1)) 0 l1, (s_195 n A l1))) else (((s_195 n A l1)) 0 l1, (s_195 n A l1)))))) else (4294967291, A)) else (4294967294, A))
theorem c_194 {sc : a_Sc} {fd : Nat} {M : a_Mm} {A : HA} {Q : Option Value → a_Hp → Prop} {n : Nat} (r : RM M n A) {l1 : Nat} (hl1 : l1 ≤ 4294967295) (k : MR 4294967295 Q sc fd M n (s_194 n A l1)) : a_Ex 194 0 [some (.ref 170), some (.int (N l1)), none] [] (a_hp sc fd M) Q := by
  unfold s_194 at k
  have n5 := r.n5
  have n2 := r.n2
  refine x_aload_n i_194_0 rfl ?_
  refine x_iload_n i_194_1 rfl ?_
  refine x_vh (r := []) (lj := [some _, some _]) i_194_2 w_154 ob_170 [_] rfl rfl (Nat.le_of_ble_eq_true rfl) (Nat.le_of_ble_eq_true rfl) rfl ?_
  refine x_iload_n i_154_0 rfl ?_
  refine x_i2l i_154_1 ?_
  refine n_lconst 0 i_154_2 rfl ?_
  refine x_aload_n i_154_3 rfl ?_
  refine x_gr i_154_4 ob_170 gr_8_1.1 gr_8_1.2 (rt_170_1 _) ?_
  refine n_iconst 0 i_154_7 rfl ?_
  refine n_ld (x := n) i_154_8 ar_171 (by omega) (by omega) r.nn ?_
  refine n_iconst 1 i_154_9 rfl ?_
  refine x_isubN (by omega) i_154_10 ?_
  refine x_i2l i_154_11 ?_
  refine n_within i_154_12 (Nat.le_of_ble_eq_true rfl) (by omega) (by omega) (by omega) ⟨fun g1 => ?_, fun g1 => ?_⟩
  · have k := kp g1 k
    refine x_iretI i_154_15 rn_154 (by decide +kernel) ?_
    refine x_ifT i_194_5 (by decide +kernel) ?_
    refine x_aload_n i_194_11 rfl ?_
    refine x_iload_n i_194_12 rfl ?_
    refine n_iconst 1 i_194_13 rfl ?_
    refine n_atx (A 1 l1) i_194_14 r 1 (by omega) (by omega) (Nat.le_of_ble_eq_true rfl) rfl ?_
    refine n_iconst 2 i_194_17 rfl ?_
    have q2 : A 1 l1 ≤ 2 := r.w.b1 (by omega)
    refine x_ieqN (by omega) (by omega) i_194_18 ⟨fun g3 => ?_, fun g3 => ?_⟩
    · have k := kp g3 k
      refine x_aload_n i_194_24 rfl ?_
      refine x_iload_n i_194_25 rfl ?_
      refine x_vh (r := []) (lj := [some _, some _]) i_194_26 w_172 ob_170 [_] rfl rfl (Nat.le_of_ble_eq_true rfl) (Nat.le_of_ble_eq_true rfl) rfl ?_
      refine c_172 r (by omega) (by omega) (fun q4 => rt_i ?_)
      have m172a := s172_ne n A l1 n5
      have m172b := s172_lt n A l1 n5
      refine x_istore_n i_194_29 rfl rfl ?_
      refine x_aload_n i_194_30 rfl ?_
      refine x_iload_n i_194_31 rfl ?_
      refine n_iconst 0 i_194_32 rfl ?_
      refine n_atx (A 0 l1) i_194_33 r 0 (by omega) (by omega) (Nat.le_of_ble_eq_true rfl) rfl ?_
      have q5 : A 0 l1 ≤ 5 := r.w.b0 (by omega)
      refine x_zneN (by omega) i_194_36 ⟨fun g6 => ?_, fun g6 => ?_⟩
      · have k := kn g6 k
        refine x_aload_n i_194_48 rfl ?_
        refine n_iconst 1 i_194_49 rfl ?_
        refine x_iload_n i_194_50 rfl ?_
        refine x_ishlN (by omega) i_194_51 ?_
        have q7 : 1 <<< l1 ≤ 16 := shl_le 4 (by omega)
        refine x_vh (r := []) (lj := [some _, some _]) i_194_52 w_173 ob_170 [_] rfl rfl (Nat.le_of_ble_eq_true rfl) (Nat.le_of_ble_eq_true rfl) rfl ?_
        refine c_173 r (by omega)  (fun q8 => rt_i ?_)
        refine x_zneN (by omega) i_194_55 ⟨fun g9 => ?_, fun g9 => ?_⟩
        · have k := kn g9 k
          refine x_aload_n i_194_76 rfl ?_
          refine n_iconst 1 i_194_77 rfl ?_
          refine x_iload_n i_194_78 rfl ?_
          refine x_ishlN (by omega) i_194_79 ?_
          refine x_vh (r := []) (lj := [some _, some _]) i_194_80 w_173 ob_170 [_] rfl rfl (Nat.le_of_ble_eq_true rfl) (Nat.le_of_ble_eq_true rfl) rfl ?_
          refine c_173 r (by omega)  (fun q10 => rt_i ?_)
          refine x_zneN (by omega) i_194_83 ⟨fun g11 => ?_, fun g11 => ?_⟩
          · have k := kn g11 k
            refine x_aload_n i_194_104 rfl ?_
            refine n_iconst 1 i_194_105 rfl ?_
            refine x_iload_n i_194_106 rfl ?_
            refine x_ishlN (by omega) i_194_107 ?_
            refine x_vh (r := []) (lj := [some _, some _]) i_194_108 w_173 ob_170 [_] rfl rfl (Nat.le_of_ble_eq_true rfl) (Nat.le_of_ble_eq_true rfl) rfl ?_
            refine c_173 r (by omega)  (fun q12 => rt_i ?_)
            refine x_zneN (by omega) i_194_111 ⟨fun g13 => ?_, fun g13 => ?_⟩
            · have k := kn g13 k
              refine x_aload_n i_194_126 rfl ?_
              refine x_iload_n i_194_127 rfl ?_
              refine x_vh (r := []) (lj := [some _, some _, none, none]) i_194_128 w_195 ob_170 [_] rfl rfl (Nat.le_of_ble_eq_true rfl) (Nat.le_of_ble_eq_true rfl) rfl ?_
              refine c_195 r (by omega) (by omega) (fun M14 r14 f14 => rt_n ?_)
              have m195a := s195_f1 n A l1
              refine x_aload_n i_194_131 rfl ?_
              refine x_iload_n i_194_132 rfl ?_
              refine n_iconst 0 i_194_133 rfl ?_
              refine n_atx (((s_195 n A l1)) 0 l1) i_194_134 r14 0 (by omega) (by omega) (Nat.le_of_ble_eq_true rfl) rfl ?_
              have q15 : ((s_195 n A l1)) 0 l1 ≤ 5 := r14.w.b0 (by omega)
              refine x_iret i_194_137 rn_194 rfl ?_
              exact k (show ((s_195 n A l1)) 0 l1 ≤ 4294967295 by omega) _ r14 f14
            · have k := kp g13 k
              refine x_aload_n i_194_114 rfl ?_
              refine x_gr i_194_115 ob_170 gr_8_1.1 gr_8_1.2 (rt_170_1 _) ?_
              refine n_iconst 1 i_194_118 rfl ?_
              refine n_ld (x := A 6 1) i_194_119 ar_171 (by omega) (by omega) r.f1 ?_
              have q16 : A 6 1 ≤ 1 := r.w.f1
              refine x_zneN (by omega) i_194_120 ⟨fun g17 => ?_, fun g17 => ?_⟩
              · have k := kn g17 k
                refine x_aload_n i_194_126 rfl ?_
                refine x_iload_n i_194_127 rfl ?_
                refine x_vh (r := []) (lj := [some _, some _, none, none]) i_194_128 w_195 ob_170 [_] rfl rfl (Nat.le_of_ble_eq_true rfl) (Nat.le_of_ble_eq_true rfl) rfl ?_
                refine c_195 r (by omega) (by omega) (fun M18 r18 f18 => rt_n ?_)
                have m195a := s195_f1 n A l1
                refine x_aload_n i_194_131 rfl ?_
                refine x_iload_n i_194_132 rfl ?_
                refine n_iconst 0 i_194_133 rfl ?_
                refine n_atx (((s_195 n A l1)) 0 l1) i_194_134 r18 0 (by omega) (by omega) (Nat.le_of_ble_eq_true rfl) rfl ?_
                have q19 : ((s_195 n A l1)) 0 l1 ≤ 5 := r18.w.b0 (by omega)
                refine x_iret i_194_137 rn_194 rfl ?_
                exact k (show ((s_195 n A l1)) 0 l1 ≤ 4294967295 by omega) _ r18 f18
              · have k := kp g17 k
                refine n_bipush 4294967292 i_194_123 rfl ?_
                refine x_iret i_194_125 rn_194 rfl ?_
                exact k (show 4294967292 ≤ 4294967295 by omega) _ r (FM.refl _)
          · have k := kp g11 k
            refine x_aload_n i_194_86 rfl ?_
            refine x_iload_n i_194_87 rfl ?_
            refine n_iconst 5 i_194_88 rfl ?_
            refine x_vh (r := []) (lj := [some _, some _, some _]) i_194_89 w_190 ob_170 [_, _] rfl rfl (Nat.le_of_ble_eq_true rfl) (Nat.le_of_ble_eq_true rfl) rfl ?_
            refine c_190 r (by omega) (by omega)  (fun q20 => rt_i ?_)
            refine x_zeqN (by omega) i_194_92 ⟨fun g21 => ?_, fun g21 => ?_⟩
            · have k := kp g21 k
              refine x_aload_n i_194_104 rfl ?_
              refine n_iconst 1 i_194_105 rfl ?_
              refine x_iload_n i_194_106 rfl ?_
              refine x_ishlN (by omega) i_194_107 ?_
              refine x_vh (r := []) (lj := [some _, some _]) i_194_108 w_173 ob_170 [_] rfl rfl (Nat.le_of_ble_eq_true rfl) (Nat.le_of_ble_eq_true rfl) rfl ?_
              refine c_173 r (by omega)  (fun q22 => rt_i ?_)
              refine x_zneN (by omega) i_194_111 ⟨fun g23 => ?_, fun g23 => ?_⟩
              · have k := kn g23 k
                refine x_aload_n i_194_126 rfl ?_
                refine x_iload_n i_194_127 rfl ?_
                refine x_vh (r := []) (lj := [some _, some _, none, none]) i_194_128 w_195 ob_170 [_] rfl rfl (Nat.le_of_ble_eq_true rfl) (Nat.le_of_ble_eq_true rfl) rfl ?_
                refine c_195 r (by omega) (by omega) (fun M24 r24 f24 => rt_n ?_)
                have m195a := s195_f1 n A l1
                refine x_aload_n i_194_131 rfl ?_
                refine x_iload_n i_194_132 rfl ?_
                refine n_iconst 0 i_194_133 rfl ?_
                refine n_atx (((s_195 n A l1)) 0 l1) i_194_134 r24 0 (by omega) (by omega) (Nat.le_of_ble_eq_true rfl) rfl ?_
                have q25 : ((s_195 n A l1)) 0 l1 ≤ 5 := r24.w.b0 (by omega)
                refine x_iret i_194_137 rn_194 rfl ?_
                exact k (show ((s_195 n A l1)) 0 l1 ≤ 4294967295 by omega) _ r24 f24
              · have k := kp g23 k
                refine x_aload_n i_194_114 rfl ?_
                refine x_gr i_194_115 ob_170 gr_8_1.1 gr_8_1.2 (rt_170_1 _) ?_
                refine n_iconst 1 i_194_118 rfl ?_
                refine n_ld (x := A 6 1) i_194_119 ar_171 (by omega) (by omega) r.f1 ?_
                have q26 : A 6 1 ≤ 1 := r.w.f1
                refine x_zneN (by omega) i_194_120 ⟨fun g27 => ?_, fun g27 => ?_⟩
                · have k := kn g27 k
                  refine x_aload_n i_194_126 rfl ?_
                  refine x_iload_n i_194_127 rfl ?_
                  refine x_vh (r := []) (lj := [some _, some _, none, none]) i_194_128 w_195 ob_170 [_] rfl rfl (Nat.le_of_ble_eq_true rfl) (Nat.le_of_ble_eq_true rfl) rfl ?_
                  refine c_195 r (by omega) (by omega) (fun M28 r28 f28 => rt_n ?_)
                  have m195a := s195_f1 n A l1
                  refine x_aload_n i_194_131 rfl ?_
                  refine x_iload_n i_194_132 rfl ?_
                  refine n_iconst 0 i_194_133 rfl ?_
                  refine n_atx (((s_195 n A l1)) 0 l1) i_194_134 r28 0 (by omega) (by omega) (Nat.le_of_ble_eq_true rfl) rfl ?_
                  have q29 : ((s_195 n A l1)) 0 l1 ≤ 5 := r28.w.b0 (by omega)
                  refine x_iret i_194_137 rn_194 rfl ?_
                  exact k (show ((s_195 n A l1)) 0 l1 ≤ 4294967295 by omega) _ r28 f28
                · have k := kp g27 k
                  refine n_bipush 4294967292 i_194_123 rfl ?_
                  refine x_iret i_194_125 rn_194 rfl ?_
                  exact k (show 4294967292 ≤ 4294967295 by omega) _ r (FM.refl _)
            · have k := kn g21 k
              refine x_aload_n i_194_95 rfl ?_
              refine x_iload_n i_194_96 rfl ?_
              refine n_iconst 5 i_194_97 rfl ?_
              refine x_vh (r := []) (lj := [some _, some _, some _, none]) i_194_98 w_168 ob_170 [_, _] rfl rfl (Nat.le_of_ble_eq_true rfl) (Nat.le_of_ble_eq_true rfl) rfl ?_
              refine c_168 r (by omega) (by omega) (by omega) (fun M30 r30 f30 => rt_n ?_)
              refine x_goto i_194_101 ?_
              refine x_aload_n i_194_126 rfl ?_
              refine x_iload_n i_194_127 rfl ?_
              refine x_vh (r := []) (lj := [some _, some _, none, none]) i_194_128 w_195 ob_170 [_] rfl rfl (Nat.le_of_ble_eq_true rfl) (Nat.le_of_ble_eq_true rfl) rfl ?_
              refine c_195 r30 (by omega) (by omega) (fun M31 r31 f31 => rt_n ?_)
              have m195a := s195_f1 n ((bec A l1 5)) l1
              refine x_aload_n i_194_131 rfl ?_
              refine x_iload_n i_194_132 rfl ?_
              refine n_iconst 0 i_194_133 rfl ?_
              refine n_atx (((s_195 n ((bec A l1 5)) l1)) 0 l1) i_194_134 r31 0 (by omega) (by omega) (Nat.le_of_ble_eq_true rfl) rfl ?_
              have q32 : ((s_195 n ((bec A l1 5)) l1)) 0 l1 ≤ 5 := r31.w.b0 (by omega)
              refine x_iret i_194_137 rn_194 rfl ?_
              exact k (show ((s_195 n ((bec A l1 5)) l1)) 0 l1 ≤ 4294967295 by omega) _ r31 (f30.trans f31)
        · have k := kp g9 k
          refine x_aload_n i_194_58 rfl ?_
          refine x_iload_n i_194_59 rfl ?_
          refine n_iconst 4 i_194_60 rfl ?_
          refine x_vh (r := []) (lj := [some _, some _, some _]) i_194_61 w_190 ob_170 [_, _] rfl rfl (Nat.le_of_ble_eq_true rfl) (Nat.le_of_ble_eq_true rfl) rfl ?_
          refine c_190 r (by omega) (by omega)  (fun q33 => rt_i ?_)
          refine x_zeqN (by omega) i_194_64 ⟨fun g34 => ?_, fun g34 => ?_⟩
          · have k := kp g34 k
            refine x_aload_n i_194_76 rfl ?_
            refine n_iconst 1 i_194_77 rfl ?_
            refine x_iload_n i_194_78 rfl ?_
            refine x_ishlN (by omega) i_194_79 ?_
            refine x_vh (r := []) (lj := [some _, some _]) i_194_80 w_173 ob_170 [_] rfl rfl (Nat.le_of_ble_eq_true rfl) (Nat.le_of_ble_eq_true rfl) rfl ?_
            refine c_173 r (by omega)  (fun q35 => rt_i ?_)
            refine x_zneN (by omega) i_194_83 ⟨fun g36 => ?_, fun g36 => ?_⟩
            · have k := kn g36 k
              refine x_aload_n i_194_104 rfl ?_
              refine n_iconst 1 i_194_105 rfl ?_
              refine x_iload_n i_194_106 rfl ?_
              refine x_ishlN (by omega) i_194_107 ?_
              refine x_vh (r := []) (lj := [some _, some _]) i_194_108 w_173 ob_170 [_] rfl rfl (Nat.le_of_ble_eq_true rfl) (Nat.le_of_ble_eq_true rfl) rfl ?_
              refine c_173 r (by omega)  (fun q37 => rt_i ?_)
              refine x_zneN (by omega) i_194_111 ⟨fun g38 => ?_, fun g38 => ?_⟩
              · have k := kn g38 k
                refine x_aload_n i_194_126 rfl ?_
                refine x_iload_n i_194_127 rfl ?_
                refine x_vh (r := []) (lj := [some _, some _, none, none]) i_194_128 w_195 ob_170 [_] rfl rfl (Nat.le_of_ble_eq_true rfl) (Nat.le_of_ble_eq_true rfl) rfl ?_
                refine c_195 r (by omega) (by omega) (fun M39 r39 f39 => rt_n ?_)
                have m195a := s195_f1 n A l1
                refine x_aload_n i_194_131 rfl ?_
                refine x_iload_n i_194_132 rfl ?_
                refine n_iconst 0 i_194_133 rfl ?_
                refine n_atx (((s_195 n A l1)) 0 l1) i_194_134 r39 0 (by omega) (by omega) (Nat.le_of_ble_eq_true rfl) rfl ?_
                have q40 : ((s_195 n A l1)) 0 l1 ≤ 5 := r39.w.b0 (by omega)
                refine x_iret i_194_137 rn_194 rfl ?_
                exact k (show ((s_195 n A l1)) 0 l1 ≤ 4294967295 by omega) _ r39 f39
              · have k := kp g38 k
                refine x_aload_n i_194_114 rfl ?_
                refine x_gr i_194_115 ob_170 gr_8_1.1 gr_8_1.2 (rt_170_1 _) ?_
                refine n_iconst 1 i_194_118 rfl ?_
                refine n_ld (x := A 6 1) i_194_119 ar_171 (by omega) (by omega) r.f1 ?_
                have q41 : A 6 1 ≤ 1 := r.w.f1
                refine x_zneN (by omega) i_194_120 ⟨fun g42 => ?_, fun g42 => ?_⟩
                · have k := kn g42 k
                  refine x_aload_n i_194_126 rfl ?_
                  refine x_iload_n i_194_127 rfl ?_
                  refine x_vh (r := []) (lj := [some _, some _, none, none]) i_194_128 w_195 ob_170 [_] rfl rfl (Nat.le_of_ble_eq_true rfl) (Nat.le_of_ble_eq_true rfl) rfl ?_
                  refine c_195 r (by omega) (by omega) (fun M43 r43 f43 => rt_n ?_)
                  have m195a := s195_f1 n A l1
                  refine x_aload_n i_194_131 rfl ?_
                  refine x_iload_n i_194_132 rfl ?_
                  refine n_iconst 0 i_194_133 rfl ?_
                  refine n_atx (((s_195 n A l1)) 0 l1) i_194_134 r43 0 (by omega) (by omega) (Nat.le_of_ble_eq_true rfl) rfl ?_
                  have q44 : ((s_195 n A l1)) 0 l1 ≤ 5 := r43.w.b0 (by omega)
                  refine x_iret i_194_137 rn_194 rfl ?_
                  exact k (show ((s_195 n A l1)) 0 l1 ≤ 4294967295 by omega) _ r43 f43
                · have k := kp g42 k
                  refine n_bipush 4294967292 i_194_123 rfl ?_
                  refine x_iret i_194_125 rn_194 rfl ?_
                  exact k (show 4294967292 ≤ 4294967295 by omega) _ r (FM.refl _)
            · have k := kp g36 k
              refine x_aload_n i_194_86 rfl ?_
              refine x_iload_n i_194_87 rfl ?_
              refine n_iconst 5 i_194_88 rfl ?_
              refine x_vh (r := []) (lj := [some _, some _, some _]) i_194_89 w_190 ob_170 [_, _] rfl rfl (Nat.le_of_ble_eq_true rfl) (Nat.le_of_ble_eq_true rfl) rfl ?_
              refine c_190 r (by omega) (by omega)  (fun q45 => rt_i ?_)
              refine x_zeqN (by omega) i_194_92 ⟨fun g46 => ?_, fun g46 => ?_⟩
              · have k := kp g46 k
                refine x_aload_n i_194_104 rfl ?_
                refine n_iconst 1 i_194_105 rfl ?_
                refine x_iload_n i_194_106 rfl ?_
                refine x_ishlN (by omega) i_194_107 ?_
                refine x_vh (r := []) (lj := [some _, some _]) i_194_108 w_173 ob_170 [_] rfl rfl (Nat.le_of_ble_eq_true rfl) (Nat.le_of_ble_eq_true rfl) rfl ?_
                refine c_173 r (by omega)  (fun q47 => rt_i ?_)
                refine x_zneN (by omega) i_194_111 ⟨fun g48 => ?_, fun g48 => ?_⟩
                · have k := kn g48 k
                  refine x_aload_n i_194_126 rfl ?_
                  refine x_iload_n i_194_127 rfl ?_
                  refine x_vh (r := []) (lj := [some _, some _, none, none]) i_194_128 w_195 ob_170 [_] rfl rfl (Nat.le_of_ble_eq_true rfl) (Nat.le_of_ble_eq_true rfl) rfl ?_
                  refine c_195 r (by omega) (by omega) (fun M49 r49 f49 => rt_n ?_)
                  have m195a := s195_f1 n A l1
                  refine x_aload_n i_194_131 rfl ?_
                  refine x_iload_n i_194_132 rfl ?_
                  refine n_iconst 0 i_194_133 rfl ?_
                  refine n_atx (((s_195 n A l1)) 0 l1) i_194_134 r49 0 (by omega) (by omega) (Nat.le_of_ble_eq_true rfl) rfl ?_
                  have q50 : ((s_195 n A l1)) 0 l1 ≤ 5 := r49.w.b0 (by omega)
                  refine x_iret i_194_137 rn_194 rfl ?_
                  exact k (show ((s_195 n A l1)) 0 l1 ≤ 4294967295 by omega) _ r49 f49
                · have k := kp g48 k
                  refine x_aload_n i_194_114 rfl ?_
                  refine x_gr i_194_115 ob_170 gr_8_1.1 gr_8_1.2 (rt_170_1 _) ?_
                  refine n_iconst 1 i_194_118 rfl ?_
                  refine n_ld (x := A 6 1) i_194_119 ar_171 (by omega) (by omega) r.f1 ?_
                  have q51 : A 6 1 ≤ 1 := r.w.f1
                  refine x_zneN (by omega) i_194_120 ⟨fun g52 => ?_, fun g52 => ?_⟩
                  · have k := kn g52 k
                    refine x_aload_n i_194_126 rfl ?_
                    refine x_iload_n i_194_127 rfl ?_
                    refine x_vh (r := []) (lj := [some _, some _, none, none]) i_194_128 w_195 ob_170 [_] rfl rfl (Nat.le_of_ble_eq_true rfl) (Nat.le_of_ble_eq_true rfl) rfl ?_
                    refine c_195 r (by omega) (by omega) (fun M53 r53 f53 => rt_n ?_)
                    have m195a := s195_f1 n A l1
                    refine x_aload_n i_194_131 rfl ?_
                    refine x_iload_n i_194_132 rfl ?_
                    refine n_iconst 0 i_194_133 rfl ?_
                    refine n_atx (((s_195 n A l1)) 0 l1) i_194_134 r53 0 (by omega) (by omega) (Nat.le_of_ble_eq_true rfl) rfl ?_
                    have q54 : ((s_195 n A l1)) 0 l1 ≤ 5 := r53.w.b0 (by omega)
                    refine x_iret i_194_137 rn_194 rfl ?_
                    exact k (show ((s_195 n A l1)) 0 l1 ≤ 4294967295 by omega) _ r53 f53
                  · have k := kp g52 k
                    refine n_bipush 4294967292 i_194_123 rfl ?_
                    refine x_iret i_194_125 rn_194 rfl ?_
                    exact k (show 4294967292 ≤ 4294967295 by omega) _ r (FM.refl _)
              · have k := kn g46 k
                refine x_aload_n i_194_95 rfl ?_
                refine x_iload_n i_194_96 rfl ?_
                refine n_iconst 5 i_194_97 rfl ?_
                refine x_vh (r := []) (lj := [some _, some _, some _, none]) i_194_98 w_168 ob_170 [_, _] rfl rfl (Nat.le_of_ble_eq_true rfl) (Nat.le_of_ble_eq_true rfl) rfl ?_
                refine c_168 r (by omega) (by omega) (by omega) (fun M55 r55 f55 => rt_n ?_)
                refine x_goto i_194_101 ?_
                refine x_aload_n i_194_126 rfl ?_
                refine x_iload_n i_194_127 rfl ?_
                refine x_vh (r := []) (lj := [some _, some _, none, none]) i_194_128 w_195 ob_170 [_] rfl rfl (Nat.le_of_ble_eq_true rfl) (Nat.le_of_ble_eq_true rfl) rfl ?_
                refine c_195 r55 (by omega) (by omega) (fun M56 r56 f56 => rt_n ?_)
                have m195a := s195_f1 n ((bec A l1 5)) l1
                refine x_aload_n i_194_131 rfl ?_
                refine x_iload_n i_194_132 rfl ?_
                refine n_iconst 0 i_194_133 rfl ?_
                refine n_atx (((s_195 n ((bec A l1 5)) l1)) 0 l1) i_194_134 r56 0 (by omega) (by omega) (Nat.le_of_ble_eq_true rfl) rfl ?_
                have q57 : ((s_195 n ((bec A l1 5)) l1)) 0 l1 ≤ 5 := r56.w.b0 (by omega)
                refine x_iret i_194_137 rn_194 rfl ?_
                exact k (show ((s_195 n ((bec A l1 5)) l1)) 0 l1 ≤ 4294967295 by omega) _ r56 (f55.trans f56)
          · have k := kn g34 k
            refine x_aload_n i_194_67 rfl ?_
            refine x_iload_n i_194_68 rfl ?_
            refine n_iconst 4 i_194_69 rfl ?_
            refine x_vh (r := []) (lj := [some _, some _, some _, none]) i_194_70 w_168 ob_170 [_, _] rfl rfl (Nat.le_of_ble_eq_true rfl) (Nat.le_of_ble_eq_true rfl) rfl ?_
            refine c_168 r (by omega) (by omega) (by omega) (fun M58 r58 f58 => rt_n ?_)
            refine x_goto i_194_73 ?_
            refine x_aload_n i_194_126 rfl ?_
            refine x_iload_n i_194_127 rfl ?_
            refine x_vh (r := []) (lj := [some _, some _, none, none]) i_194_128 w_195 ob_170 [_] rfl rfl (Nat.le_of_ble_eq_true rfl) (Nat.le_of_ble_eq_true rfl) rfl ?_
            refine c_195 r58 (by omega) (by omega) (fun M59 r59 f59 => rt_n ?_)
            have m195a := s195_f1 n ((bec A l1 4)) l1
            refine x_aload_n i_194_131 rfl ?_
            refine x_iload_n i_194_132 rfl ?_
            refine n_iconst 0 i_194_133 rfl ?_
            refine n_atx (((s_195 n ((bec A l1 4)) l1)) 0 l1) i_194_134 r59 0 (by omega) (by omega) (Nat.le_of_ble_eq_true rfl) rfl ?_
            have q60 : ((s_195 n ((bec A l1 4)) l1)) 0 l1 ≤ 5 := r59.w.b0 (by omega)
            refine x_iret i_194_137 rn_194 rfl ?_
            exact k (show ((s_195 n ((bec A l1 4)) l1)) 0 l1 ≤ 4294967295 by omega) _ r59 (f58.trans f59)
      · have k := kp g6 k
        refine x_aload_n i_194_39 rfl ?_
        refine x_iload_n i_194_40 rfl ?_
        refine n_iconst 5 i_194_41 rfl ?_
        refine x_vh (r := []) (lj := [some _, some _, some _, none]) i_194_42 w_168 ob_170 [_, _] rfl rfl (Nat.le_of_ble_eq_true rfl) (Nat.le_of_ble_eq_true rfl) rfl ?_
        refine c_168 r (by omega) (by omega) (by omega) (fun M61 r61 f61 => rt_n ?_)
        refine x_goto i_194_45 ?_
        refine x_aload_n i_194_126 rfl ?_
        refine x_iload_n i_194_127 rfl ?_
        refine x_vh (r := []) (lj := [some _, some _, none, none]) i_194_128 w_195 ob_170 [_] rfl rfl (Nat.le_of_ble_eq_true rfl) (Nat.le_of_ble_eq_true rfl) rfl ?_
        refine c_195 r61 (by omega) (by omega) (fun M62 r62 f62 => rt_n ?_)
        have m195a := s195_f1 n ((bec A l1 5)) l1
        refine x_aload_n i_194_131 rfl ?_
        refine x_iload_n i_194_132 rfl ?_
        refine n_iconst 0 i_194_133 rfl ?_
        refine n_atx (((s_195 n ((bec A l1 5)) l1)) 0 l1) i_194_134 r62 0 (by omega) (by omega) (Nat.le_of_ble_eq_true rfl) rfl ?_
        have q63 : ((s_195 n ((bec A l1 5)) l1)) 0 l1 ≤ 5 := r62.w.b0 (by omega)
        refine x_iret i_194_137 rn_194 rfl ?_
        exact k (show ((s_195 n ((bec A l1 5)) l1)) 0 l1 ≤ 4294967295 by omega) _ r62 (f61.trans f62)
    · have k := kn g3 k
      refine n_bipush 4294967291 i_194_21 rfl ?_
      refine x_iret i_194_23 rn_194 rfl ?_
      exact k (show 4294967291 ≤ 4294967295 by omega) _ r (FM.refl _)
  · have k := kn g1 k
    refine x_iretI i_154_15 rn_154 (by decide +kernel) ?_
    refine x_ifF i_194_5 (by decide +kernel) ?_
    refine n_bipush 4294967294 i_194_8 rfl ?_
    refine x_iret i_194_10 rn_194 rfl ?_
    exact k (show 4294967294 ≤ 4294967295 by omega) _ r (FM.refl _)
def s_197_83 (n : Nat) : Nat → HA → Nat → Nat → Nat → Nat → Nat × HA
  | 0, A, _, _, _, _ => (0, A)
  | d + 1, A, l1, l2, l3, l4 => (if n ≤ l4 then (if (s_173 n A l2) = 0 then (s_189 n A l3 l2, (s_191 n ((s_166 n A l1)) (low l3 5 0) (s_189 n A l3 l2) l2)) else (4, A)) else (if ((l2 >>> l4) &&& 1) = 1 then (s_197_83 n d (s_195 n A l4) l1 l2 l3 (l4 + 1)) else (s_197_83 n d A l1 l2 l3 (l4 + 1))))
theorem c_197_83 {sc : a_Sc} {fd : Nat} {Q : Option Value → a_Hp → Prop} {n : Nat} : ∀ (d : Nat) {M : a_Mm} {A : HA} {l1 l2 l3 l4 : Nat} (r : RM M n A) (hl1 : l1 ≤ 4294967295) (hl2 : l2 ≤ 31) (hl3 : l3 ≤ 31) (hl4 : l4 ≤ 5) (i0 : l4 ≤ n) (i1 : ¬ l3 = 0) (i2 : low l3 5 0 < n) (i3 : A 6 1 = 0) (hm : n - l4 < d) (k : MR 4294967295 Q sc fd M n (s_197_83 n d A l1 l2 l3 l4)), a_Ex 197 83 [some (.ref 170), some (.int (N l1)), some (.int (N l2)), some (.int (N l3)), some (.int (N l4))] [] (a_hp sc fd M) Q := by
  intro d
  induction d with
  | zero => intro M A l1 l2 l3 l4 r hl1 hl2 hl3 hl4 i0 i1 i2 i3 hm k; exact absurd hm (Nat.not_lt_zero _)
  | succ d ih =>
      intro M A l1 l2 l3 l4 r hl1 hl2 hl3 hl4 i0 i1 i2 i3 hm k
      unfold s_197_83 at k
      have n5 := r.n5
      have n2 := r.n2
      refine x_iload i_197_83 rfl ?_
      refine x_aload_n i_197_85 rfl ?_
      refine x_gr i_197_86 ob_170 gr_8_1.1 gr_8_1.2 (rt_170_1 _) ?_
      refine n_iconst 0 i_197_89 rfl ?_
      refine n_ld (x := n) i_197_90 ar_171 (by omega) (by omega) r.nn ?_
      refine x_igeN (by omega) (by omega) i_197_91 ⟨fun g1 => ?_, fun g1 => ?_⟩
      · have k := kp g1 k
        refine x_aload_n i_197_115 rfl ?_
        refine x_iload_n i_197_116 rfl ?_
        refine x_vh (r := []) (lj := [some _, some _]) i_197_117 w_173 ob_170 [_] rfl rfl (Nat.le_of_ble_eq_true rfl) (Nat.le_of_ble_eq_true rfl) rfl ?_
        refine c_173 r (by omega)  (fun q2 => rt_i ?_)
        refine x_zeqN (by omega) i_197_120 ⟨fun g3 => ?_, fun g3 => ?_⟩
        · have k := kp g3 k
          refine x_aload_n i_197_125 rfl ?_
          refine x_iload_n i_197_126 rfl ?_
          refine x_iload_n i_197_127 rfl ?_
          refine x_vh (r := []) (lj := [some _, some _, some _, none]) i_197_128 w_189 ob_170 [_, _] rfl rfl (Nat.le_of_ble_eq_true rfl) (Nat.le_of_ble_eq_true rfl) rfl ?_
          refine c_189 r (by omega) (by omega)  (fun q4 => rt_i ?_)
          have m189a := s189_le n A l3 l2
          have m189b := s189_f n A l3 l2
          refine x_istore i_197_131 rfl rfl ?_
          refine x_aload_n i_197_133 rfl ?_
          refine x_iload_n i_197_134 rfl ?_
          refine x_vh (r := []) (lj := [some _, some _]) i_197_135 w_166 ob_170 [_] rfl rfl (Nat.le_of_ble_eq_true rfl) (Nat.le_of_ble_eq_true rfl) rfl ?_
          refine c_166 r (by omega)  (fun M5 r5 f5 => rt_n ?_)
          refine x_aload_n i_197_138 rfl ?_
          refine x_iload_n i_197_139 rfl ?_
          refine x_sh (r := [_]) (lj := [some _, none]) i_197_140 ws_188 [_] rfl rfl (Nat.le_of_ble_eq_true rfl) (Nat.le_of_ble_eq_true rfl) rfl ?_
          refine k_188 (by omega) (by omega) (fun q6 => rt_i ?_)
          have m188 := low_or (x := l3) n5
          refine x_iload i_197_143 rfl ?_
          refine x_iload_n i_197_145 rfl ?_
          refine x_vh (r := []) (lj := [some _, some _, some _, some _, none, none, none]) i_197_146 w_191 ob_170 [_, _, _] rfl rfl (Nat.le_of_ble_eq_true rfl) (Nat.le_of_ble_eq_true rfl) rfl ?_
          refine c_191 r5 (by omega) (by omega) (by omega) (by omega) (fun M7 r7 f7 => rt_n ?_)
          refine x_iload i_197_149 rfl ?_
          refine x_iret i_197_151 rn_197 rfl ?_
          exact k (show s_189 n A l3 l2 ≤ 4294967295 by omega) _ r7 (f5.trans f7)
        · have k := kn g3 k
          refine n_iconst 4 i_197_123 rfl ?_
          refine x_iret i_197_124 rn_197 rfl ?_
          exact k (show 4 ≤ 4294967295 by omega) _ r (FM.refl _)
      · have k := kn g1 k
        refine x_iload_n i_197_94 rfl ?_
        refine x_iload i_197_95 rfl ?_
        refine x_sh (r := []) (lj := [some _, some _]) i_197_97 ws_161 [_, _] rfl rfl (Nat.le_of_ble_eq_true rfl) (Nat.le_of_ble_eq_true rfl) rfl ?_
        refine x_iload_n i_161_0 rfl ?_
        refine x_iload_n i_161_1 rfl ?_
        refine x_ishrN (by omega) (by omega) i_161_2 ?_
        refine n_iconst 1 i_161_3 rfl ?_
        refine x_iandN i_161_4 ?_
        refine n_iconst 1 i_161_5 rfl ?_
        have q8 : l2 >>> l4 ≤ l2 := shr_le _ _
        have q9 : (l2 >>> l4) &&& 1 ≤ 1 := Nat.le_trans Nat.and_le_right (by omega)
        have q10 : (l2 >>> l4) &&& 1 ≤ (l2 >>> l4) := Nat.and_le_left
        refine x_ineN (by omega) (by omega) i_161_6 ⟨fun g11 => ?_, fun g11 => ?_⟩
        · have k := kn g11 k
          refine n_iconst 0 i_161_13 rfl ?_
          refine x_iretI i_161_14 rn_161 (by decide +kernel) ?_
          refine x_ifT i_197_100 (by decide +kernel) ?_
          refine n_iinc 1 i_197_109 rfl rfl rfl rfl ?_
          refine x_goto i_197_112 ?_
          exact ih r (by omega) (by omega) (by omega) (by omega) (by omega) (by omega) (by omega) (by omega) (by omega) k
        · have k := kp g11 k
          refine n_iconst 1 i_161_9 rfl ?_
          refine x_goto i_161_10 ?_
          refine x_iretI i_161_14 rn_161 (by decide +kernel) ?_
          refine x_ifF i_197_100 (by decide +kernel) ?_
          refine x_aload_n i_197_103 rfl ?_
          refine x_iload i_197_104 rfl ?_
          refine x_vh (r := []) (lj := [some _, some _, none, none]) i_197_106 w_195 ob_170 [_] rfl rfl (Nat.le_of_ble_eq_true rfl) (Nat.le_of_ble_eq_true rfl) rfl ?_
          refine c_195 r (by omega) (by omega) (fun M12 r12 f12 => rt_n ?_)
          have m195a := s195_f1 n A l4
          refine n_iinc 1 i_197_109 rfl rfl rfl rfl ?_
          refine x_goto i_197_112 ?_
          exact ih r12 (by omega) (by omega) (by omega) (by omega) (by omega) (by omega) (by omega) (by omega) (by omega) (k.tr f12)
def s_197 (n : Nat) (A : HA) (l1 : Nat) : Nat × HA :=
  (if (isK l1) = 0 then (4294967293, A) else (if (A 6 1) = 1 then (4294967291, A) else (if (s_158 n A 1 1) = 0 then (if (s_158 n A 1 2) = 0 then (4294967290, A) else (if (s_199 n A ((s_158 n A 1 2) &&& (s_158 n A 2 (A 2 (low (s_158 n A 1 2) 5 0))))) = 0 then (4294967292, A) else (s_197_83 n (6) A l1 ((s_158 n A 1 2) &&& (s_158 n A 2 (A 2 (low (s_158 n A 1 2) 5 0)))) (s_198 n A ((s_158 n A 1 2) &&& (s_158 n A 2 (A 2 (low (s_158 n A 1 2) 5 0))))) 0))) else (4294967291, A))))
theorem c_197 {sc : a_Sc} {fd : Nat} {M : a_Mm} {A : HA} {Q : Option Value → a_Hp → Prop} {n : Nat} (r : RM M n A) {l1 : Nat} (hl1 : l1 ≤ 4294967295) (k : MR 4294967295 Q sc fd M n (s_197 n A l1)) : a_Ex 197 0 [some (.ref 170), some (.int (N l1)), none, none, none] [] (a_hp sc fd M) Q := by
  unfold s_197 at k
  have n5 := r.n5
  have n2 := r.n2
  refine x_iload_n i_197_0 rfl ?_
  refine x_sh (r := []) (lj := [some _]) i_197_1 ws_165 [_] rfl rfl (Nat.le_of_ble_eq_true rfl) (Nat.le_of_ble_eq_true rfl) rfl ?_
  refine c_165 (by omega)  (fun q1 => rt_i ?_)
  refine x_zneN (by omega) i_197_4 ⟨fun g2 => ?_, fun g2 => ?_⟩
  · have k := kn g2 k
    refine x_aload_n i_197_10 rfl ?_
    refine x_gr i_197_11 ob_170 gr_8_1.1 gr_8_1.2 (rt_170_1 _) ?_
    refine n_iconst 1 i_197_14 rfl ?_
    refine n_ld (x := A 6 1) i_197_15 ar_171 (by omega) (by omega) r.f1 ?_
    refine n_iconst 1 i_197_16 rfl ?_
    have q3 : A 6 1 ≤ 1 := r.w.f1
    refine x_ieqN (by omega) (by omega) i_197_17 ⟨fun g4 => ?_, fun g4 => ?_⟩
    · have k := kp g4 k
      refine n_bipush 4294967291 i_197_29 rfl ?_
      refine x_iret i_197_31 rn_197 rfl ?_
      exact k (show 4294967291 ≤ 4294967295 by omega) _ r (FM.refl _)
    · have k := kn g4 k
      refine x_aload_n i_197_20 rfl ?_
      refine n_iconst 1 i_197_21 rfl ?_
      refine n_iconst 1 i_197_22 rfl ?_
      refine x_vh (r := []) (lj := [some _, some _, some _, none, none]) i_197_23 w_158 ob_170 [_, _] rfl rfl (Nat.le_of_ble_eq_true rfl) (Nat.le_of_ble_eq_true rfl) rfl ?_
      refine c_158 r (by omega) (by omega)  (fun q5 => rt_i ?_)
      have m158a := s158_lt n A 1 1 n5
      refine x_zeqN (by omega) i_197_26 ⟨fun g6 => ?_, fun g6 => ?_⟩
      · have k := kp g6 k
        refine x_aload_n i_197_32 rfl ?_
        refine n_iconst 1 i_197_33 rfl ?_
        refine n_iconst 2 i_197_34 rfl ?_
        refine x_vh (r := []) (lj := [some _, some _, some _, none, none]) i_197_35 w_158 ob_170 [_, _] rfl rfl (Nat.le_of_ble_eq_true rfl) (Nat.le_of_ble_eq_true rfl) rfl ?_
        refine c_158 r (by omega) (by omega)  (fun q7 => rt_i ?_)
        have m158a := s158_lt n A 1 2 n5
        refine x_istore_n i_197_38 rfl rfl ?_
        refine x_iload_n i_197_39 rfl ?_
        refine x_zneN (by omega) i_197_40 ⟨fun g8 => ?_, fun g8 => ?_⟩
        · have k := kn g8 k
          refine x_iload_n i_197_46 rfl ?_
          refine x_aload_n i_197_47 rfl ?_
          refine n_iconst 2 i_197_48 rfl ?_
          refine x_aload_n i_197_49 rfl ?_
          refine x_iload_n i_197_50 rfl ?_
          refine x_sh (r := [_, _, _, _]) (lj := [some _, none]) i_197_51 ws_188 [_] rfl rfl (Nat.le_of_ble_eq_true rfl) (Nat.le_of_ble_eq_true rfl) rfl ?_
          refine k_188 (by omega) (by omega) (fun q9 => rt_i ?_)
          have m188 := low_or (x := (s_158 n A 1 2)) n5
          refine n_iconst 2 i_197_54 rfl ?_
          refine n_atx (A 2 (low (s_158 n A 1 2) 5 0)) i_197_55 r 2 (by omega) (by omega) (Nat.le_of_ble_eq_true rfl) rfl ?_
          have q10 : A 2 (low (s_158 n A 1 2) 5 0) ≤ 4 := r.w.b2 (by omega)
          refine x_vh (r := [_]) (lj := [some _, some _, some _, none, none]) i_197_58 w_158 ob_170 [_, _] rfl rfl (Nat.le_of_ble_eq_true rfl) (Nat.le_of_ble_eq_true rfl) rfl ?_
          refine c_158 r (by omega) (by omega)  (fun q11 => rt_i ?_)
          have m158a := s158_lt n A 2 (A 2 (low (s_158 n A 1 2) 5 0)) n5
          refine x_iandN i_197_61 ?_
          refine x_istore_n i_197_62 rfl rfl ?_
          refine x_aload_n i_197_63 rfl ?_
          refine x_iload_n i_197_64 rfl ?_
          have q12 : (s_158 n A 1 2) &&& (s_158 n A 2 (A 2 (low (s_158 n A 1 2) 5 0))) ≤ 31 := Nat.le_trans Nat.and_le_left (by omega)
          have q13 : (s_158 n A 1 2) &&& (s_158 n A 2 (A 2 (low (s_158 n A 1 2) 5 0))) ≤ (s_158 n A 1 2) := Nat.and_le_left
          refine x_vh (r := []) (lj := [some _, some _, none, none]) i_197_65 w_198 ob_170 [_] rfl rfl (Nat.le_of_ble_eq_true rfl) (Nat.le_of_ble_eq_true rfl) rfl ?_
          refine c_198 r (by omega)  (fun q14 => rt_i ?_)
          have m198a := s198_lt n A ((s_158 n A 1 2) &&& (s_158 n A 2 (A 2 (low (s_158 n A 1 2) 5 0))))
          have m198b := s198_low n A ((s_158 n A 1 2) &&& (s_158 n A 2 (A 2 (low (s_158 n A 1 2) 5 0)))) n5
          refine x_istore_n i_197_68 rfl rfl ?_
          refine x_aload_n i_197_69 rfl ?_
          refine x_iload_n i_197_70 rfl ?_
          refine x_vh (r := []) (lj := [some _, some _]) i_197_71 w_199 ob_170 [_] rfl rfl (Nat.le_of_ble_eq_true rfl) (Nat.le_of_ble_eq_true rfl) rfl ?_
          refine c_199 r (by omega)  (fun q15 => rt_i ?_)
          have m199a := s199_ne n A ((s_158 n A 1 2) &&& (s_158 n A 2 (A 2 (low (s_158 n A 1 2) 5 0))))
          refine x_zneN (by omega) i_197_74 ⟨fun g16 => ?_, fun g16 => ?_⟩
          · have k := kn g16 k
            refine n_iconst 0 i_197_80 rfl ?_
            refine x_istore i_197_81 rfl rfl ?_
            exact c_197_83 (6) r (by omega) (by omega) (by omega) (by omega) (by omega) (by omega) (by omega) (by omega) (by omega) k
          · have k := kp g16 k
            refine n_bipush 4294967292 i_197_77 rfl ?_
            refine x_iret i_197_79 rn_197 rfl ?_
            exact k (show 4294967292 ≤ 4294967295 by omega) _ r (FM.refl _)
        · have k := kp g8 k
          refine n_bipush 4294967290 i_197_43 rfl ?_
          refine x_iret i_197_45 rn_197 rfl ?_
          exact k (show 4294967290 ≤ 4294967295 by omega) _ r (FM.refl _)
      · have k := kn g6 k
        refine n_bipush 4294967291 i_197_29 rfl ?_
        refine x_iret i_197_31 rn_197 rfl ?_
        exact k (show 4294967291 ≤ 4294967295 by omega) _ r (FM.refl _)
  · have k := kp g2 k
    refine n_bipush 4294967293 i_197_7 rfl ?_
    refine x_iret i_197_9 rn_197 rfl ?_
    exact k (show 4294967293 ≤ 4294967295 by omega) _ r (FM.refl _)
