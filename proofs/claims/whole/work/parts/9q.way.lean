/-! the class tells of the way to the first unlike stand -/
def fu (n : Nat) (E : HA) : Nat → Nat
  | 0 => 0
  | z + 1 => if fu n E z < z then fu n E z else if un n (E 0 z) = true then z else z + 1
def wy (n : Nat) (E : HA) (z i : Nat) : Nat := if fu n E z < z ∧ i < E 3 (fu n E z) then E 2 (anc E (fu n E z) (E 3 (fu n E z) - 1 - i)) else 4294967295
def mw32 (n : Nat) (A : HA) (g i : Nat) : Nat := if ¬ g ≤ 1 ∨ 2147483648 ≤ i then 4294967293 else if ¬ n ≤ 3 then 4294967291 else wy n (BF n A g).1 (BF n A g).2 i
section WAY
variable {sc : a_Sc} {fd : Nat} {M M0 : a_Mm} {n g o u w x i : Nat} {A B E : HA} {Q : Option Value → a_Hp → Prop}
theorem fu_le (z : Nat) : fu n E z ≤ z ∧ (fu n E z < z → fun1 n E (fu n E z)) ∧ (fu n E z = z → ∀ u, u < z → ¬ un n (E 0 u) = true) := by
  induction z with
  | zero => exact ⟨Nat.le_refl _, fun h => absurd h (Nat.lt_irrefl _), fun _ u hu => absurd hu (Nat.not_lt_zero _)⟩
  | succ z ih =>
    obtain ⟨i1, i2, i3⟩ := ih
    unfold fu
    by_cases c : fu n E z < z
    · rw [if_pos c]
      exact ⟨by omega, fun _ => i2 c, fun h => absurd h (by omega)⟩
    · rw [if_neg c]
      have e := i3 (by omega)
      by_cases y : un n (E 0 z) = true
      · rw [if_pos y]
        exact ⟨by omega, fun _ => ⟨y, e⟩, fun h => absurd h (by omega)⟩
      · rw [if_neg y]
        refine ⟨Nat.le_refl _, fun h => absurd h (Nat.lt_irrefl _), fun _ u hu => ?_⟩
        by_cases q : u = z
        · rw [q]; exact y
        · exact e u (by omega)
theorem c_32 (hg : g < 4294967296) (hi : i < 4294967296) (r : RC M 1 n A) (cm : CM M) (K : ∀ M' fd', CM M' → FRq M M' → Q (some (.int (N (mw32 n A g i)))) (a_hp sc fd' M')) : a_Ex 32 0 [some (.ref 0), some (.int (N g)), some (.int (N i)), none] [] (a_hp sc fd M) Q := by
  have n5 := r.n5
  have n2 := r.n2
  have no1 : (¬ g ≤ 1 ∨ 2147483648 ≤ i) → Q (some (.int (N 4294967293))) (a_hp sc fd M) := fun h => by
    have K := K M fd cm (FRq.refl M)
    unfold mw32 at K; rw [if_pos h] at K; exact K
  have no2 : ¬ (¬ g ≤ 1 ∨ 2147483648 ≤ i) → ¬ n ≤ 3 → Q (some (.int (N 4294967291))) (a_hp sc fd M) := fun h h2 => by
    have K := K M fd cm (FRq.refl M)
    unfold mw32 at K; rw [if_neg h, if_pos h2] at K; exact K
  refine x_iload_n i_32_0 rfl ?_
  refine n_zltU (by omega) i_32_1 ⟨fun g1 => ?_, fun g1 => ?_⟩
  · refine n_bipush 4294967293 i_32_13 rfl ?_
    refine x_iret i_32_15 rn_32 rfl ?_
    exact no1 (by omega)
  · refine x_iload_n i_32_4 rfl ?_
    refine n_iconst 1 i_32_5 rfl ?_
    refine n_igtU (by omega) (by omega) i_32_6 ⟨fun g2 => ?_, fun g2 => ?_⟩
    · refine n_bipush 4294967293 i_32_13 rfl ?_
      refine x_iret i_32_15 rn_32 rfl ?_
      exact no1 (by omega)
    · refine x_iload_n i_32_9 rfl ?_
      refine n_zgeU (by omega) i_32_10 ⟨fun g3 => ?_, fun g3 => ?_⟩
      · refine x_aload_n i_32_16 rfl ?_
        refine x_gr i_32_17 ob_0 gr_0_0.1 gr_0_0.2 (rt_0_0 _) ?_
        refine n_gi (x := n) i_32_20 hb1.ob gf_1_0.1 gf_1_0.2 r.nn ?_
        refine n_iconst 3 i_32_23 rfl ?_
        refine x_ileN (by omega) (by omega) i_32_24 ⟨fun g4 => ?_, fun g4 => ?_⟩
        · refine x_aload_n i_32_30 rfl ?_
          refine x_iload_n i_32_31 rfl ?_
          refine x_vh (r := []) (lj := [some _, some _, none, none, none]) i_32_32 w_29 ob_0 [_] rfl rfl (Nat.le_of_ble_eq_true rfl) (Nat.le_of_ble_eq_true rfl) rfl ?_
          have hok : ¬ (¬ g ≤ 1 ∨ 2147483648 ≤ i) := by omega
          have hn : n = 2 ∨ n = 3 := by omega
          have hg1 : g ≤ 1 := by omega
          refine b_29 hg1 hn r cm (fun M1 fd1 mx cm1 fr1 => rt_q ?_)
          have K := K M1 fd1 cm1 fr1
          unfold mw32 at K
          rw [if_neg hok, if_neg (fun q => q (show n ≤ 3 by omega))] at K
          obtain ⟨m1, m2, m3, m4, m5, m6, m7⟩ := mx
          have mb := mo_b g
          have hd : ∀ j, j < (BF n A g).2 → (BF n A g).1 3 j ≤ 37 := fun j hj => bf_dep hn r.w hj
          generalize (BF n A g).1 = E at *
          generalize (BF n A g).2 = z at *
          obtain ⟨f1, f2, f3⟩ := fu_le (n := n) (E := E) z
          unfold wy at K
          refine x_astore_n i_32_35 rfl rfl ?_
          refine x_iload_n i_32_36 rfl ?_
          refine x_aload_n i_32_37 rfl ?_
          by_cases c : fu n E z < z
          · have hf := f2 c
            have h37 := hd _ c
            have ew : wln n E z = E 3 (fu n E z) := by rw [wln_f c hf]; omega
            rw [ew] at m5
            refine n_gi (x := E 3 (fu n E z)) i_32_38 mb.ob gf_7_4.1 gf_7_4.2 m5 ?_
            refine x_igeN (by omega) (by omega) i_32_41 ⟨fun g1 => ?_, fun g1 => ?_⟩
            · rw [if_neg (by omega)] at K
              refine n_iconst 4294967295 i_32_59 rfl ?_
              refine x_iret i_32_60 rn_32 rfl ?_
              exact K
            · refine x_iload_n i_32_44 rfl ?_
              refine n_bipush 64 i_32_45 rfl ?_
              refine x_igeN (by omega) (by omega) i_32_47 ⟨fun g2 => ?_, fun g2 => ?_⟩
              · exact absurd g2 (by omega)
              · rw [if_pos (by omega)] at K
                refine x_aload_n i_32_50 rfl ?_
                refine x_gr i_32_51 mb.ob gr_7_3.1 gr_7_3.2 (mb.r3 _) ?_
                refine x_iload_n i_32_54 rfl ?_
                refine n_ld (x := E 2 (anc E (fu n E z) (E 3 (fu n E z) - 1 - i))) i_32_55 mb.a3 (by omega) (by omega) (m7 _ c hf i (by omega)) ?_
                refine x_goto i_32_56 ?_
                refine x_iret i_32_60 rn_32 rfl ?_
                exact K
          · have ew : wln n E z = 4294967295 := wln_no (f3 (by omega))
            rw [ew] at m5
            rw [if_neg (fun q => c q.1)] at K
            refine n_gi (x := 4294967295) i_32_38 mb.ob gf_7_4.1 gf_7_4.2 m5 ?_
            refine x_ige i_32_41 ⟨fun g1 => ?_, fun g1 => ?_⟩
            · refine n_iconst 4294967295 i_32_59 rfl ?_
              refine x_iret i_32_60 rn_32 rfl ?_
              exact K
            · exact absurd (by rw [N_leV (by omega) (by omega)]; omega) g1
        · refine n_bipush 4294967291 i_32_27 rfl ?_
          refine x_iret i_32_29 rn_32 rfl ?_
          exact no2 (by omega) (by omega)
      · refine n_bipush 4294967293 i_32_13 rfl ?_
        refine x_iret i_32_15 rn_32 rfl ?_
        exact no1 (by omega)
end WAY
