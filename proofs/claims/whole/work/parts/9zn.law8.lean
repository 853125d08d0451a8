/-! the law's cases: beginning -/
section LWO
variable {xs : Nat → Int32} {L s fd n k l : Nat} {A : HA} {M : a_Mm} {Q : Option Value → a_Hp → Prop}
theorem opn_nr {C : HA} {m f : Nat} (e : EQ C (opn m f A)) : NR m C := fun _ s _ h => by
  rw [e.a (by omega) s] at h
  exact absurd (show (0 : Nat) = 1 from h) (by omega)
theorem lw_204 (hL : L ≤ 3072) (hs : s + 6 ≤ L) (I : INVE M) (K : ∀ M' fd', INVE M' → a_Ex 262 1261 [some (.ref (a_CB + 1000)), some (.ref 0), some (.ref 170), some (.int (N s))] [] (a_hp (L + 1, xs) fd' M') Q) : a_Ex 262 204 [some (.ref (a_CB + 1000)), some (.ref 0), some (.ref 170), some (.int (N s))] [] (a_hp (L + 1, xs) fd M) Q := by
  obtain ⟨n, A, B, nx, sz, U, gi, xi, f, T, ff, I⟩ := I
  obtain ⟨⟨i1, i2, i3, i4⟩, ⟨j1, j2, j3⟩, k, ⟨l1, l2⟩, o, cm⟩ := id I
  by_cases c : (2 ≤ ax xs (s + 1) ∧ ax xs (s + 1) ≤ 5) ∧ ax xs (s + 2) ≤ 1
  · refine x_aload_n i_262_204 rfl ?_
    refine x_aload_n i_262_205 rfl ?_
    refine x_iload_n i_262_206 rfl ?_
    refine n_iconst 1 i_262_207 rfl ?_
    refine x_iaddN i_262_208 ?_
    refine n_ldL i_262_209 (by omega) hL ?_
    refine x_aload_n i_262_210 rfl ?_
    refine x_iload_n i_262_211 rfl ?_
    refine n_iconst 2 i_262_212 rfl ?_
    refine x_iaddN i_262_213 ?_
    refine n_ldL i_262_214 (by omega) hL ?_
    refine x_vh (r := []) (lj := [some _, some _, some _]) i_262_215 w_1 ob_0 [_, _] rfl rfl (Nat.le_of_ble_eq_true rfl) (Nat.le_of_ble_eq_true rfl) rfl ?_
    refine d_1 i1 j1 (ax_lt _ _) (ax_lt _ _) (fun h => absurd c h) (fun _ M1 C e1 r1 p1 f1 => rt_i ?_)
    have iq := I.mid f1
    refine x_aload_n i_262_218 rfl ?_
    refine x_aload_n i_262_219 rfl ?_
    refine x_iload_n i_262_220 rfl ?_
    refine n_iconst 1 i_262_221 rfl ?_
    refine x_iaddN i_262_222 ?_
    refine n_ldL i_262_223 (by omega) hL ?_
    refine x_aload_n i_262_224 rfl ?_
    refine x_iload_n i_262_225 rfl ?_
    refine n_iconst 2 i_262_226 rfl ?_
    refine x_iaddN i_262_227 ?_
    refine n_ldL i_262_228 (by omega) hL ?_
    refine x_vh (r := [_]) (lj := [some _, some _, some _]) i_262_229 w_146 ob_170 [_, _] rfl rfl (Nat.le_of_ble_eq_true rfl) (Nat.le_of_ble_eq_true rfl) rfl ?_
    refine e_146 iq.1 iq.2 (ax_lt _ _) (ax_lt _ _) (fun h => absurd c h) (fun _ M2 r2 p2 f2 => rt_i ?_)
    refine x_ieq i_262_232 ⟨fun g1 => ?_, fun g1 => ?_⟩
    · exact K _ _ (I.tell (v := 0) r1 (by rw [if_pos (by omega)]; exact p1) f1 r2 (by rw [if_pos (by omega)]; exact p2) f2 (e1.trans (opn_eq _ _)) (opn_nr e1))
    · exact absurd rfl g1
  · refine x_aload_n i_262_204 rfl ?_
    refine x_aload_n i_262_205 rfl ?_
    refine x_iload_n i_262_206 rfl ?_
    refine n_iconst 1 i_262_207 rfl ?_
    refine x_iaddN i_262_208 ?_
    refine n_ldL i_262_209 (by omega) hL ?_
    refine x_aload_n i_262_210 rfl ?_
    refine x_iload_n i_262_211 rfl ?_
    refine n_iconst 2 i_262_212 rfl ?_
    refine x_iaddN i_262_213 ?_
    refine n_ldL i_262_214 (by omega) hL ?_
    refine x_vh (r := []) (lj := [some _, some _, some _]) i_262_215 w_1 ob_0 [_, _] rfl rfl (Nat.le_of_ble_eq_true rfl) (Nat.le_of_ble_eq_true rfl) rfl ?_
    refine d_1 i1 j1 (ax_lt _ _) (ax_lt _ _) (fun _ => rt_i ?_) (fun h => absurd h c)
    refine x_aload_n i_262_218 rfl ?_
    refine x_aload_n i_262_219 rfl ?_
    refine x_iload_n i_262_220 rfl ?_
    refine n_iconst 1 i_262_221 rfl ?_
    refine x_iaddN i_262_222 ?_
    refine n_ldL i_262_223 (by omega) hL ?_
    refine x_aload_n i_262_224 rfl ?_
    refine x_iload_n i_262_225 rfl ?_
    refine n_iconst 2 i_262_226 rfl ?_
    refine x_iaddN i_262_227 ?_
    refine n_ldL i_262_228 (by omega) hL ?_
    refine x_vh (r := [_]) (lj := [some _, some _, some _]) i_262_229 w_146 ob_170 [_, _] rfl rfl (Nat.le_of_ble_eq_true rfl) (Nat.le_of_ble_eq_true rfl) rfl ?_
    refine e_146 i2 j2 (ax_lt _ _) (ax_lt _ _) (fun _ M2 r2 p2 f2 => rt_i ?_) (fun h => absurd h c)
    refine x_ieq i_262_232 ⟨fun g1 => ?_, fun g1 => ?_⟩
    · exact K _ _ (I.tell (v := 4294967295) i1 (by rw [if_neg (by omega)]; exact j1) (fun _ _ _ => rfl) r2 (by rw [if_neg (by omega)]; exact p2) f2 (i3.r 9 0 0 (Or.inl (Nat.le_refl _))) i4)
    · exact absurd rfl g1
end LWO
