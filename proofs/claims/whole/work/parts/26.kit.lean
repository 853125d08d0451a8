/-! facts for the walks, by program -/
theorem ob_0 : a_OB 0 0 := ⟨by decide, by decide, by decide +kernel⟩
theorem ob_19 : a_OB 3 19 := ⟨by decide, by decide, by decide +kernel⟩
theorem ob_141 : a_OB 4 141 := ⟨by decide, by decide, by decide +kernel⟩
theorem ob_146 : a_OB 5 146 := ⟨by decide, by decide, by decide +kernel⟩
theorem ob_147 : a_OB 6 147 := ⟨by decide, by decide, by decide +kernel⟩
theorem ob_170 : a_OB 8 170 := ⟨by decide, by decide, by decide +kernel⟩
theorem ar_20 : a_AR 3 20 11 := ⟨by decide, by decide, by decide +kernel⟩
theorem ar_120 : a_AR 3 120 2 := ⟨by decide, by decide, by decide +kernel⟩
theorem ar_139 : a_AR 2 139 2 := ⟨by decide, by decide, by decide +kernel⟩
theorem ar_140 : a_AR 1 140 200 := ⟨by decide, by decide, by decide +kernel⟩
theorem ar_142 : a_AR 0 142 12 := ⟨by decide, by decide, by decide +kernel⟩
theorem ar_143 : a_AR 0 143 12 := ⟨by decide, by decide, by decide +kernel⟩
theorem ar_144 : a_AR 0 144 12 := ⟨by decide, by decide, by decide +kernel⟩
theorem ar_145 : a_AR 1 145 200 := ⟨by decide, by decide, by decide +kernel⟩
theorem ar_165 : a_AR 0 165 864 := ⟨by decide, by decide, by decide +kernel⟩
theorem ar_166 : a_AR 0 166 4096 := ⟨by decide, by decide, by decide +kernel⟩
theorem ar_167 : a_AR 0 167 4096 := ⟨by decide, by decide, by decide +kernel⟩
theorem ar_168 : a_AR 0 168 4096 := ⟨by decide, by decide, by decide +kernel⟩
theorem ar_169 : a_AR 0 169 4096 := ⟨by decide, by decide, by decide +kernel⟩
theorem ar_171 : a_AR 0 171 648 := ⟨by decide, by decide, by decide +kernel⟩
theorem ar_172 : a_AR 0 172 2160 := ⟨by decide, by decide, by decide +kernel⟩
theorem ar_173 : a_AR 0 173 216 := ⟨by decide, by decide, by decide +kernel⟩
theorem ar_174 : a_AR 0 174 216 := ⟨by decide, by decide, by decide +kernel⟩
theorem ar_175 : a_AR 2 175 2 := ⟨by decide, by decide, by decide +kernel⟩
theorem ar_176 : a_AR 0 176 27648 := ⟨by decide, by decide, by decide +kernel⟩
theorem ar_177 : a_AR 0 177 27648 := ⟨by decide, by decide, by decide +kernel⟩
theorem ar_178 : a_AR 0 178 27648 := ⟨by decide, by decide, by decide +kernel⟩
theorem ar_179 : a_AR 0 179 27648 := ⟨by decide, by decide, by decide +kernel⟩
theorem ar_180 : a_AR 0 180 1728 := ⟨by decide, by decide, by decide +kernel⟩
theorem ar_181 : a_AR 0 181 200 := ⟨by decide, by decide, by decide +kernel⟩
theorem ar_182 : a_AR 0 182 12 := ⟨by decide, by decide, by decide +kernel⟩
theorem ar_183 : a_AR 0 183 12 := ⟨by decide, by decide, by decide +kernel⟩
theorem ar_184 : a_AR 0 184 12 := ⟨by decide, by decide, by decide +kernel⟩
theorem rt_0_0 (fd : Nat) : a_mrf fd 0 0 = some 1 := a_mrf_of (by decide +kernel) (by omega)
theorem rt_0_1 (fd : Nat) : a_mrf fd 0 1 = some 10 := a_mrf_of (by decide +kernel) (by omega)
theorem rt_0_2 (fd : Nat) : a_mrf fd 0 2 = some 19 := a_mrf_of (by decide +kernel) (by omega)
theorem rt_0_3 (fd : Nat) : a_mrf fd 0 3 = some 120 := a_mrf_of (by decide +kernel) (by omega)
theorem rt_0_4 (fd : Nat) : a_mrf fd 0 4 = some 139 := a_mrf_of (by decide +kernel) (by omega)
theorem rt_0_5 (fd : Nat) : a_mrf fd 0 5 = some 140 := a_mrf_of (by decide +kernel) (by omega)
theorem rt_0_7 (fd : Nat) : a_mrf fd 0 7 = some 141 := a_mrf_of (by decide +kernel) (by omega)
theorem rt_0_8 (fd : Nat) : a_mrf fd 0 8 = some 146 := a_mrf_of (by decide +kernel) (by omega)
theorem rt_0_9 (fd : Nat) : a_mrf fd 0 9 = some 147 := a_mrf_of (by decide +kernel) (by omega)
theorem rt_19_0 (fd : Nat) : a_mrf fd 19 0 = some 20 := a_mrf_of (by decide +kernel) (by omega)
theorem rt_141_0 (fd : Nat) : a_mrf fd 141 0 = some 142 := a_mrf_of (by decide +kernel) (by omega)
theorem rt_141_1 (fd : Nat) : a_mrf fd 141 1 = some 143 := a_mrf_of (by decide +kernel) (by omega)
theorem rt_141_2 (fd : Nat) : a_mrf fd 141 2 = some 144 := a_mrf_of (by decide +kernel) (by omega)
theorem rt_141_7 (fd : Nat) : a_mrf fd 141 7 = some 145 := a_mrf_of (by decide +kernel) (by omega)
theorem rt_147_0 (fd : Nat) : a_mrf fd 147 0 = some 156 := a_mrf_of (by decide +kernel) (by omega)
theorem rt_147_1 (fd : Nat) : a_mrf fd 147 1 = some 165 := a_mrf_of (by decide +kernel) (by omega)
theorem rt_147_2 (fd : Nat) : a_mrf fd 147 2 = some 166 := a_mrf_of (by decide +kernel) (by omega)
theorem rt_147_3 (fd : Nat) : a_mrf fd 147 3 = some 167 := a_mrf_of (by decide +kernel) (by omega)
theorem rt_147_4 (fd : Nat) : a_mrf fd 147 4 = some 168 := a_mrf_of (by decide +kernel) (by omega)
theorem rt_147_5 (fd : Nat) : a_mrf fd 147 5 = some 169 := a_mrf_of (by decide +kernel) (by omega)
theorem rt_147_8 (fd : Nat) : a_mrf fd 147 8 = some 148 := a_mrf_of (by decide +kernel) (by omega)
theorem rt_147_9 (fd : Nat) : a_mrf fd 147 9 = some 152 := a_mrf_of (by decide +kernel) (by omega)
theorem rt_170_1 (fd : Nat) : a_mrf fd 170 1 = some 171 := a_mrf_of (by decide +kernel) (by omega)
theorem rt_170_2 (fd : Nat) : a_mrf fd 170 2 = some 172 := a_mrf_of (by decide +kernel) (by omega)
theorem rt_170_3 (fd : Nat) : a_mrf fd 170 3 = some 173 := a_mrf_of (by decide +kernel) (by omega)
theorem rt_170_4 (fd : Nat) : a_mrf fd 170 4 = some 174 := a_mrf_of (by decide +kernel) (by omega)
theorem rt_170_6 (fd : Nat) : a_mrf fd 170 6 = some 175 := a_mrf_of (by decide +kernel) (by omega)
theorem rt_170_11 (fd : Nat) : a_mrf fd 170 11 = some 176 := a_mrf_of (by decide +kernel) (by omega)
theorem rt_170_12 (fd : Nat) : a_mrf fd 170 12 = some 177 := a_mrf_of (by decide +kernel) (by omega)
theorem rt_170_13 (fd : Nat) : a_mrf fd 170 13 = some 178 := a_mrf_of (by decide +kernel) (by omega)
theorem rt_170_14 (fd : Nat) : a_mrf fd 170 14 = some 179 := a_mrf_of (by decide +kernel) (by omega)
theorem rt_170_15 (fd : Nat) : a_mrf fd 170 15 = some 180 := a_mrf_of (by decide +kernel) (by omega)
theorem rt_170_17 (fd : Nat) : a_mrf fd 170 17 = some 181 := a_mrf_of (by decide +kernel) (by omega)
theorem rt_170_24 (fd : Nat) : a_mrf fd 170 24 = some 182 := a_mrf_of (by decide +kernel) (by omega)
theorem rt_170_25 (fd : Nat) : a_mrf fd 170 25 = some 183 := a_mrf_of (by decide +kernel) (by omega)
theorem rt_170_26 (fd : Nat) : a_mrf fd 170 26 = some 184 := a_mrf_of (by decide +kernel) (by omega)
theorem gr_0_0 : 0 < a_fn 0 ∧ a_fk 0 0 = 1 := by decide +kernel
theorem gr_0_1 : 1 < a_fn 0 ∧ a_fk 0 1 = 1 := by decide +kernel
theorem gr_0_2 : 2 < a_fn 0 ∧ a_fk 0 2 = 1 := by decide +kernel
theorem gr_0_3 : 3 < a_fn 0 ∧ a_fk 0 3 = 1 := by decide +kernel
theorem gr_0_4 : 4 < a_fn 0 ∧ a_fk 0 4 = 1 := by decide +kernel
theorem gr_0_5 : 5 < a_fn 0 ∧ a_fk 0 5 = 1 := by decide +kernel
theorem gf_0_6 : 6 < a_fn 0 ∧ a_fk 0 6 ≠ 1 := by decide +kernel
theorem pf_0_6 : 6 < a_fn 0 ∧ a_fk 0 6 = 0 := by decide +kernel
theorem gr_0_7 : 7 < a_fn 0 ∧ a_fk 0 7 = 1 := by decide +kernel
theorem gr_0_8 : 8 < a_fn 0 ∧ a_fk 0 8 = 1 := by decide +kernel
theorem gr_0_9 : 9 < a_fn 0 ∧ a_fk 0 9 = 1 := by decide +kernel
theorem gf_1_0 : 0 < a_fn 1 ∧ a_fk 1 0 ≠ 1 := by decide +kernel
theorem pf_1_0 : 0 < a_fn 1 ∧ a_fk 1 0 = 0 := by decide +kernel
theorem gf_1_1 : 1 < a_fn 1 ∧ a_fk 1 1 ≠ 1 := by decide +kernel
theorem pf_1_1 : 1 < a_fn 1 ∧ a_fk 1 1 = 0 := by decide +kernel
theorem gf_1_2 : 2 < a_fn 1 ∧ a_fk 1 2 ≠ 1 := by decide +kernel
theorem pf_1_2 : 2 < a_fn 1 ∧ a_fk 1 2 = 0 := by decide +kernel
theorem gf_1_3 : 3 < a_fn 1 ∧ a_fk 1 3 ≠ 1 := by decide +kernel
theorem pf_1_3 : 3 < a_fn 1 ∧ a_fk 1 3 = 0 := by decide +kernel
theorem gf_1_4 : 4 < a_fn 1 ∧ a_fk 1 4 ≠ 1 := by decide +kernel
theorem pf_1_4 : 4 < a_fn 1 ∧ a_fk 1 4 = 0 := by decide +kernel
theorem gr_1_5 : 5 < a_fn 1 ∧ a_fk 1 5 = 1 := by decide +kernel
theorem gr_1_6 : 6 < a_fn 1 ∧ a_fk 1 6 = 1 := by decide +kernel
theorem gr_1_7 : 7 < a_fn 1 ∧ a_fk 1 7 = 1 := by decide +kernel
theorem gr_1_8 : 8 < a_fn 1 ∧ a_fk 1 8 = 1 := by decide +kernel
theorem gr_1_9 : 9 < a_fn 1 ∧ a_fk 1 9 = 1 := by decide +kernel
theorem gr_1_10 : 10 < a_fn 1 ∧ a_fk 1 10 = 1 := by decide +kernel
theorem gr_1_11 : 11 < a_fn 1 ∧ a_fk 1 11 = 1 := by decide +kernel
theorem gf_1_12 : 12 < a_fn 1 ∧ a_fk 1 12 ≠ 1 := by decide +kernel
theorem pf_1_12 : 12 < a_fn 1 ∧ a_fk 1 12 = 0 := by decide +kernel
theorem gf_1_13 : 13 < a_fn 1 ∧ a_fk 1 13 ≠ 1 := by decide +kernel
theorem pf_1_13 : 13 < a_fn 1 ∧ a_fk 1 13 = 0 := by decide +kernel
theorem gr_2_0 : 0 < a_fn 2 ∧ a_fk 2 0 = 1 := by decide +kernel
theorem gf_2_1 : 1 < a_fn 2 ∧ a_fk 2 1 ≠ 1 := by decide +kernel
theorem pf_2_1 : 1 < a_fn 2 ∧ a_fk 2 1 = 0 := by decide +kernel
theorem gf_2_2 : 2 < a_fn 2 ∧ a_fk 2 2 ≠ 1 := by decide +kernel
theorem pf_2_2 : 2 < a_fn 2 ∧ a_fk 2 2 = 0 := by decide +kernel
theorem gr_3_0 : 0 < a_fn 3 ∧ a_fk 3 0 = 1 := by decide +kernel
theorem gf_3_1 : 1 < a_fn 3 ∧ a_fk 3 1 ≠ 1 := by decide +kernel
theorem pf_3_1 : 1 < a_fn 3 ∧ a_fk 3 1 = 0 := by decide +kernel
theorem gf_3_2 : 2 < a_fn 3 ∧ a_fk 3 2 ≠ 1 := by decide +kernel
theorem pf_3_2 : 2 < a_fn 3 ∧ a_fk 3 2 = 0 := by decide +kernel
theorem gr_4_0 : 0 < a_fn 4 ∧ a_fk 4 0 = 1 := by decide +kernel
theorem gr_4_1 : 1 < a_fn 4 ∧ a_fk 4 1 = 1 := by decide +kernel
theorem gr_4_2 : 2 < a_fn 4 ∧ a_fk 4 2 = 1 := by decide +kernel
theorem gf_4_3 : 3 < a_fn 4 ∧ a_fk 4 3 ≠ 1 := by decide +kernel
theorem pf_4_3 : 3 < a_fn 4 ∧ a_fk 4 3 = 0 := by decide +kernel
theorem gf_4_4 : 4 < a_fn 4 ∧ a_fk 4 4 ≠ 1 := by decide +kernel
theorem pf_4_4 : 4 < a_fn 4 ∧ a_fk 4 4 = 0 := by decide +kernel
theorem gf_4_5 : 5 < a_fn 4 ∧ a_fk 4 5 ≠ 1 := by decide +kernel
theorem pf_4_5 : 5 < a_fn 4 ∧ a_fk 4 5 = 0 := by decide +kernel
theorem gf_4_6 : 6 < a_fn 4 ∧ a_fk 4 6 ≠ 1 := by decide +kernel
theorem pf_4_6 : 6 < a_fn 4 ∧ a_fk 4 6 = 0 := by decide +kernel
theorem gr_4_7 : 7 < a_fn 4 ∧ a_fk 4 7 = 1 := by decide +kernel
theorem gf_4_8 : 8 < a_fn 4 ∧ a_fk 4 8 ≠ 1 := by decide +kernel
theorem pf_4_8 : 8 < a_fn 4 ∧ a_fk 4 8 = 0 := by decide +kernel
theorem gf_4_9 : 9 < a_fn 4 ∧ a_fk 4 9 ≠ 1 := by decide +kernel
theorem pf_4_9 : 9 < a_fn 4 ∧ a_fk 4 9 = 0 := by decide +kernel
theorem gf_5_0 : 0 < a_fn 5 ∧ a_fk 5 0 ≠ 1 := by decide +kernel
theorem pf_5_0 : 0 < a_fn 5 ∧ a_fk 5 0 = 0 := by decide +kernel
theorem gr_6_0 : 0 < a_fn 6 ∧ a_fk 6 0 = 1 := by decide +kernel
theorem gr_6_1 : 1 < a_fn 6 ∧ a_fk 6 1 = 1 := by decide +kernel
theorem gr_6_2 : 2 < a_fn 6 ∧ a_fk 6 2 = 1 := by decide +kernel
theorem gr_6_3 : 3 < a_fn 6 ∧ a_fk 6 3 = 1 := by decide +kernel
theorem gr_6_4 : 4 < a_fn 6 ∧ a_fk 6 4 = 1 := by decide +kernel
theorem gr_6_5 : 5 < a_fn 6 ∧ a_fk 6 5 = 1 := by decide +kernel
theorem gf_6_6 : 6 < a_fn 6 ∧ a_fk 6 6 ≠ 1 := by decide +kernel
theorem pf_6_6 : 6 < a_fn 6 ∧ a_fk 6 6 = 0 := by decide +kernel
theorem gf_6_7 : 7 < a_fn 6 ∧ a_fk 6 7 ≠ 1 := by decide +kernel
theorem pf_6_7 : 7 < a_fn 6 ∧ a_fk 6 7 = 0 := by decide +kernel
theorem gr_6_8 : 8 < a_fn 6 ∧ a_fk 6 8 = 1 := by decide +kernel
theorem gr_6_9 : 9 < a_fn 6 ∧ a_fk 6 9 = 1 := by decide +kernel
theorem gr_6_10 : 10 < a_fn 6 ∧ a_fk 6 10 = 1 := by decide +kernel
theorem gf_7_0 : 0 < a_fn 7 ∧ a_fk 7 0 ≠ 1 := by decide +kernel
theorem pf_7_0 : 0 < a_fn 7 ∧ a_fk 7 0 = 0 := by decide +kernel
theorem gr_7_1 : 1 < a_fn 7 ∧ a_fk 7 1 = 1 := by decide +kernel
theorem gr_7_2 : 2 < a_fn 7 ∧ a_fk 7 2 = 1 := by decide +kernel
theorem gr_7_3 : 3 < a_fn 7 ∧ a_fk 7 3 = 1 := by decide +kernel
theorem gf_7_4 : 4 < a_fn 7 ∧ a_fk 7 4 ≠ 1 := by decide +kernel
theorem pf_7_4 : 4 < a_fn 7 ∧ a_fk 7 4 = 0 := by decide +kernel
theorem gf_7_5 : 5 < a_fn 7 ∧ a_fk 7 5 ≠ 1 := by decide +kernel
theorem pf_7_5 : 5 < a_fn 7 ∧ a_fk 7 5 = 0 := by decide +kernel
theorem gf_7_6 : 6 < a_fn 7 ∧ a_fk 7 6 ≠ 1 := by decide +kernel
theorem pf_7_6 : 6 < a_fn 7 ∧ a_fk 7 6 = 0 := by decide +kernel
theorem gf_7_7 : 7 < a_fn 7 ∧ a_fk 7 7 ≠ 1 := by decide +kernel
theorem pf_7_7 : 7 < a_fn 7 ∧ a_fk 7 7 = 0 := by decide +kernel
theorem gf_8_0 : 0 < a_fn 8 ∧ a_fk 8 0 ≠ 1 := by decide +kernel
theorem pf_8_0 : 0 < a_fn 8 ∧ a_fk 8 0 = 0 := by decide +kernel
theorem gr_8_1 : 1 < a_fn 8 ∧ a_fk 8 1 = 1 := by decide +kernel
theorem gr_8_2 : 2 < a_fn 8 ∧ a_fk 8 2 = 1 := by decide +kernel
theorem gr_8_3 : 3 < a_fn 8 ∧ a_fk 8 3 = 1 := by decide +kernel
theorem gr_8_4 : 4 < a_fn 8 ∧ a_fk 8 4 = 1 := by decide +kernel
theorem gf_8_5 : 5 < a_fn 8 ∧ a_fk 8 5 ≠ 1 := by decide +kernel
theorem pf_8_5 : 5 < a_fn 8 ∧ a_fk 8 5 = 0 := by decide +kernel
theorem gr_8_6 : 6 < a_fn 8 ∧ a_fk 8 6 = 1 := by decide +kernel
theorem gf_8_7 : 7 < a_fn 8 ∧ a_fk 8 7 ≠ 1 := by decide +kernel
theorem pf_8_7 : 7 < a_fn 8 ∧ a_fk 8 7 = 0 := by decide +kernel
theorem gf_8_8 : 8 < a_fn 8 ∧ a_fk 8 8 ≠ 1 := by decide +kernel
theorem pf_8_8 : 8 < a_fn 8 ∧ a_fk 8 8 = 0 := by decide +kernel
theorem gf_8_9 : 9 < a_fn 8 ∧ a_fk 8 9 ≠ 1 := by decide +kernel
theorem pf_8_9 : 9 < a_fn 8 ∧ a_fk 8 9 = 2 := by decide +kernel
theorem gf_8_10 : 10 < a_fn 8 ∧ a_fk 8 10 ≠ 1 := by decide +kernel
theorem pf_8_10 : 10 < a_fn 8 ∧ a_fk 8 10 = 0 := by decide +kernel
theorem gr_8_11 : 11 < a_fn 8 ∧ a_fk 8 11 = 1 := by decide +kernel
theorem gr_8_12 : 12 < a_fn 8 ∧ a_fk 8 12 = 1 := by decide +kernel
theorem gr_8_13 : 13 < a_fn 8 ∧ a_fk 8 13 = 1 := by decide +kernel
theorem gr_8_14 : 14 < a_fn 8 ∧ a_fk 8 14 = 1 := by decide +kernel
theorem gr_8_15 : 15 < a_fn 8 ∧ a_fk 8 15 = 1 := by decide +kernel
theorem gf_8_16 : 16 < a_fn 8 ∧ a_fk 8 16 ≠ 1 := by decide +kernel
theorem pf_8_16 : 16 < a_fn 8 ∧ a_fk 8 16 = 0 := by decide +kernel
theorem gr_8_17 : 17 < a_fn 8 ∧ a_fk 8 17 = 1 := by decide +kernel
theorem gf_8_18 : 18 < a_fn 8 ∧ a_fk 8 18 ≠ 1 := by decide +kernel
theorem pf_8_18 : 18 < a_fn 8 ∧ a_fk 8 18 = 0 := by decide +kernel
theorem gf_8_19 : 19 < a_fn 8 ∧ a_fk 8 19 ≠ 1 := by decide +kernel
theorem pf_8_19 : 19 < a_fn 8 ∧ a_fk 8 19 = 0 := by decide +kernel
theorem gf_8_20 : 20 < a_fn 8 ∧ a_fk 8 20 ≠ 1 := by decide +kernel
theorem pf_8_20 : 20 < a_fn 8 ∧ a_fk 8 20 = 0 := by decide +kernel
theorem gf_8_21 : 21 < a_fn 8 ∧ a_fk 8 21 ≠ 1 := by decide +kernel
theorem pf_8_21 : 21 < a_fn 8 ∧ a_fk 8 21 = 0 := by decide +kernel
theorem gf_8_22 : 22 < a_fn 8 ∧ a_fk 8 22 ≠ 1 := by decide +kernel
theorem pf_8_22 : 22 < a_fn 8 ∧ a_fk 8 22 = 0 := by decide +kernel
theorem gf_8_23 : 23 < a_fn 8 ∧ a_fk 8 23 ≠ 1 := by decide +kernel
theorem pf_8_23 : 23 < a_fn 8 ∧ a_fk 8 23 = 0 := by decide +kernel
theorem gr_8_24 : 24 < a_fn 8 ∧ a_fk 8 24 = 1 := by decide +kernel
theorem gr_8_25 : 25 < a_fn 8 ∧ a_fk 8 25 = 1 := by decide +kernel
theorem gr_8_26 : 26 < a_fn 8 ∧ a_fk 8 26 = 1 := by decide +kernel
theorem gf_8_27 : 27 < a_fn 8 ∧ a_fk 8 27 ≠ 1 := by decide +kernel
theorem pf_8_27 : 27 < a_fn 8 ∧ a_fk 8 27 = 0 := by decide +kernel
theorem ws_0 : a_maxL 0 = 2 ∧ 0 < 274 := by decide +kernel
theorem w_0 : a_own 0 = 0 ∧ a_maxL 0 = 2 ∧ 0 < 274 := by decide +kernel
theorem rn_0 : a_ret 0 = none := by decide +kernel
theorem ws_1 : a_maxL 1 = 3 ∧ 1 < 274 := by decide +kernel
theorem w_1 : a_own 1 = 0 ∧ a_maxL 1 = 3 ∧ 1 < 274 := by decide +kernel
theorem rn_1 : a_ret 1 = (some Jvm.ClassFile.FieldType.int) := by decide +kernel
theorem ws_2 : a_maxL 2 = 3 ∧ 2 < 274 := by decide +kernel
theorem w_2 : a_own 2 = 0 ∧ a_maxL 2 = 3 ∧ 2 < 274 := by decide +kernel
theorem rn_2 : a_ret 2 = (some Jvm.ClassFile.FieldType.int) := by decide +kernel
theorem ws_3 : a_maxL 3 = 3 ∧ 3 < 274 := by decide +kernel
theorem w_3 : a_own 3 = 0 ∧ a_maxL 3 = 3 ∧ 3 < 274 := by decide +kernel
theorem rn_3 : a_ret 3 = (some Jvm.ClassFile.FieldType.int) := by decide +kernel
theorem ws_4 : a_maxL 4 = 3 ∧ 4 < 274 := by decide +kernel
theorem w_4 : a_own 4 = 0 ∧ a_maxL 4 = 3 ∧ 4 < 274 := by decide +kernel
theorem rn_4 : a_ret 4 = (some Jvm.ClassFile.FieldType.int) := by decide +kernel
theorem ws_5 : a_maxL 5 = 2 ∧ 5 < 274 := by decide +kernel
theorem w_5 : a_own 5 = 0 ∧ a_maxL 5 = 2 ∧ 5 < 274 := by decide +kernel
theorem rn_5 : a_ret 5 = (some Jvm.ClassFile.FieldType.int) := by decide +kernel
theorem ws_6 : a_maxL 6 = 2 ∧ 6 < 274 := by decide +kernel
theorem w_6 : a_own 6 = 0 ∧ a_maxL 6 = 2 ∧ 6 < 274 := by decide +kernel
theorem rn_6 : a_ret 6 = (some Jvm.ClassFile.FieldType.int) := by decide +kernel
theorem ws_7 : a_maxL 7 = 2 ∧ 7 < 274 := by decide +kernel
theorem w_7 : a_own 7 = 0 ∧ a_maxL 7 = 2 ∧ 7 < 274 := by decide +kernel
theorem rn_7 : a_ret 7 = (some Jvm.ClassFile.FieldType.int) := by decide +kernel
theorem ws_8 : a_maxL 8 = 2 ∧ 8 < 274 := by decide +kernel
theorem w_8 : a_own 8 = 0 ∧ a_maxL 8 = 2 ∧ 8 < 274 := by decide +kernel
theorem rn_8 : a_ret 8 = (some Jvm.ClassFile.FieldType.int) := by decide +kernel
theorem ws_9 : a_maxL 9 = 2 ∧ 9 < 274 := by decide +kernel
theorem w_9 : a_own 9 = 0 ∧ a_maxL 9 = 2 ∧ 9 < 274 := by decide +kernel
theorem rn_9 : a_ret 9 = (some Jvm.ClassFile.FieldType.int) := by decide +kernel
theorem ws_10 : a_maxL 10 = 2 ∧ 10 < 274 := by decide +kernel
theorem w_10 : a_own 10 = 0 ∧ a_maxL 10 = 2 ∧ 10 < 274 := by decide +kernel
theorem rn_10 : a_ret 10 = (some Jvm.ClassFile.FieldType.int) := by decide +kernel
theorem ws_11 : a_maxL 11 = 3 ∧ 11 < 274 := by decide +kernel
theorem w_11 : a_own 11 = 0 ∧ a_maxL 11 = 3 ∧ 11 < 274 := by decide +kernel
theorem rn_11 : a_ret 11 = (some Jvm.ClassFile.FieldType.int) := by decide +kernel
theorem ws_12 : a_maxL 12 = 2 ∧ 12 < 274 := by decide +kernel
theorem w_12 : a_own 12 = 0 ∧ a_maxL 12 = 2 ∧ 12 < 274 := by decide +kernel
theorem rn_12 : a_ret 12 = (some Jvm.ClassFile.FieldType.int) := by decide +kernel
theorem ws_13 : a_maxL 13 = 2 ∧ 13 < 274 := by decide +kernel
theorem w_13 : a_own 13 = 0 ∧ a_maxL 13 = 2 ∧ 13 < 274 := by decide +kernel
theorem rn_13 : a_ret 13 = (some Jvm.ClassFile.FieldType.int) := by decide +kernel
theorem ws_14 : a_maxL 14 = 3 ∧ 14 < 274 := by decide +kernel
theorem w_14 : a_own 14 = 0 ∧ a_maxL 14 = 3 ∧ 14 < 274 := by decide +kernel
theorem rn_14 : a_ret 14 = (some Jvm.ClassFile.FieldType.int) := by decide +kernel
theorem ws_15 : a_maxL 15 = 2 ∧ 15 < 274 := by decide +kernel
theorem w_15 : a_own 15 = 0 ∧ a_maxL 15 = 2 ∧ 15 < 274 := by decide +kernel
theorem rn_15 : a_ret 15 = (some Jvm.ClassFile.FieldType.int) := by decide +kernel
theorem ws_16 : a_maxL 16 = 4 ∧ 16 < 274 := by decide +kernel
theorem w_16 : a_own 16 = 0 ∧ a_maxL 16 = 4 ∧ 16 < 274 := by decide +kernel
theorem rn_16 : a_ret 16 = (some Jvm.ClassFile.FieldType.int) := by decide +kernel
theorem ws_17 : a_maxL 17 = 1 ∧ 17 < 274 := by decide +kernel
theorem w_17 : a_own 17 = 0 ∧ a_maxL 17 = 1 ∧ 17 < 274 := by decide +kernel
theorem rn_17 : a_ret 17 = (some Jvm.ClassFile.FieldType.int) := by decide +kernel
theorem ws_18 : a_maxL 18 = 2 ∧ 18 < 274 := by decide +kernel
theorem w_18 : a_own 18 = 0 ∧ a_maxL 18 = 2 ∧ 18 < 274 := by decide +kernel
theorem rn_18 : a_ret 18 = (some Jvm.ClassFile.FieldType.int) := by decide +kernel
theorem ws_19 : a_maxL 19 = 5 ∧ 19 < 274 := by decide +kernel
theorem w_19 : a_own 19 = 0 ∧ a_maxL 19 = 5 ∧ 19 < 274 := by decide +kernel
theorem rn_19 : a_ret 19 = (some Jvm.ClassFile.FieldType.int) := by decide +kernel
theorem ws_20 : a_maxL 20 = 6 ∧ 20 < 274 := by decide +kernel
theorem w_20 : a_own 20 = 0 ∧ a_maxL 20 = 6 ∧ 20 < 274 := by decide +kernel
theorem rn_20 : a_ret 20 = (some Jvm.ClassFile.FieldType.int) := by decide +kernel
theorem ws_21 : a_maxL 21 = 5 ∧ 21 < 274 := by decide +kernel
theorem w_21 : a_own 21 = 0 ∧ a_maxL 21 = 5 ∧ 21 < 274 := by decide +kernel
theorem rn_21 : a_ret 21 = (some Jvm.ClassFile.FieldType.int) := by decide +kernel
theorem ws_22 : a_maxL 22 = 5 ∧ 22 < 274 := by decide +kernel
theorem w_22 : a_own 22 = 0 ∧ a_maxL 22 = 5 ∧ 22 < 274 := by decide +kernel
theorem rn_22 : a_ret 22 = (some Jvm.ClassFile.FieldType.int) := by decide +kernel
theorem ws_23 : a_maxL 23 = 6 ∧ 23 < 274 := by decide +kernel
theorem w_23 : a_own 23 = 0 ∧ a_maxL 23 = 6 ∧ 23 < 274 := by decide +kernel
theorem rn_23 : a_ret 23 = (some Jvm.ClassFile.FieldType.int) := by decide +kernel
theorem ws_24 : a_maxL 24 = 3 ∧ 24 < 274 := by decide +kernel
theorem w_24 : a_own 24 = 0 ∧ a_maxL 24 = 3 ∧ 24 < 274 := by decide +kernel
theorem rn_24 : a_ret 24 = (some Jvm.ClassFile.FieldType.int) := by decide +kernel
theorem ws_25 : a_maxL 25 = 2 ∧ 25 < 274 := by decide +kernel
theorem w_25 : a_own 25 = 0 ∧ a_maxL 25 = 2 ∧ 25 < 274 := by decide +kernel
theorem rn_25 : a_ret 25 = (some Jvm.ClassFile.FieldType.int) := by decide +kernel
theorem ws_26 : a_maxL 26 = 4 ∧ 26 < 274 := by decide +kernel
theorem w_26 : a_own 26 = 0 ∧ a_maxL 26 = 4 ∧ 26 < 274 := by decide +kernel
theorem rn_26 : a_ret 26 = (some Jvm.ClassFile.FieldType.int) := by decide +kernel
theorem ws_27 : a_maxL 27 = 2 ∧ 27 < 274 := by decide +kernel
theorem w_27 : a_own 27 = 0 ∧ a_maxL 27 = 2 ∧ 27 < 274 := by decide +kernel
theorem rn_27 : a_ret 27 = (some Jvm.ClassFile.FieldType.int) := by decide +kernel
theorem ws_28 : a_maxL 28 = 4 ∧ 28 < 274 := by decide +kernel
theorem w_28 : a_own 28 = 0 ∧ a_maxL 28 = 4 ∧ 28 < 274 := by decide +kernel
theorem rn_28 : a_ret 28 = (some Jvm.ClassFile.FieldType.int) := by decide +kernel
theorem ws_29 : a_maxL 29 = 5 ∧ 29 < 274 := by decide +kernel
theorem w_29 : a_own 29 = 0 ∧ a_maxL 29 = 5 ∧ 29 < 274 := by decide +kernel
theorem rn_29 : a_ret 29 = (some (Jvm.ClassFile.FieldType.object "PreCommitHall$Mixes")) := by decide +kernel
theorem ws_30 : a_maxL 30 = 5 ∧ 30 < 274 := by decide +kernel
theorem w_30 : a_own 30 = 0 ∧ a_maxL 30 = 5 ∧ 30 < 274 := by decide +kernel
theorem rn_30 : a_ret 30 = (some Jvm.ClassFile.FieldType.int) := by decide +kernel
theorem ws_31 : a_maxL 31 = 3 ∧ 31 < 274 := by decide +kernel
theorem w_31 : a_own 31 = 0 ∧ a_maxL 31 = 3 ∧ 31 < 274 := by decide +kernel
theorem rn_31 : a_ret 31 = (some Jvm.ClassFile.FieldType.int) := by decide +kernel
theorem ws_32 : a_maxL 32 = 4 ∧ 32 < 274 := by decide +kernel
theorem w_32 : a_own 32 = 0 ∧ a_maxL 32 = 4 ∧ 32 < 274 := by decide +kernel
theorem rn_32 : a_ret 32 = (some Jvm.ClassFile.FieldType.int) := by decide +kernel
theorem ws_33 : a_maxL 33 = 6 ∧ 33 < 274 := by decide +kernel
theorem w_33 : a_own 33 = 0 ∧ a_maxL 33 = 6 ∧ 33 < 274 := by decide +kernel
theorem rn_33 : a_ret 33 = (some Jvm.ClassFile.FieldType.int) := by decide +kernel
theorem ws_34 : a_maxL 34 = 3 ∧ 34 < 274 := by decide +kernel
theorem w_34 : a_own 34 = 0 ∧ a_maxL 34 = 3 ∧ 34 < 274 := by decide +kernel
theorem rn_34 : a_ret 34 = none := by decide +kernel
theorem ws_35 : a_maxL 35 = 3 ∧ 35 < 274 := by decide +kernel
theorem w_35 : a_own 35 = 0 ∧ a_maxL 35 = 3 ∧ 35 < 274 := by decide +kernel
theorem rn_35 : a_ret 35 = (some Jvm.ClassFile.FieldType.int) := by decide +kernel
theorem ws_36 : a_maxL 36 = 4 ∧ 36 < 274 := by decide +kernel
theorem w_36 : a_own 36 = 0 ∧ a_maxL 36 = 4 ∧ 36 < 274 := by decide +kernel
theorem rn_36 : a_ret 36 = (some Jvm.ClassFile.FieldType.int) := by decide +kernel
theorem ws_37 : a_maxL 37 = 4 ∧ 37 < 274 := by decide +kernel
theorem w_37 : a_own 37 = 0 ∧ a_maxL 37 = 4 ∧ 37 < 274 := by decide +kernel
theorem rn_37 : a_ret 37 = (some Jvm.ClassFile.FieldType.int) := by decide +kernel
theorem ws_38 : a_maxL 38 = 2 ∧ 38 < 274 := by decide +kernel
theorem w_38 : a_own 38 = 0 ∧ a_maxL 38 = 2 ∧ 38 < 274 := by decide +kernel
theorem rn_38 : a_ret 38 = (some Jvm.ClassFile.FieldType.int) := by decide +kernel
theorem ws_39 : a_maxL 39 = 1 ∧ 39 < 274 := by decide +kernel
theorem w_39 : a_own 39 = 0 ∧ a_maxL 39 = 1 ∧ 39 < 274 := by decide +kernel
theorem rn_39 : a_ret 39 = (some Jvm.ClassFile.FieldType.int) := by decide +kernel
theorem ws_40 : a_maxL 40 = 3 ∧ 40 < 274 := by decide +kernel
theorem w_40 : a_own 40 = 0 ∧ a_maxL 40 = 3 ∧ 40 < 274 := by decide +kernel
theorem rn_40 : a_ret 40 = (some Jvm.ClassFile.FieldType.int) := by decide +kernel
theorem ws_41 : a_maxL 41 = 2 ∧ 41 < 274 := by decide +kernel
theorem w_41 : a_own 41 = 0 ∧ a_maxL 41 = 2 ∧ 41 < 274 := by decide +kernel
theorem rn_41 : a_ret 41 = (some Jvm.ClassFile.FieldType.int) := by decide +kernel
theorem ws_42 : a_maxL 42 = 2 ∧ 42 < 274 := by decide +kernel
theorem w_42 : a_own 42 = 0 ∧ a_maxL 42 = 2 ∧ 42 < 274 := by decide +kernel
theorem rn_42 : a_ret 42 = (some Jvm.ClassFile.FieldType.int) := by decide +kernel
theorem ws_43 : a_maxL 43 = 2 ∧ 43 < 274 := by decide +kernel
theorem w_43 : a_own 43 = 0 ∧ a_maxL 43 = 2 ∧ 43 < 274 := by decide +kernel
theorem rn_43 : a_ret 43 = (some Jvm.ClassFile.FieldType.int) := by decide +kernel
theorem ws_44 : a_maxL 44 = 2 ∧ 44 < 274 := by decide +kernel
theorem w_44 : a_own 44 = 0 ∧ a_maxL 44 = 2 ∧ 44 < 274 := by decide +kernel
theorem rn_44 : a_ret 44 = (some Jvm.ClassFile.FieldType.int) := by decide +kernel
theorem ws_45 : a_maxL 45 = 1 ∧ 45 < 274 := by decide +kernel
theorem w_45 : a_own 45 = 1 ∧ a_maxL 45 = 1 ∧ 45 < 274 := by decide +kernel
theorem rn_45 : a_ret 45 = none := by decide +kernel
theorem ws_46 : a_maxL 46 = 3 ∧ 46 < 274 := by decide +kernel
theorem w_46 : a_own 46 = 1 ∧ a_maxL 46 = 3 ∧ 46 < 274 := by decide +kernel
theorem rn_46 : a_ret 46 = none := by decide +kernel
theorem ws_47 : a_maxL 47 = 1 ∧ 47 < 274 := by decide +kernel
theorem w_47 : a_own 47 = 1 ∧ a_maxL 47 = 1 ∧ 47 < 274 := by decide +kernel
theorem rn_47 : a_ret 47 = (some Jvm.ClassFile.FieldType.int) := by decide +kernel
theorem ws_48 : a_maxL 48 = 2 ∧ 48 < 274 := by decide +kernel
theorem w_48 : a_own 48 = 1 ∧ a_maxL 48 = 2 ∧ 48 < 274 := by decide +kernel
theorem rn_48 : a_ret 48 = none := by decide +kernel
theorem ws_49 : a_maxL 49 = 4 ∧ 49 < 274 := by decide +kernel
theorem w_49 : a_own 49 = 1 ∧ a_maxL 49 = 4 ∧ 49 < 274 := by decide +kernel
theorem rn_49 : a_ret 49 = (some Jvm.ClassFile.FieldType.int) := by decide +kernel
theorem ws_50 : a_maxL 50 = 2 ∧ 50 < 274 := by decide +kernel
theorem w_50 : a_own 50 = 1 ∧ a_maxL 50 = 2 ∧ 50 < 274 := by decide +kernel
theorem rn_50 : a_ret 50 = none := by decide +kernel
theorem ws_51 : a_maxL 51 = 2 ∧ 51 < 274 := by decide +kernel
theorem w_51 : a_own 51 = 1 ∧ a_maxL 51 = 2 ∧ 51 < 274 := by decide +kernel
theorem rn_51 : a_ret 51 = none := by decide +kernel
theorem ws_52 : a_maxL 52 = 4 ∧ 52 < 274 := by decide +kernel
theorem w_52 : a_own 52 = 1 ∧ a_maxL 52 = 4 ∧ 52 < 274 := by decide +kernel
theorem rn_52 : a_ret 52 = (some Jvm.ClassFile.FieldType.int) := by decide +kernel
theorem ws_53 : a_maxL 53 = 2 ∧ 53 < 274 := by decide +kernel
theorem w_53 : a_own 53 = 1 ∧ a_maxL 53 = 2 ∧ 53 < 274 := by decide +kernel
theorem rn_53 : a_ret 53 = (some Jvm.ClassFile.FieldType.boolean) := by decide +kernel
theorem ws_54 : a_maxL 54 = 4 ∧ 54 < 274 := by decide +kernel
theorem w_54 : a_own 54 = 1 ∧ a_maxL 54 = 4 ∧ 54 < 274 := by decide +kernel
theorem rn_54 : a_ret 54 = (some Jvm.ClassFile.FieldType.int) := by decide +kernel
theorem ws_55 : a_maxL 55 = 4 ∧ 55 < 274 := by decide +kernel
theorem w_55 : a_own 55 = 1 ∧ a_maxL 55 = 4 ∧ 55 < 274 := by decide +kernel
theorem rn_55 : a_ret 55 = (some Jvm.ClassFile.FieldType.int) := by decide +kernel
theorem ws_56 : a_maxL 56 = 4 ∧ 56 < 274 := by decide +kernel
theorem w_56 : a_own 56 = 1 ∧ a_maxL 56 = 4 ∧ 56 < 274 := by decide +kernel
theorem rn_56 : a_ret 56 = (some Jvm.ClassFile.FieldType.int) := by decide +kernel
theorem ws_57 : a_maxL 57 = 2 ∧ 57 < 274 := by decide +kernel
theorem w_57 : a_own 57 = 1 ∧ a_maxL 57 = 2 ∧ 57 < 274 := by decide +kernel
theorem rn_57 : a_ret 57 = (some Jvm.ClassFile.FieldType.int) := by decide +kernel
theorem ws_58 : a_maxL 58 = 2 ∧ 58 < 274 := by decide +kernel
theorem w_58 : a_own 58 = 1 ∧ a_maxL 58 = 2 ∧ 58 < 274 := by decide +kernel
theorem rn_58 : a_ret 58 = (some Jvm.ClassFile.FieldType.boolean) := by decide +kernel
theorem ws_59 : a_maxL 59 = 3 ∧ 59 < 274 := by decide +kernel
theorem w_59 : a_own 59 = 1 ∧ a_maxL 59 = 3 ∧ 59 < 274 := by decide +kernel
theorem rn_59 : a_ret 59 = (some Jvm.ClassFile.FieldType.boolean) := by decide +kernel
theorem ws_60 : a_maxL 60 = 2 ∧ 60 < 274 := by decide +kernel
theorem w_60 : a_own 60 = 1 ∧ a_maxL 60 = 2 ∧ 60 < 274 := by decide +kernel
theorem rn_60 : a_ret 60 = none := by decide +kernel
theorem ws_61 : a_maxL 61 = 6 ∧ 61 < 274 := by decide +kernel
theorem w_61 : a_own 61 = 1 ∧ a_maxL 61 = 6 ∧ 61 < 274 := by decide +kernel
theorem rn_61 : a_ret 61 = (some Jvm.ClassFile.FieldType.boolean) := by decide +kernel
theorem ws_62 : a_maxL 62 = 6 ∧ 62 < 274 := by decide +kernel
theorem w_62 : a_own 62 = 1 ∧ a_maxL 62 = 6 ∧ 62 < 274 := by decide +kernel
theorem rn_62 : a_ret 62 = none := by decide +kernel
theorem ws_63 : a_maxL 63 = 3 ∧ 63 < 274 := by decide +kernel
theorem w_63 : a_own 63 = 1 ∧ a_maxL 63 = 3 ∧ 63 < 274 := by decide +kernel
theorem rn_63 : a_ret 63 = none := by decide +kernel
theorem ws_64 : a_maxL 64 = 4 ∧ 64 < 274 := by decide +kernel
theorem w_64 : a_own 64 = 1 ∧ a_maxL 64 = 4 ∧ 64 < 274 := by decide +kernel
theorem rn_64 : a_ret 64 = (some Jvm.ClassFile.FieldType.int) := by decide +kernel
theorem ws_65 : a_maxL 65 = 4 ∧ 65 < 274 := by decide +kernel
theorem w_65 : a_own 65 = 1 ∧ a_maxL 65 = 4 ∧ 65 < 274 := by decide +kernel
theorem rn_65 : a_ret 65 = (some Jvm.ClassFile.FieldType.int) := by decide +kernel
theorem ws_66 : a_maxL 66 = 2 ∧ 66 < 274 := by decide +kernel
theorem w_66 : a_own 66 = 1 ∧ a_maxL 66 = 2 ∧ 66 < 274 := by decide +kernel
theorem rn_66 : a_ret 66 = (some Jvm.ClassFile.FieldType.int) := by decide +kernel
theorem ws_67 : a_maxL 67 = 2 ∧ 67 < 274 := by decide +kernel
theorem w_67 : a_own 67 = 1 ∧ a_maxL 67 = 2 ∧ 67 < 274 := by decide +kernel
theorem rn_67 : a_ret 67 = (some Jvm.ClassFile.FieldType.int) := by decide +kernel
theorem ws_68 : a_maxL 68 = 1 ∧ 68 < 274 := by decide +kernel
theorem w_68 : a_own 68 = 1 ∧ a_maxL 68 = 1 ∧ 68 < 274 := by decide +kernel
theorem rn_68 : a_ret 68 = (some Jvm.ClassFile.FieldType.int) := by decide +kernel
theorem ws_69 : a_maxL 69 = 4 ∧ 69 < 274 := by decide +kernel
theorem w_69 : a_own 69 = 1 ∧ a_maxL 69 = 4 ∧ 69 < 274 := by decide +kernel
theorem rn_69 : a_ret 69 = (some Jvm.ClassFile.FieldType.int) := by decide +kernel
theorem ws_70 : a_maxL 70 = 2 ∧ 70 < 274 := by decide +kernel
theorem w_70 : a_own 70 = 1 ∧ a_maxL 70 = 2 ∧ 70 < 274 := by decide +kernel
theorem rn_70 : a_ret 70 = (some Jvm.ClassFile.FieldType.int) := by decide +kernel
theorem ws_71 : a_maxL 71 = 5 ∧ 71 < 274 := by decide +kernel
theorem w_71 : a_own 71 = 1 ∧ a_maxL 71 = 5 ∧ 71 < 274 := by decide +kernel
theorem rn_71 : a_ret 71 = (some Jvm.ClassFile.FieldType.int) := by decide +kernel
theorem ws_72 : a_maxL 72 = 5 ∧ 72 < 274 := by decide +kernel
theorem w_72 : a_own 72 = 1 ∧ a_maxL 72 = 5 ∧ 72 < 274 := by decide +kernel
theorem rn_72 : a_ret 72 = (some Jvm.ClassFile.FieldType.int) := by decide +kernel
theorem ws_73 : a_maxL 73 = 2 ∧ 73 < 274 := by decide +kernel
theorem w_73 : a_own 73 = 1 ∧ a_maxL 73 = 2 ∧ 73 < 274 := by decide +kernel
theorem rn_73 : a_ret 73 = (some Jvm.ClassFile.FieldType.int) := by decide +kernel
theorem ws_74 : a_maxL 74 = 4 ∧ 74 < 274 := by decide +kernel
theorem w_74 : a_own 74 = 1 ∧ a_maxL 74 = 4 ∧ 74 < 274 := by decide +kernel
theorem rn_74 : a_ret 74 = (some Jvm.ClassFile.FieldType.int) := by decide +kernel
theorem ws_75 : a_maxL 75 = 3 ∧ 75 < 274 := by decide +kernel
theorem w_75 : a_own 75 = 1 ∧ a_maxL 75 = 3 ∧ 75 < 274 := by decide +kernel
theorem rn_75 : a_ret 75 = (some Jvm.ClassFile.FieldType.int) := by decide +kernel
theorem ws_76 : a_maxL 76 = 2 ∧ 76 < 274 := by decide +kernel
theorem w_76 : a_own 76 = 1 ∧ a_maxL 76 = 2 ∧ 76 < 274 := by decide +kernel
theorem rn_76 : a_ret 76 = (some Jvm.ClassFile.FieldType.boolean) := by decide +kernel
theorem ws_77 : a_maxL 77 = 5 ∧ 77 < 274 := by decide +kernel
theorem w_77 : a_own 77 = 1 ∧ a_maxL 77 = 5 ∧ 77 < 274 := by decide +kernel
theorem rn_77 : a_ret 77 = (some Jvm.ClassFile.FieldType.int) := by decide +kernel
theorem ws_78 : a_maxL 78 = 1 ∧ 78 < 274 := by decide +kernel
theorem w_78 : a_own 78 = 1 ∧ a_maxL 78 = 1 ∧ 78 < 274 := by decide +kernel
theorem rn_78 : a_ret 78 = (some Jvm.ClassFile.FieldType.int) := by decide +kernel
theorem ws_79 : a_maxL 79 = 7 ∧ 79 < 274 := by decide +kernel
theorem w_79 : a_own 79 = 1 ∧ a_maxL 79 = 7 ∧ 79 < 274 := by decide +kernel
theorem rn_79 : a_ret 79 = none := by decide +kernel
theorem ws_80 : a_maxL 80 = 3 ∧ 80 < 274 := by decide +kernel
theorem w_80 : a_own 80 = 1 ∧ a_maxL 80 = 3 ∧ 80 < 274 := by decide +kernel
theorem rn_80 : a_ret 80 = (some Jvm.ClassFile.FieldType.int) := by decide +kernel
theorem ws_81 : a_maxL 81 = 4 ∧ 81 < 274 := by decide +kernel
theorem w_81 : a_own 81 = 1 ∧ a_maxL 81 = 4 ∧ 81 < 274 := by decide +kernel
theorem rn_81 : a_ret 81 = none := by decide +kernel
theorem ws_82 : a_maxL 82 = 7 ∧ 82 < 274 := by decide +kernel
theorem w_82 : a_own 82 = 1 ∧ a_maxL 82 = 7 ∧ 82 < 274 := by decide +kernel
theorem rn_82 : a_ret 82 = (some Jvm.ClassFile.FieldType.int) := by decide +kernel
theorem ws_83 : a_maxL 83 = 3 ∧ 83 < 274 := by decide +kernel
theorem w_83 : a_own 83 = 1 ∧ a_maxL 83 = 3 ∧ 83 < 274 := by decide +kernel
theorem rn_83 : a_ret 83 = (some Jvm.ClassFile.FieldType.boolean) := by decide +kernel
theorem ws_84 : a_maxL 84 = 4 ∧ 84 < 274 := by decide +kernel
theorem w_84 : a_own 84 = 1 ∧ a_maxL 84 = 4 ∧ 84 < 274 := by decide +kernel
theorem rn_84 : a_ret 84 = (some Jvm.ClassFile.FieldType.int) := by decide +kernel
theorem ws_85 : a_maxL 85 = 2 ∧ 85 < 274 := by decide +kernel
theorem w_85 : a_own 85 = 1 ∧ a_maxL 85 = 2 ∧ 85 < 274 := by decide +kernel
theorem rn_85 : a_ret 85 = (some Jvm.ClassFile.FieldType.int) := by decide +kernel
theorem ws_86 : a_maxL 86 = 5 ∧ 86 < 274 := by decide +kernel
theorem w_86 : a_own 86 = 1 ∧ a_maxL 86 = 5 ∧ 86 < 274 := by decide +kernel
theorem rn_86 : a_ret 86 = (some Jvm.ClassFile.FieldType.int) := by decide +kernel
theorem ws_87 : a_maxL 87 = 2 ∧ 87 < 274 := by decide +kernel
theorem w_87 : a_own 87 = 1 ∧ a_maxL 87 = 2 ∧ 87 < 274 := by decide +kernel
theorem rn_87 : a_ret 87 = (some Jvm.ClassFile.FieldType.boolean) := by decide +kernel
theorem ws_88 : a_maxL 88 = 3 ∧ 88 < 274 := by decide +kernel
theorem w_88 : a_own 88 = 1 ∧ a_maxL 88 = 3 ∧ 88 < 274 := by decide +kernel
theorem rn_88 : a_ret 88 = (some Jvm.ClassFile.FieldType.boolean) := by decide +kernel
theorem ws_89 : a_maxL 89 = 3 ∧ 89 < 274 := by decide +kernel
theorem w_89 : a_own 89 = 1 ∧ a_maxL 89 = 3 ∧ 89 < 274 := by decide +kernel
theorem rn_89 : a_ret 89 = (some Jvm.ClassFile.FieldType.boolean) := by decide +kernel
theorem ws_90 : a_maxL 90 = 4 ∧ 90 < 274 := by decide +kernel
theorem w_90 : a_own 90 = 1 ∧ a_maxL 90 = 4 ∧ 90 < 274 := by decide +kernel
theorem rn_90 : a_ret 90 = (some Jvm.ClassFile.FieldType.boolean) := by decide +kernel
theorem ws_91 : a_maxL 91 = 3 ∧ 91 < 274 := by decide +kernel
theorem w_91 : a_own 91 = 1 ∧ a_maxL 91 = 3 ∧ 91 < 274 := by decide +kernel
theorem rn_91 : a_ret 91 = (some Jvm.ClassFile.FieldType.int) := by decide +kernel
theorem ws_92 : a_maxL 92 = 3 ∧ 92 < 274 := by decide +kernel
theorem w_92 : a_own 92 = 1 ∧ a_maxL 92 = 3 ∧ 92 < 274 := by decide +kernel
theorem rn_92 : a_ret 92 = (some Jvm.ClassFile.FieldType.int) := by decide +kernel
theorem ws_93 : a_maxL 93 = 3 ∧ 93 < 274 := by decide +kernel
theorem w_93 : a_own 93 = 1 ∧ a_maxL 93 = 3 ∧ 93 < 274 := by decide +kernel
theorem rn_93 : a_ret 93 = (some Jvm.ClassFile.FieldType.int) := by decide +kernel
theorem ws_94 : a_maxL 94 = 6 ∧ 94 < 274 := by decide +kernel
theorem w_94 : a_own 94 = 1 ∧ a_maxL 94 = 6 ∧ 94 < 274 := by decide +kernel
theorem rn_94 : a_ret 94 = none := by decide +kernel
theorem ws_95 : a_maxL 95 = 6 ∧ 95 < 274 := by decide +kernel
theorem w_95 : a_own 95 = 1 ∧ a_maxL 95 = 6 ∧ 95 < 274 := by decide +kernel
theorem rn_95 : a_ret 95 = (some Jvm.ClassFile.FieldType.int) := by decide +kernel
theorem ws_96 : a_maxL 96 = 1 ∧ 96 < 274 := by decide +kernel
theorem w_96 : a_own 96 = 2 ∧ a_maxL 96 = 1 ∧ 96 < 274 := by decide +kernel
theorem rn_96 : a_ret 96 = none := by decide +kernel
theorem ws_97 : a_maxL 97 = 1 ∧ 97 < 274 := by decide +kernel
theorem w_97 : a_own 97 = 2 ∧ a_maxL 97 = 1 ∧ 97 < 274 := by decide +kernel
theorem rn_97 : a_ret 97 = none := by decide +kernel
theorem ws_98 : a_maxL 98 = 2 ∧ 98 < 274 := by decide +kernel
theorem w_98 : a_own 98 = 2 ∧ a_maxL 98 = 2 ∧ 98 < 274 := by decide +kernel
theorem rn_98 : a_ret 98 = none := by decide +kernel
theorem ws_99 : a_maxL 99 = 4 ∧ 99 < 274 := by decide +kernel
theorem w_99 : a_own 99 = 2 ∧ a_maxL 99 = 4 ∧ 99 < 274 := by decide +kernel
theorem rn_99 : a_ret 99 = none := by decide +kernel
theorem ws_100 : a_maxL 100 = 3 ∧ 100 < 274 := by decide +kernel
theorem w_100 : a_own 100 = 2 ∧ a_maxL 100 = 3 ∧ 100 < 274 := by decide +kernel
theorem rn_100 : a_ret 100 = (some Jvm.ClassFile.FieldType.int) := by decide +kernel
theorem ws_101 : a_maxL 101 = 2 ∧ 101 < 274 := by decide +kernel
theorem w_101 : a_own 101 = 2 ∧ a_maxL 101 = 2 ∧ 101 < 274 := by decide +kernel
theorem rn_101 : a_ret 101 = (some Jvm.ClassFile.FieldType.int) := by decide +kernel
theorem ws_102 : a_maxL 102 = 1 ∧ 102 < 274 := by decide +kernel
theorem w_102 : a_own 102 = 2 ∧ a_maxL 102 = 1 ∧ 102 < 274 := by decide +kernel
theorem rn_102 : a_ret 102 = (some (Jvm.ClassFile.FieldType.object "java/lang/String")) := by decide +kernel
theorem ws_103 : a_maxL 103 = 8 ∧ 103 < 274 := by decide +kernel
theorem w_103 : a_own 103 = 2 ∧ a_maxL 103 = 8 ∧ 103 < 274 := by decide +kernel
theorem rn_103 : a_ret 103 = (some Jvm.ClassFile.FieldType.int) := by decide +kernel
theorem ws_104 : a_maxL 104 = 2 ∧ 104 < 274 := by decide +kernel
theorem w_104 : a_own 104 = 3 ∧ a_maxL 104 = 2 ∧ 104 < 274 := by decide +kernel
theorem rn_104 : a_ret 104 = none := by decide +kernel
theorem ws_105 : a_maxL 105 = 2 ∧ 105 < 274 := by decide +kernel
theorem w_105 : a_own 105 = 3 ∧ a_maxL 105 = 2 ∧ 105 < 274 := by decide +kernel
theorem rn_105 : a_ret 105 = none := by decide +kernel
theorem ws_106 : a_maxL 106 = 2 ∧ 106 < 274 := by decide +kernel
theorem w_106 : a_own 106 = 3 ∧ a_maxL 106 = 2 ∧ 106 < 274 := by decide +kernel
theorem rn_106 : a_ret 106 = (some Jvm.ClassFile.FieldType.int) := by decide +kernel
theorem ws_107 : a_maxL 107 = 3 ∧ 107 < 274 := by decide +kernel
theorem w_107 : a_own 107 = 3 ∧ a_maxL 107 = 3 ∧ 107 < 274 := by decide +kernel
theorem rn_107 : a_ret 107 = none := by decide +kernel
theorem ws_108 : a_maxL 108 = 1 ∧ 108 < 274 := by decide +kernel
theorem w_108 : a_own 108 = 4 ∧ a_maxL 108 = 1 ∧ 108 < 274 := by decide +kernel
theorem rn_108 : a_ret 108 = none := by decide +kernel
theorem ws_109 : a_maxL 109 = 4 ∧ 109 < 274 := by decide +kernel
theorem w_109 : a_own 109 = 4 ∧ a_maxL 109 = 4 ∧ 109 < 274 := by decide +kernel
theorem rn_109 : a_ret 109 = none := by decide +kernel
theorem ws_110 : a_maxL 110 = 4 ∧ 110 < 274 := by decide +kernel
theorem w_110 : a_own 110 = 4 ∧ a_maxL 110 = 4 ∧ 110 < 274 := by decide +kernel
theorem rn_110 : a_ret 110 = none := by decide +kernel
theorem ws_111 : a_maxL 111 = 2 ∧ 111 < 274 := by decide +kernel
theorem w_111 : a_own 111 = 4 ∧ a_maxL 111 = 2 ∧ 111 < 274 := by decide +kernel
theorem rn_111 : a_ret 111 = (some Jvm.ClassFile.FieldType.int) := by decide +kernel
theorem ws_112 : a_maxL 112 = 1 ∧ 112 < 274 := by decide +kernel
theorem w_112 : a_own 112 = 4 ∧ a_maxL 112 = 1 ∧ 112 < 274 := by decide +kernel
theorem rn_112 : a_ret 112 = none := by decide +kernel
theorem ws_113 : a_maxL 113 = 2 ∧ 113 < 274 := by decide +kernel
theorem w_113 : a_own 113 = 4 ∧ a_maxL 113 = 2 ∧ 113 < 274 := by decide +kernel
theorem rn_113 : a_ret 113 = none := by decide +kernel
theorem ws_114 : a_maxL 114 = 4 ∧ 114 < 274 := by decide +kernel
theorem w_114 : a_own 114 = 4 ∧ a_maxL 114 = 4 ∧ 114 < 274 := by decide +kernel
theorem rn_114 : a_ret 114 = (some Jvm.ClassFile.FieldType.int) := by decide +kernel
theorem ws_115 : a_maxL 115 = 1 ∧ 115 < 274 := by decide +kernel
theorem w_115 : a_own 115 = 4 ∧ a_maxL 115 = 1 ∧ 115 < 274 := by decide +kernel
theorem rn_115 : a_ret 115 = (some (Jvm.ClassFile.FieldType.object "java/lang/String")) := by decide +kernel
theorem ws_116 : a_maxL 116 = 5 ∧ 116 < 274 := by decide +kernel
theorem w_116 : a_own 116 = 4 ∧ a_maxL 116 = 5 ∧ 116 < 274 := by decide +kernel
theorem rn_116 : a_ret 116 = (some Jvm.ClassFile.FieldType.boolean) := by decide +kernel
theorem ws_117 : a_maxL 117 = 2 ∧ 117 < 274 := by decide +kernel
theorem w_117 : a_own 117 = 4 ∧ a_maxL 117 = 2 ∧ 117 < 274 := by decide +kernel
theorem rn_117 : a_ret 117 = (some Jvm.ClassFile.FieldType.boolean) := by decide +kernel
theorem ws_118 : a_maxL 118 = 1 ∧ 118 < 274 := by decide +kernel
theorem w_118 : a_own 118 = 4 ∧ a_maxL 118 = 1 ∧ 118 < 274 := by decide +kernel
theorem rn_118 : a_ret 118 = (some Jvm.ClassFile.FieldType.boolean) := by decide +kernel
theorem ws_119 : a_maxL 119 = 1 ∧ 119 < 274 := by decide +kernel
theorem w_119 : a_own 119 = 4 ∧ a_maxL 119 = 1 ∧ 119 < 274 := by decide +kernel
theorem rn_119 : a_ret 119 = (some Jvm.ClassFile.FieldType.int) := by decide +kernel
theorem ws_120 : a_maxL 120 = 3 ∧ 120 < 274 := by decide +kernel
theorem w_120 : a_own 120 = 4 ∧ a_maxL 120 = 3 ∧ 120 < 274 := by decide +kernel
theorem rn_120 : a_ret 120 = (some Jvm.ClassFile.FieldType.boolean) := by decide +kernel
theorem ws_121 : a_maxL 121 = 1 ∧ 121 < 274 := by decide +kernel
theorem w_121 : a_own 121 = 4 ∧ a_maxL 121 = 1 ∧ 121 < 274 := by decide +kernel
theorem rn_121 : a_ret 121 = (some Jvm.ClassFile.FieldType.boolean) := by decide +kernel
theorem ws_122 : a_maxL 122 = 2 ∧ 122 < 274 := by decide +kernel
theorem w_122 : a_own 122 = 4 ∧ a_maxL 122 = 2 ∧ 122 < 274 := by decide +kernel
theorem rn_122 : a_ret 122 = (some Jvm.ClassFile.FieldType.boolean) := by decide +kernel
theorem ws_123 : a_maxL 123 = 2 ∧ 123 < 274 := by decide +kernel
theorem w_123 : a_own 123 = 4 ∧ a_maxL 123 = 2 ∧ 123 < 274 := by decide +kernel
theorem rn_123 : a_ret 123 = (some Jvm.ClassFile.FieldType.boolean) := by decide +kernel
theorem ws_124 : a_maxL 124 = 1 ∧ 124 < 274 := by decide +kernel
theorem w_124 : a_own 124 = 5 ∧ a_maxL 124 = 1 ∧ 124 < 274 := by decide +kernel
theorem rn_124 : a_ret 124 = none := by decide +kernel
theorem ws_125 : a_maxL 125 = 3 ∧ 125 < 274 := by decide +kernel
theorem w_125 : a_own 125 = 5 ∧ a_maxL 125 = 3 ∧ 125 < 274 := by decide +kernel
theorem rn_125 : a_ret 125 = (some Jvm.ClassFile.FieldType.int) := by decide +kernel
theorem ws_126 : a_maxL 126 = 2 ∧ 126 < 274 := by decide +kernel
theorem w_126 : a_own 126 = 5 ∧ a_maxL 126 = 2 ∧ 126 < 274 := by decide +kernel
theorem rn_126 : a_ret 126 = (some Jvm.ClassFile.FieldType.int) := by decide +kernel
theorem ws_127 : a_maxL 127 = 1 ∧ 127 < 274 := by decide +kernel
theorem w_127 : a_own 127 = 6 ∧ a_maxL 127 = 1 ∧ 127 < 274 := by decide +kernel
theorem rn_127 : a_ret 127 = none := by decide +kernel
theorem ws_128 : a_maxL 128 = 3 ∧ 128 < 274 := by decide +kernel
theorem w_128 : a_own 128 = 6 ∧ a_maxL 128 = 3 ∧ 128 < 274 := by decide +kernel
theorem rn_128 : a_ret 128 = none := by decide +kernel
theorem ws_129 : a_maxL 129 = 5 ∧ 129 < 274 := by decide +kernel
theorem w_129 : a_own 129 = 6 ∧ a_maxL 129 = 5 ∧ 129 < 274 := by decide +kernel
theorem rn_129 : a_ret 129 = none := by decide +kernel
theorem ws_130 : a_maxL 130 = 4 ∧ 130 < 274 := by decide +kernel
theorem w_130 : a_own 130 = 6 ∧ a_maxL 130 = 4 ∧ 130 < 274 := by decide +kernel
theorem rn_130 : a_ret 130 = none := by decide +kernel
theorem ws_131 : a_maxL 131 = 1 ∧ 131 < 274 := by decide +kernel
theorem w_131 : a_own 131 = 6 ∧ a_maxL 131 = 1 ∧ 131 < 274 := by decide +kernel
theorem rn_131 : a_ret 131 = (some Jvm.ClassFile.FieldType.boolean) := by decide +kernel
theorem ws_132 : a_maxL 132 = 4 ∧ 132 < 274 := by decide +kernel
theorem w_132 : a_own 132 = 6 ∧ a_maxL 132 = 4 ∧ 132 < 274 := by decide +kernel
theorem rn_132 : a_ret 132 = none := by decide +kernel
theorem ws_133 : a_maxL 133 = 3 ∧ 133 < 274 := by decide +kernel
theorem w_133 : a_own 133 = 6 ∧ a_maxL 133 = 3 ∧ 133 < 274 := by decide +kernel
theorem rn_133 : a_ret 133 = (some Jvm.ClassFile.FieldType.int) := by decide +kernel
theorem ws_134 : a_maxL 134 = 3 ∧ 134 < 274 := by decide +kernel
theorem w_134 : a_own 134 = 6 ∧ a_maxL 134 = 3 ∧ 134 < 274 := by decide +kernel
theorem rn_134 : a_ret 134 = (some Jvm.ClassFile.FieldType.int) := by decide +kernel
theorem ws_135 : a_maxL 135 = 2 ∧ 135 < 274 := by decide +kernel
theorem w_135 : a_own 135 = 6 ∧ a_maxL 135 = 2 ∧ 135 < 274 := by decide +kernel
theorem rn_135 : a_ret 135 = none := by decide +kernel
theorem ws_136 : a_maxL 136 = 4 ∧ 136 < 274 := by decide +kernel
theorem w_136 : a_own 136 = 6 ∧ a_maxL 136 = 4 ∧ 136 < 274 := by decide +kernel
theorem rn_136 : a_ret 136 = none := by decide +kernel
theorem ws_137 : a_maxL 137 = 3 ∧ 137 < 274 := by decide +kernel
theorem w_137 : a_own 137 = 6 ∧ a_maxL 137 = 3 ∧ 137 < 274 := by decide +kernel
theorem rn_137 : a_ret 137 = none := by decide +kernel
theorem ws_138 : a_maxL 138 = 1 ∧ 138 < 274 := by decide +kernel
theorem w_138 : a_own 138 = 7 ∧ a_maxL 138 = 1 ∧ 138 < 274 := by decide +kernel
theorem rn_138 : a_ret 138 = none := by decide +kernel
theorem ws_139 : a_maxL 139 = 1 ∧ 139 < 274 := by decide +kernel
theorem w_139 : a_own 139 = 7 ∧ a_maxL 139 = 1 ∧ 139 < 274 := by decide +kernel
theorem rn_139 : a_ret 139 = none := by decide +kernel
theorem ws_140 : a_maxL 140 = 6 ∧ 140 < 274 := by decide +kernel
theorem w_140 : a_own 140 = 7 ∧ a_maxL 140 = 6 ∧ 140 < 274 := by decide +kernel
theorem rn_140 : a_ret 140 = none := by decide +kernel
theorem ws_141 : a_maxL 141 = 2 ∧ 141 < 274 := by decide +kernel
theorem w_141 : a_own 141 = 7 ∧ a_maxL 141 = 2 ∧ 141 < 274 := by decide +kernel
theorem rn_141 : a_ret 141 = (some Jvm.ClassFile.FieldType.boolean) := by decide +kernel
theorem ws_142 : a_maxL 142 = 2 ∧ 142 < 274 := by decide +kernel
theorem w_142 : a_own 142 = 7 ∧ a_maxL 142 = 2 ∧ 142 < 274 := by decide +kernel
theorem rn_142 : a_ret 142 = (some Jvm.ClassFile.FieldType.int) := by decide +kernel
theorem ws_143 : a_maxL 143 = 1 ∧ 143 < 274 := by decide +kernel
theorem w_143 : a_own 143 = 8 ∧ a_maxL 143 = 1 ∧ 143 < 274 := by decide +kernel
theorem rn_143 : a_ret 143 = none := by decide +kernel
theorem ws_144 : a_maxL 144 = 4 ∧ 144 < 274 := by decide +kernel
theorem w_144 : a_own 144 = 8 ∧ a_maxL 144 = 4 ∧ 144 < 274 := by decide +kernel
theorem rn_144 : a_ret 144 = none := by decide +kernel
theorem ws_145 : a_maxL 145 = 4 ∧ 145 < 274 := by decide +kernel
theorem w_145 : a_own 145 = 8 ∧ a_maxL 145 = 4 ∧ 145 < 274 := by decide +kernel
theorem rn_145 : a_ret 145 = none := by decide +kernel
theorem ws_146 : a_maxL 146 = 3 ∧ 146 < 274 := by decide +kernel
theorem w_146 : a_own 146 = 8 ∧ a_maxL 146 = 3 ∧ 146 < 274 := by decide +kernel
theorem rn_146 : a_ret 146 = (some Jvm.ClassFile.FieldType.int) := by decide +kernel
theorem ws_147 : a_maxL 147 = 6 ∧ 147 < 274 := by decide +kernel
theorem w_147 : a_own 147 = 8 ∧ a_maxL 147 = 6 ∧ 147 < 274 := by decide +kernel
theorem rn_147 : a_ret 147 = (some Jvm.ClassFile.FieldType.boolean) := by decide +kernel
theorem ws_148 : a_maxL 148 = 1 ∧ 148 < 274 := by decide +kernel
theorem w_148 : a_own 148 = 8 ∧ a_maxL 148 = 1 ∧ 148 < 274 := by decide +kernel
theorem rn_148 : a_ret 148 = none := by decide +kernel
theorem ws_149 : a_maxL 149 = 5 ∧ 149 < 274 := by decide +kernel
theorem w_149 : a_own 149 = 8 ∧ a_maxL 149 = 5 ∧ 149 < 274 := by decide +kernel
theorem rn_149 : a_ret 149 = none := by decide +kernel
theorem ws_150 : a_maxL 150 = 2 ∧ 150 < 274 := by decide +kernel
theorem w_150 : a_own 150 = 8 ∧ a_maxL 150 = 2 ∧ 150 < 274 := by decide +kernel
theorem rn_150 : a_ret 150 = (some Jvm.ClassFile.FieldType.int) := by decide +kernel
theorem ws_151 : a_maxL 151 = 2 ∧ 151 < 274 := by decide +kernel
theorem w_151 : a_own 151 = 8 ∧ a_maxL 151 = 2 ∧ 151 < 274 := by decide +kernel
theorem rn_151 : a_ret 151 = none := by decide +kernel
theorem ws_152 : a_maxL 152 = 3 ∧ 152 < 274 := by decide +kernel
theorem w_152 : a_own 152 = 8 ∧ a_maxL 152 = 3 ∧ 152 < 274 := by decide +kernel
theorem rn_152 : a_ret 152 = (some Jvm.ClassFile.FieldType.int) := by decide +kernel
theorem ws_153 : a_maxL 153 = 4 ∧ 153 < 274 := by decide +kernel
theorem w_153 : a_own 153 = 8 ∧ a_maxL 153 = 4 ∧ 153 < 274 := by decide +kernel
theorem rn_153 : a_ret 153 = (some Jvm.ClassFile.FieldType.int) := by decide +kernel
theorem ws_154 : a_maxL 154 = 2 ∧ 154 < 274 := by decide +kernel
theorem w_154 : a_own 154 = 8 ∧ a_maxL 154 = 2 ∧ 154 < 274 := by decide +kernel
theorem rn_154 : a_ret 154 = (some Jvm.ClassFile.FieldType.boolean) := by decide +kernel
theorem ws_155 : a_maxL 155 = 3 ∧ 155 < 274 := by decide +kernel
theorem w_155 : a_own 155 = 8 ∧ a_maxL 155 = 3 ∧ 155 < 274 := by decide +kernel
theorem rn_155 : a_ret 155 = (some Jvm.ClassFile.FieldType.int) := by decide +kernel
theorem ws_156 : a_maxL 156 = 4 ∧ 156 < 274 := by decide +kernel
theorem w_156 : a_own 156 = 8 ∧ a_maxL 156 = 4 ∧ 156 < 274 := by decide +kernel
theorem rn_156 : a_ret 156 = (some Jvm.ClassFile.FieldType.int) := by decide +kernel
theorem ws_157 : a_maxL 157 = 1 ∧ 157 < 274 := by decide +kernel
theorem w_157 : a_own 157 = 8 ∧ a_maxL 157 = 1 ∧ 157 < 274 := by decide +kernel
theorem rn_157 : a_ret 157 = (some Jvm.ClassFile.FieldType.boolean) := by decide +kernel
theorem ws_158 : a_maxL 158 = 5 ∧ 158 < 274 := by decide +kernel
theorem w_158 : a_own 158 = 8 ∧ a_maxL 158 = 5 ∧ 158 < 274 := by decide +kernel
theorem rn_158 : a_ret 158 = (some Jvm.ClassFile.FieldType.int) := by decide +kernel
theorem ws_159 : a_maxL 159 = 1 ∧ 159 < 274 := by decide +kernel
theorem w_159 : a_own 159 = 8 ∧ a_maxL 159 = 1 ∧ 159 < 274 := by decide +kernel
theorem rn_159 : a_ret 159 = (some Jvm.ClassFile.FieldType.int) := by decide +kernel
theorem ws_160 : a_maxL 160 = 4 ∧ 160 < 274 := by decide +kernel
theorem w_160 : a_own 160 = 8 ∧ a_maxL 160 = 4 ∧ 160 < 274 := by decide +kernel
theorem rn_160 : a_ret 160 = (some Jvm.ClassFile.FieldType.int) := by decide +kernel
theorem ws_161 : a_maxL 161 = 2 ∧ 161 < 274 := by decide +kernel
theorem w_161 : a_own 161 = 8 ∧ a_maxL 161 = 2 ∧ 161 < 274 := by decide +kernel
theorem rn_161 : a_ret 161 = (some Jvm.ClassFile.FieldType.boolean) := by decide +kernel
theorem ws_162 : a_maxL 162 = 4 ∧ 162 < 274 := by decide +kernel
theorem w_162 : a_own 162 = 8 ∧ a_maxL 162 = 4 ∧ 162 < 274 := by decide +kernel
theorem rn_162 : a_ret 162 = (some Jvm.ClassFile.FieldType.int) := by decide +kernel
theorem ws_163 : a_maxL 163 = 2 ∧ 163 < 274 := by decide +kernel
theorem w_163 : a_own 163 = 8 ∧ a_maxL 163 = 2 ∧ 163 < 274 := by decide +kernel
theorem rn_163 : a_ret 163 = (some Jvm.ClassFile.FieldType.int) := by decide +kernel
theorem ws_164 : a_maxL 164 = 4 ∧ 164 < 274 := by decide +kernel
theorem w_164 : a_own 164 = 8 ∧ a_maxL 164 = 4 ∧ 164 < 274 := by decide +kernel
theorem rn_164 : a_ret 164 = (some Jvm.ClassFile.FieldType.int) := by decide +kernel
theorem ws_165 : a_maxL 165 = 1 ∧ 165 < 274 := by decide +kernel
theorem w_165 : a_own 165 = 8 ∧ a_maxL 165 = 1 ∧ 165 < 274 := by decide +kernel
theorem rn_165 : a_ret 165 = (some Jvm.ClassFile.FieldType.boolean) := by decide +kernel
theorem ws_166 : a_maxL 166 = 2 ∧ 166 < 274 := by decide +kernel
theorem w_166 : a_own 166 = 8 ∧ a_maxL 166 = 2 ∧ 166 < 274 := by decide +kernel
theorem rn_166 : a_ret 166 = none := by decide +kernel
theorem ws_167 : a_maxL 167 = 2 ∧ 167 < 274 := by decide +kernel
theorem w_167 : a_own 167 = 8 ∧ a_maxL 167 = 2 ∧ 167 < 274 := by decide +kernel
theorem rn_167 : a_ret 167 = none := by decide +kernel
theorem ws_168 : a_maxL 168 = 4 ∧ 168 < 274 := by decide +kernel
theorem w_168 : a_own 168 = 8 ∧ a_maxL 168 = 4 ∧ 168 < 274 := by decide +kernel
theorem rn_168 : a_ret 168 = none := by decide +kernel
theorem ws_169 : a_maxL 169 = 3 ∧ 169 < 274 := by decide +kernel
theorem w_169 : a_own 169 = 8 ∧ a_maxL 169 = 3 ∧ 169 < 274 := by decide +kernel
theorem rn_169 : a_ret 169 = (some Jvm.ClassFile.FieldType.boolean) := by decide +kernel
theorem ws_170 : a_maxL 170 = 2 ∧ 170 < 274 := by decide +kernel
theorem w_170 : a_own 170 = 8 ∧ a_maxL 170 = 2 ∧ 170 < 274 := by decide +kernel
theorem rn_170 : a_ret 170 = none := by decide +kernel
theorem ws_171 : a_maxL 171 = 4 ∧ 171 < 274 := by decide +kernel
theorem w_171 : a_own 171 = 8 ∧ a_maxL 171 = 4 ∧ 171 < 274 := by decide +kernel
theorem rn_171 : a_ret 171 = none := by decide +kernel
theorem ws_172 : a_maxL 172 = 2 ∧ 172 < 274 := by decide +kernel
theorem w_172 : a_own 172 = 8 ∧ a_maxL 172 = 2 ∧ 172 < 274 := by decide +kernel
theorem rn_172 : a_ret 172 = (some Jvm.ClassFile.FieldType.int) := by decide +kernel
theorem ws_173 : a_maxL 173 = 2 ∧ 173 < 274 := by decide +kernel
theorem w_173 : a_own 173 = 8 ∧ a_maxL 173 = 2 ∧ 173 < 274 := by decide +kernel
theorem rn_173 : a_ret 173 = (some Jvm.ClassFile.FieldType.boolean) := by decide +kernel
theorem ws_174 : a_maxL 174 = 1 ∧ 174 < 274 := by decide +kernel
theorem w_174 : a_own 174 = 8 ∧ a_maxL 174 = 1 ∧ 174 < 274 := by decide +kernel
theorem rn_174 : a_ret 174 = (some Jvm.ClassFile.FieldType.int) := by decide +kernel
theorem ws_175 : a_maxL 175 = 2 ∧ 175 < 274 := by decide +kernel
theorem w_175 : a_own 175 = 8 ∧ a_maxL 175 = 2 ∧ 175 < 274 := by decide +kernel
theorem rn_175 : a_ret 175 = (some Jvm.ClassFile.FieldType.int) := by decide +kernel
theorem ws_176 : a_maxL 176 = 4 ∧ 176 < 274 := by decide +kernel
theorem w_176 : a_own 176 = 8 ∧ a_maxL 176 = 4 ∧ 176 < 274 := by decide +kernel
theorem rn_176 : a_ret 176 = (some Jvm.ClassFile.FieldType.int) := by decide +kernel
theorem ws_177 : a_maxL 177 = 2 ∧ 177 < 274 := by decide +kernel
theorem w_177 : a_own 177 = 8 ∧ a_maxL 177 = 2 ∧ 177 < 274 := by decide +kernel
theorem rn_177 : a_ret 177 = (some Jvm.ClassFile.FieldType.int) := by decide +kernel
theorem ws_178 : a_maxL 178 = 3 ∧ 178 < 274 := by decide +kernel
theorem w_178 : a_own 178 = 8 ∧ a_maxL 178 = 3 ∧ 178 < 274 := by decide +kernel
theorem rn_178 : a_ret 178 = (some Jvm.ClassFile.FieldType.int) := by decide +kernel
theorem ws_179 : a_maxL 179 = 3 ∧ 179 < 274 := by decide +kernel
theorem w_179 : a_own 179 = 8 ∧ a_maxL 179 = 3 ∧ 179 < 274 := by decide +kernel
theorem rn_179 : a_ret 179 = (some Jvm.ClassFile.FieldType.int) := by decide +kernel
theorem ws_180 : a_maxL 180 = 2 ∧ 180 < 274 := by decide +kernel
theorem w_180 : a_own 180 = 8 ∧ a_maxL 180 = 2 ∧ 180 < 274 := by decide +kernel
theorem rn_180 : a_ret 180 = (some Jvm.ClassFile.FieldType.int) := by decide +kernel
theorem ws_181 : a_maxL 181 = 2 ∧ 181 < 274 := by decide +kernel
theorem w_181 : a_own 181 = 8 ∧ a_maxL 181 = 2 ∧ 181 < 274 := by decide +kernel
theorem rn_181 : a_ret 181 = (some Jvm.ClassFile.FieldType.int) := by decide +kernel
theorem ws_182 : a_maxL 182 = 2 ∧ 182 < 274 := by decide +kernel
theorem w_182 : a_own 182 = 8 ∧ a_maxL 182 = 2 ∧ 182 < 274 := by decide +kernel
theorem rn_182 : a_ret 182 = (some Jvm.ClassFile.FieldType.int) := by decide +kernel
theorem ws_183 : a_maxL 183 = 2 ∧ 183 < 274 := by decide +kernel
theorem w_183 : a_own 183 = 8 ∧ a_maxL 183 = 2 ∧ 183 < 274 := by decide +kernel
theorem rn_183 : a_ret 183 = (some Jvm.ClassFile.FieldType.int) := by decide +kernel
theorem ws_184 : a_maxL 184 = 2 ∧ 184 < 274 := by decide +kernel
theorem w_184 : a_own 184 = 8 ∧ a_maxL 184 = 2 ∧ 184 < 274 := by decide +kernel
theorem rn_184 : a_ret 184 = (some Jvm.ClassFile.FieldType.int) := by decide +kernel
theorem ws_185 : a_maxL 185 = 6 ∧ 185 < 274 := by decide +kernel
theorem w_185 : a_own 185 = 8 ∧ a_maxL 185 = 6 ∧ 185 < 274 := by decide +kernel
theorem rn_185 : a_ret 185 = (some Jvm.ClassFile.FieldType.int) := by decide +kernel
theorem ws_186 : a_maxL 186 = 3 ∧ 186 < 274 := by decide +kernel
theorem w_186 : a_own 186 = 8 ∧ a_maxL 186 = 3 ∧ 186 < 274 := by decide +kernel
theorem rn_186 : a_ret 186 = (some Jvm.ClassFile.FieldType.int) := by decide +kernel
theorem ws_187 : a_maxL 187 = 5 ∧ 187 < 274 := by decide +kernel
theorem w_187 : a_own 187 = 8 ∧ a_maxL 187 = 5 ∧ 187 < 274 := by decide +kernel
theorem rn_187 : a_ret 187 = (some Jvm.ClassFile.FieldType.int) := by decide +kernel
theorem ws_188 : a_maxL 188 = 2 ∧ 188 < 274 := by decide +kernel
theorem w_188 : a_own 188 = 8 ∧ a_maxL 188 = 2 ∧ 188 < 274 := by decide +kernel
theorem rn_188 : a_ret 188 = (some Jvm.ClassFile.FieldType.int) := by decide +kernel
theorem ws_189 : a_maxL 189 = 4 ∧ 189 < 274 := by decide +kernel
theorem w_189 : a_own 189 = 8 ∧ a_maxL 189 = 4 ∧ 189 < 274 := by decide +kernel
theorem rn_189 : a_ret 189 = (some Jvm.ClassFile.FieldType.int) := by decide +kernel
theorem ws_190 : a_maxL 190 = 3 ∧ 190 < 274 := by decide +kernel
theorem w_190 : a_own 190 = 8 ∧ a_maxL 190 = 3 ∧ 190 < 274 := by decide +kernel
theorem rn_190 : a_ret 190 = (some Jvm.ClassFile.FieldType.int) := by decide +kernel
theorem ws_191 : a_maxL 191 = 7 ∧ 191 < 274 := by decide +kernel
theorem w_191 : a_own 191 = 8 ∧ a_maxL 191 = 7 ∧ 191 < 274 := by decide +kernel
theorem rn_191 : a_ret 191 = none := by decide +kernel
theorem ws_192 : a_maxL 192 = 3 ∧ 192 < 274 := by decide +kernel
theorem w_192 : a_own 192 = 8 ∧ a_maxL 192 = 3 ∧ 192 < 274 := by decide +kernel
theorem rn_192 : a_ret 192 = (some Jvm.ClassFile.FieldType.int) := by decide +kernel
theorem ws_193 : a_maxL 193 = 2 ∧ 193 < 274 := by decide +kernel
theorem w_193 : a_own 193 = 8 ∧ a_maxL 193 = 2 ∧ 193 < 274 := by decide +kernel
theorem rn_193 : a_ret 193 = (some Jvm.ClassFile.FieldType.int) := by decide +kernel
theorem ws_194 : a_maxL 194 = 3 ∧ 194 < 274 := by decide +kernel
theorem w_194 : a_own 194 = 8 ∧ a_maxL 194 = 3 ∧ 194 < 274 := by decide +kernel
theorem rn_194 : a_ret 194 = (some Jvm.ClassFile.FieldType.int) := by decide +kernel
theorem ws_195 : a_maxL 195 = 4 ∧ 195 < 274 := by decide +kernel
theorem w_195 : a_own 195 = 8 ∧ a_maxL 195 = 4 ∧ 195 < 274 := by decide +kernel
theorem rn_195 : a_ret 195 = none := by decide +kernel
theorem ws_196 : a_maxL 196 = 2 ∧ 196 < 274 := by decide +kernel
theorem w_196 : a_own 196 = 8 ∧ a_maxL 196 = 2 ∧ 196 < 274 := by decide +kernel
theorem rn_196 : a_ret 196 = (some Jvm.ClassFile.FieldType.int) := by decide +kernel
theorem ws_197 : a_maxL 197 = 5 ∧ 197 < 274 := by decide +kernel
theorem w_197 : a_own 197 = 8 ∧ a_maxL 197 = 5 ∧ 197 < 274 := by decide +kernel
theorem rn_197 : a_ret 197 = (some Jvm.ClassFile.FieldType.int) := by decide +kernel
theorem ws_198 : a_maxL 198 = 4 ∧ 198 < 274 := by decide +kernel
theorem w_198 : a_own 198 = 8 ∧ a_maxL 198 = 4 ∧ 198 < 274 := by decide +kernel
theorem rn_198 : a_ret 198 = (some Jvm.ClassFile.FieldType.int) := by decide +kernel
theorem ws_199 : a_maxL 199 = 2 ∧ 199 < 274 := by decide +kernel
theorem w_199 : a_own 199 = 8 ∧ a_maxL 199 = 2 ∧ 199 < 274 := by decide +kernel
theorem rn_199 : a_ret 199 = (some Jvm.ClassFile.FieldType.boolean) := by decide +kernel
theorem ws_200 : a_maxL 200 = 3 ∧ 200 < 274 := by decide +kernel
theorem w_200 : a_own 200 = 8 ∧ a_maxL 200 = 3 ∧ 200 < 274 := by decide +kernel
theorem rn_200 : a_ret 200 = (some Jvm.ClassFile.FieldType.int) := by decide +kernel
theorem ws_201 : a_maxL 201 = 2 ∧ 201 < 274 := by decide +kernel
theorem w_201 : a_own 201 = 8 ∧ a_maxL 201 = 2 ∧ 201 < 274 := by decide +kernel
theorem rn_201 : a_ret 201 = (some Jvm.ClassFile.FieldType.int) := by decide +kernel
theorem ws_202 : a_maxL 202 = 2 ∧ 202 < 274 := by decide +kernel
theorem w_202 : a_own 202 = 8 ∧ a_maxL 202 = 2 ∧ 202 < 274 := by decide +kernel
theorem rn_202 : a_ret 202 = (some Jvm.ClassFile.FieldType.int) := by decide +kernel
theorem ws_203 : a_maxL 203 = 4 ∧ 203 < 274 := by decide +kernel
theorem w_203 : a_own 203 = 8 ∧ a_maxL 203 = 4 ∧ 203 < 274 := by decide +kernel
theorem rn_203 : a_ret 203 = (some Jvm.ClassFile.FieldType.int) := by decide +kernel
theorem ws_204 : a_maxL 204 = 3 ∧ 204 < 274 := by decide +kernel
theorem w_204 : a_own 204 = 8 ∧ a_maxL 204 = 3 ∧ 204 < 274 := by decide +kernel
theorem rn_204 : a_ret 204 = (some Jvm.ClassFile.FieldType.int) := by decide +kernel
theorem ws_205 : a_maxL 205 = 2 ∧ 205 < 274 := by decide +kernel
theorem w_205 : a_own 205 = 8 ∧ a_maxL 205 = 2 ∧ 205 < 274 := by decide +kernel
theorem rn_205 : a_ret 205 = (some Jvm.ClassFile.FieldType.boolean) := by decide +kernel
theorem ws_206 : a_maxL 206 = 2 ∧ 206 < 274 := by decide +kernel
theorem w_206 : a_own 206 = 8 ∧ a_maxL 206 = 2 ∧ 206 < 274 := by decide +kernel
theorem rn_206 : a_ret 206 = (some Jvm.ClassFile.FieldType.int) := by decide +kernel
theorem ws_207 : a_maxL 207 = 2 ∧ 207 < 274 := by decide +kernel
theorem w_207 : a_own 207 = 8 ∧ a_maxL 207 = 2 ∧ 207 < 274 := by decide +kernel
theorem rn_207 : a_ret 207 = (some Jvm.ClassFile.FieldType.boolean) := by decide +kernel
theorem ws_208 : a_maxL 208 = 4 ∧ 208 < 274 := by decide +kernel
theorem w_208 : a_own 208 = 8 ∧ a_maxL 208 = 4 ∧ 208 < 274 := by decide +kernel
theorem rn_208 : a_ret 208 = (some Jvm.ClassFile.FieldType.int) := by decide +kernel
theorem ws_209 : a_maxL 209 = 3 ∧ 209 < 274 := by decide +kernel
theorem w_209 : a_own 209 = 8 ∧ a_maxL 209 = 3 ∧ 209 < 274 := by decide +kernel
theorem rn_209 : a_ret 209 = (some Jvm.ClassFile.FieldType.int) := by decide +kernel
theorem ws_210 : a_maxL 210 = 4 ∧ 210 < 274 := by decide +kernel
theorem w_210 : a_own 210 = 8 ∧ a_maxL 210 = 4 ∧ 210 < 274 := by decide +kernel
theorem rn_210 : a_ret 210 = (some Jvm.ClassFile.FieldType.int) := by decide +kernel
theorem ws_211 : a_maxL 211 = 4 ∧ 211 < 274 := by decide +kernel
theorem w_211 : a_own 211 = 8 ∧ a_maxL 211 = 4 ∧ 211 < 274 := by decide +kernel
theorem rn_211 : a_ret 211 = (some Jvm.ClassFile.FieldType.boolean) := by decide +kernel
theorem ws_212 : a_maxL 212 = 2 ∧ 212 < 274 := by decide +kernel
theorem w_212 : a_own 212 = 8 ∧ a_maxL 212 = 2 ∧ 212 < 274 := by decide +kernel
theorem rn_212 : a_ret 212 = (some Jvm.ClassFile.FieldType.int) := by decide +kernel
theorem ws_213 : a_maxL 213 = 3 ∧ 213 < 274 := by decide +kernel
theorem w_213 : a_own 213 = 8 ∧ a_maxL 213 = 3 ∧ 213 < 274 := by decide +kernel
theorem rn_213 : a_ret 213 = (some Jvm.ClassFile.FieldType.int) := by decide +kernel
theorem ws_214 : a_maxL 214 = 5 ∧ 214 < 274 := by decide +kernel
theorem w_214 : a_own 214 = 8 ∧ a_maxL 214 = 5 ∧ 214 < 274 := by decide +kernel
theorem rn_214 : a_ret 214 = (some Jvm.ClassFile.FieldType.int) := by decide +kernel
theorem ws_215 : a_maxL 215 = 3 ∧ 215 < 274 := by decide +kernel
theorem w_215 : a_own 215 = 8 ∧ a_maxL 215 = 3 ∧ 215 < 274 := by decide +kernel
theorem rn_215 : a_ret 215 = (some Jvm.ClassFile.FieldType.boolean) := by decide +kernel
theorem ws_216 : a_maxL 216 = 4 ∧ 216 < 274 := by decide +kernel
theorem w_216 : a_own 216 = 8 ∧ a_maxL 216 = 4 ∧ 216 < 274 := by decide +kernel
theorem rn_216 : a_ret 216 = (some Jvm.ClassFile.FieldType.boolean) := by decide +kernel
theorem ws_217 : a_maxL 217 = 5 ∧ 217 < 274 := by decide +kernel
theorem w_217 : a_own 217 = 8 ∧ a_maxL 217 = 5 ∧ 217 < 274 := by decide +kernel
theorem rn_217 : a_ret 217 = (some Jvm.ClassFile.FieldType.int) := by decide +kernel
theorem ws_218 : a_maxL 218 = 2 ∧ 218 < 274 := by decide +kernel
theorem w_218 : a_own 218 = 8 ∧ a_maxL 218 = 2 ∧ 218 < 274 := by decide +kernel
theorem rn_218 : a_ret 218 = (some Jvm.ClassFile.FieldType.int) := by decide +kernel
theorem ws_219 : a_maxL 219 = 6 ∧ 219 < 274 := by decide +kernel
theorem w_219 : a_own 219 = 8 ∧ a_maxL 219 = 6 ∧ 219 < 274 := by decide +kernel
theorem rn_219 : a_ret 219 = (some Jvm.ClassFile.FieldType.int) := by decide +kernel
theorem ws_220 : a_maxL 220 = 3 ∧ 220 < 274 := by decide +kernel
theorem w_220 : a_own 220 = 8 ∧ a_maxL 220 = 3 ∧ 220 < 274 := by decide +kernel
theorem rn_220 : a_ret 220 = (some Jvm.ClassFile.FieldType.int) := by decide +kernel
theorem ws_221 : a_maxL 221 = 3 ∧ 221 < 274 := by decide +kernel
theorem w_221 : a_own 221 = 8 ∧ a_maxL 221 = 3 ∧ 221 < 274 := by decide +kernel
theorem rn_221 : a_ret 221 = (some Jvm.ClassFile.FieldType.int) := by decide +kernel
theorem ws_222 : a_maxL 222 = 2 ∧ 222 < 274 := by decide +kernel
theorem w_222 : a_own 222 = 8 ∧ a_maxL 222 = 2 ∧ 222 < 274 := by decide +kernel
theorem rn_222 : a_ret 222 = (some Jvm.ClassFile.FieldType.int) := by decide +kernel
theorem ws_223 : a_maxL 223 = 3 ∧ 223 < 274 := by decide +kernel
theorem w_223 : a_own 223 = 8 ∧ a_maxL 223 = 3 ∧ 223 < 274 := by decide +kernel
theorem rn_223 : a_ret 223 = (some Jvm.ClassFile.FieldType.int) := by decide +kernel
theorem ws_224 : a_maxL 224 = 3 ∧ 224 < 274 := by decide +kernel
theorem w_224 : a_own 224 = 8 ∧ a_maxL 224 = 3 ∧ 224 < 274 := by decide +kernel
theorem rn_224 : a_ret 224 = (some Jvm.ClassFile.FieldType.int) := by decide +kernel
theorem ws_225 : a_maxL 225 = 8 ∧ 225 < 274 := by decide +kernel
theorem w_225 : a_own 225 = 8 ∧ a_maxL 225 = 8 ∧ 225 < 274 := by decide +kernel
theorem rn_225 : a_ret 225 = (some Jvm.ClassFile.FieldType.int) := by decide +kernel
theorem ws_226 : a_maxL 226 = 5 ∧ 226 < 274 := by decide +kernel
theorem w_226 : a_own 226 = 8 ∧ a_maxL 226 = 5 ∧ 226 < 274 := by decide +kernel
theorem rn_226 : a_ret 226 = none := by decide +kernel
theorem ws_227 : a_maxL 227 = 3 ∧ 227 < 274 := by decide +kernel
theorem w_227 : a_own 227 = 8 ∧ a_maxL 227 = 3 ∧ 227 < 274 := by decide +kernel
theorem rn_227 : a_ret 227 = (some Jvm.ClassFile.FieldType.int) := by decide +kernel
theorem ws_228 : a_maxL 228 = 4 ∧ 228 < 274 := by decide +kernel
theorem w_228 : a_own 228 = 8 ∧ a_maxL 228 = 4 ∧ 228 < 274 := by decide +kernel
theorem rn_228 : a_ret 228 = none := by decide +kernel
theorem ws_229 : a_maxL 229 = 1 ∧ 229 < 274 := by decide +kernel
theorem w_229 : a_own 229 = 8 ∧ a_maxL 229 = 1 ∧ 229 < 274 := by decide +kernel
theorem rn_229 : a_ret 229 = (some Jvm.ClassFile.FieldType.int) := by decide +kernel
theorem ws_230 : a_maxL 230 = 7 ∧ 230 < 274 := by decide +kernel
theorem w_230 : a_own 230 = 8 ∧ a_maxL 230 = 7 ∧ 230 < 274 := by decide +kernel
theorem rn_230 : a_ret 230 = (some Jvm.ClassFile.FieldType.int) := by decide +kernel
theorem ws_231 : a_maxL 231 = 6 ∧ 231 < 274 := by decide +kernel
theorem w_231 : a_own 231 = 8 ∧ a_maxL 231 = 6 ∧ 231 < 274 := by decide +kernel
theorem rn_231 : a_ret 231 = none := by decide +kernel
theorem ws_232 : a_maxL 232 = 5 ∧ 232 < 274 := by decide +kernel
theorem w_232 : a_own 232 = 8 ∧ a_maxL 232 = 5 ∧ 232 < 274 := by decide +kernel
theorem rn_232 : a_ret 232 = (some Jvm.ClassFile.FieldType.int) := by decide +kernel
theorem ws_233 : a_maxL 233 = 5 ∧ 233 < 274 := by decide +kernel
theorem w_233 : a_own 233 = 8 ∧ a_maxL 233 = 5 ∧ 233 < 274 := by decide +kernel
theorem rn_233 : a_ret 233 = (some Jvm.ClassFile.FieldType.boolean) := by decide +kernel
theorem ws_234 : a_maxL 234 = 8 ∧ 234 < 274 := by decide +kernel
theorem w_234 : a_own 234 = 8 ∧ a_maxL 234 = 8 ∧ 234 < 274 := by decide +kernel
theorem rn_234 : a_ret 234 = (some Jvm.ClassFile.FieldType.int) := by decide +kernel
theorem ws_235 : a_maxL 235 = 2 ∧ 235 < 274 := by decide +kernel
theorem w_235 : a_own 235 = 8 ∧ a_maxL 235 = 2 ∧ 235 < 274 := by decide +kernel
theorem rn_235 : a_ret 235 = (some Jvm.ClassFile.FieldType.int) := by decide +kernel
theorem ws_236 : a_maxL 236 = 5 ∧ 236 < 274 := by decide +kernel
theorem w_236 : a_own 236 = 8 ∧ a_maxL 236 = 5 ∧ 236 < 274 := by decide +kernel
theorem rn_236 : a_ret 236 = (some Jvm.ClassFile.FieldType.int) := by decide +kernel
theorem ws_237 : a_maxL 237 = 5 ∧ 237 < 274 := by decide +kernel
theorem w_237 : a_own 237 = 8 ∧ a_maxL 237 = 5 ∧ 237 < 274 := by decide +kernel
theorem rn_237 : a_ret 237 = (some Jvm.ClassFile.FieldType.int) := by decide +kernel
theorem ws_238 : a_maxL 238 = 5 ∧ 238 < 274 := by decide +kernel
theorem w_238 : a_own 238 = 8 ∧ a_maxL 238 = 5 ∧ 238 < 274 := by decide +kernel
theorem rn_238 : a_ret 238 = (some Jvm.ClassFile.FieldType.int) := by decide +kernel
theorem ws_239 : a_maxL 239 = 8 ∧ 239 < 274 := by decide +kernel
theorem w_239 : a_own 239 = 8 ∧ a_maxL 239 = 8 ∧ 239 < 274 := by decide +kernel
theorem rn_239 : a_ret 239 = (some Jvm.ClassFile.FieldType.int) := by decide +kernel
theorem ws_240 : a_maxL 240 = 4 ∧ 240 < 274 := by decide +kernel
theorem w_240 : a_own 240 = 8 ∧ a_maxL 240 = 4 ∧ 240 < 274 := by decide +kernel
theorem rn_240 : a_ret 240 = (some Jvm.ClassFile.FieldType.int) := by decide +kernel
theorem ws_241 : a_maxL 241 = 5 ∧ 241 < 274 := by decide +kernel
theorem w_241 : a_own 241 = 8 ∧ a_maxL 241 = 5 ∧ 241 < 274 := by decide +kernel
theorem rn_241 : a_ret 241 = none := by decide +kernel
theorem ws_242 : a_maxL 242 = 5 ∧ 242 < 274 := by decide +kernel
theorem w_242 : a_own 242 = 8 ∧ a_maxL 242 = 5 ∧ 242 < 274 := by decide +kernel
theorem rn_242 : a_ret 242 = (some Jvm.ClassFile.FieldType.int) := by decide +kernel
theorem ws_243 : a_maxL 243 = 1 ∧ 243 < 274 := by decide +kernel
theorem w_243 : a_own 243 = 8 ∧ a_maxL 243 = 1 ∧ 243 < 274 := by decide +kernel
theorem rn_243 : a_ret 243 = (some Jvm.ClassFile.FieldType.boolean) := by decide +kernel
theorem ws_244 : a_maxL 244 = 1 ∧ 244 < 274 := by decide +kernel
theorem w_244 : a_own 244 = 8 ∧ a_maxL 244 = 1 ∧ 244 < 274 := by decide +kernel
theorem rn_244 : a_ret 244 = (some Jvm.ClassFile.FieldType.int) := by decide +kernel
theorem ws_245 : a_maxL 245 = 3 ∧ 245 < 274 := by decide +kernel
theorem w_245 : a_own 245 = 8 ∧ a_maxL 245 = 3 ∧ 245 < 274 := by decide +kernel
theorem rn_245 : a_ret 245 = none := by decide +kernel
theorem ws_246 : a_maxL 246 = 3 ∧ 246 < 274 := by decide +kernel
theorem w_246 : a_own 246 = 8 ∧ a_maxL 246 = 3 ∧ 246 < 274 := by decide +kernel
theorem rn_246 : a_ret 246 = (some Jvm.ClassFile.FieldType.int) := by decide +kernel
theorem ws_247 : a_maxL 247 = 5 ∧ 247 < 274 := by decide +kernel
theorem w_247 : a_own 247 = 8 ∧ a_maxL 247 = 5 ∧ 247 < 274 := by decide +kernel
theorem rn_247 : a_ret 247 = (some Jvm.ClassFile.FieldType.boolean) := by decide +kernel
theorem ws_248 : a_maxL 248 = 2 ∧ 248 < 274 := by decide +kernel
theorem w_248 : a_own 248 = 8 ∧ a_maxL 248 = 2 ∧ 248 < 274 := by decide +kernel
theorem rn_248 : a_ret 248 = none := by decide +kernel
theorem ws_249 : a_maxL 249 = 1 ∧ 249 < 274 := by decide +kernel
theorem w_249 : a_own 249 = 8 ∧ a_maxL 249 = 1 ∧ 249 < 274 := by decide +kernel
theorem rn_249 : a_ret 249 = (some Jvm.ClassFile.FieldType.int) := by decide +kernel
theorem ws_250 : a_maxL 250 = 1 ∧ 250 < 274 := by decide +kernel
theorem w_250 : a_own 250 = 8 ∧ a_maxL 250 = 1 ∧ 250 < 274 := by decide +kernel
theorem rn_250 : a_ret 250 = (some Jvm.ClassFile.FieldType.boolean) := by decide +kernel
theorem ws_251 : a_maxL 251 = 2 ∧ 251 < 274 := by decide +kernel
theorem w_251 : a_own 251 = 8 ∧ a_maxL 251 = 2 ∧ 251 < 274 := by decide +kernel
theorem rn_251 : a_ret 251 = (some Jvm.ClassFile.FieldType.boolean) := by decide +kernel
theorem ws_252 : a_maxL 252 = 4 ∧ 252 < 274 := by decide +kernel
theorem w_252 : a_own 252 = 8 ∧ a_maxL 252 = 4 ∧ 252 < 274 := by decide +kernel
theorem rn_252 : a_ret 252 = (some Jvm.ClassFile.FieldType.int) := by decide +kernel
theorem ws_253 : a_maxL 253 = 2 ∧ 253 < 274 := by decide +kernel
theorem w_253 : a_own 253 = 8 ∧ a_maxL 253 = 2 ∧ 253 < 274 := by decide +kernel
theorem rn_253 : a_ret 253 = (some Jvm.ClassFile.FieldType.int) := by decide +kernel
theorem ws_254 : a_maxL 254 = 1 ∧ 254 < 274 := by decide +kernel
theorem w_254 : a_own 254 = 8 ∧ a_maxL 254 = 1 ∧ 254 < 274 := by decide +kernel
theorem rn_254 : a_ret 254 = (some Jvm.ClassFile.FieldType.int) := by decide +kernel
theorem ws_255 : a_maxL 255 = 5 ∧ 255 < 274 := by decide +kernel
theorem w_255 : a_own 255 = 8 ∧ a_maxL 255 = 5 ∧ 255 < 274 := by decide +kernel
theorem rn_255 : a_ret 255 = (some Jvm.ClassFile.FieldType.int) := by decide +kernel
theorem ws_256 : a_maxL 256 = 2 ∧ 256 < 274 := by decide +kernel
theorem w_256 : a_own 256 = 8 ∧ a_maxL 256 = 2 ∧ 256 < 274 := by decide +kernel
theorem rn_256 : a_ret 256 = (some Jvm.ClassFile.FieldType.int) := by decide +kernel
theorem ws_257 : a_maxL 257 = 3 ∧ 257 < 274 := by decide +kernel
theorem w_257 : a_own 257 = 8 ∧ a_maxL 257 = 3 ∧ 257 < 274 := by decide +kernel
theorem rn_257 : a_ret 257 = (some Jvm.ClassFile.FieldType.int) := by decide +kernel
theorem ws_258 : a_maxL 258 = 2 ∧ 258 < 274 := by decide +kernel
theorem w_258 : a_own 258 = 8 ∧ a_maxL 258 = 2 ∧ 258 < 274 := by decide +kernel
theorem rn_258 : a_ret 258 = (some Jvm.ClassFile.FieldType.int) := by decide +kernel
theorem ws_259 : a_maxL 259 = 2 ∧ 259 < 274 := by decide +kernel
theorem w_259 : a_own 259 = 8 ∧ a_maxL 259 = 2 ∧ 259 < 274 := by decide +kernel
theorem rn_259 : a_ret 259 = (some Jvm.ClassFile.FieldType.int) := by decide +kernel
theorem ws_260 : a_maxL 260 = 2 ∧ 260 < 274 := by decide +kernel
theorem w_260 : a_own 260 = 8 ∧ a_maxL 260 = 2 ∧ 260 < 274 := by decide +kernel
theorem rn_260 : a_ret 260 = (some Jvm.ClassFile.FieldType.int) := by decide +kernel
theorem ws_261 : a_maxL 261 = 2 ∧ 261 < 274 := by decide +kernel
theorem w_261 : a_own 261 = 8 ∧ a_maxL 261 = 2 ∧ 261 < 274 := by decide +kernel
theorem rn_261 : a_ret 261 = (some Jvm.ClassFile.FieldType.int) := by decide +kernel
theorem ws_262 : a_maxL 262 = 4 ∧ 262 < 274 := by decide +kernel
theorem rn_262 : a_ret 262 = (some Jvm.ClassFile.FieldType.boolean) := by decide +kernel
theorem ws_263 : a_maxL 263 = 4 ∧ 263 < 274 := by decide +kernel
theorem rn_263 : a_ret 263 = none := by decide +kernel
theorem ws_264 : a_maxL 264 = 2 ∧ 264 < 274 := by decide +kernel
theorem rn_264 : a_ret 264 = (some Jvm.ClassFile.FieldType.int) := by decide +kernel
theorem ws_265 : a_maxL 265 = 1 ∧ 265 < 274 := by decide +kernel
theorem rn_265 : a_ret 265 = (some Jvm.ClassFile.FieldType.int) := by decide +kernel
theorem ws_266 : a_maxL 266 = 3 ∧ 266 < 274 := by decide +kernel
theorem rn_266 : a_ret 266 = (some Jvm.ClassFile.FieldType.int) := by decide +kernel
theorem ws_267 : a_maxL 267 = 1 ∧ 267 < 274 := by decide +kernel
theorem w_267 : a_own 267 = 9 ∧ a_maxL 267 = 1 ∧ 267 < 274 := by decide +kernel
theorem rn_267 : a_ret 267 = (some Jvm.ClassFile.FieldType.int) := by decide +kernel
theorem ws_268 : a_maxL 268 = 1 ∧ 268 < 274 := by decide +kernel
theorem w_268 : a_own 268 = 9 ∧ a_maxL 268 = 1 ∧ 268 < 274 := by decide +kernel
theorem rn_268 : a_ret 268 = (some Jvm.ClassFile.FieldType.byte) := by decide +kernel
theorem ws_269 : a_maxL 269 = 2 ∧ 269 < 274 := by decide +kernel
theorem w_269 : a_own 269 = 9 ∧ a_maxL 269 = 2 ∧ 269 < 274 := by decide +kernel
theorem rn_269 : a_ret 269 = (some Jvm.ClassFile.FieldType.char) := by decide +kernel
theorem ws_270 : a_maxL 270 = 1 ∧ 270 < 274 := by decide +kernel
theorem w_270 : a_own 270 = 9 ∧ a_maxL 270 = 1 ∧ 270 < 274 := by decide +kernel
theorem rn_270 : a_ret 270 = (some Jvm.ClassFile.FieldType.boolean) := by decide +kernel
theorem ws_271 : a_maxL 271 = 2 ∧ 271 < 274 := by decide +kernel
theorem rn_271 : a_ret 271 = (some Jvm.ClassFile.FieldType.char) := by decide +kernel
theorem ws_272 : a_maxL 272 = 2 ∧ 272 < 274 := by decide +kernel
theorem w_272 : a_own 272 = 9 ∧ a_maxL 272 = 2 ∧ 272 < 274 := by decide +kernel
theorem rn_272 : a_ret 272 = none := by decide +kernel
theorem ws_273 : a_maxL 273 = 3 ∧ 273 < 274 := by decide +kernel
theorem rn_273 : a_ret 273 = (some Jvm.ClassFile.FieldType.int) := by decide +kernel
theorem a_hall20 {x : Int32} (fd : Nat) (h : a_in x 11 = true) : a_mrf fd 20 x.toNatClampNeg = some (21 + 9 * x.toNatClampNeg) ∧ HB (21 + 9 * x.toNatClampNeg) := by
  have h1 := (a_in_iff.mp h).2
  generalize x.toNatClampNeg = j at h1 ⊢
  have h2 : ∀ j : Nat, j < 11 → (20, j, 21 + 9 * j) ∈ a_rt ∧ 21 + 9 * j ∈ a_HL := by decide +kernel
  exact ⟨a_mrf_of (h2 j h1).1 (by omega), (h2 j h1).2⟩
theorem a_hall120 {x : Int32} (fd : Nat) (h : a_in x 2 = true) : a_mrf fd 120 x.toNatClampNeg = some (121 + 9 * x.toNatClampNeg) ∧ HB (121 + 9 * x.toNatClampNeg) := by
  have h1 := (a_in_iff.mp h).2
  generalize x.toNatClampNeg = j at h1 ⊢
  have h2 : ∀ j : Nat, j < 2 → (120, j, 121 + 9 * j) ∈ a_rt ∧ 121 + 9 * j ∈ a_HL := by decide +kernel
  exact ⟨a_mrf_of (h2 j h1).1 (by omega), (h2 j h1).2⟩
theorem fm {α : Type} {x k : α} {ks : List α} (h : ¬ x = k) (hs : ∀ k' ∈ ks, ¬ x = k') : ∀ k' ∈ k :: ks, ¬ x = k' := by
  intro k' hk
  rcases List.mem_cons.mp hk with e | e
  · rw [e]; exact h
  · exact hs k' e
theorem fe {α : Type} {x : α} : ∀ k' ∈ ([] : List α), ¬ x = k' := fun _ h => absurd h (by simp)
theorem tsw_no {x : Int32} {lo hi : Int} {ks : List Int32} (m : Nat) (hk : ks = (List.range m).map (fun j : Nat => Int32.ofInt (lo + (j : Int)))) (hm : hi = lo + (m : Int) - 1) (h : ∀ k ∈ ks, ¬ x = k) : x.toInt < lo ∨ hi < x.toInt := by
  by_cases h1 : x.toInt < lo
  · exact Or.inl h1
  · by_cases h2 : hi < x.toInt
    · exact Or.inr h2
    · exfalso
      refine h x ?_ rfl
      rw [hk]
      refine List.mem_map.mpr ⟨(x.toInt - lo).toNat, List.mem_range.mpr (by omega), ?_⟩
      have e : lo + (((x.toInt - lo).toNat : Nat) : Int) = x.toInt := by omega
      rw [e]
      exact Int32.ofInt_toInt x
theorem hb1 : HB 1 := by unfold HB; decide
theorem hb10 : HB 10 := by unfold HB; decide
theorem hb156 : HB 156 := by unfold HB; decide
theorem mb148 : MB 148 := Or.inl rfl
theorem mb152 : MB 152 := Or.inr rfl
theorem MB.lt {x : Nat} (h : MB x) : x < 185 := by rcases h with rfl | rfl <;> decide
