/-! THE LINKS ARE WORDS OF THE TABLES: each family in one walk along them -/
def a_sub : List Cond → List Cond → Bool
  | [], _ => true
  | _ :: _, [] => false
  | a :: l, b :: t => if a = b then a_sub l t else a_sub (a :: l) t
theorem a_sub_mem : ∀ (t l : List Cond), a_sub l t = true → ∀ w ∈ l, w ∈ t
  | _, [], _, _, h => absurd h List.not_mem_nil
  | [], _ :: _, h, _, _ => by simp [a_sub] at h
  | b :: t, a :: l, h, w, hw => by
    unfold a_sub at h
    split at h
    · rename_i e
      rcases List.mem_cons.mp hw with rfl | hw
      · exact e ▸ List.mem_cons_self
      · exact List.mem_cons_of_mem _ (a_sub_mem t l h w hw)
    · exact List.mem_cons_of_mem _ (a_sub_mem t (a :: l) h w hw)
abbrev a_W : List Cond := lw_tbl.filter goodWord
def a_good (L : List Cond) : Bool := L.all goodWord
theorem a_inW {L : List Cond} (h : a_sub L lw_tbl = true) (g : a_good L = true) : ∀ w ∈ L, w ∈ a_W := fun w hw => List.mem_filter.mpr ⟨a_sub_mem _ _ h w hw, List.all_eq_true.mp g w hw⟩
def a_ws (i : Nat) : List Cond := Cond.code (a_y i) (a_bytes i) (a_maxL i) (a_ret i) :: a_W
theorem a_find {α : Type} {p : α → Bool} {l : List α} {x : α} (h : l.find? p = some x) : x ∈ l ∧ p x = true := ⟨List.mem_of_find?_eq_some h, List.find?_some h⟩
theorem a_key3_mem {o x a : Nat} {l : List (Nat × Nat × Nat)} (h : a_key3 o x l = some a) : (o, x, a) ∈ l := by
  unfold a_key3 at h
  cases e : l.find? (fun q => Nat.beq q.1 o && Nat.beq q.2.1 x) with
  | none => rw [e] at h; cases h
  | some q =>
    rw [e] at h
    obtain ⟨h1, h2⟩ := a_find e
    simp only [Bool.and_eq_true, Nat.beq_eq] at h2
    obtain ⟨q1, q2, q3⟩ := q
    cases h
    obtain ⟨rfl, rfl⟩ := h2
    exact h1
theorem a_key4_mem {o x a b : Nat} {l : List (Nat × Nat × Nat × Nat)} (h : a_key4 o x l = some (a, b)) : (o, x, a, b) ∈ l := by
  unfold a_key4 at h
  cases e : l.find? (fun q => Nat.beq q.1 o && Nat.beq q.2.1 x) with
  | none => rw [e] at h; cases h
  | some q =>
    rw [e] at h
    obtain ⟨h1, h2⟩ := a_find e
    simp only [Bool.and_eq_true, Nat.beq_eq] at h2
    obtain ⟨q1, q2, q3, q4⟩ := q
    cases h
    obtain ⟨rfl, rfl⟩ := h2
    exact h1
theorem a_keyc_mem {o x : Nat} {a : Int32} {l : List (Nat × Nat × Int32)} (h : a_keyc o x l = some a) : (o, x, a) ∈ l := by
  unfold a_keyc at h
  cases e : l.find? (fun q => Nat.beq q.1 o && Nat.beq q.2.1 x) with
  | none => rw [e] at h; cases h
  | some q =>
    rw [e] at h
    obtain ⟨h1, h2⟩ := a_find e
    simp only [Bool.and_eq_true, Nat.beq_eq] at h2
    obtain ⟨q1, q2, q3⟩ := q
    cases h
    obtain ⟨rfl, rfl⟩ := h2
    exact h1
theorem a_key2_mem {o x : Nat} {l : List (Nat × Nat)} (h : a_key2 o x l = true) : (o, x) ∈ l := by
  unfold a_key2 at h
  obtain ⟨q, h1, h2⟩ := List.any_eq_true.mp h
  simp only [Bool.and_eq_true, Nat.beq_eq] at h2
  obtain ⟨q1, q2⟩ := q
  obtain ⟨rfl, rfl⟩ := h2
  exact h1
def a_s_fl : List (Nat × Nat × Nat × Nat) := [(2, 9, 2, 0), (2, 15, 2, 1), (2, 19, 2, 2), (0, 258, 2, 2), (1, 9, 1, 0), (6, 63, 1, 0), (7, 43, 1, 0), (0, 164, 1, 0), (1, 41, 1, 1), (6, 66, 1, 1), (0, 272, 1, 1), (1, 44, 1, 2), (0, 275, 1, 2), (1, 77, 1, 3), (0, 168, 1, 3), (1, 80, 1, 4), (0, 171, 1, 4), (1, 15, 1, 5), (7, 52, 1, 5), (0, 112, 1, 5), (1, 19, 1, 6), (0, 116, 1, 6), (1, 22, 1, 7), (6, 102, 1, 7), (0, 119, 1, 7), (1, 25, 1, 8), (0, 122, 1, 8), (1, 28, 1, 9), (0, 125, 1, 9), (1, 31, 1, 10), (0, 128, 1, 10), (1, 37, 1, 11), (0, 254, 1, 11), (1, 162, 1, 12), (6, 114, 1, 13), (1, 165, 1, 13), (3, 11, 3, 0), (3, 18, 3, 1), (3, 26, 3, 2), (0, 267, 3, 2), (4, 9, 4, 0), (0, 281, 4, 0), (4, 15, 4, 1), (0, 284, 4, 1), (4, 18, 4, 2), (0, 287, 4, 2), (4, 41, 4, 3), (0, 278, 4, 3), (4, 44, 4, 4), (0, 243, 4, 4), (4, 25, 4, 5), (0, 249, 4, 5), (4, 47, 4, 6), (0, 252, 4, 6), (4, 21, 4, 7), (4, 35, 4, 8), (4, 38, 4, 9), (5, 9, 5, 0), (0, 187, 5, 0), (7, 9, 7, 0), (0, 310, 7, 0), (7, 15, 7, 1), (6, 125, 7, 1), (7, 19, 7, 2), (0, 226, 7, 2), (7, 22, 7, 3), (6, 142, 7, 3), (0, 229, 7, 3), (7, 31, 7, 4), (6, 132, 7, 4), (0, 214, 7, 4), (7, 34, 7, 5), (0, 206, 7, 5), (7, 37, 7, 6), (0, 211, 7, 6), (7, 40, 7, 7), (0, 217, 7, 7), (6, 27, 6, 0), (6, 31, 6, 1), (6, 35, 6, 2), (6, 38, 6, 3), (6, 41, 6, 4), (6, 44, 6, 5), (6, 53, 6, 6), (6, 57, 6, 7), (6, 12, 6, 8), (0, 304, 6, 8), (6, 18, 6, 9), (0, 300, 6, 9), (6, 21, 6, 10), (0, 10, 0, 0), (0, 20, 0, 1), (0, 26, 0, 2), (0, 30, 0, 3), (0, 34, 0, 4), (0, 38, 0, 5), (0, 232, 0, 6), (0, 45, 0, 7), (0, 52, 0, 8), (0, 59, 0, 9), (8, 1, 8, 0), (8, 13, 8, 1), (8, 17, 8, 2), (8, 20, 8, 3), (8, 23, 8, 4), (8, 91, 8, 5), (8, 26, 8, 6), (8, 101, 8, 7), (8, 105, 8, 8), (8, 108, 8, 9), (8, 250, 8, 10), (8, 30, 8, 11), (8, 33, 8, 12), (8, 36, 8, 13), (8, 39, 8, 14), (8, 42, 8, 15), (8, 269, 8, 16), (8, 45, 8, 17), (8, 302, 8, 18), (8, 311, 8, 19), (8, 308, 8, 20), (8, 305, 8, 21), (8, 48, 8, 22), (8, 391, 8, 23), (8, 51, 8, 24), (8, 54, 8, 25), (8, 57, 8, 26), (8, 377, 8, 27)]
def a_w_fl (q : Nat × Nat × Nat × Nat) : Cond := .fieldLink (a_cn q.1) q.2.1 (a_T q.2.2.1 q.2.2.2).1 (a_T q.2.2.1 q.2.2.2).2.1 (a_T q.2.2.1 q.2.2.2).2.2.1
theorem a_h_fl : a_sub (a_s_fl.map a_w_fl) lw_tbl = true := by decide +kernel
theorem a_g_fl : a_good (a_s_fl.map a_w_fl) = true := by decide +kernel
theorem a_i_fl {q : Nat × Nat × Nat × Nat} (h : q ∈ a_s_fl) : a_w_fl q ∈ a_W := a_inW a_h_fl a_g_fl _ (List.mem_map.mpr ⟨q, h, rfl⟩)
theorem a_e_fl : ∀ q ∈ a_fl, q ∈ a_s_fl := by decide +kernel
def a_s_mlv : List (Nat × Nat × Nat) := [(0, 16, 46), (1, 47, 97), (1, 56, 47), (1, 60, 48), (1, 93, 49), (10, 13, 1), (0, 63, 105), (3, 22, 50), (1, 63, 51), (1, 73, 98), (0, 67, 106), (10, 18, 2), (0, 71, 52), (1, 116, 53), (10, 22, 3), (0, 75, 54), (1, 99, 55), (10, 26, 4), (0, 78, 56), (10, 30, 5), (0, 81, 57), (1, 119, 58), (1, 122, 59), (1, 126, 60), (1, 130, 61), (1, 152, 62), (1, 168, 99), (1, 139, 63), (10, 35, 6), (0, 84, 64), (1, 102, 65), (10, 39, 7), (0, 87, 66), (10, 43, 8), (0, 90, 67), (1, 87, 68), (1, 83, 69), (10, 47, 9), (0, 93, 70), (10, 51, 10), (0, 96, 71), (10, 55, 11), (0, 99, 72), (1, 142, 73), (1, 90, 74), (1, 145, 75), (1, 108, 76), (1, 112, 77), (1, 105, 78), (1, 148, 79), (10, 59, 12), (0, 102, 80), (1, 156, 81), (10, 63, 13), (0, 105, 82), (1, 159, 83), (1, 96, 84), (10, 67, 14), (0, 108, 53), (10, 71, 15), (0, 131, 73), (0, 134, 85), (10, 75, 16), (0, 137, 15), (10, 79, 17), (0, 145, 68), (0, 149, 86), (10, 84, 18), (0, 152, 87), (10, 88, 19), (0, 155, 47), (0, 158, 88), (0, 161, 89), (10, 92, 20), (10, 96, 21), (0, 174, 49), (0, 177, 90), (10, 100, 22), (0, 181, 50), (0, 184, 65), (10, 105, 23), (0, 190, 24), (0, 294, 125), (0, 297, 126), (5, 15, 125), (0, 193, 91), (10, 109, 25), (0, 196, 84), (10, 113, 26), (0, 199, 83), (10, 117, 27), (10, 121, 28), (0, 202, 29), (0, 307, 92), (0, 313, 128), (6, 60, 139), (6, 69, 46), (6, 73, 51), (6, 77, 129), (6, 122, 93), (6, 128, 140), (7, 48, 47), (7, 55, 55), (7, 59, 141), (6, 135, 141), (6, 139, 130), (0, 317, 131), (0, 321, 132), (6, 81, 94), (6, 84, 133), (6, 105, 57), (6, 108, 64), (6, 111, 66), (6, 88, 134), (0, 324, 135), (6, 91, 67), (0, 327, 136), (6, 95, 72), (0, 330, 137), (6, 98, 47), (10, 125, 30), (0, 220, 95), (0, 223, 142), (10, 129, 31), (10, 133, 32), (10, 137, 33), (0, 235, 34), (10, 142, 35), (0, 239, 109), (4, 50, 110), (4, 53, 111), (4, 57, 112), (4, 64, 113), (4, 60, 114), (4, 93, 116), (4, 103, 267), (9, 335, 268), (4, 107, 269), (9, 492, 270), (4, 68, 117), (4, 75, 118), (4, 88, 119), (4, 85, 120), (4, 79, 121), (4, 72, 122), (4, 82, 123), (0, 246, 36), (0, 290, 37), (10, 146, 38), (10, 150, 39), (10, 154, 40), (0, 261, 100), (2, 28, 101), (2, 36, 267), (0, 264, 103), (2, 42, 269), (10, 158, 41), (0, 268, 107), (10, 162, 42), (10, 166, 43), (10, 170, 44), (8, 60, 144), (8, 64, 145), (10, 17, 146), (8, 182, 148), (8, 185, 150), (8, 94, 151), (10, 21, 152), (8, 188, 153), (8, 157, 154), (8, 72, 155), (10, 25, 156), (8, 193, 157), (8, 76, 158), (8, 142, 159), (8, 145, 160), (10, 29, 162), (10, 34, 163), (8, 199, 164), (8, 136, 166), (8, 139, 167), (8, 123, 168), (8, 126, 169), (8, 120, 170), (8, 116, 171), (8, 97, 172), (8, 129, 173), (8, 83, 174), (10, 38, 175), (8, 202, 176), (10, 42, 177), (8, 205, 178), (10, 46, 180), (8, 208, 181), (10, 50, 182), (8, 211, 183), (10, 54, 184), (8, 214, 185), (10, 58, 186), (8, 217, 187), (8, 163, 189), (8, 151, 190), (8, 166, 191), (8, 154, 192), (10, 62, 193), (8, 220, 194), (8, 169, 195), (10, 66, 196), (8, 223, 197), (8, 172, 198), (8, 175, 199), (10, 70, 200), (10, 74, 201), (8, 226, 202), (10, 78, 203), (10, 83, 204), (8, 229, 205), (10, 87, 206), (8, 232, 207), (10, 91, 208), (8, 235, 209), (10, 95, 210), (8, 238, 211), (10, 112, 212), (10, 116, 213), (10, 99, 214), (8, 241, 215), (8, 244, 216), (10, 104, 217), (8, 247, 218), (10, 108, 219), (8, 263, 220), (8, 253, 221), (8, 256, 222), (8, 266, 223), (10, 120, 224), (10, 124, 225), (8, 290, 226), (8, 272, 227), (8, 275, 228), (8, 281, 230), (8, 284, 231), (8, 287, 232), (10, 132, 234), (10, 128, 236), (8, 299, 237), (10, 136, 238), (10, 141, 239), (10, 145, 240), (8, 394, 241), (8, 374, 242), (8, 362, 243), (8, 314, 244), (8, 365, 245), (8, 368, 246), (8, 336, 247), (8, 325, 267), (8, 330, 269), (8, 382, 248), (8, 385, 249), (8, 371, 250), (8, 388, 251), (8, 397, 252), (10, 149, 253), (10, 153, 254), (10, 157, 255), (10, 161, 258), (10, 165, 259), (10, 169, 260), (10, 173, 261)]
def a_w_mlv (q : Nat × Nat × Nat) : Cond := .methodLink (a_cn q.1) q.2.1 (a_y q.2.2)
theorem a_h_mlv : a_sub (a_s_mlv.map a_w_mlv) lw_tbl = true := by decide +kernel
theorem a_g_mlv : a_good (a_s_mlv.map a_w_mlv) = true := by decide +kernel
theorem a_i_mlv {q : Nat × Nat × Nat} (h : q ∈ a_s_mlv) : a_w_mlv q ∈ a_W := a_inW a_h_mlv a_g_mlv _ (List.mem_map.mpr ⟨q, h, rfl⟩)
theorem a_e_mlv : ∀ q ∈ a_mlv, q ∈ a_s_mlv := by decide +kernel
def a_s_mls : List (Nat × Nat × Nat) := [(1, 50, 263), (3, 29, 264), (1, 134, 265), (0, 140, 265), (6, 47, 263), (7, 25, 263), (6, 117, 264), (4, 99, 115), (9, 495, 271), (14, 9, 272), (9, 1059, 273), (2, 32, 102), (3, 35, 266), (8, 68, 147), (8, 87, 149), (8, 79, 161), (8, 133, 165), (8, 148, 179), (8, 160, 188), (8, 278, 229), (8, 293, 233), (8, 296, 235), (8, 416, 256), (8, 413, 257)]
def a_w_mls (q : Nat × Nat × Nat) : Cond := .methodLink (a_cn q.1) q.2.1 (a_y q.2.2)
theorem a_h_mls : a_sub (a_s_mls.map a_w_mls) lw_tbl = true := by decide +kernel
theorem a_g_mls : a_good (a_s_mls.map a_w_mls) = true := by decide +kernel
theorem a_i_mls {q : Nat × Nat × Nat} (h : q ∈ a_s_mls) : a_w_mls q ∈ a_W := a_inW a_h_mls a_g_mls _ (List.mem_map.mpr ⟨q, h, rfl⟩)
theorem a_e_mls : ∀ q ∈ a_mls, q ∈ a_s_mls := by decide +kernel
def a_s_mli : List (Nat × Nat × Nat) := [(10, 9, 0), (0, 9, 45), (1, 36, 96), (0, 25, 104), (3, 17, 45), (0, 44, 108), (0, 58, 127), (6, 11, 138), (6, 26, 45), (10, 12, 143)]
def a_w_mli (q : Nat × Nat × Nat) : Cond := .methodLink (a_cn q.1) q.2.1 (a_y q.2.2)
theorem a_h_mli : a_sub (a_s_mli.map a_w_mli) lw_tbl = true := by decide +kernel
theorem a_g_mli : a_good (a_s_mli.map a_w_mli) = true := by decide +kernel
theorem a_i_mli {q : Nat × Nat × Nat} (h : q ∈ a_s_mli) : a_w_mli q ∈ a_W := a_inW a_h_mli a_g_mli _ (List.mem_map.mpr ⟨q, h, rfl⟩)
theorem a_e_mli : ∀ q ∈ a_mli, q = (0, 51, 124) ∨ q ∈ a_s_mli := by decide +kernel
def a_s_oi : List (Nat × Nat) := [(0, 1), (1, 3), (2, 3), (3, 3), (4, 3), (5, 3), (6, 3), (7, 3), (8, 7)]
def a_w_oi (q : Nat × Nat) : Cond := .methodLink (a_cn q.1) q.2 Lib.objectInit
theorem a_h_oi : a_sub (a_s_oi.map a_w_oi) lw_tbl = true := by decide +kernel
theorem a_g_oi : a_good (a_s_oi.map a_w_oi) = true := by decide +kernel
theorem a_i_oi {q : Nat × Nat} (h : q ∈ a_s_oi) : a_w_oi q ∈ a_W := a_inW a_h_oi a_g_oi _ (List.mem_map.mpr ⟨q, h, rfl⟩)
theorem a_e_oi : ∀ q ∈ a_oi, q ∈ a_s_oi := by decide +kernel
def a_s_ac : List (Nat × Nat) := [(1, 67), (2, 22), (4, 29)]
def a_w_ac (q : Nat × Nat) : Cond := .methodLink (a_cn q.1) q.2 arraycopyName
theorem a_h_ac : a_sub (a_s_ac.map a_w_ac) lw_tbl = true := by decide +kernel
theorem a_g_ac : a_good (a_s_ac.map a_w_ac) = true := by decide +kernel
theorem a_i_ac {q : Nat × Nat} (h : q ∈ a_s_ac) : a_w_ac q ∈ a_W := a_inW a_h_ac a_g_ac _ (List.mem_map.mpr ⟨q, h, rfl⟩)
theorem a_e_ac : ∀ q ∈ a_ac, q ∈ a_s_ac := by decide +kernel
def a_s_cst : List (Nat × Nat × Int32) := [(13, 265, 1431655765), (13, 266, 858993459), (13, 267, 252645135), (8, 104, 1048576)]
def a_w_cst (q : Nat × Nat × Int32) : Cond := .constant (a_cn q.1) q.2.1 q.2.2
theorem a_h_cst : a_sub (a_s_cst.map a_w_cst) lw_tbl = true := by decide +kernel
theorem a_g_cst : a_good (a_s_cst.map a_w_cst) = true := by decide +kernel
theorem a_i_cst {q : Nat × Nat × Int32} (h : q ∈ a_s_cst) : a_w_cst q ∈ a_W := a_inW a_h_cst a_g_cst _ (List.mem_map.mpr ⟨q, h, rfl⟩)
theorem a_e_cst : ∀ q ∈ a_cst, q ∈ a_s_cst := by decide +kernel
def a_s_cstl : List (Nat × Nat × Int32) := [(8, 178, 2), (8, 180, 5), (8, 191, 3), (8, 197, 15), (8, 112, -1), (8, 114, 20), (8, 259, 9999), (8, 261, 40), (8, 317, 97), (8, 319, 122), (8, 380, 6), (8, 321, 48), (8, 323, 57), (8, 419, 10)]
def a_w_cstl (q : Nat × Nat × Int32) : Cond := .constantLong (a_cn q.1) q.2.1 q.2.2.toInt64
theorem a_h_cstl : a_sub (a_s_cstl.map a_w_cstl) lw_tbl = true := by decide +kernel
theorem a_g_cstl : a_good (a_s_cstl.map a_w_cstl) = true := by decide +kernel
theorem a_i_cstl {q : Nat × Nat × Int32} (h : q ∈ a_s_cstl) : a_w_cstl q ∈ a_W := a_inW a_h_cstl a_g_cstl _ (List.mem_map.mpr ⟨q, h, rfl⟩)
theorem a_e_cstl : ∀ q ∈ a_cstl, q ∈ a_s_cstl := by decide +kernel
def a_s_cll : List (Nat × Nat × Nat) := [(10, 7, 0), (0, 7, 1), (1, 34, 2), (0, 23, 3), (3, 9, 1), (0, 42, 4), (0, 49, 5), (0, 56, 6), (6, 9, 7), (6, 24, 1), (10, 10, 8)]
def a_w_cll (q : Nat × Nat × Nat) : Cond := .classLink (a_cn q.1) q.2.1 (a_cn q.2.2)
theorem a_h_cll : a_sub (a_s_cll.map a_w_cll) lw_tbl = true := by decide +kernel
theorem a_g_cll : a_good (a_s_cll.map a_w_cll) = true := by decide +kernel
theorem a_i_cll {q : Nat × Nat × Nat} (h : q ∈ a_s_cll) : a_w_cll q ∈ a_W := a_inW a_h_cll a_g_cll _ (List.mem_map.mpr ⟨q, h, rfl⟩)
theorem a_e_cll : ∀ q ∈ a_cll, q ∈ a_s_cll := by decide +kernel
def a_s_sl : List (Nat × Nat × Nat) := [(9, 38, 0), (9, 1053, 1)]
def a_w_sl (q : Nat × Nat × Nat) : Cond := if q.2.2 = 0 then .fieldLink (a_cn q.1) q.2.1 "java/lang/String" "COMPACT_STRINGS" "Z" else .fieldLink (a_cn q.1) q.2.1 "jdk/internal/util/Preconditions" "SIOOBE_FORMATTER" "Ljava/util/function/BiFunction;"
theorem a_h_sl : a_sub (a_s_sl.map a_w_sl) lw_tbl = true := by decide +kernel
theorem a_g_sl : a_good (a_s_sl.map a_w_sl) = true := by decide +kernel
theorem a_i_sl {q : Nat × Nat × Nat} (h : q ∈ a_s_sl) : a_w_sl q ∈ a_W := a_inW a_h_sl a_g_sl _ (List.mem_map.mpr ⟨q, h, rfl⟩)
theorem a_e_sl : ∀ q ∈ a_sl, q ∈ a_s_sl := by decide +kernel
def a_s_sf : List (Nat × Nat × Nat) := [(9, 9, 0), (9, 15, 1)]
def a_w_sf (q : Nat × Nat × Nat) : Cond := if q.2.2 = 0 then .fieldLink (a_cn q.1) q.2.1 "java/lang/String" "value" "[B" else .fieldLink (a_cn q.1) q.2.1 "java/lang/String" "coder" "B"
theorem a_h_sf : a_sub (a_s_sf.map a_w_sf) lw_tbl = true := by decide +kernel
theorem a_g_sf : a_good (a_s_sf.map a_w_sf) = true := by decide +kernel
theorem a_i_sf {q : Nat × Nat × Nat} (h : q ∈ a_s_sf) : a_w_sf q ∈ a_W := a_inW a_h_sf a_g_sf _ (List.mem_map.mpr ⟨q, h, rfl⟩)
theorem a_e_sf : ∀ q ∈ a_sf, q ∈ a_s_sf := by decide +kernel
def a_w_code (q : Nat) : Cond := .code (a_y q) (a_bytes q) (a_maxL q) (a_ret q)
def a_s_code0 : List Nat := [0, 45, 96, 46, 97, 263, 47, 48, 49, 104, 108, 124, 127, 138, 1, 105]
theorem a_h_code0 : a_sub (a_s_code0.map a_w_code) (lw_tbl.drop 113) = true := by decide +kernel
theorem a_g_code0 : a_good (a_s_code0.map a_w_code) = true := by decide +kernel
def a_s_code1 : List Nat := [50, 51, 98, 106, 264, 2, 52, 53, 3, 54, 55, 4, 56, 5, 57, 58]
theorem a_h_code1 : a_sub (a_s_code1.map a_w_code) (lw_tbl.drop 429) = true := by decide +kernel
theorem a_g_code1 : a_good (a_s_code1.map a_w_code) = true := by decide +kernel
def a_s_code2 : List Nat := [59, 60, 61, 62, 99, 63, 6, 64, 65, 7, 66, 265, 8, 67, 68, 69]
theorem a_h_code2 : a_sub (a_s_code2.map a_w_code) (lw_tbl.drop 496) = true := by decide +kernel
theorem a_g_code2 : a_good (a_s_code2.map a_w_code) = true := by decide +kernel
def a_s_code3 : List Nat := [9, 70, 10, 71, 11, 72, 73, 74, 75, 76, 77, 78, 79, 12, 80, 81]
theorem a_h_code3 : a_sub (a_s_code3.map a_w_code) (lw_tbl.drop 562) = true := by decide +kernel
theorem a_g_code3 : a_good (a_s_code3.map a_w_code) = true := by decide +kernel
def a_s_code4 : List Nat := [13, 82, 83, 84, 14, 15, 85, 16, 17, 86, 18, 87, 19, 88, 89, 20]
theorem a_h_code4 : a_sub (a_s_code4.map a_w_code) (lw_tbl.drop 626) = true := by decide +kernel
theorem a_g_code4 : a_good (a_s_code4.map a_w_code) = true := by decide +kernel
def a_s_code5 : List Nat := [21, 90, 22, 23, 24, 125, 126, 91, 25, 26, 27, 28, 29, 92, 128, 139]
theorem a_h_code5 : a_sub (a_s_code5.map a_w_code) (lw_tbl.drop 696) = true := by decide +kernel
theorem a_g_code5 : a_good (a_s_code5.map a_w_code) = true := by decide +kernel
def a_s_code6 : List Nat := [129, 93, 140, 141, 130, 131, 132, 94, 133, 134, 135, 136, 137, 30, 95, 142]
theorem a_h_code6 : a_sub (a_s_code6.map a_w_code) (lw_tbl.drop 770) = true := by decide +kernel
theorem a_g_code6 : a_good (a_s_code6.map a_w_code) = true := by decide +kernel
def a_s_code7 : List Nat := [31, 32, 33, 34, 35, 109, 110, 111, 112, 113, 114, 115, 116, 267, 268, 269]
theorem a_h_code7 : a_sub (a_s_code7.map a_w_code) (lw_tbl.drop 844) = true := by decide +kernel
theorem a_g_code7 : a_good (a_s_code7.map a_w_code) = true := by decide +kernel
def a_s_code8 : List Nat := [270, 271, 272, 273, 117, 118, 119, 120, 121, 122, 123, 36, 37, 38, 39, 40]
theorem a_h_code8 : a_sub (a_s_code8.map a_w_code) (lw_tbl.drop 920) = true := by decide +kernel
theorem a_g_code8 : a_good (a_s_code8.map a_w_code) = true := by decide +kernel
def a_s_code9 : List Nat := [100, 101, 102, 103, 41, 107, 266, 42, 43, 44, 143, 144, 145, 146, 147, 148]
theorem a_h_code9 : a_sub (a_s_code9.map a_w_code) (lw_tbl.drop 1004) = true := by decide +kernel
theorem a_g_code9 : a_good (a_s_code9.map a_w_code) = true := by decide +kernel
def a_s_code10 : List Nat := [149, 150, 151, 152, 153, 154, 155, 156, 157, 158, 159, 160, 161, 162, 163, 164]
theorem a_h_code10 : a_sub (a_s_code10.map a_w_code) (lw_tbl.drop 1161) = true := by decide +kernel
theorem a_g_code10 : a_good (a_s_code10.map a_w_code) = true := by decide +kernel
def a_s_code11 : List Nat := [165, 166, 167, 168, 169, 170, 171, 172, 173, 174, 175, 176, 177, 178, 179, 180]
theorem a_h_code11 : a_sub (a_s_code11.map a_w_code) (lw_tbl.drop 1225) = true := by decide +kernel
theorem a_g_code11 : a_good (a_s_code11.map a_w_code) = true := by decide +kernel
def a_s_code12 : List Nat := [181, 182, 183, 184, 185, 186, 187, 188, 189, 190, 191, 192, 193, 194, 195, 196]
theorem a_h_code12 : a_sub (a_s_code12.map a_w_code) (lw_tbl.drop 1291) = true := by decide +kernel
theorem a_g_code12 : a_good (a_s_code12.map a_w_code) = true := by decide +kernel
def a_s_code13 : List Nat := [197, 198, 199, 200, 201, 202, 203, 204, 205, 206, 207, 208, 209, 210, 211, 212]
theorem a_h_code13 : a_sub (a_s_code13.map a_w_code) (lw_tbl.drop 1354) = true := by decide +kernel
theorem a_g_code13 : a_good (a_s_code13.map a_w_code) = true := by decide +kernel
def a_s_code14 : List Nat := [213, 214, 215, 216, 217, 218, 219, 220, 221, 222, 223, 224, 225, 226, 227, 228]
theorem a_h_code14 : a_sub (a_s_code14.map a_w_code) (lw_tbl.drop 1418) = true := by decide +kernel
theorem a_g_code14 : a_good (a_s_code14.map a_w_code) = true := by decide +kernel
def a_s_code15 : List Nat := [229, 230, 231, 232, 233, 234, 235, 236, 237, 238, 239, 240, 241, 242, 243, 244]
theorem a_h_code15 : a_sub (a_s_code15.map a_w_code) (lw_tbl.drop 1483) = true := by decide +kernel
theorem a_g_code15 : a_good (a_s_code15.map a_w_code) = true := by decide +kernel
def a_s_code16 : List Nat := [245, 246, 247, 248, 249, 250, 251, 252, 253, 254, 255, 256, 257, 258, 259, 260]
theorem a_h_code16 : a_sub (a_s_code16.map a_w_code) (lw_tbl.drop 1547) = true := by decide +kernel
theorem a_g_code16 : a_good (a_s_code16.map a_w_code) = true := by decide +kernel
def a_s_code17 : List Nat := [261]
theorem a_h_code17 : a_sub (a_s_code17.map a_w_code) (lw_tbl.drop 1633) = true := by decide +kernel
theorem a_g_code17 : a_good (a_s_code17.map a_w_code) = true := by decide +kernel
theorem a_inWd {L : List Cond} {n : Nat} (h : a_sub L (lw_tbl.drop n) = true) (g : a_good L = true) : ∀ w ∈ L, w ∈ a_W := fun w hw => List.mem_filter.mpr ⟨List.mem_of_mem_drop (a_sub_mem _ _ h w hw), List.all_eq_true.mp g w hw⟩
def a_s_code : List Nat := a_s_code0 ++ a_s_code1 ++ a_s_code2 ++ a_s_code3 ++ a_s_code4 ++ a_s_code5 ++ a_s_code6 ++ a_s_code7 ++ a_s_code8 ++ a_s_code9 ++ a_s_code10 ++ a_s_code11 ++ a_s_code12 ++ a_s_code13 ++ a_s_code14 ++ a_s_code15 ++ a_s_code16 ++ a_s_code17
theorem a_i_code {q : Nat} (h : q ∈ a_s_code) : a_w_code q ∈ a_W := by
  unfold a_s_code at h
  simp only [List.mem_append] at h
  rcases h with (((((((((((((((((h | h) | h) | h) | h) | h) | h) | h) | h) | h) | h) | h) | h) | h) | h) | h) | h) | h)
  · exact a_inWd a_h_code0 a_g_code0 _ (List.mem_map.mpr ⟨q, h, rfl⟩)
  · exact a_inWd a_h_code1 a_g_code1 _ (List.mem_map.mpr ⟨q, h, rfl⟩)
  · exact a_inWd a_h_code2 a_g_code2 _ (List.mem_map.mpr ⟨q, h, rfl⟩)
  · exact a_inWd a_h_code3 a_g_code3 _ (List.mem_map.mpr ⟨q, h, rfl⟩)
  · exact a_inWd a_h_code4 a_g_code4 _ (List.mem_map.mpr ⟨q, h, rfl⟩)
  · exact a_inWd a_h_code5 a_g_code5 _ (List.mem_map.mpr ⟨q, h, rfl⟩)
  · exact a_inWd a_h_code6 a_g_code6 _ (List.mem_map.mpr ⟨q, h, rfl⟩)
  · exact a_inWd a_h_code7 a_g_code7 _ (List.mem_map.mpr ⟨q, h, rfl⟩)
  · exact a_inWd a_h_code8 a_g_code8 _ (List.mem_map.mpr ⟨q, h, rfl⟩)
  · exact a_inWd a_h_code9 a_g_code9 _ (List.mem_map.mpr ⟨q, h, rfl⟩)
  · exact a_inWd a_h_code10 a_g_code10 _ (List.mem_map.mpr ⟨q, h, rfl⟩)
  · exact a_inWd a_h_code11 a_g_code11 _ (List.mem_map.mpr ⟨q, h, rfl⟩)
  · exact a_inWd a_h_code12 a_g_code12 _ (List.mem_map.mpr ⟨q, h, rfl⟩)
  · exact a_inWd a_h_code13 a_g_code13 _ (List.mem_map.mpr ⟨q, h, rfl⟩)
  · exact a_inWd a_h_code14 a_g_code14 _ (List.mem_map.mpr ⟨q, h, rfl⟩)
  · exact a_inWd a_h_code15 a_g_code15 _ (List.mem_map.mpr ⟨q, h, rfl⟩)
  · exact a_inWd a_h_code16 a_g_code16 _ (List.mem_map.mpr ⟨q, h, rfl⟩)
  · exact a_inWd a_h_code17 a_g_code17 _ (List.mem_map.mpr ⟨q, h, rfl⟩)
theorem a_e_code : ∀ j, j < 274 → j ≠ 262 → j ∈ a_s_code := by decide +kernel
def a_s_inst : List (Nat) := [0, 45, 96, 46, 97, 47, 48, 49, 104, 108, 124, 127, 138, 1, 105, 50, 51, 98, 106, 2, 52, 53, 3, 54, 55, 4, 56, 5, 57, 58, 59, 60, 61, 62, 99, 63, 6, 64, 65, 7, 66, 8, 67, 68, 69, 9, 70, 10, 71, 11, 72, 73, 74, 75, 76, 77, 78, 79, 12, 80, 81, 13, 82, 83, 84, 14, 15, 85, 16, 17, 86, 18, 87, 19, 88, 89, 20, 21, 90, 22, 23, 24, 125, 126, 91, 25, 26, 27, 28, 29, 92, 128, 139, 129, 93, 140, 141, 130, 131, 132, 94, 133, 134, 135, 136, 137, 30, 95, 142, 31, 32, 33, 34, 35, 109, 110, 111, 112, 113, 114, 116, 267, 268, 269, 270, 117, 118, 119, 120, 121, 122, 123, 36, 37, 38, 39, 40, 100, 101, 103, 41, 107, 42, 43, 44, 143, 144, 145, 146, 148, 150, 151, 152, 153, 154, 155, 156, 157, 158, 159, 160, 162, 163, 164, 166, 167, 168, 169, 170, 171, 172, 173, 174, 175, 176, 177, 178, 180, 181, 182, 183, 184, 185, 186, 187, 189, 190, 191, 192, 193, 194, 195, 196, 197, 198, 199, 200, 201, 202, 203, 204, 205, 206, 207, 208, 209, 210, 211, 212, 213, 214, 215, 216, 217, 218, 219, 220, 221, 222, 223, 224, 225, 226, 227, 228, 230, 231, 232, 234, 236, 237, 238, 239, 240, 241, 242, 243, 244, 245, 246, 247, 248, 249, 250, 251, 252, 253, 254, 255, 258, 259, 260, 261]
def a_w_inst (q : Nat) : Cond := .instanceMethod (a_y q)
theorem a_h_inst : a_sub (a_s_inst.map a_w_inst) lw_tbl = true := by decide +kernel
theorem a_g_inst : a_good (a_s_inst.map a_w_inst) = true := by decide +kernel
theorem a_i_inst {q : Nat} (h : q ∈ a_s_inst) : a_w_inst q ∈ a_W := a_inW a_h_inst a_g_inst _ (List.mem_map.mpr ⟨q, h, rfl⟩)
def a_s_sel : List (Nat) := [24, 29, 129, 130, 133, 134, 34, 110, 111, 112, 113, 114, 116, 117, 118, 119, 120, 121, 122, 123, 36, 37, 101, 144, 145, 148, 150, 151, 153, 154, 155, 157, 158, 159, 160, 164, 166, 167, 168, 169, 170, 171, 172, 173, 174, 176, 178, 181, 183, 185, 187, 189, 190, 191, 192, 194, 195, 197, 198, 199, 202, 205, 207, 209, 211, 215, 216, 218, 220, 221, 222, 223, 226, 227, 228, 230, 231, 232, 237, 241, 242, 243, 244, 245, 246, 247, 248, 249, 250, 251, 252, 46, 97, 47, 48, 49, 1, 105, 50, 51, 98, 106, 2, 52, 53, 3, 54, 55, 4, 56, 5, 57, 58, 59, 60, 61, 62, 99, 63, 6, 64, 65, 7, 66, 8, 67, 68, 69, 9, 70, 10, 71, 11, 72, 73, 74, 75, 76, 77, 78, 79, 12, 80, 81, 13, 82, 83, 84, 14, 15, 85, 16, 17, 86, 18, 87, 19, 88, 89, 20, 21, 90, 22, 23, 125, 126, 91, 25, 26, 27, 28, 92, 128, 139, 93, 140, 141, 131, 132, 94, 135, 136, 137, 30, 95, 142, 31, 32, 33, 35, 109, 267, 268, 269, 270, 38, 39, 40, 100, 103, 41, 107, 42, 43, 44, 146, 152, 156, 162, 163, 175, 177, 180, 182, 184, 186, 193, 196, 200, 201, 203, 204, 206, 208, 210, 212, 213, 214, 217, 219, 224, 225, 234, 236, 238, 239, 240, 253, 254, 255, 258, 259, 260, 261]
def a_w_sel (q : Nat) : Cond := .selects (a_y q).cls (a_y q) (a_y q)
theorem a_h_sel : a_sub (a_s_sel.map a_w_sel) lw_tbl = true := by decide +kernel
theorem a_g_sel : a_good (a_s_sel.map a_w_sel) = true := by decide +kernel
theorem a_i_sel {q : Nat} (h : q ∈ a_s_sel) : a_w_sel q ∈ a_W := a_inW a_h_sel a_g_sel _ (List.mem_map.mpr ⟨q, h, rfl⟩)
def a_s_stat : List (Nat) := [263, 264, 265, 115, 271, 272, 273, 102, 266, 147, 149, 161, 165, 179, 188, 229, 233, 235, 256, 257]
def a_w_stat (q : Nat) : Cond := .static (a_y q)
theorem a_h_stat : a_sub (a_s_stat.map a_w_stat) lw_tbl = true := by decide +kernel
theorem a_g_stat : a_good (a_s_stat.map a_w_stat) = true := by decide +kernel
theorem a_i_stat {q : Nat} (h : q ∈ a_s_stat) : a_w_stat q ∈ a_W := a_inW a_h_stat a_g_stat _ (List.mem_map.mpr ⟨q, h, rfl⟩)
def a_s_init : List (Nat) := [10, 0, 1, 2, 11, 3, 4, 5, 6, 7, 8, 12, 13, 9, 14, 15]
def a_w_init (q : Nat) : Cond := .initialized (a_cn q)
theorem a_h_init : a_sub (a_s_init.map a_w_init) lw_tbl = true := by decide +kernel
theorem a_g_init : a_good (a_s_init.map a_w_init) = true := by decide +kernel
theorem a_i_init {q : Nat} (h : q ∈ a_s_init) : a_w_init q ∈ a_W := a_inW a_h_init a_g_init _ (List.mem_map.mpr ⟨q, h, rfl⟩)
theorem a_e_init : ∀ j, j < 16 → j ∈ a_s_init := by decide +kernel
theorem a_e_mlv2 : ∀ q ∈ a_mlv, q.2.2 ∈ a_s_inst ∧ q.2.2 ∈ a_s_sel ∧ q.2.2 < 274 ∧ q.2.2 ≠ 262 := by decide +kernel
theorem a_e_mls2 : ∀ q ∈ a_mls, q.2.2 ∈ a_s_stat ∧ q.2.2 < 274 ∧ q.2.2 ≠ 262 := by decide +kernel
theorem a_e_mli2 : ∀ q ∈ a_mli, q.2.2 ∈ a_s_inst ∧ q.2.2 < 274 ∧ q.2.2 ≠ 262 ∧ (a_y q.2.2).name = "<init>" ∧ a_ret q.2.2 = none := by decide +kernel
def a_s_inst2 : List (Nat) := [0, 1, 2, 3, 4, 5, 6, 7, 8]
def a_w_inst2 (q : Nat) : Cond := .instantiable (a_cn q) (a_fn q)
theorem a_h_inst2 : a_sub (a_s_inst2.map a_w_inst2) lw_tbl = true := by decide +kernel
theorem a_g_inst2 : a_good (a_s_inst2.map a_w_inst2) = true := by decide +kernel
theorem a_i_inst2 {q : Nat} (h : q ∈ a_s_inst2) : a_w_inst2 q ∈ a_W := a_inW a_h_inst2 a_g_inst2 _ (List.mem_map.mpr ⟨q, h, rfl⟩)
theorem a_e_inst2 : ∀ j, j < 9 → j ∈ a_s_inst2 := by decide +kernel
def a_s_lay : List (Nat × Nat) := [(2, 0), (2, 1), (2, 2), (1, 0), (1, 1), (1, 2), (1, 3), (1, 4), (1, 5), (1, 6), (1, 7), (1, 8), (1, 9), (1, 10), (1, 11), (1, 12), (1, 13), (3, 0), (3, 1), (3, 2), (4, 0), (4, 1), (4, 2), (4, 3), (4, 4), (4, 5), (4, 6), (4, 7), (4, 8), (4, 9), (5, 0), (7, 0), (7, 1), (7, 2), (7, 3), (7, 4), (7, 5), (7, 6), (7, 7), (6, 0), (6, 1), (6, 2), (6, 3), (6, 4), (6, 5), (6, 6), (6, 7), (6, 8), (6, 9), (6, 10), (0, 0), (0, 1), (0, 2), (0, 3), (0, 4), (0, 5), (0, 6), (0, 7), (0, 8), (0, 9), (8, 0), (8, 1), (8, 2), (8, 3), (8, 4), (8, 5), (8, 6), (8, 7), (8, 8), (8, 9), (8, 10), (8, 11), (8, 12), (8, 13), (8, 14), (8, 15), (8, 16), (8, 17), (8, 18), (8, 19), (8, 20), (8, 21), (8, 22), (8, 23), (8, 24), (8, 25), (8, 26), (8, 27)]
def a_w_lay (q : Nat × Nat) : Cond := u_lay (a_cn q.1) (a_T q.1) q.2
theorem a_h_lay : a_sub (a_s_lay.map a_w_lay) lw_tbl = true := by decide +kernel
theorem a_g_lay : a_good (a_s_lay.map a_w_lay) = true := by decide +kernel
theorem a_i_lay {q : Nat × Nat} (h : q ∈ a_s_lay) : a_w_lay q ∈ a_W := a_inW a_h_lay a_g_lay _ (List.mem_map.mpr ⟨q, h, rfl⟩)
theorem a_e_lay : ∀ c, c < 9 → ∀ k, k < a_fn c → (c, k) ∈ a_s_lay := by decide +kernel
theorem a_lays {c : Nat} (hc : c < 9) : ∀ w ∈ u_ws (a_cn c) (a_T c) (a_fn c), w ∈ a_W := by
  intro w hw
  obtain ⟨k, hk, rfl⟩ := List.mem_map.mp hw
  exact a_i_lay (a_e_lay c hc k (List.mem_range.mp hk))
theorem a_x_arrI : (.arrayClass .int : Cond) ∈ a_W := a_inW (L := [.arrayClass .int]) (by decide +kernel) (by decide +kernel) _ List.mem_cons_self
theorem a_x_arrZ : (.arrayClass .boolean : Cond) ∈ a_W := a_inW (L := [.arrayClass .boolean]) (by decide +kernel) (by decide +kernel) _ List.mem_cons_self
theorem a_x_arrB : (.arrayClass .byte : Cond) ∈ a_W := a_inW (L := [.arrayClass .byte]) (by decide +kernel) (by decide +kernel) _ List.mem_cons_self
theorem a_x_objI : (.instanceMethod Lib.objectInit : Cond) ∈ a_W := a_inW (L := [.instanceMethod Lib.objectInit]) (by decide +kernel) (by decide +kernel) _ List.mem_cons_self
theorem a_x_objC : (.code Lib.objectInit ⟨#[0xb1]⟩ 1 none : Cond) ∈ a_W := a_inW (L := [.code Lib.objectInit ⟨#[0xb1]⟩ 1 none]) (by decide +kernel) (by decide +kernel) _ List.mem_cons_self
theorem a_x_acN : (.native arraycopyName : Cond) ∈ a_W := a_inW (L := [.native arraycopyName]) (by decide +kernel) (by decide +kernel) _ List.mem_cons_self
theorem a_x_acS : (.static arraycopyName : Cond) ∈ a_W := a_inW (L := [.static arraycopyName]) (by decide +kernel) (by decide +kernel) _ List.mem_cons_self
theorem a_x_iniSys : (.initialized "java/lang/System" : Cond) ∈ a_W := a_inW (L := [.initialized "java/lang/System"]) (by decide +kernel) (by decide +kernel) _ List.mem_cons_self
theorem a_nm0 : ∀ x, x < 10 → ∀ y, y < 10 → x ≠ y → (a_T0 x).2.1 ≠ (a_T0 y).2.1 := by decide +kernel
theorem a_tyo0 : ∀ k, k < 10 → parseFieldDescriptor (a_T0 k).2.2.1 = some (a_ty0 k) := by decide +kernel
theorem a_nm1 : ∀ x, x < 14 → ∀ y, y < 14 → x ≠ y → (a_T1 x).2.1 ≠ (a_T1 y).2.1 := by decide +kernel
theorem a_tyo1 : ∀ k, k < 14 → parseFieldDescriptor (a_T1 k).2.2.1 = some (a_ty1 k) := by decide +kernel
theorem a_nm2 : ∀ x, x < 3 → ∀ y, y < 3 → x ≠ y → (a_T2 x).2.1 ≠ (a_T2 y).2.1 := by decide +kernel
theorem a_tyo2 : ∀ k, k < 3 → parseFieldDescriptor (a_T2 k).2.2.1 = some (a_ty2 k) := by decide +kernel
theorem a_nm3 : ∀ x, x < 3 → ∀ y, y < 3 → x ≠ y → (a_T3 x).2.1 ≠ (a_T3 y).2.1 := by decide +kernel
theorem a_tyo3 : ∀ k, k < 3 → parseFieldDescriptor (a_T3 k).2.2.1 = some (a_ty3 k) := by decide +kernel
theorem a_nm4 : ∀ x, x < 10 → ∀ y, y < 10 → x ≠ y → (a_T4 x).2.1 ≠ (a_T4 y).2.1 := by decide +kernel
theorem a_tyo4 : ∀ k, k < 10 → parseFieldDescriptor (a_T4 k).2.2.1 = some (a_ty4 k) := by decide +kernel
theorem a_nm5 : ∀ x, x < 1 → ∀ y, y < 1 → x ≠ y → (a_T5 x).2.1 ≠ (a_T5 y).2.1 := by decide +kernel
theorem a_tyo5 : ∀ k, k < 1 → parseFieldDescriptor (a_T5 k).2.2.1 = some (a_ty5 k) := by decide +kernel
theorem a_nm6 : ∀ x, x < 11 → ∀ y, y < 11 → x ≠ y → (a_T6 x).2.1 ≠ (a_T6 y).2.1 := by decide +kernel
theorem a_tyo6 : ∀ k, k < 11 → parseFieldDescriptor (a_T6 k).2.2.1 = some (a_ty6 k) := by decide +kernel
theorem a_nm7 : ∀ x, x < 8 → ∀ y, y < 8 → x ≠ y → (a_T7 x).2.1 ≠ (a_T7 y).2.1 := by decide +kernel
theorem a_tyo7 : ∀ k, k < 8 → parseFieldDescriptor (a_T7 k).2.2.1 = some (a_ty7 k) := by decide +kernel
theorem a_nm8 : ∀ x, x < 28 → ∀ y, y < 28 → x ≠ y → (a_T8 x).2.1 ≠ (a_T8 y).2.1 := by decide +kernel
theorem a_tyo8 : ∀ k, k < 28 → parseFieldDescriptor (a_T8 k).2.2.1 = some (a_ty8 k) := by decide +kernel
theorem a_nmm : ∀ c, c < 9 → ∀ x, x < a_fn c → ∀ y, y < a_fn c → x ≠ y → (a_T c x).2.1 ≠ (a_T c y).2.1 := by
  intro c hc
  match c, hc with
  | 0, _ => exact a_nm0
  | 1, _ => exact a_nm1
  | 2, _ => exact a_nm2
  | 3, _ => exact a_nm3
  | 4, _ => exact a_nm4
  | 5, _ => exact a_nm5
  | 6, _ => exact a_nm6
  | 7, _ => exact a_nm7
  | 8, _ => exact a_nm8
  | c + 9, h => exact absurd h (by omega)
theorem a_tyo : ∀ c, c < 9 → ∀ k, k < a_fn c → parseFieldDescriptor (a_T c k).2.2.1 = some (a_ty c k) := by
  intro c hc
  match c, hc with
  | 0, _ => exact a_tyo0
  | 1, _ => exact a_tyo1
  | 2, _ => exact a_tyo2
  | 3, _ => exact a_tyo3
  | 4, _ => exact a_tyo4
  | 5, _ => exact a_tyo5
  | 6, _ => exact a_tyo6
  | 7, _ => exact a_tyo7
  | 8, _ => exact a_tyo8
  | c + 9, h => exact absurd h (by omega)
theorem a_cls : ∀ c, c < 9 → a_cl[c]? = some (a_cn c, a_T c, a_fn c) := by
  intro c hc
  match c, hc with
  | 0, _ => rfl
  | 1, _ => rfl
  | 2, _ => rfl
  | 3, _ => rfl
  | 4, _ => rfl
  | 5, _ => rfl
  | 6, _ => rfl
  | 7, _ => rfl
  | 8, _ => rfl
  | c + 9, h => exact absurd h (by omega)
theorem a_ycls : ∀ j, j < 274 → (a_y j).cls = a_cn (a_own j) ∧ a_own j < 16 ∧ plainFor (a_y j) = true ∧ (a_y j).cls ≠ "java/lang/invoke/MethodHandle" ∧ (a_y j).cls ≠ "java/lang/invoke/VarHandle" := by decide +kernel
def a_na (j : Nat) : Option Nat := (parseMethodDescriptor (a_y j).desc).map (fun d => d.parameters.length)
theorem a_selfT : ∀ c, c < 9 → ∀ k, k < a_fn c → (a_T c k).1 = a_cn c := by decide +kernel
theorem a_kinds : ∀ c, c < 9 → ∀ k, k < a_fn c → (a_fk c k = 0 ∧ a_ty c k = .int) ∨ (a_fk c k = 2 ∧ a_ty c k = .boolean) ∨ (a_fk c k = 1 ∧ a_fits (a_ty c k) = true) := by decide +kernel
