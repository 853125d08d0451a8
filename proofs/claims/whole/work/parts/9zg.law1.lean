/-! the law's cases: mixes, steps, beside, way -/
section LWM
variable {xs : Nat → Int32} {L s fd : Nat} {M : a_Mm} {Q : Option Value → a_Hp → Prop}
/-- a read-only call of each: what is kept -/
theorem INV.read {M1 M2 : a_Mm} {n nx sz f : Nat} {A B B' : HA} {U : Nat → Nat × HA} {gi : Nat → Nat} {xi : Nat → Nat × HA} {T ff : Nat → Nat} (I : INV M n A B nx sz U gi xi f T ff) (cm : CM M1) (f1 : FRq M M1) (r2 : RM M2 n B') (e : EQ B B') (f2 : FRt M1 M2) : INVE M2 := by
  refine I.keep (fun o k h => (f2 _ _ (by omega) (by omega) (by omega)).trans (f1 _ _ (by omega) (by omega))) r2 e (fun o k h h' => (f2 _ _ (by omega) (by omega) (by omega)).trans (f1 _ _ (by omega) (by omega))) (cm.same (fun q k a b => f2 _ _ (by omega) (by omega) (by omega)))
theorem lw_872 (hL : L ≤ 3072) (hs : s + 6 ≤ L) (I : INVE M) (K : ∀ M' fd', INVE M' → a_Ex 262 1261 [some (.ref (a_CB + 1000)), some (.ref 0), some (.ref 170), some (.int (N s))] [] (a_hp (L + 1, xs) fd' M') Q) : a_Ex 262 872 [some (.ref (a_CB + 1000)), some (.ref 0), some (.ref 170), some (.int (N s))] [] (a_hp (L + 1, xs) fd M) Q := by
  obtain ⟨n, A, B, nx, sz, U, gi, xi, f, T, ff, I⟩ := I
  obtain ⟨⟨i1, i2, i3, i4⟩, ⟨j1, j2, j3⟩, k, ⟨l1, l2⟩, o, cm⟩ := id I
  refine x_aload_n i_262_872 rfl ?_
  refine x_aload_n i_262_873 rfl ?_
  refine x_iload_n i_262_874 rfl ?_
  refine n_iconst 1 i_262_875 rfl ?_
  refine x_iaddN i_262_876 ?_
  refine n_ldL i_262_877 (by omega) hL ?_
  refine x_aload_n i_262_878 rfl ?_
  refine x_iload_n i_262_879 rfl ?_
  refine n_iconst 2 i_262_880 rfl ?_
  refine x_iaddN i_262_881 ?_
  refine n_ldL i_262_882 (by omega) hL ?_
  refine x_vh (r := []) (lj := [some _, some _, some _, none]) i_262_883 w_28 ob_0 [_, _] rfl rfl (Nat.le_of_ble_eq_true rfl) (Nat.le_of_ble_eq_true rfl) rfl ?_
  refine c_28 (ax_lt _ _) (ax_lt _ _) i1 cm (fun M1 fd1 cm1 f1 => rt_i ?_)
  refine x_aload_n i_262_886 rfl ?_
  refine x_aload_n i_262_887 rfl ?_
  refine x_iload_n i_262_888 rfl ?_
  refine n_iconst 1 i_262_889 rfl ?_
  refine x_iaddN i_262_890 ?_
  refine n_ldL i_262_891 (by omega) hL ?_
  refine x_aload_n i_262_892 rfl ?_
  refine x_iload_n i_262_893 rfl ?_
  refine n_iconst 2 i_262_894 rfl ?_
  refine x_iaddN i_262_895 ?_
  refine n_ldL i_262_896 (by omega) hL ?_
  refine x_vh (r := [_]) (lj := [some _, some _, some _, none, none, none, none, none]) i_262_897 w_225 ob_170 [_, _] rfl rfl (Nat.le_of_ble_eq_true rfl) (Nat.le_of_ble_eq_true rfl) rfl ?_
  refine e_225 (ax_lt _ _) (ax_lt _ _) (i2.same (fun k _ => f1 _ _ (by omega) (by omega)) (fun k _ => f1 _ _ (by omega) (by omega))) (fun M2 B2 r2 e2 f2 => rt_i ?_)
  rw [m28_eq i3 i1.n2]
  refine x_ieq i_262_900 ⟨fun g1 => ?_, fun g1 => ?_⟩
  · exact K _ _ (I.read cm1 f1 r2 e2 f2)
  · exact absurd rfl g1
theorem lw_905 (hL : L ≤ 3072) (hs : s + 6 ≤ L) (I : INVE M) (K : ∀ M' fd', INVE M' → a_Ex 262 1261 [some (.ref (a_CB + 1000)), some (.ref 0), some (.ref 170), some (.int (N s))] [] (a_hp (L + 1, xs) fd' M') Q) : a_Ex 262 905 [some (.ref (a_CB + 1000)), some (.ref 0), some (.ref 170), some (.int (N s))] [] (a_hp (L + 1, xs) fd M) Q := by
  obtain ⟨n, A, B, nx, sz, U, gi, xi, f, T, ff, I⟩ := I
  obtain ⟨⟨i1, i2, i3, i4⟩, ⟨j1, j2, j3⟩, k, ⟨l1, l2⟩, o, cm⟩ := id I
  refine x_aload_n i_262_905 rfl ?_
  refine x_aload_n i_262_906 rfl ?_
  refine x_iload_n i_262_907 rfl ?_
  refine n_iconst 1 i_262_908 rfl ?_
  refine x_iaddN i_262_909 ?_
  refine n_ldL i_262_910 (by omega) hL ?_
  refine x_aload_n i_262_911 rfl ?_
  refine x_iload_n i_262_912 rfl ?_
  refine n_iconst 2 i_262_913 rfl ?_
  refine x_iaddN i_262_914 ?_
  refine n_ldL i_262_915 (by omega) hL ?_
  refine x_aload_n i_262_916 rfl ?_
  refine x_iload_n i_262_917 rfl ?_
  refine n_iconst 3 i_262_918 rfl ?_
  refine x_iaddN i_262_919 ?_
  refine n_ldL i_262_920 (by omega) hL ?_
  refine x_vh (r := []) (lj := [some _, some _, some _, some _, none]) i_262_921 w_30 ob_0 [_, _, _] rfl rfl (Nat.le_of_ble_eq_true rfl) (Nat.le_of_ble_eq_true rfl) rfl ?_
  refine c_30 (ax_lt _ _) (ax_lt _ _) (ax_lt _ _) i1 cm (fun M1 fd1 cm1 f1 => rt_i ?_)
  refine x_aload_n i_262_924 rfl ?_
  refine x_aload_n i_262_925 rfl ?_
  refine x_iload_n i_262_926 rfl ?_
  refine n_iconst 1 i_262_927 rfl ?_
  refine x_iaddN i_262_928 ?_
  refine n_ldL i_262_929 (by omega) hL ?_
  refine x_aload_n i_262_930 rfl ?_
  refine x_iload_n i_262_931 rfl ?_
  refine n_iconst 2 i_262_932 rfl ?_
  refine x_iaddN i_262_933 ?_
  refine n_ldL i_262_934 (by omega) hL ?_
  refine x_aload_n i_262_935 rfl ?_
  refine x_iload_n i_262_936 rfl ?_
  refine n_iconst 3 i_262_937 rfl ?_
  refine x_iaddN i_262_938 ?_
  refine n_ldL i_262_939 (by omega) hL ?_
  refine x_vh (r := [_]) (lj := [some _, some _, some _, some _, none]) i_262_940 w_236 ob_170 [_, _, _] rfl rfl (Nat.le_of_ble_eq_true rfl) (Nat.le_of_ble_eq_true rfl) rfl ?_
  refine e_236 (ax_lt _ _) (ax_lt _ _) (ax_lt _ _) (i2.same (fun k _ => f1 _ _ (by omega) (by omega)) (fun k _ => f1 _ _ (by omega) (by omega))) (fun M2 B2 r2 e2 f2 => rt_i ?_)
  rw [m30_eq i3 ⟨i1.n2, i1.n5⟩]
  refine x_ieq i_262_943 ⟨fun g1 => ?_, fun g1 => ?_⟩
  · exact K _ _ (I.read cm1 f1 r2 e2 f2)
  · exact absurd rfl g1
theorem lw_948 (hL : L ≤ 3072) (hs : s + 6 ≤ L) (I : INVE M) (K : ∀ M' fd', INVE M' → a_Ex 262 1261 [some (.ref (a_CB + 1000)), some (.ref 0), some (.ref 170), some (.int (N s))] [] (a_hp (L + 1, xs) fd' M') Q) : a_Ex 262 948 [some (.ref (a_CB + 1000)), some (.ref 0), some (.ref 170), some (.int (N s))] [] (a_hp (L + 1, xs) fd M) Q := by
  obtain ⟨n, A, B, nx, sz, U, gi, xi, f, T, ff, I⟩ := I
  obtain ⟨⟨i1, i2, i3, i4⟩, ⟨j1, j2, j3⟩, k, ⟨l1, l2⟩, o, cm⟩ := id I
  refine x_aload_n i_262_948 rfl ?_
  refine x_aload_n i_262_949 rfl ?_
  refine x_iload_n i_262_950 rfl ?_
  refine n_iconst 1 i_262_951 rfl ?_
  refine x_iaddN i_262_952 ?_
  refine n_ldL i_262_953 (by omega) hL ?_
  refine x_aload_n i_262_954 rfl ?_
  refine x_iload_n i_262_955 rfl ?_
  refine n_iconst 2 i_262_956 rfl ?_
  refine x_iaddN i_262_957 ?_
  refine n_ldL i_262_958 (by omega) hL ?_
  refine x_vh (r := []) (lj := [some _, some _, some _]) i_262_959 w_31 ob_0 [_, _] rfl rfl (Nat.le_of_ble_eq_true rfl) (Nat.le_of_ble_eq_true rfl) rfl ?_
  refine c_31 (ax_lt _ _) (ax_lt _ _) i1 cm (fun M1 fd1 cm1 f1 => rt_i ?_)
  refine x_aload_n i_262_962 rfl ?_
  refine x_aload_n i_262_963 rfl ?_
  refine x_iload_n i_262_964 rfl ?_
  refine n_iconst 1 i_262_965 rfl ?_
  refine x_iaddN i_262_966 ?_
  refine n_ldL i_262_967 (by omega) hL ?_
  refine x_aload_n i_262_968 rfl ?_
  refine x_iload_n i_262_969 rfl ?_
  refine n_iconst 2 i_262_970 rfl ?_
  refine x_iaddN i_262_971 ?_
  refine n_ldL i_262_972 (by omega) hL ?_
  refine x_vh (r := [_]) (lj := [some _, some _, some _, none, none, none, none, none]) i_262_973 w_234 ob_170 [_, _] rfl rfl (Nat.le_of_ble_eq_true rfl) (Nat.le_of_ble_eq_true rfl) rfl ?_
  refine e_234 (ax_lt _ _) (ax_lt _ _) (i2.same (fun k _ => f1 _ _ (by omega) (by omega)) (fun k _ => f1 _ _ (by omega) (by omega))) (fun M2 B2 r2 e2 f2 => rt_i ?_)
  rw [m31_eq i3 i1.n2]
  refine x_ieq i_262_976 ⟨fun g1 => ?_, fun g1 => ?_⟩
  · exact K _ _ (I.read cm1 f1 r2 e2 f2)
  · exact absurd rfl g1
theorem lw_981 (hL : L ≤ 3072) (hs : s + 6 ≤ L) (I : INVE M) (K : ∀ M' fd', INVE M' → a_Ex 262 1261 [some (.ref (a_CB + 1000)), some (.ref 0), some (.ref 170), some (.int (N s))] [] (a_hp (L + 1, xs) fd' M') Q) : a_Ex 262 981 [some (.ref (a_CB + 1000)), some (.ref 0), some (.ref 170), some (.int (N s))] [] (a_hp (L + 1, xs) fd M) Q := by
  obtain ⟨n, A, B, nx, sz, U, gi, xi, f, T, ff, I⟩ := I
  obtain ⟨⟨i1, i2, i3, i4⟩, ⟨j1, j2, j3⟩, k, ⟨l1, l2⟩, o, cm⟩ := id I
  refine x_aload_n i_262_981 rfl ?_
  refine x_aload_n i_262_982 rfl ?_
  refine x_iload_n i_262_983 rfl ?_
  refine n_iconst 1 i_262_984 rfl ?_
  refine x_iaddN i_262_985 ?_
  refine n_ldL i_262_986 (by omega) hL ?_
  refine x_aload_n i_262_987 rfl ?_
  refine x_iload_n i_262_988 rfl ?_
  refine n_iconst 2 i_262_989 rfl ?_
  refine x_iaddN i_262_990 ?_
  refine n_ldL i_262_991 (by omega) hL ?_
  refine x_vh (r := []) (lj := [some _, some _, some _, none]) i_262_992 w_32 ob_0 [_, _] rfl rfl (Nat.le_of_ble_eq_true rfl) (Nat.le_of_ble_eq_true rfl) rfl ?_
  refine c_32 (ax_lt _ _) (ax_lt _ _) i1 cm (fun M1 fd1 cm1 f1 => rt_i ?_)
  refine x_aload_n i_262_995 rfl ?_
  refine x_aload_n i_262_996 rfl ?_
  refine x_iload_n i_262_997 rfl ?_
  refine n_iconst 1 i_262_998 rfl ?_
  refine x_iaddN i_262_999 ?_
  refine n_ldL i_262_1000 (by omega) hL ?_
  refine x_aload_n i_262_1001 rfl ?_
  refine x_iload_n i_262_1002 rfl ?_
  refine n_iconst 2 i_262_1003 rfl ?_
  refine x_iaddN i_262_1004 ?_
  refine n_ldL i_262_1005 (by omega) hL ?_
  refine x_vh (r := [_]) (lj := [some _, some _, some _, none, none]) i_262_1006 w_238 ob_170 [_, _] rfl rfl (Nat.le_of_ble_eq_true rfl) (Nat.le_of_ble_eq_true rfl) rfl ?_
  refine e_238 (ax_lt _ _) (ax_lt _ _) (i2.same (fun k _ => f1 _ _ (by omega) (by omega)) (fun k _ => f1 _ _ (by omega) (by omega))) (fun M2 B2 r2 e2 f2 => rt_i ?_)
  rw [mw32_eq i3 i1.n2]
  refine x_ieq i_262_1009 ⟨fun g1 => ?_, fun g1 => ?_⟩
  · exact K _ _ (I.read cm1 f1 r2 e2 f2)
  · exact absurd rfl g1
end LWM
