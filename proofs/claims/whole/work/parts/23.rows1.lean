/-! the rows of the code, one by one, by program -/
theorem i_0_0 : a_ins 0 0 = some (.aload_n 0, 1, 0, 0, 0) := by decide +kernel
theorem i_0_1 : a_ins 0 1 = some (.invokespecial 1, 3, 1000, 1, 0) := by decide +kernel
theorem i_0_4 : a_ins 0 4 = some (.aload_n 0, 1, 0, 0, 0) := by decide +kernel
theorem i_0_5 : a_ins 0 5 = some (.new 7, 3, 1, 0, 0) := by decide +kernel
theorem i_0_8 : a_ins 0 8 = some (.dup, 1, 0, 0, 0) := by decide +kernel
theorem i_0_9 : a_ins 0 9 = some (.invokespecial 9, 3, 45, 1, 0) := by decide +kernel
theorem i_0_12 : a_ins 0 12 = some (.putfield 10, 3, 0, 0, 0) := by decide +kernel
theorem i_0_15 : a_ins 0 15 = some (.aload_n 0, 1, 0, 0, 0) := by decide +kernel
theorem i_0_16 : a_ins 0 16 = some (.getfield 10, 3, 0, 0, 0) := by decide +kernel
theorem i_0_19 : a_ins 0 19 = some (.iconst (3), 1, 0, 0, 3) := by decide +kernel
theorem i_0_20 : a_ins 0 20 = some (.iconst (0), 1, 0, 0, 0) := by decide +kernel
theorem i_0_21 : a_ins 0 21 = some (.invokevirtual 16, 3, 46, 3, 0) := by decide +kernel
theorem i_0_24 : a_ins 0 24 = some (.aload_n 0, 1, 0, 0, 0) := by decide +kernel
theorem i_0_25 : a_ins 0 25 = some (.new 7, 3, 1, 0, 0) := by decide +kernel
theorem i_0_28 : a_ins 0 28 = some (.dup, 1, 0, 0, 0) := by decide +kernel
theorem i_0_29 : a_ins 0 29 = some (.invokespecial 9, 3, 45, 1, 0) := by decide +kernel
theorem i_0_32 : a_ins 0 32 = some (.putfield 20, 3, 0, 1, 0) := by decide +kernel
theorem i_0_35 : a_ins 0 35 = some (.aload_n 0, 1, 0, 0, 0) := by decide +kernel
theorem i_0_36 : a_ins 0 36 = some (.new 23, 3, 3, 0, 0) := by decide +kernel
theorem i_0_39 : a_ins 0 39 = some (.dup, 1, 0, 0, 0) := by decide +kernel
theorem i_0_40 : a_ins 0 40 = some (.invokespecial 25, 3, 104, 1, 0) := by decide +kernel
theorem i_0_43 : a_ins 0 43 = some (.putfield 26, 3, 0, 2, 0) := by decide +kernel
theorem i_0_46 : a_ins 0 46 = some (.aload_n 0, 1, 0, 0, 0) := by decide +kernel
theorem i_0_47 : a_ins 0 47 = some (.iconst (2), 1, 0, 0, 2) := by decide +kernel
theorem i_0_48 : a_ins 0 48 = some (.anewarray 7, 3, 0, 0, 0) := by decide +kernel
theorem i_0_51 : a_ins 0 51 = some (.putfield 30, 3, 0, 3, 0) := by decide +kernel
theorem i_0_54 : a_ins 0 54 = some (.iconst (0), 1, 0, 0, 0) := by decide +kernel
theorem i_0_55 : a_ins 0 55 = some (.istore_n 1, 1, 0, 0, 0) := by decide +kernel
theorem i_0_56 : a_ins 0 56 = some (.iload_n 1, 1, 0, 0, 0) := by decide +kernel
theorem i_0_57 : a_ins 0 57 = some (.iconst (2), 1, 0, 0, 2) := by decide +kernel
theorem i_0_58 : a_ins 0 58 = some (.if_icmp .ge (22), 3, 80, 0, 0) := by decide +kernel
theorem i_0_61 : a_ins 0 61 = some (.aload_n 0, 1, 0, 0, 0) := by decide +kernel
theorem i_0_62 : a_ins 0 62 = some (.getfield 30, 3, 0, 3, 0) := by decide +kernel
theorem i_0_65 : a_ins 0 65 = some (.iload_n 1, 1, 0, 0, 0) := by decide +kernel
theorem i_0_66 : a_ins 0 66 = some (.new 7, 3, 1, 0, 0) := by decide +kernel
theorem i_0_69 : a_ins 0 69 = some (.dup, 1, 0, 0, 0) := by decide +kernel
theorem i_0_70 : a_ins 0 70 = some (.invokespecial 9, 3, 45, 1, 0) := by decide +kernel
theorem i_0_73 : a_ins 0 73 = some (.aastore, 1, 0, 0, 0) := by decide +kernel
theorem i_0_74 : a_ins 0 74 = some (.iinc 1 (1), 3, 0, 0, 1) := by decide +kernel
theorem i_0_77 : a_ins 0 77 = some (.goto (-21), 3, 56, 0, 0) := by decide +kernel
theorem i_0_80 : a_ins 0 80 = some (.aload_n 0, 1, 0, 0, 0) := by decide +kernel
theorem i_0_81 : a_ins 0 81 = some (.iconst (2), 1, 0, 0, 2) := by decide +kernel
theorem i_0_82 : a_ins 0 82 = some (.newarray .boolean, 2, 2, 0, 0) := by decide +kernel
theorem i_0_84 : a_ins 0 84 = some (.putfield 34, 3, 0, 4, 0) := by decide +kernel
theorem i_0_87 : a_ins 0 87 = some (.aload_n 0, 1, 0, 0, 0) := by decide +kernel
theorem i_0_88 : a_ins 0 88 = some (.sipush (200), 3, 0, 0, 200) := by decide +kernel
theorem i_0_91 : a_ins 0 91 = some (.newarray .byte, 2, 1, 0, 0) := by decide +kernel
theorem i_0_93 : a_ins 0 93 = some (.putfield 38, 3, 0, 5, 0) := by decide +kernel
theorem i_0_96 : a_ins 0 96 = some (.aload_n 0, 1, 0, 0, 0) := by decide +kernel
theorem i_0_97 : a_ins 0 97 = some (.new 42, 3, 4, 0, 0) := by decide +kernel
theorem i_0_100 : a_ins 0 100 = some (.dup, 1, 0, 0, 0) := by decide +kernel
theorem i_0_101 : a_ins 0 101 = some (.invokespecial 44, 3, 108, 1, 0) := by decide +kernel
theorem i_0_104 : a_ins 0 104 = some (.putfield 45, 3, 0, 7, 0) := by decide +kernel
theorem i_0_107 : a_ins 0 107 = some (.aload_n 0, 1, 0, 0, 0) := by decide +kernel
theorem i_0_108 : a_ins 0 108 = some (.new 49, 3, 5, 0, 0) := by decide +kernel
theorem i_0_111 : a_ins 0 111 = some (.dup, 1, 0, 0, 0) := by decide +kernel
theorem i_0_112 : a_ins 0 112 = some (.invokespecial 51, 3, 124, 1, 0) := by decide +kernel
theorem i_0_115 : a_ins 0 115 = some (.putfield 52, 3, 0, 8, 0) := by decide +kernel
theorem i_0_118 : a_ins 0 118 = some (.aload_n 0, 1, 0, 0, 0) := by decide +kernel
theorem i_0_119 : a_ins 0 119 = some (.new 56, 3, 6, 0, 0) := by decide +kernel
theorem i_0_122 : a_ins 0 122 = some (.dup, 1, 0, 0, 0) := by decide +kernel
theorem i_0_123 : a_ins 0 123 = some (.invokespecial 58, 3, 127, 1, 0) := by decide +kernel
theorem i_0_126 : a_ins 0 126 = some (.putfield 59, 3, 0, 9, 0) := by decide +kernel
theorem i_0_129 : a_ins 0 129 = some (.return_, 1, 0, 0, 0) := by decide +kernel
theorem i_1_0 : a_ins 1 0 = some (.iload_n 1, 1, 0, 0, 0) := by decide +kernel
theorem i_1_1 : a_ins 1 1 = some (.iconst (2), 1, 0, 0, 2) := by decide +kernel
theorem i_1_2 : a_ins 1 2 = some (.if_icmp .lt (17), 3, 19, 0, 0) := by decide +kernel
theorem i_1_5 : a_ins 1 5 = some (.iload_n 1, 1, 0, 0, 0) := by decide +kernel
theorem i_1_6 : a_ins 1 6 = some (.iconst (5), 1, 0, 0, 5) := by decide +kernel
theorem i_1_7 : a_ins 1 7 = some (.if_icmp .gt (12), 3, 19, 0, 0) := by decide +kernel
theorem i_1_10 : a_ins 1 10 = some (.iload_n 2, 1, 0, 0, 0) := by decide +kernel
theorem i_1_11 : a_ins 1 11 = some (.ifCond .lt (8), 3, 19, 0, 0) := by decide +kernel
theorem i_1_14 : a_ins 1 14 = some (.iload_n 2, 1, 0, 0, 0) := by decide +kernel
theorem i_1_15 : a_ins 1 15 = some (.iconst (1), 1, 0, 0, 1) := by decide +kernel
theorem i_1_16 : a_ins 1 16 = some (.if_icmp .le (6), 3, 22, 0, 0) := by decide +kernel
theorem i_1_19 : a_ins 1 19 = some (.bipush (-3), 2, 0, 0, -3) := by decide +kernel
theorem i_1_21 : a_ins 1 21 = some (.ireturn, 1, 0, 0, 0) := by decide +kernel
theorem i_1_22 : a_ins 1 22 = some (.aload_n 0, 1, 0, 0, 0) := by decide +kernel
theorem i_1_23 : a_ins 1 23 = some (.getfield 26, 3, 0, 2, 0) := by decide +kernel
theorem i_1_26 : a_ins 1 26 = some (.aload_n 0, 1, 0, 0, 0) := by decide +kernel
theorem i_1_27 : a_ins 1 27 = some (.getfield 10, 3, 0, 0, 0) := by decide +kernel
theorem i_1_30 : a_ins 1 30 = some (.invokevirtual 63, 3, 105, 2, 0) := by decide +kernel
theorem i_1_33 : a_ins 1 33 = some (.aload_n 0, 1, 0, 0, 0) := by decide +kernel
theorem i_1_34 : a_ins 1 34 = some (.getfield 10, 3, 0, 0, 0) := by decide +kernel
theorem i_1_37 : a_ins 1 37 = some (.iload_n 1, 1, 0, 0, 0) := by decide +kernel
theorem i_1_38 : a_ins 1 38 = some (.iload_n 2, 1, 0, 0, 0) := by decide +kernel
theorem i_1_39 : a_ins 1 39 = some (.invokevirtual 16, 3, 46, 3, 0) := by decide +kernel
theorem i_1_42 : a_ins 1 42 = some (.aload_n 0, 1, 0, 0, 0) := by decide +kernel
theorem i_1_43 : a_ins 1 43 = some (.getfield 26, 3, 0, 2, 0) := by decide +kernel
theorem i_1_46 : a_ins 1 46 = some (.iload_n 1, 1, 0, 0, 0) := by decide +kernel
theorem i_1_47 : a_ins 1 47 = some (.invokevirtual 67, 3, 106, 2, 0) := by decide +kernel
theorem i_1_50 : a_ins 1 50 = some (.ireturn, 1, 0, 0, 0) := by decide +kernel
theorem i_2_0 : a_ins 2 0 = some (.aload_n 0, 1, 0, 0, 0) := by decide +kernel
theorem i_2_1 : a_ins 2 1 = some (.getfield 26, 3, 0, 2, 0) := by decide +kernel
theorem i_2_4 : a_ins 2 4 = some (.aload_n 0, 1, 0, 0, 0) := by decide +kernel
theorem i_2_5 : a_ins 2 5 = some (.getfield 10, 3, 0, 0, 0) := by decide +kernel
theorem i_2_8 : a_ins 2 8 = some (.invokevirtual 63, 3, 105, 2, 0) := by decide +kernel
theorem i_2_11 : a_ins 2 11 = some (.aload_n 0, 1, 0, 0, 0) := by decide +kernel
theorem i_2_12 : a_ins 2 12 = some (.getfield 26, 3, 0, 2, 0) := by decide +kernel
theorem i_2_15 : a_ins 2 15 = some (.aload_n 0, 1, 0, 0, 0) := by decide +kernel
theorem i_2_16 : a_ins 2 16 = some (.getfield 10, 3, 0, 0, 0) := by decide +kernel
theorem i_2_19 : a_ins 2 19 = some (.iload_n 1, 1, 0, 0, 0) := by decide +kernel
theorem i_2_20 : a_ins 2 20 = some (.iload_n 2, 1, 0, 0, 0) := by decide +kernel
theorem i_2_21 : a_ins 2 21 = some (.invokevirtual 71, 3, 52, 3, 0) := by decide +kernel
theorem i_2_24 : a_ins 2 24 = some (.invokevirtual 67, 3, 106, 2, 0) := by decide +kernel
theorem i_2_27 : a_ins 2 27 = some (.ireturn, 1, 0, 0, 0) := by decide +kernel
theorem i_3_0 : a_ins 3 0 = some (.aload_n 0, 1, 0, 0, 0) := by decide +kernel
theorem i_3_1 : a_ins 3 1 = some (.getfield 26, 3, 0, 2, 0) := by decide +kernel
theorem i_3_4 : a_ins 3 4 = some (.aload_n 0, 1, 0, 0, 0) := by decide +kernel
theorem i_3_5 : a_ins 3 5 = some (.getfield 10, 3, 0, 0, 0) := by decide +kernel
theorem i_3_8 : a_ins 3 8 = some (.invokevirtual 63, 3, 105, 2, 0) := by decide +kernel
theorem i_3_11 : a_ins 3 11 = some (.aload_n 0, 1, 0, 0, 0) := by decide +kernel
theorem i_3_12 : a_ins 3 12 = some (.getfield 26, 3, 0, 2, 0) := by decide +kernel
theorem i_3_15 : a_ins 3 15 = some (.aload_n 0, 1, 0, 0, 0) := by decide +kernel
theorem i_3_16 : a_ins 3 16 = some (.getfield 10, 3, 0, 0, 0) := by decide +kernel
theorem i_3_19 : a_ins 3 19 = some (.iload_n 1, 1, 0, 0, 0) := by decide +kernel
theorem i_3_20 : a_ins 3 20 = some (.iload_n 2, 1, 0, 0, 0) := by decide +kernel
theorem i_3_21 : a_ins 3 21 = some (.invokevirtual 75, 3, 54, 3, 0) := by decide +kernel
theorem i_3_24 : a_ins 3 24 = some (.invokevirtual 67, 3, 106, 2, 0) := by decide +kernel
theorem i_3_27 : a_ins 3 27 = some (.ireturn, 1, 0, 0, 0) := by decide +kernel
theorem i_4_0 : a_ins 4 0 = some (.aload_n 0, 1, 0, 0, 0) := by decide +kernel
theorem i_4_1 : a_ins 4 1 = some (.getfield 26, 3, 0, 2, 0) := by decide +kernel
theorem i_4_4 : a_ins 4 4 = some (.aload_n 0, 1, 0, 0, 0) := by decide +kernel
theorem i_4_5 : a_ins 4 5 = some (.getfield 10, 3, 0, 0, 0) := by decide +kernel
theorem i_4_8 : a_ins 4 8 = some (.invokevirtual 63, 3, 105, 2, 0) := by decide +kernel
theorem i_4_11 : a_ins 4 11 = some (.aload_n 0, 1, 0, 0, 0) := by decide +kernel
theorem i_4_12 : a_ins 4 12 = some (.getfield 26, 3, 0, 2, 0) := by decide +kernel
theorem i_4_15 : a_ins 4 15 = some (.aload_n 0, 1, 0, 0, 0) := by decide +kernel
theorem i_4_16 : a_ins 4 16 = some (.getfield 10, 3, 0, 0, 0) := by decide +kernel
theorem i_4_19 : a_ins 4 19 = some (.iload_n 1, 1, 0, 0, 0) := by decide +kernel
theorem i_4_20 : a_ins 4 20 = some (.iload_n 2, 1, 0, 0, 0) := by decide +kernel
theorem i_4_21 : a_ins 4 21 = some (.invokevirtual 78, 3, 56, 3, 0) := by decide +kernel
theorem i_4_24 : a_ins 4 24 = some (.invokevirtual 67, 3, 106, 2, 0) := by decide +kernel
theorem i_4_27 : a_ins 4 27 = some (.ireturn, 1, 0, 0, 0) := by decide +kernel
theorem i_5_0 : a_ins 5 0 = some (.aload_n 0, 1, 0, 0, 0) := by decide +kernel
theorem i_5_1 : a_ins 5 1 = some (.getfield 26, 3, 0, 2, 0) := by decide +kernel
theorem i_5_4 : a_ins 5 4 = some (.aload_n 0, 1, 0, 0, 0) := by decide +kernel
theorem i_5_5 : a_ins 5 5 = some (.getfield 10, 3, 0, 0, 0) := by decide +kernel
theorem i_5_8 : a_ins 5 8 = some (.invokevirtual 63, 3, 105, 2, 0) := by decide +kernel
theorem i_5_11 : a_ins 5 11 = some (.aload_n 0, 1, 0, 0, 0) := by decide +kernel
theorem i_5_12 : a_ins 5 12 = some (.getfield 26, 3, 0, 2, 0) := by decide +kernel
theorem i_5_15 : a_ins 5 15 = some (.aload_n 0, 1, 0, 0, 0) := by decide +kernel
theorem i_5_16 : a_ins 5 16 = some (.getfield 10, 3, 0, 0, 0) := by decide +kernel
theorem i_5_19 : a_ins 5 19 = some (.iload_n 1, 1, 0, 0, 0) := by decide +kernel
theorem i_5_20 : a_ins 5 20 = some (.invokevirtual 81, 3, 57, 2, 0) := by decide +kernel
theorem i_5_23 : a_ins 5 23 = some (.invokevirtual 67, 3, 106, 2, 0) := by decide +kernel
theorem i_5_26 : a_ins 5 26 = some (.ireturn, 1, 0, 0, 0) := by decide +kernel
theorem i_6_0 : a_ins 6 0 = some (.aload_n 0, 1, 0, 0, 0) := by decide +kernel
theorem i_6_1 : a_ins 6 1 = some (.getfield 26, 3, 0, 2, 0) := by decide +kernel
theorem i_6_4 : a_ins 6 4 = some (.aload_n 0, 1, 0, 0, 0) := by decide +kernel
theorem i_6_5 : a_ins 6 5 = some (.getfield 10, 3, 0, 0, 0) := by decide +kernel
theorem i_6_8 : a_ins 6 8 = some (.invokevirtual 63, 3, 105, 2, 0) := by decide +kernel
theorem i_6_11 : a_ins 6 11 = some (.aload_n 0, 1, 0, 0, 0) := by decide +kernel
theorem i_6_12 : a_ins 6 12 = some (.getfield 26, 3, 0, 2, 0) := by decide +kernel
theorem i_6_15 : a_ins 6 15 = some (.aload_n 0, 1, 0, 0, 0) := by decide +kernel
theorem i_6_16 : a_ins 6 16 = some (.getfield 10, 3, 0, 0, 0) := by decide +kernel
theorem i_6_19 : a_ins 6 19 = some (.iload_n 1, 1, 0, 0, 0) := by decide +kernel
theorem i_6_20 : a_ins 6 20 = some (.invokevirtual 84, 3, 64, 2, 0) := by decide +kernel
theorem i_6_23 : a_ins 6 23 = some (.invokevirtual 67, 3, 106, 2, 0) := by decide +kernel
theorem i_6_26 : a_ins 6 26 = some (.ireturn, 1, 0, 0, 0) := by decide +kernel
theorem i_7_0 : a_ins 7 0 = some (.aload_n 0, 1, 0, 0, 0) := by decide +kernel
theorem i_7_1 : a_ins 7 1 = some (.getfield 26, 3, 0, 2, 0) := by decide +kernel
theorem i_7_4 : a_ins 7 4 = some (.aload_n 0, 1, 0, 0, 0) := by decide +kernel
theorem i_7_5 : a_ins 7 5 = some (.getfield 10, 3, 0, 0, 0) := by decide +kernel
theorem i_7_8 : a_ins 7 8 = some (.invokevirtual 63, 3, 105, 2, 0) := by decide +kernel
theorem i_7_11 : a_ins 7 11 = some (.aload_n 0, 1, 0, 0, 0) := by decide +kernel
theorem i_7_12 : a_ins 7 12 = some (.getfield 26, 3, 0, 2, 0) := by decide +kernel
theorem i_7_15 : a_ins 7 15 = some (.aload_n 0, 1, 0, 0, 0) := by decide +kernel
theorem i_7_16 : a_ins 7 16 = some (.getfield 10, 3, 0, 0, 0) := by decide +kernel
theorem i_7_19 : a_ins 7 19 = some (.iload_n 1, 1, 0, 0, 0) := by decide +kernel
theorem i_7_20 : a_ins 7 20 = some (.invokevirtual 87, 3, 66, 2, 0) := by decide +kernel
theorem i_7_23 : a_ins 7 23 = some (.invokevirtual 67, 3, 106, 2, 0) := by decide +kernel
theorem i_7_26 : a_ins 7 26 = some (.ireturn, 1, 0, 0, 0) := by decide +kernel
theorem i_8_0 : a_ins 8 0 = some (.aload_n 0, 1, 0, 0, 0) := by decide +kernel
theorem i_8_1 : a_ins 8 1 = some (.getfield 26, 3, 0, 2, 0) := by decide +kernel
theorem i_8_4 : a_ins 8 4 = some (.aload_n 0, 1, 0, 0, 0) := by decide +kernel
theorem i_8_5 : a_ins 8 5 = some (.getfield 10, 3, 0, 0, 0) := by decide +kernel
theorem i_8_8 : a_ins 8 8 = some (.invokevirtual 63, 3, 105, 2, 0) := by decide +kernel
theorem i_8_11 : a_ins 8 11 = some (.aload_n 0, 1, 0, 0, 0) := by decide +kernel
theorem i_8_12 : a_ins 8 12 = some (.getfield 26, 3, 0, 2, 0) := by decide +kernel
theorem i_8_15 : a_ins 8 15 = some (.aload_n 0, 1, 0, 0, 0) := by decide +kernel
theorem i_8_16 : a_ins 8 16 = some (.getfield 10, 3, 0, 0, 0) := by decide +kernel
theorem i_8_19 : a_ins 8 19 = some (.iload_n 1, 1, 0, 0, 0) := by decide +kernel
theorem i_8_20 : a_ins 8 20 = some (.invokevirtual 90, 3, 67, 2, 0) := by decide +kernel
theorem i_8_23 : a_ins 8 23 = some (.invokevirtual 67, 3, 106, 2, 0) := by decide +kernel
theorem i_8_26 : a_ins 8 26 = some (.ireturn, 1, 0, 0, 0) := by decide +kernel
theorem i_9_0 : a_ins 9 0 = some (.aload_n 0, 1, 0, 0, 0) := by decide +kernel
theorem i_9_1 : a_ins 9 1 = some (.getfield 26, 3, 0, 2, 0) := by decide +kernel
theorem i_9_4 : a_ins 9 4 = some (.aload_n 0, 1, 0, 0, 0) := by decide +kernel
theorem i_9_5 : a_ins 9 5 = some (.getfield 10, 3, 0, 0, 0) := by decide +kernel
theorem i_9_8 : a_ins 9 8 = some (.invokevirtual 63, 3, 105, 2, 0) := by decide +kernel
theorem i_9_11 : a_ins 9 11 = some (.aload_n 0, 1, 0, 0, 0) := by decide +kernel
theorem i_9_12 : a_ins 9 12 = some (.getfield 26, 3, 0, 2, 0) := by decide +kernel
theorem i_9_15 : a_ins 9 15 = some (.aload_n 0, 1, 0, 0, 0) := by decide +kernel
theorem i_9_16 : a_ins 9 16 = some (.getfield 10, 3, 0, 0, 0) := by decide +kernel
theorem i_9_19 : a_ins 9 19 = some (.iload_n 1, 1, 0, 0, 0) := by decide +kernel
theorem i_9_20 : a_ins 9 20 = some (.invokevirtual 93, 3, 70, 2, 0) := by decide +kernel
theorem i_9_23 : a_ins 9 23 = some (.invokevirtual 67, 3, 106, 2, 0) := by decide +kernel
theorem i_9_26 : a_ins 9 26 = some (.ireturn, 1, 0, 0, 0) := by decide +kernel
theorem i_10_0 : a_ins 10 0 = some (.aload_n 0, 1, 0, 0, 0) := by decide +kernel
theorem i_10_1 : a_ins 10 1 = some (.getfield 26, 3, 0, 2, 0) := by decide +kernel
theorem i_10_4 : a_ins 10 4 = some (.aload_n 0, 1, 0, 0, 0) := by decide +kernel
theorem i_10_5 : a_ins 10 5 = some (.getfield 10, 3, 0, 0, 0) := by decide +kernel
theorem i_10_8 : a_ins 10 8 = some (.invokevirtual 63, 3, 105, 2, 0) := by decide +kernel
theorem i_10_11 : a_ins 10 11 = some (.aload_n 0, 1, 0, 0, 0) := by decide +kernel
theorem i_10_12 : a_ins 10 12 = some (.getfield 26, 3, 0, 2, 0) := by decide +kernel
theorem i_10_15 : a_ins 10 15 = some (.aload_n 0, 1, 0, 0, 0) := by decide +kernel
theorem i_10_16 : a_ins 10 16 = some (.getfield 10, 3, 0, 0, 0) := by decide +kernel
theorem i_10_19 : a_ins 10 19 = some (.iload_n 1, 1, 0, 0, 0) := by decide +kernel
theorem i_10_20 : a_ins 10 20 = some (.invokevirtual 96, 3, 71, 2, 0) := by decide +kernel
theorem i_10_23 : a_ins 10 23 = some (.invokevirtual 67, 3, 106, 2, 0) := by decide +kernel
theorem i_10_26 : a_ins 10 26 = some (.ireturn, 1, 0, 0, 0) := by decide +kernel
theorem i_11_0 : a_ins 11 0 = some (.aload_n 0, 1, 0, 0, 0) := by decide +kernel
theorem i_11_1 : a_ins 11 1 = some (.getfield 26, 3, 0, 2, 0) := by decide +kernel
theorem i_11_4 : a_ins 11 4 = some (.aload_n 0, 1, 0, 0, 0) := by decide +kernel
theorem i_11_5 : a_ins 11 5 = some (.getfield 10, 3, 0, 0, 0) := by decide +kernel
theorem i_11_8 : a_ins 11 8 = some (.invokevirtual 63, 3, 105, 2, 0) := by decide +kernel
theorem i_11_11 : a_ins 11 11 = some (.aload_n 0, 1, 0, 0, 0) := by decide +kernel
theorem i_11_12 : a_ins 11 12 = some (.getfield 26, 3, 0, 2, 0) := by decide +kernel
theorem i_11_15 : a_ins 11 15 = some (.aload_n 0, 1, 0, 0, 0) := by decide +kernel
theorem i_11_16 : a_ins 11 16 = some (.getfield 10, 3, 0, 0, 0) := by decide +kernel
theorem i_11_19 : a_ins 11 19 = some (.iload_n 1, 1, 0, 0, 0) := by decide +kernel
theorem i_11_20 : a_ins 11 20 = some (.iload_n 2, 1, 0, 0, 0) := by decide +kernel
theorem i_11_21 : a_ins 11 21 = some (.invokevirtual 99, 3, 72, 3, 0) := by decide +kernel
theorem i_11_24 : a_ins 11 24 = some (.invokevirtual 67, 3, 106, 2, 0) := by decide +kernel
theorem i_11_27 : a_ins 11 27 = some (.ireturn, 1, 0, 0, 0) := by decide +kernel
theorem i_12_0 : a_ins 12 0 = some (.aload_n 0, 1, 0, 0, 0) := by decide +kernel
theorem i_12_1 : a_ins 12 1 = some (.getfield 26, 3, 0, 2, 0) := by decide +kernel
theorem i_12_4 : a_ins 12 4 = some (.aload_n 0, 1, 0, 0, 0) := by decide +kernel
theorem i_12_5 : a_ins 12 5 = some (.getfield 10, 3, 0, 0, 0) := by decide +kernel
theorem i_12_8 : a_ins 12 8 = some (.invokevirtual 63, 3, 105, 2, 0) := by decide +kernel
theorem i_12_11 : a_ins 12 11 = some (.aload_n 0, 1, 0, 0, 0) := by decide +kernel
theorem i_12_12 : a_ins 12 12 = some (.getfield 26, 3, 0, 2, 0) := by decide +kernel
theorem i_12_15 : a_ins 12 15 = some (.aload_n 0, 1, 0, 0, 0) := by decide +kernel
theorem i_12_16 : a_ins 12 16 = some (.getfield 10, 3, 0, 0, 0) := by decide +kernel
theorem i_12_19 : a_ins 12 19 = some (.iload_n 1, 1, 0, 0, 0) := by decide +kernel
theorem i_12_20 : a_ins 12 20 = some (.invokevirtual 102, 3, 80, 2, 0) := by decide +kernel
theorem i_12_23 : a_ins 12 23 = some (.invokevirtual 67, 3, 106, 2, 0) := by decide +kernel
theorem i_12_26 : a_ins 12 26 = some (.ireturn, 1, 0, 0, 0) := by decide +kernel
theorem i_13_0 : a_ins 13 0 = some (.aload_n 0, 1, 0, 0, 0) := by decide +kernel
theorem i_13_1 : a_ins 13 1 = some (.getfield 26, 3, 0, 2, 0) := by decide +kernel
theorem i_13_4 : a_ins 13 4 = some (.aload_n 0, 1, 0, 0, 0) := by decide +kernel
theorem i_13_5 : a_ins 13 5 = some (.getfield 10, 3, 0, 0, 0) := by decide +kernel
theorem i_13_8 : a_ins 13 8 = some (.invokevirtual 63, 3, 105, 2, 0) := by decide +kernel
theorem i_13_11 : a_ins 13 11 = some (.aload_n 0, 1, 0, 0, 0) := by decide +kernel
theorem i_13_12 : a_ins 13 12 = some (.getfield 26, 3, 0, 2, 0) := by decide +kernel
theorem i_13_15 : a_ins 13 15 = some (.aload_n 0, 1, 0, 0, 0) := by decide +kernel
theorem i_13_16 : a_ins 13 16 = some (.getfield 10, 3, 0, 0, 0) := by decide +kernel
theorem i_13_19 : a_ins 13 19 = some (.iload_n 1, 1, 0, 0, 0) := by decide +kernel
theorem i_13_20 : a_ins 13 20 = some (.invokevirtual 105, 3, 82, 2, 0) := by decide +kernel
theorem i_13_23 : a_ins 13 23 = some (.invokevirtual 67, 3, 106, 2, 0) := by decide +kernel
theorem i_13_26 : a_ins 13 26 = some (.ireturn, 1, 0, 0, 0) := by decide +kernel
theorem i_14_0 : a_ins 14 0 = some (.aload_n 0, 1, 0, 0, 0) := by decide +kernel
theorem i_14_1 : a_ins 14 1 = some (.getfield 10, 3, 0, 0, 0) := by decide +kernel
theorem i_14_4 : a_ins 14 4 = some (.iload_n 1, 1, 0, 0, 0) := by decide +kernel
theorem i_14_5 : a_ins 14 5 = some (.invokevirtual 108, 3, 53, 2, 0) := by decide +kernel
theorem i_14_8 : a_ins 14 8 = some (.ifCond .ne (6), 3, 14, 0, 0) := by decide +kernel
theorem i_14_11 : a_ins 14 11 = some (.bipush (-2), 2, 0, 0, -2) := by decide +kernel
theorem i_14_13 : a_ins 14 13 = some (.ireturn, 1, 0, 0, 0) := by decide +kernel
theorem i_14_14 : a_ins 14 14 = some (.iload_n 2, 1, 0, 0, 0) := by decide +kernel
theorem i_14_15 : a_ins 14 15 = some (.tableswitch (97) (0) (5) #[37, 47, 57, 67, 77, 87], 37, 0, 0, 0) := by decide +kernel
theorem i_14_52 : a_ins 14 52 = some (.aload_n 0, 1, 0, 0, 0) := by decide +kernel
theorem i_14_53 : a_ins 14 53 = some (.getfield 10, 3, 0, 0, 0) := by decide +kernel
theorem i_14_56 : a_ins 14 56 = some (.getfield 112, 3, 1, 5, 0) := by decide +kernel
theorem i_14_59 : a_ins 14 59 = some (.iload_n 1, 1, 0, 0, 0) := by decide +kernel
theorem i_14_60 : a_ins 14 60 = some (.iaload, 1, 0, 0, 0) := by decide +kernel
theorem i_14_61 : a_ins 14 61 = some (.ireturn, 1, 0, 0, 0) := by decide +kernel
theorem i_14_62 : a_ins 14 62 = some (.aload_n 0, 1, 0, 0, 0) := by decide +kernel
theorem i_14_63 : a_ins 14 63 = some (.getfield 10, 3, 0, 0, 0) := by decide +kernel
theorem i_14_66 : a_ins 14 66 = some (.getfield 116, 3, 1, 6, 0) := by decide +kernel
theorem i_14_69 : a_ins 14 69 = some (.iload_n 1, 1, 0, 0, 0) := by decide +kernel
theorem i_14_70 : a_ins 14 70 = some (.iaload, 1, 0, 0, 0) := by decide +kernel
theorem i_14_71 : a_ins 14 71 = some (.ireturn, 1, 0, 0, 0) := by decide +kernel
theorem i_14_72 : a_ins 14 72 = some (.aload_n 0, 1, 0, 0, 0) := by decide +kernel
theorem i_14_73 : a_ins 14 73 = some (.getfield 10, 3, 0, 0, 0) := by decide +kernel
theorem i_14_76 : a_ins 14 76 = some (.getfield 119, 3, 1, 7, 0) := by decide +kernel
theorem i_14_79 : a_ins 14 79 = some (.iload_n 1, 1, 0, 0, 0) := by decide +kernel
theorem i_14_80 : a_ins 14 80 = some (.iaload, 1, 0, 0, 0) := by decide +kernel
theorem i_14_81 : a_ins 14 81 = some (.ireturn, 1, 0, 0, 0) := by decide +kernel
theorem i_14_82 : a_ins 14 82 = some (.aload_n 0, 1, 0, 0, 0) := by decide +kernel
theorem i_14_83 : a_ins 14 83 = some (.getfield 10, 3, 0, 0, 0) := by decide +kernel
theorem i_14_86 : a_ins 14 86 = some (.getfield 122, 3, 1, 8, 0) := by decide +kernel
theorem i_14_89 : a_ins 14 89 = some (.iload_n 1, 1, 0, 0, 0) := by decide +kernel
theorem i_14_90 : a_ins 14 90 = some (.iaload, 1, 0, 0, 0) := by decide +kernel
theorem i_14_91 : a_ins 14 91 = some (.ireturn, 1, 0, 0, 0) := by decide +kernel
theorem i_14_92 : a_ins 14 92 = some (.aload_n 0, 1, 0, 0, 0) := by decide +kernel
theorem i_14_93 : a_ins 14 93 = some (.getfield 10, 3, 0, 0, 0) := by decide +kernel
theorem i_14_96 : a_ins 14 96 = some (.getfield 125, 3, 1, 9, 0) := by decide +kernel
theorem i_14_99 : a_ins 14 99 = some (.iload_n 1, 1, 0, 0, 0) := by decide +kernel
theorem i_14_100 : a_ins 14 100 = some (.iaload, 1, 0, 0, 0) := by decide +kernel
theorem i_14_101 : a_ins 14 101 = some (.ireturn, 1, 0, 0, 0) := by decide +kernel
theorem i_14_102 : a_ins 14 102 = some (.aload_n 0, 1, 0, 0, 0) := by decide +kernel
theorem i_14_103 : a_ins 14 103 = some (.getfield 10, 3, 0, 0, 0) := by decide +kernel
theorem i_14_106 : a_ins 14 106 = some (.getfield 128, 3, 1, 10, 0) := by decide +kernel
theorem i_14_109 : a_ins 14 109 = some (.iload_n 1, 1, 0, 0, 0) := by decide +kernel
theorem i_14_110 : a_ins 14 110 = some (.iaload, 1, 0, 0, 0) := by decide +kernel
theorem i_14_111 : a_ins 14 111 = some (.ireturn, 1, 0, 0, 0) := by decide +kernel
theorem i_14_112 : a_ins 14 112 = some (.bipush (-2), 2, 0, 0, -2) := by decide +kernel
theorem i_14_114 : a_ins 14 114 = some (.ireturn, 1, 0, 0, 0) := by decide +kernel
theorem i_15_0 : a_ins 15 0 = some (.aload_n 0, 1, 0, 0, 0) := by decide +kernel
theorem i_15_1 : a_ins 15 1 = some (.getfield 10, 3, 0, 0, 0) := by decide +kernel
theorem i_15_4 : a_ins 15 4 = some (.iload_n 1, 1, 0, 0, 0) := by decide +kernel
theorem i_15_5 : a_ins 15 5 = some (.invokevirtual 108, 3, 53, 2, 0) := by decide +kernel
theorem i_15_8 : a_ins 15 8 = some (.ifCond .ne (6), 3, 14, 0, 0) := by decide +kernel
theorem i_15_11 : a_ins 15 11 = some (.bipush (-2), 2, 0, 0, -2) := by decide +kernel
theorem i_15_13 : a_ins 15 13 = some (.ireturn, 1, 0, 0, 0) := by decide +kernel
theorem i_15_14 : a_ins 15 14 = some (.aload_n 0, 1, 0, 0, 0) := by decide +kernel
theorem i_15_15 : a_ins 15 15 = some (.getfield 10, 3, 0, 0, 0) := by decide +kernel
theorem i_15_18 : a_ins 15 18 = some (.getfield 116, 3, 1, 6, 0) := by decide +kernel
theorem i_15_21 : a_ins 15 21 = some (.iload_n 1, 1, 0, 0, 0) := by decide +kernel
theorem i_15_22 : a_ins 15 22 = some (.iaload, 1, 0, 0, 0) := by decide +kernel
theorem i_15_23 : a_ins 15 23 = some (.iconst (1), 1, 0, 0, 1) := by decide +kernel
theorem i_15_24 : a_ins 15 24 = some (.if_icmp .eq (6), 3, 30, 0, 0) := by decide +kernel
theorem i_15_27 : a_ins 15 27 = some (.bipush (-5), 2, 0, 0, -5) := by decide +kernel
theorem i_15_29 : a_ins 15 29 = some (.ireturn, 1, 0, 0, 0) := by decide +kernel
theorem i_15_30 : a_ins 15 30 = some (.aload_n 0, 1, 0, 0, 0) := by decide +kernel
theorem i_15_31 : a_ins 15 31 = some (.getfield 10, 3, 0, 0, 0) := by decide +kernel
theorem i_15_34 : a_ins 15 34 = some (.aload_n 0, 1, 0, 0, 0) := by decide +kernel
theorem i_15_35 : a_ins 15 35 = some (.getfield 10, 3, 0, 0, 0) := by decide +kernel
theorem i_15_38 : a_ins 15 38 = some (.aload_n 0, 1, 0, 0, 0) := by decide +kernel
theorem i_15_39 : a_ins 15 39 = some (.getfield 10, 3, 0, 0, 0) := by decide +kernel
theorem i_15_42 : a_ins 15 42 = some (.getfield 119, 3, 1, 7, 0) := by decide +kernel
theorem i_15_45 : a_ins 15 45 = some (.iload_n 1, 1, 0, 0, 0) := by decide +kernel
theorem i_15_46 : a_ins 15 46 = some (.iaload, 1, 0, 0, 0) := by decide +kernel
theorem i_15_47 : a_ins 15 47 = some (.invokevirtual 131, 3, 73, 2, 0) := by decide +kernel
theorem i_15_50 : a_ins 15 50 = some (.invokevirtual 134, 3, 85, 2, 0) := by decide +kernel
theorem i_15_53 : a_ins 15 53 = some (.ireturn, 1, 0, 0, 0) := by decide +kernel
theorem i_16_0 : a_ins 16 0 = some (.aload_n 0, 1, 0, 0, 0) := by decide +kernel
theorem i_16_1 : a_ins 16 1 = some (.iload_n 1, 1, 0, 0, 0) := by decide +kernel
theorem i_16_2 : a_ins 16 2 = some (.invokevirtual 137, 3, 15, 2, 0) := by decide +kernel
theorem i_16_5 : a_ins 16 5 = some (.istore_n 2, 1, 0, 0, 0) := by decide +kernel
theorem i_16_6 : a_ins 16 6 = some (.iload_n 2, 1, 0, 0, 0) := by decide +kernel
theorem i_16_7 : a_ins 16 7 = some (.ifCond .ge (5), 3, 12, 0, 0) := by decide +kernel
theorem i_16_10 : a_ins 16 10 = some (.iload_n 2, 1, 0, 0, 0) := by decide +kernel
theorem i_16_11 : a_ins 16 11 = some (.ireturn, 1, 0, 0, 0) := by decide +kernel
theorem i_16_12 : a_ins 16 12 = some (.aload_n 0, 1, 0, 0, 0) := by decide +kernel
theorem i_16_13 : a_ins 16 13 = some (.getfield 10, 3, 0, 0, 0) := by decide +kernel
theorem i_16_16 : a_ins 16 16 = some (.aload_n 0, 1, 0, 0, 0) := by decide +kernel
theorem i_16_17 : a_ins 16 17 = some (.getfield 10, 3, 0, 0, 0) := by decide +kernel
theorem i_16_20 : a_ins 16 20 = some (.getfield 119, 3, 1, 7, 0) := by decide +kernel
theorem i_16_23 : a_ins 16 23 = some (.iload_n 1, 1, 0, 0, 0) := by decide +kernel
theorem i_16_24 : a_ins 16 24 = some (.iaload, 1, 0, 0, 0) := by decide +kernel
theorem i_16_25 : a_ins 16 25 = some (.invokevirtual 131, 3, 73, 2, 0) := by decide +kernel
theorem i_16_28 : a_ins 16 28 = some (.invokestatic 140, 3, 265, 1, 0) := by decide +kernel
theorem i_16_31 : a_ins 16 31 = some (.iconst (1), 1, 0, 0, 1) := by decide +kernel
theorem i_16_32 : a_ins 16 32 = some (.isub, 1, 0, 0, 0) := by decide +kernel
theorem i_16_33 : a_ins 16 33 = some (.istore_n 3, 1, 0, 0, 0) := by decide +kernel
theorem i_16_34 : a_ins 16 34 = some (.iload_n 2, 1, 0, 0, 0) := by decide +kernel
theorem i_16_35 : a_ins 16 35 = some (.iconst (2), 1, 0, 0, 2) := by decide +kernel
theorem i_16_36 : a_ins 16 36 = some (.if_icmp .eq (8), 3, 44, 0, 0) := by decide +kernel
theorem i_16_39 : a_ins 16 39 = some (.iload_n 2, 1, 0, 0, 0) := by decide +kernel
theorem i_16_40 : a_ins 16 40 = some (.iconst (3), 1, 0, 0, 3) := by decide +kernel
theorem i_16_41 : a_ins 16 41 = some (.if_icmp .ne (9), 3, 50, 0, 0) := by decide +kernel
theorem i_16_44 : a_ins 16 44 = some (.iconst (2), 1, 0, 0, 2) := by decide +kernel
theorem i_16_45 : a_ins 16 45 = some (.iload_n 3, 1, 0, 0, 0) := by decide +kernel
theorem i_16_46 : a_ins 16 46 = some (.imul, 1, 0, 0, 0) := by decide +kernel
theorem i_16_47 : a_ins 16 47 = some (.goto (4), 3, 51, 0, 0) := by decide +kernel
theorem i_16_50 : a_ins 16 50 = some (.iload_n 3, 1, 0, 0, 0) := by decide +kernel
theorem i_16_51 : a_ins 16 51 = some (.ireturn, 1, 0, 0, 0) := by decide +kernel
theorem i_17_0 : a_ins 17 0 = some (.aload_n 0, 1, 0, 0, 0) := by decide +kernel
theorem i_17_1 : a_ins 17 1 = some (.getfield 10, 3, 0, 0, 0) := by decide +kernel
theorem i_17_4 : a_ins 17 4 = some (.aload_n 0, 1, 0, 0, 0) := by decide +kernel
theorem i_17_5 : a_ins 17 5 = some (.getfield 10, 3, 0, 0, 0) := by decide +kernel
theorem i_17_8 : a_ins 17 8 = some (.invokevirtual 145, 3, 68, 1, 0) := by decide +kernel
theorem i_17_11 : a_ins 17 11 = some (.invokevirtual 149, 3, 86, 2, 0) := by decide +kernel
theorem i_17_14 : a_ins 17 14 = some (.ireturn, 1, 0, 0, 0) := by decide +kernel
theorem i_18_0 : a_ins 18 0 = some (.aload_n 0, 1, 0, 0, 0) := by decide +kernel
theorem i_18_1 : a_ins 18 1 = some (.getfield 10, 3, 0, 0, 0) := by decide +kernel
theorem i_18_4 : a_ins 18 4 = some (.iload_n 1, 1, 0, 0, 0) := by decide +kernel
theorem i_18_5 : a_ins 18 5 = some (.invokevirtual 152, 3, 87, 2, 0) := by decide +kernel
theorem i_18_8 : a_ins 18 8 = some (.ifCond .eq (14), 3, 22, 0, 0) := by decide +kernel
theorem i_18_11 : a_ins 18 11 = some (.aload_n 0, 1, 0, 0, 0) := by decide +kernel
theorem i_18_12 : a_ins 18 12 = some (.getfield 10, 3, 0, 0, 0) := by decide +kernel
theorem i_18_15 : a_ins 18 15 = some (.iload_n 1, 1, 0, 0, 0) := by decide +kernel
theorem i_18_16 : a_ins 18 16 = some (.invokevirtual 134, 3, 85, 2, 0) := by decide +kernel
theorem i_18_19 : a_ins 18 19 = some (.goto (5), 3, 24, 0, 0) := by decide +kernel
theorem i_18_22 : a_ins 18 22 = some (.bipush (-2), 2, 0, 0, -2) := by decide +kernel
theorem i_18_24 : a_ins 18 24 = some (.ireturn, 1, 0, 0, 0) := by decide +kernel
theorem i_19_0 : a_ins 19 0 = some (.iconst (0), 1, 0, 0, 0) := by decide +kernel
theorem i_19_1 : a_ins 19 1 = some (.istore_n 1, 1, 0, 0, 0) := by decide +kernel
theorem i_19_2 : a_ins 19 2 = some (.aload_n 0, 1, 0, 0, 0) := by decide +kernel
theorem i_19_3 : a_ins 19 3 = some (.getfield 10, 3, 0, 0, 0) := by decide +kernel
theorem i_19_6 : a_ins 19 6 = some (.invokevirtual 155, 3, 47, 1, 0) := by decide +kernel
theorem i_19_9 : a_ins 19 9 = some (.istore_n 2, 1, 0, 0, 0) := by decide +kernel
theorem i_19_10 : a_ins 19 10 = some (.iconst (1), 1, 0, 0, 1) := by decide +kernel
theorem i_19_11 : a_ins 19 11 = some (.istore_n 3, 1, 0, 0, 0) := by decide +kernel
theorem i_19_12 : a_ins 19 12 = some (.iload_n 3, 1, 0, 0, 0) := by decide +kernel
theorem i_19_13 : a_ins 19 13 = some (.iload_n 2, 1, 0, 0, 0) := by decide +kernel
theorem i_19_14 : a_ins 19 14 = some (.if_icmp .gt (60), 3, 74, 0, 0) := by decide +kernel
theorem i_19_17 : a_ins 19 17 = some (.aload_n 0, 1, 0, 0, 0) := by decide +kernel
theorem i_19_18 : a_ins 19 18 = some (.getfield 10, 3, 0, 0, 0) := by decide +kernel
theorem i_19_21 : a_ins 19 21 = some (.iload_n 3, 1, 0, 0, 0) := by decide +kernel
theorem i_19_22 : a_ins 19 22 = some (.invokevirtual 158, 3, 88, 2, 0) := by decide +kernel
theorem i_19_25 : a_ins 19 25 = some (.ifCond .ne (6), 3, 31, 0, 0) := by decide +kernel
theorem i_19_28 : a_ins 19 28 = some (.goto (40), 3, 68, 0, 0) := by decide +kernel
theorem i_19_31 : a_ins 19 31 = some (.iconst (1), 1, 0, 0, 1) := by decide +kernel
theorem i_19_32 : a_ins 19 32 = some (.istore 4, 2, 0, 0, 0) := by decide +kernel
theorem i_19_34 : a_ins 19 34 = some (.iload 4, 2, 0, 0, 0) := by decide +kernel
theorem i_19_36 : a_ins 19 36 = some (.iload_n 2, 1, 0, 0, 0) := by decide +kernel
theorem i_19_37 : a_ins 19 37 = some (.if_icmp .gt (31), 3, 68, 0, 0) := by decide +kernel
theorem i_19_40 : a_ins 19 40 = some (.iload_n 3, 1, 0, 0, 0) := by decide +kernel
theorem i_19_41 : a_ins 19 41 = some (.iload 4, 2, 0, 0, 0) := by decide +kernel
theorem i_19_43 : a_ins 19 43 = some (.iand, 1, 0, 0, 0) := by decide +kernel
theorem i_19_44 : a_ins 19 44 = some (.ifCond .ne (18), 3, 62, 0, 0) := by decide +kernel
theorem i_19_47 : a_ins 19 47 = some (.aload_n 0, 1, 0, 0, 0) := by decide +kernel
theorem i_19_48 : a_ins 19 48 = some (.getfield 10, 3, 0, 0, 0) := by decide +kernel
theorem i_19_51 : a_ins 19 51 = some (.iload 4, 2, 0, 0, 0) := by decide +kernel
theorem i_19_53 : a_ins 19 53 = some (.invokevirtual 161, 3, 89, 2, 0) := by decide +kernel
theorem i_19_56 : a_ins 19 56 = some (.ifCond .eq (6), 3, 62, 0, 0) := by decide +kernel
theorem i_19_59 : a_ins 19 59 = some (.iinc 1 (1), 3, 0, 0, 1) := by decide +kernel
theorem i_19_62 : a_ins 19 62 = some (.iinc 4 (1), 3, 0, 0, 1) := by decide +kernel
theorem i_19_65 : a_ins 19 65 = some (.goto (-31), 3, 34, 0, 0) := by decide +kernel
theorem i_19_68 : a_ins 19 68 = some (.iinc 3 (1), 3, 0, 0, 1) := by decide +kernel
theorem i_19_71 : a_ins 19 71 = some (.goto (-59), 3, 12, 0, 0) := by decide +kernel
theorem i_19_74 : a_ins 19 74 = some (.iload_n 1, 1, 0, 0, 0) := by decide +kernel
theorem i_19_75 : a_ins 19 75 = some (.ireturn, 1, 0, 0, 0) := by decide +kernel
theorem i_20_0 : a_ins 20 0 = some (.iload_n 1, 1, 0, 0, 0) := by decide +kernel
theorem i_20_1 : a_ins 20 1 = some (.ifCond .lt (14), 3, 15, 0, 0) := by decide +kernel
theorem i_20_4 : a_ins 20 4 = some (.iload_n 1, 1, 0, 0, 0) := by decide +kernel
theorem i_20_5 : a_ins 20 5 = some (.aload_n 0, 1, 0, 0, 0) := by decide +kernel
theorem i_20_6 : a_ins 20 6 = some (.getfield 10, 3, 0, 0, 0) := by decide +kernel
theorem i_20_9 : a_ins 20 9 = some (.getfield 164, 3, 1, 0, 0) := by decide +kernel
theorem i_20_12 : a_ins 20 12 = some (.if_icmp .lt (6), 3, 18, 0, 0) := by decide +kernel
theorem i_20_15 : a_ins 20 15 = some (.bipush (-3), 2, 0, 0, -3) := by decide +kernel
theorem i_20_17 : a_ins 20 17 = some (.ireturn, 1, 0, 0, 0) := by decide +kernel
theorem i_20_18 : a_ins 20 18 = some (.aload_n 0, 1, 0, 0, 0) := by decide +kernel
theorem i_20_19 : a_ins 20 19 = some (.getfield 10, 3, 0, 0, 0) := by decide +kernel
theorem i_20_22 : a_ins 20 22 = some (.invokevirtual 145, 3, 68, 1, 0) := by decide +kernel
theorem i_20_25 : a_ins 20 25 = some (.istore_n 2, 1, 0, 0, 0) := by decide +kernel
theorem i_20_26 : a_ins 20 26 = some (.iconst (0), 1, 0, 0, 0) := by decide +kernel
theorem i_20_27 : a_ins 20 27 = some (.istore_n 3, 1, 0, 0, 0) := by decide +kernel
theorem i_20_28 : a_ins 20 28 = some (.iconst (0), 1, 0, 0, 0) := by decide +kernel
theorem i_20_29 : a_ins 20 29 = some (.istore 4, 2, 0, 0, 0) := by decide +kernel
theorem i_20_31 : a_ins 20 31 = some (.iload 4, 2, 0, 0, 0) := by decide +kernel
theorem i_20_33 : a_ins 20 33 = some (.iload_n 2, 1, 0, 0, 0) := by decide +kernel
theorem i_20_34 : a_ins 20 34 = some (.if_icmp .gt (58), 3, 92, 0, 0) := by decide +kernel
theorem i_20_37 : a_ins 20 37 = some (.iload 4, 2, 0, 0, 0) := by decide +kernel
theorem i_20_39 : a_ins 20 39 = some (.iload_n 2, 1, 0, 0, 0) := by decide +kernel
theorem i_20_40 : a_ins 20 40 = some (.iconst (-1), 1, 0, 0, -1) := by decide +kernel
theorem i_20_41 : a_ins 20 41 = some (.ixor, 1, 0, 0, 0) := by decide +kernel
theorem i_20_42 : a_ins 20 42 = some (.iand, 1, 0, 0, 0) := by decide +kernel
theorem i_20_43 : a_ins 20 43 = some (.ifCond .ne (16), 3, 59, 0, 0) := by decide +kernel
theorem i_20_46 : a_ins 20 46 = some (.iload 4, 2, 0, 0, 0) := by decide +kernel
theorem i_20_48 : a_ins 20 48 = some (.invokestatic 140, 3, 265, 1, 0) := by decide +kernel
theorem i_20_51 : a_ins 20 51 = some (.iload_n 1, 1, 0, 0, 0) := by decide +kernel
theorem i_20_52 : a_ins 20 52 = some (.if_icmp .ne (7), 3, 59, 0, 0) := by decide +kernel
theorem i_20_55 : a_ins 20 55 = some (.iconst (1), 1, 0, 0, 1) := by decide +kernel
theorem i_20_56 : a_ins 20 56 = some (.goto (4), 3, 60, 0, 0) := by decide +kernel
theorem i_20_59 : a_ins 20 59 = some (.iconst (0), 1, 0, 0, 0) := by decide +kernel
theorem i_20_60 : a_ins 20 60 = some (.istore 5, 2, 0, 0, 0) := by decide +kernel
theorem i_20_62 : a_ins 20 62 = some (.iload 5, 2, 0, 0, 0) := by decide +kernel
theorem i_20_64 : a_ins 20 64 = some (.ifCond .eq (22), 3, 86, 0, 0) := by decide +kernel
theorem i_20_67 : a_ins 20 67 = some (.aload_n 0, 1, 0, 0, 0) := by decide +kernel
theorem i_20_68 : a_ins 20 68 = some (.getfield 10, 3, 0, 0, 0) := by decide +kernel
theorem i_20_71 : a_ins 20 71 = some (.iload_n 2, 1, 0, 0, 0) := by decide +kernel
theorem i_20_72 : a_ins 20 72 = some (.iload 4, 2, 0, 0, 0) := by decide +kernel
theorem i_20_74 : a_ins 20 74 = some (.iconst (-1), 1, 0, 0, -1) := by decide +kernel
theorem i_20_75 : a_ins 20 75 = some (.ixor, 1, 0, 0, 0) := by decide +kernel
theorem i_20_76 : a_ins 20 76 = some (.iand, 1, 0, 0, 0) := by decide +kernel
theorem i_20_77 : a_ins 20 77 = some (.invokevirtual 149, 3, 86, 2, 0) := by decide +kernel
theorem i_20_80 : a_ins 20 80 = some (.ifCond .ne (6), 3, 86, 0, 0) := by decide +kernel
theorem i_20_83 : a_ins 20 83 = some (.iinc 3 (1), 3, 0, 0, 1) := by decide +kernel
theorem i_20_86 : a_ins 20 86 = some (.iinc 4 (1), 3, 0, 0, 1) := by decide +kernel
theorem i_20_89 : a_ins 20 89 = some (.goto (-58), 3, 31, 0, 0) := by decide +kernel
theorem i_20_92 : a_ins 20 92 = some (.iload_n 3, 1, 0, 0, 0) := by decide +kernel
theorem i_20_93 : a_ins 20 93 = some (.ireturn, 1, 0, 0, 0) := by decide +kernel
theorem i_21_0 : a_ins 21 0 = some (.iload_n 1, 1, 0, 0, 0) := by decide +kernel
theorem i_21_1 : a_ins 21 1 = some (.ifCond .lt (8), 3, 9, 0, 0) := by decide +kernel
theorem i_21_4 : a_ins 21 4 = some (.iload_n 1, 1, 0, 0, 0) := by decide +kernel
theorem i_21_5 : a_ins 21 5 = some (.iconst (3), 1, 0, 0, 3) := by decide +kernel
theorem i_21_6 : a_ins 21 6 = some (.if_icmp .le (6), 3, 12, 0, 0) := by decide +kernel
theorem i_21_9 : a_ins 21 9 = some (.bipush (-2), 2, 0, 0, -2) := by decide +kernel
theorem i_21_11 : a_ins 21 11 = some (.ireturn, 1, 0, 0, 0) := by decide +kernel
theorem i_21_12 : a_ins 21 12 = some (.iload_n 1, 1, 0, 0, 0) := by decide +kernel
theorem i_21_13 : a_ins 21 13 = some (.iconst (2), 1, 0, 0, 2) := by decide +kernel
theorem i_21_14 : a_ins 21 14 = some (.irem, 1, 0, 0, 0) := by decide +kernel
theorem i_21_15 : a_ins 21 15 = some (.ifCond .ne (13), 3, 28, 0, 0) := by decide +kernel
theorem i_21_18 : a_ins 21 18 = some (.aload_n 0, 1, 0, 0, 0) := by decide +kernel
theorem i_21_19 : a_ins 21 19 = some (.getfield 10, 3, 0, 0, 0) := by decide +kernel
theorem i_21_22 : a_ins 21 22 = some (.getfield 168, 3, 1, 3, 0) := by decide +kernel
theorem i_21_25 : a_ins 21 25 = some (.goto (10), 3, 35, 0, 0) := by decide +kernel
theorem i_21_28 : a_ins 21 28 = some (.aload_n 0, 1, 0, 0, 0) := by decide +kernel
theorem i_21_29 : a_ins 21 29 = some (.getfield 10, 3, 0, 0, 0) := by decide +kernel
theorem i_21_32 : a_ins 21 32 = some (.getfield 171, 3, 1, 4, 0) := by decide +kernel
theorem i_21_35 : a_ins 21 35 = some (.istore_n 2, 1, 0, 0, 0) := by decide +kernel
theorem i_21_36 : a_ins 21 36 = some (.iconst (0), 1, 0, 0, 0) := by decide +kernel
theorem i_21_37 : a_ins 21 37 = some (.istore_n 3, 1, 0, 0, 0) := by decide +kernel
theorem i_21_38 : a_ins 21 38 = some (.iconst (1), 1, 0, 0, 1) := by decide +kernel
theorem i_21_39 : a_ins 21 39 = some (.istore 4, 2, 0, 0, 0) := by decide +kernel
theorem i_21_41 : a_ins 21 41 = some (.iload 4, 2, 0, 0, 0) := by decide +kernel
theorem i_21_43 : a_ins 21 43 = some (.aload_n 0, 1, 0, 0, 0) := by decide +kernel
theorem i_21_44 : a_ins 21 44 = some (.getfield 10, 3, 0, 0, 0) := by decide +kernel
theorem i_21_47 : a_ins 21 47 = some (.invokevirtual 155, 3, 47, 1, 0) := by decide +kernel
theorem i_21_50 : a_ins 21 50 = some (.if_icmp .gt (43), 3, 93, 0, 0) := by decide +kernel
theorem i_21_53 : a_ins 21 53 = some (.aload_n 0, 1, 0, 0, 0) := by decide +kernel
theorem i_21_54 : a_ins 21 54 = some (.getfield 10, 3, 0, 0, 0) := by decide +kernel
theorem i_21_57 : a_ins 21 57 = some (.iload 4, 2, 0, 0, 0) := by decide +kernel
theorem i_21_59 : a_ins 21 59 = some (.invokevirtual 174, 3, 49, 2, 0) := by decide +kernel
theorem i_21_62 : a_ins 21 62 = some (.iload_n 2, 1, 0, 0, 0) := by decide +kernel
theorem i_21_63 : a_ins 21 63 = some (.if_icmp .lt (24), 3, 87, 0, 0) := by decide +kernel
theorem i_21_66 : a_ins 21 66 = some (.iload_n 1, 1, 0, 0, 0) := by decide +kernel
theorem i_21_67 : a_ins 21 67 = some (.iconst (2), 1, 0, 0, 2) := by decide +kernel
theorem i_21_68 : a_ins 21 68 = some (.if_icmp .lt (16), 3, 84, 0, 0) := by decide +kernel
theorem i_21_71 : a_ins 21 71 = some (.aload_n 0, 1, 0, 0, 0) := by decide +kernel
theorem i_21_72 : a_ins 21 72 = some (.getfield 10, 3, 0, 0, 0) := by decide +kernel
theorem i_21_75 : a_ins 21 75 = some (.iload 4, 2, 0, 0, 0) := by decide +kernel
theorem i_21_77 : a_ins 21 77 = some (.iload_n 2, 1, 0, 0, 0) := by decide +kernel
theorem i_21_78 : a_ins 21 78 = some (.invokevirtual 177, 3, 90, 3, 0) := by decide +kernel
theorem i_21_81 : a_ins 21 81 = some (.ifCond .eq (6), 3, 87, 0, 0) := by decide +kernel
theorem i_21_84 : a_ins 21 84 = some (.iinc 3 (1), 3, 0, 0, 1) := by decide +kernel
theorem i_21_87 : a_ins 21 87 = some (.iinc 4 (1), 3, 0, 0, 1) := by decide +kernel
theorem i_21_90 : a_ins 21 90 = some (.goto (-49), 3, 41, 0, 0) := by decide +kernel
theorem i_21_93 : a_ins 21 93 = some (.iload_n 3, 1, 0, 0, 0) := by decide +kernel
theorem i_21_94 : a_ins 21 94 = some (.ireturn, 1, 0, 0, 0) := by decide +kernel
theorem i_22_0 : a_ins 22 0 = some (.iload_n 3, 1, 0, 0, 0) := by decide +kernel
theorem i_22_1 : a_ins 22 1 = some (.ifCond .lt (8), 3, 9, 0, 0) := by decide +kernel
theorem i_22_4 : a_ins 22 4 = some (.iload_n 3, 1, 0, 0, 0) := by decide +kernel
theorem i_22_5 : a_ins 22 5 = some (.iconst (2), 1, 0, 0, 2) := by decide +kernel
theorem i_22_6 : a_ins 22 6 = some (.if_icmp .le (6), 3, 12, 0, 0) := by decide +kernel
theorem i_22_9 : a_ins 22 9 = some (.bipush (-2), 2, 0, 0, -2) := by decide +kernel
theorem i_22_11 : a_ins 22 11 = some (.ireturn, 1, 0, 0, 0) := by decide +kernel
theorem i_22_12 : a_ins 22 12 = some (.aload_n 0, 1, 0, 0, 0) := by decide +kernel
theorem i_22_13 : a_ins 22 13 = some (.getfield 20, 3, 0, 1, 0) := by decide +kernel
theorem i_22_16 : a_ins 22 16 = some (.aload_n 0, 1, 0, 0, 0) := by decide +kernel
theorem i_22_17 : a_ins 22 17 = some (.getfield 10, 3, 0, 0, 0) := by decide +kernel
theorem i_22_20 : a_ins 22 20 = some (.invokevirtual 181, 3, 50, 2, 0) := by decide +kernel
theorem i_22_23 : a_ins 22 23 = some (.aload_n 0, 1, 0, 0, 0) := by decide +kernel
theorem i_22_24 : a_ins 22 24 = some (.getfield 20, 3, 0, 1, 0) := by decide +kernel
theorem i_22_27 : a_ins 22 27 = some (.iload_n 1, 1, 0, 0, 0) := by decide +kernel
theorem i_22_28 : a_ins 22 28 = some (.iload_n 2, 1, 0, 0, 0) := by decide +kernel
theorem i_22_29 : a_ins 22 29 = some (.invokevirtual 99, 3, 72, 3, 0) := by decide +kernel
theorem i_22_32 : a_ins 22 32 = some (.istore 4, 2, 0, 0, 0) := by decide +kernel
theorem i_22_34 : a_ins 22 34 = some (.iload 4, 2, 0, 0, 0) := by decide +kernel
theorem i_22_36 : a_ins 22 36 = some (.ifCond .ge (6), 3, 42, 0, 0) := by decide +kernel
theorem i_22_39 : a_ins 22 39 = some (.iload 4, 2, 0, 0, 0) := by decide +kernel
theorem i_22_41 : a_ins 22 41 = some (.ireturn, 1, 0, 0, 0) := by decide +kernel
theorem i_22_42 : a_ins 22 42 = some (.iload_n 3, 1, 0, 0, 0) := by decide +kernel
theorem i_22_43 : a_ins 22 43 = some (.ifCond .ne (13), 3, 56, 0, 0) := by decide +kernel
theorem i_22_46 : a_ins 22 46 = some (.aload_n 0, 1, 0, 0, 0) := by decide +kernel
theorem i_22_47 : a_ins 22 47 = some (.getfield 20, 3, 0, 1, 0) := by decide +kernel
theorem i_22_50 : a_ins 22 50 = some (.bipush (48), 2, 0, 0, 48) := by decide +kernel
theorem i_22_52 : a_ins 22 52 = some (.invokevirtual 184, 3, 65, 2, 0) := by decide +kernel
theorem i_22_55 : a_ins 22 55 = some (.ireturn, 1, 0, 0, 0) := by decide +kernel
theorem i_22_56 : a_ins 22 56 = some (.iload_n 3, 1, 0, 0, 0) := by decide +kernel
theorem i_22_57 : a_ins 22 57 = some (.iconst (1), 1, 0, 0, 1) := by decide +kernel
theorem i_22_58 : a_ins 22 58 = some (.if_icmp .ne (11), 3, 69, 0, 0) := by decide +kernel
theorem i_22_61 : a_ins 22 61 = some (.aload_n 0, 1, 0, 0, 0) := by decide +kernel
theorem i_22_62 : a_ins 22 62 = some (.getfield 20, 3, 0, 1, 0) := by decide +kernel
theorem i_22_65 : a_ins 22 65 = some (.invokevirtual 145, 3, 68, 1, 0) := by decide +kernel
theorem i_22_68 : a_ins 22 68 = some (.ireturn, 1, 0, 0, 0) := by decide +kernel
theorem i_22_69 : a_ins 22 69 = some (.aload_n 0, 1, 0, 0, 0) := by decide +kernel
theorem i_22_70 : a_ins 22 70 = some (.getfield 20, 3, 0, 1, 0) := by decide +kernel
theorem i_22_73 : a_ins 22 73 = some (.aload_n 0, 1, 0, 0, 0) := by decide +kernel
theorem i_22_74 : a_ins 22 74 = some (.getfield 20, 3, 0, 1, 0) := by decide +kernel
theorem i_22_77 : a_ins 22 77 = some (.aload_n 0, 1, 0, 0, 0) := by decide +kernel
theorem i_22_78 : a_ins 22 78 = some (.getfield 20, 3, 0, 1, 0) := by decide +kernel
theorem i_22_81 : a_ins 22 81 = some (.getfield 119, 3, 1, 7, 0) := by decide +kernel
theorem i_22_84 : a_ins 22 84 = some (.iload_n 1, 1, 0, 0, 0) := by decide +kernel
theorem i_22_85 : a_ins 22 85 = some (.iaload, 1, 0, 0, 0) := by decide +kernel
theorem i_22_86 : a_ins 22 86 = some (.invokevirtual 131, 3, 73, 2, 0) := by decide +kernel
theorem i_22_89 : a_ins 22 89 = some (.invokevirtual 134, 3, 85, 2, 0) := by decide +kernel
theorem i_22_92 : a_ins 22 92 = some (.ireturn, 1, 0, 0, 0) := by decide +kernel
theorem i_23_0 : a_ins 23 0 = some (.iload_n 1, 1, 0, 0, 0) := by decide +kernel
theorem i_23_1 : a_ins 23 1 = some (.ifCond .lt (21), 3, 22, 0, 0) := by decide +kernel
theorem i_23_4 : a_ins 23 4 = some (.iload_n 1, 1, 0, 0, 0) := by decide +kernel
theorem i_23_5 : a_ins 23 5 = some (.sipush (9999), 3, 0, 0, 9999) := by decide +kernel
theorem i_23_8 : a_ins 23 8 = some (.if_icmp .gt (14), 3, 22, 0, 0) := by decide +kernel
theorem i_23_11 : a_ins 23 11 = some (.iload_n 2, 1, 0, 0, 0) := by decide +kernel
theorem i_23_12 : a_ins 23 12 = some (.iconst (1), 1, 0, 0, 1) := by decide +kernel
theorem i_23_13 : a_ins 23 13 = some (.if_icmp .lt (9), 3, 22, 0, 0) := by decide +kernel
theorem i_23_16 : a_ins 23 16 = some (.iload_n 2, 1, 0, 0, 0) := by decide +kernel
theorem i_23_17 : a_ins 23 17 = some (.bipush (40), 2, 0, 0, 40) := by decide +kernel
theorem i_23_19 : a_ins 23 19 = some (.if_icmp .le (6), 3, 25, 0, 0) := by decide +kernel
theorem i_23_22 : a_ins 23 22 = some (.bipush (-3), 2, 0, 0, -3) := by decide +kernel
theorem i_23_24 : a_ins 23 24 = some (.ireturn, 1, 0, 0, 0) := by decide +kernel
theorem i_23_25 : a_ins 23 25 = some (.iload_n 3, 1, 0, 0, 0) := by decide +kernel
theorem i_23_26 : a_ins 23 26 = some (.ifCond .lt (8), 3, 34, 0, 0) := by decide +kernel
theorem i_23_29 : a_ins 23 29 = some (.iload_n 3, 1, 0, 0, 0) := by decide +kernel
theorem i_23_30 : a_ins 23 30 = some (.iconst (2), 1, 0, 0, 2) := by decide +kernel
theorem i_23_31 : a_ins 23 31 = some (.if_icmp .le (6), 3, 37, 0, 0) := by decide +kernel
theorem i_23_34 : a_ins 23 34 = some (.bipush (-2), 2, 0, 0, -2) := by decide +kernel
theorem i_23_36 : a_ins 23 36 = some (.ireturn, 1, 0, 0, 0) := by decide +kernel
theorem i_23_37 : a_ins 23 37 = some (.aload_n 0, 1, 0, 0, 0) := by decide +kernel
theorem i_23_38 : a_ins 23 38 = some (.getfield 20, 3, 0, 1, 0) := by decide +kernel
theorem i_23_41 : a_ins 23 41 = some (.aload_n 0, 1, 0, 0, 0) := by decide +kernel
theorem i_23_42 : a_ins 23 42 = some (.getfield 10, 3, 0, 0, 0) := by decide +kernel
theorem i_23_45 : a_ins 23 45 = some (.invokevirtual 181, 3, 50, 2, 0) := by decide +kernel
theorem i_23_48 : a_ins 23 48 = some (.aload_n 0, 1, 0, 0, 0) := by decide +kernel
theorem i_23_49 : a_ins 23 49 = some (.getfield 52, 3, 0, 8, 0) := by decide +kernel
theorem i_23_52 : a_ins 23 52 = some (.iload_n 1, 1, 0, 0, 0) := by decide +kernel
theorem i_23_53 : a_ins 23 53 = some (.putfield 187, 3, 5, 0, 0) := by decide +kernel
theorem i_23_56 : a_ins 23 56 = some (.iconst (0), 1, 0, 0, 0) := by decide +kernel
theorem i_23_57 : a_ins 23 57 = some (.istore 4, 2, 0, 0, 0) := by decide +kernel
theorem i_23_59 : a_ins 23 59 = some (.iconst (0), 1, 0, 0, 0) := by decide +kernel
theorem i_23_60 : a_ins 23 60 = some (.istore 5, 2, 0, 0, 0) := by decide +kernel
theorem i_23_62 : a_ins 23 62 = some (.iload 5, 2, 0, 0, 0) := by decide +kernel
theorem i_23_64 : a_ins 23 64 = some (.iload_n 2, 1, 0, 0, 0) := by decide +kernel
theorem i_23_65 : a_ins 23 65 = some (.if_icmp .ge (19), 3, 84, 0, 0) := by decide +kernel
theorem i_23_68 : a_ins 23 68 = some (.aload_n 0, 1, 0, 0, 0) := by decide +kernel
theorem i_23_69 : a_ins 23 69 = some (.invokevirtual 190, 3, 24, 1, 0) := by decide +kernel
theorem i_23_72 : a_ins 23 72 = some (.ifCond .lt (6), 3, 78, 0, 0) := by decide +kernel
theorem i_23_75 : a_ins 23 75 = some (.iinc 4 (1), 3, 0, 0, 1) := by decide +kernel
theorem i_23_78 : a_ins 23 78 = some (.iinc 5 (1), 3, 0, 0, 1) := by decide +kernel
theorem i_23_81 : a_ins 23 81 = some (.goto (-19), 3, 62, 0, 0) := by decide +kernel
theorem i_23_84 : a_ins 23 84 = some (.iload_n 3, 1, 0, 0, 0) := by decide +kernel
theorem i_23_85 : a_ins 23 85 = some (.ifCond .ne (11), 3, 96, 0, 0) := by decide +kernel
theorem i_23_88 : a_ins 23 88 = some (.aload_n 0, 1, 0, 0, 0) := by decide +kernel
theorem i_23_89 : a_ins 23 89 = some (.getfield 20, 3, 0, 1, 0) := by decide +kernel
theorem i_23_92 : a_ins 23 92 = some (.invokevirtual 193, 3, 91, 1, 0) := by decide +kernel
theorem i_23_95 : a_ins 23 95 = some (.ireturn, 1, 0, 0, 0) := by decide +kernel
theorem i_23_96 : a_ins 23 96 = some (.iload_n 3, 1, 0, 0, 0) := by decide +kernel
theorem i_23_97 : a_ins 23 97 = some (.iconst (1), 1, 0, 0, 1) := by decide +kernel
theorem i_23_98 : a_ins 23 98 = some (.if_icmp .ne (13), 3, 111, 0, 0) := by decide +kernel
theorem i_23_101 : a_ins 23 101 = some (.aload_n 0, 1, 0, 0, 0) := by decide +kernel
theorem i_23_102 : a_ins 23 102 = some (.getfield 20, 3, 0, 1, 0) := by decide +kernel
theorem i_23_105 : a_ins 23 105 = some (.invokevirtual 145, 3, 68, 1, 0) := by decide +kernel
theorem i_23_108 : a_ins 23 108 = some (.goto (5), 3, 113, 0, 0) := by decide +kernel
theorem i_23_111 : a_ins 23 111 = some (.iload 4, 2, 0, 0, 0) := by decide +kernel
theorem i_23_113 : a_ins 23 113 = some (.ireturn, 1, 0, 0, 0) := by decide +kernel
theorem i_24_0 : a_ins 24 0 = some (.aload_n 0, 1, 0, 0, 0) := by decide +kernel
theorem i_24_1 : a_ins 24 1 = some (.getfield 52, 3, 0, 8, 0) := by decide +kernel
theorem i_24_4 : a_ins 24 4 = some (.bipush (8), 2, 0, 0, 8) := by decide +kernel
theorem i_24_6 : a_ins 24 6 = some (.invokevirtual 294, 3, 125, 2, 0) := by decide +kernel
theorem i_24_9 : a_ins 24 9 = some (.istore_n 1, 1, 0, 0, 0) := by decide +kernel
theorem i_24_10 : a_ins 24 10 = some (.iload_n 1, 1, 0, 0, 0) := by decide +kernel
theorem i_24_11 : a_ins 24 11 = some (.iconst (3), 1, 0, 0, 3) := by decide +kernel
theorem i_24_12 : a_ins 24 12 = some (.if_icmp .ge (49), 3, 61, 0, 0) := by decide +kernel
theorem i_24_15 : a_ins 24 15 = some (.aload_n 0, 1, 0, 0, 0) := by decide +kernel
theorem i_24_16 : a_ins 24 16 = some (.getfield 52, 3, 0, 8, 0) := by decide +kernel
theorem i_24_19 : a_ins 24 19 = some (.invokevirtual 297, 3, 126, 1, 0) := by decide +kernel
theorem i_24_22 : a_ins 24 22 = some (.istore_n 2, 1, 0, 0, 0) := by decide +kernel
theorem i_24_23 : a_ins 24 23 = some (.iload_n 1, 1, 0, 0, 0) := by decide +kernel
theorem i_24_24 : a_ins 24 24 = some (.ifCond .ne (12), 3, 36, 0, 0) := by decide +kernel
theorem i_24_27 : a_ins 24 27 = some (.aload_n 0, 1, 0, 0, 0) := by decide +kernel
theorem i_24_28 : a_ins 24 28 = some (.getfield 20, 3, 0, 1, 0) := by decide +kernel
theorem i_24_31 : a_ins 24 31 = some (.iload_n 2, 1, 0, 0, 0) := by decide +kernel
theorem i_24_32 : a_ins 24 32 = some (.invokevirtual 81, 3, 57, 2, 0) := by decide +kernel
theorem i_24_35 : a_ins 24 35 = some (.ireturn, 1, 0, 0, 0) := by decide +kernel
theorem i_24_36 : a_ins 24 36 = some (.iload_n 1, 1, 0, 0, 0) := by decide +kernel
theorem i_24_37 : a_ins 24 37 = some (.iconst (1), 1, 0, 0, 1) := by decide +kernel
theorem i_24_38 : a_ins 24 38 = some (.if_icmp .ne (14), 3, 52, 0, 0) := by decide +kernel
theorem i_24_41 : a_ins 24 41 = some (.aload_n 0, 1, 0, 0, 0) := by decide +kernel
theorem i_24_42 : a_ins 24 42 = some (.getfield 20, 3, 0, 1, 0) := by decide +kernel
theorem i_24_45 : a_ins 24 45 = some (.iload_n 2, 1, 0, 0, 0) := by decide +kernel
theorem i_24_46 : a_ins 24 46 = some (.invokevirtual 84, 3, 64, 2, 0) := by decide +kernel
theorem i_24_49 : a_ins 24 49 = some (.goto (11), 3, 60, 0, 0) := by decide +kernel
theorem i_24_52 : a_ins 24 52 = some (.aload_n 0, 1, 0, 0, 0) := by decide +kernel
theorem i_24_53 : a_ins 24 53 = some (.getfield 20, 3, 0, 1, 0) := by decide +kernel
theorem i_24_56 : a_ins 24 56 = some (.iload_n 2, 1, 0, 0, 0) := by decide +kernel
theorem i_24_57 : a_ins 24 57 = some (.invokevirtual 87, 3, 66, 2, 0) := by decide +kernel
theorem i_24_60 : a_ins 24 60 = some (.ireturn, 1, 0, 0, 0) := by decide +kernel
theorem i_24_61 : a_ins 24 61 = some (.aload_n 0, 1, 0, 0, 0) := by decide +kernel
theorem i_24_62 : a_ins 24 62 = some (.getfield 52, 3, 0, 8, 0) := by decide +kernel
theorem i_24_65 : a_ins 24 65 = some (.aload_n 0, 1, 0, 0, 0) := by decide +kernel
theorem i_24_66 : a_ins 24 66 = some (.getfield 20, 3, 0, 1, 0) := by decide +kernel
theorem i_24_69 : a_ins 24 69 = some (.getfield 164, 3, 1, 0, 0) := by decide +kernel
theorem i_24_72 : a_ins 24 72 = some (.invokevirtual 294, 3, 125, 2, 0) := by decide +kernel
theorem i_24_75 : a_ins 24 75 = some (.istore_n 2, 1, 0, 0, 0) := by decide +kernel
theorem i_24_76 : a_ins 24 76 = some (.iload_n 1, 1, 0, 0, 0) := by decide +kernel
theorem i_24_77 : a_ins 24 77 = some (.tableswitch (54) (3) (5) #[27, 36, 45], 27, 0, 0, 0) := by decide +kernel
theorem i_24_104 : a_ins 24 104 = some (.aload_n 0, 1, 0, 0, 0) := by decide +kernel
theorem i_24_105 : a_ins 24 105 = some (.getfield 20, 3, 0, 1, 0) := by decide +kernel
theorem i_24_108 : a_ins 24 108 = some (.iload_n 2, 1, 0, 0, 0) := by decide +kernel
theorem i_24_109 : a_ins 24 109 = some (.invokevirtual 90, 3, 67, 2, 0) := by decide +kernel
theorem i_24_112 : a_ins 24 112 = some (.ireturn, 1, 0, 0, 0) := by decide +kernel
theorem i_24_113 : a_ins 24 113 = some (.aload_n 0, 1, 0, 0, 0) := by decide +kernel
theorem i_24_114 : a_ins 24 114 = some (.getfield 20, 3, 0, 1, 0) := by decide +kernel
theorem i_24_117 : a_ins 24 117 = some (.iload_n 2, 1, 0, 0, 0) := by decide +kernel
theorem i_24_118 : a_ins 24 118 = some (.invokevirtual 93, 3, 70, 2, 0) := by decide +kernel
theorem i_24_121 : a_ins 24 121 = some (.ireturn, 1, 0, 0, 0) := by decide +kernel
theorem i_24_122 : a_ins 24 122 = some (.aload_n 0, 1, 0, 0, 0) := by decide +kernel
theorem i_24_123 : a_ins 24 123 = some (.getfield 20, 3, 0, 1, 0) := by decide +kernel
theorem i_24_126 : a_ins 24 126 = some (.iload_n 2, 1, 0, 0, 0) := by decide +kernel
theorem i_24_127 : a_ins 24 127 = some (.invokevirtual 102, 3, 80, 2, 0) := by decide +kernel
theorem i_24_130 : a_ins 24 130 = some (.ireturn, 1, 0, 0, 0) := by decide +kernel
theorem i_24_131 : a_ins 24 131 = some (.aload_n 0, 1, 0, 0, 0) := by decide +kernel
theorem i_24_132 : a_ins 24 132 = some (.getfield 20, 3, 0, 1, 0) := by decide +kernel
theorem i_24_135 : a_ins 24 135 = some (.iload_n 2, 1, 0, 0, 0) := by decide +kernel
theorem i_24_136 : a_ins 24 136 = some (.aload_n 0, 1, 0, 0, 0) := by decide +kernel
theorem i_24_137 : a_ins 24 137 = some (.getfield 52, 3, 0, 8, 0) := by decide +kernel
theorem i_24_140 : a_ins 24 140 = some (.invokevirtual 297, 3, 126, 1, 0) := by decide +kernel
theorem i_24_143 : a_ins 24 143 = some (.invokevirtual 99, 3, 72, 3, 0) := by decide +kernel
theorem i_24_146 : a_ins 24 146 = some (.ireturn, 1, 0, 0, 0) := by decide +kernel
theorem i_25_0 : a_ins 25 0 = some (.aload_n 0, 1, 0, 0, 0) := by decide +kernel
theorem i_25_1 : a_ins 25 1 = some (.getfield 10, 3, 0, 0, 0) := by decide +kernel
theorem i_25_4 : a_ins 25 4 = some (.iload_n 1, 1, 0, 0, 0) := by decide +kernel
theorem i_25_5 : a_ins 25 5 = some (.invokevirtual 152, 3, 87, 2, 0) := by decide +kernel
theorem i_25_8 : a_ins 25 8 = some (.ifCond .eq (14), 3, 22, 0, 0) := by decide +kernel
theorem i_25_11 : a_ins 25 11 = some (.aload_n 0, 1, 0, 0, 0) := by decide +kernel
theorem i_25_12 : a_ins 25 12 = some (.getfield 10, 3, 0, 0, 0) := by decide +kernel
theorem i_25_15 : a_ins 25 15 = some (.iload_n 1, 1, 0, 0, 0) := by decide +kernel
theorem i_25_16 : a_ins 25 16 = some (.invokevirtual 196, 3, 84, 2, 0) := by decide +kernel
theorem i_25_19 : a_ins 25 19 = some (.goto (5), 3, 24, 0, 0) := by decide +kernel
theorem i_25_22 : a_ins 25 22 = some (.bipush (-2), 2, 0, 0, -2) := by decide +kernel
theorem i_25_24 : a_ins 25 24 = some (.ireturn, 1, 0, 0, 0) := by decide +kernel
theorem i_26_0 : a_ins 26 0 = some (.iconst (-1), 1, 0, 0, -1) := by decide +kernel
theorem i_26_1 : a_ins 26 1 = some (.istore_n 1, 1, 0, 0, 0) := by decide +kernel
theorem i_26_2 : a_ins 26 2 = some (.bipush (6), 2, 0, 0, 6) := by decide +kernel
theorem i_26_4 : a_ins 26 4 = some (.istore_n 2, 1, 0, 0, 0) := by decide +kernel
theorem i_26_5 : a_ins 26 5 = some (.iconst (1), 1, 0, 0, 1) := by decide +kernel
theorem i_26_6 : a_ins 26 6 = some (.istore_n 3, 1, 0, 0, 0) := by decide +kernel
theorem i_26_7 : a_ins 26 7 = some (.iload_n 3, 1, 0, 0, 0) := by decide +kernel
theorem i_26_8 : a_ins 26 8 = some (.aload_n 0, 1, 0, 0, 0) := by decide +kernel
theorem i_26_9 : a_ins 26 9 = some (.getfield 10, 3, 0, 0, 0) := by decide +kernel
theorem i_26_12 : a_ins 26 12 = some (.invokevirtual 155, 3, 47, 1, 0) := by decide +kernel
theorem i_26_15 : a_ins 26 15 = some (.if_icmp .gt (35), 3, 50, 0, 0) := by decide +kernel
theorem i_26_18 : a_ins 26 18 = some (.iload_n 3, 1, 0, 0, 0) := by decide +kernel
theorem i_26_19 : a_ins 26 19 = some (.invokestatic 140, 3, 265, 1, 0) := by decide +kernel
theorem i_26_22 : a_ins 26 22 = some (.iload_n 2, 1, 0, 0, 0) := by decide +kernel
theorem i_26_23 : a_ins 26 23 = some (.if_icmp .ge (21), 3, 44, 0, 0) := by decide +kernel
theorem i_26_26 : a_ins 26 26 = some (.aload_n 0, 1, 0, 0, 0) := by decide +kernel
theorem i_26_27 : a_ins 26 27 = some (.getfield 10, 3, 0, 0, 0) := by decide +kernel
theorem i_26_30 : a_ins 26 30 = some (.iload_n 3, 1, 0, 0, 0) := by decide +kernel
theorem i_26_31 : a_ins 26 31 = some (.invokevirtual 199, 3, 83, 2, 0) := by decide +kernel
theorem i_26_34 : a_ins 26 34 = some (.ifCond .eq (10), 3, 44, 0, 0) := by decide +kernel
theorem i_26_37 : a_ins 26 37 = some (.iload_n 3, 1, 0, 0, 0) := by decide +kernel
theorem i_26_38 : a_ins 26 38 = some (.istore_n 1, 1, 0, 0, 0) := by decide +kernel
theorem i_26_39 : a_ins 26 39 = some (.iload_n 3, 1, 0, 0, 0) := by decide +kernel
theorem i_26_40 : a_ins 26 40 = some (.invokestatic 140, 3, 265, 1, 0) := by decide +kernel
theorem i_26_43 : a_ins 26 43 = some (.istore_n 2, 1, 0, 0, 0) := by decide +kernel
theorem i_26_44 : a_ins 26 44 = some (.iinc 3 (1), 3, 0, 0, 1) := by decide +kernel
theorem i_26_47 : a_ins 26 47 = some (.goto (-40), 3, 7, 0, 0) := by decide +kernel
theorem i_26_50 : a_ins 26 50 = some (.iload_n 1, 1, 0, 0, 0) := by decide +kernel
theorem i_26_51 : a_ins 26 51 = some (.ireturn, 1, 0, 0, 0) := by decide +kernel
theorem i_27_0 : a_ins 27 0 = some (.iload_n 1, 1, 0, 0, 0) := by decide +kernel
theorem i_27_1 : a_ins 27 1 = some (.tableswitch (77) (0) (3) #[31, 41, 51, 59], 31, 0, 0, 0) := by decide +kernel
theorem i_27_32 : a_ins 27 32 = some (.aload_n 0, 1, 0, 0, 0) := by decide +kernel
theorem i_27_33 : a_ins 27 33 = some (.getfield 10, 3, 0, 0, 0) := by decide +kernel
theorem i_27_36 : a_ins 27 36 = some (.bipush (16), 2, 0, 0, 16) := by decide +kernel
theorem i_27_38 : a_ins 27 38 = some (.invokevirtual 184, 3, 65, 2, 0) := by decide +kernel
theorem i_27_41 : a_ins 27 41 = some (.ireturn, 1, 0, 0, 0) := by decide +kernel
theorem i_27_42 : a_ins 27 42 = some (.aload_n 0, 1, 0, 0, 0) := by decide +kernel
theorem i_27_43 : a_ins 27 43 = some (.getfield 10, 3, 0, 0, 0) := by decide +kernel
theorem i_27_46 : a_ins 27 46 = some (.bipush (32), 2, 0, 0, 32) := by decide +kernel
theorem i_27_48 : a_ins 27 48 = some (.invokevirtual 184, 3, 65, 2, 0) := by decide +kernel
theorem i_27_51 : a_ins 27 51 = some (.ireturn, 1, 0, 0, 0) := by decide +kernel
theorem i_27_52 : a_ins 27 52 = some (.aload_n 0, 1, 0, 0, 0) := by decide +kernel
theorem i_27_53 : a_ins 27 53 = some (.getfield 10, 3, 0, 0, 0) := by decide +kernel
theorem i_27_56 : a_ins 27 56 = some (.invokevirtual 145, 3, 68, 1, 0) := by decide +kernel
theorem i_27_59 : a_ins 27 59 = some (.ireturn, 1, 0, 0, 0) := by decide +kernel
theorem i_27_60 : a_ins 27 60 = some (.aload_n 0, 1, 0, 0, 0) := by decide +kernel
theorem i_27_61 : a_ins 27 61 = some (.getfield 10, 3, 0, 0, 0) := by decide +kernel
theorem i_27_64 : a_ins 27 64 = some (.bipush (48), 2, 0, 0, 48) := by decide +kernel
theorem i_27_66 : a_ins 27 66 = some (.invokevirtual 184, 3, 65, 2, 0) := by decide +kernel
theorem i_27_69 : a_ins 27 69 = some (.aload_n 0, 1, 0, 0, 0) := by decide +kernel
theorem i_27_70 : a_ins 27 70 = some (.getfield 10, 3, 0, 0, 0) := by decide +kernel
theorem i_27_73 : a_ins 27 73 = some (.invokevirtual 145, 3, 68, 1, 0) := by decide +kernel
theorem i_27_76 : a_ins 27 76 = some (.iand, 1, 0, 0, 0) := by decide +kernel
theorem i_27_77 : a_ins 27 77 = some (.ireturn, 1, 0, 0, 0) := by decide +kernel
theorem i_27_78 : a_ins 27 78 = some (.bipush (-2), 2, 0, 0, -2) := by decide +kernel
theorem i_27_80 : a_ins 27 80 = some (.ireturn, 1, 0, 0, 0) := by decide +kernel
theorem i_28_0 : a_ins 28 0 = some (.iload_n 1, 1, 0, 0, 0) := by decide +kernel
theorem i_28_1 : a_ins 28 1 = some (.ifCond .lt (8), 3, 9, 0, 0) := by decide +kernel
theorem i_28_4 : a_ins 28 4 = some (.iload_n 1, 1, 0, 0, 0) := by decide +kernel
theorem i_28_5 : a_ins 28 5 = some (.iconst (1), 1, 0, 0, 1) := by decide +kernel
theorem i_28_6 : a_ins 28 6 = some (.if_icmp .le (6), 3, 12, 0, 0) := by decide +kernel
theorem i_28_9 : a_ins 28 9 = some (.bipush (-3), 2, 0, 0, -3) := by decide +kernel
theorem i_28_11 : a_ins 28 11 = some (.ireturn, 1, 0, 0, 0) := by decide +kernel
theorem i_28_12 : a_ins 28 12 = some (.iload_n 2, 1, 0, 0, 0) := by decide +kernel
theorem i_28_13 : a_ins 28 13 = some (.ifCond .lt (8), 3, 21, 0, 0) := by decide +kernel
theorem i_28_16 : a_ins 28 16 = some (.iload_n 2, 1, 0, 0, 0) := by decide +kernel
theorem i_28_17 : a_ins 28 17 = some (.iconst (3), 1, 0, 0, 3) := by decide +kernel
theorem i_28_18 : a_ins 28 18 = some (.if_icmp .le (6), 3, 24, 0, 0) := by decide +kernel
theorem i_28_21 : a_ins 28 21 = some (.bipush (-2), 2, 0, 0, -2) := by decide +kernel
theorem i_28_23 : a_ins 28 23 = some (.ireturn, 1, 0, 0, 0) := by decide +kernel
theorem i_28_24 : a_ins 28 24 = some (.aload_n 0, 1, 0, 0, 0) := by decide +kernel
theorem i_28_25 : a_ins 28 25 = some (.getfield 10, 3, 0, 0, 0) := by decide +kernel
theorem i_28_28 : a_ins 28 28 = some (.getfield 164, 3, 1, 0, 0) := by decide +kernel
theorem i_28_31 : a_ins 28 31 = some (.iconst (3), 1, 0, 0, 3) := by decide +kernel
theorem i_28_32 : a_ins 28 32 = some (.if_icmp .le (6), 3, 38, 0, 0) := by decide +kernel
theorem i_28_35 : a_ins 28 35 = some (.bipush (-5), 2, 0, 0, -5) := by decide +kernel
theorem i_28_37 : a_ins 28 37 = some (.ireturn, 1, 0, 0, 0) := by decide +kernel
theorem i_28_38 : a_ins 28 38 = some (.aload_n 0, 1, 0, 0, 0) := by decide +kernel
theorem i_28_39 : a_ins 28 39 = some (.iload_n 1, 1, 0, 0, 0) := by decide +kernel
theorem i_28_40 : a_ins 28 40 = some (.invokevirtual 202, 3, 29, 2, 0) := by decide +kernel
theorem i_28_43 : a_ins 28 43 = some (.astore_n 3, 1, 0, 0, 0) := by decide +kernel
theorem i_28_44 : a_ins 28 44 = some (.iload_n 2, 1, 0, 0, 0) := by decide +kernel
theorem i_28_45 : a_ins 28 45 = some (.tableswitch (42) (0) (2) #[27, 32, 37], 27, 0, 0, 0) := by decide +kernel
theorem i_28_72 : a_ins 28 72 = some (.aload_n 3, 1, 0, 0, 0) := by decide +kernel
theorem i_28_73 : a_ins 28 73 = some (.getfield 206, 3, 7, 5, 0) := by decide +kernel
theorem i_28_76 : a_ins 28 76 = some (.ireturn, 1, 0, 0, 0) := by decide +kernel
theorem i_28_77 : a_ins 28 77 = some (.aload_n 3, 1, 0, 0, 0) := by decide +kernel
theorem i_28_78 : a_ins 28 78 = some (.getfield 211, 3, 7, 6, 0) := by decide +kernel
theorem i_28_81 : a_ins 28 81 = some (.ireturn, 1, 0, 0, 0) := by decide +kernel
theorem i_28_82 : a_ins 28 82 = some (.aload_n 3, 1, 0, 0, 0) := by decide +kernel
theorem i_28_83 : a_ins 28 83 = some (.getfield 214, 3, 7, 4, 0) := by decide +kernel
theorem i_28_86 : a_ins 28 86 = some (.ireturn, 1, 0, 0, 0) := by decide +kernel
theorem i_28_87 : a_ins 28 87 = some (.aload_n 3, 1, 0, 0, 0) := by decide +kernel
theorem i_28_88 : a_ins 28 88 = some (.getfield 217, 3, 7, 7, 0) := by decide +kernel
theorem i_28_91 : a_ins 28 91 = some (.ireturn, 1, 0, 0, 0) := by decide +kernel
theorem i_29_0 : a_ins 29 0 = some (.iload_n 1, 1, 0, 0, 0) := by decide +kernel
theorem i_29_1 : a_ins 29 1 = some (.iconst (1), 1, 0, 0, 1) := by decide +kernel
theorem i_29_2 : a_ins 29 2 = some (.if_icmp .ne (13), 3, 15, 0, 0) := by decide +kernel
theorem i_29_5 : a_ins 29 5 = some (.aload_n 0, 1, 0, 0, 0) := by decide +kernel
theorem i_29_6 : a_ins 29 6 = some (.getfield 59, 3, 0, 9, 0) := by decide +kernel
theorem i_29_9 : a_ins 29 9 = some (.getfield 300, 3, 6, 9, 0) := by decide +kernel
theorem i_29_12 : a_ins 29 12 = some (.goto (10), 3, 22, 0, 0) := by decide +kernel
theorem i_29_15 : a_ins 29 15 = some (.aload_n 0, 1, 0, 0, 0) := by decide +kernel
theorem i_29_16 : a_ins 29 16 = some (.getfield 59, 3, 0, 9, 0) := by decide +kernel
theorem i_29_19 : a_ins 29 19 = some (.getfield 304, 3, 6, 8, 0) := by decide +kernel
theorem i_29_22 : a_ins 29 22 = some (.astore_n 2, 1, 0, 0, 0) := by decide +kernel
theorem i_29_23 : a_ins 29 23 = some (.aload_n 0, 1, 0, 0, 0) := by decide +kernel
theorem i_29_24 : a_ins 29 24 = some (.getfield 10, 3, 0, 0, 0) := by decide +kernel
theorem i_29_27 : a_ins 29 27 = some (.invokevirtual 307, 3, 92, 1, 0) := by decide +kernel
theorem i_29_30 : a_ins 29 30 = some (.istore_n 3, 1, 0, 0, 0) := by decide +kernel
theorem i_29_31 : a_ins 29 31 = some (.aload_n 2, 1, 0, 0, 0) := by decide +kernel
theorem i_29_32 : a_ins 29 32 = some (.getfield 310, 3, 7, 0, 0) := by decide +kernel
theorem i_29_35 : a_ins 29 35 = some (.iload_n 3, 1, 0, 0, 0) := by decide +kernel
theorem i_29_36 : a_ins 29 36 = some (.if_icmp .eq (80), 3, 116, 0, 0) := by decide +kernel
theorem i_29_39 : a_ins 29 39 = some (.aload_n 0, 1, 0, 0, 0) := by decide +kernel
theorem i_29_40 : a_ins 29 40 = some (.getfield 59, 3, 0, 9, 0) := by decide +kernel
theorem i_29_43 : a_ins 29 43 = some (.aload_n 0, 1, 0, 0, 0) := by decide +kernel
theorem i_29_44 : a_ins 29 44 = some (.getfield 10, 3, 0, 0, 0) := by decide +kernel
theorem i_29_47 : a_ins 29 47 = some (.aload_n 2, 1, 0, 0, 0) := by decide +kernel
theorem i_29_48 : a_ins 29 48 = some (.invokevirtual 313, 3, 128, 3, 0) := by decide +kernel
theorem i_29_51 : a_ins 29 51 = some (.iconst (0), 1, 0, 0, 0) := by decide +kernel
theorem i_29_52 : a_ins 29 52 = some (.istore 4, 2, 0, 0, 0) := by decide +kernel
theorem i_29_54 : a_ins 29 54 = some (.iload 4, 2, 0, 0, 0) := by decide +kernel
theorem i_29_56 : a_ins 29 56 = some (.sipush (4096), 3, 0, 0, 4096) := by decide +kernel
theorem i_29_59 : a_ins 29 59 = some (.if_icmp .ge (52), 3, 111, 0, 0) := by decide +kernel
theorem i_29_62 : a_ins 29 62 = some (.aload_n 0, 1, 0, 0, 0) := by decide +kernel
theorem i_29_63 : a_ins 29 63 = some (.getfield 59, 3, 0, 9, 0) := by decide +kernel
theorem i_29_66 : a_ins 29 66 = some (.invokevirtual 317, 3, 131, 1, 0) := by decide +kernel
theorem i_29_69 : a_ins 29 69 = some (.ifCond .eq (42), 3, 111, 0, 0) := by decide +kernel
theorem i_29_72 : a_ins 29 72 = some (.aload_n 0, 1, 0, 0, 0) := by decide +kernel
theorem i_29_73 : a_ins 29 73 = some (.getfield 59, 3, 0, 9, 0) := by decide +kernel
theorem i_29_76 : a_ins 29 76 = some (.invokevirtual 321, 3, 132, 1, 0) := by decide +kernel
theorem i_29_79 : a_ins 29 79 = some (.aload_n 0, 1, 0, 0, 0) := by decide +kernel
theorem i_29_80 : a_ins 29 80 = some (.getfield 59, 3, 0, 9, 0) := by decide +kernel
theorem i_29_83 : a_ins 29 83 = some (.invokevirtual 324, 3, 135, 1, 0) := by decide +kernel
theorem i_29_86 : a_ins 29 86 = some (.aload_n 0, 1, 0, 0, 0) := by decide +kernel
theorem i_29_87 : a_ins 29 87 = some (.getfield 59, 3, 0, 9, 0) := by decide +kernel
theorem i_29_90 : a_ins 29 90 = some (.invokevirtual 327, 3, 136, 1, 0) := by decide +kernel
theorem i_29_93 : a_ins 29 93 = some (.iload_n 1, 1, 0, 0, 0) := by decide +kernel
theorem i_29_94 : a_ins 29 94 = some (.iconst (1), 1, 0, 0, 1) := by decide +kernel
theorem i_29_95 : a_ins 29 95 = some (.if_icmp .ne (10), 3, 105, 0, 0) := by decide +kernel
theorem i_29_98 : a_ins 29 98 = some (.aload_n 0, 1, 0, 0, 0) := by decide +kernel
theorem i_29_99 : a_ins 29 99 = some (.getfield 59, 3, 0, 9, 0) := by decide +kernel
theorem i_29_102 : a_ins 29 102 = some (.invokevirtual 330, 3, 137, 1, 0) := by decide +kernel
theorem i_29_105 : a_ins 29 105 = some (.iinc 4 (1), 3, 0, 0, 1) := by decide +kernel
theorem i_29_108 : a_ins 29 108 = some (.goto (-54), 3, 54, 0, 0) := by decide +kernel
theorem i_29_111 : a_ins 29 111 = some (.aload_n 2, 1, 0, 0, 0) := by decide +kernel
theorem i_29_112 : a_ins 29 112 = some (.iload_n 3, 1, 0, 0, 0) := by decide +kernel
theorem i_29_113 : a_ins 29 113 = some (.putfield 310, 3, 7, 0, 0) := by decide +kernel
theorem i_29_116 : a_ins 29 116 = some (.aload_n 2, 1, 0, 0, 0) := by decide +kernel
theorem i_29_117 : a_ins 29 117 = some (.areturn, 1, 0, 0, 0) := by decide +kernel
theorem i_30_0 : a_ins 30 0 = some (.aload_n 0, 1, 0, 0, 0) := by decide +kernel
theorem i_30_1 : a_ins 30 1 = some (.getfield 10, 3, 0, 0, 0) := by decide +kernel
theorem i_30_4 : a_ins 30 4 = some (.iload_n 1, 1, 0, 0, 0) := by decide +kernel
theorem i_30_5 : a_ins 30 5 = some (.invokevirtual 220, 3, 95, 2, 0) := by decide +kernel
theorem i_30_8 : a_ins 30 8 = some (.istore 4, 2, 0, 0, 0) := by decide +kernel
theorem i_30_10 : a_ins 30 10 = some (.iload 4, 2, 0, 0, 0) := by decide +kernel
theorem i_30_12 : a_ins 30 12 = some (.iconst (-1), 1, 0, 0, -1) := by decide +kernel
theorem i_30_13 : a_ins 30 13 = some (.if_icmp .eq (27), 3, 40, 0, 0) := by decide +kernel
theorem i_30_16 : a_ins 30 16 = some (.iload_n 2, 1, 0, 0, 0) := by decide +kernel
theorem i_30_17 : a_ins 30 17 = some (.ifCond .lt (23), 3, 40, 0, 0) := by decide +kernel
theorem i_30_20 : a_ins 30 20 = some (.iload_n 2, 1, 0, 0, 0) := by decide +kernel
theorem i_30_21 : a_ins 30 21 = some (.aload_n 0, 1, 0, 0, 0) := by decide +kernel
theorem i_30_22 : a_ins 30 22 = some (.getfield 10, 3, 0, 0, 0) := by decide +kernel
theorem i_30_25 : a_ins 30 25 = some (.invokevirtual 155, 3, 47, 1, 0) := by decide +kernel
theorem i_30_28 : a_ins 30 28 = some (.if_icmp .gt (12), 3, 40, 0, 0) := by decide +kernel
theorem i_30_31 : a_ins 30 31 = some (.iload_n 3, 1, 0, 0, 0) := by decide +kernel
theorem i_30_32 : a_ins 30 32 = some (.ifCond .lt (8), 3, 40, 0, 0) := by decide +kernel
theorem i_30_35 : a_ins 30 35 = some (.iload_n 3, 1, 0, 0, 0) := by decide +kernel
theorem i_30_36 : a_ins 30 36 = some (.iconst (1), 1, 0, 0, 1) := by decide +kernel
theorem i_30_37 : a_ins 30 37 = some (.if_icmp .le (6), 3, 43, 0, 0) := by decide +kernel
theorem i_30_40 : a_ins 30 40 = some (.bipush (-3), 2, 0, 0, -3) := by decide +kernel
theorem i_30_42 : a_ins 30 42 = some (.ireturn, 1, 0, 0, 0) := by decide +kernel
theorem i_30_43 : a_ins 30 43 = some (.aload_n 0, 1, 0, 0, 0) := by decide +kernel
theorem i_30_44 : a_ins 30 44 = some (.getfield 10, 3, 0, 0, 0) := by decide +kernel
theorem i_30_47 : a_ins 30 47 = some (.getfield 164, 3, 1, 0, 0) := by decide +kernel
theorem i_30_50 : a_ins 30 50 = some (.iconst (3), 1, 0, 0, 3) := by decide +kernel
theorem i_30_51 : a_ins 30 51 = some (.if_icmp .le (6), 3, 57, 0, 0) := by decide +kernel
theorem i_30_54 : a_ins 30 54 = some (.bipush (-5), 2, 0, 0, -5) := by decide +kernel
theorem i_30_56 : a_ins 30 56 = some (.ireturn, 1, 0, 0, 0) := by decide +kernel
theorem i_30_57 : a_ins 30 57 = some (.aload_n 0, 1, 0, 0, 0) := by decide +kernel
theorem i_30_58 : a_ins 30 58 = some (.iload_n 3, 1, 0, 0, 0) := by decide +kernel
theorem i_30_59 : a_ins 30 59 = some (.invokevirtual 202, 3, 29, 2, 0) := by decide +kernel
theorem i_30_62 : a_ins 30 62 = some (.iload 4, 2, 0, 0, 0) := by decide +kernel
theorem i_30_64 : a_ins 30 64 = some (.bipush (8), 2, 0, 0, 8) := by decide +kernel
theorem i_30_66 : a_ins 30 66 = some (.imul, 1, 0, 0, 0) := by decide +kernel
theorem i_30_67 : a_ins 30 67 = some (.iload_n 2, 1, 0, 0, 0) := by decide +kernel
theorem i_30_68 : a_ins 30 68 = some (.iadd, 1, 0, 0, 0) := by decide +kernel
theorem i_30_69 : a_ins 30 69 = some (.invokevirtual 223, 3, 142, 2, 0) := by decide +kernel
theorem i_30_72 : a_ins 30 72 = some (.ireturn, 1, 0, 0, 0) := by decide +kernel
theorem i_31_0 : a_ins 31 0 = some (.iload_n 1, 1, 0, 0, 0) := by decide +kernel
theorem i_31_1 : a_ins 31 1 = some (.ifCond .lt (8), 3, 9, 0, 0) := by decide +kernel
theorem i_31_4 : a_ins 31 4 = some (.iload_n 1, 1, 0, 0, 0) := by decide +kernel
theorem i_31_5 : a_ins 31 5 = some (.iconst (5), 1, 0, 0, 5) := by decide +kernel
theorem i_31_6 : a_ins 31 6 = some (.if_icmp .le (6), 3, 12, 0, 0) := by decide +kernel
theorem i_31_9 : a_ins 31 9 = some (.bipush (-2), 2, 0, 0, -2) := by decide +kernel
theorem i_31_11 : a_ins 31 11 = some (.ireturn, 1, 0, 0, 0) := by decide +kernel
theorem i_31_12 : a_ins 31 12 = some (.iload_n 2, 1, 0, 0, 0) := by decide +kernel
theorem i_31_13 : a_ins 31 13 = some (.ifCond .lt (8), 3, 21, 0, 0) := by decide +kernel
theorem i_31_16 : a_ins 31 16 = some (.iload_n 2, 1, 0, 0, 0) := by decide +kernel
theorem i_31_17 : a_ins 31 17 = some (.iconst (1), 1, 0, 0, 1) := by decide +kernel
theorem i_31_18 : a_ins 31 18 = some (.if_icmp .le (6), 3, 24, 0, 0) := by decide +kernel
theorem i_31_21 : a_ins 31 21 = some (.bipush (-3), 2, 0, 0, -3) := by decide +kernel
theorem i_31_23 : a_ins 31 23 = some (.ireturn, 1, 0, 0, 0) := by decide +kernel
theorem i_31_24 : a_ins 31 24 = some (.aload_n 0, 1, 0, 0, 0) := by decide +kernel
theorem i_31_25 : a_ins 31 25 = some (.getfield 10, 3, 0, 0, 0) := by decide +kernel
theorem i_31_28 : a_ins 31 28 = some (.getfield 164, 3, 1, 0, 0) := by decide +kernel
theorem i_31_31 : a_ins 31 31 = some (.iconst (3), 1, 0, 0, 3) := by decide +kernel
theorem i_31_32 : a_ins 31 32 = some (.if_icmp .le (6), 3, 38, 0, 0) := by decide +kernel
theorem i_31_35 : a_ins 31 35 = some (.bipush (-5), 2, 0, 0, -5) := by decide +kernel
theorem i_31_37 : a_ins 31 37 = some (.ireturn, 1, 0, 0, 0) := by decide +kernel
theorem i_31_38 : a_ins 31 38 = some (.aload_n 0, 1, 0, 0, 0) := by decide +kernel
theorem i_31_39 : a_ins 31 39 = some (.iload_n 2, 1, 0, 0, 0) := by decide +kernel
theorem i_31_40 : a_ins 31 40 = some (.invokevirtual 202, 3, 29, 2, 0) := by decide +kernel
theorem i_31_43 : a_ins 31 43 = some (.getfield 226, 3, 7, 2, 0) := by decide +kernel
theorem i_31_46 : a_ins 31 46 = some (.iload_n 1, 1, 0, 0, 0) := by decide +kernel
theorem i_31_47 : a_ins 31 47 = some (.iaload, 1, 0, 0, 0) := by decide +kernel
theorem i_31_48 : a_ins 31 48 = some (.ireturn, 1, 0, 0, 0) := by decide +kernel
theorem i_32_0 : a_ins 32 0 = some (.iload_n 1, 1, 0, 0, 0) := by decide +kernel
theorem i_32_1 : a_ins 32 1 = some (.ifCond .lt (12), 3, 13, 0, 0) := by decide +kernel
theorem i_32_4 : a_ins 32 4 = some (.iload_n 1, 1, 0, 0, 0) := by decide +kernel
theorem i_32_5 : a_ins 32 5 = some (.iconst (1), 1, 0, 0, 1) := by decide +kernel
theorem i_32_6 : a_ins 32 6 = some (.if_icmp .gt (7), 3, 13, 0, 0) := by decide +kernel
theorem i_32_9 : a_ins 32 9 = some (.iload_n 2, 1, 0, 0, 0) := by decide +kernel
theorem i_32_10 : a_ins 32 10 = some (.ifCond .ge (6), 3, 16, 0, 0) := by decide +kernel
theorem i_32_13 : a_ins 32 13 = some (.bipush (-3), 2, 0, 0, -3) := by decide +kernel
theorem i_32_15 : a_ins 32 15 = some (.ireturn, 1, 0, 0, 0) := by decide +kernel
theorem i_32_16 : a_ins 32 16 = some (.aload_n 0, 1, 0, 0, 0) := by decide +kernel
theorem i_32_17 : a_ins 32 17 = some (.getfield 10, 3, 0, 0, 0) := by decide +kernel
theorem i_32_20 : a_ins 32 20 = some (.getfield 164, 3, 1, 0, 0) := by decide +kernel
theorem i_32_23 : a_ins 32 23 = some (.iconst (3), 1, 0, 0, 3) := by decide +kernel
theorem i_32_24 : a_ins 32 24 = some (.if_icmp .le (6), 3, 30, 0, 0) := by decide +kernel
theorem i_32_27 : a_ins 32 27 = some (.bipush (-5), 2, 0, 0, -5) := by decide +kernel
theorem i_32_29 : a_ins 32 29 = some (.ireturn, 1, 0, 0, 0) := by decide +kernel
theorem i_32_30 : a_ins 32 30 = some (.aload_n 0, 1, 0, 0, 0) := by decide +kernel
theorem i_32_31 : a_ins 32 31 = some (.iload_n 1, 1, 0, 0, 0) := by decide +kernel
theorem i_32_32 : a_ins 32 32 = some (.invokevirtual 202, 3, 29, 2, 0) := by decide +kernel
theorem i_32_35 : a_ins 32 35 = some (.astore_n 3, 1, 0, 0, 0) := by decide +kernel
theorem i_32_36 : a_ins 32 36 = some (.iload_n 2, 1, 0, 0, 0) := by decide +kernel
theorem i_32_37 : a_ins 32 37 = some (.aload_n 3, 1, 0, 0, 0) := by decide +kernel
theorem i_32_38 : a_ins 32 38 = some (.getfield 214, 3, 7, 4, 0) := by decide +kernel
theorem i_32_41 : a_ins 32 41 = some (.if_icmp .ge (18), 3, 59, 0, 0) := by decide +kernel
theorem i_32_44 : a_ins 32 44 = some (.iload_n 2, 1, 0, 0, 0) := by decide +kernel
theorem i_32_45 : a_ins 32 45 = some (.bipush (64), 2, 0, 0, 64) := by decide +kernel
theorem i_32_47 : a_ins 32 47 = some (.if_icmp .ge (12), 3, 59, 0, 0) := by decide +kernel
theorem i_32_50 : a_ins 32 50 = some (.aload_n 3, 1, 0, 0, 0) := by decide +kernel
theorem i_32_51 : a_ins 32 51 = some (.getfield 229, 3, 7, 3, 0) := by decide +kernel
theorem i_32_54 : a_ins 32 54 = some (.iload_n 2, 1, 0, 0, 0) := by decide +kernel
theorem i_32_55 : a_ins 32 55 = some (.iaload, 1, 0, 0, 0) := by decide +kernel
theorem i_32_56 : a_ins 32 56 = some (.goto (4), 3, 60, 0, 0) := by decide +kernel
theorem i_32_59 : a_ins 32 59 = some (.iconst (-1), 1, 0, 0, -1) := by decide +kernel
theorem i_32_60 : a_ins 32 60 = some (.ireturn, 1, 0, 0, 0) := by decide +kernel
theorem i_33_0 : a_ins 33 0 = some (.aload_n 0, 1, 0, 0, 0) := by decide +kernel
theorem i_33_1 : a_ins 33 1 = some (.getfield 232, 3, 0, 6, 0) := by decide +kernel
theorem i_33_4 : a_ins 33 4 = some (.bipush (20), 2, 0, 0, 20) := by decide +kernel
theorem i_33_6 : a_ins 33 6 = some (.iadd, 1, 0, 0, 0) := by decide +kernel
theorem i_33_7 : a_ins 33 7 = some (.sipush (200), 3, 0, 0, 200) := by decide +kernel
theorem i_33_10 : a_ins 33 10 = some (.if_icmp .le (6), 3, 16, 0, 0) := by decide +kernel
theorem i_33_13 : a_ins 33 13 = some (.bipush (-3), 2, 0, 0, -3) := by decide +kernel
theorem i_33_15 : a_ins 33 15 = some (.ireturn, 1, 0, 0, 0) := by decide +kernel
theorem i_33_16 : a_ins 33 16 = some (.aload_n 0, 1, 0, 0, 0) := by decide +kernel
theorem i_33_17 : a_ins 33 17 = some (.iload_n 1, 1, 0, 0, 0) := by decide +kernel
theorem i_33_18 : a_ins 33 18 = some (.invokevirtual 235, 3, 34, 2, 0) := by decide +kernel
theorem i_33_21 : a_ins 33 21 = some (.aload_n 0, 1, 0, 0, 0) := by decide +kernel
theorem i_33_22 : a_ins 33 22 = some (.iload_n 2, 1, 0, 0, 0) := by decide +kernel
theorem i_33_23 : a_ins 33 23 = some (.invokevirtual 235, 3, 34, 2, 0) := by decide +kernel
theorem i_33_26 : a_ins 33 26 = some (.aload_n 0, 1, 0, 0, 0) := by decide +kernel
theorem i_33_27 : a_ins 33 27 = some (.iload_n 3, 1, 0, 0, 0) := by decide +kernel
theorem i_33_28 : a_ins 33 28 = some (.invokevirtual 235, 3, 34, 2, 0) := by decide +kernel
theorem i_33_31 : a_ins 33 31 = some (.aload_n 0, 1, 0, 0, 0) := by decide +kernel
theorem i_33_32 : a_ins 33 32 = some (.iload 4, 2, 0, 0, 0) := by decide +kernel
theorem i_33_34 : a_ins 33 34 = some (.invokevirtual 235, 3, 34, 2, 0) := by decide +kernel
theorem i_33_37 : a_ins 33 37 = some (.aload_n 0, 1, 0, 0, 0) := by decide +kernel
theorem i_33_38 : a_ins 33 38 = some (.iload 5, 2, 0, 0, 0) := by decide +kernel
theorem i_33_40 : a_ins 33 40 = some (.invokevirtual 235, 3, 34, 2, 0) := by decide +kernel
theorem i_33_43 : a_ins 33 43 = some (.aload_n 0, 1, 0, 0, 0) := by decide +kernel
theorem i_33_44 : a_ins 33 44 = some (.getfield 232, 3, 0, 6, 0) := by decide +kernel
theorem i_33_47 : a_ins 33 47 = some (.ireturn, 1, 0, 0, 0) := by decide +kernel
theorem i_34_0 : a_ins 34 0 = some (.bipush (24), 2, 0, 0, 24) := by decide +kernel
theorem i_34_2 : a_ins 34 2 = some (.istore_n 2, 1, 0, 0, 0) := by decide +kernel
theorem i_34_3 : a_ins 34 3 = some (.iload_n 2, 1, 0, 0, 0) := by decide +kernel
theorem i_34_4 : a_ins 34 4 = some (.ifCond .lt (32), 3, 36, 0, 0) := by decide +kernel
theorem i_34_7 : a_ins 34 7 = some (.aload_n 0, 1, 0, 0, 0) := by decide +kernel
theorem i_34_8 : a_ins 34 8 = some (.getfield 38, 3, 0, 5, 0) := by decide +kernel
theorem i_34_11 : a_ins 34 11 = some (.aload_n 0, 1, 0, 0, 0) := by decide +kernel
theorem i_34_12 : a_ins 34 12 = some (.getfield 232, 3, 0, 6, 0) := by decide +kernel
theorem i_34_15 : a_ins 34 15 = some (.iload_n 1, 1, 0, 0, 0) := by decide +kernel
theorem i_34_16 : a_ins 34 16 = some (.iload_n 2, 1, 0, 0, 0) := by decide +kernel
theorem i_34_17 : a_ins 34 17 = some (.ishr, 1, 0, 0, 0) := by decide +kernel
theorem i_34_18 : a_ins 34 18 = some (.i2b, 1, 0, 0, 0) := by decide +kernel
theorem i_34_19 : a_ins 34 19 = some (.bastore, 1, 0, 0, 0) := by decide +kernel
theorem i_34_20 : a_ins 34 20 = some (.aload_n 0, 1, 0, 0, 0) := by decide +kernel
theorem i_34_21 : a_ins 34 21 = some (.dup, 1, 0, 0, 0) := by decide +kernel
theorem i_34_22 : a_ins 34 22 = some (.getfield 232, 3, 0, 6, 0) := by decide +kernel
theorem i_34_25 : a_ins 34 25 = some (.iconst (1), 1, 0, 0, 1) := by decide +kernel
theorem i_34_26 : a_ins 34 26 = some (.iadd, 1, 0, 0, 0) := by decide +kernel
theorem i_34_27 : a_ins 34 27 = some (.putfield 232, 3, 0, 6, 0) := by decide +kernel
theorem i_34_30 : a_ins 34 30 = some (.iinc 2 (-8), 3, 0, 0, -8) := by decide +kernel
theorem i_34_33 : a_ins 34 33 = some (.goto (-30), 3, 3, 0, 0) := by decide +kernel
theorem i_34_36 : a_ins 34 36 = some (.return_, 1, 0, 0, 0) := by decide +kernel
theorem i_35_0 : a_ins 35 0 = some (.iload_n 1, 1, 0, 0, 0) := by decide +kernel
theorem i_35_1 : a_ins 35 1 = some (.ifCond .lt (11), 3, 12, 0, 0) := by decide +kernel
theorem i_35_4 : a_ins 35 4 = some (.iload_n 1, 1, 0, 0, 0) := by decide +kernel
theorem i_35_5 : a_ins 35 5 = some (.aload_n 0, 1, 0, 0, 0) := by decide +kernel
theorem i_35_6 : a_ins 35 6 = some (.getfield 232, 3, 0, 6, 0) := by decide +kernel
theorem i_35_9 : a_ins 35 9 = some (.if_icmp .le (6), 3, 15, 0, 0) := by decide +kernel
theorem i_35_12 : a_ins 35 12 = some (.bipush (-3), 2, 0, 0, -3) := by decide +kernel
theorem i_35_14 : a_ins 35 14 = some (.ireturn, 1, 0, 0, 0) := by decide +kernel
theorem i_35_15 : a_ins 35 15 = some (.aload_n 0, 1, 0, 0, 0) := by decide +kernel
theorem i_35_16 : a_ins 35 16 = some (.getfield 45, 3, 0, 7, 0) := by decide +kernel
theorem i_35_19 : a_ins 35 19 = some (.aload_n 0, 1, 0, 0, 0) := by decide +kernel
theorem i_35_20 : a_ins 35 20 = some (.getfield 38, 3, 0, 5, 0) := by decide +kernel
theorem i_35_23 : a_ins 35 23 = some (.iload_n 1, 1, 0, 0, 0) := by decide +kernel
theorem i_35_24 : a_ins 35 24 = some (.invokevirtual 239, 3, 109, 3, 0) := by decide +kernel
theorem i_35_27 : a_ins 35 27 = some (.aload_n 0, 1, 0, 0, 0) := by decide +kernel
theorem i_35_28 : a_ins 35 28 = some (.iconst (0), 1, 0, 0, 0) := by decide +kernel
theorem i_35_29 : a_ins 35 29 = some (.putfield 232, 3, 0, 6, 0) := by decide +kernel
theorem i_35_32 : a_ins 35 32 = some (.aload_n 0, 1, 0, 0, 0) := by decide +kernel
theorem i_35_33 : a_ins 35 33 = some (.getfield 45, 3, 0, 7, 0) := by decide +kernel
theorem i_35_36 : a_ins 35 36 = some (.getfield 243, 3, 4, 4, 0) := by decide +kernel
theorem i_35_39 : a_ins 35 39 = some (.ifCond .eq (14), 3, 53, 0, 0) := by decide +kernel
theorem i_35_42 : a_ins 35 42 = some (.bipush (-30), 2, 0, 0, -30) := by decide +kernel
theorem i_35_44 : a_ins 35 44 = some (.aload_n 0, 1, 0, 0, 0) := by decide +kernel
theorem i_35_45 : a_ins 35 45 = some (.getfield 45, 3, 0, 7, 0) := by decide +kernel
theorem i_35_48 : a_ins 35 48 = some (.getfield 243, 3, 4, 4, 0) := by decide +kernel
theorem i_35_51 : a_ins 35 51 = some (.isub, 1, 0, 0, 0) := by decide +kernel
theorem i_35_52 : a_ins 35 52 = some (.ireturn, 1, 0, 0, 0) := by decide +kernel
theorem i_35_53 : a_ins 35 53 = some (.aload_n 0, 1, 0, 0, 0) := by decide +kernel
theorem i_35_54 : a_ins 35 54 = some (.getfield 26, 3, 0, 2, 0) := by decide +kernel
theorem i_35_57 : a_ins 35 57 = some (.aload_n 0, 1, 0, 0, 0) := by decide +kernel
theorem i_35_58 : a_ins 35 58 = some (.getfield 10, 3, 0, 0, 0) := by decide +kernel
theorem i_35_61 : a_ins 35 61 = some (.invokevirtual 63, 3, 105, 2, 0) := by decide +kernel
theorem i_35_64 : a_ins 35 64 = some (.aload_n 0, 1, 0, 0, 0) := by decide +kernel
theorem i_35_65 : a_ins 35 65 = some (.invokevirtual 246, 3, 36, 1, 0) := by decide +kernel
theorem i_35_68 : a_ins 35 68 = some (.istore_n 2, 1, 0, 0, 0) := by decide +kernel
theorem i_35_69 : a_ins 35 69 = some (.iload_n 2, 1, 0, 0, 0) := by decide +kernel
theorem i_35_70 : a_ins 35 70 = some (.ifCond .le (12), 3, 82, 0, 0) := by decide +kernel
theorem i_35_73 : a_ins 35 73 = some (.aload_n 0, 1, 0, 0, 0) := by decide +kernel
theorem i_35_74 : a_ins 35 74 = some (.getfield 26, 3, 0, 2, 0) := by decide +kernel
theorem i_35_77 : a_ins 35 77 = some (.iload_n 2, 1, 0, 0, 0) := by decide +kernel
theorem i_35_78 : a_ins 35 78 = some (.invokevirtual 67, 3, 106, 2, 0) := by decide +kernel
theorem i_35_81 : a_ins 35 81 = some (.pop, 1, 0, 0, 0) := by decide +kernel
theorem i_35_82 : a_ins 35 82 = some (.iload_n 2, 1, 0, 0, 0) := by decide +kernel
theorem i_35_83 : a_ins 35 83 = some (.ireturn, 1, 0, 0, 0) := by decide +kernel
theorem i_36_0 : a_ins 36 0 = some (.iconst (0), 1, 0, 0, 0) := by decide +kernel
theorem i_36_1 : a_ins 36 1 = some (.istore_n 1, 1, 0, 0, 0) := by decide +kernel
theorem i_36_2 : a_ins 36 2 = some (.iconst (0), 1, 0, 0, 0) := by decide +kernel
theorem i_36_3 : a_ins 36 3 = some (.istore_n 2, 1, 0, 0, 0) := by decide +kernel
theorem i_36_4 : a_ins 36 4 = some (.iload_n 2, 1, 0, 0, 0) := by decide +kernel
theorem i_36_5 : a_ins 36 5 = some (.aload_n 0, 1, 0, 0, 0) := by decide +kernel
theorem i_36_6 : a_ins 36 6 = some (.getfield 45, 3, 0, 7, 0) := by decide +kernel
theorem i_36_9 : a_ins 36 9 = some (.getfield 278, 3, 4, 3, 0) := by decide +kernel
theorem i_36_12 : a_ins 36 12 = some (.if_icmp .ge (59), 3, 71, 0, 0) := by decide +kernel
theorem i_36_15 : a_ins 36 15 = some (.aload_n 0, 1, 0, 0, 0) := by decide +kernel
theorem i_36_16 : a_ins 36 16 = some (.aload_n 0, 1, 0, 0, 0) := by decide +kernel
theorem i_36_17 : a_ins 36 17 = some (.getfield 45, 3, 0, 7, 0) := by decide +kernel
theorem i_36_20 : a_ins 36 20 = some (.getfield 281, 3, 4, 0, 0) := by decide +kernel
theorem i_36_23 : a_ins 36 23 = some (.iload_n 2, 1, 0, 0, 0) := by decide +kernel
theorem i_36_24 : a_ins 36 24 = some (.iaload, 1, 0, 0, 0) := by decide +kernel
theorem i_36_25 : a_ins 36 25 = some (.aload_n 0, 1, 0, 0, 0) := by decide +kernel
theorem i_36_26 : a_ins 36 26 = some (.getfield 45, 3, 0, 7, 0) := by decide +kernel
theorem i_36_29 : a_ins 36 29 = some (.getfield 284, 3, 4, 1, 0) := by decide +kernel
theorem i_36_32 : a_ins 36 32 = some (.iload_n 2, 1, 0, 0, 0) := by decide +kernel
theorem i_36_33 : a_ins 36 33 = some (.iaload, 1, 0, 0, 0) := by decide +kernel
theorem i_36_34 : a_ins 36 34 = some (.aload_n 0, 1, 0, 0, 0) := by decide +kernel
theorem i_36_35 : a_ins 36 35 = some (.getfield 45, 3, 0, 7, 0) := by decide +kernel
theorem i_36_38 : a_ins 36 38 = some (.getfield 287, 3, 4, 2, 0) := by decide +kernel
theorem i_36_41 : a_ins 36 41 = some (.iload_n 2, 1, 0, 0, 0) := by decide +kernel
theorem i_36_42 : a_ins 36 42 = some (.iaload, 1, 0, 0, 0) := by decide +kernel
theorem i_36_43 : a_ins 36 43 = some (.invokevirtual 290, 3, 37, 4, 0) := by decide +kernel
theorem i_36_46 : a_ins 36 46 = some (.istore_n 3, 1, 0, 0, 0) := by decide +kernel
theorem i_36_47 : a_ins 36 47 = some (.iload_n 3, 1, 0, 0, 0) := by decide +kernel
theorem i_36_48 : a_ins 36 48 = some (.ifCond .ge (14), 3, 62, 0, 0) := by decide +kernel
theorem i_36_51 : a_ins 36 51 = some (.aload_n 0, 1, 0, 0, 0) := by decide +kernel
theorem i_36_52 : a_ins 36 52 = some (.getfield 45, 3, 0, 7, 0) := by decide +kernel
theorem i_36_55 : a_ins 36 55 = some (.iload_n 3, 1, 0, 0, 0) := by decide +kernel
theorem i_36_56 : a_ins 36 56 = some (.putfield 252, 3, 4, 6, 0) := by decide +kernel
theorem i_36_59 : a_ins 36 59 = some (.goto (12), 3, 71, 0, 0) := by decide +kernel
theorem i_36_62 : a_ins 36 62 = some (.iinc 1 (1), 3, 0, 0, 1) := by decide +kernel
theorem i_36_65 : a_ins 36 65 = some (.iinc 2 (1), 3, 0, 0, 1) := by decide +kernel
theorem i_36_68 : a_ins 36 68 = some (.goto (-64), 3, 4, 0, 0) := by decide +kernel
theorem i_36_71 : a_ins 36 71 = some (.iload_n 1, 1, 0, 0, 0) := by decide +kernel
theorem i_36_72 : a_ins 36 72 = some (.ireturn, 1, 0, 0, 0) := by decide +kernel
theorem i_37_0 : a_ins 37 0 = some (.iload_n 1, 1, 0, 0, 0) := by decide +kernel
theorem i_37_1 : a_ins 37 1 = some (.tableswitch (134) (0) (8) #[51, 60, 69, 78, 87, 96, 106, 115, 124], 51, 0, 0, 0) := by decide +kernel
theorem i_37_52 : a_ins 37 52 = some (.aload_n 0, 1, 0, 0, 0) := by decide +kernel
theorem i_37_53 : a_ins 37 53 = some (.getfield 10, 3, 0, 0, 0) := by decide +kernel
theorem i_37_56 : a_ins 37 56 = some (.iload_n 3, 1, 0, 0, 0) := by decide +kernel
theorem i_37_57 : a_ins 37 57 = some (.invokevirtual 81, 3, 57, 2, 0) := by decide +kernel
theorem i_37_60 : a_ins 37 60 = some (.ireturn, 1, 0, 0, 0) := by decide +kernel
theorem i_37_61 : a_ins 37 61 = some (.aload_n 0, 1, 0, 0, 0) := by decide +kernel
theorem i_37_62 : a_ins 37 62 = some (.getfield 10, 3, 0, 0, 0) := by decide +kernel
theorem i_37_65 : a_ins 37 65 = some (.iload_n 3, 1, 0, 0, 0) := by decide +kernel
theorem i_37_66 : a_ins 37 66 = some (.invokevirtual 84, 3, 64, 2, 0) := by decide +kernel
theorem i_37_69 : a_ins 37 69 = some (.ireturn, 1, 0, 0, 0) := by decide +kernel
theorem i_37_70 : a_ins 37 70 = some (.aload_n 0, 1, 0, 0, 0) := by decide +kernel
theorem i_37_71 : a_ins 37 71 = some (.getfield 10, 3, 0, 0, 0) := by decide +kernel
theorem i_37_74 : a_ins 37 74 = some (.iload_n 3, 1, 0, 0, 0) := by decide +kernel
theorem i_37_75 : a_ins 37 75 = some (.invokevirtual 87, 3, 66, 2, 0) := by decide +kernel
theorem i_37_78 : a_ins 37 78 = some (.ireturn, 1, 0, 0, 0) := by decide +kernel
theorem i_37_79 : a_ins 37 79 = some (.aload_n 0, 1, 0, 0, 0) := by decide +kernel
theorem i_37_80 : a_ins 37 80 = some (.getfield 10, 3, 0, 0, 0) := by decide +kernel
theorem i_37_83 : a_ins 37 83 = some (.iload_n 2, 1, 0, 0, 0) := by decide +kernel
theorem i_37_84 : a_ins 37 84 = some (.invokevirtual 90, 3, 67, 2, 0) := by decide +kernel
theorem i_37_87 : a_ins 37 87 = some (.ireturn, 1, 0, 0, 0) := by decide +kernel
theorem i_37_88 : a_ins 37 88 = some (.aload_n 0, 1, 0, 0, 0) := by decide +kernel
theorem i_37_89 : a_ins 37 89 = some (.getfield 10, 3, 0, 0, 0) := by decide +kernel
theorem i_37_92 : a_ins 37 92 = some (.iload_n 2, 1, 0, 0, 0) := by decide +kernel
theorem i_37_93 : a_ins 37 93 = some (.invokevirtual 93, 3, 70, 2, 0) := by decide +kernel
theorem i_37_96 : a_ins 37 96 = some (.ireturn, 1, 0, 0, 0) := by decide +kernel
theorem i_37_97 : a_ins 37 97 = some (.aload_n 0, 1, 0, 0, 0) := by decide +kernel
theorem i_37_98 : a_ins 37 98 = some (.getfield 10, 3, 0, 0, 0) := by decide +kernel
theorem i_37_101 : a_ins 37 101 = some (.iload_n 2, 1, 0, 0, 0) := by decide +kernel
theorem i_37_102 : a_ins 37 102 = some (.iload_n 3, 1, 0, 0, 0) := by decide +kernel
theorem i_37_103 : a_ins 37 103 = some (.invokevirtual 99, 3, 72, 3, 0) := by decide +kernel
theorem i_37_106 : a_ins 37 106 = some (.ireturn, 1, 0, 0, 0) := by decide +kernel
theorem i_37_107 : a_ins 37 107 = some (.aload_n 0, 1, 0, 0, 0) := by decide +kernel
theorem i_37_108 : a_ins 37 108 = some (.getfield 10, 3, 0, 0, 0) := by decide +kernel
theorem i_37_111 : a_ins 37 111 = some (.iload_n 2, 1, 0, 0, 0) := by decide +kernel
theorem i_37_112 : a_ins 37 112 = some (.invokevirtual 102, 3, 80, 2, 0) := by decide +kernel
theorem i_37_115 : a_ins 37 115 = some (.ireturn, 1, 0, 0, 0) := by decide +kernel
theorem i_37_116 : a_ins 37 116 = some (.aload_n 0, 1, 0, 0, 0) := by decide +kernel
theorem i_37_117 : a_ins 37 117 = some (.getfield 10, 3, 0, 0, 0) := by decide +kernel
theorem i_37_120 : a_ins 37 120 = some (.iconst (0), 1, 0, 0, 0) := by decide +kernel
theorem i_37_121 : a_ins 37 121 = some (.invokevirtual 96, 3, 71, 2, 0) := by decide +kernel
theorem i_37_124 : a_ins 37 124 = some (.ireturn, 1, 0, 0, 0) := by decide +kernel
theorem i_37_125 : a_ins 37 125 = some (.aload_n 0, 1, 0, 0, 0) := by decide +kernel
theorem i_37_126 : a_ins 37 126 = some (.getfield 10, 3, 0, 0, 0) := by decide +kernel
theorem i_37_129 : a_ins 37 129 = some (.iload_n 2, 1, 0, 0, 0) := by decide +kernel
theorem i_37_130 : a_ins 37 130 = some (.iload_n 3, 1, 0, 0, 0) := by decide +kernel
theorem i_37_131 : a_ins 37 131 = some (.invokevirtual 71, 3, 52, 3, 0) := by decide +kernel
theorem i_37_134 : a_ins 37 134 = some (.ireturn, 1, 0, 0, 0) := by decide +kernel
theorem i_37_135 : a_ins 37 135 = some (.aload_n 0, 1, 0, 0, 0) := by decide +kernel
theorem i_37_136 : a_ins 37 136 = some (.getfield 10, 3, 0, 0, 0) := by decide +kernel
theorem i_37_139 : a_ins 37 139 = some (.iconst (-1), 1, 0, 0, -1) := by decide +kernel
theorem i_37_140 : a_ins 37 140 = some (.invokevirtual 105, 3, 82, 2, 0) := by decide +kernel
theorem i_37_143 : a_ins 37 143 = some (.ireturn, 1, 0, 0, 0) := by decide +kernel
theorem i_38_0 : a_ins 38 0 = some (.iload_n 1, 1, 0, 0, 0) := by decide +kernel
theorem i_38_1 : a_ins 38 1 = some (.tableswitch (51) (0) (2) #[27, 35, 43], 27, 0, 0, 0) := by decide +kernel
theorem i_38_28 : a_ins 38 28 = some (.aload_n 0, 1, 0, 0, 0) := by decide +kernel
theorem i_38_29 : a_ins 38 29 = some (.getfield 45, 3, 0, 7, 0) := by decide +kernel
theorem i_38_32 : a_ins 38 32 = some (.getfield 243, 3, 4, 4, 0) := by decide +kernel
theorem i_38_35 : a_ins 38 35 = some (.ireturn, 1, 0, 0, 0) := by decide +kernel
theorem i_38_36 : a_ins 38 36 = some (.aload_n 0, 1, 0, 0, 0) := by decide +kernel
theorem i_38_37 : a_ins 38 37 = some (.getfield 45, 3, 0, 7, 0) := by decide +kernel
theorem i_38_40 : a_ins 38 40 = some (.getfield 249, 3, 4, 5, 0) := by decide +kernel
theorem i_38_43 : a_ins 38 43 = some (.ireturn, 1, 0, 0, 0) := by decide +kernel
theorem i_38_44 : a_ins 38 44 = some (.aload_n 0, 1, 0, 0, 0) := by decide +kernel
theorem i_38_45 : a_ins 38 45 = some (.getfield 45, 3, 0, 7, 0) := by decide +kernel
theorem i_38_48 : a_ins 38 48 = some (.getfield 252, 3, 4, 6, 0) := by decide +kernel
theorem i_38_51 : a_ins 38 51 = some (.ireturn, 1, 0, 0, 0) := by decide +kernel
theorem i_38_52 : a_ins 38 52 = some (.iconst (-1), 1, 0, 0, -1) := by decide +kernel
theorem i_38_53 : a_ins 38 53 = some (.ireturn, 1, 0, 0, 0) := by decide +kernel
theorem i_39_0 : a_ins 39 0 = some (.aload_n 0, 1, 0, 0, 0) := by decide +kernel
theorem i_39_1 : a_ins 39 1 = some (.getfield 10, 3, 0, 0, 0) := by decide +kernel
theorem i_39_4 : a_ins 39 4 = some (.getfield 254, 3, 1, 11, 0) := by decide +kernel
theorem i_39_7 : a_ins 39 7 = some (.getfield 258, 3, 2, 2, 0) := by decide +kernel
theorem i_39_10 : a_ins 39 10 = some (.ireturn, 1, 0, 0, 0) := by decide +kernel
theorem i_40_0 : a_ins 40 0 = some (.iload_n 1, 1, 0, 0, 0) := by decide +kernel
theorem i_40_1 : a_ins 40 1 = some (.ifCond .lt (17), 3, 18, 0, 0) := by decide +kernel
theorem i_40_4 : a_ins 40 4 = some (.iload_n 1, 1, 0, 0, 0) := by decide +kernel
theorem i_40_5 : a_ins 40 5 = some (.aload_n 0, 1, 0, 0, 0) := by decide +kernel
theorem i_40_6 : a_ins 40 6 = some (.getfield 10, 3, 0, 0, 0) := by decide +kernel
theorem i_40_9 : a_ins 40 9 = some (.getfield 254, 3, 1, 11, 0) := by decide +kernel
theorem i_40_12 : a_ins 40 12 = some (.getfield 258, 3, 2, 2, 0) := by decide +kernel
theorem i_40_15 : a_ins 40 15 = some (.if_icmp .lt (6), 3, 21, 0, 0) := by decide +kernel
theorem i_40_18 : a_ins 40 18 = some (.bipush (-2), 2, 0, 0, -2) := by decide +kernel
theorem i_40_20 : a_ins 40 20 = some (.ireturn, 1, 0, 0, 0) := by decide +kernel
theorem i_40_21 : a_ins 40 21 = some (.iload_n 2, 1, 0, 0, 0) := by decide +kernel
theorem i_40_22 : a_ins 40 22 = some (.iconst (-1), 1, 0, 0, -1) := by decide +kernel
theorem i_40_23 : a_ins 40 23 = some (.if_icmp .ge (6), 3, 29, 0, 0) := by decide +kernel
theorem i_40_26 : a_ins 40 26 = some (.bipush (-3), 2, 0, 0, -3) := by decide +kernel
theorem i_40_28 : a_ins 40 28 = some (.ireturn, 1, 0, 0, 0) := by decide +kernel
theorem i_40_29 : a_ins 40 29 = some (.iload_n 2, 1, 0, 0, 0) := by decide +kernel
theorem i_40_30 : a_ins 40 30 = some (.iconst (-1), 1, 0, 0, -1) := by decide +kernel
theorem i_40_31 : a_ins 40 31 = some (.if_icmp .ne (17), 3, 48, 0, 0) := by decide +kernel
theorem i_40_34 : a_ins 40 34 = some (.aload_n 0, 1, 0, 0, 0) := by decide +kernel
theorem i_40_35 : a_ins 40 35 = some (.getfield 10, 3, 0, 0, 0) := by decide +kernel
theorem i_40_38 : a_ins 40 38 = some (.getfield 254, 3, 1, 11, 0) := by decide +kernel
theorem i_40_41 : a_ins 40 41 = some (.iload_n 1, 1, 0, 0, 0) := by decide +kernel
theorem i_40_42 : a_ins 40 42 = some (.invokevirtual 261, 3, 100, 2, 0) := by decide +kernel
theorem i_40_45 : a_ins 40 45 = some (.goto (15), 3, 60, 0, 0) := by decide +kernel
theorem i_40_48 : a_ins 40 48 = some (.aload_n 0, 1, 0, 0, 0) := by decide +kernel
theorem i_40_49 : a_ins 40 49 = some (.getfield 10, 3, 0, 0, 0) := by decide +kernel
theorem i_40_52 : a_ins 40 52 = some (.getfield 254, 3, 1, 11, 0) := by decide +kernel
theorem i_40_55 : a_ins 40 55 = some (.iload_n 1, 1, 0, 0, 0) := by decide +kernel
theorem i_40_56 : a_ins 40 56 = some (.iload_n 2, 1, 0, 0, 0) := by decide +kernel
theorem i_40_57 : a_ins 40 57 = some (.invokevirtual 264, 3, 103, 3, 0) := by decide +kernel
theorem i_40_60 : a_ins 40 60 = some (.ireturn, 1, 0, 0, 0) := by decide +kernel
theorem i_41_0 : a_ins 41 0 = some (.iload_n 1, 1, 0, 0, 0) := by decide +kernel
theorem i_41_1 : a_ins 41 1 = some (.iconst (1), 1, 0, 0, 1) := by decide +kernel
theorem i_41_2 : a_ins 41 2 = some (.if_icmp .lt (14), 3, 16, 0, 0) := by decide +kernel
theorem i_41_5 : a_ins 41 5 = some (.iload_n 1, 1, 0, 0, 0) := by decide +kernel
theorem i_41_6 : a_ins 41 6 = some (.aload_n 0, 1, 0, 0, 0) := by decide +kernel
theorem i_41_7 : a_ins 41 7 = some (.getfield 26, 3, 0, 2, 0) := by decide +kernel
theorem i_41_10 : a_ins 41 10 = some (.getfield 267, 3, 3, 2, 0) := by decide +kernel
theorem i_41_13 : a_ins 41 13 = some (.if_icmp .le (6), 3, 19, 0, 0) := by decide +kernel
theorem i_41_16 : a_ins 41 16 = some (.bipush (-3), 2, 0, 0, -3) := by decide +kernel
theorem i_41_18 : a_ins 41 18 = some (.ireturn, 1, 0, 0, 0) := by decide +kernel
theorem i_41_19 : a_ins 41 19 = some (.aload_n 0, 1, 0, 0, 0) := by decide +kernel
theorem i_41_20 : a_ins 41 20 = some (.getfield 26, 3, 0, 2, 0) := by decide +kernel
theorem i_41_23 : a_ins 41 23 = some (.aload_n 0, 1, 0, 0, 0) := by decide +kernel
theorem i_41_24 : a_ins 41 24 = some (.getfield 10, 3, 0, 0, 0) := by decide +kernel
theorem i_41_27 : a_ins 41 27 = some (.iload_n 1, 1, 0, 0, 0) := by decide +kernel
theorem i_41_28 : a_ins 41 28 = some (.invokevirtual 268, 3, 107, 3, 0) := by decide +kernel
theorem i_41_31 : a_ins 41 31 = some (.aload_n 0, 1, 0, 0, 0) := by decide +kernel
theorem i_41_32 : a_ins 41 32 = some (.getfield 26, 3, 0, 2, 0) := by decide +kernel
theorem i_41_35 : a_ins 41 35 = some (.getfield 267, 3, 3, 2, 0) := by decide +kernel
theorem i_41_38 : a_ins 41 38 = some (.ireturn, 1, 0, 0, 0) := by decide +kernel
theorem i_42_0 : a_ins 42 0 = some (.iload_n 1, 1, 0, 0, 0) := by decide +kernel
theorem i_42_1 : a_ins 42 1 = some (.ifCond .lt (8), 3, 9, 0, 0) := by decide +kernel
theorem i_42_4 : a_ins 42 4 = some (.iload_n 1, 1, 0, 0, 0) := by decide +kernel
theorem i_42_5 : a_ins 42 5 = some (.iconst (2), 1, 0, 0, 2) := by decide +kernel
theorem i_42_6 : a_ins 42 6 = some (.if_icmp .lt (6), 3, 12, 0, 0) := by decide +kernel
theorem i_42_9 : a_ins 42 9 = some (.bipush (-2), 2, 0, 0, -2) := by decide +kernel
theorem i_42_11 : a_ins 42 11 = some (.ireturn, 1, 0, 0, 0) := by decide +kernel
theorem i_42_12 : a_ins 42 12 = some (.aload_n 0, 1, 0, 0, 0) := by decide +kernel
theorem i_42_13 : a_ins 42 13 = some (.getfield 30, 3, 0, 3, 0) := by decide +kernel
theorem i_42_16 : a_ins 42 16 = some (.iload_n 1, 1, 0, 0, 0) := by decide +kernel
theorem i_42_17 : a_ins 42 17 = some (.aaload, 1, 0, 0, 0) := by decide +kernel
theorem i_42_18 : a_ins 42 18 = some (.aload_n 0, 1, 0, 0, 0) := by decide +kernel
theorem i_42_19 : a_ins 42 19 = some (.getfield 10, 3, 0, 0, 0) := by decide +kernel
theorem i_42_22 : a_ins 42 22 = some (.invokevirtual 181, 3, 50, 2, 0) := by decide +kernel
theorem i_42_25 : a_ins 42 25 = some (.aload_n 0, 1, 0, 0, 0) := by decide +kernel
theorem i_42_26 : a_ins 42 26 = some (.getfield 34, 3, 0, 4, 0) := by decide +kernel
theorem i_42_29 : a_ins 42 29 = some (.iload_n 1, 1, 0, 0, 0) := by decide +kernel
theorem i_42_30 : a_ins 42 30 = some (.iconst (1), 1, 0, 0, 1) := by decide +kernel
theorem i_42_31 : a_ins 42 31 = some (.bastore, 1, 0, 0, 0) := by decide +kernel
theorem i_42_32 : a_ins 42 32 = some (.iconst (0), 1, 0, 0, 0) := by decide +kernel
theorem i_42_33 : a_ins 42 33 = some (.ireturn, 1, 0, 0, 0) := by decide +kernel
theorem i_43_0 : a_ins 43 0 = some (.iload_n 1, 1, 0, 0, 0) := by decide +kernel
theorem i_43_1 : a_ins 43 1 = some (.ifCond .lt (8), 3, 9, 0, 0) := by decide +kernel
theorem i_43_4 : a_ins 43 4 = some (.iload_n 1, 1, 0, 0, 0) := by decide +kernel
theorem i_43_5 : a_ins 43 5 = some (.iconst (2), 1, 0, 0, 2) := by decide +kernel
theorem i_43_6 : a_ins 43 6 = some (.if_icmp .lt (6), 3, 12, 0, 0) := by decide +kernel
theorem i_43_9 : a_ins 43 9 = some (.bipush (-2), 2, 0, 0, -2) := by decide +kernel
theorem i_43_11 : a_ins 43 11 = some (.ireturn, 1, 0, 0, 0) := by decide +kernel
theorem i_43_12 : a_ins 43 12 = some (.aload_n 0, 1, 0, 0, 0) := by decide +kernel
theorem i_43_13 : a_ins 43 13 = some (.getfield 34, 3, 0, 4, 0) := by decide +kernel
theorem i_43_16 : a_ins 43 16 = some (.iload_n 1, 1, 0, 0, 0) := by decide +kernel
theorem i_43_17 : a_ins 43 17 = some (.baload, 1, 0, 0, 0) := by decide +kernel
theorem i_43_18 : a_ins 43 18 = some (.ifCond .ne (6), 3, 24, 0, 0) := by decide +kernel
theorem i_43_21 : a_ins 43 21 = some (.bipush (-6), 2, 0, 0, -6) := by decide +kernel
theorem i_43_23 : a_ins 43 23 = some (.ireturn, 1, 0, 0, 0) := by decide +kernel
theorem i_43_24 : a_ins 43 24 = some (.aload_n 0, 1, 0, 0, 0) := by decide +kernel
theorem i_43_25 : a_ins 43 25 = some (.getfield 10, 3, 0, 0, 0) := by decide +kernel
theorem i_43_28 : a_ins 43 28 = some (.aload_n 0, 1, 0, 0, 0) := by decide +kernel
theorem i_43_29 : a_ins 43 29 = some (.getfield 30, 3, 0, 3, 0) := by decide +kernel
theorem i_43_32 : a_ins 43 32 = some (.iload_n 1, 1, 0, 0, 0) := by decide +kernel
theorem i_43_33 : a_ins 43 33 = some (.aaload, 1, 0, 0, 0) := by decide +kernel
theorem i_43_34 : a_ins 43 34 = some (.invokevirtual 181, 3, 50, 2, 0) := by decide +kernel
theorem i_43_37 : a_ins 43 37 = some (.aload_n 0, 1, 0, 0, 0) := by decide +kernel
theorem i_43_38 : a_ins 43 38 = some (.getfield 26, 3, 0, 2, 0) := by decide +kernel
theorem i_43_41 : a_ins 43 41 = some (.iconst (0), 1, 0, 0, 0) := by decide +kernel
theorem i_43_42 : a_ins 43 42 = some (.putfield 267, 3, 3, 2, 0) := by decide +kernel
theorem i_43_45 : a_ins 43 45 = some (.iconst (0), 1, 0, 0, 0) := by decide +kernel
theorem i_43_46 : a_ins 43 46 = some (.ireturn, 1, 0, 0, 0) := by decide +kernel
theorem i_44_0 : a_ins 44 0 = some (.iload_n 1, 1, 0, 0, 0) := by decide +kernel
theorem i_44_1 : a_ins 44 1 = some (.tableswitch (115) (0) (7) #[47, 55, 63, 71, 79, 87, 102, 110], 47, 0, 0, 0) := by decide +kernel
theorem i_44_48 : a_ins 44 48 = some (.aload_n 0, 1, 0, 0, 0) := by decide +kernel
theorem i_44_49 : a_ins 44 49 = some (.getfield 10, 3, 0, 0, 0) := by decide +kernel
theorem i_44_52 : a_ins 44 52 = some (.getfield 164, 3, 1, 0, 0) := by decide +kernel
theorem i_44_55 : a_ins 44 55 = some (.ireturn, 1, 0, 0, 0) := by decide +kernel
theorem i_44_56 : a_ins 44 56 = some (.aload_n 0, 1, 0, 0, 0) := by decide +kernel
theorem i_44_57 : a_ins 44 57 = some (.getfield 10, 3, 0, 0, 0) := by decide +kernel
theorem i_44_60 : a_ins 44 60 = some (.getfield 272, 3, 1, 1, 0) := by decide +kernel
theorem i_44_63 : a_ins 44 63 = some (.ireturn, 1, 0, 0, 0) := by decide +kernel
theorem i_44_64 : a_ins 44 64 = some (.aload_n 0, 1, 0, 0, 0) := by decide +kernel
theorem i_44_65 : a_ins 44 65 = some (.getfield 10, 3, 0, 0, 0) := by decide +kernel
theorem i_44_68 : a_ins 44 68 = some (.getfield 275, 3, 1, 2, 0) := by decide +kernel
theorem i_44_71 : a_ins 44 71 = some (.ireturn, 1, 0, 0, 0) := by decide +kernel
theorem i_44_72 : a_ins 44 72 = some (.aload_n 0, 1, 0, 0, 0) := by decide +kernel
theorem i_44_73 : a_ins 44 73 = some (.getfield 10, 3, 0, 0, 0) := by decide +kernel
theorem i_44_76 : a_ins 44 76 = some (.getfield 168, 3, 1, 3, 0) := by decide +kernel
theorem i_44_79 : a_ins 44 79 = some (.ireturn, 1, 0, 0, 0) := by decide +kernel
theorem i_44_80 : a_ins 44 80 = some (.aload_n 0, 1, 0, 0, 0) := by decide +kernel
theorem i_44_81 : a_ins 44 81 = some (.getfield 10, 3, 0, 0, 0) := by decide +kernel
theorem i_44_84 : a_ins 44 84 = some (.getfield 171, 3, 1, 4, 0) := by decide +kernel
theorem i_44_87 : a_ins 44 87 = some (.ireturn, 1, 0, 0, 0) := by decide +kernel
theorem i_44_88 : a_ins 44 88 = some (.aload_n 0, 1, 0, 0, 0) := by decide +kernel
theorem i_44_89 : a_ins 44 89 = some (.getfield 10, 3, 0, 0, 0) := by decide +kernel
theorem i_44_92 : a_ins 44 92 = some (.aload_n 0, 1, 0, 0, 0) := by decide +kernel
theorem i_44_93 : a_ins 44 93 = some (.getfield 10, 3, 0, 0, 0) := by decide +kernel
theorem i_44_96 : a_ins 44 96 = some (.invokevirtual 155, 3, 47, 1, 0) := by decide +kernel
theorem i_44_99 : a_ins 44 99 = some (.invokevirtual 174, 3, 49, 2, 0) := by decide +kernel
theorem i_44_102 : a_ins 44 102 = some (.ireturn, 1, 0, 0, 0) := by decide +kernel
theorem i_44_103 : a_ins 44 103 = some (.aload_n 0, 1, 0, 0, 0) := by decide +kernel
theorem i_44_104 : a_ins 44 104 = some (.getfield 26, 3, 0, 2, 0) := by decide +kernel
theorem i_44_107 : a_ins 44 107 = some (.getfield 267, 3, 3, 2, 0) := by decide +kernel
theorem i_44_110 : a_ins 44 110 = some (.ireturn, 1, 0, 0, 0) := by decide +kernel
theorem i_44_111 : a_ins 44 111 = some (.aload_n 0, 1, 0, 0, 0) := by decide +kernel
theorem i_44_112 : a_ins 44 112 = some (.getfield 232, 3, 0, 6, 0) := by decide +kernel
theorem i_44_115 : a_ins 44 115 = some (.ireturn, 1, 0, 0, 0) := by decide +kernel
theorem i_44_116 : a_ins 44 116 = some (.iconst (-1), 1, 0, 0, -1) := by decide +kernel
theorem i_44_117 : a_ins 44 117 = some (.ireturn, 1, 0, 0, 0) := by decide +kernel
theorem i_45_0 : a_ins 45 0 = some (.aload_n 0, 1, 0, 0, 0) := by decide +kernel
theorem i_45_1 : a_ins 45 1 = some (.invokespecial 3, 3, 1000, 1, 0) := by decide +kernel
theorem i_45_4 : a_ins 45 4 = some (.aload_n 0, 1, 0, 0, 0) := by decide +kernel
theorem i_45_5 : a_ins 45 5 = some (.iconst (2), 1, 0, 0, 2) := by decide +kernel
theorem i_45_6 : a_ins 45 6 = some (.putfield 9, 3, 1, 0, 0) := by decide +kernel
theorem i_45_9 : a_ins 45 9 = some (.aload_n 0, 1, 0, 0, 0) := by decide +kernel
theorem i_45_10 : a_ins 45 10 = some (.iconst (5), 1, 0, 0, 5) := by decide +kernel
theorem i_45_11 : a_ins 45 11 = some (.newarray .int, 2, 0, 0, 0) := by decide +kernel
theorem i_45_13 : a_ins 45 13 = some (.putfield 15, 3, 1, 5, 0) := by decide +kernel
theorem i_45_16 : a_ins 45 16 = some (.aload_n 0, 1, 0, 0, 0) := by decide +kernel
theorem i_45_17 : a_ins 45 17 = some (.iconst (5), 1, 0, 0, 5) := by decide +kernel
theorem i_45_18 : a_ins 45 18 = some (.newarray .int, 2, 0, 0, 0) := by decide +kernel
theorem i_45_20 : a_ins 45 20 = some (.putfield 19, 3, 1, 6, 0) := by decide +kernel
theorem i_45_23 : a_ins 45 23 = some (.aload_n 0, 1, 0, 0, 0) := by decide +kernel
theorem i_45_24 : a_ins 45 24 = some (.iconst (5), 1, 0, 0, 5) := by decide +kernel
theorem i_45_25 : a_ins 45 25 = some (.newarray .int, 2, 0, 0, 0) := by decide +kernel
theorem i_45_27 : a_ins 45 27 = some (.putfield 22, 3, 1, 7, 0) := by decide +kernel
theorem i_45_30 : a_ins 45 30 = some (.aload_n 0, 1, 0, 0, 0) := by decide +kernel
theorem i_45_31 : a_ins 45 31 = some (.iconst (5), 1, 0, 0, 5) := by decide +kernel
theorem i_45_32 : a_ins 45 32 = some (.newarray .int, 2, 0, 0, 0) := by decide +kernel
theorem i_45_34 : a_ins 45 34 = some (.putfield 25, 3, 1, 8, 0) := by decide +kernel
theorem i_45_37 : a_ins 45 37 = some (.aload_n 0, 1, 0, 0, 0) := by decide +kernel
theorem i_45_38 : a_ins 45 38 = some (.iconst (5), 1, 0, 0, 5) := by decide +kernel
theorem i_45_39 : a_ins 45 39 = some (.newarray .int, 2, 0, 0, 0) := by decide +kernel
theorem i_45_41 : a_ins 45 41 = some (.putfield 28, 3, 1, 9, 0) := by decide +kernel
theorem i_45_44 : a_ins 45 44 = some (.aload_n 0, 1, 0, 0, 0) := by decide +kernel
theorem i_45_45 : a_ins 45 45 = some (.iconst (5), 1, 0, 0, 5) := by decide +kernel
theorem i_45_46 : a_ins 45 46 = some (.newarray .int, 2, 0, 0, 0) := by decide +kernel
theorem i_45_48 : a_ins 45 48 = some (.putfield 31, 3, 1, 10, 0) := by decide +kernel
theorem i_45_51 : a_ins 45 51 = some (.aload_n 0, 1, 0, 0, 0) := by decide +kernel
theorem i_45_52 : a_ins 45 52 = some (.new 34, 3, 2, 0, 0) := by decide +kernel
theorem i_45_55 : a_ins 45 55 = some (.dup, 1, 0, 0, 0) := by decide +kernel
theorem i_45_56 : a_ins 45 56 = some (.invokespecial 36, 3, 96, 1, 0) := by decide +kernel
theorem i_45_59 : a_ins 45 59 = some (.putfield 37, 3, 1, 11, 0) := by decide +kernel
theorem i_45_62 : a_ins 45 62 = some (.return_, 1, 0, 0, 0) := by decide +kernel
theorem i_46_0 : a_ins 46 0 = some (.aload_n 0, 1, 0, 0, 0) := by decide +kernel
theorem i_46_1 : a_ins 46 1 = some (.iload_n 1, 1, 0, 0, 0) := by decide +kernel
theorem i_46_2 : a_ins 46 2 = some (.putfield 9, 3, 1, 0, 0) := by decide +kernel
theorem i_46_5 : a_ins 46 5 = some (.aload_n 0, 1, 0, 0, 0) := by decide +kernel
theorem i_46_6 : a_ins 46 6 = some (.iload_n 2, 1, 0, 0, 0) := by decide +kernel
theorem i_46_7 : a_ins 46 7 = some (.putfield 41, 3, 1, 1, 0) := by decide +kernel
theorem i_46_10 : a_ins 46 10 = some (.aload_n 0, 1, 0, 0, 0) := by decide +kernel
theorem i_46_11 : a_ins 46 11 = some (.iconst (0), 1, 0, 0, 0) := by decide +kernel
theorem i_46_12 : a_ins 46 12 = some (.putfield 44, 3, 1, 2, 0) := by decide +kernel
theorem i_46_15 : a_ins 46 15 = some (.aload_n 0, 1, 0, 0, 0) := by decide +kernel
theorem i_46_16 : a_ins 46 16 = some (.getfield 37, 3, 1, 11, 0) := by decide +kernel
theorem i_46_19 : a_ins 46 19 = some (.invokevirtual 47, 3, 97, 1, 0) := by decide +kernel
theorem i_46_22 : a_ins 46 22 = some (.aload_n 0, 1, 0, 0, 0) := by decide +kernel
theorem i_46_23 : a_ins 46 23 = some (.getfield 15, 3, 1, 5, 0) := by decide +kernel
theorem i_46_26 : a_ins 46 26 = some (.iconst (0), 1, 0, 0, 0) := by decide +kernel
theorem i_46_27 : a_ins 46 27 = some (.invokestatic 50, 3, 263, 2, 0) := by decide +kernel
theorem i_46_30 : a_ins 46 30 = some (.aload_n 0, 1, 0, 0, 0) := by decide +kernel
theorem i_46_31 : a_ins 46 31 = some (.getfield 19, 3, 1, 6, 0) := by decide +kernel
theorem i_46_34 : a_ins 46 34 = some (.iconst (1), 1, 0, 0, 1) := by decide +kernel
theorem i_46_35 : a_ins 46 35 = some (.invokestatic 50, 3, 263, 2, 0) := by decide +kernel
theorem i_46_38 : a_ins 46 38 = some (.aload_n 0, 1, 0, 0, 0) := by decide +kernel
theorem i_46_39 : a_ins 46 39 = some (.getfield 22, 3, 1, 7, 0) := by decide +kernel
theorem i_46_42 : a_ins 46 42 = some (.iconst (0), 1, 0, 0, 0) := by decide +kernel
theorem i_46_43 : a_ins 46 43 = some (.invokestatic 50, 3, 263, 2, 0) := by decide +kernel
theorem i_46_46 : a_ins 46 46 = some (.aload_n 0, 1, 0, 0, 0) := by decide +kernel
theorem i_46_47 : a_ins 46 47 = some (.getfield 25, 3, 1, 8, 0) := by decide +kernel
theorem i_46_50 : a_ins 46 50 = some (.iconst (1), 1, 0, 0, 1) := by decide +kernel
theorem i_46_51 : a_ins 46 51 = some (.invokestatic 50, 3, 263, 2, 0) := by decide +kernel
theorem i_46_54 : a_ins 46 54 = some (.aload_n 0, 1, 0, 0, 0) := by decide +kernel
theorem i_46_55 : a_ins 46 55 = some (.getfield 28, 3, 1, 9, 0) := by decide +kernel
theorem i_46_58 : a_ins 46 58 = some (.iconst (1), 1, 0, 0, 1) := by decide +kernel
theorem i_46_59 : a_ins 46 59 = some (.invokestatic 50, 3, 263, 2, 0) := by decide +kernel
theorem i_46_62 : a_ins 46 62 = some (.aload_n 0, 1, 0, 0, 0) := by decide +kernel
theorem i_46_63 : a_ins 46 63 = some (.getfield 31, 3, 1, 10, 0) := by decide +kernel
theorem i_46_66 : a_ins 46 66 = some (.aload_n 0, 1, 0, 0, 0) := by decide +kernel
theorem i_46_67 : a_ins 46 67 = some (.invokevirtual 56, 3, 47, 1, 0) := by decide +kernel
theorem i_46_70 : a_ins 46 70 = some (.invokestatic 50, 3, 263, 2, 0) := by decide +kernel
theorem i_46_73 : a_ins 46 73 = some (.aload_n 0, 1, 0, 0, 0) := by decide +kernel
theorem i_46_74 : a_ins 46 74 = some (.invokevirtual 60, 3, 48, 1, 0) := by decide +kernel
theorem i_46_77 : a_ins 46 77 = some (.return_, 1, 0, 0, 0) := by decide +kernel
theorem i_47_0 : a_ins 47 0 = some (.iconst (1), 1, 0, 0, 1) := by decide +kernel
theorem i_47_1 : a_ins 47 1 = some (.aload_n 0, 1, 0, 0, 0) := by decide +kernel
theorem i_47_2 : a_ins 47 2 = some (.getfield 9, 3, 1, 0, 0) := by decide +kernel
theorem i_47_5 : a_ins 47 5 = some (.ishl, 1, 0, 0, 0) := by decide +kernel
theorem i_47_6 : a_ins 47 6 = some (.iconst (1), 1, 0, 0, 1) := by decide +kernel
theorem i_47_7 : a_ins 47 7 = some (.isub, 1, 0, 0, 0) := by decide +kernel
theorem i_47_8 : a_ins 47 8 = some (.ireturn, 1, 0, 0, 0) := by decide +kernel
theorem i_48_0 : a_ins 48 0 = some (.aload_n 0, 1, 0, 0, 0) := by decide +kernel
theorem i_48_1 : a_ins 48 1 = some (.aload_n 0, 1, 0, 0, 0) := by decide +kernel
theorem i_48_2 : a_ins 48 2 = some (.invokevirtual 56, 3, 47, 1, 0) := by decide +kernel
theorem i_48_5 : a_ins 48 5 = some (.invokevirtual 93, 3, 49, 2, 0) := by decide +kernel
theorem i_48_8 : a_ins 48 8 = some (.iconst (2), 1, 0, 0, 2) := by decide +kernel
theorem i_48_9 : a_ins 48 9 = some (.idiv, 1, 0, 0, 0) := by decide +kernel
theorem i_48_10 : a_ins 48 10 = some (.iconst (1), 1, 0, 0, 1) := by decide +kernel
theorem i_48_11 : a_ins 48 11 = some (.iadd, 1, 0, 0, 0) := by decide +kernel
theorem i_48_12 : a_ins 48 12 = some (.istore_n 1, 1, 0, 0, 0) := by decide +kernel
theorem i_48_13 : a_ins 48 13 = some (.aload_n 0, 1, 0, 0, 0) := by decide +kernel
theorem i_48_14 : a_ins 48 14 = some (.iload_n 1, 1, 0, 0, 0) := by decide +kernel
theorem i_48_15 : a_ins 48 15 = some (.putfield 77, 3, 1, 3, 0) := by decide +kernel
theorem i_48_18 : a_ins 48 18 = some (.aload_n 0, 1, 0, 0, 0) := by decide +kernel
theorem i_48_19 : a_ins 48 19 = some (.iload_n 1, 1, 0, 0, 0) := by decide +kernel
theorem i_48_20 : a_ins 48 20 = some (.putfield 80, 3, 1, 4, 0) := by decide +kernel
theorem i_48_23 : a_ins 48 23 = some (.return_, 1, 0, 0, 0) := by decide +kernel
theorem i_49_0 : a_ins 49 0 = some (.iconst (0), 1, 0, 0, 0) := by decide +kernel
theorem i_49_1 : a_ins 49 1 = some (.istore_n 2, 1, 0, 0, 0) := by decide +kernel
theorem i_49_2 : a_ins 49 2 = some (.iconst (0), 1, 0, 0, 0) := by decide +kernel
theorem i_49_3 : a_ins 49 3 = some (.istore_n 3, 1, 0, 0, 0) := by decide +kernel
theorem i_49_4 : a_ins 49 4 = some (.iload_n 3, 1, 0, 0, 0) := by decide +kernel
theorem i_49_5 : a_ins 49 5 = some (.aload_n 0, 1, 0, 0, 0) := by decide +kernel
theorem i_49_6 : a_ins 49 6 = some (.getfield 9, 3, 1, 0, 0) := by decide +kernel
theorem i_49_9 : a_ins 49 9 = some (.if_icmp .ge (27), 3, 36, 0, 0) := by decide +kernel
theorem i_49_12 : a_ins 49 12 = some (.iload_n 1, 1, 0, 0, 0) := by decide +kernel
theorem i_49_13 : a_ins 49 13 = some (.iload_n 3, 1, 0, 0, 0) := by decide +kernel
theorem i_49_14 : a_ins 49 14 = some (.ishr, 1, 0, 0, 0) := by decide +kernel
theorem i_49_15 : a_ins 49 15 = some (.iconst (1), 1, 0, 0, 1) := by decide +kernel
theorem i_49_16 : a_ins 49 16 = some (.iand, 1, 0, 0, 0) := by decide +kernel
theorem i_49_17 : a_ins 49 17 = some (.iconst (1), 1, 0, 0, 1) := by decide +kernel
theorem i_49_18 : a_ins 49 18 = some (.if_icmp .ne (12), 3, 30, 0, 0) := by decide +kernel
theorem i_49_21 : a_ins 49 21 = some (.iload_n 2, 1, 0, 0, 0) := by decide +kernel
theorem i_49_22 : a_ins 49 22 = some (.aload_n 0, 1, 0, 0, 0) := by decide +kernel
theorem i_49_23 : a_ins 49 23 = some (.getfield 28, 3, 1, 9, 0) := by decide +kernel
theorem i_49_26 : a_ins 49 26 = some (.iload_n 3, 1, 0, 0, 0) := by decide +kernel
theorem i_49_27 : a_ins 49 27 = some (.iaload, 1, 0, 0, 0) := by decide +kernel
theorem i_49_28 : a_ins 49 28 = some (.iadd, 1, 0, 0, 0) := by decide +kernel
theorem i_49_29 : a_ins 49 29 = some (.istore_n 2, 1, 0, 0, 0) := by decide +kernel
theorem i_49_30 : a_ins 49 30 = some (.iinc 3 (1), 3, 0, 0, 1) := by decide +kernel
theorem i_49_33 : a_ins 49 33 = some (.goto (-29), 3, 4, 0, 0) := by decide +kernel
theorem i_49_36 : a_ins 49 36 = some (.iload_n 2, 1, 0, 0, 0) := by decide +kernel
theorem i_49_37 : a_ins 49 37 = some (.ireturn, 1, 0, 0, 0) := by decide +kernel
theorem i_50_0 : a_ins 50 0 = some (.aload_n 0, 1, 0, 0, 0) := by decide +kernel
theorem i_50_1 : a_ins 50 1 = some (.aload_n 1, 1, 0, 0, 0) := by decide +kernel
theorem i_50_2 : a_ins 50 2 = some (.invokevirtual 63, 3, 51, 2, 0) := by decide +kernel
theorem i_50_5 : a_ins 50 5 = some (.aload_n 0, 1, 0, 0, 0) := by decide +kernel
theorem i_50_6 : a_ins 50 6 = some (.aload_n 1, 1, 0, 0, 0) := by decide +kernel
theorem i_50_7 : a_ins 50 7 = some (.getfield 44, 3, 1, 2, 0) := by decide +kernel
theorem i_50_10 : a_ins 50 10 = some (.putfield 44, 3, 1, 2, 0) := by decide +kernel
theorem i_50_13 : a_ins 50 13 = some (.aload_n 1, 1, 0, 0, 0) := by decide +kernel
theorem i_50_14 : a_ins 50 14 = some (.getfield 15, 3, 1, 5, 0) := by decide +kernel
theorem i_50_17 : a_ins 50 17 = some (.iconst (0), 1, 0, 0, 0) := by decide +kernel
theorem i_50_18 : a_ins 50 18 = some (.aload_n 0, 1, 0, 0, 0) := by decide +kernel
theorem i_50_19 : a_ins 50 19 = some (.getfield 15, 3, 1, 5, 0) := by decide +kernel
theorem i_50_22 : a_ins 50 22 = some (.iconst (0), 1, 0, 0, 0) := by decide +kernel
theorem i_50_23 : a_ins 50 23 = some (.iconst (5), 1, 0, 0, 5) := by decide +kernel
theorem i_50_24 : a_ins 50 24 = some (.invokestatic 67, 3, 1001, 5, 0) := by decide +kernel
theorem i_50_27 : a_ins 50 27 = some (.aload_n 1, 1, 0, 0, 0) := by decide +kernel
theorem i_50_28 : a_ins 50 28 = some (.getfield 19, 3, 1, 6, 0) := by decide +kernel
theorem i_50_31 : a_ins 50 31 = some (.iconst (0), 1, 0, 0, 0) := by decide +kernel
theorem i_50_32 : a_ins 50 32 = some (.aload_n 0, 1, 0, 0, 0) := by decide +kernel
theorem i_50_33 : a_ins 50 33 = some (.getfield 19, 3, 1, 6, 0) := by decide +kernel
theorem i_50_36 : a_ins 50 36 = some (.iconst (0), 1, 0, 0, 0) := by decide +kernel
theorem i_50_37 : a_ins 50 37 = some (.iconst (5), 1, 0, 0, 5) := by decide +kernel
theorem i_50_38 : a_ins 50 38 = some (.invokestatic 67, 3, 1001, 5, 0) := by decide +kernel
theorem i_50_41 : a_ins 50 41 = some (.aload_n 1, 1, 0, 0, 0) := by decide +kernel
theorem i_50_42 : a_ins 50 42 = some (.getfield 22, 3, 1, 7, 0) := by decide +kernel
theorem i_50_45 : a_ins 50 45 = some (.iconst (0), 1, 0, 0, 0) := by decide +kernel
theorem i_50_46 : a_ins 50 46 = some (.aload_n 0, 1, 0, 0, 0) := by decide +kernel
theorem i_50_47 : a_ins 50 47 = some (.getfield 22, 3, 1, 7, 0) := by decide +kernel
theorem i_50_50 : a_ins 50 50 = some (.iconst (0), 1, 0, 0, 0) := by decide +kernel
theorem i_50_51 : a_ins 50 51 = some (.iconst (5), 1, 0, 0, 5) := by decide +kernel
theorem i_50_52 : a_ins 50 52 = some (.invokestatic 67, 3, 1001, 5, 0) := by decide +kernel
theorem i_50_55 : a_ins 50 55 = some (.aload_n 1, 1, 0, 0, 0) := by decide +kernel
theorem i_50_56 : a_ins 50 56 = some (.getfield 31, 3, 1, 10, 0) := by decide +kernel
theorem i_50_59 : a_ins 50 59 = some (.iconst (0), 1, 0, 0, 0) := by decide +kernel
theorem i_50_60 : a_ins 50 60 = some (.aload_n 0, 1, 0, 0, 0) := by decide +kernel
theorem i_50_61 : a_ins 50 61 = some (.getfield 31, 3, 1, 10, 0) := by decide +kernel
theorem i_50_64 : a_ins 50 64 = some (.iconst (0), 1, 0, 0, 0) := by decide +kernel
theorem i_50_65 : a_ins 50 65 = some (.iconst (5), 1, 0, 0, 5) := by decide +kernel
theorem i_50_66 : a_ins 50 66 = some (.invokestatic 67, 3, 1001, 5, 0) := by decide +kernel
theorem i_50_69 : a_ins 50 69 = some (.aload_n 0, 1, 0, 0, 0) := by decide +kernel
theorem i_50_70 : a_ins 50 70 = some (.getfield 37, 3, 1, 11, 0) := by decide +kernel
theorem i_50_73 : a_ins 50 73 = some (.aload_n 1, 1, 0, 0, 0) := by decide +kernel
theorem i_50_74 : a_ins 50 74 = some (.getfield 37, 3, 1, 11, 0) := by decide +kernel
theorem i_50_77 : a_ins 50 77 = some (.invokevirtual 73, 3, 98, 2, 0) := by decide +kernel
theorem i_50_80 : a_ins 50 80 = some (.return_, 1, 0, 0, 0) := by decide +kernel
theorem i_51_0 : a_ins 51 0 = some (.aload_n 0, 1, 0, 0, 0) := by decide +kernel
theorem i_51_1 : a_ins 51 1 = some (.aload_n 1, 1, 0, 0, 0) := by decide +kernel
theorem i_51_2 : a_ins 51 2 = some (.getfield 9, 3, 1, 0, 0) := by decide +kernel
theorem i_51_5 : a_ins 51 5 = some (.putfield 9, 3, 1, 0, 0) := by decide +kernel
theorem i_51_8 : a_ins 51 8 = some (.aload_n 0, 1, 0, 0, 0) := by decide +kernel
theorem i_51_9 : a_ins 51 9 = some (.aload_n 1, 1, 0, 0, 0) := by decide +kernel
theorem i_51_10 : a_ins 51 10 = some (.getfield 41, 3, 1, 1, 0) := by decide +kernel
theorem i_51_13 : a_ins 51 13 = some (.putfield 41, 3, 1, 1, 0) := by decide +kernel
theorem i_51_16 : a_ins 51 16 = some (.aload_n 0, 1, 0, 0, 0) := by decide +kernel
theorem i_51_17 : a_ins 51 17 = some (.aload_n 1, 1, 0, 0, 0) := by decide +kernel
theorem i_51_18 : a_ins 51 18 = some (.getfield 77, 3, 1, 3, 0) := by decide +kernel
theorem i_51_21 : a_ins 51 21 = some (.putfield 77, 3, 1, 3, 0) := by decide +kernel
theorem i_51_24 : a_ins 51 24 = some (.aload_n 0, 1, 0, 0, 0) := by decide +kernel
theorem i_51_25 : a_ins 51 25 = some (.aload_n 1, 1, 0, 0, 0) := by decide +kernel
theorem i_51_26 : a_ins 51 26 = some (.getfield 80, 3, 1, 4, 0) := by decide +kernel
theorem i_51_29 : a_ins 51 29 = some (.putfield 80, 3, 1, 4, 0) := by decide +kernel
theorem i_51_32 : a_ins 51 32 = some (.aload_n 1, 1, 0, 0, 0) := by decide +kernel
theorem i_51_33 : a_ins 51 33 = some (.getfield 25, 3, 1, 8, 0) := by decide +kernel
theorem i_51_36 : a_ins 51 36 = some (.iconst (0), 1, 0, 0, 0) := by decide +kernel
theorem i_51_37 : a_ins 51 37 = some (.aload_n 0, 1, 0, 0, 0) := by decide +kernel
theorem i_51_38 : a_ins 51 38 = some (.getfield 25, 3, 1, 8, 0) := by decide +kernel
theorem i_51_41 : a_ins 51 41 = some (.iconst (0), 1, 0, 0, 0) := by decide +kernel
theorem i_51_42 : a_ins 51 42 = some (.iconst (5), 1, 0, 0, 5) := by decide +kernel
theorem i_51_43 : a_ins 51 43 = some (.invokestatic 67, 3, 1001, 5, 0) := by decide +kernel
theorem i_51_46 : a_ins 51 46 = some (.aload_n 1, 1, 0, 0, 0) := by decide +kernel
theorem i_51_47 : a_ins 51 47 = some (.getfield 28, 3, 1, 9, 0) := by decide +kernel
theorem i_51_50 : a_ins 51 50 = some (.iconst (0), 1, 0, 0, 0) := by decide +kernel
theorem i_51_51 : a_ins 51 51 = some (.aload_n 0, 1, 0, 0, 0) := by decide +kernel
theorem i_51_52 : a_ins 51 52 = some (.getfield 28, 3, 1, 9, 0) := by decide +kernel
theorem i_51_55 : a_ins 51 55 = some (.iconst (0), 1, 0, 0, 0) := by decide +kernel
theorem i_51_56 : a_ins 51 56 = some (.iconst (5), 1, 0, 0, 5) := by decide +kernel
theorem i_51_57 : a_ins 51 57 = some (.invokestatic 67, 3, 1001, 5, 0) := by decide +kernel
theorem i_51_60 : a_ins 51 60 = some (.return_, 1, 0, 0, 0) := by decide +kernel
theorem i_52_0 : a_ins 52 0 = some (.aload_n 0, 1, 0, 0, 0) := by decide +kernel
theorem i_52_1 : a_ins 52 1 = some (.iload_n 1, 1, 0, 0, 0) := by decide +kernel
theorem i_52_2 : a_ins 52 2 = some (.invokevirtual 116, 3, 53, 2, 0) := by decide +kernel
theorem i_52_5 : a_ins 52 5 = some (.ifCond .ne (6), 3, 11, 0, 0) := by decide +kernel
theorem i_52_8 : a_ins 52 8 = some (.bipush (-2), 2, 0, 0, -2) := by decide +kernel
theorem i_52_10 : a_ins 52 10 = some (.ireturn, 1, 0, 0, 0) := by decide +kernel
theorem i_52_11 : a_ins 52 11 = some (.iload_n 2, 1, 0, 0, 0) := by decide +kernel
theorem i_52_12 : a_ins 52 12 = some (.ifCond .lt (8), 3, 20, 0, 0) := by decide +kernel
theorem i_52_15 : a_ins 52 15 = some (.iload_n 2, 1, 0, 0, 0) := by decide +kernel
theorem i_52_16 : a_ins 52 16 = some (.iconst (1), 1, 0, 0, 1) := by decide +kernel
theorem i_52_17 : a_ins 52 17 = some (.if_icmp .le (6), 3, 23, 0, 0) := by decide +kernel
theorem i_52_20 : a_ins 52 20 = some (.bipush (-3), 2, 0, 0, -3) := by decide +kernel
theorem i_52_22 : a_ins 52 22 = some (.ireturn, 1, 0, 0, 0) := by decide +kernel
theorem i_52_23 : a_ins 52 23 = some (.aload_n 0, 1, 0, 0, 0) := by decide +kernel
theorem i_52_24 : a_ins 52 24 = some (.getfield 15, 3, 1, 5, 0) := by decide +kernel
theorem i_52_27 : a_ins 52 27 = some (.iload_n 1, 1, 0, 0, 0) := by decide +kernel
theorem i_52_28 : a_ins 52 28 = some (.iaload, 1, 0, 0, 0) := by decide +kernel
theorem i_52_29 : a_ins 52 29 = some (.ifCond .eq (6), 3, 35, 0, 0) := by decide +kernel
theorem i_52_32 : a_ins 52 32 = some (.bipush (-5), 2, 0, 0, -5) := by decide +kernel
theorem i_52_34 : a_ins 52 34 = some (.ireturn, 1, 0, 0, 0) := by decide +kernel
theorem i_52_35 : a_ins 52 35 = some (.aload_n 0, 1, 0, 0, 0) := by decide +kernel
theorem i_52_36 : a_ins 52 36 = some (.getfield 25, 3, 1, 8, 0) := by decide +kernel
theorem i_52_39 : a_ins 52 39 = some (.iload_n 1, 1, 0, 0, 0) := by decide +kernel
theorem i_52_40 : a_ins 52 40 = some (.iaload, 1, 0, 0, 0) := by decide +kernel
theorem i_52_41 : a_ins 52 41 = some (.istore_n 3, 1, 0, 0, 0) := by decide +kernel
theorem i_52_42 : a_ins 52 42 = some (.aload_n 0, 1, 0, 0, 0) := by decide +kernel
theorem i_52_43 : a_ins 52 43 = some (.getfield 25, 3, 1, 8, 0) := by decide +kernel
theorem i_52_46 : a_ins 52 46 = some (.iload_n 1, 1, 0, 0, 0) := by decide +kernel
theorem i_52_47 : a_ins 52 47 = some (.iload_n 2, 1, 0, 0, 0) := by decide +kernel
theorem i_52_48 : a_ins 52 48 = some (.iastore, 1, 0, 0, 0) := by decide +kernel
theorem i_52_49 : a_ins 52 49 = some (.iload_n 3, 1, 0, 0, 0) := by decide +kernel
theorem i_52_50 : a_ins 52 50 = some (.ireturn, 1, 0, 0, 0) := by decide +kernel
theorem i_53_0 : a_ins 53 0 = some (.iload_n 1, 1, 0, 0, 0) := by decide +kernel
theorem i_53_1 : a_ins 53 1 = some (.ifCond .lt (15), 3, 16, 0, 0) := by decide +kernel
theorem i_53_4 : a_ins 53 4 = some (.iload_n 1, 1, 0, 0, 0) := by decide +kernel
theorem i_53_5 : a_ins 53 5 = some (.aload_n 0, 1, 0, 0, 0) := by decide +kernel
theorem i_53_6 : a_ins 53 6 = some (.getfield 9, 3, 1, 0, 0) := by decide +kernel
theorem i_53_9 : a_ins 53 9 = some (.if_icmp .ge (7), 3, 16, 0, 0) := by decide +kernel
theorem i_53_12 : a_ins 53 12 = some (.iconst (1), 1, 0, 0, 1) := by decide +kernel
theorem i_53_13 : a_ins 53 13 = some (.goto (4), 3, 17, 0, 0) := by decide +kernel
theorem i_53_16 : a_ins 53 16 = some (.iconst (0), 1, 0, 0, 0) := by decide +kernel
theorem i_53_17 : a_ins 53 17 = some (.ireturn, 1, 0, 0, 0) := by decide +kernel
theorem i_54_0 : a_ins 54 0 = some (.aload_n 0, 1, 0, 0, 0) := by decide +kernel
theorem i_54_1 : a_ins 54 1 = some (.iload_n 1, 1, 0, 0, 0) := by decide +kernel
theorem i_54_2 : a_ins 54 2 = some (.invokevirtual 116, 3, 53, 2, 0) := by decide +kernel
theorem i_54_5 : a_ins 54 5 = some (.ifCond .ne (6), 3, 11, 0, 0) := by decide +kernel
theorem i_54_8 : a_ins 54 8 = some (.bipush (-2), 2, 0, 0, -2) := by decide +kernel
theorem i_54_10 : a_ins 54 10 = some (.ireturn, 1, 0, 0, 0) := by decide +kernel
theorem i_54_11 : a_ins 54 11 = some (.iload_n 2, 1, 0, 0, 0) := by decide +kernel
theorem i_54_12 : a_ins 54 12 = some (.iconst (1), 1, 0, 0, 1) := by decide +kernel
theorem i_54_13 : a_ins 54 13 = some (.if_icmp .lt (8), 3, 21, 0, 0) := by decide +kernel
theorem i_54_16 : a_ins 54 16 = some (.iload_n 2, 1, 0, 0, 0) := by decide +kernel
theorem i_54_17 : a_ins 54 17 = some (.iconst (3), 1, 0, 0, 3) := by decide +kernel
theorem i_54_18 : a_ins 54 18 = some (.if_icmp .le (6), 3, 24, 0, 0) := by decide +kernel
theorem i_54_21 : a_ins 54 21 = some (.bipush (-3), 2, 0, 0, -3) := by decide +kernel
theorem i_54_23 : a_ins 54 23 = some (.ireturn, 1, 0, 0, 0) := by decide +kernel
theorem i_54_24 : a_ins 54 24 = some (.aload_n 0, 1, 0, 0, 0) := by decide +kernel
theorem i_54_25 : a_ins 54 25 = some (.aload_n 0, 1, 0, 0, 0) := by decide +kernel
theorem i_54_26 : a_ins 54 26 = some (.invokevirtual 56, 3, 47, 1, 0) := by decide +kernel
theorem i_54_29 : a_ins 54 29 = some (.invokevirtual 99, 3, 55, 2, 0) := by decide +kernel
theorem i_54_32 : a_ins 54 32 = some (.iconst (1), 1, 0, 0, 1) := by decide +kernel
theorem i_54_33 : a_ins 54 33 = some (.if_icmp .eq (6), 3, 39, 0, 0) := by decide +kernel
theorem i_54_36 : a_ins 54 36 = some (.bipush (-5), 2, 0, 0, -5) := by decide +kernel
theorem i_54_38 : a_ins 54 38 = some (.ireturn, 1, 0, 0, 0) := by decide +kernel
theorem i_54_39 : a_ins 54 39 = some (.aload_n 0, 1, 0, 0, 0) := by decide +kernel
theorem i_54_40 : a_ins 54 40 = some (.getfield 28, 3, 1, 9, 0) := by decide +kernel
theorem i_54_43 : a_ins 54 43 = some (.iload_n 1, 1, 0, 0, 0) := by decide +kernel
theorem i_54_44 : a_ins 54 44 = some (.iaload, 1, 0, 0, 0) := by decide +kernel
theorem i_54_45 : a_ins 54 45 = some (.istore_n 3, 1, 0, 0, 0) := by decide +kernel
theorem i_54_46 : a_ins 54 46 = some (.aload_n 0, 1, 0, 0, 0) := by decide +kernel
theorem i_54_47 : a_ins 54 47 = some (.getfield 28, 3, 1, 9, 0) := by decide +kernel
theorem i_54_50 : a_ins 54 50 = some (.iload_n 1, 1, 0, 0, 0) := by decide +kernel
theorem i_54_51 : a_ins 54 51 = some (.iload_n 2, 1, 0, 0, 0) := by decide +kernel
theorem i_54_52 : a_ins 54 52 = some (.iastore, 1, 0, 0, 0) := by decide +kernel
theorem i_54_53 : a_ins 54 53 = some (.aload_n 0, 1, 0, 0, 0) := by decide +kernel
theorem i_54_54 : a_ins 54 54 = some (.invokevirtual 60, 3, 48, 1, 0) := by decide +kernel
theorem i_54_57 : a_ins 54 57 = some (.iload_n 3, 1, 0, 0, 0) := by decide +kernel
theorem i_54_58 : a_ins 54 58 = some (.ireturn, 1, 0, 0, 0) := by decide +kernel
theorem i_55_0 : a_ins 55 0 = some (.iconst (0), 1, 0, 0, 0) := by decide +kernel
theorem i_55_1 : a_ins 55 1 = some (.istore_n 2, 1, 0, 0, 0) := by decide +kernel
theorem i_55_2 : a_ins 55 2 = some (.iconst (0), 1, 0, 0, 0) := by decide +kernel
theorem i_55_3 : a_ins 55 3 = some (.istore_n 3, 1, 0, 0, 0) := by decide +kernel
theorem i_55_4 : a_ins 55 4 = some (.iload_n 3, 1, 0, 0, 0) := by decide +kernel
theorem i_55_5 : a_ins 55 5 = some (.aload_n 0, 1, 0, 0, 0) := by decide +kernel
theorem i_55_6 : a_ins 55 6 = some (.getfield 9, 3, 1, 0, 0) := by decide +kernel
theorem i_55_9 : a_ins 55 9 = some (.if_icmp .ge (29), 3, 38, 0, 0) := by decide +kernel
theorem i_55_12 : a_ins 55 12 = some (.iload_n 1, 1, 0, 0, 0) := by decide +kernel
theorem i_55_13 : a_ins 55 13 = some (.iload_n 3, 1, 0, 0, 0) := by decide +kernel
theorem i_55_14 : a_ins 55 14 = some (.ishr, 1, 0, 0, 0) := by decide +kernel
theorem i_55_15 : a_ins 55 15 = some (.iconst (1), 1, 0, 0, 1) := by decide +kernel
theorem i_55_16 : a_ins 55 16 = some (.iand, 1, 0, 0, 0) := by decide +kernel
theorem i_55_17 : a_ins 55 17 = some (.iconst (1), 1, 0, 0, 1) := by decide +kernel
theorem i_55_18 : a_ins 55 18 = some (.if_icmp .ne (14), 3, 32, 0, 0) := by decide +kernel
theorem i_55_21 : a_ins 55 21 = some (.iload_n 2, 1, 0, 0, 0) := by decide +kernel
theorem i_55_22 : a_ins 55 22 = some (.iconst (1), 1, 0, 0, 1) := by decide +kernel
theorem i_55_23 : a_ins 55 23 = some (.aload_n 0, 1, 0, 0, 0) := by decide +kernel
theorem i_55_24 : a_ins 55 24 = some (.getfield 15, 3, 1, 5, 0) := by decide +kernel
theorem i_55_27 : a_ins 55 27 = some (.iload_n 3, 1, 0, 0, 0) := by decide +kernel
theorem i_55_28 : a_ins 55 28 = some (.iaload, 1, 0, 0, 0) := by decide +kernel
theorem i_55_29 : a_ins 55 29 = some (.ishl, 1, 0, 0, 0) := by decide +kernel
theorem i_55_30 : a_ins 55 30 = some (.ior, 1, 0, 0, 0) := by decide +kernel
theorem i_55_31 : a_ins 55 31 = some (.istore_n 2, 1, 0, 0, 0) := by decide +kernel
theorem i_55_32 : a_ins 55 32 = some (.iinc 3 (1), 3, 0, 0, 1) := by decide +kernel
theorem i_55_35 : a_ins 55 35 = some (.goto (-31), 3, 4, 0, 0) := by decide +kernel
theorem i_55_38 : a_ins 55 38 = some (.iload_n 2, 1, 0, 0, 0) := by decide +kernel
theorem i_55_39 : a_ins 55 39 = some (.ireturn, 1, 0, 0, 0) := by decide +kernel
theorem i_56_0 : a_ins 56 0 = some (.iload_n 1, 1, 0, 0, 0) := by decide +kernel
theorem i_56_1 : a_ins 56 1 = some (.iconst (1), 1, 0, 0, 1) := by decide +kernel
theorem i_56_2 : a_ins 56 2 = some (.if_icmp .lt (20), 3, 22, 0, 0) := by decide +kernel
theorem i_56_5 : a_ins 56 5 = some (.iload_n 1, 1, 0, 0, 0) := by decide +kernel
theorem i_56_6 : a_ins 56 6 = some (.bipush (15), 2, 0, 0, 15) := by decide +kernel
theorem i_56_8 : a_ins 56 8 = some (.if_icmp .gt (14), 3, 22, 0, 0) := by decide +kernel
theorem i_56_11 : a_ins 56 11 = some (.iload_n 2, 1, 0, 0, 0) := by decide +kernel
theorem i_56_12 : a_ins 56 12 = some (.iconst (1), 1, 0, 0, 1) := by decide +kernel
theorem i_56_13 : a_ins 56 13 = some (.if_icmp .lt (9), 3, 22, 0, 0) := by decide +kernel
theorem i_56_16 : a_ins 56 16 = some (.iload_n 2, 1, 0, 0, 0) := by decide +kernel
theorem i_56_17 : a_ins 56 17 = some (.bipush (15), 2, 0, 0, 15) := by decide +kernel
theorem i_56_19 : a_ins 56 19 = some (.if_icmp .le (6), 3, 25, 0, 0) := by decide +kernel
theorem i_56_22 : a_ins 56 22 = some (.bipush (-3), 2, 0, 0, -3) := by decide +kernel
theorem i_56_24 : a_ins 56 24 = some (.ireturn, 1, 0, 0, 0) := by decide +kernel
theorem i_56_25 : a_ins 56 25 = some (.aload_n 0, 1, 0, 0, 0) := by decide +kernel
theorem i_56_26 : a_ins 56 26 = some (.aload_n 0, 1, 0, 0, 0) := by decide +kernel
theorem i_56_27 : a_ins 56 27 = some (.invokevirtual 56, 3, 47, 1, 0) := by decide +kernel
theorem i_56_30 : a_ins 56 30 = some (.invokevirtual 93, 3, 49, 2, 0) := by decide +kernel
theorem i_56_33 : a_ins 56 33 = some (.istore_n 3, 1, 0, 0, 0) := by decide +kernel
theorem i_56_34 : a_ins 56 34 = some (.iload_n 1, 1, 0, 0, 0) := by decide +kernel
theorem i_56_35 : a_ins 56 35 = some (.iload_n 2, 1, 0, 0, 0) := by decide +kernel
theorem i_56_36 : a_ins 56 36 = some (.iadd, 1, 0, 0, 0) := by decide +kernel
theorem i_56_37 : a_ins 56 37 = some (.iload_n 3, 1, 0, 0, 0) := by decide +kernel
theorem i_56_38 : a_ins 56 38 = some (.if_icmp .gt (6), 3, 44, 0, 0) := by decide +kernel
theorem i_56_41 : a_ins 56 41 = some (.bipush (-3), 2, 0, 0, -3) := by decide +kernel
theorem i_56_43 : a_ins 56 43 = some (.ireturn, 1, 0, 0, 0) := by decide +kernel
theorem i_56_44 : a_ins 56 44 = some (.aload_n 0, 1, 0, 0, 0) := by decide +kernel
theorem i_56_45 : a_ins 56 45 = some (.aload_n 0, 1, 0, 0, 0) := by decide +kernel
theorem i_56_46 : a_ins 56 46 = some (.invokevirtual 56, 3, 47, 1, 0) := by decide +kernel
theorem i_56_49 : a_ins 56 49 = some (.invokevirtual 99, 3, 55, 2, 0) := by decide +kernel
theorem i_56_52 : a_ins 56 52 = some (.iconst (1), 1, 0, 0, 1) := by decide +kernel
theorem i_56_53 : a_ins 56 53 = some (.if_icmp .eq (6), 3, 59, 0, 0) := by decide +kernel
theorem i_56_56 : a_ins 56 56 = some (.bipush (-5), 2, 0, 0, -5) := by decide +kernel
theorem i_56_58 : a_ins 56 58 = some (.ireturn, 1, 0, 0, 0) := by decide +kernel
theorem i_56_59 : a_ins 56 59 = some (.aload_n 0, 1, 0, 0, 0) := by decide +kernel
theorem i_56_60 : a_ins 56 60 = some (.iload_n 1, 1, 0, 0, 0) := by decide +kernel
theorem i_56_61 : a_ins 56 61 = some (.putfield 77, 3, 1, 3, 0) := by decide +kernel
theorem i_56_64 : a_ins 56 64 = some (.aload_n 0, 1, 0, 0, 0) := by decide +kernel
theorem i_56_65 : a_ins 56 65 = some (.iload_n 2, 1, 0, 0, 0) := by decide +kernel
theorem i_56_66 : a_ins 56 66 = some (.putfield 80, 3, 1, 4, 0) := by decide +kernel
theorem i_56_69 : a_ins 56 69 = some (.iload_n 3, 1, 0, 0, 0) := by decide +kernel
theorem i_56_70 : a_ins 56 70 = some (.ireturn, 1, 0, 0, 0) := by decide +kernel
theorem i_57_0 : a_ins 57 0 = some (.aload_n 0, 1, 0, 0, 0) := by decide +kernel
theorem i_57_1 : a_ins 57 1 = some (.iload_n 1, 1, 0, 0, 0) := by decide +kernel
theorem i_57_2 : a_ins 57 2 = some (.invokevirtual 119, 3, 58, 2, 0) := by decide +kernel
theorem i_57_5 : a_ins 57 5 = some (.ifCond .ne (6), 3, 11, 0, 0) := by decide +kernel
theorem i_57_8 : a_ins 57 8 = some (.bipush (-3), 2, 0, 0, -3) := by decide +kernel
theorem i_57_10 : a_ins 57 10 = some (.ireturn, 1, 0, 0, 0) := by decide +kernel
theorem i_57_11 : a_ins 57 11 = some (.aload_n 0, 1, 0, 0, 0) := by decide +kernel
theorem i_57_12 : a_ins 57 12 = some (.iconst (0), 1, 0, 0, 0) := by decide +kernel
theorem i_57_13 : a_ins 57 13 = some (.iconst (0), 1, 0, 0, 0) := by decide +kernel
theorem i_57_14 : a_ins 57 14 = some (.invokevirtual 122, 3, 59, 3, 0) := by decide +kernel
theorem i_57_17 : a_ins 57 17 = some (.ifCond .ne (6), 3, 23, 0, 0) := by decide +kernel
theorem i_57_20 : a_ins 57 20 = some (.bipush (-5), 2, 0, 0, -5) := by decide +kernel
theorem i_57_22 : a_ins 57 22 = some (.ireturn, 1, 0, 0, 0) := by decide +kernel
theorem i_57_23 : a_ins 57 23 = some (.aload_n 0, 1, 0, 0, 0) := by decide +kernel
theorem i_57_24 : a_ins 57 24 = some (.iload_n 1, 1, 0, 0, 0) := by decide +kernel
theorem i_57_25 : a_ins 57 25 = some (.invokevirtual 126, 3, 60, 2, 0) := by decide +kernel
theorem i_57_28 : a_ins 57 28 = some (.aload_n 0, 1, 0, 0, 0) := by decide +kernel
theorem i_57_29 : a_ins 57 29 = some (.getfield 25, 3, 1, 8, 0) := by decide +kernel
theorem i_57_32 : a_ins 57 32 = some (.iconst (0), 1, 0, 0, 0) := by decide +kernel
theorem i_57_33 : a_ins 57 33 = some (.iaload, 1, 0, 0, 0) := by decide +kernel
theorem i_57_34 : a_ins 57 34 = some (.iconst (1), 1, 0, 0, 1) := by decide +kernel
theorem i_57_35 : a_ins 57 35 = some (.if_icmp .ne (44), 3, 79, 0, 0) := by decide +kernel
theorem i_57_38 : a_ins 57 38 = some (.aload_n 0, 1, 0, 0, 0) := by decide +kernel
theorem i_57_39 : a_ins 57 39 = some (.iconst (0), 1, 0, 0, 0) := by decide +kernel
theorem i_57_40 : a_ins 57 40 = some (.aload_n 0, 1, 0, 0, 0) := by decide +kernel
theorem i_57_41 : a_ins 57 41 = some (.invokevirtual 56, 3, 47, 1, 0) := by decide +kernel
theorem i_57_44 : a_ins 57 44 = some (.iconst (1), 1, 0, 0, 1) := by decide +kernel
theorem i_57_45 : a_ins 57 45 = some (.iconst (1), 1, 0, 0, 1) := by decide +kernel
theorem i_57_46 : a_ins 57 46 = some (.invokevirtual 130, 3, 61, 5, 0) := by decide +kernel
theorem i_57_49 : a_ins 57 49 = some (.ifCond .eq (8), 3, 57, 0, 0) := by decide +kernel
theorem i_57_52 : a_ins 57 52 = some (.aload_n 0, 1, 0, 0, 0) := by decide +kernel
theorem i_57_53 : a_ins 57 53 = some (.getfield 44, 3, 1, 2, 0) := by decide +kernel
theorem i_57_56 : a_ins 57 56 = some (.ireturn, 1, 0, 0, 0) := by decide +kernel
theorem i_57_57 : a_ins 57 57 = some (.aload_n 0, 1, 0, 0, 0) := by decide +kernel
theorem i_57_58 : a_ins 57 58 = some (.aload_n 0, 1, 0, 0, 0) := by decide +kernel
theorem i_57_59 : a_ins 57 59 = some (.invokevirtual 56, 3, 47, 1, 0) := by decide +kernel
theorem i_57_62 : a_ins 57 62 = some (.invokevirtual 99, 3, 55, 2, 0) := by decide +kernel
theorem i_57_65 : a_ins 57 65 = some (.iconst (2), 1, 0, 0, 2) := by decide +kernel
theorem i_57_66 : a_ins 57 66 = some (.if_icmp .ne (13), 3, 79, 0, 0) := by decide +kernel
theorem i_57_69 : a_ins 57 69 = some (.aload_n 0, 1, 0, 0, 0) := by decide +kernel
theorem i_57_70 : a_ins 57 70 = some (.iconst (1), 1, 0, 0, 1) := by decide +kernel
theorem i_57_71 : a_ins 57 71 = some (.putfield 44, 3, 1, 2, 0) := by decide +kernel
theorem i_57_74 : a_ins 57 74 = some (.aload_n 0, 1, 0, 0, 0) := by decide +kernel
theorem i_57_75 : a_ins 57 75 = some (.getfield 44, 3, 1, 2, 0) := by decide +kernel
theorem i_57_78 : a_ins 57 78 = some (.ireturn, 1, 0, 0, 0) := by decide +kernel
theorem i_57_79 : a_ins 57 79 = some (.aload_n 0, 1, 0, 0, 0) := by decide +kernel
theorem i_57_80 : a_ins 57 80 = some (.iconst (0), 1, 0, 0, 0) := by decide +kernel
theorem i_57_81 : a_ins 57 81 = some (.aload_n 0, 1, 0, 0, 0) := by decide +kernel
theorem i_57_82 : a_ins 57 82 = some (.invokevirtual 56, 3, 47, 1, 0) := by decide +kernel
theorem i_57_85 : a_ins 57 85 = some (.iconst (5), 1, 0, 0, 5) := by decide +kernel
theorem i_57_86 : a_ins 57 86 = some (.bipush (15), 2, 0, 0, 15) := by decide +kernel
theorem i_57_88 : a_ins 57 88 = some (.invokevirtual 130, 3, 61, 5, 0) := by decide +kernel
theorem i_57_91 : a_ins 57 91 = some (.pop, 1, 0, 0, 0) := by decide +kernel
theorem i_57_92 : a_ins 57 92 = some (.aload_n 0, 1, 0, 0, 0) := by decide +kernel
theorem i_57_93 : a_ins 57 93 = some (.iconst (3), 1, 0, 0, 3) := by decide +kernel
theorem i_57_94 : a_ins 57 94 = some (.putfield 44, 3, 1, 2, 0) := by decide +kernel
theorem i_57_97 : a_ins 57 97 = some (.aload_n 0, 1, 0, 0, 0) := by decide +kernel
theorem i_57_98 : a_ins 57 98 = some (.getfield 44, 3, 1, 2, 0) := by decide +kernel
theorem i_57_101 : a_ins 57 101 = some (.ireturn, 1, 0, 0, 0) := by decide +kernel
theorem i_58_0 : a_ins 58 0 = some (.iload_n 1, 1, 0, 0, 0) := by decide +kernel
theorem i_58_1 : a_ins 58 1 = some (.iconst (-1), 1, 0, 0, -1) := by decide +kernel
theorem i_58_2 : a_ins 58 2 = some (.if_icmp .lt (13), 3, 15, 0, 0) := by decide +kernel
theorem i_58_5 : a_ins 58 5 = some (.iload_n 1, 1, 0, 0, 0) := by decide +kernel
theorem i_58_6 : a_ins 58 6 = some (.bipush (20), 2, 0, 0, 20) := by decide +kernel
theorem i_58_8 : a_ins 58 8 = some (.if_icmp .gt (7), 3, 15, 0, 0) := by decide +kernel
theorem i_58_11 : a_ins 58 11 = some (.iconst (1), 1, 0, 0, 1) := by decide +kernel
theorem i_58_12 : a_ins 58 12 = some (.goto (4), 3, 16, 0, 0) := by decide +kernel
theorem i_58_15 : a_ins 58 15 = some (.iconst (0), 1, 0, 0, 0) := by decide +kernel
theorem i_58_16 : a_ins 58 16 = some (.ireturn, 1, 0, 0, 0) := by decide +kernel
theorem i_59_0 : a_ins 59 0 = some (.aload_n 0, 1, 0, 0, 0) := by decide +kernel
theorem i_59_1 : a_ins 59 1 = some (.getfield 44, 3, 1, 2, 0) := by decide +kernel
theorem i_59_4 : a_ins 59 4 = some (.iload_n 1, 1, 0, 0, 0) := by decide +kernel
theorem i_59_5 : a_ins 59 5 = some (.if_icmp .ne (27), 3, 32, 0, 0) := by decide +kernel
theorem i_59_8 : a_ins 59 8 = some (.aload_n 0, 1, 0, 0, 0) := by decide +kernel
theorem i_59_9 : a_ins 59 9 = some (.getfield 19, 3, 1, 6, 0) := by decide +kernel
theorem i_59_12 : a_ins 59 12 = some (.iconst (0), 1, 0, 0, 0) := by decide +kernel
theorem i_59_13 : a_ins 59 13 = some (.iaload, 1, 0, 0, 0) := by decide +kernel
theorem i_59_14 : a_ins 59 14 = some (.iconst (1), 1, 0, 0, 1) := by decide +kernel
theorem i_59_15 : a_ins 59 15 = some (.if_icmp .ne (17), 3, 32, 0, 0) := by decide +kernel
theorem i_59_18 : a_ins 59 18 = some (.aload_n 0, 1, 0, 0, 0) := by decide +kernel
theorem i_59_19 : a_ins 59 19 = some (.getfield 15, 3, 1, 5, 0) := by decide +kernel
theorem i_59_22 : a_ins 59 22 = some (.iconst (0), 1, 0, 0, 0) := by decide +kernel
theorem i_59_23 : a_ins 59 23 = some (.iaload, 1, 0, 0, 0) := by decide +kernel
theorem i_59_24 : a_ins 59 24 = some (.iload_n 2, 1, 0, 0, 0) := by decide +kernel
theorem i_59_25 : a_ins 59 25 = some (.if_icmp .ne (7), 3, 32, 0, 0) := by decide +kernel
theorem i_59_28 : a_ins 59 28 = some (.iconst (1), 1, 0, 0, 1) := by decide +kernel
theorem i_59_29 : a_ins 59 29 = some (.goto (4), 3, 33, 0, 0) := by decide +kernel
theorem i_59_32 : a_ins 59 32 = some (.iconst (0), 1, 0, 0, 0) := by decide +kernel
theorem i_59_33 : a_ins 59 33 = some (.ireturn, 1, 0, 0, 0) := by decide +kernel
theorem i_60_0 : a_ins 60 0 = some (.aload_n 0, 1, 0, 0, 0) := by decide +kernel
theorem i_60_1 : a_ins 60 1 = some (.iload_n 1, 1, 0, 0, 0) := by decide +kernel
theorem i_60_2 : a_ins 60 2 = some (.putfield 162, 3, 1, 12, 0) := by decide +kernel
theorem i_60_5 : a_ins 60 5 = some (.aload_n 0, 1, 0, 0, 0) := by decide +kernel
theorem i_60_6 : a_ins 60 6 = some (.iconst (0), 1, 0, 0, 0) := by decide +kernel
theorem i_60_7 : a_ins 60 7 = some (.putfield 165, 3, 1, 13, 0) := by decide +kernel
theorem i_60_10 : a_ins 60 10 = some (.return_, 1, 0, 0, 0) := by decide +kernel
theorem i_61_0 : a_ins 61 0 = some (.aload_n 0, 1, 0, 0, 0) := by decide +kernel
theorem i_61_1 : a_ins 61 1 = some (.iload_n 1, 1, 0, 0, 0) := by decide +kernel
theorem i_61_2 : a_ins 61 2 = some (.iload_n 3, 1, 0, 0, 0) := by decide +kernel
theorem i_61_3 : a_ins 61 3 = some (.iload 4, 2, 0, 0, 0) := by decide +kernel
theorem i_61_5 : a_ins 61 5 = some (.invokevirtual 152, 3, 62, 4, 0) := by decide +kernel
theorem i_61_8 : a_ins 61 8 = some (.aload_n 0, 1, 0, 0, 0) := by decide +kernel
theorem i_61_9 : a_ins 61 9 = some (.getfield 162, 3, 1, 12, 0) := by decide +kernel
theorem i_61_12 : a_ins 61 12 = some (.ifCond .ne (10), 3, 22, 0, 0) := by decide +kernel
theorem i_61_15 : a_ins 61 15 = some (.aload_n 0, 1, 0, 0, 0) := by decide +kernel
theorem i_61_16 : a_ins 61 16 = some (.iload_n 1, 1, 0, 0, 0) := by decide +kernel
theorem i_61_17 : a_ins 61 17 = some (.invokevirtual 139, 3, 63, 2, 0) := by decide +kernel
theorem i_61_20 : a_ins 61 20 = some (.iconst (1), 1, 0, 0, 1) := by decide +kernel
theorem i_61_21 : a_ins 61 21 = some (.ireturn, 1, 0, 0, 0) := by decide +kernel
theorem i_61_22 : a_ins 61 22 = some (.iconst (0), 1, 0, 0, 0) := by decide +kernel
theorem i_61_23 : a_ins 61 23 = some (.istore 5, 2, 0, 0, 0) := by decide +kernel
theorem i_61_25 : a_ins 61 25 = some (.iload 5, 2, 0, 0, 0) := by decide +kernel
theorem i_61_27 : a_ins 61 27 = some (.aload_n 0, 1, 0, 0, 0) := by decide +kernel
theorem i_61_28 : a_ins 61 28 = some (.getfield 9, 3, 1, 0, 0) := by decide +kernel
theorem i_61_31 : a_ins 61 31 = some (.if_icmp .ge (91), 3, 122, 0, 0) := by decide +kernel
theorem i_61_34 : a_ins 61 34 = some (.iload 5, 2, 0, 0, 0) := by decide +kernel
theorem i_61_36 : a_ins 61 36 = some (.iload_n 1, 1, 0, 0, 0) := by decide +kernel
theorem i_61_37 : a_ins 61 37 = some (.if_icmp .eq (79), 3, 116, 0, 0) := by decide +kernel
theorem i_61_40 : a_ins 61 40 = some (.iload_n 2, 1, 0, 0, 0) := by decide +kernel
theorem i_61_41 : a_ins 61 41 = some (.iload 5, 2, 0, 0, 0) := by decide +kernel
theorem i_61_43 : a_ins 61 43 = some (.ishr, 1, 0, 0, 0) := by decide +kernel
theorem i_61_44 : a_ins 61 44 = some (.iconst (1), 1, 0, 0, 1) := by decide +kernel
theorem i_61_45 : a_ins 61 45 = some (.iand, 1, 0, 0, 0) := by decide +kernel
theorem i_61_46 : a_ins 61 46 = some (.ifCond .ne (6), 3, 52, 0, 0) := by decide +kernel
theorem i_61_49 : a_ins 61 49 = some (.goto (67), 3, 116, 0, 0) := by decide +kernel
theorem i_61_52 : a_ins 61 52 = some (.aload_n 0, 1, 0, 0, 0) := by decide +kernel
theorem i_61_53 : a_ins 61 53 = some (.dup, 1, 0, 0, 0) := by decide +kernel
theorem i_61_54 : a_ins 61 54 = some (.getfield 165, 3, 1, 13, 0) := by decide +kernel
theorem i_61_57 : a_ins 61 57 = some (.iconst (1), 1, 0, 0, 1) := by decide +kernel
theorem i_61_58 : a_ins 61 58 = some (.iadd, 1, 0, 0, 0) := by decide +kernel
theorem i_61_59 : a_ins 61 59 = some (.putfield 165, 3, 1, 13, 0) := by decide +kernel
theorem i_61_62 : a_ins 61 62 = some (.aload_n 0, 1, 0, 0, 0) := by decide +kernel
theorem i_61_63 : a_ins 61 63 = some (.getfield 19, 3, 1, 6, 0) := by decide +kernel
theorem i_61_66 : a_ins 61 66 = some (.iload 5, 2, 0, 0, 0) := by decide +kernel
theorem i_61_68 : a_ins 61 68 = some (.iaload, 1, 0, 0, 0) := by decide +kernel
theorem i_61_69 : a_ins 61 69 = some (.iconst (1), 1, 0, 0, 1) := by decide +kernel
theorem i_61_70 : a_ins 61 70 = some (.if_icmp .ne (28), 3, 98, 0, 0) := by decide +kernel
theorem i_61_73 : a_ins 61 73 = some (.aload_n 0, 1, 0, 0, 0) := by decide +kernel
theorem i_61_74 : a_ins 61 74 = some (.getfield 22, 3, 1, 7, 0) := by decide +kernel
theorem i_61_77 : a_ins 61 77 = some (.iload 5, 2, 0, 0, 0) := by decide +kernel
theorem i_61_79 : a_ins 61 79 = some (.iaload, 1, 0, 0, 0) := by decide +kernel
theorem i_61_80 : a_ins 61 80 = some (.aload_n 0, 1, 0, 0, 0) := by decide +kernel
theorem i_61_81 : a_ins 61 81 = some (.getfield 22, 3, 1, 7, 0) := by decide +kernel
theorem i_61_84 : a_ins 61 84 = some (.iload_n 1, 1, 0, 0, 0) := by decide +kernel
theorem i_61_85 : a_ins 61 85 = some (.iaload, 1, 0, 0, 0) := by decide +kernel
theorem i_61_86 : a_ins 61 86 = some (.if_icmp .ne (12), 3, 98, 0, 0) := by decide +kernel
theorem i_61_89 : a_ins 61 89 = some (.aload_n 0, 1, 0, 0, 0) := by decide +kernel
theorem i_61_90 : a_ins 61 90 = some (.iload 5, 2, 0, 0, 0) := by decide +kernel
theorem i_61_92 : a_ins 61 92 = some (.iload_n 3, 1, 0, 0, 0) := by decide +kernel
theorem i_61_93 : a_ins 61 93 = some (.iload 4, 2, 0, 0, 0) := by decide +kernel
theorem i_61_95 : a_ins 61 95 = some (.invokevirtual 152, 3, 62, 4, 0) := by decide +kernel
theorem i_61_98 : a_ins 61 98 = some (.aload_n 0, 1, 0, 0, 0) := by decide +kernel
theorem i_61_99 : a_ins 61 99 = some (.getfield 165, 3, 1, 13, 0) := by decide +kernel
theorem i_61_102 : a_ins 61 102 = some (.aload_n 0, 1, 0, 0, 0) := by decide +kernel
theorem i_61_103 : a_ins 61 103 = some (.getfield 162, 3, 1, 12, 0) := by decide +kernel
theorem i_61_106 : a_ins 61 106 = some (.if_icmp .ne (10), 3, 116, 0, 0) := by decide +kernel
theorem i_61_109 : a_ins 61 109 = some (.aload_n 0, 1, 0, 0, 0) := by decide +kernel
theorem i_61_110 : a_ins 61 110 = some (.iload_n 1, 1, 0, 0, 0) := by decide +kernel
theorem i_61_111 : a_ins 61 111 = some (.invokevirtual 139, 3, 63, 2, 0) := by decide +kernel
theorem i_61_114 : a_ins 61 114 = some (.iconst (1), 1, 0, 0, 1) := by decide +kernel
theorem i_61_115 : a_ins 61 115 = some (.ireturn, 1, 0, 0, 0) := by decide +kernel
theorem i_61_116 : a_ins 61 116 = some (.iinc 5 (1), 3, 0, 0, 1) := by decide +kernel
theorem i_61_119 : a_ins 61 119 = some (.goto (-94), 3, 25, 0, 0) := by decide +kernel
theorem i_61_122 : a_ins 61 122 = some (.iconst (0), 1, 0, 0, 0) := by decide +kernel
theorem i_61_123 : a_ins 61 123 = some (.ireturn, 1, 0, 0, 0) := by decide +kernel
theorem i_62_0 : a_ins 62 0 = some (.aload_n 0, 1, 0, 0, 0) := by decide +kernel
theorem i_62_1 : a_ins 62 1 = some (.getfield 15, 3, 1, 5, 0) := by decide +kernel
theorem i_62_4 : a_ins 62 4 = some (.iload_n 1, 1, 0, 0, 0) := by decide +kernel
theorem i_62_5 : a_ins 62 5 = some (.iaload, 1, 0, 0, 0) := by decide +kernel
theorem i_62_6 : a_ins 62 6 = some (.istore 4, 2, 0, 0, 0) := by decide +kernel
theorem i_62_8 : a_ins 62 8 = some (.iload_n 2, 1, 0, 0, 0) := by decide +kernel
theorem i_62_9 : a_ins 62 9 = some (.iconst (1), 1, 0, 0, 1) := by decide +kernel
theorem i_62_10 : a_ins 62 10 = some (.if_icmp .ne (16), 3, 26, 0, 0) := by decide +kernel
theorem i_62_13 : a_ins 62 13 = some (.aload_n 0, 1, 0, 0, 0) := by decide +kernel
theorem i_62_14 : a_ins 62 14 = some (.getfield 25, 3, 1, 8, 0) := by decide +kernel
theorem i_62_17 : a_ins 62 17 = some (.iload_n 1, 1, 0, 0, 0) := by decide +kernel
theorem i_62_18 : a_ins 62 18 = some (.iaload, 1, 0, 0, 0) := by decide +kernel
theorem i_62_19 : a_ins 62 19 = some (.ifCond .ne (7), 3, 26, 0, 0) := by decide +kernel
theorem i_62_22 : a_ins 62 22 = some (.iconst (5), 1, 0, 0, 5) := by decide +kernel
theorem i_62_23 : a_ins 62 23 = some (.goto (4), 3, 27, 0, 0) := by decide +kernel
theorem i_62_26 : a_ins 62 26 = some (.iload_n 2, 1, 0, 0, 0) := by decide +kernel
theorem i_62_27 : a_ins 62 27 = some (.istore 5, 2, 0, 0, 0) := by decide +kernel
theorem i_62_29 : a_ins 62 29 = some (.iload_n 3, 1, 0, 0, 0) := by decide +kernel
theorem i_62_30 : a_ins 62 30 = some (.iload 4, 2, 0, 0, 0) := by decide +kernel
theorem i_62_32 : a_ins 62 32 = some (.ishr, 1, 0, 0, 0) := by decide +kernel
theorem i_62_33 : a_ins 62 33 = some (.iconst (1), 1, 0, 0, 1) := by decide +kernel
theorem i_62_34 : a_ins 62 34 = some (.iand, 1, 0, 0, 0) := by decide +kernel
theorem i_62_35 : a_ins 62 35 = some (.ifCond .eq (10), 3, 45, 0, 0) := by decide +kernel
theorem i_62_38 : a_ins 62 38 = some (.iload 4, 2, 0, 0, 0) := by decide +kernel
theorem i_62_40 : a_ins 62 40 = some (.iload 5, 2, 0, 0, 0) := by decide +kernel
theorem i_62_42 : a_ins 62 42 = some (.if_icmp .ne (4), 3, 46, 0, 0) := by decide +kernel
theorem i_62_45 : a_ins 62 45 = some (.return_, 1, 0, 0, 0) := by decide +kernel
theorem i_62_46 : a_ins 62 46 = some (.aload_n 0, 1, 0, 0, 0) := by decide +kernel
theorem i_62_47 : a_ins 62 47 = some (.getfield 15, 3, 1, 5, 0) := by decide +kernel
theorem i_62_50 : a_ins 62 50 = some (.iload_n 1, 1, 0, 0, 0) := by decide +kernel
theorem i_62_51 : a_ins 62 51 = some (.iload 5, 2, 0, 0, 0) := by decide +kernel
theorem i_62_53 : a_ins 62 53 = some (.iastore, 1, 0, 0, 0) := by decide +kernel
theorem i_62_54 : a_ins 62 54 = some (.aload_n 0, 1, 0, 0, 0) := by decide +kernel
theorem i_62_55 : a_ins 62 55 = some (.getfield 37, 3, 1, 11, 0) := by decide +kernel
theorem i_62_58 : a_ins 62 58 = some (.iload_n 1, 1, 0, 0, 0) := by decide +kernel
theorem i_62_59 : a_ins 62 59 = some (.iload 4, 2, 0, 0, 0) := by decide +kernel
theorem i_62_61 : a_ins 62 61 = some (.iload 5, 2, 0, 0, 0) := by decide +kernel
theorem i_62_63 : a_ins 62 63 = some (.invokevirtual 168, 3, 99, 4, 0) := by decide +kernel
theorem i_62_66 : a_ins 62 66 = some (.return_, 1, 0, 0, 0) := by decide +kernel
theorem i_63_0 : a_ins 63 0 = some (.aload_n 0, 1, 0, 0, 0) := by decide +kernel
theorem i_63_1 : a_ins 63 1 = some (.getfield 19, 3, 1, 6, 0) := by decide +kernel
theorem i_63_4 : a_ins 63 4 = some (.iload_n 1, 1, 0, 0, 0) := by decide +kernel
theorem i_63_5 : a_ins 63 5 = some (.iconst (0), 1, 0, 0, 0) := by decide +kernel
theorem i_63_6 : a_ins 63 6 = some (.iastore, 1, 0, 0, 0) := by decide +kernel
theorem i_63_7 : a_ins 63 7 = some (.iconst (0), 1, 0, 0, 0) := by decide +kernel
theorem i_63_8 : a_ins 63 8 = some (.istore_n 2, 1, 0, 0, 0) := by decide +kernel
theorem i_63_9 : a_ins 63 9 = some (.iload_n 2, 1, 0, 0, 0) := by decide +kernel
theorem i_63_10 : a_ins 63 10 = some (.aload_n 0, 1, 0, 0, 0) := by decide +kernel
theorem i_63_11 : a_ins 63 11 = some (.getfield 9, 3, 1, 0, 0) := by decide +kernel
theorem i_63_14 : a_ins 63 14 = some (.if_icmp .ge (48), 3, 62, 0, 0) := by decide +kernel
theorem i_63_17 : a_ins 63 17 = some (.aload_n 0, 1, 0, 0, 0) := by decide +kernel
theorem i_63_18 : a_ins 63 18 = some (.getfield 19, 3, 1, 6, 0) := by decide +kernel
theorem i_63_21 : a_ins 63 21 = some (.iload_n 2, 1, 0, 0, 0) := by decide +kernel
theorem i_63_22 : a_ins 63 22 = some (.iaload, 1, 0, 0, 0) := by decide +kernel
theorem i_63_23 : a_ins 63 23 = some (.iconst (1), 1, 0, 0, 1) := by decide +kernel
theorem i_63_24 : a_ins 63 24 = some (.if_icmp .ne (32), 3, 56, 0, 0) := by decide +kernel
theorem i_63_27 : a_ins 63 27 = some (.aload_n 0, 1, 0, 0, 0) := by decide +kernel
theorem i_63_28 : a_ins 63 28 = some (.getfield 22, 3, 1, 7, 0) := by decide +kernel
theorem i_63_31 : a_ins 63 31 = some (.iload_n 2, 1, 0, 0, 0) := by decide +kernel
theorem i_63_32 : a_ins 63 32 = some (.iaload, 1, 0, 0, 0) := by decide +kernel
theorem i_63_33 : a_ins 63 33 = some (.aload_n 0, 1, 0, 0, 0) := by decide +kernel
theorem i_63_34 : a_ins 63 34 = some (.getfield 22, 3, 1, 7, 0) := by decide +kernel
theorem i_63_37 : a_ins 63 37 = some (.iload_n 1, 1, 0, 0, 0) := by decide +kernel
theorem i_63_38 : a_ins 63 38 = some (.iaload, 1, 0, 0, 0) := by decide +kernel
theorem i_63_39 : a_ins 63 39 = some (.if_icmp .ne (17), 3, 56, 0, 0) := by decide +kernel
theorem i_63_42 : a_ins 63 42 = some (.aload_n 0, 1, 0, 0, 0) := by decide +kernel
theorem i_63_43 : a_ins 63 43 = some (.getfield 31, 3, 1, 10, 0) := by decide +kernel
theorem i_63_46 : a_ins 63 46 = some (.iload_n 2, 1, 0, 0, 0) := by decide +kernel
theorem i_63_47 : a_ins 63 47 = some (.dup2, 1, 0, 0, 0) := by decide +kernel
theorem i_63_48 : a_ins 63 48 = some (.iaload, 1, 0, 0, 0) := by decide +kernel
theorem i_63_49 : a_ins 63 49 = some (.iconst (1), 1, 0, 0, 1) := by decide +kernel
theorem i_63_50 : a_ins 63 50 = some (.iload_n 1, 1, 0, 0, 0) := by decide +kernel
theorem i_63_51 : a_ins 63 51 = some (.ishl, 1, 0, 0, 0) := by decide +kernel
theorem i_63_52 : a_ins 63 52 = some (.iconst (-1), 1, 0, 0, -1) := by decide +kernel
theorem i_63_53 : a_ins 63 53 = some (.ixor, 1, 0, 0, 0) := by decide +kernel
theorem i_63_54 : a_ins 63 54 = some (.iand, 1, 0, 0, 0) := by decide +kernel
theorem i_63_55 : a_ins 63 55 = some (.iastore, 1, 0, 0, 0) := by decide +kernel
theorem i_63_56 : a_ins 63 56 = some (.iinc 2 (1), 3, 0, 0, 1) := by decide +kernel
theorem i_63_59 : a_ins 63 59 = some (.goto (-50), 3, 9, 0, 0) := by decide +kernel
theorem i_63_62 : a_ins 63 62 = some (.iload_n 1, 1, 0, 0, 0) := by decide +kernel
theorem i_63_63 : a_ins 63 63 = some (.ifCond .ne (8), 3, 71, 0, 0) := by decide +kernel
theorem i_63_66 : a_ins 63 66 = some (.aload_n 0, 1, 0, 0, 0) := by decide +kernel
theorem i_63_67 : a_ins 63 67 = some (.iconst (3), 1, 0, 0, 3) := by decide +kernel
theorem i_63_68 : a_ins 63 68 = some (.putfield 44, 3, 1, 2, 0) := by decide +kernel
theorem i_63_71 : a_ins 63 71 = some (.return_, 1, 0, 0, 0) := by decide +kernel
theorem i_64_0 : a_ins 64 0 = some (.aload_n 0, 1, 0, 0, 0) := by decide +kernel
theorem i_64_1 : a_ins 64 1 = some (.iload_n 1, 1, 0, 0, 0) := by decide +kernel
theorem i_64_2 : a_ins 64 2 = some (.invokevirtual 119, 3, 58, 2, 0) := by decide +kernel
theorem i_64_5 : a_ins 64 5 = some (.ifCond .ne (6), 3, 11, 0, 0) := by decide +kernel
theorem i_64_8 : a_ins 64 8 = some (.bipush (-3), 2, 0, 0, -3) := by decide +kernel
theorem i_64_10 : a_ins 64 10 = some (.ireturn, 1, 0, 0, 0) := by decide +kernel
theorem i_64_11 : a_ins 64 11 = some (.aload_n 0, 1, 0, 0, 0) := by decide +kernel
theorem i_64_12 : a_ins 64 12 = some (.iconst (1), 1, 0, 0, 1) := by decide +kernel
theorem i_64_13 : a_ins 64 13 = some (.iconst (1), 1, 0, 0, 1) := by decide +kernel
theorem i_64_14 : a_ins 64 14 = some (.invokevirtual 122, 3, 59, 3, 0) := by decide +kernel
theorem i_64_17 : a_ins 64 17 = some (.ifCond .ne (6), 3, 23, 0, 0) := by decide +kernel
theorem i_64_20 : a_ins 64 20 = some (.bipush (-5), 2, 0, 0, -5) := by decide +kernel
theorem i_64_22 : a_ins 64 22 = some (.ireturn, 1, 0, 0, 0) := by decide +kernel
theorem i_64_23 : a_ins 64 23 = some (.aload_n 0, 1, 0, 0, 0) := by decide +kernel
theorem i_64_24 : a_ins 64 24 = some (.iconst (4), 1, 0, 0, 4) := by decide +kernel
theorem i_64_25 : a_ins 64 25 = some (.invokevirtual 102, 3, 65, 2, 0) := by decide +kernel
theorem i_64_28 : a_ins 64 28 = some (.istore_n 2, 1, 0, 0, 0) := by decide +kernel
theorem i_64_29 : a_ins 64 29 = some (.aload_n 0, 1, 0, 0, 0) := by decide +kernel
theorem i_64_30 : a_ins 64 30 = some (.iload_n 1, 1, 0, 0, 0) := by decide +kernel
theorem i_64_31 : a_ins 64 31 = some (.invokevirtual 126, 3, 60, 2, 0) := by decide +kernel
theorem i_64_34 : a_ins 64 34 = some (.aload_n 0, 1, 0, 0, 0) := by decide +kernel
theorem i_64_35 : a_ins 64 35 = some (.iconst (0), 1, 0, 0, 0) := by decide +kernel
theorem i_64_36 : a_ins 64 36 = some (.aload_n 0, 1, 0, 0, 0) := by decide +kernel
theorem i_64_37 : a_ins 64 37 = some (.invokevirtual 56, 3, 47, 1, 0) := by decide +kernel
theorem i_64_40 : a_ins 64 40 = some (.iconst (2), 1, 0, 0, 2) := by decide +kernel
theorem i_64_41 : a_ins 64 41 = some (.iconst (2), 1, 0, 0, 2) := by decide +kernel
theorem i_64_42 : a_ins 64 42 = some (.invokevirtual 130, 3, 61, 5, 0) := by decide +kernel
theorem i_64_45 : a_ins 64 45 = some (.ifCond .ne (41), 3, 86, 0, 0) := by decide +kernel
theorem i_64_48 : a_ins 64 48 = some (.aload_n 0, 1, 0, 0, 0) := by decide +kernel
theorem i_64_49 : a_ins 64 49 = some (.iconst (4), 1, 0, 0, 4) := by decide +kernel
theorem i_64_50 : a_ins 64 50 = some (.invokevirtual 102, 3, 65, 2, 0) := by decide +kernel
theorem i_64_53 : a_ins 64 53 = some (.iload_n 2, 1, 0, 0, 0) := by decide +kernel
theorem i_64_54 : a_ins 64 54 = some (.iconst (-1), 1, 0, 0, -1) := by decide +kernel
theorem i_64_55 : a_ins 64 55 = some (.ixor, 1, 0, 0, 0) := by decide +kernel
theorem i_64_56 : a_ins 64 56 = some (.iand, 1, 0, 0, 0) := by decide +kernel
theorem i_64_57 : a_ins 64 57 = some (.istore_n 3, 1, 0, 0, 0) := by decide +kernel
theorem i_64_58 : a_ins 64 58 = some (.aload_n 0, 1, 0, 0, 0) := by decide +kernel
theorem i_64_59 : a_ins 64 59 = some (.aload_n 0, 1, 0, 0, 0) := by decide +kernel
theorem i_64_60 : a_ins 64 60 = some (.getfield 41, 3, 1, 1, 0) := by decide +kernel
theorem i_64_63 : a_ins 64 63 = some (.ifCond .eq (15), 3, 78, 0, 0) := by decide +kernel
theorem i_64_66 : a_ins 64 66 = some (.aload_n 0, 1, 0, 0, 0) := by decide +kernel
theorem i_64_67 : a_ins 64 67 = some (.iload_n 3, 1, 0, 0, 0) := by decide +kernel
theorem i_64_68 : a_ins 64 68 = some (.invokevirtual 93, 3, 49, 2, 0) := by decide +kernel
theorem i_64_71 : a_ins 64 71 = some (.aload_n 0, 1, 0, 0, 0) := by decide +kernel
theorem i_64_72 : a_ins 64 72 = some (.getfield 77, 3, 1, 3, 0) := by decide +kernel
theorem i_64_75 : a_ins 64 75 = some (.if_icmp .lt (7), 3, 82, 0, 0) := by decide +kernel
theorem i_64_78 : a_ins 64 78 = some (.iconst (2), 1, 0, 0, 2) := by decide +kernel
theorem i_64_79 : a_ins 64 79 = some (.goto (4), 3, 83, 0, 0) := by decide +kernel
theorem i_64_82 : a_ins 64 82 = some (.iconst (3), 1, 0, 0, 3) := by decide +kernel
theorem i_64_83 : a_ins 64 83 = some (.putfield 44, 3, 1, 2, 0) := by decide +kernel
theorem i_64_86 : a_ins 64 86 = some (.aload_n 0, 1, 0, 0, 0) := by decide +kernel
theorem i_64_87 : a_ins 64 87 = some (.getfield 44, 3, 1, 2, 0) := by decide +kernel
theorem i_64_90 : a_ins 64 90 = some (.ireturn, 1, 0, 0, 0) := by decide +kernel
theorem i_65_0 : a_ins 65 0 = some (.iconst (0), 1, 0, 0, 0) := by decide +kernel
theorem i_65_1 : a_ins 65 1 = some (.istore_n 2, 1, 0, 0, 0) := by decide +kernel
theorem i_65_2 : a_ins 65 2 = some (.iconst (0), 1, 0, 0, 0) := by decide +kernel
theorem i_65_3 : a_ins 65 3 = some (.istore_n 3, 1, 0, 0, 0) := by decide +kernel
theorem i_65_4 : a_ins 65 4 = some (.iload_n 3, 1, 0, 0, 0) := by decide +kernel
theorem i_65_5 : a_ins 65 5 = some (.aload_n 0, 1, 0, 0, 0) := by decide +kernel
theorem i_65_6 : a_ins 65 6 = some (.getfield 9, 3, 1, 0, 0) := by decide +kernel
theorem i_65_9 : a_ins 65 9 = some (.if_icmp .ge (29), 3, 38, 0, 0) := by decide +kernel
theorem i_65_12 : a_ins 65 12 = some (.iload_n 1, 1, 0, 0, 0) := by decide +kernel
theorem i_65_13 : a_ins 65 13 = some (.aload_n 0, 1, 0, 0, 0) := by decide +kernel
theorem i_65_14 : a_ins 65 14 = some (.getfield 15, 3, 1, 5, 0) := by decide +kernel
theorem i_65_17 : a_ins 65 17 = some (.iload_n 3, 1, 0, 0, 0) := by decide +kernel
theorem i_65_18 : a_ins 65 18 = some (.iaload, 1, 0, 0, 0) := by decide +kernel
theorem i_65_19 : a_ins 65 19 = some (.ishr, 1, 0, 0, 0) := by decide +kernel
theorem i_65_20 : a_ins 65 20 = some (.iconst (1), 1, 0, 0, 1) := by decide +kernel
theorem i_65_21 : a_ins 65 21 = some (.iand, 1, 0, 0, 0) := by decide +kernel
theorem i_65_22 : a_ins 65 22 = some (.iconst (1), 1, 0, 0, 1) := by decide +kernel
theorem i_65_23 : a_ins 65 23 = some (.if_icmp .ne (9), 3, 32, 0, 0) := by decide +kernel
theorem i_65_26 : a_ins 65 26 = some (.iload_n 2, 1, 0, 0, 0) := by decide +kernel
theorem i_65_27 : a_ins 65 27 = some (.iconst (1), 1, 0, 0, 1) := by decide +kernel
theorem i_65_28 : a_ins 65 28 = some (.iload_n 3, 1, 0, 0, 0) := by decide +kernel
theorem i_65_29 : a_ins 65 29 = some (.ishl, 1, 0, 0, 0) := by decide +kernel
theorem i_65_30 : a_ins 65 30 = some (.ior, 1, 0, 0, 0) := by decide +kernel
theorem i_65_31 : a_ins 65 31 = some (.istore_n 2, 1, 0, 0, 0) := by decide +kernel
theorem i_65_32 : a_ins 65 32 = some (.iinc 3 (1), 3, 0, 0, 1) := by decide +kernel
theorem i_65_35 : a_ins 65 35 = some (.goto (-31), 3, 4, 0, 0) := by decide +kernel
theorem i_65_38 : a_ins 65 38 = some (.iload_n 2, 1, 0, 0, 0) := by decide +kernel
theorem i_65_39 : a_ins 65 39 = some (.ireturn, 1, 0, 0, 0) := by decide +kernel
theorem i_66_0 : a_ins 66 0 = some (.aload_n 0, 1, 0, 0, 0) := by decide +kernel
theorem i_66_1 : a_ins 66 1 = some (.iload_n 1, 1, 0, 0, 0) := by decide +kernel
theorem i_66_2 : a_ins 66 2 = some (.invokevirtual 119, 3, 58, 2, 0) := by decide +kernel
theorem i_66_5 : a_ins 66 5 = some (.ifCond .ne (6), 3, 11, 0, 0) := by decide +kernel
theorem i_66_8 : a_ins 66 8 = some (.bipush (-3), 2, 0, 0, -3) := by decide +kernel
theorem i_66_10 : a_ins 66 10 = some (.ireturn, 1, 0, 0, 0) := by decide +kernel
theorem i_66_11 : a_ins 66 11 = some (.aload_n 0, 1, 0, 0, 0) := by decide +kernel
theorem i_66_12 : a_ins 66 12 = some (.iconst (2), 1, 0, 0, 2) := by decide +kernel
theorem i_66_13 : a_ins 66 13 = some (.iconst (2), 1, 0, 0, 2) := by decide +kernel
theorem i_66_14 : a_ins 66 14 = some (.invokevirtual 122, 3, 59, 3, 0) := by decide +kernel
theorem i_66_17 : a_ins 66 17 = some (.ifCond .ne (6), 3, 23, 0, 0) := by decide +kernel
theorem i_66_20 : a_ins 66 20 = some (.bipush (-5), 2, 0, 0, -5) := by decide +kernel
theorem i_66_22 : a_ins 66 22 = some (.ireturn, 1, 0, 0, 0) := by decide +kernel
theorem i_66_23 : a_ins 66 23 = some (.aload_n 0, 1, 0, 0, 0) := by decide +kernel
theorem i_66_24 : a_ins 66 24 = some (.iload_n 1, 1, 0, 0, 0) := by decide +kernel
theorem i_66_25 : a_ins 66 25 = some (.invokevirtual 126, 3, 60, 2, 0) := by decide +kernel
theorem i_66_28 : a_ins 66 28 = some (.aload_n 0, 1, 0, 0, 0) := by decide +kernel
theorem i_66_29 : a_ins 66 29 = some (.iconst (0), 1, 0, 0, 0) := by decide +kernel
theorem i_66_30 : a_ins 66 30 = some (.aload_n 0, 1, 0, 0, 0) := by decide +kernel
theorem i_66_31 : a_ins 66 31 = some (.invokevirtual 56, 3, 47, 1, 0) := by decide +kernel
theorem i_66_34 : a_ins 66 34 = some (.iconst (4), 1, 0, 0, 4) := by decide +kernel
theorem i_66_35 : a_ins 66 35 = some (.bipush (31), 2, 0, 0, 31) := by decide +kernel
theorem i_66_37 : a_ins 66 37 = some (.invokevirtual 130, 3, 61, 5, 0) := by decide +kernel
theorem i_66_40 : a_ins 66 40 = some (.pop, 1, 0, 0, 0) := by decide +kernel
theorem i_66_41 : a_ins 66 41 = some (.aload_n 0, 1, 0, 0, 0) := by decide +kernel
theorem i_66_42 : a_ins 66 42 = some (.iconst (3), 1, 0, 0, 3) := by decide +kernel
theorem i_66_43 : a_ins 66 43 = some (.putfield 44, 3, 1, 2, 0) := by decide +kernel
theorem i_66_46 : a_ins 66 46 = some (.aload_n 0, 1, 0, 0, 0) := by decide +kernel
theorem i_66_47 : a_ins 66 47 = some (.bipush (16), 2, 0, 0, 16) := by decide +kernel
theorem i_66_49 : a_ins 66 49 = some (.invokevirtual 102, 3, 65, 2, 0) := by decide +kernel
theorem i_66_52 : a_ins 66 52 = some (.invokestatic 134, 3, 265, 1, 0) := by decide +kernel
theorem i_66_55 : a_ins 66 55 = some (.ireturn, 1, 0, 0, 0) := by decide +kernel
theorem i_67_0 : a_ins 67 0 = some (.aload_n 0, 1, 0, 0, 0) := by decide +kernel
theorem i_67_1 : a_ins 67 1 = some (.iload_n 1, 1, 0, 0, 0) := by decide +kernel
theorem i_67_2 : a_ins 67 2 = some (.invokevirtual 116, 3, 53, 2, 0) := by decide +kernel
theorem i_67_5 : a_ins 67 5 = some (.ifCond .ne (6), 3, 11, 0, 0) := by decide +kernel
theorem i_67_8 : a_ins 67 8 = some (.bipush (-2), 2, 0, 0, -2) := by decide +kernel
theorem i_67_10 : a_ins 67 10 = some (.ireturn, 1, 0, 0, 0) := by decide +kernel
theorem i_67_11 : a_ins 67 11 = some (.aload_n 0, 1, 0, 0, 0) := by decide +kernel
theorem i_67_12 : a_ins 67 12 = some (.getfield 19, 3, 1, 6, 0) := by decide +kernel
theorem i_67_15 : a_ins 67 15 = some (.iload_n 1, 1, 0, 0, 0) := by decide +kernel
theorem i_67_16 : a_ins 67 16 = some (.iaload, 1, 0, 0, 0) := by decide +kernel
theorem i_67_17 : a_ins 67 17 = some (.ifCond .ne (6), 3, 23, 0, 0) := by decide +kernel
theorem i_67_20 : a_ins 67 20 = some (.bipush (-5), 2, 0, 0, -5) := by decide +kernel
theorem i_67_22 : a_ins 67 22 = some (.ireturn, 1, 0, 0, 0) := by decide +kernel
theorem i_67_23 : a_ins 67 23 = some (.aload_n 0, 1, 0, 0, 0) := by decide +kernel
theorem i_67_24 : a_ins 67 24 = some (.iload_n 1, 1, 0, 0, 0) := by decide +kernel
theorem i_67_25 : a_ins 67 25 = some (.invokevirtual 139, 3, 63, 2, 0) := by decide +kernel
theorem i_67_28 : a_ins 67 28 = some (.aload_n 0, 1, 0, 0, 0) := by decide +kernel
theorem i_67_29 : a_ins 67 29 = some (.invokevirtual 87, 3, 68, 1, 0) := by decide +kernel
theorem i_67_32 : a_ins 67 32 = some (.invokestatic 134, 3, 265, 1, 0) := by decide +kernel
theorem i_67_35 : a_ins 67 35 = some (.ireturn, 1, 0, 0, 0) := by decide +kernel
theorem i_68_0 : a_ins 68 0 = some (.aload_n 0, 1, 0, 0, 0) := by decide +kernel
theorem i_68_1 : a_ins 68 1 = some (.iconst (1), 1, 0, 0, 1) := by decide +kernel
theorem i_68_2 : a_ins 68 2 = some (.invokevirtual 83, 3, 69, 2, 0) := by decide +kernel
theorem i_68_5 : a_ins 68 5 = some (.ireturn, 1, 0, 0, 0) := by decide +kernel
theorem i_69_0 : a_ins 69 0 = some (.iconst (0), 1, 0, 0, 0) := by decide +kernel
theorem i_69_1 : a_ins 69 1 = some (.istore_n 2, 1, 0, 0, 0) := by decide +kernel
theorem i_69_2 : a_ins 69 2 = some (.iconst (0), 1, 0, 0, 0) := by decide +kernel
theorem i_69_3 : a_ins 69 3 = some (.istore_n 3, 1, 0, 0, 0) := by decide +kernel
theorem i_69_4 : a_ins 69 4 = some (.iload_n 3, 1, 0, 0, 0) := by decide +kernel
theorem i_69_5 : a_ins 69 5 = some (.aload_n 0, 1, 0, 0, 0) := by decide +kernel
theorem i_69_6 : a_ins 69 6 = some (.getfield 9, 3, 1, 0, 0) := by decide +kernel
theorem i_69_9 : a_ins 69 9 = some (.if_icmp .ge (25), 3, 34, 0, 0) := by decide +kernel
theorem i_69_12 : a_ins 69 12 = some (.aload_n 0, 1, 0, 0, 0) := by decide +kernel
theorem i_69_13 : a_ins 69 13 = some (.getfield 19, 3, 1, 6, 0) := by decide +kernel
theorem i_69_16 : a_ins 69 16 = some (.iload_n 3, 1, 0, 0, 0) := by decide +kernel
theorem i_69_17 : a_ins 69 17 = some (.iaload, 1, 0, 0, 0) := by decide +kernel
theorem i_69_18 : a_ins 69 18 = some (.iload_n 1, 1, 0, 0, 0) := by decide +kernel
theorem i_69_19 : a_ins 69 19 = some (.if_icmp .ne (9), 3, 28, 0, 0) := by decide +kernel
theorem i_69_22 : a_ins 69 22 = some (.iload_n 2, 1, 0, 0, 0) := by decide +kernel
theorem i_69_23 : a_ins 69 23 = some (.iconst (1), 1, 0, 0, 1) := by decide +kernel
theorem i_69_24 : a_ins 69 24 = some (.iload_n 3, 1, 0, 0, 0) := by decide +kernel
theorem i_69_25 : a_ins 69 25 = some (.ishl, 1, 0, 0, 0) := by decide +kernel
theorem i_69_26 : a_ins 69 26 = some (.ior, 1, 0, 0, 0) := by decide +kernel
theorem i_69_27 : a_ins 69 27 = some (.istore_n 2, 1, 0, 0, 0) := by decide +kernel
theorem i_69_28 : a_ins 69 28 = some (.iinc 3 (1), 3, 0, 0, 1) := by decide +kernel
theorem i_69_31 : a_ins 69 31 = some (.goto (-27), 3, 4, 0, 0) := by decide +kernel
theorem i_69_34 : a_ins 69 34 = some (.iload_n 2, 1, 0, 0, 0) := by decide +kernel
theorem i_69_35 : a_ins 69 35 = some (.ireturn, 1, 0, 0, 0) := by decide +kernel
theorem i_70_0 : a_ins 70 0 = some (.aload_n 0, 1, 0, 0, 0) := by decide +kernel
theorem i_70_1 : a_ins 70 1 = some (.iload_n 1, 1, 0, 0, 0) := by decide +kernel
theorem i_70_2 : a_ins 70 2 = some (.invokevirtual 116, 3, 53, 2, 0) := by decide +kernel
theorem i_70_5 : a_ins 70 5 = some (.ifCond .ne (6), 3, 11, 0, 0) := by decide +kernel
theorem i_70_8 : a_ins 70 8 = some (.bipush (-2), 2, 0, 0, -2) := by decide +kernel
theorem i_70_10 : a_ins 70 10 = some (.ireturn, 1, 0, 0, 0) := by decide +kernel
theorem i_70_11 : a_ins 70 11 = some (.aload_n 0, 1, 0, 0, 0) := by decide +kernel
theorem i_70_12 : a_ins 70 12 = some (.getfield 19, 3, 1, 6, 0) := by decide +kernel
theorem i_70_15 : a_ins 70 15 = some (.iload_n 1, 1, 0, 0, 0) := by decide +kernel
theorem i_70_16 : a_ins 70 16 = some (.iaload, 1, 0, 0, 0) := by decide +kernel
theorem i_70_17 : a_ins 70 17 = some (.ifCond .eq (6), 3, 23, 0, 0) := by decide +kernel
theorem i_70_20 : a_ins 70 20 = some (.bipush (-5), 2, 0, 0, -5) := by decide +kernel
theorem i_70_22 : a_ins 70 22 = some (.ireturn, 1, 0, 0, 0) := by decide +kernel
theorem i_70_23 : a_ins 70 23 = some (.aload_n 0, 1, 0, 0, 0) := by decide +kernel
theorem i_70_24 : a_ins 70 24 = some (.getfield 19, 3, 1, 6, 0) := by decide +kernel
theorem i_70_27 : a_ins 70 27 = some (.iload_n 1, 1, 0, 0, 0) := by decide +kernel
theorem i_70_28 : a_ins 70 28 = some (.iconst (2), 1, 0, 0, 2) := by decide +kernel
theorem i_70_29 : a_ins 70 29 = some (.iastore, 1, 0, 0, 0) := by decide +kernel
theorem i_70_30 : a_ins 70 30 = some (.aload_n 0, 1, 0, 0, 0) := by decide +kernel
theorem i_70_31 : a_ins 70 31 = some (.getfield 15, 3, 1, 5, 0) := by decide +kernel
theorem i_70_34 : a_ins 70 34 = some (.iload_n 1, 1, 0, 0, 0) := by decide +kernel
theorem i_70_35 : a_ins 70 35 = some (.iaload, 1, 0, 0, 0) := by decide +kernel
theorem i_70_36 : a_ins 70 36 = some (.ireturn, 1, 0, 0, 0) := by decide +kernel
theorem i_71_0 : a_ins 71 0 = some (.iload_n 1, 1, 0, 0, 0) := by decide +kernel
theorem i_71_1 : a_ins 71 1 = some (.istore_n 2, 1, 0, 0, 0) := by decide +kernel
theorem i_71_2 : a_ins 71 2 = some (.aload_n 0, 1, 0, 0, 0) := by decide +kernel
theorem i_71_3 : a_ins 71 3 = some (.getfield 9, 3, 1, 0, 0) := by decide +kernel
theorem i_71_6 : a_ins 71 6 = some (.iconst (1), 1, 0, 0, 1) := by decide +kernel
theorem i_71_7 : a_ins 71 7 = some (.isub, 1, 0, 0, 0) := by decide +kernel
theorem i_71_8 : a_ins 71 8 = some (.istore_n 3, 1, 0, 0, 0) := by decide +kernel
theorem i_71_9 : a_ins 71 9 = some (.iload_n 3, 1, 0, 0, 0) := by decide +kernel
theorem i_71_10 : a_ins 71 10 = some (.ifCond .lt (29), 3, 39, 0, 0) := by decide +kernel
theorem i_71_13 : a_ins 71 13 = some (.iload_n 2, 1, 0, 0, 0) := by decide +kernel
theorem i_71_14 : a_ins 71 14 = some (.ifCond .lt (11), 3, 25, 0, 0) := by decide +kernel
theorem i_71_17 : a_ins 71 17 = some (.iload_n 2, 1, 0, 0, 0) := by decide +kernel
theorem i_71_18 : a_ins 71 18 = some (.bipush (10), 2, 0, 0, 10) := by decide +kernel
theorem i_71_20 : a_ins 71 20 = some (.irem, 1, 0, 0, 0) := by decide +kernel
theorem i_71_21 : a_ins 71 21 = some (.iconst (4), 1, 0, 0, 4) := by decide +kernel
theorem i_71_22 : a_ins 71 22 = some (.if_icmp .le (6), 3, 28, 0, 0) := by decide +kernel
theorem i_71_25 : a_ins 71 25 = some (.bipush (-3), 2, 0, 0, -3) := by decide +kernel
theorem i_71_27 : a_ins 71 27 = some (.ireturn, 1, 0, 0, 0) := by decide +kernel
theorem i_71_28 : a_ins 71 28 = some (.iload_n 2, 1, 0, 0, 0) := by decide +kernel
theorem i_71_29 : a_ins 71 29 = some (.bipush (10), 2, 0, 0, 10) := by decide +kernel
theorem i_71_31 : a_ins 71 31 = some (.idiv, 1, 0, 0, 0) := by decide +kernel
theorem i_71_32 : a_ins 71 32 = some (.istore_n 2, 1, 0, 0, 0) := by decide +kernel
theorem i_71_33 : a_ins 71 33 = some (.iinc 3 (-1), 3, 0, 0, -1) := by decide +kernel
theorem i_71_36 : a_ins 71 36 = some (.goto (-27), 3, 9, 0, 0) := by decide +kernel
theorem i_71_39 : a_ins 71 39 = some (.iload_n 2, 1, 0, 0, 0) := by decide +kernel
theorem i_71_40 : a_ins 71 40 = some (.ifCond .eq (6), 3, 46, 0, 0) := by decide +kernel
theorem i_71_43 : a_ins 71 43 = some (.bipush (-3), 2, 0, 0, -3) := by decide +kernel
theorem i_71_45 : a_ins 71 45 = some (.ireturn, 1, 0, 0, 0) := by decide +kernel
theorem i_71_46 : a_ins 71 46 = some (.iload_n 1, 1, 0, 0, 0) := by decide +kernel
theorem i_71_47 : a_ins 71 47 = some (.istore_n 2, 1, 0, 0, 0) := by decide +kernel
theorem i_71_48 : a_ins 71 48 = some (.iconst (0), 1, 0, 0, 0) := by decide +kernel
theorem i_71_49 : a_ins 71 49 = some (.istore_n 3, 1, 0, 0, 0) := by decide +kernel
theorem i_71_50 : a_ins 71 50 = some (.aload_n 0, 1, 0, 0, 0) := by decide +kernel
theorem i_71_51 : a_ins 71 51 = some (.getfield 9, 3, 1, 0, 0) := by decide +kernel
theorem i_71_54 : a_ins 71 54 = some (.iconst (1), 1, 0, 0, 1) := by decide +kernel
theorem i_71_55 : a_ins 71 55 = some (.isub, 1, 0, 0, 0) := by decide +kernel
theorem i_71_56 : a_ins 71 56 = some (.istore 4, 2, 0, 0, 0) := by decide +kernel
theorem i_71_58 : a_ins 71 58 = some (.iload 4, 2, 0, 0, 0) := by decide +kernel
theorem i_71_60 : a_ins 71 60 = some (.ifCond .lt (37), 3, 97, 0, 0) := by decide +kernel
theorem i_71_63 : a_ins 71 63 = some (.aload_n 0, 1, 0, 0, 0) := by decide +kernel
theorem i_71_64 : a_ins 71 64 = some (.getfield 22, 3, 1, 7, 0) := by decide +kernel
theorem i_71_67 : a_ins 71 67 = some (.iload 4, 2, 0, 0, 0) := by decide +kernel
theorem i_71_69 : a_ins 71 69 = some (.iload_n 2, 1, 0, 0, 0) := by decide +kernel
theorem i_71_70 : a_ins 71 70 = some (.bipush (10), 2, 0, 0, 10) := by decide +kernel
theorem i_71_72 : a_ins 71 72 = some (.irem, 1, 0, 0, 0) := by decide +kernel
theorem i_71_73 : a_ins 71 73 = some (.iastore, 1, 0, 0, 0) := by decide +kernel
theorem i_71_74 : a_ins 71 74 = some (.iload_n 3, 1, 0, 0, 0) := by decide +kernel
theorem i_71_75 : a_ins 71 75 = some (.iconst (1), 1, 0, 0, 1) := by decide +kernel
theorem i_71_76 : a_ins 71 76 = some (.aload_n 0, 1, 0, 0, 0) := by decide +kernel
theorem i_71_77 : a_ins 71 77 = some (.getfield 22, 3, 1, 7, 0) := by decide +kernel
theorem i_71_80 : a_ins 71 80 = some (.iload 4, 2, 0, 0, 0) := by decide +kernel
theorem i_71_82 : a_ins 71 82 = some (.iaload, 1, 0, 0, 0) := by decide +kernel
theorem i_71_83 : a_ins 71 83 = some (.ishl, 1, 0, 0, 0) := by decide +kernel
theorem i_71_84 : a_ins 71 84 = some (.ior, 1, 0, 0, 0) := by decide +kernel
theorem i_71_85 : a_ins 71 85 = some (.istore_n 3, 1, 0, 0, 0) := by decide +kernel
theorem i_71_86 : a_ins 71 86 = some (.iload_n 2, 1, 0, 0, 0) := by decide +kernel
theorem i_71_87 : a_ins 71 87 = some (.bipush (10), 2, 0, 0, 10) := by decide +kernel
theorem i_71_89 : a_ins 71 89 = some (.idiv, 1, 0, 0, 0) := by decide +kernel
theorem i_71_90 : a_ins 71 90 = some (.istore_n 2, 1, 0, 0, 0) := by decide +kernel
theorem i_71_91 : a_ins 71 91 = some (.iinc 4 (-1), 3, 0, 0, -1) := by decide +kernel
theorem i_71_94 : a_ins 71 94 = some (.goto (-36), 3, 58, 0, 0) := by decide +kernel
theorem i_71_97 : a_ins 71 97 = some (.iload_n 3, 1, 0, 0, 0) := by decide +kernel
theorem i_71_98 : a_ins 71 98 = some (.invokestatic 134, 3, 265, 1, 0) := by decide +kernel
theorem i_71_101 : a_ins 71 101 = some (.ireturn, 1, 0, 0, 0) := by decide +kernel
theorem i_72_0 : a_ins 72 0 = some (.aload_n 0, 1, 0, 0, 0) := by decide +kernel
theorem i_72_1 : a_ins 72 1 = some (.iload_n 1, 1, 0, 0, 0) := by decide +kernel
theorem i_72_2 : a_ins 72 2 = some (.invokevirtual 116, 3, 53, 2, 0) := by decide +kernel
theorem i_72_5 : a_ins 72 5 = some (.ifCond .ne (6), 3, 11, 0, 0) := by decide +kernel
theorem i_72_8 : a_ins 72 8 = some (.bipush (-2), 2, 0, 0, -2) := by decide +kernel
theorem i_72_10 : a_ins 72 10 = some (.ireturn, 1, 0, 0, 0) := by decide +kernel
theorem i_72_11 : a_ins 72 11 = some (.aload_n 0, 1, 0, 0, 0) := by decide +kernel
theorem i_72_12 : a_ins 72 12 = some (.iload_n 2, 1, 0, 0, 0) := by decide +kernel
theorem i_72_13 : a_ins 72 13 = some (.invokevirtual 119, 3, 58, 2, 0) := by decide +kernel
theorem i_72_16 : a_ins 72 16 = some (.ifCond .ne (6), 3, 22, 0, 0) := by decide +kernel
theorem i_72_19 : a_ins 72 19 = some (.bipush (-3), 2, 0, 0, -3) := by decide +kernel
theorem i_72_21 : a_ins 72 21 = some (.ireturn, 1, 0, 0, 0) := by decide +kernel
theorem i_72_22 : a_ins 72 22 = some (.aload_n 0, 1, 0, 0, 0) := by decide +kernel
theorem i_72_23 : a_ins 72 23 = some (.getfield 19, 3, 1, 6, 0) := by decide +kernel
theorem i_72_26 : a_ins 72 26 = some (.iload_n 1, 1, 0, 0, 0) := by decide +kernel
theorem i_72_27 : a_ins 72 27 = some (.iaload, 1, 0, 0, 0) := by decide +kernel
theorem i_72_28 : a_ins 72 28 = some (.iconst (1), 1, 0, 0, 1) := by decide +kernel
theorem i_72_29 : a_ins 72 29 = some (.if_icmp .eq (6), 3, 35, 0, 0) := by decide +kernel
theorem i_72_32 : a_ins 72 32 = some (.bipush (-5), 2, 0, 0, -5) := by decide +kernel
theorem i_72_34 : a_ins 72 34 = some (.ireturn, 1, 0, 0, 0) := by decide +kernel
theorem i_72_35 : a_ins 72 35 = some (.aload_n 0, 1, 0, 0, 0) := by decide +kernel
theorem i_72_36 : a_ins 72 36 = some (.aload_n 0, 1, 0, 0, 0) := by decide +kernel
theorem i_72_37 : a_ins 72 37 = some (.getfield 22, 3, 1, 7, 0) := by decide +kernel
theorem i_72_40 : a_ins 72 40 = some (.iload_n 1, 1, 0, 0, 0) := by decide +kernel
theorem i_72_41 : a_ins 72 41 = some (.iaload, 1, 0, 0, 0) := by decide +kernel
theorem i_72_42 : a_ins 72 42 = some (.invokevirtual 142, 3, 73, 2, 0) := by decide +kernel
theorem i_72_45 : a_ins 72 45 = some (.istore_n 3, 1, 0, 0, 0) := by decide +kernel
theorem i_72_46 : a_ins 72 46 = some (.aload_n 0, 1, 0, 0, 0) := by decide +kernel
theorem i_72_47 : a_ins 72 47 = some (.iload_n 3, 1, 0, 0, 0) := by decide +kernel
theorem i_72_48 : a_ins 72 48 = some (.invokevirtual 145, 3, 75, 2, 0) := by decide +kernel
theorem i_72_51 : a_ins 72 51 = some (.iload_n 1, 1, 0, 0, 0) := by decide +kernel
theorem i_72_52 : a_ins 72 52 = some (.if_icmp .ne (11), 3, 63, 0, 0) := by decide +kernel
theorem i_72_55 : a_ins 72 55 = some (.aload_n 0, 1, 0, 0, 0) := by decide +kernel
theorem i_72_56 : a_ins 72 56 = some (.iload_n 3, 1, 0, 0, 0) := by decide +kernel
theorem i_72_57 : a_ins 72 57 = some (.invokevirtual 108, 3, 76, 2, 0) := by decide +kernel
theorem i_72_60 : a_ins 72 60 = some (.ifCond .eq (6), 3, 66, 0, 0) := by decide +kernel
theorem i_72_63 : a_ins 72 63 = some (.bipush (-5), 2, 0, 0, -5) := by decide +kernel
theorem i_72_65 : a_ins 72 65 = some (.ireturn, 1, 0, 0, 0) := by decide +kernel
theorem i_72_66 : a_ins 72 66 = some (.aload_n 0, 1, 0, 0, 0) := by decide +kernel
theorem i_72_67 : a_ins 72 67 = some (.iload_n 3, 1, 0, 0, 0) := by decide +kernel
theorem i_72_68 : a_ins 72 68 = some (.iload_n 3, 1, 0, 0, 0) := by decide +kernel
theorem i_72_69 : a_ins 72 69 = some (.invokevirtual 112, 3, 77, 3, 0) := by decide +kernel
theorem i_72_72 : a_ins 72 72 = some (.istore 4, 2, 0, 0, 0) := by decide +kernel
theorem i_72_74 : a_ins 72 74 = some (.iload 4, 2, 0, 0, 0) := by decide +kernel
theorem i_72_76 : a_ins 72 76 = some (.iconst (-1), 1, 0, 0, -1) := by decide +kernel
theorem i_72_77 : a_ins 72 77 = some (.if_icmp .ne (6), 3, 83, 0, 0) := by decide +kernel
theorem i_72_80 : a_ins 72 80 = some (.bipush (-4), 2, 0, 0, -4) := by decide +kernel
theorem i_72_82 : a_ins 72 82 = some (.ireturn, 1, 0, 0, 0) := by decide +kernel
theorem i_72_83 : a_ins 72 83 = some (.aload_n 0, 1, 0, 0, 0) := by decide +kernel
theorem i_72_84 : a_ins 72 84 = some (.iload_n 1, 1, 0, 0, 0) := by decide +kernel
theorem i_72_85 : a_ins 72 85 = some (.iload_n 3, 1, 0, 0, 0) := by decide +kernel
theorem i_72_86 : a_ins 72 86 = some (.iload 4, 2, 0, 0, 0) := by decide +kernel
theorem i_72_88 : a_ins 72 88 = some (.iload_n 2, 1, 0, 0, 0) := by decide +kernel
theorem i_72_89 : a_ins 72 89 = some (.invokevirtual 148, 3, 79, 5, 0) := by decide +kernel
theorem i_72_92 : a_ins 72 92 = some (.iload 4, 2, 0, 0, 0) := by decide +kernel
theorem i_72_94 : a_ins 72 94 = some (.ireturn, 1, 0, 0, 0) := by decide +kernel
theorem i_73_0 : a_ins 73 0 = some (.aload_n 0, 1, 0, 0, 0) := by decide +kernel
theorem i_73_1 : a_ins 73 1 = some (.invokevirtual 87, 3, 68, 1, 0) := by decide +kernel
theorem i_73_4 : a_ins 73 4 = some (.aload_n 0, 1, 0, 0, 0) := by decide +kernel
theorem i_73_5 : a_ins 73 5 = some (.iload_n 1, 1, 0, 0, 0) := by decide +kernel
theorem i_73_6 : a_ins 73 6 = some (.invokevirtual 90, 3, 74, 2, 0) := by decide +kernel
theorem i_73_9 : a_ins 73 9 = some (.iand, 1, 0, 0, 0) := by decide +kernel
theorem i_73_10 : a_ins 73 10 = some (.ireturn, 1, 0, 0, 0) := by decide +kernel
theorem i_74_0 : a_ins 74 0 = some (.iconst (0), 1, 0, 0, 0) := by decide +kernel
theorem i_74_1 : a_ins 74 1 = some (.istore_n 2, 1, 0, 0, 0) := by decide +kernel
theorem i_74_2 : a_ins 74 2 = some (.iconst (0), 1, 0, 0, 0) := by decide +kernel
theorem i_74_3 : a_ins 74 3 = some (.istore_n 3, 1, 0, 0, 0) := by decide +kernel
theorem i_74_4 : a_ins 74 4 = some (.iload_n 3, 1, 0, 0, 0) := by decide +kernel
theorem i_74_5 : a_ins 74 5 = some (.aload_n 0, 1, 0, 0, 0) := by decide +kernel
theorem i_74_6 : a_ins 74 6 = some (.getfield 9, 3, 1, 0, 0) := by decide +kernel
theorem i_74_9 : a_ins 74 9 = some (.if_icmp .ge (25), 3, 34, 0, 0) := by decide +kernel
theorem i_74_12 : a_ins 74 12 = some (.aload_n 0, 1, 0, 0, 0) := by decide +kernel
theorem i_74_13 : a_ins 74 13 = some (.getfield 22, 3, 1, 7, 0) := by decide +kernel
theorem i_74_16 : a_ins 74 16 = some (.iload_n 3, 1, 0, 0, 0) := by decide +kernel
theorem i_74_17 : a_ins 74 17 = some (.iaload, 1, 0, 0, 0) := by decide +kernel
theorem i_74_18 : a_ins 74 18 = some (.iload_n 1, 1, 0, 0, 0) := by decide +kernel
theorem i_74_19 : a_ins 74 19 = some (.if_icmp .ne (9), 3, 28, 0, 0) := by decide +kernel
theorem i_74_22 : a_ins 74 22 = some (.iload_n 2, 1, 0, 0, 0) := by decide +kernel
theorem i_74_23 : a_ins 74 23 = some (.iconst (1), 1, 0, 0, 1) := by decide +kernel
theorem i_74_24 : a_ins 74 24 = some (.iload_n 3, 1, 0, 0, 0) := by decide +kernel
theorem i_74_25 : a_ins 74 25 = some (.ishl, 1, 0, 0, 0) := by decide +kernel
theorem i_74_26 : a_ins 74 26 = some (.ior, 1, 0, 0, 0) := by decide +kernel
theorem i_74_27 : a_ins 74 27 = some (.istore_n 2, 1, 0, 0, 0) := by decide +kernel
theorem i_74_28 : a_ins 74 28 = some (.iinc 3 (1), 3, 0, 0, 1) := by decide +kernel
theorem i_74_31 : a_ins 74 31 = some (.goto (-27), 3, 4, 0, 0) := by decide +kernel
theorem i_74_34 : a_ins 74 34 = some (.iload_n 2, 1, 0, 0, 0) := by decide +kernel
theorem i_74_35 : a_ins 74 35 = some (.ireturn, 1, 0, 0, 0) := by decide +kernel
theorem i_75_0 : a_ins 75 0 = some (.iconst (0), 1, 0, 0, 0) := by decide +kernel
theorem i_75_1 : a_ins 75 1 = some (.istore_n 2, 1, 0, 0, 0) := by decide +kernel
theorem i_75_2 : a_ins 75 2 = some (.iload_n 2, 1, 0, 0, 0) := by decide +kernel
theorem i_75_3 : a_ins 75 3 = some (.aload_n 0, 1, 0, 0, 0) := by decide +kernel
theorem i_75_4 : a_ins 75 4 = some (.getfield 9, 3, 1, 0, 0) := by decide +kernel
theorem i_75_7 : a_ins 75 7 = some (.if_icmp .ge (20), 3, 27, 0, 0) := by decide +kernel
theorem i_75_10 : a_ins 75 10 = some (.iload_n 1, 1, 0, 0, 0) := by decide +kernel
theorem i_75_11 : a_ins 75 11 = some (.iload_n 2, 1, 0, 0, 0) := by decide +kernel
theorem i_75_12 : a_ins 75 12 = some (.ishr, 1, 0, 0, 0) := by decide +kernel
theorem i_75_13 : a_ins 75 13 = some (.iconst (1), 1, 0, 0, 1) := by decide +kernel
theorem i_75_14 : a_ins 75 14 = some (.iand, 1, 0, 0, 0) := by decide +kernel
theorem i_75_15 : a_ins 75 15 = some (.iconst (1), 1, 0, 0, 1) := by decide +kernel
theorem i_75_16 : a_ins 75 16 = some (.if_icmp .ne (5), 3, 21, 0, 0) := by decide +kernel
theorem i_75_19 : a_ins 75 19 = some (.iload_n 2, 1, 0, 0, 0) := by decide +kernel
theorem i_75_20 : a_ins 75 20 = some (.ireturn, 1, 0, 0, 0) := by decide +kernel
theorem i_75_21 : a_ins 75 21 = some (.iinc 2 (1), 3, 0, 0, 1) := by decide +kernel
theorem i_75_24 : a_ins 75 24 = some (.goto (-22), 3, 2, 0, 0) := by decide +kernel
theorem i_75_27 : a_ins 75 27 = some (.iconst (-1), 1, 0, 0, -1) := by decide +kernel
theorem i_75_28 : a_ins 75 28 = some (.ireturn, 1, 0, 0, 0) := by decide +kernel
theorem i_76_0 : a_ins 76 0 = some (.aload_n 0, 1, 0, 0, 0) := by decide +kernel
theorem i_76_1 : a_ins 76 1 = some (.iload_n 1, 1, 0, 0, 0) := by decide +kernel
theorem i_76_2 : a_ins 76 2 = some (.invokevirtual 99, 3, 55, 2, 0) := by decide +kernel
theorem i_76_5 : a_ins 76 5 = some (.bipush (15), 2, 0, 0, 15) := by decide +kernel
theorem i_76_7 : a_ins 76 7 = some (.iand, 1, 0, 0, 0) := by decide +kernel
theorem i_76_8 : a_ins 76 8 = some (.ifCond .ne (7), 3, 15, 0, 0) := by decide +kernel
theorem i_76_11 : a_ins 76 11 = some (.iconst (1), 1, 0, 0, 1) := by decide +kernel
theorem i_76_12 : a_ins 76 12 = some (.goto (4), 3, 16, 0, 0) := by decide +kernel
theorem i_76_15 : a_ins 76 15 = some (.iconst (0), 1, 0, 0, 0) := by decide +kernel
theorem i_76_16 : a_ins 76 16 = some (.ireturn, 1, 0, 0, 0) := by decide +kernel
theorem i_77_0 : a_ins 77 0 = some (.aload_n 0, 1, 0, 0, 0) := by decide +kernel
theorem i_77_1 : a_ins 77 1 = some (.iload_n 1, 1, 0, 0, 0) := by decide +kernel
theorem i_77_2 : a_ins 77 2 = some (.invokevirtual 99, 3, 55, 2, 0) := by decide +kernel
theorem i_77_5 : a_ins 77 5 = some (.istore_n 3, 1, 0, 0, 0) := by decide +kernel
theorem i_77_6 : a_ins 77 6 = some (.iload_n 3, 1, 0, 0, 0) := by decide +kernel
theorem i_77_7 : a_ins 77 7 = some (.bipush (16), 2, 0, 0, 16) := by decide +kernel
theorem i_77_9 : a_ins 77 9 = some (.iand, 1, 0, 0, 0) := by decide +kernel
theorem i_77_10 : a_ins 77 10 = some (.ifCond .eq (5), 3, 15, 0, 0) := by decide +kernel
theorem i_77_13 : a_ins 77 13 = some (.iconst (1), 1, 0, 0, 1) := by decide +kernel
theorem i_77_14 : a_ins 77 14 = some (.ireturn, 1, 0, 0, 0) := by decide +kernel
theorem i_77_15 : a_ins 77 15 = some (.iload_n 3, 1, 0, 0, 0) := by decide +kernel
theorem i_77_16 : a_ins 77 16 = some (.bipush (32), 2, 0, 0, 32) := by decide +kernel
theorem i_77_18 : a_ins 77 18 = some (.iand, 1, 0, 0, 0) := by decide +kernel
theorem i_77_19 : a_ins 77 19 = some (.ifCond .eq (5), 3, 24, 0, 0) := by decide +kernel
theorem i_77_22 : a_ins 77 22 = some (.iconst (0), 1, 0, 0, 0) := by decide +kernel
theorem i_77_23 : a_ins 77 23 = some (.ireturn, 1, 0, 0, 0) := by decide +kernel
theorem i_77_24 : a_ins 77 24 = some (.iload_n 3, 1, 0, 0, 0) := by decide +kernel
theorem i_77_25 : a_ins 77 25 = some (.iconst (4), 1, 0, 0, 4) := by decide +kernel
theorem i_77_26 : a_ins 77 26 = some (.iand, 1, 0, 0, 0) := by decide +kernel
theorem i_77_27 : a_ins 77 27 = some (.ifCond .eq (7), 3, 34, 0, 0) := by decide +kernel
theorem i_77_30 : a_ins 77 30 = some (.iconst (1), 1, 0, 0, 1) := by decide +kernel
theorem i_77_31 : a_ins 77 31 = some (.goto (4), 3, 35, 0, 0) := by decide +kernel
theorem i_77_34 : a_ins 77 34 = some (.iconst (0), 1, 0, 0, 0) := by decide +kernel
theorem i_77_35 : a_ins 77 35 = some (.istore 4, 2, 0, 0, 0) := by decide +kernel
theorem i_77_37 : a_ins 77 37 = some (.aload_n 0, 1, 0, 0, 0) := by decide +kernel
theorem i_77_38 : a_ins 77 38 = some (.getfield 41, 3, 1, 1, 0) := by decide +kernel
theorem i_77_41 : a_ins 77 41 = some (.ifCond .ne (10), 3, 51, 0, 0) := by decide +kernel
theorem i_77_44 : a_ins 77 44 = some (.iload 4, 2, 0, 0, 0) := by decide +kernel
theorem i_77_46 : a_ins 77 46 = some (.ifCond .ne (5), 3, 51, 0, 0) := by decide +kernel
theorem i_77_49 : a_ins 77 49 = some (.iconst (0), 1, 0, 0, 0) := by decide +kernel
theorem i_77_50 : a_ins 77 50 = some (.ireturn, 1, 0, 0, 0) := by decide +kernel
theorem i_77_51 : a_ins 77 51 = some (.aload_n 0, 1, 0, 0, 0) := by decide +kernel
theorem i_77_52 : a_ins 77 52 = some (.getfield 41, 3, 1, 1, 0) := by decide +kernel
theorem i_77_55 : a_ins 77 55 = some (.ifCond .eq (27), 3, 82, 0, 0) := by decide +kernel
theorem i_77_58 : a_ins 77 58 = some (.iload 4, 2, 0, 0, 0) := by decide +kernel
theorem i_77_60 : a_ins 77 60 = some (.ifCond .eq (41), 3, 101, 0, 0) := by decide +kernel
theorem i_77_63 : a_ins 77 63 = some (.aload_n 0, 1, 0, 0, 0) := by decide +kernel
theorem i_77_64 : a_ins 77 64 = some (.iload_n 1, 1, 0, 0, 0) := by decide +kernel
theorem i_77_65 : a_ins 77 65 = some (.aload_n 0, 1, 0, 0, 0) := by decide +kernel
theorem i_77_66 : a_ins 77 66 = some (.bipush (6), 2, 0, 0, 6) := by decide +kernel
theorem i_77_68 : a_ins 77 68 = some (.invokevirtual 102, 3, 65, 2, 0) := by decide +kernel
theorem i_77_71 : a_ins 77 71 = some (.iand, 1, 0, 0, 0) := by decide +kernel
theorem i_77_72 : a_ins 77 72 = some (.invokevirtual 93, 3, 49, 2, 0) := by decide +kernel
theorem i_77_75 : a_ins 77 75 = some (.aload_n 0, 1, 0, 0, 0) := by decide +kernel
theorem i_77_76 : a_ins 77 76 = some (.getfield 77, 3, 1, 3, 0) := by decide +kernel
theorem i_77_79 : a_ins 77 79 = some (.if_icmp .lt (22), 3, 101, 0, 0) := by decide +kernel
theorem i_77_82 : a_ins 77 82 = some (.aload_n 0, 1, 0, 0, 0) := by decide +kernel
theorem i_77_83 : a_ins 77 83 = some (.iload_n 2, 1, 0, 0, 0) := by decide +kernel
theorem i_77_84 : a_ins 77 84 = some (.invokevirtual 99, 3, 55, 2, 0) := by decide +kernel
theorem i_77_87 : a_ins 77 87 = some (.aload_n 0, 1, 0, 0, 0) := by decide +kernel
theorem i_77_88 : a_ins 77 88 = some (.invokevirtual 105, 3, 78, 1, 0) := by decide +kernel
theorem i_77_91 : a_ins 77 91 = some (.iand, 1, 0, 0, 0) := by decide +kernel
theorem i_77_92 : a_ins 77 92 = some (.ifCond .eq (7), 3, 99, 0, 0) := by decide +kernel
theorem i_77_95 : a_ins 77 95 = some (.iconst (2), 1, 0, 0, 2) := by decide +kernel
theorem i_77_96 : a_ins 77 96 = some (.goto (4), 3, 100, 0, 0) := by decide +kernel
theorem i_77_99 : a_ins 77 99 = some (.iconst (1), 1, 0, 0, 1) := by decide +kernel
theorem i_77_100 : a_ins 77 100 = some (.ireturn, 1, 0, 0, 0) := by decide +kernel
theorem i_77_101 : a_ins 77 101 = some (.aload_n 0, 1, 0, 0, 0) := by decide +kernel
theorem i_77_102 : a_ins 77 102 = some (.iload_n 1, 1, 0, 0, 0) := by decide +kernel
theorem i_77_103 : a_ins 77 103 = some (.aload_n 0, 1, 0, 0, 0) := by decide +kernel
theorem i_77_104 : a_ins 77 104 = some (.bipush (11), 2, 0, 0, 11) := by decide +kernel
theorem i_77_106 : a_ins 77 106 = some (.invokevirtual 102, 3, 65, 2, 0) := by decide +kernel
theorem i_77_109 : a_ins 77 109 = some (.iand, 1, 0, 0, 0) := by decide +kernel
theorem i_77_110 : a_ins 77 110 = some (.invokevirtual 93, 3, 49, 2, 0) := by decide +kernel
theorem i_77_113 : a_ins 77 113 = some (.aload_n 0, 1, 0, 0, 0) := by decide +kernel
theorem i_77_114 : a_ins 77 114 = some (.getfield 80, 3, 1, 4, 0) := by decide +kernel
theorem i_77_117 : a_ins 77 117 = some (.if_icmp .lt (19), 3, 136, 0, 0) := by decide +kernel
theorem i_77_120 : a_ins 77 120 = some (.aload_n 0, 1, 0, 0, 0) := by decide +kernel
theorem i_77_121 : a_ins 77 121 = some (.iload_n 2, 1, 0, 0, 0) := by decide +kernel
theorem i_77_122 : a_ins 77 122 = some (.invokevirtual 99, 3, 55, 2, 0) := by decide +kernel
theorem i_77_125 : a_ins 77 125 = some (.iconst (3), 1, 0, 0, 3) := by decide +kernel
theorem i_77_126 : a_ins 77 126 = some (.iand, 1, 0, 0, 0) := by decide +kernel
theorem i_77_127 : a_ins 77 127 = some (.ifCond .eq (7), 3, 134, 0, 0) := by decide +kernel
theorem i_77_130 : a_ins 77 130 = some (.iconst (3), 1, 0, 0, 3) := by decide +kernel
theorem i_77_131 : a_ins 77 131 = some (.goto (4), 3, 135, 0, 0) := by decide +kernel
theorem i_77_134 : a_ins 77 134 = some (.iconst (0), 1, 0, 0, 0) := by decide +kernel
theorem i_77_135 : a_ins 77 135 = some (.ireturn, 1, 0, 0, 0) := by decide +kernel
theorem i_77_136 : a_ins 77 136 = some (.iconst (-1), 1, 0, 0, -1) := by decide +kernel
theorem i_77_137 : a_ins 77 137 = some (.ireturn, 1, 0, 0, 0) := by decide +kernel
theorem i_78_0 : a_ins 78 0 = some (.aload_n 0, 1, 0, 0, 0) := by decide +kernel
theorem i_78_1 : a_ins 78 1 = some (.getfield 41, 3, 1, 1, 0) := by decide +kernel
theorem i_78_4 : a_ins 78 4 = some (.ifCond .ne (7), 3, 11, 0, 0) := by decide +kernel
theorem i_78_7 : a_ins 78 7 = some (.iconst (3), 1, 0, 0, 3) := by decide +kernel
theorem i_78_8 : a_ins 78 8 = some (.goto (4), 3, 12, 0, 0) := by decide +kernel
theorem i_78_11 : a_ins 78 11 = some (.iconst (2), 1, 0, 0, 2) := by decide +kernel
theorem i_78_12 : a_ins 78 12 = some (.ireturn, 1, 0, 0, 0) := by decide +kernel
theorem i_79_0 : a_ins 79 0 = some (.aload_n 0, 1, 0, 0, 0) := by decide +kernel
theorem i_79_1 : a_ins 79 1 = some (.iload 4, 2, 0, 0, 0) := by decide +kernel
theorem i_79_3 : a_ins 79 3 = some (.invokevirtual 126, 3, 60, 2, 0) := by decide +kernel
theorem i_79_6 : a_ins 79 6 = some (.iconst (0), 1, 0, 0, 0) := by decide +kernel
theorem i_79_7 : a_ins 79 7 = some (.istore 5, 2, 0, 0, 0) := by decide +kernel
theorem i_79_9 : a_ins 79 9 = some (.iload_n 3, 1, 0, 0, 0) := by decide +kernel
theorem i_79_10 : a_ins 79 10 = some (.iconst (2), 1, 0, 0, 2) := by decide +kernel
theorem i_79_11 : a_ins 79 11 = some (.if_icmp .ne (19), 3, 30, 0, 0) := by decide +kernel
theorem i_79_14 : a_ins 79 14 = some (.aload_n 0, 1, 0, 0, 0) := by decide +kernel
theorem i_79_15 : a_ins 79 15 = some (.iload_n 1, 1, 0, 0, 0) := by decide +kernel
theorem i_79_16 : a_ins 79 16 = some (.iload_n 2, 1, 0, 0, 0) := by decide +kernel
theorem i_79_17 : a_ins 79 17 = some (.iconst (2), 1, 0, 0, 2) := by decide +kernel
theorem i_79_18 : a_ins 79 18 = some (.aload_n 0, 1, 0, 0, 0) := by decide +kernel
theorem i_79_19 : a_ins 79 19 = some (.invokevirtual 105, 3, 78, 1, 0) := by decide +kernel
theorem i_79_22 : a_ins 79 22 = some (.invokevirtual 130, 3, 61, 5, 0) := by decide +kernel
theorem i_79_25 : a_ins 79 25 = some (.istore 5, 2, 0, 0, 0) := by decide +kernel
theorem i_79_27 : a_ins 79 27 = some (.goto (18), 3, 45, 0, 0) := by decide +kernel
theorem i_79_30 : a_ins 79 30 = some (.iload_n 3, 1, 0, 0, 0) := by decide +kernel
theorem i_79_31 : a_ins 79 31 = some (.iconst (3), 1, 0, 0, 3) := by decide +kernel
theorem i_79_32 : a_ins 79 32 = some (.if_icmp .ne (13), 3, 45, 0, 0) := by decide +kernel
theorem i_79_35 : a_ins 79 35 = some (.aload_n 0, 1, 0, 0, 0) := by decide +kernel
theorem i_79_36 : a_ins 79 36 = some (.iload_n 1, 1, 0, 0, 0) := by decide +kernel
theorem i_79_37 : a_ins 79 37 = some (.iload_n 2, 1, 0, 0, 0) := by decide +kernel
theorem i_79_38 : a_ins 79 38 = some (.iconst (3), 1, 0, 0, 3) := by decide +kernel
theorem i_79_39 : a_ins 79 39 = some (.iconst (3), 1, 0, 0, 3) := by decide +kernel
theorem i_79_40 : a_ins 79 40 = some (.invokevirtual 130, 3, 61, 5, 0) := by decide +kernel
theorem i_79_43 : a_ins 79 43 = some (.istore 5, 2, 0, 0, 0) := by decide +kernel
theorem i_79_45 : a_ins 79 45 = some (.iload 5, 2, 0, 0, 0) := by decide +kernel
theorem i_79_47 : a_ins 79 47 = some (.ifCond .ne (39), 3, 86, 0, 0) := by decide +kernel
theorem i_79_50 : a_ins 79 50 = some (.iload_n 3, 1, 0, 0, 0) := by decide +kernel
theorem i_79_51 : a_ins 79 51 = some (.iconst (1), 1, 0, 0, 1) := by decide +kernel
theorem i_79_52 : a_ins 79 52 = some (.if_icmp .eq (8), 3, 60, 0, 0) := by decide +kernel
theorem i_79_55 : a_ins 79 55 = some (.iload_n 3, 1, 0, 0, 0) := by decide +kernel
theorem i_79_56 : a_ins 79 56 = some (.iconst (2), 1, 0, 0, 2) := by decide +kernel
theorem i_79_57 : a_ins 79 57 = some (.if_icmp .ne (7), 3, 64, 0, 0) := by decide +kernel
theorem i_79_60 : a_ins 79 60 = some (.iconst (1), 1, 0, 0, 1) := by decide +kernel
theorem i_79_61 : a_ins 79 61 = some (.goto (4), 3, 65, 0, 0) := by decide +kernel
theorem i_79_64 : a_ins 79 64 = some (.iconst (0), 1, 0, 0, 0) := by decide +kernel
theorem i_79_65 : a_ins 79 65 = some (.istore 6, 2, 0, 0, 0) := by decide +kernel
theorem i_79_67 : a_ins 79 67 = some (.aload_n 0, 1, 0, 0, 0) := by decide +kernel
theorem i_79_68 : a_ins 79 68 = some (.iload_n 1, 1, 0, 0, 0) := by decide +kernel
theorem i_79_69 : a_ins 79 69 = some (.iload_n 2, 1, 0, 0, 0) := by decide +kernel
theorem i_79_70 : a_ins 79 70 = some (.iload 6, 2, 0, 0, 0) := by decide +kernel
theorem i_79_72 : a_ins 79 72 = some (.ifCond .eq (7), 3, 79, 0, 0) := by decide +kernel
theorem i_79_75 : a_ins 79 75 = some (.iconst (4), 1, 0, 0, 4) := by decide +kernel
theorem i_79_76 : a_ins 79 76 = some (.goto (4), 3, 80, 0, 0) := by decide +kernel
theorem i_79_79 : a_ins 79 79 = some (.iconst (5), 1, 0, 0, 5) := by decide +kernel
theorem i_79_80 : a_ins 79 80 = some (.bipush (63), 2, 0, 0, 63) := by decide +kernel
theorem i_79_82 : a_ins 79 82 = some (.invokevirtual 130, 3, 61, 5, 0) := by decide +kernel
theorem i_79_85 : a_ins 79 85 = some (.pop, 1, 0, 0, 0) := by decide +kernel
theorem i_79_86 : a_ins 79 86 = some (.iload_n 1, 1, 0, 0, 0) := by decide +kernel
theorem i_79_87 : a_ins 79 87 = some (.ifCond .ne (8), 3, 95, 0, 0) := by decide +kernel
theorem i_79_90 : a_ins 79 90 = some (.aload_n 0, 1, 0, 0, 0) := by decide +kernel
theorem i_79_91 : a_ins 79 91 = some (.iconst (3), 1, 0, 0, 3) := by decide +kernel
theorem i_79_92 : a_ins 79 92 = some (.putfield 44, 3, 1, 2, 0) := by decide +kernel
theorem i_79_95 : a_ins 79 95 = some (.return_, 1, 0, 0, 0) := by decide +kernel
theorem i_80_0 : a_ins 80 0 = some (.aload_n 0, 1, 0, 0, 0) := by decide +kernel
theorem i_80_1 : a_ins 80 1 = some (.iload_n 1, 1, 0, 0, 0) := by decide +kernel
theorem i_80_2 : a_ins 80 2 = some (.invokevirtual 116, 3, 53, 2, 0) := by decide +kernel
theorem i_80_5 : a_ins 80 5 = some (.ifCond .ne (6), 3, 11, 0, 0) := by decide +kernel
theorem i_80_8 : a_ins 80 8 = some (.bipush (-2), 2, 0, 0, -2) := by decide +kernel
theorem i_80_10 : a_ins 80 10 = some (.ireturn, 1, 0, 0, 0) := by decide +kernel
theorem i_80_11 : a_ins 80 11 = some (.aload_n 0, 1, 0, 0, 0) := by decide +kernel
theorem i_80_12 : a_ins 80 12 = some (.getfield 19, 3, 1, 6, 0) := by decide +kernel
theorem i_80_15 : a_ins 80 15 = some (.iload_n 1, 1, 0, 0, 0) := by decide +kernel
theorem i_80_16 : a_ins 80 16 = some (.iaload, 1, 0, 0, 0) := by decide +kernel
theorem i_80_17 : a_ins 80 17 = some (.iconst (2), 1, 0, 0, 2) := by decide +kernel
theorem i_80_18 : a_ins 80 18 = some (.if_icmp .eq (6), 3, 24, 0, 0) := by decide +kernel
theorem i_80_21 : a_ins 80 21 = some (.bipush (-5), 2, 0, 0, -5) := by decide +kernel
theorem i_80_23 : a_ins 80 23 = some (.ireturn, 1, 0, 0, 0) := by decide +kernel
theorem i_80_24 : a_ins 80 24 = some (.aload_n 0, 1, 0, 0, 0) := by decide +kernel
theorem i_80_25 : a_ins 80 25 = some (.aload_n 0, 1, 0, 0, 0) := by decide +kernel
theorem i_80_26 : a_ins 80 26 = some (.aload_n 0, 1, 0, 0, 0) := by decide +kernel
theorem i_80_27 : a_ins 80 27 = some (.getfield 22, 3, 1, 7, 0) := by decide +kernel
theorem i_80_30 : a_ins 80 30 = some (.iload_n 1, 1, 0, 0, 0) := by decide +kernel
theorem i_80_31 : a_ins 80 31 = some (.iaload, 1, 0, 0, 0) := by decide +kernel
theorem i_80_32 : a_ins 80 32 = some (.invokevirtual 142, 3, 73, 2, 0) := by decide +kernel
theorem i_80_35 : a_ins 80 35 = some (.invokevirtual 99, 3, 55, 2, 0) := by decide +kernel
theorem i_80_38 : a_ins 80 38 = some (.istore_n 2, 1, 0, 0, 0) := by decide +kernel
theorem i_80_39 : a_ins 80 39 = some (.aload_n 0, 1, 0, 0, 0) := by decide +kernel
theorem i_80_40 : a_ins 80 40 = some (.getfield 15, 3, 1, 5, 0) := by decide +kernel
theorem i_80_43 : a_ins 80 43 = some (.iload_n 1, 1, 0, 0, 0) := by decide +kernel
theorem i_80_44 : a_ins 80 44 = some (.iaload, 1, 0, 0, 0) := by decide +kernel
theorem i_80_45 : a_ins 80 45 = some (.ifCond .ne (14), 3, 59, 0, 0) := by decide +kernel
theorem i_80_48 : a_ins 80 48 = some (.aload_n 0, 1, 0, 0, 0) := by decide +kernel
theorem i_80_49 : a_ins 80 49 = some (.iload_n 1, 1, 0, 0, 0) := by decide +kernel
theorem i_80_50 : a_ins 80 50 = some (.iconst (5), 1, 0, 0, 5) := by decide +kernel
theorem i_80_51 : a_ins 80 51 = some (.bipush (63), 2, 0, 0, 63) := by decide +kernel
theorem i_80_53 : a_ins 80 53 = some (.invokevirtual 152, 3, 62, 4, 0) := by decide +kernel
theorem i_80_56 : a_ins 80 56 = some (.goto (62), 3, 118, 0, 0) := by decide +kernel
theorem i_80_59 : a_ins 80 59 = some (.aload_n 0, 1, 0, 0, 0) := by decide +kernel
theorem i_80_60 : a_ins 80 60 = some (.getfield 15, 3, 1, 5, 0) := by decide +kernel
theorem i_80_63 : a_ins 80 63 = some (.iload_n 1, 1, 0, 0, 0) := by decide +kernel
theorem i_80_64 : a_ins 80 64 = some (.iaload, 1, 0, 0, 0) := by decide +kernel
theorem i_80_65 : a_ins 80 65 = some (.iconst (4), 1, 0, 0, 4) := by decide +kernel
theorem i_80_66 : a_ins 80 66 = some (.if_icmp .eq (52), 3, 118, 0, 0) := by decide +kernel
theorem i_80_69 : a_ins 80 69 = some (.aload_n 0, 1, 0, 0, 0) := by decide +kernel
theorem i_80_70 : a_ins 80 70 = some (.getfield 15, 3, 1, 5, 0) := by decide +kernel
theorem i_80_73 : a_ins 80 73 = some (.iload_n 1, 1, 0, 0, 0) := by decide +kernel
theorem i_80_74 : a_ins 80 74 = some (.iaload, 1, 0, 0, 0) := by decide +kernel
theorem i_80_75 : a_ins 80 75 = some (.iconst (5), 1, 0, 0, 5) := by decide +kernel
theorem i_80_76 : a_ins 80 76 = some (.if_icmp .eq (42), 3, 118, 0, 0) := by decide +kernel
theorem i_80_79 : a_ins 80 79 = some (.iload_n 2, 1, 0, 0, 0) := by decide +kernel
theorem i_80_80 : a_ins 80 80 = some (.bipush (48), 2, 0, 0, 48) := by decide +kernel
theorem i_80_82 : a_ins 80 82 = some (.iand, 1, 0, 0, 0) := by decide +kernel
theorem i_80_83 : a_ins 80 83 = some (.ifCond .eq (25), 3, 108, 0, 0) := by decide +kernel
theorem i_80_86 : a_ins 80 86 = some (.aload_n 0, 1, 0, 0, 0) := by decide +kernel
theorem i_80_87 : a_ins 80 87 = some (.iload_n 1, 1, 0, 0, 0) := by decide +kernel
theorem i_80_88 : a_ins 80 88 = some (.iload_n 2, 1, 0, 0, 0) := by decide +kernel
theorem i_80_89 : a_ins 80 89 = some (.bipush (16), 2, 0, 0, 16) := by decide +kernel
theorem i_80_91 : a_ins 80 91 = some (.iand, 1, 0, 0, 0) := by decide +kernel
theorem i_80_92 : a_ins 80 92 = some (.ifCond .eq (7), 3, 99, 0, 0) := by decide +kernel
theorem i_80_95 : a_ins 80 95 = some (.iconst (4), 1, 0, 0, 4) := by decide +kernel
theorem i_80_96 : a_ins 80 96 = some (.goto (4), 3, 100, 0, 0) := by decide +kernel
theorem i_80_99 : a_ins 80 99 = some (.iconst (5), 1, 0, 0, 5) := by decide +kernel
theorem i_80_100 : a_ins 80 100 = some (.bipush (63), 2, 0, 0, 63) := by decide +kernel
theorem i_80_102 : a_ins 80 102 = some (.invokevirtual 152, 3, 62, 4, 0) := by decide +kernel
theorem i_80_105 : a_ins 80 105 = some (.goto (13), 3, 118, 0, 0) := by decide +kernel
theorem i_80_108 : a_ins 80 108 = some (.aload_n 0, 1, 0, 0, 0) := by decide +kernel
theorem i_80_109 : a_ins 80 109 = some (.getfield 41, 3, 1, 1, 0) := by decide +kernel
theorem i_80_112 : a_ins 80 112 = some (.ifCond .ne (6), 3, 118, 0, 0) := by decide +kernel
theorem i_80_115 : a_ins 80 115 = some (.bipush (-4), 2, 0, 0, -4) := by decide +kernel
theorem i_80_117 : a_ins 80 117 = some (.ireturn, 1, 0, 0, 0) := by decide +kernel
theorem i_80_118 : a_ins 80 118 = some (.aload_n 0, 1, 0, 0, 0) := by decide +kernel
theorem i_80_119 : a_ins 80 119 = some (.iload_n 1, 1, 0, 0, 0) := by decide +kernel
theorem i_80_120 : a_ins 80 120 = some (.invokevirtual 156, 3, 81, 2, 0) := by decide +kernel
theorem i_80_123 : a_ins 80 123 = some (.aload_n 0, 1, 0, 0, 0) := by decide +kernel
theorem i_80_124 : a_ins 80 124 = some (.getfield 15, 3, 1, 5, 0) := by decide +kernel
theorem i_80_127 : a_ins 80 127 = some (.iload_n 1, 1, 0, 0, 0) := by decide +kernel
theorem i_80_128 : a_ins 80 128 = some (.iaload, 1, 0, 0, 0) := by decide +kernel
theorem i_80_129 : a_ins 80 129 = some (.ireturn, 1, 0, 0, 0) := by decide +kernel
theorem i_81_0 : a_ins 81 0 = some (.aload_n 0, 1, 0, 0, 0) := by decide +kernel
theorem i_81_1 : a_ins 81 1 = some (.getfield 19, 3, 1, 6, 0) := by decide +kernel
theorem i_81_4 : a_ins 81 4 = some (.iload_n 1, 1, 0, 0, 0) := by decide +kernel
theorem i_81_5 : a_ins 81 5 = some (.iconst (1), 1, 0, 0, 1) := by decide +kernel
theorem i_81_6 : a_ins 81 6 = some (.iastore, 1, 0, 0, 0) := by decide +kernel
theorem i_81_7 : a_ins 81 7 = some (.iconst (0), 1, 0, 0, 0) := by decide +kernel
theorem i_81_8 : a_ins 81 8 = some (.istore_n 2, 1, 0, 0, 0) := by decide +kernel
theorem i_81_9 : a_ins 81 9 = some (.iconst (0), 1, 0, 0, 0) := by decide +kernel
theorem i_81_10 : a_ins 81 10 = some (.istore_n 3, 1, 0, 0, 0) := by decide +kernel
theorem i_81_11 : a_ins 81 11 = some (.iload_n 3, 1, 0, 0, 0) := by decide +kernel
theorem i_81_12 : a_ins 81 12 = some (.aload_n 0, 1, 0, 0, 0) := by decide +kernel
theorem i_81_13 : a_ins 81 13 = some (.getfield 9, 3, 1, 0, 0) := by decide +kernel
theorem i_81_16 : a_ins 81 16 = some (.if_icmp .ge (52), 3, 68, 0, 0) := by decide +kernel
theorem i_81_19 : a_ins 81 19 = some (.aload_n 0, 1, 0, 0, 0) := by decide +kernel
theorem i_81_20 : a_ins 81 20 = some (.getfield 19, 3, 1, 6, 0) := by decide +kernel
theorem i_81_23 : a_ins 81 23 = some (.iload_n 3, 1, 0, 0, 0) := by decide +kernel
theorem i_81_24 : a_ins 81 24 = some (.iaload, 1, 0, 0, 0) := by decide +kernel
theorem i_81_25 : a_ins 81 25 = some (.iconst (1), 1, 0, 0, 1) := by decide +kernel
theorem i_81_26 : a_ins 81 26 = some (.if_icmp .ne (36), 3, 62, 0, 0) := by decide +kernel
theorem i_81_29 : a_ins 81 29 = some (.aload_n 0, 1, 0, 0, 0) := by decide +kernel
theorem i_81_30 : a_ins 81 30 = some (.getfield 22, 3, 1, 7, 0) := by decide +kernel
theorem i_81_33 : a_ins 81 33 = some (.iload_n 3, 1, 0, 0, 0) := by decide +kernel
theorem i_81_34 : a_ins 81 34 = some (.iaload, 1, 0, 0, 0) := by decide +kernel
theorem i_81_35 : a_ins 81 35 = some (.aload_n 0, 1, 0, 0, 0) := by decide +kernel
theorem i_81_36 : a_ins 81 36 = some (.getfield 22, 3, 1, 7, 0) := by decide +kernel
theorem i_81_39 : a_ins 81 39 = some (.iload_n 1, 1, 0, 0, 0) := by decide +kernel
theorem i_81_40 : a_ins 81 40 = some (.iaload, 1, 0, 0, 0) := by decide +kernel
theorem i_81_41 : a_ins 81 41 = some (.if_icmp .ne (21), 3, 62, 0, 0) := by decide +kernel
theorem i_81_44 : a_ins 81 44 = some (.aload_n 0, 1, 0, 0, 0) := by decide +kernel
theorem i_81_45 : a_ins 81 45 = some (.getfield 31, 3, 1, 10, 0) := by decide +kernel
theorem i_81_48 : a_ins 81 48 = some (.iload_n 3, 1, 0, 0, 0) := by decide +kernel
theorem i_81_49 : a_ins 81 49 = some (.dup2, 1, 0, 0, 0) := by decide +kernel
theorem i_81_50 : a_ins 81 50 = some (.iaload, 1, 0, 0, 0) := by decide +kernel
theorem i_81_51 : a_ins 81 51 = some (.iconst (1), 1, 0, 0, 1) := by decide +kernel
theorem i_81_52 : a_ins 81 52 = some (.iload_n 1, 1, 0, 0, 0) := by decide +kernel
theorem i_81_53 : a_ins 81 53 = some (.ishl, 1, 0, 0, 0) := by decide +kernel
theorem i_81_54 : a_ins 81 54 = some (.ior, 1, 0, 0, 0) := by decide +kernel
theorem i_81_55 : a_ins 81 55 = some (.iastore, 1, 0, 0, 0) := by decide +kernel
theorem i_81_56 : a_ins 81 56 = some (.iload_n 2, 1, 0, 0, 0) := by decide +kernel
theorem i_81_57 : a_ins 81 57 = some (.iconst (1), 1, 0, 0, 1) := by decide +kernel
theorem i_81_58 : a_ins 81 58 = some (.iload_n 3, 1, 0, 0, 0) := by decide +kernel
theorem i_81_59 : a_ins 81 59 = some (.ishl, 1, 0, 0, 0) := by decide +kernel
theorem i_81_60 : a_ins 81 60 = some (.ior, 1, 0, 0, 0) := by decide +kernel
theorem i_81_61 : a_ins 81 61 = some (.istore_n 2, 1, 0, 0, 0) := by decide +kernel
theorem i_81_62 : a_ins 81 62 = some (.iinc 3 (1), 3, 0, 0, 1) := by decide +kernel
theorem i_81_65 : a_ins 81 65 = some (.goto (-54), 3, 11, 0, 0) := by decide +kernel
theorem i_81_68 : a_ins 81 68 = some (.aload_n 0, 1, 0, 0, 0) := by decide +kernel
theorem i_81_69 : a_ins 81 69 = some (.getfield 31, 3, 1, 10, 0) := by decide +kernel
theorem i_81_72 : a_ins 81 72 = some (.iload_n 1, 1, 0, 0, 0) := by decide +kernel
theorem i_81_73 : a_ins 81 73 = some (.iload_n 2, 1, 0, 0, 0) := by decide +kernel
theorem i_81_74 : a_ins 81 74 = some (.iastore, 1, 0, 0, 0) := by decide +kernel
theorem i_81_75 : a_ins 81 75 = some (.return_, 1, 0, 0, 0) := by decide +kernel
theorem i_82_0 : a_ins 82 0 = some (.aload_n 0, 1, 0, 0, 0) := by decide +kernel
theorem i_82_1 : a_ins 82 1 = some (.iload_n 1, 1, 0, 0, 0) := by decide +kernel
theorem i_82_2 : a_ins 82 2 = some (.invokevirtual 119, 3, 58, 2, 0) := by decide +kernel
theorem i_82_5 : a_ins 82 5 = some (.ifCond .ne (6), 3, 11, 0, 0) := by decide +kernel
theorem i_82_8 : a_ins 82 8 = some (.bipush (-3), 2, 0, 0, -3) := by decide +kernel
theorem i_82_10 : a_ins 82 10 = some (.ireturn, 1, 0, 0, 0) := by decide +kernel
theorem i_82_11 : a_ins 82 11 = some (.aload_n 0, 1, 0, 0, 0) := by decide +kernel
theorem i_82_12 : a_ins 82 12 = some (.getfield 41, 3, 1, 1, 0) := by decide +kernel
theorem i_82_15 : a_ins 82 15 = some (.ifCond .ne (10), 3, 25, 0, 0) := by decide +kernel
theorem i_82_18 : a_ins 82 18 = some (.aload_n 0, 1, 0, 0, 0) := by decide +kernel
theorem i_82_19 : a_ins 82 19 = some (.invokevirtual 87, 3, 68, 1, 0) := by decide +kernel
theorem i_82_22 : a_ins 82 22 = some (.ifCond .eq (6), 3, 28, 0, 0) := by decide +kernel
theorem i_82_25 : a_ins 82 25 = some (.bipush (-5), 2, 0, 0, -5) := by decide +kernel
theorem i_82_27 : a_ins 82 27 = some (.ireturn, 1, 0, 0, 0) := by decide +kernel
theorem i_82_28 : a_ins 82 28 = some (.aload_n 0, 1, 0, 0, 0) := by decide +kernel
theorem i_82_29 : a_ins 82 29 = some (.iconst (2), 1, 0, 0, 2) := by decide +kernel
theorem i_82_30 : a_ins 82 30 = some (.invokevirtual 83, 3, 69, 2, 0) := by decide +kernel
theorem i_82_33 : a_ins 82 33 = some (.istore_n 2, 1, 0, 0, 0) := by decide +kernel
theorem i_82_34 : a_ins 82 34 = some (.aload_n 0, 1, 0, 0, 0) := by decide +kernel
theorem i_82_35 : a_ins 82 35 = some (.iload_n 2, 1, 0, 0, 0) := by decide +kernel
theorem i_82_36 : a_ins 82 36 = some (.invokevirtual 145, 3, 75, 2, 0) := by decide +kernel
theorem i_82_39 : a_ins 82 39 = some (.istore_n 3, 1, 0, 0, 0) := by decide +kernel
theorem i_82_40 : a_ins 82 40 = some (.iload_n 3, 1, 0, 0, 0) := by decide +kernel
theorem i_82_41 : a_ins 82 41 = some (.iconst (-1), 1, 0, 0, -1) := by decide +kernel
theorem i_82_42 : a_ins 82 42 = some (.if_icmp .ne (6), 3, 48, 0, 0) := by decide +kernel
theorem i_82_45 : a_ins 82 45 = some (.bipush (-6), 2, 0, 0, -6) := by decide +kernel
theorem i_82_47 : a_ins 82 47 = some (.ireturn, 1, 0, 0, 0) := by decide +kernel
theorem i_82_48 : a_ins 82 48 = some (.iload_n 2, 1, 0, 0, 0) := by decide +kernel
theorem i_82_49 : a_ins 82 49 = some (.aload_n 0, 1, 0, 0, 0) := by decide +kernel
theorem i_82_50 : a_ins 82 50 = some (.aload_n 0, 1, 0, 0, 0) := by decide +kernel
theorem i_82_51 : a_ins 82 51 = some (.getfield 22, 3, 1, 7, 0) := by decide +kernel
theorem i_82_54 : a_ins 82 54 = some (.iload_n 3, 1, 0, 0, 0) := by decide +kernel
theorem i_82_55 : a_ins 82 55 = some (.iaload, 1, 0, 0, 0) := by decide +kernel
theorem i_82_56 : a_ins 82 56 = some (.invokevirtual 90, 3, 74, 2, 0) := by decide +kernel
theorem i_82_59 : a_ins 82 59 = some (.iand, 1, 0, 0, 0) := by decide +kernel
theorem i_82_60 : a_ins 82 60 = some (.istore 4, 2, 0, 0, 0) := by decide +kernel
theorem i_82_62 : a_ins 82 62 = some (.aload_n 0, 1, 0, 0, 0) := by decide +kernel
theorem i_82_63 : a_ins 82 63 = some (.iload 4, 2, 0, 0, 0) := by decide +kernel
theorem i_82_65 : a_ins 82 65 = some (.invokevirtual 159, 3, 83, 2, 0) := by decide +kernel
theorem i_82_68 : a_ins 82 68 = some (.ifCond .ne (6), 3, 74, 0, 0) := by decide +kernel
theorem i_82_71 : a_ins 82 71 = some (.bipush (-4), 2, 0, 0, -4) := by decide +kernel
theorem i_82_73 : a_ins 82 73 = some (.ireturn, 1, 0, 0, 0) := by decide +kernel
theorem i_82_74 : a_ins 82 74 = some (.aload_n 0, 1, 0, 0, 0) := by decide +kernel
theorem i_82_75 : a_ins 82 75 = some (.iload 4, 2, 0, 0, 0) := by decide +kernel
theorem i_82_77 : a_ins 82 77 = some (.invokevirtual 96, 3, 84, 2, 0) := by decide +kernel
theorem i_82_80 : a_ins 82 80 = some (.istore 5, 2, 0, 0, 0) := by decide +kernel
theorem i_82_82 : a_ins 82 82 = some (.iconst (0), 1, 0, 0, 0) := by decide +kernel
theorem i_82_83 : a_ins 82 83 = some (.istore 6, 2, 0, 0, 0) := by decide +kernel
theorem i_82_85 : a_ins 82 85 = some (.iload 6, 2, 0, 0, 0) := by decide +kernel
theorem i_82_87 : a_ins 82 87 = some (.aload_n 0, 1, 0, 0, 0) := by decide +kernel
theorem i_82_88 : a_ins 82 88 = some (.getfield 9, 3, 1, 0, 0) := by decide +kernel
theorem i_82_91 : a_ins 82 91 = some (.if_icmp .ge (26), 3, 117, 0, 0) := by decide +kernel
theorem i_82_94 : a_ins 82 94 = some (.iload 4, 2, 0, 0, 0) := by decide +kernel
theorem i_82_96 : a_ins 82 96 = some (.iload 6, 2, 0, 0, 0) := by decide +kernel
theorem i_82_98 : a_ins 82 98 = some (.ishr, 1, 0, 0, 0) := by decide +kernel
theorem i_82_99 : a_ins 82 99 = some (.iconst (1), 1, 0, 0, 1) := by decide +kernel
theorem i_82_100 : a_ins 82 100 = some (.iand, 1, 0, 0, 0) := by decide +kernel
theorem i_82_101 : a_ins 82 101 = some (.iconst (1), 1, 0, 0, 1) := by decide +kernel
theorem i_82_102 : a_ins 82 102 = some (.if_icmp .ne (9), 3, 111, 0, 0) := by decide +kernel
theorem i_82_105 : a_ins 82 105 = some (.aload_n 0, 1, 0, 0, 0) := by decide +kernel
theorem i_82_106 : a_ins 82 106 = some (.iload 6, 2, 0, 0, 0) := by decide +kernel
theorem i_82_108 : a_ins 82 108 = some (.invokevirtual 156, 3, 81, 2, 0) := by decide +kernel
theorem i_82_111 : a_ins 82 111 = some (.iinc 6 (1), 3, 0, 0, 1) := by decide +kernel
theorem i_82_114 : a_ins 82 114 = some (.goto (-29), 3, 85, 0, 0) := by decide +kernel
theorem i_82_117 : a_ins 82 117 = some (.aload_n 0, 1, 0, 0, 0) := by decide +kernel
theorem i_82_118 : a_ins 82 118 = some (.iload 4, 2, 0, 0, 0) := by decide +kernel
theorem i_82_120 : a_ins 82 120 = some (.invokevirtual 108, 3, 76, 2, 0) := by decide +kernel
theorem i_82_123 : a_ins 82 123 = some (.ifCond .eq (5), 3, 128, 0, 0) := by decide +kernel
theorem i_82_126 : a_ins 82 126 = some (.iconst (4), 1, 0, 0, 4) := by decide +kernel
theorem i_82_127 : a_ins 82 127 = some (.ireturn, 1, 0, 0, 0) := by decide +kernel
theorem i_82_128 : a_ins 82 128 = some (.aload_n 0, 1, 0, 0, 0) := by decide +kernel
theorem i_82_129 : a_ins 82 129 = some (.iload 5, 2, 0, 0, 0) := by decide +kernel
theorem i_82_131 : a_ins 82 131 = some (.iload 4, 2, 0, 0, 0) := by decide +kernel
theorem i_82_133 : a_ins 82 133 = some (.invokevirtual 112, 3, 77, 3, 0) := by decide +kernel
theorem i_82_136 : a_ins 82 136 = some (.istore 6, 2, 0, 0, 0) := by decide +kernel
theorem i_82_138 : a_ins 82 138 = some (.aload_n 0, 1, 0, 0, 0) := by decide +kernel
theorem i_82_139 : a_ins 82 139 = some (.aload_n 0, 1, 0, 0, 0) := by decide +kernel
theorem i_82_140 : a_ins 82 140 = some (.iload 5, 2, 0, 0, 0) := by decide +kernel
theorem i_82_142 : a_ins 82 142 = some (.invokevirtual 145, 3, 75, 2, 0) := by decide +kernel
theorem i_82_145 : a_ins 82 145 = some (.iload 4, 2, 0, 0, 0) := by decide +kernel
theorem i_82_147 : a_ins 82 147 = some (.iload 6, 2, 0, 0, 0) := by decide +kernel
theorem i_82_149 : a_ins 82 149 = some (.iload_n 1, 1, 0, 0, 0) := by decide +kernel
theorem i_82_150 : a_ins 82 150 = some (.invokevirtual 148, 3, 79, 5, 0) := by decide +kernel
theorem i_82_153 : a_ins 82 153 = some (.iload 6, 2, 0, 0, 0) := by decide +kernel
theorem i_82_155 : a_ins 82 155 = some (.ireturn, 1, 0, 0, 0) := by decide +kernel
theorem i_83_0 : a_ins 83 0 = some (.aload_n 0, 1, 0, 0, 0) := by decide +kernel
theorem i_83_1 : a_ins 83 1 = some (.iload_n 1, 1, 0, 0, 0) := by decide +kernel
theorem i_83_2 : a_ins 83 2 = some (.invokevirtual 96, 3, 84, 2, 0) := by decide +kernel
theorem i_83_5 : a_ins 83 5 = some (.istore_n 2, 1, 0, 0, 0) := by decide +kernel
theorem i_83_6 : a_ins 83 6 = some (.iload_n 2, 1, 0, 0, 0) := by decide +kernel
theorem i_83_7 : a_ins 83 7 = some (.ifCond .eq (15), 3, 22, 0, 0) := by decide +kernel
theorem i_83_10 : a_ins 83 10 = some (.iload_n 2, 1, 0, 0, 0) := by decide +kernel
theorem i_83_11 : a_ins 83 11 = some (.iload_n 1, 1, 0, 0, 0) := by decide +kernel
theorem i_83_12 : a_ins 83 12 = some (.iconst (-1), 1, 0, 0, -1) := by decide +kernel
theorem i_83_13 : a_ins 83 13 = some (.ixor, 1, 0, 0, 0) := by decide +kernel
theorem i_83_14 : a_ins 83 14 = some (.iand, 1, 0, 0, 0) := by decide +kernel
theorem i_83_15 : a_ins 83 15 = some (.ifCond .ne (7), 3, 22, 0, 0) := by decide +kernel
theorem i_83_18 : a_ins 83 18 = some (.iconst (1), 1, 0, 0, 1) := by decide +kernel
theorem i_83_19 : a_ins 83 19 = some (.goto (4), 3, 23, 0, 0) := by decide +kernel
theorem i_83_22 : a_ins 83 22 = some (.iconst (0), 1, 0, 0, 0) := by decide +kernel
theorem i_83_23 : a_ins 83 23 = some (.ireturn, 1, 0, 0, 0) := by decide +kernel
theorem i_84_0 : a_ins 84 0 = some (.aload_n 0, 1, 0, 0, 0) := by decide +kernel
theorem i_84_1 : a_ins 84 1 = some (.invokevirtual 56, 3, 47, 1, 0) := by decide +kernel
theorem i_84_4 : a_ins 84 4 = some (.istore_n 2, 1, 0, 0, 0) := by decide +kernel
theorem i_84_5 : a_ins 84 5 = some (.iconst (0), 1, 0, 0, 0) := by decide +kernel
theorem i_84_6 : a_ins 84 6 = some (.istore_n 3, 1, 0, 0, 0) := by decide +kernel
theorem i_84_7 : a_ins 84 7 = some (.iload_n 3, 1, 0, 0, 0) := by decide +kernel
theorem i_84_8 : a_ins 84 8 = some (.aload_n 0, 1, 0, 0, 0) := by decide +kernel
theorem i_84_9 : a_ins 84 9 = some (.getfield 9, 3, 1, 0, 0) := by decide +kernel
theorem i_84_12 : a_ins 84 12 = some (.if_icmp .ge (27), 3, 39, 0, 0) := by decide +kernel
theorem i_84_15 : a_ins 84 15 = some (.iload_n 1, 1, 0, 0, 0) := by decide +kernel
theorem i_84_16 : a_ins 84 16 = some (.iload_n 3, 1, 0, 0, 0) := by decide +kernel
theorem i_84_17 : a_ins 84 17 = some (.ishr, 1, 0, 0, 0) := by decide +kernel
theorem i_84_18 : a_ins 84 18 = some (.iconst (1), 1, 0, 0, 1) := by decide +kernel
theorem i_84_19 : a_ins 84 19 = some (.iand, 1, 0, 0, 0) := by decide +kernel
theorem i_84_20 : a_ins 84 20 = some (.iconst (1), 1, 0, 0, 1) := by decide +kernel
theorem i_84_21 : a_ins 84 21 = some (.if_icmp .ne (12), 3, 33, 0, 0) := by decide +kernel
theorem i_84_24 : a_ins 84 24 = some (.iload_n 2, 1, 0, 0, 0) := by decide +kernel
theorem i_84_25 : a_ins 84 25 = some (.aload_n 0, 1, 0, 0, 0) := by decide +kernel
theorem i_84_26 : a_ins 84 26 = some (.getfield 31, 3, 1, 10, 0) := by decide +kernel
theorem i_84_29 : a_ins 84 29 = some (.iload_n 3, 1, 0, 0, 0) := by decide +kernel
theorem i_84_30 : a_ins 84 30 = some (.iaload, 1, 0, 0, 0) := by decide +kernel
theorem i_84_31 : a_ins 84 31 = some (.iand, 1, 0, 0, 0) := by decide +kernel
theorem i_84_32 : a_ins 84 32 = some (.istore_n 2, 1, 0, 0, 0) := by decide +kernel
theorem i_84_33 : a_ins 84 33 = some (.iinc 3 (1), 3, 0, 0, 1) := by decide +kernel
theorem i_84_36 : a_ins 84 36 = some (.goto (-29), 3, 7, 0, 0) := by decide +kernel
theorem i_84_39 : a_ins 84 39 = some (.iload_n 2, 1, 0, 0, 0) := by decide +kernel
theorem i_84_40 : a_ins 84 40 = some (.ireturn, 1, 0, 0, 0) := by decide +kernel
theorem i_85_0 : a_ins 85 0 = some (.aload_n 0, 1, 0, 0, 0) := by decide +kernel
theorem i_85_1 : a_ins 85 1 = some (.iload_n 1, 1, 0, 0, 0) := by decide +kernel
theorem i_85_2 : a_ins 85 2 = some (.invokevirtual 108, 3, 76, 2, 0) := by decide +kernel
theorem i_85_5 : a_ins 85 5 = some (.ifCond .eq (7), 3, 12, 0, 0) := by decide +kernel
theorem i_85_8 : a_ins 85 8 = some (.iconst (-1), 1, 0, 0, -1) := by decide +kernel
theorem i_85_9 : a_ins 85 9 = some (.goto (9), 3, 18, 0, 0) := by decide +kernel
theorem i_85_12 : a_ins 85 12 = some (.aload_n 0, 1, 0, 0, 0) := by decide +kernel
theorem i_85_13 : a_ins 85 13 = some (.iload_n 1, 1, 0, 0, 0) := by decide +kernel
theorem i_85_14 : a_ins 85 14 = some (.iload_n 1, 1, 0, 0, 0) := by decide +kernel
theorem i_85_15 : a_ins 85 15 = some (.invokevirtual 112, 3, 77, 3, 0) := by decide +kernel
theorem i_85_18 : a_ins 85 18 = some (.ireturn, 1, 0, 0, 0) := by decide +kernel
theorem i_86_0 : a_ins 86 0 = some (.iconst (0), 1, 0, 0, 0) := by decide +kernel
theorem i_86_1 : a_ins 86 1 = some (.istore_n 2, 1, 0, 0, 0) := by decide +kernel
theorem i_86_2 : a_ins 86 2 = some (.iconst (0), 1, 0, 0, 0) := by decide +kernel
theorem i_86_3 : a_ins 86 3 = some (.istore_n 3, 1, 0, 0, 0) := by decide +kernel
theorem i_86_4 : a_ins 86 4 = some (.iload_n 3, 1, 0, 0, 0) := by decide +kernel
theorem i_86_5 : a_ins 86 5 = some (.iconst (4), 1, 0, 0, 4) := by decide +kernel
theorem i_86_6 : a_ins 86 6 = some (.if_icmp .gt (44), 3, 50, 0, 0) := by decide +kernel
theorem i_86_9 : a_ins 86 9 = some (.iload_n 1, 1, 0, 0, 0) := by decide +kernel
theorem i_86_10 : a_ins 86 10 = some (.aload_n 0, 1, 0, 0, 0) := by decide +kernel
theorem i_86_11 : a_ins 86 11 = some (.iload_n 3, 1, 0, 0, 0) := by decide +kernel
theorem i_86_12 : a_ins 86 12 = some (.invokevirtual 90, 3, 74, 2, 0) := by decide +kernel
theorem i_86_15 : a_ins 86 15 = some (.iand, 1, 0, 0, 0) := by decide +kernel
theorem i_86_16 : a_ins 86 16 = some (.istore 4, 2, 0, 0, 0) := by decide +kernel
theorem i_86_18 : a_ins 86 18 = some (.aload_n 0, 1, 0, 0, 0) := by decide +kernel
theorem i_86_19 : a_ins 86 19 = some (.iload 4, 2, 0, 0, 0) := by decide +kernel
theorem i_86_21 : a_ins 86 21 = some (.invokevirtual 108, 3, 76, 2, 0) := by decide +kernel
theorem i_86_24 : a_ins 86 24 = some (.ifCond .ne (20), 3, 44, 0, 0) := by decide +kernel
theorem i_86_27 : a_ins 86 27 = some (.aload_n 0, 1, 0, 0, 0) := by decide +kernel
theorem i_86_28 : a_ins 86 28 = some (.iload 4, 2, 0, 0, 0) := by decide +kernel
theorem i_86_30 : a_ins 86 30 = some (.iload 4, 2, 0, 0, 0) := by decide +kernel
theorem i_86_32 : a_ins 86 32 = some (.invokevirtual 112, 3, 77, 3, 0) := by decide +kernel
theorem i_86_35 : a_ins 86 35 = some (.iconst (-1), 1, 0, 0, -1) := by decide +kernel
theorem i_86_36 : a_ins 86 36 = some (.if_icmp .ne (8), 3, 44, 0, 0) := by decide +kernel
theorem i_86_39 : a_ins 86 39 = some (.iload_n 2, 1, 0, 0, 0) := by decide +kernel
theorem i_86_40 : a_ins 86 40 = some (.iload 4, 2, 0, 0, 0) := by decide +kernel
theorem i_86_42 : a_ins 86 42 = some (.ior, 1, 0, 0, 0) := by decide +kernel
theorem i_86_43 : a_ins 86 43 = some (.istore_n 2, 1, 0, 0, 0) := by decide +kernel
theorem i_86_44 : a_ins 86 44 = some (.iinc 3 (1), 3, 0, 0, 1) := by decide +kernel
theorem i_86_47 : a_ins 86 47 = some (.goto (-43), 3, 4, 0, 0) := by decide +kernel
theorem i_86_50 : a_ins 86 50 = some (.iload_n 2, 1, 0, 0, 0) := by decide +kernel
theorem i_86_51 : a_ins 86 51 = some (.ireturn, 1, 0, 0, 0) := by decide +kernel
theorem i_87_0 : a_ins 87 0 = some (.iload_n 1, 1, 0, 0, 0) := by decide +kernel
theorem i_87_1 : a_ins 87 1 = some (.iconst (1), 1, 0, 0, 1) := by decide +kernel
theorem i_87_2 : a_ins 87 2 = some (.if_icmp .lt (15), 3, 17, 0, 0) := by decide +kernel
theorem i_87_5 : a_ins 87 5 = some (.iload_n 1, 1, 0, 0, 0) := by decide +kernel
theorem i_87_6 : a_ins 87 6 = some (.aload_n 0, 1, 0, 0, 0) := by decide +kernel
theorem i_87_7 : a_ins 87 7 = some (.invokevirtual 56, 3, 47, 1, 0) := by decide +kernel
theorem i_87_10 : a_ins 87 10 = some (.if_icmp .gt (7), 3, 17, 0, 0) := by decide +kernel
theorem i_87_13 : a_ins 87 13 = some (.iconst (1), 1, 0, 0, 1) := by decide +kernel
theorem i_87_14 : a_ins 87 14 = some (.goto (4), 3, 18, 0, 0) := by decide +kernel
theorem i_87_17 : a_ins 87 17 = some (.iconst (0), 1, 0, 0, 0) := by decide +kernel
theorem i_87_18 : a_ins 87 18 = some (.ireturn, 1, 0, 0, 0) := by decide +kernel
theorem i_88_0 : a_ins 88 0 = some (.aload_n 0, 1, 0, 0, 0) := by decide +kernel
theorem i_88_1 : a_ins 88 1 = some (.iload_n 1, 1, 0, 0, 0) := by decide +kernel
theorem i_88_2 : a_ins 88 2 = some (.iload_n 1, 1, 0, 0, 0) := by decide +kernel
theorem i_88_3 : a_ins 88 3 = some (.invokevirtual 112, 3, 77, 3, 0) := by decide +kernel
theorem i_88_6 : a_ins 88 6 = some (.istore_n 2, 1, 0, 0, 0) := by decide +kernel
theorem i_88_7 : a_ins 88 7 = some (.iload_n 2, 1, 0, 0, 0) := by decide +kernel
theorem i_88_8 : a_ins 88 8 = some (.iconst (1), 1, 0, 0, 1) := by decide +kernel
theorem i_88_9 : a_ins 88 9 = some (.if_icmp .eq (8), 3, 17, 0, 0) := by decide +kernel
theorem i_88_12 : a_ins 88 12 = some (.iload_n 2, 1, 0, 0, 0) := by decide +kernel
theorem i_88_13 : a_ins 88 13 = some (.iconst (2), 1, 0, 0, 2) := by decide +kernel
theorem i_88_14 : a_ins 88 14 = some (.if_icmp .ne (7), 3, 21, 0, 0) := by decide +kernel
theorem i_88_17 : a_ins 88 17 = some (.iconst (1), 1, 0, 0, 1) := by decide +kernel
theorem i_88_18 : a_ins 88 18 = some (.goto (4), 3, 22, 0, 0) := by decide +kernel
theorem i_88_21 : a_ins 88 21 = some (.iconst (0), 1, 0, 0, 0) := by decide +kernel
theorem i_88_22 : a_ins 88 22 = some (.ireturn, 1, 0, 0, 0) := by decide +kernel
theorem i_89_0 : a_ins 89 0 = some (.aload_n 0, 1, 0, 0, 0) := by decide +kernel
theorem i_89_1 : a_ins 89 1 = some (.iload_n 1, 1, 0, 0, 0) := by decide +kernel
theorem i_89_2 : a_ins 89 2 = some (.iload_n 1, 1, 0, 0, 0) := by decide +kernel
theorem i_89_3 : a_ins 89 3 = some (.invokevirtual 112, 3, 77, 3, 0) := by decide +kernel
theorem i_89_6 : a_ins 89 6 = some (.istore_n 2, 1, 0, 0, 0) := by decide +kernel
theorem i_89_7 : a_ins 89 7 = some (.iload_n 2, 1, 0, 0, 0) := by decide +kernel
theorem i_89_8 : a_ins 89 8 = some (.ifCond .eq (8), 3, 16, 0, 0) := by decide +kernel
theorem i_89_11 : a_ins 89 11 = some (.iload_n 2, 1, 0, 0, 0) := by decide +kernel
theorem i_89_12 : a_ins 89 12 = some (.iconst (3), 1, 0, 0, 3) := by decide +kernel
theorem i_89_13 : a_ins 89 13 = some (.if_icmp .ne (7), 3, 20, 0, 0) := by decide +kernel
theorem i_89_16 : a_ins 89 16 = some (.iconst (1), 1, 0, 0, 1) := by decide +kernel
theorem i_89_17 : a_ins 89 17 = some (.goto (4), 3, 21, 0, 0) := by decide +kernel
theorem i_89_20 : a_ins 89 20 = some (.iconst (0), 1, 0, 0, 0) := by decide +kernel
theorem i_89_21 : a_ins 89 21 = some (.ireturn, 1, 0, 0, 0) := by decide +kernel
theorem i_90_0 : a_ins 90 0 = some (.iconst (0), 1, 0, 0, 0) := by decide +kernel
theorem i_90_1 : a_ins 90 1 = some (.istore_n 3, 1, 0, 0, 0) := by decide +kernel
theorem i_90_2 : a_ins 90 2 = some (.iload_n 3, 1, 0, 0, 0) := by decide +kernel
theorem i_90_3 : a_ins 90 3 = some (.aload_n 0, 1, 0, 0, 0) := by decide +kernel
theorem i_90_4 : a_ins 90 4 = some (.getfield 9, 3, 1, 0, 0) := by decide +kernel
theorem i_90_7 : a_ins 90 7 = some (.if_icmp .ge (35), 3, 42, 0, 0) := by decide +kernel
theorem i_90_10 : a_ins 90 10 = some (.iload_n 1, 1, 0, 0, 0) := by decide +kernel
theorem i_90_11 : a_ins 90 11 = some (.iload_n 3, 1, 0, 0, 0) := by decide +kernel
theorem i_90_12 : a_ins 90 12 = some (.ishr, 1, 0, 0, 0) := by decide +kernel
theorem i_90_13 : a_ins 90 13 = some (.iconst (1), 1, 0, 0, 1) := by decide +kernel
theorem i_90_14 : a_ins 90 14 = some (.iand, 1, 0, 0, 0) := by decide +kernel
theorem i_90_15 : a_ins 90 15 = some (.iconst (1), 1, 0, 0, 1) := by decide +kernel
theorem i_90_16 : a_ins 90 16 = some (.if_icmp .ne (20), 3, 36, 0, 0) := by decide +kernel
theorem i_90_19 : a_ins 90 19 = some (.aload_n 0, 1, 0, 0, 0) := by decide +kernel
theorem i_90_20 : a_ins 90 20 = some (.iload_n 1, 1, 0, 0, 0) := by decide +kernel
theorem i_90_21 : a_ins 90 21 = some (.iconst (1), 1, 0, 0, 1) := by decide +kernel
theorem i_90_22 : a_ins 90 22 = some (.iload_n 3, 1, 0, 0, 0) := by decide +kernel
theorem i_90_23 : a_ins 90 23 = some (.ishl, 1, 0, 0, 0) := by decide +kernel
theorem i_90_24 : a_ins 90 24 = some (.iconst (-1), 1, 0, 0, -1) := by decide +kernel
theorem i_90_25 : a_ins 90 25 = some (.ixor, 1, 0, 0, 0) := by decide +kernel
theorem i_90_26 : a_ins 90 26 = some (.iand, 1, 0, 0, 0) := by decide +kernel
theorem i_90_27 : a_ins 90 27 = some (.invokevirtual 93, 3, 49, 2, 0) := by decide +kernel
theorem i_90_30 : a_ins 90 30 = some (.iload_n 2, 1, 0, 0, 0) := by decide +kernel
theorem i_90_31 : a_ins 90 31 = some (.if_icmp .lt (5), 3, 36, 0, 0) := by decide +kernel
theorem i_90_34 : a_ins 90 34 = some (.iconst (0), 1, 0, 0, 0) := by decide +kernel
theorem i_90_35 : a_ins 90 35 = some (.ireturn, 1, 0, 0, 0) := by decide +kernel
theorem i_90_36 : a_ins 90 36 = some (.iinc 3 (1), 3, 0, 0, 1) := by decide +kernel
theorem i_90_39 : a_ins 90 39 = some (.goto (-37), 3, 2, 0, 0) := by decide +kernel
theorem i_90_42 : a_ins 90 42 = some (.iconst (1), 1, 0, 0, 1) := by decide +kernel
theorem i_90_43 : a_ins 90 43 = some (.ireturn, 1, 0, 0, 0) := by decide +kernel
theorem i_91_0 : a_ins 91 0 = some (.iconst (0), 1, 0, 0, 0) := by decide +kernel
theorem i_91_1 : a_ins 91 1 = some (.istore_n 1, 1, 0, 0, 0) := by decide +kernel
theorem i_91_2 : a_ins 91 2 = some (.iconst (0), 1, 0, 0, 0) := by decide +kernel
theorem i_91_3 : a_ins 91 3 = some (.istore_n 2, 1, 0, 0, 0) := by decide +kernel
theorem i_91_4 : a_ins 91 4 = some (.iload_n 2, 1, 0, 0, 0) := by decide +kernel
theorem i_91_5 : a_ins 91 5 = some (.aload_n 0, 1, 0, 0, 0) := by decide +kernel
theorem i_91_6 : a_ins 91 6 = some (.getfield 9, 3, 1, 0, 0) := by decide +kernel
theorem i_91_9 : a_ins 91 9 = some (.if_icmp .ge (21), 3, 30, 0, 0) := by decide +kernel
theorem i_91_12 : a_ins 91 12 = some (.iload_n 1, 1, 0, 0, 0) := by decide +kernel
theorem i_91_13 : a_ins 91 13 = some (.bipush (10), 2, 0, 0, 10) := by decide +kernel
theorem i_91_15 : a_ins 91 15 = some (.imul, 1, 0, 0, 0) := by decide +kernel
theorem i_91_16 : a_ins 91 16 = some (.aload_n 0, 1, 0, 0, 0) := by decide +kernel
theorem i_91_17 : a_ins 91 17 = some (.getfield 15, 3, 1, 5, 0) := by decide +kernel
theorem i_91_20 : a_ins 91 20 = some (.iload_n 2, 1, 0, 0, 0) := by decide +kernel
theorem i_91_21 : a_ins 91 21 = some (.iaload, 1, 0, 0, 0) := by decide +kernel
theorem i_91_22 : a_ins 91 22 = some (.iadd, 1, 0, 0, 0) := by decide +kernel
theorem i_91_23 : a_ins 91 23 = some (.istore_n 1, 1, 0, 0, 0) := by decide +kernel
theorem i_91_24 : a_ins 91 24 = some (.iinc 2 (1), 3, 0, 0, 1) := by decide +kernel
theorem i_91_27 : a_ins 91 27 = some (.goto (-23), 3, 4, 0, 0) := by decide +kernel
theorem i_91_30 : a_ins 91 30 = some (.iload_n 1, 1, 0, 0, 0) := by decide +kernel
theorem i_91_31 : a_ins 91 31 = some (.ireturn, 1, 0, 0, 0) := by decide +kernel
theorem i_92_0 : a_ins 92 0 = some (.aload_n 0, 1, 0, 0, 0) := by decide +kernel
theorem i_92_1 : a_ins 92 1 = some (.getfield 9, 3, 1, 0, 0) := by decide +kernel
theorem i_92_4 : a_ins 92 4 = some (.iconst (2), 1, 0, 0, 2) := by decide +kernel
theorem i_92_5 : a_ins 92 5 = some (.imul, 1, 0, 0, 0) := by decide +kernel
theorem i_92_6 : a_ins 92 6 = some (.aload_n 0, 1, 0, 0, 0) := by decide +kernel
theorem i_92_7 : a_ins 92 7 = some (.getfield 41, 3, 1, 1, 0) := by decide +kernel
theorem i_92_10 : a_ins 92 10 = some (.iadd, 1, 0, 0, 0) := by decide +kernel
theorem i_92_11 : a_ins 92 11 = some (.istore_n 1, 1, 0, 0, 0) := by decide +kernel
theorem i_92_12 : a_ins 92 12 = some (.iconst (0), 1, 0, 0, 0) := by decide +kernel
theorem i_92_13 : a_ins 92 13 = some (.istore_n 2, 1, 0, 0, 0) := by decide +kernel
theorem i_92_14 : a_ins 92 14 = some (.iload_n 2, 1, 0, 0, 0) := by decide +kernel
theorem i_92_15 : a_ins 92 15 = some (.iconst (3), 1, 0, 0, 3) := by decide +kernel
theorem i_92_16 : a_ins 92 16 = some (.if_icmp .ge (30), 3, 46, 0, 0) := by decide +kernel
theorem i_92_19 : a_ins 92 19 = some (.iload_n 1, 1, 0, 0, 0) := by decide +kernel
theorem i_92_20 : a_ins 92 20 = some (.bipush (8), 2, 0, 0, 8) := by decide +kernel
theorem i_92_22 : a_ins 92 22 = some (.imul, 1, 0, 0, 0) := by decide +kernel
theorem i_92_23 : a_ins 92 23 = some (.aload_n 0, 1, 0, 0, 0) := by decide +kernel
theorem i_92_24 : a_ins 92 24 = some (.getfield 25, 3, 1, 8, 0) := by decide +kernel
theorem i_92_27 : a_ins 92 27 = some (.iload_n 2, 1, 0, 0, 0) := by decide +kernel
theorem i_92_28 : a_ins 92 28 = some (.iaload, 1, 0, 0, 0) := by decide +kernel
theorem i_92_29 : a_ins 92 29 = some (.iconst (4), 1, 0, 0, 4) := by decide +kernel
theorem i_92_30 : a_ins 92 30 = some (.imul, 1, 0, 0, 0) := by decide +kernel
theorem i_92_31 : a_ins 92 31 = some (.iadd, 1, 0, 0, 0) := by decide +kernel
theorem i_92_32 : a_ins 92 32 = some (.aload_n 0, 1, 0, 0, 0) := by decide +kernel
theorem i_92_33 : a_ins 92 33 = some (.getfield 28, 3, 1, 9, 0) := by decide +kernel
theorem i_92_36 : a_ins 92 36 = some (.iload_n 2, 1, 0, 0, 0) := by decide +kernel
theorem i_92_37 : a_ins 92 37 = some (.iaload, 1, 0, 0, 0) := by decide +kernel
theorem i_92_38 : a_ins 92 38 = some (.iadd, 1, 0, 0, 0) := by decide +kernel
theorem i_92_39 : a_ins 92 39 = some (.istore_n 1, 1, 0, 0, 0) := by decide +kernel
theorem i_92_40 : a_ins 92 40 = some (.iinc 2 (1), 3, 0, 0, 1) := by decide +kernel
theorem i_92_43 : a_ins 92 43 = some (.goto (-29), 3, 14, 0, 0) := by decide +kernel
theorem i_92_46 : a_ins 92 46 = some (.iload_n 1, 1, 0, 0, 0) := by decide +kernel
theorem i_92_47 : a_ins 92 47 = some (.bipush (16), 2, 0, 0, 16) := by decide +kernel
theorem i_92_49 : a_ins 92 49 = some (.imul, 1, 0, 0, 0) := by decide +kernel
theorem i_92_50 : a_ins 92 50 = some (.aload_n 0, 1, 0, 0, 0) := by decide +kernel
theorem i_92_51 : a_ins 92 51 = some (.getfield 77, 3, 1, 3, 0) := by decide +kernel
theorem i_92_54 : a_ins 92 54 = some (.iadd, 1, 0, 0, 0) := by decide +kernel
theorem i_92_55 : a_ins 92 55 = some (.bipush (16), 2, 0, 0, 16) := by decide +kernel
theorem i_92_57 : a_ins 92 57 = some (.imul, 1, 0, 0, 0) := by decide +kernel
theorem i_92_58 : a_ins 92 58 = some (.aload_n 0, 1, 0, 0, 0) := by decide +kernel
theorem i_92_59 : a_ins 92 59 = some (.getfield 80, 3, 1, 4, 0) := by decide +kernel
theorem i_92_62 : a_ins 92 62 = some (.iadd, 1, 0, 0, 0) := by decide +kernel
theorem i_92_63 : a_ins 92 63 = some (.ireturn, 1, 0, 0, 0) := by decide +kernel
theorem i_93_0 : a_ins 93 0 = some (.iconst (0), 1, 0, 0, 0) := by decide +kernel
theorem i_93_1 : a_ins 93 1 = some (.istore_n 1, 1, 0, 0, 0) := by decide +kernel
theorem i_93_2 : a_ins 93 2 = some (.iconst (0), 1, 0, 0, 0) := by decide +kernel
theorem i_93_3 : a_ins 93 3 = some (.istore_n 2, 1, 0, 0, 0) := by decide +kernel
theorem i_93_4 : a_ins 93 4 = some (.iload_n 2, 1, 0, 0, 0) := by decide +kernel
theorem i_93_5 : a_ins 93 5 = some (.aload_n 0, 1, 0, 0, 0) := by decide +kernel
theorem i_93_6 : a_ins 93 6 = some (.getfield 9, 3, 1, 0, 0) := by decide +kernel
theorem i_93_9 : a_ins 93 9 = some (.if_icmp .ge (21), 3, 30, 0, 0) := by decide +kernel
theorem i_93_12 : a_ins 93 12 = some (.iload_n 1, 1, 0, 0, 0) := by decide +kernel
theorem i_93_13 : a_ins 93 13 = some (.bipush (6), 2, 0, 0, 6) := by decide +kernel
theorem i_93_15 : a_ins 93 15 = some (.imul, 1, 0, 0, 0) := by decide +kernel
theorem i_93_16 : a_ins 93 16 = some (.aload_n 0, 1, 0, 0, 0) := by decide +kernel
theorem i_93_17 : a_ins 93 17 = some (.getfield 15, 3, 1, 5, 0) := by decide +kernel
theorem i_93_20 : a_ins 93 20 = some (.iload_n 2, 1, 0, 0, 0) := by decide +kernel
theorem i_93_21 : a_ins 93 21 = some (.iaload, 1, 0, 0, 0) := by decide +kernel
theorem i_93_22 : a_ins 93 22 = some (.iadd, 1, 0, 0, 0) := by decide +kernel
theorem i_93_23 : a_ins 93 23 = some (.istore_n 1, 1, 0, 0, 0) := by decide +kernel
theorem i_93_24 : a_ins 93 24 = some (.iinc 2 (1), 3, 0, 0, 1) := by decide +kernel
theorem i_93_27 : a_ins 93 27 = some (.goto (-23), 3, 4, 0, 0) := by decide +kernel
theorem i_93_30 : a_ins 93 30 = some (.iload_n 1, 1, 0, 0, 0) := by decide +kernel
theorem i_93_31 : a_ins 93 31 = some (.bipush (8), 2, 0, 0, 8) := by decide +kernel
theorem i_93_33 : a_ins 93 33 = some (.imul, 1, 0, 0, 0) := by decide +kernel
theorem i_93_34 : a_ins 93 34 = some (.aload_n 0, 1, 0, 0, 0) := by decide +kernel
theorem i_93_35 : a_ins 93 35 = some (.invokevirtual 87, 3, 68, 1, 0) := by decide +kernel
theorem i_93_38 : a_ins 93 38 = some (.iadd, 1, 0, 0, 0) := by decide +kernel
theorem i_93_39 : a_ins 93 39 = some (.iconst (4), 1, 0, 0, 4) := by decide +kernel
theorem i_93_40 : a_ins 93 40 = some (.imul, 1, 0, 0, 0) := by decide +kernel
theorem i_93_41 : a_ins 93 41 = some (.aload_n 0, 1, 0, 0, 0) := by decide +kernel
theorem i_93_42 : a_ins 93 42 = some (.iconst (1), 1, 0, 0, 1) := by decide +kernel
theorem i_93_43 : a_ins 93 43 = some (.invokevirtual 90, 3, 74, 2, 0) := by decide +kernel
theorem i_93_46 : a_ins 93 46 = some (.iconst (1), 1, 0, 0, 1) := by decide +kernel
theorem i_93_47 : a_ins 93 47 = some (.ishr, 1, 0, 0, 0) := by decide +kernel
theorem i_93_48 : a_ins 93 48 = some (.iadd, 1, 0, 0, 0) := by decide +kernel
theorem i_93_49 : a_ins 93 49 = some (.iconst (4), 1, 0, 0, 4) := by decide +kernel
theorem i_93_50 : a_ins 93 50 = some (.imul, 1, 0, 0, 0) := by decide +kernel
theorem i_93_51 : a_ins 93 51 = some (.aload_n 0, 1, 0, 0, 0) := by decide +kernel
theorem i_93_52 : a_ins 93 52 = some (.getfield 44, 3, 1, 2, 0) := by decide +kernel
theorem i_93_55 : a_ins 93 55 = some (.iadd, 1, 0, 0, 0) := by decide +kernel
theorem i_93_56 : a_ins 93 56 = some (.ireturn, 1, 0, 0, 0) := by decide +kernel
theorem i_94_0 : a_ins 94 0 = some (.aload_n 0, 1, 0, 0, 0) := by decide +kernel
theorem i_94_1 : a_ins 94 1 = some (.iload_n 1, 1, 0, 0, 0) := by decide +kernel
theorem i_94_2 : a_ins 94 2 = some (.iconst (4), 1, 0, 0, 4) := by decide +kernel
theorem i_94_3 : a_ins 94 3 = some (.irem, 1, 0, 0, 0) := by decide +kernel
theorem i_94_4 : a_ins 94 4 = some (.putfield 44, 3, 1, 2, 0) := by decide +kernel
theorem i_94_7 : a_ins 94 7 = some (.iload_n 1, 1, 0, 0, 0) := by decide +kernel
theorem i_94_8 : a_ins 94 8 = some (.iconst (4), 1, 0, 0, 4) := by decide +kernel
theorem i_94_9 : a_ins 94 9 = some (.idiv, 1, 0, 0, 0) := by decide +kernel
theorem i_94_10 : a_ins 94 10 = some (.iconst (4), 1, 0, 0, 4) := by decide +kernel
theorem i_94_11 : a_ins 94 11 = some (.irem, 1, 0, 0, 0) := by decide +kernel
theorem i_94_12 : a_ins 94 12 = some (.iconst (2), 1, 0, 0, 2) := by decide +kernel
theorem i_94_13 : a_ins 94 13 = some (.imul, 1, 0, 0, 0) := by decide +kernel
theorem i_94_14 : a_ins 94 14 = some (.istore_n 2, 1, 0, 0, 0) := by decide +kernel
theorem i_94_15 : a_ins 94 15 = some (.iload_n 1, 1, 0, 0, 0) := by decide +kernel
theorem i_94_16 : a_ins 94 16 = some (.bipush (16), 2, 0, 0, 16) := by decide +kernel
theorem i_94_18 : a_ins 94 18 = some (.idiv, 1, 0, 0, 0) := by decide +kernel
theorem i_94_19 : a_ins 94 19 = some (.bipush (8), 2, 0, 0, 8) := by decide +kernel
theorem i_94_21 : a_ins 94 21 = some (.irem, 1, 0, 0, 0) := by decide +kernel
theorem i_94_22 : a_ins 94 22 = some (.istore_n 3, 1, 0, 0, 0) := by decide +kernel
theorem i_94_23 : a_ins 94 23 = some (.iload_n 1, 1, 0, 0, 0) := by decide +kernel
theorem i_94_24 : a_ins 94 24 = some (.sipush (128), 3, 0, 0, 128) := by decide +kernel
theorem i_94_27 : a_ins 94 27 = some (.idiv, 1, 0, 0, 0) := by decide +kernel
theorem i_94_28 : a_ins 94 28 = some (.istore 4, 2, 0, 0, 0) := by decide +kernel
theorem i_94_30 : a_ins 94 30 = some (.aload_n 0, 1, 0, 0, 0) := by decide +kernel
theorem i_94_31 : a_ins 94 31 = some (.getfield 9, 3, 1, 0, 0) := by decide +kernel
theorem i_94_34 : a_ins 94 34 = some (.iconst (1), 1, 0, 0, 1) := by decide +kernel
theorem i_94_35 : a_ins 94 35 = some (.isub, 1, 0, 0, 0) := by decide +kernel
theorem i_94_36 : a_ins 94 36 = some (.istore 5, 2, 0, 0, 0) := by decide +kernel
theorem i_94_38 : a_ins 94 38 = some (.iload 5, 2, 0, 0, 0) := by decide +kernel
theorem i_94_40 : a_ins 94 40 = some (.ifCond .lt (54), 3, 94, 0, 0) := by decide +kernel
theorem i_94_43 : a_ins 94 43 = some (.aload_n 0, 1, 0, 0, 0) := by decide +kernel
theorem i_94_44 : a_ins 94 44 = some (.getfield 22, 3, 1, 7, 0) := by decide +kernel
theorem i_94_47 : a_ins 94 47 = some (.iload 5, 2, 0, 0, 0) := by decide +kernel
theorem i_94_49 : a_ins 94 49 = some (.iload_n 2, 1, 0, 0, 0) := by decide +kernel
theorem i_94_50 : a_ins 94 50 = some (.iload 5, 2, 0, 0, 0) := by decide +kernel
theorem i_94_52 : a_ins 94 52 = some (.ishr, 1, 0, 0, 0) := by decide +kernel
theorem i_94_53 : a_ins 94 53 = some (.iconst (1), 1, 0, 0, 1) := by decide +kernel
theorem i_94_54 : a_ins 94 54 = some (.iand, 1, 0, 0, 0) := by decide +kernel
theorem i_94_55 : a_ins 94 55 = some (.iastore, 1, 0, 0, 0) := by decide +kernel
theorem i_94_56 : a_ins 94 56 = some (.aload_n 0, 1, 0, 0, 0) := by decide +kernel
theorem i_94_57 : a_ins 94 57 = some (.getfield 19, 3, 1, 6, 0) := by decide +kernel
theorem i_94_60 : a_ins 94 60 = some (.iload 5, 2, 0, 0, 0) := by decide +kernel
theorem i_94_62 : a_ins 94 62 = some (.iload_n 3, 1, 0, 0, 0) := by decide +kernel
theorem i_94_63 : a_ins 94 63 = some (.iload 5, 2, 0, 0, 0) := by decide +kernel
theorem i_94_65 : a_ins 94 65 = some (.ishr, 1, 0, 0, 0) := by decide +kernel
theorem i_94_66 : a_ins 94 66 = some (.iconst (1), 1, 0, 0, 1) := by decide +kernel
theorem i_94_67 : a_ins 94 67 = some (.iand, 1, 0, 0, 0) := by decide +kernel
theorem i_94_68 : a_ins 94 68 = some (.iastore, 1, 0, 0, 0) := by decide +kernel
theorem i_94_69 : a_ins 94 69 = some (.aload_n 0, 1, 0, 0, 0) := by decide +kernel
theorem i_94_70 : a_ins 94 70 = some (.getfield 15, 3, 1, 5, 0) := by decide +kernel
theorem i_94_73 : a_ins 94 73 = some (.iload 5, 2, 0, 0, 0) := by decide +kernel
theorem i_94_75 : a_ins 94 75 = some (.iload 4, 2, 0, 0, 0) := by decide +kernel
theorem i_94_77 : a_ins 94 77 = some (.bipush (6), 2, 0, 0, 6) := by decide +kernel
theorem i_94_79 : a_ins 94 79 = some (.irem, 1, 0, 0, 0) := by decide +kernel
theorem i_94_80 : a_ins 94 80 = some (.iastore, 1, 0, 0, 0) := by decide +kernel
theorem i_94_81 : a_ins 94 81 = some (.iload 4, 2, 0, 0, 0) := by decide +kernel
theorem i_94_83 : a_ins 94 83 = some (.bipush (6), 2, 0, 0, 6) := by decide +kernel
theorem i_94_85 : a_ins 94 85 = some (.idiv, 1, 0, 0, 0) := by decide +kernel
theorem i_94_86 : a_ins 94 86 = some (.istore 4, 2, 0, 0, 0) := by decide +kernel
theorem i_94_88 : a_ins 94 88 = some (.iinc 5 (-1), 3, 0, 0, -1) := by decide +kernel
theorem i_94_91 : a_ins 94 91 = some (.goto (-53), 3, 38, 0, 0) := by decide +kernel
theorem i_94_94 : a_ins 94 94 = some (.aload_n 0, 1, 0, 0, 0) := by decide +kernel
theorem i_94_95 : a_ins 94 95 = some (.getfield 37, 3, 1, 11, 0) := by decide +kernel
theorem i_94_98 : a_ins 94 98 = some (.invokevirtual 47, 3, 97, 1, 0) := by decide +kernel
theorem i_94_101 : a_ins 94 101 = some (.return_, 1, 0, 0, 0) := by decide +kernel
theorem i_95_0 : a_ins 95 0 = some (.iload_n 1, 1, 0, 0, 0) := by decide +kernel
theorem i_95_1 : a_ins 95 1 = some (.ifCond .ge (5), 3, 6, 0, 0) := by decide +kernel
theorem i_95_4 : a_ins 95 4 = some (.iconst (-1), 1, 0, 0, -1) := by decide +kernel
theorem i_95_5 : a_ins 95 5 = some (.ireturn, 1, 0, 0, 0) := by decide +kernel
theorem i_95_6 : a_ins 95 6 = some (.iload_n 1, 1, 0, 0, 0) := by decide +kernel
theorem i_95_7 : a_ins 95 7 = some (.istore_n 2, 1, 0, 0, 0) := by decide +kernel
theorem i_95_8 : a_ins 95 8 = some (.iconst (0), 1, 0, 0, 0) := by decide +kernel
theorem i_95_9 : a_ins 95 9 = some (.istore_n 3, 1, 0, 0, 0) := by decide +kernel
theorem i_95_10 : a_ins 95 10 = some (.iconst (1), 1, 0, 0, 1) := by decide +kernel
theorem i_95_11 : a_ins 95 11 = some (.istore 4, 2, 0, 0, 0) := by decide +kernel
theorem i_95_13 : a_ins 95 13 = some (.iconst (0), 1, 0, 0, 0) := by decide +kernel
theorem i_95_14 : a_ins 95 14 = some (.istore 5, 2, 0, 0, 0) := by decide +kernel
theorem i_95_16 : a_ins 95 16 = some (.iload 5, 2, 0, 0, 0) := by decide +kernel
theorem i_95_18 : a_ins 95 18 = some (.aload_n 0, 1, 0, 0, 0) := by decide +kernel
theorem i_95_19 : a_ins 95 19 = some (.getfield 9, 3, 1, 0, 0) := by decide +kernel
theorem i_95_22 : a_ins 95 22 = some (.if_icmp .ge (42), 3, 64, 0, 0) := by decide +kernel
theorem i_95_25 : a_ins 95 25 = some (.iload_n 2, 1, 0, 0, 0) := by decide +kernel
theorem i_95_26 : a_ins 95 26 = some (.bipush (10), 2, 0, 0, 10) := by decide +kernel
theorem i_95_28 : a_ins 95 28 = some (.irem, 1, 0, 0, 0) := by decide +kernel
theorem i_95_29 : a_ins 95 29 = some (.bipush (6), 2, 0, 0, 6) := by decide +kernel
theorem i_95_31 : a_ins 95 31 = some (.if_icmp .lt (5), 3, 36, 0, 0) := by decide +kernel
theorem i_95_34 : a_ins 95 34 = some (.iconst (-1), 1, 0, 0, -1) := by decide +kernel
theorem i_95_35 : a_ins 95 35 = some (.ireturn, 1, 0, 0, 0) := by decide +kernel
theorem i_95_36 : a_ins 95 36 = some (.iload_n 3, 1, 0, 0, 0) := by decide +kernel
theorem i_95_37 : a_ins 95 37 = some (.iload_n 2, 1, 0, 0, 0) := by decide +kernel
theorem i_95_38 : a_ins 95 38 = some (.bipush (10), 2, 0, 0, 10) := by decide +kernel
theorem i_95_40 : a_ins 95 40 = some (.irem, 1, 0, 0, 0) := by decide +kernel
theorem i_95_41 : a_ins 95 41 = some (.iload 4, 2, 0, 0, 0) := by decide +kernel
theorem i_95_43 : a_ins 95 43 = some (.imul, 1, 0, 0, 0) := by decide +kernel
theorem i_95_44 : a_ins 95 44 = some (.iadd, 1, 0, 0, 0) := by decide +kernel
theorem i_95_45 : a_ins 95 45 = some (.istore_n 3, 1, 0, 0, 0) := by decide +kernel
theorem i_95_46 : a_ins 95 46 = some (.iload 4, 2, 0, 0, 0) := by decide +kernel
theorem i_95_48 : a_ins 95 48 = some (.bipush (6), 2, 0, 0, 6) := by decide +kernel
theorem i_95_50 : a_ins 95 50 = some (.imul, 1, 0, 0, 0) := by decide +kernel
theorem i_95_51 : a_ins 95 51 = some (.istore 4, 2, 0, 0, 0) := by decide +kernel
theorem i_95_53 : a_ins 95 53 = some (.iload_n 2, 1, 0, 0, 0) := by decide +kernel
theorem i_95_54 : a_ins 95 54 = some (.bipush (10), 2, 0, 0, 10) := by decide +kernel
theorem i_95_56 : a_ins 95 56 = some (.idiv, 1, 0, 0, 0) := by decide +kernel
theorem i_95_57 : a_ins 95 57 = some (.istore_n 2, 1, 0, 0, 0) := by decide +kernel
theorem i_95_58 : a_ins 95 58 = some (.iinc 5 (1), 3, 0, 0, 1) := by decide +kernel
theorem i_95_61 : a_ins 95 61 = some (.goto (-45), 3, 16, 0, 0) := by decide +kernel
theorem i_95_64 : a_ins 95 64 = some (.iload_n 2, 1, 0, 0, 0) := by decide +kernel
theorem i_95_65 : a_ins 95 65 = some (.ifCond .ne (7), 3, 72, 0, 0) := by decide +kernel
theorem i_95_68 : a_ins 95 68 = some (.iload_n 3, 1, 0, 0, 0) := by decide +kernel
theorem i_95_69 : a_ins 95 69 = some (.goto (4), 3, 73, 0, 0) := by decide +kernel
theorem i_95_72 : a_ins 95 72 = some (.iconst (-1), 1, 0, 0, -1) := by decide +kernel
theorem i_95_73 : a_ins 95 73 = some (.ireturn, 1, 0, 0, 0) := by decide +kernel
theorem i_96_0 : a_ins 96 0 = some (.aload_n 0, 1, 0, 0, 0) := by decide +kernel
theorem i_96_1 : a_ins 96 1 = some (.invokespecial 3, 3, 1000, 1, 0) := by decide +kernel
theorem i_96_4 : a_ins 96 4 = some (.aload_n 0, 1, 0, 0, 0) := by decide +kernel
theorem i_96_5 : a_ins 96 5 = some (.bipush (60), 2, 0, 0, 60) := by decide +kernel
theorem i_96_7 : a_ins 96 7 = some (.newarray .int, 2, 0, 0, 0) := by decide +kernel
theorem i_96_9 : a_ins 96 9 = some (.putfield 9, 3, 2, 0, 0) := by decide +kernel
theorem i_96_12 : a_ins 96 12 = some (.return_, 1, 0, 0, 0) := by decide +kernel
theorem i_97_0 : a_ins 97 0 = some (.aload_n 0, 1, 0, 0, 0) := by decide +kernel
theorem i_97_1 : a_ins 97 1 = some (.iconst (0), 1, 0, 0, 0) := by decide +kernel
theorem i_97_2 : a_ins 97 2 = some (.putfield 15, 3, 2, 1, 0) := by decide +kernel
theorem i_97_5 : a_ins 97 5 = some (.aload_n 0, 1, 0, 0, 0) := by decide +kernel
theorem i_97_6 : a_ins 97 6 = some (.iconst (0), 1, 0, 0, 0) := by decide +kernel
theorem i_97_7 : a_ins 97 7 = some (.putfield 19, 3, 2, 2, 0) := by decide +kernel
theorem i_97_10 : a_ins 97 10 = some (.return_, 1, 0, 0, 0) := by decide +kernel
theorem i_98_0 : a_ins 98 0 = some (.aload_n 0, 1, 0, 0, 0) := by decide +kernel
theorem i_98_1 : a_ins 98 1 = some (.aload_n 1, 1, 0, 0, 0) := by decide +kernel
theorem i_98_2 : a_ins 98 2 = some (.getfield 15, 3, 2, 1, 0) := by decide +kernel
theorem i_98_5 : a_ins 98 5 = some (.putfield 15, 3, 2, 1, 0) := by decide +kernel
theorem i_98_8 : a_ins 98 8 = some (.aload_n 0, 1, 0, 0, 0) := by decide +kernel
theorem i_98_9 : a_ins 98 9 = some (.aload_n 1, 1, 0, 0, 0) := by decide +kernel
theorem i_98_10 : a_ins 98 10 = some (.getfield 19, 3, 2, 2, 0) := by decide +kernel
theorem i_98_13 : a_ins 98 13 = some (.putfield 19, 3, 2, 2, 0) := by decide +kernel
theorem i_98_16 : a_ins 98 16 = some (.aload_n 1, 1, 0, 0, 0) := by decide +kernel
theorem i_98_17 : a_ins 98 17 = some (.getfield 9, 3, 2, 0, 0) := by decide +kernel
theorem i_98_20 : a_ins 98 20 = some (.iconst (0), 1, 0, 0, 0) := by decide +kernel
theorem i_98_21 : a_ins 98 21 = some (.aload_n 0, 1, 0, 0, 0) := by decide +kernel
theorem i_98_22 : a_ins 98 22 = some (.getfield 9, 3, 2, 0, 0) := by decide +kernel
theorem i_98_25 : a_ins 98 25 = some (.iconst (0), 1, 0, 0, 0) := by decide +kernel
theorem i_98_26 : a_ins 98 26 = some (.bipush (60), 2, 0, 0, 60) := by decide +kernel
theorem i_98_28 : a_ins 98 28 = some (.invokestatic 22, 3, 1001, 5, 0) := by decide +kernel
theorem i_98_31 : a_ins 98 31 = some (.return_, 1, 0, 0, 0) := by decide +kernel
theorem i_99_0 : a_ins 99 0 = some (.aload_n 0, 1, 0, 0, 0) := by decide +kernel
theorem i_99_1 : a_ins 99 1 = some (.getfield 9, 3, 2, 0, 0) := by decide +kernel
theorem i_99_4 : a_ins 99 4 = some (.aload_n 0, 1, 0, 0, 0) := by decide +kernel
theorem i_99_5 : a_ins 99 5 = some (.getfield 15, 3, 2, 1, 0) := by decide +kernel
theorem i_99_8 : a_ins 99 8 = some (.aload_n 0, 1, 0, 0, 0) := by decide +kernel
theorem i_99_9 : a_ins 99 9 = some (.getfield 19, 3, 2, 2, 0) := by decide +kernel
theorem i_99_12 : a_ins 99 12 = some (.iadd, 1, 0, 0, 0) := by decide +kernel
theorem i_99_13 : a_ins 99 13 = some (.bipush (60), 2, 0, 0, 60) := by decide +kernel
theorem i_99_15 : a_ins 99 15 = some (.irem, 1, 0, 0, 0) := by decide +kernel
theorem i_99_16 : a_ins 99 16 = some (.iload_n 1, 1, 0, 0, 0) := by decide +kernel
theorem i_99_17 : a_ins 99 17 = some (.bipush (100), 2, 0, 0, 100) := by decide +kernel
theorem i_99_19 : a_ins 99 19 = some (.imul, 1, 0, 0, 0) := by decide +kernel
theorem i_99_20 : a_ins 99 20 = some (.iload_n 2, 1, 0, 0, 0) := by decide +kernel
theorem i_99_21 : a_ins 99 21 = some (.bipush (10), 2, 0, 0, 10) := by decide +kernel
theorem i_99_23 : a_ins 99 23 = some (.imul, 1, 0, 0, 0) := by decide +kernel
theorem i_99_24 : a_ins 99 24 = some (.iadd, 1, 0, 0, 0) := by decide +kernel
theorem i_99_25 : a_ins 99 25 = some (.iload_n 3, 1, 0, 0, 0) := by decide +kernel
theorem i_99_26 : a_ins 99 26 = some (.iadd, 1, 0, 0, 0) := by decide +kernel
theorem i_99_27 : a_ins 99 27 = some (.iastore, 1, 0, 0, 0) := by decide +kernel
theorem i_99_28 : a_ins 99 28 = some (.aload_n 0, 1, 0, 0, 0) := by decide +kernel
theorem i_99_29 : a_ins 99 29 = some (.getfield 19, 3, 2, 2, 0) := by decide +kernel
theorem i_99_32 : a_ins 99 32 = some (.bipush (60), 2, 0, 0, 60) := by decide +kernel
theorem i_99_34 : a_ins 99 34 = some (.if_icmp .ge (16), 3, 50, 0, 0) := by decide +kernel
theorem i_99_37 : a_ins 99 37 = some (.aload_n 0, 1, 0, 0, 0) := by decide +kernel
theorem i_99_38 : a_ins 99 38 = some (.dup, 1, 0, 0, 0) := by decide +kernel
theorem i_99_39 : a_ins 99 39 = some (.getfield 19, 3, 2, 2, 0) := by decide +kernel
theorem i_99_42 : a_ins 99 42 = some (.iconst (1), 1, 0, 0, 1) := by decide +kernel
theorem i_99_43 : a_ins 99 43 = some (.iadd, 1, 0, 0, 0) := by decide +kernel
theorem i_99_44 : a_ins 99 44 = some (.putfield 19, 3, 2, 2, 0) := by decide +kernel
theorem i_99_47 : a_ins 99 47 = some (.goto (16), 3, 63, 0, 0) := by decide +kernel
theorem i_99_50 : a_ins 99 50 = some (.aload_n 0, 1, 0, 0, 0) := by decide +kernel
theorem i_99_51 : a_ins 99 51 = some (.aload_n 0, 1, 0, 0, 0) := by decide +kernel
theorem i_99_52 : a_ins 99 52 = some (.getfield 15, 3, 2, 1, 0) := by decide +kernel
theorem i_99_55 : a_ins 99 55 = some (.iconst (1), 1, 0, 0, 1) := by decide +kernel
theorem i_99_56 : a_ins 99 56 = some (.iadd, 1, 0, 0, 0) := by decide +kernel
theorem i_99_57 : a_ins 99 57 = some (.bipush (60), 2, 0, 0, 60) := by decide +kernel
theorem i_99_59 : a_ins 99 59 = some (.irem, 1, 0, 0, 0) := by decide +kernel
theorem i_99_60 : a_ins 99 60 = some (.putfield 15, 3, 2, 1, 0) := by decide +kernel
theorem i_99_63 : a_ins 99 63 = some (.return_, 1, 0, 0, 0) := by decide +kernel
theorem i_100_0 : a_ins 100 0 = some (.aload_n 0, 1, 0, 0, 0) := by decide +kernel
theorem i_100_1 : a_ins 100 1 = some (.iload_n 1, 1, 0, 0, 0) := by decide +kernel
theorem i_100_2 : a_ins 100 2 = some (.invokevirtual 28, 3, 101, 2, 0) := by decide +kernel
theorem i_100_5 : a_ins 100 5 = some (.istore_n 2, 1, 0, 0, 0) := by decide +kernel
theorem i_100_6 : a_ins 100 6 = some (.iconst (3), 1, 0, 0, 3) := by decide +kernel
theorem i_100_7 : a_ins 100 7 = some (.iload_n 2, 1, 0, 0, 0) := by decide +kernel
theorem i_100_8 : a_ins 100 8 = some (.bipush (10), 2, 0, 0, 10) := by decide +kernel
theorem i_100_10 : a_ins 100 10 = some (.idiv, 1, 0, 0, 0) := by decide +kernel
theorem i_100_11 : a_ins 100 11 = some (.bipush (10), 2, 0, 0, 10) := by decide +kernel
theorem i_100_13 : a_ins 100 13 = some (.irem, 1, 0, 0, 0) := by decide +kernel
theorem i_100_14 : a_ins 100 14 = some (.invokestatic 32, 3, 102, 1, 0) := by decide +kernel
theorem i_100_17 : a_ins 100 17 = some (.invokevirtual 36, 3, 267, 1, 0) := by decide +kernel
theorem i_100_20 : a_ins 100 20 = some (.iadd, 1, 0, 0, 0) := by decide +kernel
theorem i_100_21 : a_ins 100 21 = some (.iload_n 2, 1, 0, 0, 0) := by decide +kernel
theorem i_100_22 : a_ins 100 22 = some (.bipush (10), 2, 0, 0, 10) := by decide +kernel
theorem i_100_24 : a_ins 100 24 = some (.irem, 1, 0, 0, 0) := by decide +kernel
theorem i_100_25 : a_ins 100 25 = some (.invokestatic 32, 3, 102, 1, 0) := by decide +kernel
theorem i_100_28 : a_ins 100 28 = some (.invokevirtual 36, 3, 267, 1, 0) := by decide +kernel
theorem i_100_31 : a_ins 100 31 = some (.iadd, 1, 0, 0, 0) := by decide +kernel
theorem i_100_32 : a_ins 100 32 = some (.ireturn, 1, 0, 0, 0) := by decide +kernel
theorem i_101_0 : a_ins 101 0 = some (.aload_n 0, 1, 0, 0, 0) := by decide +kernel
theorem i_101_1 : a_ins 101 1 = some (.getfield 9, 3, 2, 0, 0) := by decide +kernel
theorem i_101_4 : a_ins 101 4 = some (.aload_n 0, 1, 0, 0, 0) := by decide +kernel
theorem i_101_5 : a_ins 101 5 = some (.getfield 15, 3, 2, 1, 0) := by decide +kernel
theorem i_101_8 : a_ins 101 8 = some (.iload_n 1, 1, 0, 0, 0) := by decide +kernel
theorem i_101_9 : a_ins 101 9 = some (.iadd, 1, 0, 0, 0) := by decide +kernel
theorem i_101_10 : a_ins 101 10 = some (.bipush (60), 2, 0, 0, 60) := by decide +kernel
theorem i_101_12 : a_ins 101 12 = some (.irem, 1, 0, 0, 0) := by decide +kernel
theorem i_101_13 : a_ins 101 13 = some (.iaload, 1, 0, 0, 0) := by decide +kernel
theorem i_101_14 : a_ins 101 14 = some (.ireturn, 1, 0, 0, 0) := by decide +kernel
theorem i_102_0 : a_ins 102 0 = some (.iload_n 0, 1, 0, 0, 0) := by decide +kernel
theorem i_102_1 : a_ins 102 1 = some (.tableswitch (50) (0) (4) #[35, 38, 41, 44, 47], 35, 0, 0, 0) := by decide +kernel
theorem i_102_36 : a_ins 102 36 = some (.ldc 46, 2, 1, 12, 0) := by decide +kernel
theorem i_102_38 : a_ins 102 38 = some (.areturn, 1, 0, 0, 0) := by decide +kernel
theorem i_102_39 : a_ins 102 39 = some (.ldc 48, 2, 1, 13, 0) := by decide +kernel
theorem i_102_41 : a_ins 102 41 = some (.areturn, 1, 0, 0, 0) := by decide +kernel
theorem i_102_42 : a_ins 102 42 = some (.ldc 50, 2, 1, 14, 0) := by decide +kernel
theorem i_102_44 : a_ins 102 44 = some (.areturn, 1, 0, 0, 0) := by decide +kernel
theorem i_102_45 : a_ins 102 45 = some (.ldc 52, 2, 1, 15, 0) := by decide +kernel
theorem i_102_47 : a_ins 102 47 = some (.areturn, 1, 0, 0, 0) := by decide +kernel
theorem i_102_48 : a_ins 102 48 = some (.ldc 54, 2, 1, 16, 0) := by decide +kernel
theorem i_102_50 : a_ins 102 50 = some (.areturn, 1, 0, 0, 0) := by decide +kernel
theorem i_102_51 : a_ins 102 51 = some (.ldc 56, 2, 1, 17, 0) := by decide +kernel
theorem i_102_53 : a_ins 102 53 = some (.areturn, 1, 0, 0, 0) := by decide +kernel
theorem i_103_0 : a_ins 103 0 = some (.aload_n 0, 1, 0, 0, 0) := by decide +kernel
theorem i_103_1 : a_ins 103 1 = some (.iload_n 1, 1, 0, 0, 0) := by decide +kernel
theorem i_103_2 : a_ins 103 2 = some (.invokevirtual 28, 3, 101, 2, 0) := by decide +kernel
theorem i_103_5 : a_ins 103 5 = some (.istore_n 3, 1, 0, 0, 0) := by decide +kernel
theorem i_103_6 : a_ins 103 6 = some (.iload_n 2, 1, 0, 0, 0) := by decide +kernel
theorem i_103_7 : a_ins 103 7 = some (.ifCond .ne (11), 3, 18, 0, 0) := by decide +kernel
theorem i_103_10 : a_ins 103 10 = some (.bipush (48), 2, 0, 0, 48) := by decide +kernel
theorem i_103_12 : a_ins 103 12 = some (.iload_n 3, 1, 0, 0, 0) := by decide +kernel
theorem i_103_13 : a_ins 103 13 = some (.bipush (100), 2, 0, 0, 100) := by decide +kernel
theorem i_103_15 : a_ins 103 15 = some (.idiv, 1, 0, 0, 0) := by decide +kernel
theorem i_103_16 : a_ins 103 16 = some (.iadd, 1, 0, 0, 0) := by decide +kernel
theorem i_103_17 : a_ins 103 17 = some (.ireturn, 1, 0, 0, 0) := by decide +kernel
theorem i_103_18 : a_ins 103 18 = some (.iload_n 3, 1, 0, 0, 0) := by decide +kernel
theorem i_103_19 : a_ins 103 19 = some (.bipush (10), 2, 0, 0, 10) := by decide +kernel
theorem i_103_21 : a_ins 103 21 = some (.idiv, 1, 0, 0, 0) := by decide +kernel
theorem i_103_22 : a_ins 103 22 = some (.bipush (10), 2, 0, 0, 10) := by decide +kernel
theorem i_103_24 : a_ins 103 24 = some (.irem, 1, 0, 0, 0) := by decide +kernel
theorem i_103_25 : a_ins 103 25 = some (.invokestatic 32, 3, 102, 1, 0) := by decide +kernel
theorem i_103_28 : a_ins 103 28 = some (.astore 4, 2, 0, 0, 0) := by decide +kernel
theorem i_103_30 : a_ins 103 30 = some (.iload_n 3, 1, 0, 0, 0) := by decide +kernel
theorem i_103_31 : a_ins 103 31 = some (.bipush (10), 2, 0, 0, 10) := by decide +kernel
theorem i_103_33 : a_ins 103 33 = some (.irem, 1, 0, 0, 0) := by decide +kernel
theorem i_103_34 : a_ins 103 34 = some (.invokestatic 32, 3, 102, 1, 0) := by decide +kernel
theorem i_103_37 : a_ins 103 37 = some (.astore 5, 2, 0, 0, 0) := by decide +kernel
theorem i_103_39 : a_ins 103 39 = some (.iconst (2), 1, 0, 0, 2) := by decide +kernel
theorem i_103_40 : a_ins 103 40 = some (.aload 4, 2, 0, 0, 0) := by decide +kernel
theorem i_103_42 : a_ins 103 42 = some (.invokevirtual 36, 3, 267, 1, 0) := by decide +kernel
theorem i_103_45 : a_ins 103 45 = some (.iadd, 1, 0, 0, 0) := by decide +kernel
theorem i_103_46 : a_ins 103 46 = some (.istore 6, 2, 0, 0, 0) := by decide +kernel
theorem i_103_48 : a_ins 103 48 = some (.iload_n 2, 1, 0, 0, 0) := by decide +kernel
theorem i_103_49 : a_ins 103 49 = some (.iconst (1), 1, 0, 0, 1) := by decide +kernel
theorem i_103_50 : a_ins 103 50 = some (.if_icmp .eq (9), 3, 59, 0, 0) := by decide +kernel
theorem i_103_53 : a_ins 103 53 = some (.iload_n 2, 1, 0, 0, 0) := by decide +kernel
theorem i_103_54 : a_ins 103 54 = some (.iload 6, 2, 0, 0, 0) := by decide +kernel
theorem i_103_56 : a_ins 103 56 = some (.if_icmp .ne (6), 3, 62, 0, 0) := by decide +kernel
theorem i_103_59 : a_ins 103 59 = some (.bipush (32), 2, 0, 0, 32) := by decide +kernel
theorem i_103_61 : a_ins 103 61 = some (.ireturn, 1, 0, 0, 0) := by decide +kernel
theorem i_103_62 : a_ins 103 62 = some (.iload_n 2, 1, 0, 0, 0) := by decide +kernel
theorem i_103_63 : a_ins 103 63 = some (.iload 6, 2, 0, 0, 0) := by decide +kernel
theorem i_103_65 : a_ins 103 65 = some (.if_icmp .ge (12), 3, 77, 0, 0) := by decide +kernel
theorem i_103_68 : a_ins 103 68 = some (.aload 4, 2, 0, 0, 0) := by decide +kernel
theorem i_103_70 : a_ins 103 70 = some (.iload_n 2, 1, 0, 0, 0) := by decide +kernel
theorem i_103_71 : a_ins 103 71 = some (.iconst (2), 1, 0, 0, 2) := by decide +kernel
theorem i_103_72 : a_ins 103 72 = some (.isub, 1, 0, 0, 0) := by decide +kernel
theorem i_103_73 : a_ins 103 73 = some (.invokevirtual 42, 3, 269, 2, 0) := by decide +kernel
theorem i_103_76 : a_ins 103 76 = some (.ireturn, 1, 0, 0, 0) := by decide +kernel
theorem i_103_77 : a_ins 103 77 = some (.iload_n 2, 1, 0, 0, 0) := by decide +kernel
theorem i_103_78 : a_ins 103 78 = some (.iload 6, 2, 0, 0, 0) := by decide +kernel
theorem i_103_80 : a_ins 103 80 = some (.isub, 1, 0, 0, 0) := by decide +kernel
theorem i_103_81 : a_ins 103 81 = some (.iconst (1), 1, 0, 0, 1) := by decide +kernel
theorem i_103_82 : a_ins 103 82 = some (.isub, 1, 0, 0, 0) := by decide +kernel
theorem i_103_83 : a_ins 103 83 = some (.istore 7, 2, 0, 0, 0) := by decide +kernel
theorem i_103_85 : a_ins 103 85 = some (.iload 7, 2, 0, 0, 0) := by decide +kernel
theorem i_103_87 : a_ins 103 87 = some (.ifCond .lt (23), 3, 110, 0, 0) := by decide +kernel
theorem i_103_90 : a_ins 103 90 = some (.iload 7, 2, 0, 0, 0) := by decide +kernel
theorem i_103_92 : a_ins 103 92 = some (.aload 5, 2, 0, 0, 0) := by decide +kernel
theorem i_103_94 : a_ins 103 94 = some (.invokevirtual 36, 3, 267, 1, 0) := by decide +kernel
theorem i_103_97 : a_ins 103 97 = some (.if_icmp .ge (13), 3, 110, 0, 0) := by decide +kernel
theorem i_103_100 : a_ins 103 100 = some (.aload 5, 2, 0, 0, 0) := by decide +kernel
theorem i_103_102 : a_ins 103 102 = some (.iload 7, 2, 0, 0, 0) := by decide +kernel
theorem i_103_104 : a_ins 103 104 = some (.invokevirtual 42, 3, 269, 2, 0) := by decide +kernel
theorem i_103_107 : a_ins 103 107 = some (.goto (4), 3, 111, 0, 0) := by decide +kernel
theorem i_103_110 : a_ins 103 110 = some (.iconst (-1), 1, 0, 0, -1) := by decide +kernel
theorem i_103_111 : a_ins 103 111 = some (.ireturn, 1, 0, 0, 0) := by decide +kernel
theorem i_104_0 : a_ins 104 0 = some (.aload_n 0, 1, 0, 0, 0) := by decide +kernel
theorem i_104_1 : a_ins 104 1 = some (.invokespecial 3, 3, 1000, 1, 0) := by decide +kernel
theorem i_104_4 : a_ins 104 4 = some (.aload_n 0, 1, 0, 0, 0) := by decide +kernel
theorem i_104_5 : a_ins 104 5 = some (.bipush (11), 2, 0, 0, 11) := by decide +kernel
theorem i_104_7 : a_ins 104 7 = some (.anewarray 9, 3, 0, 0, 0) := by decide +kernel
theorem i_104_10 : a_ins 104 10 = some (.putfield 11, 3, 3, 0, 0) := by decide +kernel
theorem i_104_13 : a_ins 104 13 = some (.iconst (0), 1, 0, 0, 0) := by decide +kernel
theorem i_104_14 : a_ins 104 14 = some (.istore_n 1, 1, 0, 0, 0) := by decide +kernel
theorem i_104_15 : a_ins 104 15 = some (.iload_n 1, 1, 0, 0, 0) := by decide +kernel
theorem i_104_16 : a_ins 104 16 = some (.bipush (10), 2, 0, 0, 10) := by decide +kernel
theorem i_104_18 : a_ins 104 18 = some (.if_icmp .gt (22), 3, 40, 0, 0) := by decide +kernel
theorem i_104_21 : a_ins 104 21 = some (.aload_n 0, 1, 0, 0, 0) := by decide +kernel
theorem i_104_22 : a_ins 104 22 = some (.getfield 11, 3, 3, 0, 0) := by decide +kernel
theorem i_104_25 : a_ins 104 25 = some (.iload_n 1, 1, 0, 0, 0) := by decide +kernel
theorem i_104_26 : a_ins 104 26 = some (.new 9, 3, 1, 0, 0) := by decide +kernel
theorem i_104_29 : a_ins 104 29 = some (.dup, 1, 0, 0, 0) := by decide +kernel
theorem i_104_30 : a_ins 104 30 = some (.invokespecial 17, 3, 45, 1, 0) := by decide +kernel
theorem i_104_33 : a_ins 104 33 = some (.aastore, 1, 0, 0, 0) := by decide +kernel
theorem i_104_34 : a_ins 104 34 = some (.iinc 1 (1), 3, 0, 0, 1) := by decide +kernel
theorem i_104_37 : a_ins 104 37 = some (.goto (-22), 3, 15, 0, 0) := by decide +kernel
theorem i_104_40 : a_ins 104 40 = some (.return_, 1, 0, 0, 0) := by decide +kernel
theorem i_105_0 : a_ins 105 0 = some (.aload_n 0, 1, 0, 0, 0) := by decide +kernel
theorem i_105_1 : a_ins 105 1 = some (.getfield 11, 3, 3, 0, 0) := by decide +kernel
theorem i_105_4 : a_ins 105 4 = some (.aload_n 0, 1, 0, 0, 0) := by decide +kernel
theorem i_105_5 : a_ins 105 5 = some (.getfield 18, 3, 3, 1, 0) := by decide +kernel
theorem i_105_8 : a_ins 105 8 = some (.aaload, 1, 0, 0, 0) := by decide +kernel
theorem i_105_9 : a_ins 105 9 = some (.aload_n 1, 1, 0, 0, 0) := by decide +kernel
theorem i_105_10 : a_ins 105 10 = some (.invokevirtual 22, 3, 50, 2, 0) := by decide +kernel
theorem i_105_13 : a_ins 105 13 = some (.return_, 1, 0, 0, 0) := by decide +kernel
theorem i_106_0 : a_ins 106 0 = some (.iload_n 1, 1, 0, 0, 0) := by decide +kernel
theorem i_106_1 : a_ins 106 1 = some (.ifCond .lt (31), 3, 32, 0, 0) := by decide +kernel
theorem i_106_4 : a_ins 106 4 = some (.aload_n 0, 1, 0, 0, 0) := by decide +kernel
theorem i_106_5 : a_ins 106 5 = some (.aload_n 0, 1, 0, 0, 0) := by decide +kernel
theorem i_106_6 : a_ins 106 6 = some (.getfield 18, 3, 3, 1, 0) := by decide +kernel
theorem i_106_9 : a_ins 106 9 = some (.iconst (1), 1, 0, 0, 1) := by decide +kernel
theorem i_106_10 : a_ins 106 10 = some (.iadd, 1, 0, 0, 0) := by decide +kernel
theorem i_106_11 : a_ins 106 11 = some (.bipush (11), 2, 0, 0, 11) := by decide +kernel
theorem i_106_13 : a_ins 106 13 = some (.irem, 1, 0, 0, 0) := by decide +kernel
theorem i_106_14 : a_ins 106 14 = some (.putfield 18, 3, 3, 1, 0) := by decide +kernel
theorem i_106_17 : a_ins 106 17 = some (.aload_n 0, 1, 0, 0, 0) := by decide +kernel
theorem i_106_18 : a_ins 106 18 = some (.aload_n 0, 1, 0, 0, 0) := by decide +kernel
theorem i_106_19 : a_ins 106 19 = some (.getfield 26, 3, 3, 2, 0) := by decide +kernel
theorem i_106_22 : a_ins 106 22 = some (.iconst (1), 1, 0, 0, 1) := by decide +kernel
theorem i_106_23 : a_ins 106 23 = some (.iadd, 1, 0, 0, 0) := by decide +kernel
theorem i_106_24 : a_ins 106 24 = some (.bipush (10), 2, 0, 0, 10) := by decide +kernel
theorem i_106_26 : a_ins 106 26 = some (.invokestatic 29, 3, 264, 2, 0) := by decide +kernel
theorem i_106_29 : a_ins 106 29 = some (.putfield 26, 3, 3, 2, 0) := by decide +kernel
theorem i_106_32 : a_ins 106 32 = some (.iload_n 1, 1, 0, 0, 0) := by decide +kernel
theorem i_106_33 : a_ins 106 33 = some (.ireturn, 1, 0, 0, 0) := by decide +kernel
theorem i_107_0 : a_ins 107 0 = some (.aload_n 0, 1, 0, 0, 0) := by decide +kernel
theorem i_107_1 : a_ins 107 1 = some (.aload_n 0, 1, 0, 0, 0) := by decide +kernel
theorem i_107_2 : a_ins 107 2 = some (.getfield 18, 3, 3, 1, 0) := by decide +kernel
theorem i_107_5 : a_ins 107 5 = some (.iload_n 2, 1, 0, 0, 0) := by decide +kernel
theorem i_107_6 : a_ins 107 6 = some (.isub, 1, 0, 0, 0) := by decide +kernel
theorem i_107_7 : a_ins 107 7 = some (.bipush (11), 2, 0, 0, 11) := by decide +kernel
theorem i_107_9 : a_ins 107 9 = some (.invokestatic 35, 3, 266, 2, 0) := by decide +kernel
theorem i_107_12 : a_ins 107 12 = some (.putfield 18, 3, 3, 1, 0) := by decide +kernel
theorem i_107_15 : a_ins 107 15 = some (.aload_n 0, 1, 0, 0, 0) := by decide +kernel
theorem i_107_16 : a_ins 107 16 = some (.dup, 1, 0, 0, 0) := by decide +kernel
theorem i_107_17 : a_ins 107 17 = some (.getfield 26, 3, 3, 2, 0) := by decide +kernel
theorem i_107_20 : a_ins 107 20 = some (.iload_n 2, 1, 0, 0, 0) := by decide +kernel
theorem i_107_21 : a_ins 107 21 = some (.isub, 1, 0, 0, 0) := by decide +kernel
theorem i_107_22 : a_ins 107 22 = some (.putfield 26, 3, 3, 2, 0) := by decide +kernel
theorem i_107_25 : a_ins 107 25 = some (.aload_n 1, 1, 0, 0, 0) := by decide +kernel
theorem i_107_26 : a_ins 107 26 = some (.aload_n 0, 1, 0, 0, 0) := by decide +kernel
theorem i_107_27 : a_ins 107 27 = some (.getfield 11, 3, 3, 0, 0) := by decide +kernel
theorem i_107_30 : a_ins 107 30 = some (.aload_n 0, 1, 0, 0, 0) := by decide +kernel
theorem i_107_31 : a_ins 107 31 = some (.getfield 18, 3, 3, 1, 0) := by decide +kernel
theorem i_107_34 : a_ins 107 34 = some (.aaload, 1, 0, 0, 0) := by decide +kernel
theorem i_107_35 : a_ins 107 35 = some (.invokevirtual 22, 3, 50, 2, 0) := by decide +kernel
theorem i_107_38 : a_ins 107 38 = some (.return_, 1, 0, 0, 0) := by decide +kernel
theorem i_108_0 : a_ins 108 0 = some (.aload_n 0, 1, 0, 0, 0) := by decide +kernel
theorem i_108_1 : a_ins 108 1 = some (.invokespecial 3, 3, 1000, 1, 0) := by decide +kernel
theorem i_108_4 : a_ins 108 4 = some (.aload_n 0, 1, 0, 0, 0) := by decide +kernel
theorem i_108_5 : a_ins 108 5 = some (.bipush (12), 2, 0, 0, 12) := by decide +kernel
theorem i_108_7 : a_ins 108 7 = some (.newarray .int, 2, 0, 0, 0) := by decide +kernel
theorem i_108_9 : a_ins 108 9 = some (.putfield 9, 3, 4, 0, 0) := by decide +kernel
theorem i_108_12 : a_ins 108 12 = some (.aload_n 0, 1, 0, 0, 0) := by decide +kernel
theorem i_108_13 : a_ins 108 13 = some (.bipush (12), 2, 0, 0, 12) := by decide +kernel
theorem i_108_15 : a_ins 108 15 = some (.newarray .int, 2, 0, 0, 0) := by decide +kernel
theorem i_108_17 : a_ins 108 17 = some (.putfield 15, 3, 4, 1, 0) := by decide +kernel
theorem i_108_20 : a_ins 108 20 = some (.aload_n 0, 1, 0, 0, 0) := by decide +kernel
theorem i_108_21 : a_ins 108 21 = some (.bipush (12), 2, 0, 0, 12) := by decide +kernel
theorem i_108_23 : a_ins 108 23 = some (.newarray .int, 2, 0, 0, 0) := by decide +kernel
theorem i_108_25 : a_ins 108 25 = some (.putfield 18, 3, 4, 2, 0) := by decide +kernel
theorem i_108_28 : a_ins 108 28 = some (.aload_n 0, 1, 0, 0, 0) := by decide +kernel
theorem i_108_29 : a_ins 108 29 = some (.sipush (200), 3, 0, 0, 200) := by decide +kernel
theorem i_108_32 : a_ins 108 32 = some (.newarray .byte, 2, 1, 0, 0) := by decide +kernel
theorem i_108_34 : a_ins 108 34 = some (.putfield 21, 3, 4, 7, 0) := by decide +kernel
theorem i_108_37 : a_ins 108 37 = some (.aload_n 0, 1, 0, 0, 0) := by decide +kernel
theorem i_108_38 : a_ins 108 38 = some (.iconst (-1), 1, 0, 0, -1) := by decide +kernel
theorem i_108_39 : a_ins 108 39 = some (.putfield 25, 3, 4, 5, 0) := by decide +kernel
theorem i_108_42 : a_ins 108 42 = some (.return_, 1, 0, 0, 0) := by decide +kernel
theorem i_109_0 : a_ins 109 0 = some (.aload_n 1, 1, 0, 0, 0) := by decide +kernel
theorem i_109_1 : a_ins 109 1 = some (.iconst (0), 1, 0, 0, 0) := by decide +kernel
theorem i_109_2 : a_ins 109 2 = some (.aload_n 0, 1, 0, 0, 0) := by decide +kernel
theorem i_109_3 : a_ins 109 3 = some (.getfield 21, 3, 4, 7, 0) := by decide +kernel
theorem i_109_6 : a_ins 109 6 = some (.iconst (0), 1, 0, 0, 0) := by decide +kernel
theorem i_109_7 : a_ins 109 7 = some (.iload_n 2, 1, 0, 0, 0) := by decide +kernel
theorem i_109_8 : a_ins 109 8 = some (.invokestatic 29, 3, 1001, 5, 0) := by decide +kernel
theorem i_109_11 : a_ins 109 11 = some (.aload_n 0, 1, 0, 0, 0) := by decide +kernel
theorem i_109_12 : a_ins 109 12 = some (.iload_n 2, 1, 0, 0, 0) := by decide +kernel
theorem i_109_13 : a_ins 109 13 = some (.putfield 35, 3, 4, 8, 0) := by decide +kernel
theorem i_109_16 : a_ins 109 16 = some (.aload_n 0, 1, 0, 0, 0) := by decide +kernel
theorem i_109_17 : a_ins 109 17 = some (.iconst (0), 1, 0, 0, 0) := by decide +kernel
theorem i_109_18 : a_ins 109 18 = some (.putfield 38, 3, 4, 9, 0) := by decide +kernel
theorem i_109_21 : a_ins 109 21 = some (.aload_n 0, 1, 0, 0, 0) := by decide +kernel
theorem i_109_22 : a_ins 109 22 = some (.iconst (0), 1, 0, 0, 0) := by decide +kernel
theorem i_109_23 : a_ins 109 23 = some (.putfield 41, 3, 4, 3, 0) := by decide +kernel
theorem i_109_26 : a_ins 109 26 = some (.aload_n 0, 1, 0, 0, 0) := by decide +kernel
theorem i_109_27 : a_ins 109 27 = some (.iconst (0), 1, 0, 0, 0) := by decide +kernel
theorem i_109_28 : a_ins 109 28 = some (.putfield 44, 3, 4, 4, 0) := by decide +kernel
theorem i_109_31 : a_ins 109 31 = some (.aload_n 0, 1, 0, 0, 0) := by decide +kernel
theorem i_109_32 : a_ins 109 32 = some (.iconst (-1), 1, 0, 0, -1) := by decide +kernel
theorem i_109_33 : a_ins 109 33 = some (.putfield 25, 3, 4, 5, 0) := by decide +kernel
theorem i_109_36 : a_ins 109 36 = some (.aload_n 0, 1, 0, 0, 0) := by decide +kernel
theorem i_109_37 : a_ins 109 37 = some (.iconst (0), 1, 0, 0, 0) := by decide +kernel
theorem i_109_38 : a_ins 109 38 = some (.putfield 47, 3, 4, 6, 0) := by decide +kernel
theorem i_109_41 : a_ins 109 41 = some (.iconst (0), 1, 0, 0, 0) := by decide +kernel
theorem i_109_42 : a_ins 109 42 = some (.istore_n 3, 1, 0, 0, 0) := by decide +kernel
theorem i_109_43 : a_ins 109 43 = some (.iload_n 3, 1, 0, 0, 0) := by decide +kernel
theorem i_109_44 : a_ins 109 44 = some (.bipush (12), 2, 0, 0, 12) := by decide +kernel
theorem i_109_46 : a_ins 109 46 = some (.if_icmp .gt (31), 3, 77, 0, 0) := by decide +kernel
theorem i_109_49 : a_ins 109 49 = some (.aload_n 0, 1, 0, 0, 0) := by decide +kernel
theorem i_109_50 : a_ins 109 50 = some (.getfield 38, 3, 4, 9, 0) := by decide +kernel
theorem i_109_53 : a_ins 109 53 = some (.aload_n 0, 1, 0, 0, 0) := by decide +kernel
theorem i_109_54 : a_ins 109 54 = some (.getfield 35, 3, 4, 8, 0) := by decide +kernel
theorem i_109_57 : a_ins 109 57 = some (.if_icmp .ge (20), 3, 77, 0, 0) := by decide +kernel
theorem i_109_60 : a_ins 109 60 = some (.aload_n 0, 1, 0, 0, 0) := by decide +kernel
theorem i_109_61 : a_ins 109 61 = some (.getfield 44, 3, 4, 4, 0) := by decide +kernel
theorem i_109_64 : a_ins 109 64 = some (.ifCond .ne (13), 3, 77, 0, 0) := by decide +kernel
theorem i_109_67 : a_ins 109 67 = some (.aload_n 0, 1, 0, 0, 0) := by decide +kernel
theorem i_109_68 : a_ins 109 68 = some (.invokevirtual 50, 3, 110, 1, 0) := by decide +kernel
theorem i_109_71 : a_ins 109 71 = some (.iinc 3 (1), 3, 0, 0, 1) := by decide +kernel
theorem i_109_74 : a_ins 109 74 = some (.goto (-31), 3, 43, 0, 0) := by decide +kernel
theorem i_109_77 : a_ins 109 77 = some (.return_, 1, 0, 0, 0) := by decide +kernel
theorem i_110_0 : a_ins 110 0 = some (.aload_n 0, 1, 0, 0, 0) := by decide +kernel
theorem i_110_1 : a_ins 110 1 = some (.getfield 38, 3, 4, 9, 0) := by decide +kernel
theorem i_110_4 : a_ins 110 4 = some (.istore_n 1, 1, 0, 0, 0) := by decide +kernel
theorem i_110_5 : a_ins 110 5 = some (.aload_n 0, 1, 0, 0, 0) := by decide +kernel
theorem i_110_6 : a_ins 110 6 = some (.invokevirtual 53, 3, 111, 1, 0) := by decide +kernel
theorem i_110_9 : a_ins 110 9 = some (.istore_n 2, 1, 0, 0, 0) := by decide +kernel
theorem i_110_10 : a_ins 110 10 = some (.iload_n 2, 1, 0, 0, 0) := by decide +kernel
theorem i_110_11 : a_ins 110 11 = some (.iload_n 1, 1, 0, 0, 0) := by decide +kernel
theorem i_110_12 : a_ins 110 12 = some (.if_icmp .ne (8), 3, 20, 0, 0) := by decide +kernel
theorem i_110_15 : a_ins 110 15 = some (.aload_n 0, 1, 0, 0, 0) := by decide +kernel
theorem i_110_16 : a_ins 110 16 = some (.invokevirtual 57, 3, 112, 1, 0) := by decide +kernel
theorem i_110_19 : a_ins 110 19 = some (.return_, 1, 0, 0, 0) := by decide +kernel
theorem i_110_20 : a_ins 110 20 = some (.aload_n 0, 1, 0, 0, 0) := by decide +kernel
theorem i_110_21 : a_ins 110 21 = some (.iload_n 1, 1, 0, 0, 0) := by decide +kernel
theorem i_110_22 : a_ins 110 22 = some (.iload_n 2, 1, 0, 0, 0) := by decide +kernel
theorem i_110_23 : a_ins 110 23 = some (.invokevirtual 60, 3, 114, 3, 0) := by decide +kernel
theorem i_110_26 : a_ins 110 26 = some (.istore_n 3, 1, 0, 0, 0) := by decide +kernel
theorem i_110_27 : a_ins 110 27 = some (.iload_n 3, 1, 0, 0, 0) := by decide +kernel
theorem i_110_28 : a_ins 110 28 = some (.iconst (-1), 1, 0, 0, -1) := by decide +kernel
theorem i_110_29 : a_ins 110 29 = some (.if_icmp .ne (10), 3, 39, 0, 0) := by decide +kernel
theorem i_110_32 : a_ins 110 32 = some (.aload_n 0, 1, 0, 0, 0) := by decide +kernel
theorem i_110_33 : a_ins 110 33 = some (.invokevirtual 57, 3, 112, 1, 0) := by decide +kernel
theorem i_110_36 : a_ins 110 36 = some (.goto (82), 3, 118, 0, 0) := by decide +kernel
theorem i_110_39 : a_ins 110 39 = some (.aload_n 0, 1, 0, 0, 0) := by decide +kernel
theorem i_110_40 : a_ins 110 40 = some (.getfield 41, 3, 4, 3, 0) := by decide +kernel
theorem i_110_43 : a_ins 110 43 = some (.bipush (12), 2, 0, 0, 12) := by decide +kernel
theorem i_110_45 : a_ins 110 45 = some (.if_icmp .lt (11), 3, 56, 0, 0) := by decide +kernel
theorem i_110_48 : a_ins 110 48 = some (.aload_n 0, 1, 0, 0, 0) := by decide +kernel
theorem i_110_49 : a_ins 110 49 = some (.iconst (3), 1, 0, 0, 3) := by decide +kernel
theorem i_110_50 : a_ins 110 50 = some (.invokevirtual 64, 3, 113, 2, 0) := by decide +kernel
theorem i_110_53 : a_ins 110 53 = some (.goto (65), 3, 118, 0, 0) := by decide +kernel
theorem i_110_56 : a_ins 110 56 = some (.aload_n 0, 1, 0, 0, 0) := by decide +kernel
theorem i_110_57 : a_ins 110 57 = some (.iload_n 2, 1, 0, 0, 0) := by decide +kernel
theorem i_110_58 : a_ins 110 58 = some (.putfield 38, 3, 4, 9, 0) := by decide +kernel
theorem i_110_61 : a_ins 110 61 = some (.aload_n 0, 1, 0, 0, 0) := by decide +kernel
theorem i_110_62 : a_ins 110 62 = some (.getfield 9, 3, 4, 0, 0) := by decide +kernel
theorem i_110_65 : a_ins 110 65 = some (.aload_n 0, 1, 0, 0, 0) := by decide +kernel
theorem i_110_66 : a_ins 110 66 = some (.getfield 41, 3, 4, 3, 0) := by decide +kernel
theorem i_110_69 : a_ins 110 69 = some (.iload_n 3, 1, 0, 0, 0) := by decide +kernel
theorem i_110_70 : a_ins 110 70 = some (.iastore, 1, 0, 0, 0) := by decide +kernel
theorem i_110_71 : a_ins 110 71 = some (.aload_n 0, 1, 0, 0, 0) := by decide +kernel
theorem i_110_72 : a_ins 110 72 = some (.getfield 15, 3, 4, 1, 0) := by decide +kernel
theorem i_110_75 : a_ins 110 75 = some (.aload_n 0, 1, 0, 0, 0) := by decide +kernel
theorem i_110_76 : a_ins 110 76 = some (.getfield 41, 3, 4, 3, 0) := by decide +kernel
theorem i_110_79 : a_ins 110 79 = some (.iconst (0), 1, 0, 0, 0) := by decide +kernel
theorem i_110_80 : a_ins 110 80 = some (.iastore, 1, 0, 0, 0) := by decide +kernel
theorem i_110_81 : a_ins 110 81 = some (.aload_n 0, 1, 0, 0, 0) := by decide +kernel
theorem i_110_82 : a_ins 110 82 = some (.getfield 18, 3, 4, 2, 0) := by decide +kernel
theorem i_110_85 : a_ins 110 85 = some (.aload_n 0, 1, 0, 0, 0) := by decide +kernel
theorem i_110_86 : a_ins 110 86 = some (.getfield 41, 3, 4, 3, 0) := by decide +kernel
theorem i_110_89 : a_ins 110 89 = some (.iconst (-1), 1, 0, 0, -1) := by decide +kernel
theorem i_110_90 : a_ins 110 90 = some (.iastore, 1, 0, 0, 0) := by decide +kernel
theorem i_110_91 : a_ins 110 91 = some (.aload_n 0, 1, 0, 0, 0) := by decide +kernel
theorem i_110_92 : a_ins 110 92 = some (.iload_n 3, 1, 0, 0, 0) := by decide +kernel
theorem i_110_93 : a_ins 110 93 = some (.invokevirtual 68, 3, 117, 2, 0) := by decide +kernel
theorem i_110_96 : a_ins 110 96 = some (.ifCond .eq (22), 3, 118, 0, 0) := by decide +kernel
theorem i_110_99 : a_ins 110 99 = some (.aload_n 0, 1, 0, 0, 0) := by decide +kernel
theorem i_110_100 : a_ins 110 100 = some (.bipush (59), 2, 0, 0, 59) := by decide +kernel
theorem i_110_102 : a_ins 110 102 = some (.invokevirtual 72, 3, 122, 2, 0) := by decide +kernel
theorem i_110_105 : a_ins 110 105 = some (.ifCond .eq (13), 3, 118, 0, 0) := by decide +kernel
theorem i_110_108 : a_ins 110 108 = some (.aload_n 0, 1, 0, 0, 0) := by decide +kernel
theorem i_110_109 : a_ins 110 109 = some (.dup, 1, 0, 0, 0) := by decide +kernel
theorem i_110_110 : a_ins 110 110 = some (.getfield 41, 3, 4, 3, 0) := by decide +kernel
theorem i_110_113 : a_ins 110 113 = some (.iconst (1), 1, 0, 0, 1) := by decide +kernel
theorem i_110_114 : a_ins 110 114 = some (.iadd, 1, 0, 0, 0) := by decide +kernel
theorem i_110_115 : a_ins 110 115 = some (.putfield 41, 3, 4, 3, 0) := by decide +kernel
theorem i_110_118 : a_ins 110 118 = some (.return_, 1, 0, 0, 0) := by decide +kernel
theorem i_111_0 : a_ins 111 0 = some (.aload_n 0, 1, 0, 0, 0) := by decide +kernel
theorem i_111_1 : a_ins 111 1 = some (.getfield 38, 3, 4, 9, 0) := by decide +kernel
theorem i_111_4 : a_ins 111 4 = some (.istore_n 1, 1, 0, 0, 0) := by decide +kernel
theorem i_111_5 : a_ins 111 5 = some (.iload_n 1, 1, 0, 0, 0) := by decide +kernel
theorem i_111_6 : a_ins 111 6 = some (.aload_n 0, 1, 0, 0, 0) := by decide +kernel
theorem i_111_7 : a_ins 111 7 = some (.getfield 35, 3, 4, 8, 0) := by decide +kernel
theorem i_111_10 : a_ins 111 10 = some (.if_icmp .ge (31), 3, 41, 0, 0) := by decide +kernel
theorem i_111_13 : a_ins 111 13 = some (.aload_n 0, 1, 0, 0, 0) := by decide +kernel
theorem i_111_14 : a_ins 111 14 = some (.getfield 21, 3, 4, 7, 0) := by decide +kernel
theorem i_111_17 : a_ins 111 17 = some (.iload_n 1, 1, 0, 0, 0) := by decide +kernel
theorem i_111_18 : a_ins 111 18 = some (.baload, 1, 0, 0, 0) := by decide +kernel
theorem i_111_19 : a_ins 111 19 = some (.bipush (97), 2, 0, 0, 97) := by decide +kernel
theorem i_111_21 : a_ins 111 21 = some (.if_icmp .lt (20), 3, 41, 0, 0) := by decide +kernel
theorem i_111_24 : a_ins 111 24 = some (.aload_n 0, 1, 0, 0, 0) := by decide +kernel
theorem i_111_25 : a_ins 111 25 = some (.getfield 21, 3, 4, 7, 0) := by decide +kernel
theorem i_111_28 : a_ins 111 28 = some (.iload_n 1, 1, 0, 0, 0) := by decide +kernel
theorem i_111_29 : a_ins 111 29 = some (.baload, 1, 0, 0, 0) := by decide +kernel
theorem i_111_30 : a_ins 111 30 = some (.bipush (122), 2, 0, 0, 122) := by decide +kernel
theorem i_111_32 : a_ins 111 32 = some (.if_icmp .gt (9), 3, 41, 0, 0) := by decide +kernel
theorem i_111_35 : a_ins 111 35 = some (.iinc 1 (1), 3, 0, 0, 1) := by decide +kernel
theorem i_111_38 : a_ins 111 38 = some (.goto (-33), 3, 5, 0, 0) := by decide +kernel
theorem i_111_41 : a_ins 111 41 = some (.iload_n 1, 1, 0, 0, 0) := by decide +kernel
theorem i_111_42 : a_ins 111 42 = some (.ireturn, 1, 0, 0, 0) := by decide +kernel
theorem i_112_0 : a_ins 112 0 = some (.aload_n 0, 1, 0, 0, 0) := by decide +kernel
theorem i_112_1 : a_ins 112 1 = some (.aload_n 0, 1, 0, 0, 0) := by decide +kernel
theorem i_112_2 : a_ins 112 2 = some (.invokevirtual 53, 3, 111, 1, 0) := by decide +kernel
theorem i_112_5 : a_ins 112 5 = some (.aload_n 0, 1, 0, 0, 0) := by decide +kernel
theorem i_112_6 : a_ins 112 6 = some (.getfield 38, 3, 4, 9, 0) := by decide +kernel
theorem i_112_9 : a_ins 112 9 = some (.if_icmp .le (7), 3, 16, 0, 0) := by decide +kernel
theorem i_112_12 : a_ins 112 12 = some (.iconst (1), 1, 0, 0, 1) := by decide +kernel
theorem i_112_13 : a_ins 112 13 = some (.goto (4), 3, 17, 0, 0) := by decide +kernel
theorem i_112_16 : a_ins 112 16 = some (.iconst (2), 1, 0, 0, 2) := by decide +kernel
theorem i_112_17 : a_ins 112 17 = some (.invokevirtual 64, 3, 113, 2, 0) := by decide +kernel
theorem i_112_20 : a_ins 112 20 = some (.return_, 1, 0, 0, 0) := by decide +kernel
theorem i_113_0 : a_ins 113 0 = some (.aload_n 0, 1, 0, 0, 0) := by decide +kernel
theorem i_113_1 : a_ins 113 1 = some (.iload_n 1, 1, 0, 0, 0) := by decide +kernel
theorem i_113_2 : a_ins 113 2 = some (.putfield 44, 3, 4, 4, 0) := by decide +kernel
theorem i_113_5 : a_ins 113 5 = some (.aload_n 0, 1, 0, 0, 0) := by decide +kernel
theorem i_113_6 : a_ins 113 6 = some (.aload_n 0, 1, 0, 0, 0) := by decide +kernel
theorem i_113_7 : a_ins 113 7 = some (.getfield 38, 3, 4, 9, 0) := by decide +kernel
theorem i_113_10 : a_ins 113 10 = some (.putfield 25, 3, 4, 5, 0) := by decide +kernel
theorem i_113_13 : a_ins 113 13 = some (.return_, 1, 0, 0, 0) := by decide +kernel
theorem i_114_0 : a_ins 114 0 = some (.iconst (0), 1, 0, 0, 0) := by decide +kernel
theorem i_114_1 : a_ins 114 1 = some (.istore_n 3, 1, 0, 0, 0) := by decide +kernel
theorem i_114_2 : a_ins 114 2 = some (.iload_n 3, 1, 0, 0, 0) := by decide +kernel
theorem i_114_3 : a_ins 114 3 = some (.bipush (10), 2, 0, 0, 10) := by decide +kernel
theorem i_114_5 : a_ins 114 5 = some (.if_icmp .ge (24), 3, 29, 0, 0) := by decide +kernel
theorem i_114_8 : a_ins 114 8 = some (.aload_n 0, 1, 0, 0, 0) := by decide +kernel
theorem i_114_9 : a_ins 114 9 = some (.iload_n 3, 1, 0, 0, 0) := by decide +kernel
theorem i_114_10 : a_ins 114 10 = some (.invokestatic 99, 3, 115, 1, 0) := by decide +kernel
theorem i_114_13 : a_ins 114 13 = some (.iload_n 1, 1, 0, 0, 0) := by decide +kernel
theorem i_114_14 : a_ins 114 14 = some (.iload_n 2, 1, 0, 0, 0) := by decide +kernel
theorem i_114_15 : a_ins 114 15 = some (.invokevirtual 93, 3, 116, 4, 0) := by decide +kernel
theorem i_114_18 : a_ins 114 18 = some (.ifCond .eq (5), 3, 23, 0, 0) := by decide +kernel
theorem i_114_21 : a_ins 114 21 = some (.iload_n 3, 1, 0, 0, 0) := by decide +kernel
theorem i_114_22 : a_ins 114 22 = some (.ireturn, 1, 0, 0, 0) := by decide +kernel
theorem i_114_23 : a_ins 114 23 = some (.iinc 3 (1), 3, 0, 0, 1) := by decide +kernel
theorem i_114_26 : a_ins 114 26 = some (.goto (-24), 3, 2, 0, 0) := by decide +kernel
theorem i_114_29 : a_ins 114 29 = some (.iconst (-1), 1, 0, 0, -1) := by decide +kernel
theorem i_114_30 : a_ins 114 30 = some (.ireturn, 1, 0, 0, 0) := by decide +kernel
theorem i_115_0 : a_ins 115 0 = some (.iload_n 0, 1, 0, 0, 0) := by decide +kernel
theorem i_115_1 : a_ins 115 1 = some (.tableswitch (78) (0) (8) #[51, 54, 57, 60, 63, 66, 69, 72, 75], 51, 0, 0, 0) := by decide +kernel
theorem i_115_52 : a_ins 115 52 = some (.ldc 111, 2, 1, 0, 0) := by decide +kernel
theorem i_115_54 : a_ins 115 54 = some (.areturn, 1, 0, 0, 0) := by decide +kernel
theorem i_115_55 : a_ins 115 55 = some (.ldc 113, 2, 1, 1, 0) := by decide +kernel
theorem i_115_57 : a_ins 115 57 = some (.areturn, 1, 0, 0, 0) := by decide +kernel
theorem i_115_58 : a_ins 115 58 = some (.ldc 115, 2, 1, 2, 0) := by decide +kernel
theorem i_115_60 : a_ins 115 60 = some (.areturn, 1, 0, 0, 0) := by decide +kernel
theorem i_115_61 : a_ins 115 61 = some (.ldc 117, 2, 1, 3, 0) := by decide +kernel
theorem i_115_63 : a_ins 115 63 = some (.areturn, 1, 0, 0, 0) := by decide +kernel
theorem i_115_64 : a_ins 115 64 = some (.ldc 119, 2, 1, 4, 0) := by decide +kernel
theorem i_115_66 : a_ins 115 66 = some (.areturn, 1, 0, 0, 0) := by decide +kernel
theorem i_115_67 : a_ins 115 67 = some (.ldc 121, 2, 1, 5, 0) := by decide +kernel
theorem i_115_69 : a_ins 115 69 = some (.areturn, 1, 0, 0, 0) := by decide +kernel
theorem i_115_70 : a_ins 115 70 = some (.ldc 123, 2, 1, 6, 0) := by decide +kernel
theorem i_115_72 : a_ins 115 72 = some (.areturn, 1, 0, 0, 0) := by decide +kernel
theorem i_115_73 : a_ins 115 73 = some (.ldc 125, 2, 1, 7, 0) := by decide +kernel
theorem i_115_75 : a_ins 115 75 = some (.areturn, 1, 0, 0, 0) := by decide +kernel
theorem i_115_76 : a_ins 115 76 = some (.ldc 127, 2, 1, 8, 0) := by decide +kernel
theorem i_115_78 : a_ins 115 78 = some (.areturn, 1, 0, 0, 0) := by decide +kernel
theorem i_115_79 : a_ins 115 79 = some (.ldc 129, 2, 1, 9, 0) := by decide +kernel
theorem i_115_81 : a_ins 115 81 = some (.areturn, 1, 0, 0, 0) := by decide +kernel
theorem i_116_0 : a_ins 116 0 = some (.aload_n 1, 1, 0, 0, 0) := by decide +kernel
theorem i_116_1 : a_ins 116 1 = some (.invokevirtual 103, 3, 267, 1, 0) := by decide +kernel
theorem i_116_4 : a_ins 116 4 = some (.iload_n 3, 1, 0, 0, 0) := by decide +kernel
theorem i_116_5 : a_ins 116 5 = some (.iload_n 2, 1, 0, 0, 0) := by decide +kernel
theorem i_116_6 : a_ins 116 6 = some (.isub, 1, 0, 0, 0) := by decide +kernel
theorem i_116_7 : a_ins 116 7 = some (.if_icmp .eq (5), 3, 12, 0, 0) := by decide +kernel
theorem i_116_10 : a_ins 116 10 = some (.iconst (0), 1, 0, 0, 0) := by decide +kernel
theorem i_116_11 : a_ins 116 11 = some (.ireturn, 1, 0, 0, 0) := by decide +kernel
theorem i_116_12 : a_ins 116 12 = some (.iconst (0), 1, 0, 0, 0) := by decide +kernel
theorem i_116_13 : a_ins 116 13 = some (.istore 4, 2, 0, 0, 0) := by decide +kernel
theorem i_116_15 : a_ins 116 15 = some (.iload 4, 2, 0, 0, 0) := by decide +kernel
theorem i_116_17 : a_ins 116 17 = some (.aload_n 1, 1, 0, 0, 0) := by decide +kernel
theorem i_116_18 : a_ins 116 18 = some (.invokevirtual 103, 3, 267, 1, 0) := by decide +kernel
theorem i_116_21 : a_ins 116 21 = some (.if_icmp .ge (29), 3, 50, 0, 0) := by decide +kernel
theorem i_116_24 : a_ins 116 24 = some (.aload_n 0, 1, 0, 0, 0) := by decide +kernel
theorem i_116_25 : a_ins 116 25 = some (.getfield 21, 3, 4, 7, 0) := by decide +kernel
theorem i_116_28 : a_ins 116 28 = some (.iload_n 2, 1, 0, 0, 0) := by decide +kernel
theorem i_116_29 : a_ins 116 29 = some (.iload 4, 2, 0, 0, 0) := by decide +kernel
theorem i_116_31 : a_ins 116 31 = some (.iadd, 1, 0, 0, 0) := by decide +kernel
theorem i_116_32 : a_ins 116 32 = some (.baload, 1, 0, 0, 0) := by decide +kernel
theorem i_116_33 : a_ins 116 33 = some (.aload_n 1, 1, 0, 0, 0) := by decide +kernel
theorem i_116_34 : a_ins 116 34 = some (.iload 4, 2, 0, 0, 0) := by decide +kernel
theorem i_116_36 : a_ins 116 36 = some (.invokevirtual 107, 3, 269, 2, 0) := by decide +kernel
theorem i_116_39 : a_ins 116 39 = some (.if_icmp .eq (5), 3, 44, 0, 0) := by decide +kernel
theorem i_116_42 : a_ins 116 42 = some (.iconst (0), 1, 0, 0, 0) := by decide +kernel
theorem i_116_43 : a_ins 116 43 = some (.ireturn, 1, 0, 0, 0) := by decide +kernel
theorem i_116_44 : a_ins 116 44 = some (.iinc 4 (1), 3, 0, 0, 1) := by decide +kernel
theorem i_116_47 : a_ins 116 47 = some (.goto (-32), 3, 15, 0, 0) := by decide +kernel
theorem i_116_50 : a_ins 116 50 = some (.iconst (1), 1, 0, 0, 1) := by decide +kernel
theorem i_116_51 : a_ins 116 51 = some (.ireturn, 1, 0, 0, 0) := by decide +kernel
theorem i_117_0 : a_ins 117 0 = some (.iload_n 1, 1, 0, 0, 0) := by decide +kernel
theorem i_117_1 : a_ins 117 1 = some (.tableswitch (101) (0) (8) #[51, 51, 51, 56, 56, 61, 56, 101, 81], 51, 0, 0, 0) := by decide +kernel
theorem i_117_52 : a_ins 117 52 = some (.aload_n 0, 1, 0, 0, 0) := by decide +kernel
theorem i_117_53 : a_ins 117 53 = some (.invokevirtual 75, 3, 118, 1, 0) := by decide +kernel
theorem i_117_56 : a_ins 117 56 = some (.ireturn, 1, 0, 0, 0) := by decide +kernel
theorem i_117_57 : a_ins 117 57 = some (.aload_n 0, 1, 0, 0, 0) := by decide +kernel
theorem i_117_58 : a_ins 117 58 = some (.invokevirtual 79, 3, 121, 1, 0) := by decide +kernel
theorem i_117_61 : a_ins 117 61 = some (.ireturn, 1, 0, 0, 0) := by decide +kernel
theorem i_117_62 : a_ins 117 62 = some (.aload_n 0, 1, 0, 0, 0) := by decide +kernel
theorem i_117_63 : a_ins 117 63 = some (.invokevirtual 79, 3, 121, 1, 0) := by decide +kernel
theorem i_117_66 : a_ins 117 66 = some (.ifCond .eq (14), 3, 80, 0, 0) := by decide +kernel
theorem i_117_69 : a_ins 117 69 = some (.aload_n 0, 1, 0, 0, 0) := by decide +kernel
theorem i_117_70 : a_ins 117 70 = some (.invokevirtual 75, 3, 118, 1, 0) := by decide +kernel
theorem i_117_73 : a_ins 117 73 = some (.ifCond .eq (7), 3, 80, 0, 0) := by decide +kernel
theorem i_117_76 : a_ins 117 76 = some (.iconst (1), 1, 0, 0, 1) := by decide +kernel
theorem i_117_77 : a_ins 117 77 = some (.goto (4), 3, 81, 0, 0) := by decide +kernel
theorem i_117_80 : a_ins 117 80 = some (.iconst (0), 1, 0, 0, 0) := by decide +kernel
theorem i_117_81 : a_ins 117 81 = some (.ireturn, 1, 0, 0, 0) := by decide +kernel
theorem i_117_82 : a_ins 117 82 = some (.aload_n 0, 1, 0, 0, 0) := by decide +kernel
theorem i_117_83 : a_ins 117 83 = some (.invokevirtual 79, 3, 121, 1, 0) := by decide +kernel
theorem i_117_86 : a_ins 117 86 = some (.ifCond .eq (14), 3, 100, 0, 0) := by decide +kernel
theorem i_117_89 : a_ins 117 89 = some (.aload_n 0, 1, 0, 0, 0) := by decide +kernel
theorem i_117_90 : a_ins 117 90 = some (.invokevirtual 82, 3, 123, 1, 0) := by decide +kernel
theorem i_117_93 : a_ins 117 93 = some (.ifCond .eq (7), 3, 100, 0, 0) := by decide +kernel
theorem i_117_96 : a_ins 117 96 = some (.iconst (1), 1, 0, 0, 1) := by decide +kernel
theorem i_117_97 : a_ins 117 97 = some (.goto (4), 3, 101, 0, 0) := by decide +kernel
theorem i_117_100 : a_ins 117 100 = some (.iconst (0), 1, 0, 0, 0) := by decide +kernel
theorem i_117_101 : a_ins 117 101 = some (.ireturn, 1, 0, 0, 0) := by decide +kernel
theorem i_117_102 : a_ins 117 102 = some (.iconst (1), 1, 0, 0, 1) := by decide +kernel
theorem i_117_103 : a_ins 117 103 = some (.ireturn, 1, 0, 0, 0) := by decide +kernel
theorem i_118_0 : a_ins 118 0 = some (.aload_n 0, 1, 0, 0, 0) := by decide +kernel
theorem i_118_1 : a_ins 118 1 = some (.invokevirtual 88, 3, 119, 1, 0) := by decide +kernel
theorem i_118_4 : a_ins 118 4 = some (.bipush (32), 2, 0, 0, 32) := by decide +kernel
theorem i_118_6 : a_ins 118 6 = some (.if_icmp .eq (5), 3, 11, 0, 0) := by decide +kernel
theorem i_118_9 : a_ins 118 9 = some (.iconst (1), 1, 0, 0, 1) := by decide +kernel
theorem i_118_10 : a_ins 118 10 = some (.ireturn, 1, 0, 0, 0) := by decide +kernel
theorem i_118_11 : a_ins 118 11 = some (.aload_n 0, 1, 0, 0, 0) := by decide +kernel
theorem i_118_12 : a_ins 118 12 = some (.dup, 1, 0, 0, 0) := by decide +kernel
theorem i_118_13 : a_ins 118 13 = some (.getfield 38, 3, 4, 9, 0) := by decide +kernel
theorem i_118_16 : a_ins 118 16 = some (.iconst (1), 1, 0, 0, 1) := by decide +kernel
theorem i_118_17 : a_ins 118 17 = some (.iadd, 1, 0, 0, 0) := by decide +kernel
theorem i_118_18 : a_ins 118 18 = some (.putfield 38, 3, 4, 9, 0) := by decide +kernel
theorem i_118_21 : a_ins 118 21 = some (.aload_n 0, 1, 0, 0, 0) := by decide +kernel
theorem i_118_22 : a_ins 118 22 = some (.invokevirtual 85, 3, 120, 1, 0) := by decide +kernel
theorem i_118_25 : a_ins 118 25 = some (.ifCond .ne (5), 3, 30, 0, 0) := by decide +kernel
theorem i_118_28 : a_ins 118 28 = some (.iconst (0), 1, 0, 0, 0) := by decide +kernel
theorem i_118_29 : a_ins 118 29 = some (.ireturn, 1, 0, 0, 0) := by decide +kernel
theorem i_118_30 : a_ins 118 30 = some (.aload_n 0, 1, 0, 0, 0) := by decide +kernel
theorem i_118_31 : a_ins 118 31 = some (.getfield 18, 3, 4, 2, 0) := by decide +kernel
theorem i_118_34 : a_ins 118 34 = some (.aload_n 0, 1, 0, 0, 0) := by decide +kernel
theorem i_118_35 : a_ins 118 35 = some (.getfield 41, 3, 4, 3, 0) := by decide +kernel
theorem i_118_38 : a_ins 118 38 = some (.aload_n 0, 1, 0, 0, 0) := by decide +kernel
theorem i_118_39 : a_ins 118 39 = some (.getfield 21, 3, 4, 7, 0) := by decide +kernel
theorem i_118_42 : a_ins 118 42 = some (.aload_n 0, 1, 0, 0, 0) := by decide +kernel
theorem i_118_43 : a_ins 118 43 = some (.getfield 38, 3, 4, 9, 0) := by decide +kernel
theorem i_118_46 : a_ins 118 46 = some (.baload, 1, 0, 0, 0) := by decide +kernel
theorem i_118_47 : a_ins 118 47 = some (.bipush (48), 2, 0, 0, 48) := by decide +kernel
theorem i_118_49 : a_ins 118 49 = some (.isub, 1, 0, 0, 0) := by decide +kernel
theorem i_118_50 : a_ins 118 50 = some (.iastore, 1, 0, 0, 0) := by decide +kernel
theorem i_118_51 : a_ins 118 51 = some (.aload_n 0, 1, 0, 0, 0) := by decide +kernel
theorem i_118_52 : a_ins 118 52 = some (.dup, 1, 0, 0, 0) := by decide +kernel
theorem i_118_53 : a_ins 118 53 = some (.getfield 38, 3, 4, 9, 0) := by decide +kernel
theorem i_118_56 : a_ins 118 56 = some (.iconst (1), 1, 0, 0, 1) := by decide +kernel
theorem i_118_57 : a_ins 118 57 = some (.iadd, 1, 0, 0, 0) := by decide +kernel
theorem i_118_58 : a_ins 118 58 = some (.putfield 38, 3, 4, 9, 0) := by decide +kernel
theorem i_118_61 : a_ins 118 61 = some (.iconst (1), 1, 0, 0, 1) := by decide +kernel
theorem i_118_62 : a_ins 118 62 = some (.ireturn, 1, 0, 0, 0) := by decide +kernel
theorem i_119_0 : a_ins 119 0 = some (.aload_n 0, 1, 0, 0, 0) := by decide +kernel
theorem i_119_1 : a_ins 119 1 = some (.getfield 38, 3, 4, 9, 0) := by decide +kernel
theorem i_119_4 : a_ins 119 4 = some (.aload_n 0, 1, 0, 0, 0) := by decide +kernel
theorem i_119_5 : a_ins 119 5 = some (.getfield 35, 3, 4, 8, 0) := by decide +kernel
theorem i_119_8 : a_ins 119 8 = some (.if_icmp .ge (19), 3, 27, 0, 0) := by decide +kernel
theorem i_119_11 : a_ins 119 11 = some (.aload_n 0, 1, 0, 0, 0) := by decide +kernel
theorem i_119_12 : a_ins 119 12 = some (.getfield 21, 3, 4, 7, 0) := by decide +kernel
theorem i_119_15 : a_ins 119 15 = some (.aload_n 0, 1, 0, 0, 0) := by decide +kernel
theorem i_119_16 : a_ins 119 16 = some (.getfield 38, 3, 4, 9, 0) := by decide +kernel
theorem i_119_19 : a_ins 119 19 = some (.baload, 1, 0, 0, 0) := by decide +kernel
theorem i_119_20 : a_ins 119 20 = some (.sipush (255), 3, 0, 0, 255) := by decide +kernel
theorem i_119_23 : a_ins 119 23 = some (.iand, 1, 0, 0, 0) := by decide +kernel
theorem i_119_24 : a_ins 119 24 = some (.goto (4), 3, 28, 0, 0) := by decide +kernel
theorem i_119_27 : a_ins 119 27 = some (.iconst (-1), 1, 0, 0, -1) := by decide +kernel
theorem i_119_28 : a_ins 119 28 = some (.ireturn, 1, 0, 0, 0) := by decide +kernel
theorem i_120_0 : a_ins 120 0 = some (.aload_n 0, 1, 0, 0, 0) := by decide +kernel
theorem i_120_1 : a_ins 120 1 = some (.invokevirtual 88, 3, 119, 1, 0) := by decide +kernel
theorem i_120_4 : a_ins 120 4 = some (.istore_n 1, 1, 0, 0, 0) := by decide +kernel
theorem i_120_5 : a_ins 120 5 = some (.iload_n 1, 1, 0, 0, 0) := by decide +kernel
theorem i_120_6 : a_ins 120 6 = some (.bipush (48), 2, 0, 0, 48) := by decide +kernel
theorem i_120_8 : a_ins 120 8 = some (.if_icmp .lt (13), 3, 21, 0, 0) := by decide +kernel
theorem i_120_11 : a_ins 120 11 = some (.iload_n 1, 1, 0, 0, 0) := by decide +kernel
theorem i_120_12 : a_ins 120 12 = some (.bipush (57), 2, 0, 0, 57) := by decide +kernel
theorem i_120_14 : a_ins 120 14 = some (.if_icmp .gt (7), 3, 21, 0, 0) := by decide +kernel
theorem i_120_17 : a_ins 120 17 = some (.iconst (1), 1, 0, 0, 1) := by decide +kernel
theorem i_120_18 : a_ins 120 18 = some (.goto (4), 3, 22, 0, 0) := by decide +kernel
theorem i_120_21 : a_ins 120 21 = some (.iconst (0), 1, 0, 0, 0) := by decide +kernel
theorem i_120_22 : a_ins 120 22 = some (.istore_n 2, 1, 0, 0, 0) := by decide +kernel
theorem i_120_23 : a_ins 120 23 = some (.iload_n 2, 1, 0, 0, 0) := by decide +kernel
theorem i_120_24 : a_ins 120 24 = some (.ifCond .ne (7), 3, 31, 0, 0) := by decide +kernel
theorem i_120_27 : a_ins 120 27 = some (.aload_n 0, 1, 0, 0, 0) := by decide +kernel
theorem i_120_28 : a_ins 120 28 = some (.invokevirtual 57, 3, 112, 1, 0) := by decide +kernel
theorem i_120_31 : a_ins 120 31 = some (.iload_n 2, 1, 0, 0, 0) := by decide +kernel
theorem i_120_32 : a_ins 120 32 = some (.ireturn, 1, 0, 0, 0) := by decide +kernel
theorem i_121_0 : a_ins 121 0 = some (.aload_n 0, 1, 0, 0, 0) := by decide +kernel
theorem i_121_1 : a_ins 121 1 = some (.bipush (32), 2, 0, 0, 32) := by decide +kernel
theorem i_121_3 : a_ins 121 3 = some (.invokevirtual 72, 3, 122, 2, 0) := by decide +kernel
theorem i_121_6 : a_ins 121 6 = some (.ifCond .eq (10), 3, 16, 0, 0) := by decide +kernel
theorem i_121_9 : a_ins 121 9 = some (.aload_n 0, 1, 0, 0, 0) := by decide +kernel
theorem i_121_10 : a_ins 121 10 = some (.invokevirtual 85, 3, 120, 1, 0) := by decide +kernel
theorem i_121_13 : a_ins 121 13 = some (.ifCond .ne (5), 3, 18, 0, 0) := by decide +kernel
theorem i_121_16 : a_ins 121 16 = some (.iconst (0), 1, 0, 0, 0) := by decide +kernel
theorem i_121_17 : a_ins 121 17 = some (.ireturn, 1, 0, 0, 0) := by decide +kernel
theorem i_121_18 : a_ins 121 18 = some (.aload_n 0, 1, 0, 0, 0) := by decide +kernel
theorem i_121_19 : a_ins 121 19 = some (.getfield 15, 3, 4, 1, 0) := by decide +kernel
theorem i_121_22 : a_ins 121 22 = some (.aload_n 0, 1, 0, 0, 0) := by decide +kernel
theorem i_121_23 : a_ins 121 23 = some (.getfield 41, 3, 4, 3, 0) := by decide +kernel
theorem i_121_26 : a_ins 121 26 = some (.aload_n 0, 1, 0, 0, 0) := by decide +kernel
theorem i_121_27 : a_ins 121 27 = some (.getfield 21, 3, 4, 7, 0) := by decide +kernel
theorem i_121_30 : a_ins 121 30 = some (.aload_n 0, 1, 0, 0, 0) := by decide +kernel
theorem i_121_31 : a_ins 121 31 = some (.getfield 38, 3, 4, 9, 0) := by decide +kernel
theorem i_121_34 : a_ins 121 34 = some (.baload, 1, 0, 0, 0) := by decide +kernel
theorem i_121_35 : a_ins 121 35 = some (.bipush (48), 2, 0, 0, 48) := by decide +kernel
theorem i_121_37 : a_ins 121 37 = some (.isub, 1, 0, 0, 0) := by decide +kernel
theorem i_121_38 : a_ins 121 38 = some (.iastore, 1, 0, 0, 0) := by decide +kernel
theorem i_121_39 : a_ins 121 39 = some (.aload_n 0, 1, 0, 0, 0) := by decide +kernel
theorem i_121_40 : a_ins 121 40 = some (.dup, 1, 0, 0, 0) := by decide +kernel
theorem i_121_41 : a_ins 121 41 = some (.getfield 38, 3, 4, 9, 0) := by decide +kernel
theorem i_121_44 : a_ins 121 44 = some (.iconst (1), 1, 0, 0, 1) := by decide +kernel
theorem i_121_45 : a_ins 121 45 = some (.iadd, 1, 0, 0, 0) := by decide +kernel
theorem i_121_46 : a_ins 121 46 = some (.putfield 38, 3, 4, 9, 0) := by decide +kernel
theorem i_121_49 : a_ins 121 49 = some (.iconst (1), 1, 0, 0, 1) := by decide +kernel
theorem i_121_50 : a_ins 121 50 = some (.ireturn, 1, 0, 0, 0) := by decide +kernel
theorem i_122_0 : a_ins 122 0 = some (.aload_n 0, 1, 0, 0, 0) := by decide +kernel
theorem i_122_1 : a_ins 122 1 = some (.invokevirtual 88, 3, 119, 1, 0) := by decide +kernel
theorem i_122_4 : a_ins 122 4 = some (.iload_n 1, 1, 0, 0, 0) := by decide +kernel
theorem i_122_5 : a_ins 122 5 = some (.if_icmp .eq (9), 3, 14, 0, 0) := by decide +kernel
theorem i_122_8 : a_ins 122 8 = some (.aload_n 0, 1, 0, 0, 0) := by decide +kernel
theorem i_122_9 : a_ins 122 9 = some (.invokevirtual 57, 3, 112, 1, 0) := by decide +kernel
theorem i_122_12 : a_ins 122 12 = some (.iconst (0), 1, 0, 0, 0) := by decide +kernel
theorem i_122_13 : a_ins 122 13 = some (.ireturn, 1, 0, 0, 0) := by decide +kernel
theorem i_122_14 : a_ins 122 14 = some (.aload_n 0, 1, 0, 0, 0) := by decide +kernel
theorem i_122_15 : a_ins 122 15 = some (.dup, 1, 0, 0, 0) := by decide +kernel
theorem i_122_16 : a_ins 122 16 = some (.getfield 38, 3, 4, 9, 0) := by decide +kernel
theorem i_122_19 : a_ins 122 19 = some (.iconst (1), 1, 0, 0, 1) := by decide +kernel
theorem i_122_20 : a_ins 122 20 = some (.iadd, 1, 0, 0, 0) := by decide +kernel
theorem i_122_21 : a_ins 122 21 = some (.putfield 38, 3, 4, 9, 0) := by decide +kernel
theorem i_122_24 : a_ins 122 24 = some (.iconst (1), 1, 0, 0, 1) := by decide +kernel
theorem i_122_25 : a_ins 122 25 = some (.ireturn, 1, 0, 0, 0) := by decide +kernel
theorem i_123_0 : a_ins 123 0 = some (.aload_n 0, 1, 0, 0, 0) := by decide +kernel
theorem i_123_1 : a_ins 123 1 = some (.bipush (32), 2, 0, 0, 32) := by decide +kernel
theorem i_123_3 : a_ins 123 3 = some (.invokevirtual 72, 3, 122, 2, 0) := by decide +kernel
theorem i_123_6 : a_ins 123 6 = some (.ifCond .ne (5), 3, 11, 0, 0) := by decide +kernel
theorem i_123_9 : a_ins 123 9 = some (.iconst (0), 1, 0, 0, 0) := by decide +kernel
theorem i_123_10 : a_ins 123 10 = some (.ireturn, 1, 0, 0, 0) := by decide +kernel
theorem i_123_11 : a_ins 123 11 = some (.aload_n 0, 1, 0, 0, 0) := by decide +kernel
theorem i_123_12 : a_ins 123 12 = some (.invokevirtual 53, 3, 111, 1, 0) := by decide +kernel
theorem i_123_15 : a_ins 123 15 = some (.istore_n 1, 1, 0, 0, 0) := by decide +kernel
theorem i_123_16 : a_ins 123 16 = some (.aload_n 0, 1, 0, 0, 0) := by decide +kernel
theorem i_123_17 : a_ins 123 17 = some (.ldc 91, 2, 1, 10, 0) := by decide +kernel
theorem i_123_19 : a_ins 123 19 = some (.aload_n 0, 1, 0, 0, 0) := by decide +kernel
theorem i_123_20 : a_ins 123 20 = some (.getfield 38, 3, 4, 9, 0) := by decide +kernel
theorem i_123_23 : a_ins 123 23 = some (.iload_n 1, 1, 0, 0, 0) := by decide +kernel
theorem i_123_24 : a_ins 123 24 = some (.invokevirtual 93, 3, 116, 4, 0) := by decide +kernel
theorem i_123_27 : a_ins 123 27 = some (.ifCond .eq (16), 3, 43, 0, 0) := by decide +kernel
theorem i_123_30 : a_ins 123 30 = some (.aload_n 0, 1, 0, 0, 0) := by decide +kernel
theorem i_123_31 : a_ins 123 31 = some (.getfield 18, 3, 4, 2, 0) := by decide +kernel
theorem i_123_34 : a_ins 123 34 = some (.aload_n 0, 1, 0, 0, 0) := by decide +kernel
theorem i_123_35 : a_ins 123 35 = some (.getfield 41, 3, 4, 3, 0) := by decide +kernel
theorem i_123_38 : a_ins 123 38 = some (.iconst (1), 1, 0, 0, 1) := by decide +kernel
theorem i_123_39 : a_ins 123 39 = some (.iastore, 1, 0, 0, 0) := by decide +kernel
theorem i_123_40 : a_ins 123 40 = some (.goto (36), 3, 76, 0, 0) := by decide +kernel
theorem i_123_43 : a_ins 123 43 = some (.aload_n 0, 1, 0, 0, 0) := by decide +kernel
theorem i_123_44 : a_ins 123 44 = some (.ldc 97, 2, 1, 11, 0) := by decide +kernel
theorem i_123_46 : a_ins 123 46 = some (.aload_n 0, 1, 0, 0, 0) := by decide +kernel
theorem i_123_47 : a_ins 123 47 = some (.getfield 38, 3, 4, 9, 0) := by decide +kernel
theorem i_123_50 : a_ins 123 50 = some (.iload_n 1, 1, 0, 0, 0) := by decide +kernel
theorem i_123_51 : a_ins 123 51 = some (.invokevirtual 93, 3, 116, 4, 0) := by decide +kernel
theorem i_123_54 : a_ins 123 54 = some (.ifCond .eq (16), 3, 70, 0, 0) := by decide +kernel
theorem i_123_57 : a_ins 123 57 = some (.aload_n 0, 1, 0, 0, 0) := by decide +kernel
theorem i_123_58 : a_ins 123 58 = some (.getfield 18, 3, 4, 2, 0) := by decide +kernel
theorem i_123_61 : a_ins 123 61 = some (.aload_n 0, 1, 0, 0, 0) := by decide +kernel
theorem i_123_62 : a_ins 123 62 = some (.getfield 41, 3, 4, 3, 0) := by decide +kernel
theorem i_123_65 : a_ins 123 65 = some (.iconst (0), 1, 0, 0, 0) := by decide +kernel
theorem i_123_66 : a_ins 123 66 = some (.iastore, 1, 0, 0, 0) := by decide +kernel
theorem i_123_67 : a_ins 123 67 = some (.goto (9), 3, 76, 0, 0) := by decide +kernel
theorem i_123_70 : a_ins 123 70 = some (.aload_n 0, 1, 0, 0, 0) := by decide +kernel
theorem i_123_71 : a_ins 123 71 = some (.invokevirtual 57, 3, 112, 1, 0) := by decide +kernel
theorem i_123_74 : a_ins 123 74 = some (.iconst (0), 1, 0, 0, 0) := by decide +kernel
theorem i_123_75 : a_ins 123 75 = some (.ireturn, 1, 0, 0, 0) := by decide +kernel
theorem i_123_76 : a_ins 123 76 = some (.aload_n 0, 1, 0, 0, 0) := by decide +kernel
theorem i_123_77 : a_ins 123 77 = some (.iload_n 1, 1, 0, 0, 0) := by decide +kernel
theorem i_123_78 : a_ins 123 78 = some (.putfield 38, 3, 4, 9, 0) := by decide +kernel
theorem i_123_81 : a_ins 123 81 = some (.iconst (1), 1, 0, 0, 1) := by decide +kernel
theorem i_123_82 : a_ins 123 82 = some (.ireturn, 1, 0, 0, 0) := by decide +kernel
theorem i_124_0 : a_ins 124 0 = some (.aload_n 0, 1, 0, 0, 0) := by decide +kernel
theorem i_124_1 : a_ins 124 1 = some (.invokespecial 3, 3, 1000, 1, 0) := by decide +kernel
theorem i_124_4 : a_ins 124 4 = some (.return_, 1, 0, 0, 0) := by decide +kernel
theorem i_125_0 : a_ins 125 0 = some (.iload_n 1, 1, 0, 0, 0) := by decide +kernel
theorem i_125_1 : a_ins 125 1 = some (.iconst (1), 1, 0, 0, 1) := by decide +kernel
theorem i_125_2 : a_ins 125 2 = some (.if_icmp .ge (7), 3, 9, 0, 0) := by decide +kernel
theorem i_125_5 : a_ins 125 5 = some (.iconst (0), 1, 0, 0, 0) := by decide +kernel
theorem i_125_6 : a_ins 125 6 = some (.goto (9), 3, 15, 0, 0) := by decide +kernel
theorem i_125_9 : a_ins 125 9 = some (.aload_n 0, 1, 0, 0, 0) := by decide +kernel
theorem i_125_10 : a_ins 125 10 = some (.getfield 9, 3, 5, 0, 0) := by decide +kernel
theorem i_125_13 : a_ins 125 13 = some (.iload_n 1, 1, 0, 0, 0) := by decide +kernel
theorem i_125_14 : a_ins 125 14 = some (.irem, 1, 0, 0, 0) := by decide +kernel
theorem i_125_15 : a_ins 125 15 = some (.istore_n 2, 1, 0, 0, 0) := by decide +kernel
theorem i_125_16 : a_ins 125 16 = some (.aload_n 0, 1, 0, 0, 0) := by decide +kernel
theorem i_125_17 : a_ins 125 17 = some (.sipush (709), 3, 0, 0, 709) := by decide +kernel
theorem i_125_20 : a_ins 125 20 = some (.aload_n 0, 1, 0, 0, 0) := by decide +kernel
theorem i_125_21 : a_ins 125 21 = some (.getfield 9, 3, 5, 0, 0) := by decide +kernel
theorem i_125_24 : a_ins 125 24 = some (.imul, 1, 0, 0, 0) := by decide +kernel
theorem i_125_25 : a_ins 125 25 = some (.sipush (4177), 3, 0, 0, 4177) := by decide +kernel
theorem i_125_28 : a_ins 125 28 = some (.iadd, 1, 0, 0, 0) := by decide +kernel
theorem i_125_29 : a_ins 125 29 = some (.sipush (30011), 3, 0, 0, 30011) := by decide +kernel
theorem i_125_32 : a_ins 125 32 = some (.irem, 1, 0, 0, 0) := by decide +kernel
theorem i_125_33 : a_ins 125 33 = some (.putfield 9, 3, 5, 0, 0) := by decide +kernel
theorem i_125_36 : a_ins 125 36 = some (.iload_n 2, 1, 0, 0, 0) := by decide +kernel
theorem i_125_37 : a_ins 125 37 = some (.ireturn, 1, 0, 0, 0) := by decide +kernel
theorem i_126_0 : a_ins 126 0 = some (.aload_n 0, 1, 0, 0, 0) := by decide +kernel
theorem i_126_1 : a_ins 126 1 = some (.bipush (6), 2, 0, 0, 6) := by decide +kernel
theorem i_126_3 : a_ins 126 3 = some (.invokevirtual 15, 3, 125, 2, 0) := by decide +kernel
theorem i_126_6 : a_ins 126 6 = some (.istore_n 1, 1, 0, 0, 0) := by decide +kernel
theorem i_126_7 : a_ins 126 7 = some (.iload_n 1, 1, 0, 0, 0) := by decide +kernel
theorem i_126_8 : a_ins 126 8 = some (.iconst (5), 1, 0, 0, 5) := by decide +kernel
theorem i_126_9 : a_ins 126 9 = some (.if_icmp .ne (7), 3, 16, 0, 0) := by decide +kernel
theorem i_126_12 : a_ins 126 12 = some (.iconst (-1), 1, 0, 0, -1) := by decide +kernel
theorem i_126_13 : a_ins 126 13 = some (.goto (4), 3, 17, 0, 0) := by decide +kernel
theorem i_126_16 : a_ins 126 16 = some (.iload_n 1, 1, 0, 0, 0) := by decide +kernel
theorem i_126_17 : a_ins 126 17 = some (.ireturn, 1, 0, 0, 0) := by decide +kernel
theorem i_127_0 : a_ins 127 0 = some (.aload_n 0, 1, 0, 0, 0) := by decide +kernel
theorem i_127_1 : a_ins 127 1 = some (.invokespecial 3, 3, 1000, 1, 0) := by decide +kernel
theorem i_127_4 : a_ins 127 4 = some (.aload_n 0, 1, 0, 0, 0) := by decide +kernel
theorem i_127_5 : a_ins 127 5 = some (.new 9, 3, 7, 0, 0) := by decide +kernel
theorem i_127_8 : a_ins 127 8 = some (.dup, 1, 0, 0, 0) := by decide +kernel
theorem i_127_9 : a_ins 127 9 = some (.invokespecial 11, 3, 138, 1, 0) := by decide +kernel
theorem i_127_12 : a_ins 127 12 = some (.putfield 12, 3, 6, 8, 0) := by decide +kernel
theorem i_127_15 : a_ins 127 15 = some (.aload_n 0, 1, 0, 0, 0) := by decide +kernel
theorem i_127_16 : a_ins 127 16 = some (.new 9, 3, 7, 0, 0) := by decide +kernel
theorem i_127_19 : a_ins 127 19 = some (.dup, 1, 0, 0, 0) := by decide +kernel
theorem i_127_20 : a_ins 127 20 = some (.invokespecial 11, 3, 138, 1, 0) := by decide +kernel
theorem i_127_23 : a_ins 127 23 = some (.putfield 18, 3, 6, 9, 0) := by decide +kernel
theorem i_127_26 : a_ins 127 26 = some (.aload_n 0, 1, 0, 0, 0) := by decide +kernel
theorem i_127_27 : a_ins 127 27 = some (.aload_n 0, 1, 0, 0, 0) := by decide +kernel
theorem i_127_28 : a_ins 127 28 = some (.getfield 12, 3, 6, 8, 0) := by decide +kernel
theorem i_127_31 : a_ins 127 31 = some (.putfield 21, 3, 6, 10, 0) := by decide +kernel
theorem i_127_34 : a_ins 127 34 = some (.aload_n 0, 1, 0, 0, 0) := by decide +kernel
theorem i_127_35 : a_ins 127 35 = some (.new 24, 3, 1, 0, 0) := by decide +kernel
theorem i_127_38 : a_ins 127 38 = some (.dup, 1, 0, 0, 0) := by decide +kernel
theorem i_127_39 : a_ins 127 39 = some (.invokespecial 26, 3, 45, 1, 0) := by decide +kernel
theorem i_127_42 : a_ins 127 42 = some (.putfield 27, 3, 6, 0, 0) := by decide +kernel
theorem i_127_45 : a_ins 127 45 = some (.aload_n 0, 1, 0, 0, 0) := by decide +kernel
theorem i_127_46 : a_ins 127 46 = some (.sipush (864), 3, 0, 0, 864) := by decide +kernel
theorem i_127_49 : a_ins 127 49 = some (.newarray .int, 2, 0, 0, 0) := by decide +kernel
theorem i_127_51 : a_ins 127 51 = some (.putfield 31, 3, 6, 1, 0) := by decide +kernel
theorem i_127_54 : a_ins 127 54 = some (.aload_n 0, 1, 0, 0, 0) := by decide +kernel
theorem i_127_55 : a_ins 127 55 = some (.sipush (4096), 3, 0, 0, 4096) := by decide +kernel
theorem i_127_58 : a_ins 127 58 = some (.newarray .int, 2, 0, 0, 0) := by decide +kernel
theorem i_127_60 : a_ins 127 60 = some (.putfield 35, 3, 6, 2, 0) := by decide +kernel
theorem i_127_63 : a_ins 127 63 = some (.aload_n 0, 1, 0, 0, 0) := by decide +kernel
theorem i_127_64 : a_ins 127 64 = some (.sipush (4096), 3, 0, 0, 4096) := by decide +kernel
theorem i_127_67 : a_ins 127 67 = some (.newarray .int, 2, 0, 0, 0) := by decide +kernel
theorem i_127_69 : a_ins 127 69 = some (.putfield 38, 3, 6, 3, 0) := by decide +kernel
theorem i_127_72 : a_ins 127 72 = some (.aload_n 0, 1, 0, 0, 0) := by decide +kernel
theorem i_127_73 : a_ins 127 73 = some (.sipush (4096), 3, 0, 0, 4096) := by decide +kernel
theorem i_127_76 : a_ins 127 76 = some (.newarray .int, 2, 0, 0, 0) := by decide +kernel
theorem i_127_78 : a_ins 127 78 = some (.putfield 41, 3, 6, 4, 0) := by decide +kernel
theorem i_127_81 : a_ins 127 81 = some (.aload_n 0, 1, 0, 0, 0) := by decide +kernel
theorem i_127_82 : a_ins 127 82 = some (.sipush (4096), 3, 0, 0, 4096) := by decide +kernel
theorem i_127_85 : a_ins 127 85 = some (.newarray .int, 2, 0, 0, 0) := by decide +kernel
theorem i_127_87 : a_ins 127 87 = some (.putfield 44, 3, 6, 5, 0) := by decide +kernel
theorem i_127_90 : a_ins 127 90 = some (.return_, 1, 0, 0, 0) := by decide +kernel
theorem i_128_0 : a_ins 128 0 = some (.aload_n 0, 1, 0, 0, 0) := by decide +kernel
theorem i_128_1 : a_ins 128 1 = some (.getfield 31, 3, 6, 1, 0) := by decide +kernel
theorem i_128_4 : a_ins 128 4 = some (.iconst (0), 1, 0, 0, 0) := by decide +kernel
theorem i_128_5 : a_ins 128 5 = some (.invokestatic 47, 3, 263, 2, 0) := by decide +kernel
theorem i_128_8 : a_ins 128 8 = some (.aload_n 0, 1, 0, 0, 0) := by decide +kernel
theorem i_128_9 : a_ins 128 9 = some (.iconst (0), 1, 0, 0, 0) := by decide +kernel
theorem i_128_10 : a_ins 128 10 = some (.putfield 53, 3, 6, 6, 0) := by decide +kernel
theorem i_128_13 : a_ins 128 13 = some (.aload_n 0, 1, 0, 0, 0) := by decide +kernel
theorem i_128_14 : a_ins 128 14 = some (.iconst (-1), 1, 0, 0, -1) := by decide +kernel
theorem i_128_15 : a_ins 128 15 = some (.putfield 57, 3, 6, 7, 0) := by decide +kernel
theorem i_128_18 : a_ins 128 18 = some (.aload_n 0, 1, 0, 0, 0) := by decide +kernel
theorem i_128_19 : a_ins 128 19 = some (.aload_n 2, 1, 0, 0, 0) := by decide +kernel
theorem i_128_20 : a_ins 128 20 = some (.putfield 21, 3, 6, 10, 0) := by decide +kernel
theorem i_128_23 : a_ins 128 23 = some (.aload_n 0, 1, 0, 0, 0) := by decide +kernel
theorem i_128_24 : a_ins 128 24 = some (.getfield 21, 3, 6, 10, 0) := by decide +kernel
theorem i_128_27 : a_ins 128 27 = some (.invokevirtual 60, 3, 139, 1, 0) := by decide +kernel
theorem i_128_30 : a_ins 128 30 = some (.aload_n 0, 1, 0, 0, 0) := by decide +kernel
theorem i_128_31 : a_ins 128 31 = some (.getfield 27, 3, 6, 0, 0) := by decide +kernel
theorem i_128_34 : a_ins 128 34 = some (.aload_n 1, 1, 0, 0, 0) := by decide +kernel
theorem i_128_35 : a_ins 128 35 = some (.getfield 63, 3, 1, 0, 0) := by decide +kernel
theorem i_128_38 : a_ins 128 38 = some (.aload_n 1, 1, 0, 0, 0) := by decide +kernel
theorem i_128_39 : a_ins 128 39 = some (.getfield 66, 3, 1, 1, 0) := by decide +kernel
theorem i_128_42 : a_ins 128 42 = some (.invokevirtual 69, 3, 46, 3, 0) := by decide +kernel
theorem i_128_45 : a_ins 128 45 = some (.aload_n 0, 1, 0, 0, 0) := by decide +kernel
theorem i_128_46 : a_ins 128 46 = some (.getfield 27, 3, 6, 0, 0) := by decide +kernel
theorem i_128_49 : a_ins 128 49 = some (.aload_n 1, 1, 0, 0, 0) := by decide +kernel
theorem i_128_50 : a_ins 128 50 = some (.invokevirtual 73, 3, 51, 2, 0) := by decide +kernel
theorem i_128_53 : a_ins 128 53 = some (.aload_n 0, 1, 0, 0, 0) := by decide +kernel
theorem i_128_54 : a_ins 128 54 = some (.iconst (0), 1, 0, 0, 0) := by decide +kernel
theorem i_128_55 : a_ins 128 55 = some (.invokevirtual 77, 3, 129, 2, 0) := by decide +kernel
theorem i_128_58 : a_ins 128 58 = some (.return_, 1, 0, 0, 0) := by decide +kernel
theorem i_129_0 : a_ins 129 0 = some (.aload_n 0, 1, 0, 0, 0) := by decide +kernel
theorem i_129_1 : a_ins 129 1 = some (.getfield 27, 3, 6, 0, 0) := by decide +kernel
theorem i_129_4 : a_ins 129 4 = some (.invokevirtual 122, 3, 93, 1, 0) := by decide +kernel
theorem i_129_7 : a_ins 129 7 = some (.istore_n 2, 1, 0, 0, 0) := by decide +kernel
theorem i_129_8 : a_ins 129 8 = some (.iload_n 2, 1, 0, 0, 0) := by decide +kernel
theorem i_129_9 : a_ins 129 9 = some (.ifCond .lt (20), 3, 29, 0, 0) := by decide +kernel
theorem i_129_12 : a_ins 129 12 = some (.iload_n 2, 1, 0, 0, 0) := by decide +kernel
theorem i_129_13 : a_ins 129 13 = some (.sipush (27648), 3, 0, 0, 27648) := by decide +kernel
theorem i_129_16 : a_ins 129 16 = some (.if_icmp .ge (13), 3, 29, 0, 0) := by decide +kernel
theorem i_129_19 : a_ins 129 19 = some (.aload_n 0, 1, 0, 0, 0) := by decide +kernel
theorem i_129_20 : a_ins 129 20 = some (.getfield 53, 3, 6, 6, 0) := by decide +kernel
theorem i_129_23 : a_ins 129 23 = some (.sipush (4096), 3, 0, 0, 4096) := by decide +kernel
theorem i_129_26 : a_ins 129 26 = some (.if_icmp .lt (4), 3, 30, 0, 0) := by decide +kernel
theorem i_129_29 : a_ins 129 29 = some (.return_, 1, 0, 0, 0) := by decide +kernel
theorem i_129_30 : a_ins 129 30 = some (.iconst (1), 1, 0, 0, 1) := by decide +kernel
theorem i_129_31 : a_ins 129 31 = some (.iload_n 2, 1, 0, 0, 0) := by decide +kernel
theorem i_129_32 : a_ins 129 32 = some (.bipush (32), 2, 0, 0, 32) := by decide +kernel
theorem i_129_34 : a_ins 129 34 = some (.irem, 1, 0, 0, 0) := by decide +kernel
theorem i_129_35 : a_ins 129 35 = some (.ishl, 1, 0, 0, 0) := by decide +kernel
theorem i_129_36 : a_ins 129 36 = some (.istore_n 3, 1, 0, 0, 0) := by decide +kernel
theorem i_129_37 : a_ins 129 37 = some (.aload_n 0, 1, 0, 0, 0) := by decide +kernel
theorem i_129_38 : a_ins 129 38 = some (.getfield 31, 3, 6, 1, 0) := by decide +kernel
theorem i_129_41 : a_ins 129 41 = some (.iload_n 2, 1, 0, 0, 0) := by decide +kernel
theorem i_129_42 : a_ins 129 42 = some (.bipush (32), 2, 0, 0, 32) := by decide +kernel
theorem i_129_44 : a_ins 129 44 = some (.idiv, 1, 0, 0, 0) := by decide +kernel
theorem i_129_45 : a_ins 129 45 = some (.iaload, 1, 0, 0, 0) := by decide +kernel
theorem i_129_46 : a_ins 129 46 = some (.iload_n 3, 1, 0, 0, 0) := by decide +kernel
theorem i_129_47 : a_ins 129 47 = some (.iand, 1, 0, 0, 0) := by decide +kernel
theorem i_129_48 : a_ins 129 48 = some (.ifCond .eq (4), 3, 52, 0, 0) := by decide +kernel
theorem i_129_51 : a_ins 129 51 = some (.return_, 1, 0, 0, 0) := by decide +kernel
theorem i_129_52 : a_ins 129 52 = some (.aload_n 0, 1, 0, 0, 0) := by decide +kernel
theorem i_129_53 : a_ins 129 53 = some (.getfield 31, 3, 6, 1, 0) := by decide +kernel
theorem i_129_56 : a_ins 129 56 = some (.iload_n 2, 1, 0, 0, 0) := by decide +kernel
theorem i_129_57 : a_ins 129 57 = some (.bipush (32), 2, 0, 0, 32) := by decide +kernel
theorem i_129_59 : a_ins 129 59 = some (.idiv, 1, 0, 0, 0) := by decide +kernel
theorem i_129_60 : a_ins 129 60 = some (.dup2, 1, 0, 0, 0) := by decide +kernel
theorem i_129_61 : a_ins 129 61 = some (.iaload, 1, 0, 0, 0) := by decide +kernel
theorem i_129_62 : a_ins 129 62 = some (.iload_n 3, 1, 0, 0, 0) := by decide +kernel
theorem i_129_63 : a_ins 129 63 = some (.ior, 1, 0, 0, 0) := by decide +kernel
theorem i_129_64 : a_ins 129 64 = some (.iastore, 1, 0, 0, 0) := by decide +kernel
theorem i_129_65 : a_ins 129 65 = some (.aload_n 0, 1, 0, 0, 0) := by decide +kernel
theorem i_129_66 : a_ins 129 66 = some (.getfield 35, 3, 6, 2, 0) := by decide +kernel
theorem i_129_69 : a_ins 129 69 = some (.aload_n 0, 1, 0, 0, 0) := by decide +kernel
theorem i_129_70 : a_ins 129 70 = some (.getfield 53, 3, 6, 6, 0) := by decide +kernel
theorem i_129_73 : a_ins 129 73 = some (.iload_n 2, 1, 0, 0, 0) := by decide +kernel
theorem i_129_74 : a_ins 129 74 = some (.iastore, 1, 0, 0, 0) := by decide +kernel
theorem i_129_75 : a_ins 129 75 = some (.aload_n 0, 1, 0, 0, 0) := by decide +kernel
theorem i_129_76 : a_ins 129 76 = some (.getfield 38, 3, 6, 3, 0) := by decide +kernel
theorem i_129_79 : a_ins 129 79 = some (.aload_n 0, 1, 0, 0, 0) := by decide +kernel
theorem i_129_80 : a_ins 129 80 = some (.getfield 53, 3, 6, 6, 0) := by decide +kernel
theorem i_129_83 : a_ins 129 83 = some (.aload_n 0, 1, 0, 0, 0) := by decide +kernel
theorem i_129_84 : a_ins 129 84 = some (.getfield 57, 3, 6, 7, 0) := by decide +kernel
theorem i_129_87 : a_ins 129 87 = some (.iastore, 1, 0, 0, 0) := by decide +kernel
theorem i_129_88 : a_ins 129 88 = some (.aload_n 0, 1, 0, 0, 0) := by decide +kernel
theorem i_129_89 : a_ins 129 89 = some (.getfield 41, 3, 6, 4, 0) := by decide +kernel
theorem i_129_92 : a_ins 129 92 = some (.aload_n 0, 1, 0, 0, 0) := by decide +kernel
theorem i_129_93 : a_ins 129 93 = some (.getfield 53, 3, 6, 6, 0) := by decide +kernel
theorem i_129_96 : a_ins 129 96 = some (.iload_n 1, 1, 0, 0, 0) := by decide +kernel
theorem i_129_97 : a_ins 129 97 = some (.iastore, 1, 0, 0, 0) := by decide +kernel
theorem i_129_98 : a_ins 129 98 = some (.aload_n 0, 1, 0, 0, 0) := by decide +kernel
theorem i_129_99 : a_ins 129 99 = some (.getfield 44, 3, 6, 5, 0) := by decide +kernel
theorem i_129_102 : a_ins 129 102 = some (.aload_n 0, 1, 0, 0, 0) := by decide +kernel
theorem i_129_103 : a_ins 129 103 = some (.getfield 53, 3, 6, 6, 0) := by decide +kernel
theorem i_129_106 : a_ins 129 106 = some (.aload_n 0, 1, 0, 0, 0) := by decide +kernel
theorem i_129_107 : a_ins 129 107 = some (.getfield 57, 3, 6, 7, 0) := by decide +kernel
theorem i_129_110 : a_ins 129 110 = some (.iconst (-1), 1, 0, 0, -1) := by decide +kernel
theorem i_129_111 : a_ins 129 111 = some (.if_icmp .ne (7), 3, 118, 0, 0) := by decide +kernel
theorem i_129_114 : a_ins 129 114 = some (.iconst (0), 1, 0, 0, 0) := by decide +kernel
theorem i_129_115 : a_ins 129 115 = some (.goto (14), 3, 129, 0, 0) := by decide +kernel
theorem i_129_118 : a_ins 129 118 = some (.aload_n 0, 1, 0, 0, 0) := by decide +kernel
theorem i_129_119 : a_ins 129 119 = some (.getfield 44, 3, 6, 5, 0) := by decide +kernel
theorem i_129_122 : a_ins 129 122 = some (.aload_n 0, 1, 0, 0, 0) := by decide +kernel
theorem i_129_123 : a_ins 129 123 = some (.getfield 57, 3, 6, 7, 0) := by decide +kernel
theorem i_129_126 : a_ins 129 126 = some (.iaload, 1, 0, 0, 0) := by decide +kernel
theorem i_129_127 : a_ins 129 127 = some (.iconst (1), 1, 0, 0, 1) := by decide +kernel
theorem i_129_128 : a_ins 129 128 = some (.iadd, 1, 0, 0, 0) := by decide +kernel
theorem i_129_129 : a_ins 129 129 = some (.iastore, 1, 0, 0, 0) := by decide +kernel
theorem i_129_130 : a_ins 129 130 = some (.aload_n 0, 1, 0, 0, 0) := by decide +kernel
theorem i_129_131 : a_ins 129 131 = some (.dup, 1, 0, 0, 0) := by decide +kernel
theorem i_129_132 : a_ins 129 132 = some (.getfield 53, 3, 6, 6, 0) := by decide +kernel
theorem i_129_135 : a_ins 129 135 = some (.iconst (1), 1, 0, 0, 1) := by decide +kernel
theorem i_129_136 : a_ins 129 136 = some (.iadd, 1, 0, 0, 0) := by decide +kernel
theorem i_129_137 : a_ins 129 137 = some (.putfield 53, 3, 6, 6, 0) := by decide +kernel
theorem i_129_140 : a_ins 129 140 = some (.iload_n 2, 1, 0, 0, 0) := by decide +kernel
theorem i_129_141 : a_ins 129 141 = some (.bipush (16), 2, 0, 0, 16) := by decide +kernel
theorem i_129_143 : a_ins 129 143 = some (.idiv, 1, 0, 0, 0) := by decide +kernel
theorem i_129_144 : a_ins 129 144 = some (.istore 4, 2, 0, 0, 0) := by decide +kernel
theorem i_129_146 : a_ins 129 146 = some (.aload_n 0, 1, 0, 0, 0) := by decide +kernel
theorem i_129_147 : a_ins 129 147 = some (.getfield 21, 3, 6, 10, 0) := by decide +kernel
theorem i_129_150 : a_ins 129 150 = some (.getfield 125, 3, 7, 1, 0) := by decide +kernel
theorem i_129_153 : a_ins 129 153 = some (.iload 4, 2, 0, 0, 0) := by decide +kernel
theorem i_129_155 : a_ins 129 155 = some (.iaload, 1, 0, 0, 0) := by decide +kernel
theorem i_129_156 : a_ins 129 156 = some (.iconst (-1), 1, 0, 0, -1) := by decide +kernel
theorem i_129_157 : a_ins 129 157 = some (.if_icmp .ne (27), 3, 184, 0, 0) := by decide +kernel
theorem i_129_160 : a_ins 129 160 = some (.aload_n 0, 1, 0, 0, 0) := by decide +kernel
theorem i_129_161 : a_ins 129 161 = some (.getfield 21, 3, 6, 10, 0) := by decide +kernel
theorem i_129_164 : a_ins 129 164 = some (.aload_n 0, 1, 0, 0, 0) := by decide +kernel
theorem i_129_165 : a_ins 129 165 = some (.getfield 27, 3, 6, 0, 0) := by decide +kernel
theorem i_129_168 : a_ins 129 168 = some (.iload 4, 2, 0, 0, 0) := by decide +kernel
theorem i_129_170 : a_ins 129 170 = some (.aload_n 0, 1, 0, 0, 0) := by decide +kernel
theorem i_129_171 : a_ins 129 171 = some (.getfield 44, 3, 6, 5, 0) := by decide +kernel
theorem i_129_174 : a_ins 129 174 = some (.aload_n 0, 1, 0, 0, 0) := by decide +kernel
theorem i_129_175 : a_ins 129 175 = some (.getfield 53, 3, 6, 6, 0) := by decide +kernel
theorem i_129_178 : a_ins 129 178 = some (.iconst (1), 1, 0, 0, 1) := by decide +kernel
theorem i_129_179 : a_ins 129 179 = some (.isub, 1, 0, 0, 0) := by decide +kernel
theorem i_129_180 : a_ins 129 180 = some (.iaload, 1, 0, 0, 0) := by decide +kernel
theorem i_129_181 : a_ins 129 181 = some (.invokevirtual 128, 3, 140, 4, 0) := by decide +kernel
theorem i_129_184 : a_ins 129 184 = some (.aload_n 0, 1, 0, 0, 0) := by decide +kernel
theorem i_129_185 : a_ins 129 185 = some (.getfield 21, 3, 6, 10, 0) := by decide +kernel
theorem i_129_188 : a_ins 129 188 = some (.getfield 132, 3, 7, 4, 0) := by decide +kernel
theorem i_129_191 : a_ins 129 191 = some (.iconst (-1), 1, 0, 0, -1) := by decide +kernel
theorem i_129_192 : a_ins 129 192 = some (.if_icmp .ne (21), 3, 213, 0, 0) := by decide +kernel
theorem i_129_195 : a_ins 129 195 = some (.aload_n 0, 1, 0, 0, 0) := by decide +kernel
theorem i_129_196 : a_ins 129 196 = some (.getfield 21, 3, 6, 10, 0) := by decide +kernel
theorem i_129_199 : a_ins 129 199 = some (.aload_n 0, 1, 0, 0, 0) := by decide +kernel
theorem i_129_200 : a_ins 129 200 = some (.getfield 27, 3, 6, 0, 0) := by decide +kernel
theorem i_129_203 : a_ins 129 203 = some (.invokevirtual 135, 3, 141, 2, 0) := by decide +kernel
theorem i_129_206 : a_ins 129 206 = some (.ifCond .eq (7), 3, 213, 0, 0) := by decide +kernel
theorem i_129_209 : a_ins 129 209 = some (.aload_n 0, 1, 0, 0, 0) := by decide +kernel
theorem i_129_210 : a_ins 129 210 = some (.invokevirtual 139, 3, 130, 1, 0) := by decide +kernel
theorem i_129_213 : a_ins 129 213 = some (.return_, 1, 0, 0, 0) := by decide +kernel
theorem i_130_0 : a_ins 130 0 = some (.aload_n 0, 1, 0, 0, 0) := by decide +kernel
theorem i_130_1 : a_ins 130 1 = some (.getfield 53, 3, 6, 6, 0) := by decide +kernel
theorem i_130_4 : a_ins 130 4 = some (.iconst (1), 1, 0, 0, 1) := by decide +kernel
theorem i_130_5 : a_ins 130 5 = some (.isub, 1, 0, 0, 0) := by decide +kernel
theorem i_130_6 : a_ins 130 6 = some (.istore_n 1, 1, 0, 0, 0) := by decide +kernel
theorem i_130_7 : a_ins 130 7 = some (.aload_n 0, 1, 0, 0, 0) := by decide +kernel
theorem i_130_8 : a_ins 130 8 = some (.getfield 44, 3, 6, 5, 0) := by decide +kernel
theorem i_130_11 : a_ins 130 11 = some (.iload_n 1, 1, 0, 0, 0) := by decide +kernel
theorem i_130_12 : a_ins 130 12 = some (.iaload, 1, 0, 0, 0) := by decide +kernel
theorem i_130_13 : a_ins 130 13 = some (.bipush (64), 2, 0, 0, 64) := by decide +kernel
theorem i_130_15 : a_ins 130 15 = some (.invokestatic 117, 3, 264, 2, 0) := by decide +kernel
theorem i_130_18 : a_ins 130 18 = some (.istore_n 2, 1, 0, 0, 0) := by decide +kernel
theorem i_130_19 : a_ins 130 19 = some (.aload_n 0, 1, 0, 0, 0) := by decide +kernel
theorem i_130_20 : a_ins 130 20 = some (.getfield 21, 3, 6, 10, 0) := by decide +kernel
theorem i_130_23 : a_ins 130 23 = some (.iload_n 2, 1, 0, 0, 0) := by decide +kernel
theorem i_130_24 : a_ins 130 24 = some (.putfield 132, 3, 7, 4, 0) := by decide +kernel
theorem i_130_27 : a_ins 130 27 = some (.iload_n 2, 1, 0, 0, 0) := by decide +kernel
theorem i_130_28 : a_ins 130 28 = some (.iconst (1), 1, 0, 0, 1) := by decide +kernel
theorem i_130_29 : a_ins 130 29 = some (.isub, 1, 0, 0, 0) := by decide +kernel
theorem i_130_30 : a_ins 130 30 = some (.istore_n 3, 1, 0, 0, 0) := by decide +kernel
theorem i_130_31 : a_ins 130 31 = some (.iload_n 3, 1, 0, 0, 0) := by decide +kernel
theorem i_130_32 : a_ins 130 32 = some (.ifCond .lt (35), 3, 67, 0, 0) := by decide +kernel
theorem i_130_35 : a_ins 130 35 = some (.iload_n 1, 1, 0, 0, 0) := by decide +kernel
theorem i_130_36 : a_ins 130 36 = some (.ifCond .lt (31), 3, 67, 0, 0) := by decide +kernel
theorem i_130_39 : a_ins 130 39 = some (.aload_n 0, 1, 0, 0, 0) := by decide +kernel
theorem i_130_40 : a_ins 130 40 = some (.getfield 21, 3, 6, 10, 0) := by decide +kernel
theorem i_130_43 : a_ins 130 43 = some (.getfield 142, 3, 7, 3, 0) := by decide +kernel
theorem i_130_46 : a_ins 130 46 = some (.iload_n 3, 1, 0, 0, 0) := by decide +kernel
theorem i_130_47 : a_ins 130 47 = some (.aload_n 0, 1, 0, 0, 0) := by decide +kernel
theorem i_130_48 : a_ins 130 48 = some (.getfield 41, 3, 6, 4, 0) := by decide +kernel
theorem i_130_51 : a_ins 130 51 = some (.iload_n 1, 1, 0, 0, 0) := by decide +kernel
theorem i_130_52 : a_ins 130 52 = some (.iaload, 1, 0, 0, 0) := by decide +kernel
theorem i_130_53 : a_ins 130 53 = some (.iastore, 1, 0, 0, 0) := by decide +kernel
theorem i_130_54 : a_ins 130 54 = some (.aload_n 0, 1, 0, 0, 0) := by decide +kernel
theorem i_130_55 : a_ins 130 55 = some (.getfield 38, 3, 6, 3, 0) := by decide +kernel
theorem i_130_58 : a_ins 130 58 = some (.iload_n 1, 1, 0, 0, 0) := by decide +kernel
theorem i_130_59 : a_ins 130 59 = some (.iaload, 1, 0, 0, 0) := by decide +kernel
theorem i_130_60 : a_ins 130 60 = some (.istore_n 1, 1, 0, 0, 0) := by decide +kernel
theorem i_130_61 : a_ins 130 61 = some (.iinc 3 (-1), 3, 0, 0, -1) := by decide +kernel
theorem i_130_64 : a_ins 130 64 = some (.goto (-33), 3, 31, 0, 0) := by decide +kernel
theorem i_130_67 : a_ins 130 67 = some (.return_, 1, 0, 0, 0) := by decide +kernel
theorem i_131_0 : a_ins 131 0 = some (.aload_n 0, 1, 0, 0, 0) := by decide +kernel
theorem i_131_1 : a_ins 131 1 = some (.dup, 1, 0, 0, 0) := by decide +kernel
theorem i_131_2 : a_ins 131 2 = some (.getfield 57, 3, 6, 7, 0) := by decide +kernel
theorem i_131_5 : a_ins 131 5 = some (.iconst (1), 1, 0, 0, 1) := by decide +kernel
theorem i_131_6 : a_ins 131 6 = some (.iadd, 1, 0, 0, 0) := by decide +kernel
theorem i_131_7 : a_ins 131 7 = some (.putfield 57, 3, 6, 7, 0) := by decide +kernel
theorem i_131_10 : a_ins 131 10 = some (.aload_n 0, 1, 0, 0, 0) := by decide +kernel
theorem i_131_11 : a_ins 131 11 = some (.getfield 57, 3, 6, 7, 0) := by decide +kernel
theorem i_131_14 : a_ins 131 14 = some (.aload_n 0, 1, 0, 0, 0) := by decide +kernel
theorem i_131_15 : a_ins 131 15 = some (.getfield 53, 3, 6, 6, 0) := by decide +kernel
theorem i_131_18 : a_ins 131 18 = some (.if_icmp .ge (7), 3, 25, 0, 0) := by decide +kernel
theorem i_131_21 : a_ins 131 21 = some (.iconst (1), 1, 0, 0, 1) := by decide +kernel
theorem i_131_22 : a_ins 131 22 = some (.goto (4), 3, 26, 0, 0) := by decide +kernel
theorem i_131_25 : a_ins 131 25 = some (.iconst (0), 1, 0, 0, 0) := by decide +kernel
theorem i_131_26 : a_ins 131 26 = some (.ireturn, 1, 0, 0, 0) := by decide +kernel
theorem i_132_0 : a_ins 132 0 = some (.aload_n 0, 1, 0, 0, 0) := by decide +kernel
theorem i_132_1 : a_ins 132 1 = some (.getfield 35, 3, 6, 2, 0) := by decide +kernel
theorem i_132_4 : a_ins 132 4 = some (.aload_n 0, 1, 0, 0, 0) := by decide +kernel
theorem i_132_5 : a_ins 132 5 = some (.getfield 57, 3, 6, 7, 0) := by decide +kernel
theorem i_132_8 : a_ins 132 8 = some (.iaload, 1, 0, 0, 0) := by decide +kernel
theorem i_132_9 : a_ins 132 9 = some (.iconst (4), 1, 0, 0, 4) := by decide +kernel
theorem i_132_10 : a_ins 132 10 = some (.irem, 1, 0, 0, 0) := by decide +kernel
theorem i_132_11 : a_ins 132 11 = some (.istore_n 1, 1, 0, 0, 0) := by decide +kernel
theorem i_132_12 : a_ins 132 12 = some (.iload_n 1, 1, 0, 0, 0) := by decide +kernel
theorem i_132_13 : a_ins 132 13 = some (.iconst (3), 1, 0, 0, 3) := by decide +kernel
theorem i_132_14 : a_ins 132 14 = some (.if_icmp .ne (8), 3, 22, 0, 0) := by decide +kernel
theorem i_132_17 : a_ins 132 17 = some (.bipush (-2), 2, 0, 0, -2) := by decide +kernel
theorem i_132_19 : a_ins 132 19 = some (.goto (4), 3, 23, 0, 0) := by decide +kernel
theorem i_132_22 : a_ins 132 22 = some (.iconst (4), 1, 0, 0, 4) := by decide +kernel
theorem i_132_23 : a_ins 132 23 = some (.istore_n 2, 1, 0, 0, 0) := by decide +kernel
theorem i_132_24 : a_ins 132 24 = some (.iconst (-1), 1, 0, 0, -1) := by decide +kernel
theorem i_132_25 : a_ins 132 25 = some (.istore_n 3, 1, 0, 0, 0) := by decide +kernel
theorem i_132_26 : a_ins 132 26 = some (.iload_n 3, 1, 0, 0, 0) := by decide +kernel
theorem i_132_27 : a_ins 132 27 = some (.iload_n 2, 1, 0, 0, 0) := by decide +kernel
theorem i_132_28 : a_ins 132 28 = some (.if_icmp .gt (58), 3, 86, 0, 0) := by decide +kernel
theorem i_132_31 : a_ins 132 31 = some (.aload_n 0, 1, 0, 0, 0) := by decide +kernel
theorem i_132_32 : a_ins 132 32 = some (.getfield 27, 3, 6, 0, 0) := by decide +kernel
theorem i_132_35 : a_ins 132 35 = some (.aload_n 0, 1, 0, 0, 0) := by decide +kernel
theorem i_132_36 : a_ins 132 36 = some (.getfield 35, 3, 6, 2, 0) := by decide +kernel
theorem i_132_39 : a_ins 132 39 = some (.aload_n 0, 1, 0, 0, 0) := by decide +kernel
theorem i_132_40 : a_ins 132 40 = some (.getfield 57, 3, 6, 7, 0) := by decide +kernel
theorem i_132_43 : a_ins 132 43 = some (.iaload, 1, 0, 0, 0) := by decide +kernel
theorem i_132_44 : a_ins 132 44 = some (.invokevirtual 81, 3, 94, 2, 0) := by decide +kernel
theorem i_132_47 : a_ins 132 47 = some (.aload_n 0, 1, 0, 0, 0) := by decide +kernel
theorem i_132_48 : a_ins 132 48 = some (.iload_n 1, 1, 0, 0, 0) := by decide +kernel
theorem i_132_49 : a_ins 132 49 = some (.iload_n 3, 1, 0, 0, 0) := by decide +kernel
theorem i_132_50 : a_ins 132 50 = some (.invokevirtual 84, 3, 133, 3, 0) := by decide +kernel
theorem i_132_53 : a_ins 132 53 = some (.ifCond .ge (6), 3, 59, 0, 0) := by decide +kernel
theorem i_132_56 : a_ins 132 56 = some (.goto (30), 3, 86, 0, 0) := by decide +kernel
theorem i_132_59 : a_ins 132 59 = some (.aload_n 0, 1, 0, 0, 0) := by decide +kernel
theorem i_132_60 : a_ins 132 60 = some (.iload_n 1, 1, 0, 0, 0) := by decide +kernel
theorem i_132_61 : a_ins 132 61 = some (.iconst (1), 1, 0, 0, 1) := by decide +kernel
theorem i_132_62 : a_ins 132 62 = some (.iadd, 1, 0, 0, 0) := by decide +kernel
theorem i_132_63 : a_ins 132 63 = some (.bipush (100), 2, 0, 0, 100) := by decide +kernel
theorem i_132_65 : a_ins 132 65 = some (.imul, 1, 0, 0, 0) := by decide +kernel
theorem i_132_66 : a_ins 132 66 = some (.iload_n 3, 1, 0, 0, 0) := by decide +kernel
theorem i_132_67 : a_ins 132 67 = some (.iadd, 1, 0, 0, 0) := by decide +kernel
theorem i_132_68 : a_ins 132 68 = some (.iconst (1), 1, 0, 0, 1) := by decide +kernel
theorem i_132_69 : a_ins 132 69 = some (.iadd, 1, 0, 0, 0) := by decide +kernel
theorem i_132_70 : a_ins 132 70 = some (.invokevirtual 77, 3, 129, 2, 0) := by decide +kernel
theorem i_132_73 : a_ins 132 73 = some (.aload_n 0, 1, 0, 0, 0) := by decide +kernel
theorem i_132_74 : a_ins 132 74 = some (.iload_n 3, 1, 0, 0, 0) := by decide +kernel
theorem i_132_75 : a_ins 132 75 = some (.iload_n 2, 1, 0, 0, 0) := by decide +kernel
theorem i_132_76 : a_ins 132 76 = some (.invokevirtual 88, 3, 134, 3, 0) := by decide +kernel
theorem i_132_79 : a_ins 132 79 = some (.istore_n 2, 1, 0, 0, 0) := by decide +kernel
theorem i_132_80 : a_ins 132 80 = some (.iinc 3 (1), 3, 0, 0, 1) := by decide +kernel
theorem i_132_83 : a_ins 132 83 = some (.goto (-57), 3, 26, 0, 0) := by decide +kernel
theorem i_132_86 : a_ins 132 86 = some (.return_, 1, 0, 0, 0) := by decide +kernel
theorem i_133_0 : a_ins 133 0 = some (.iload_n 1, 1, 0, 0, 0) := by decide +kernel
theorem i_133_1 : a_ins 133 1 = some (.lookupswitch (45) #[(0, 27), (1, 36)], 27, 0, 0, 0) := by decide +kernel
theorem i_133_28 : a_ins 133 28 = some (.aload_n 0, 1, 0, 0, 0) := by decide +kernel
theorem i_133_29 : a_ins 133 29 = some (.getfield 27, 3, 6, 0, 0) := by decide +kernel
theorem i_133_32 : a_ins 133 32 = some (.iload_n 2, 1, 0, 0, 0) := by decide +kernel
theorem i_133_33 : a_ins 133 33 = some (.invokevirtual 105, 3, 57, 2, 0) := by decide +kernel
theorem i_133_36 : a_ins 133 36 = some (.ireturn, 1, 0, 0, 0) := by decide +kernel
theorem i_133_37 : a_ins 133 37 = some (.aload_n 0, 1, 0, 0, 0) := by decide +kernel
theorem i_133_38 : a_ins 133 38 = some (.getfield 27, 3, 6, 0, 0) := by decide +kernel
theorem i_133_41 : a_ins 133 41 = some (.iload_n 2, 1, 0, 0, 0) := by decide +kernel
theorem i_133_42 : a_ins 133 42 = some (.invokevirtual 108, 3, 64, 2, 0) := by decide +kernel
theorem i_133_45 : a_ins 133 45 = some (.ireturn, 1, 0, 0, 0) := by decide +kernel
theorem i_133_46 : a_ins 133 46 = some (.aload_n 0, 1, 0, 0, 0) := by decide +kernel
theorem i_133_47 : a_ins 133 47 = some (.getfield 27, 3, 6, 0, 0) := by decide +kernel
theorem i_133_50 : a_ins 133 50 = some (.iload_n 2, 1, 0, 0, 0) := by decide +kernel
theorem i_133_51 : a_ins 133 51 = some (.invokevirtual 111, 3, 66, 2, 0) := by decide +kernel
theorem i_133_54 : a_ins 133 54 = some (.ireturn, 1, 0, 0, 0) := by decide +kernel
theorem i_134_0 : a_ins 134 0 = some (.iload_n 1, 1, 0, 0, 0) := by decide +kernel
theorem i_134_1 : a_ins 134 1 = some (.iconst (-1), 1, 0, 0, -1) := by decide +kernel
theorem i_134_2 : a_ins 134 2 = some (.if_icmp .ne (17), 3, 19, 0, 0) := by decide +kernel
theorem i_134_5 : a_ins 134 5 = some (.iload_n 2, 1, 0, 0, 0) := by decide +kernel
theorem i_134_6 : a_ins 134 6 = some (.aload_n 0, 1, 0, 0, 0) := by decide +kernel
theorem i_134_7 : a_ins 134 7 = some (.getfield 27, 3, 6, 0, 0) := by decide +kernel
theorem i_134_10 : a_ins 134 10 = some (.getfield 114, 3, 1, 13, 0) := by decide +kernel
theorem i_134_13 : a_ins 134 13 = some (.invokestatic 117, 3, 264, 2, 0) := by decide +kernel
theorem i_134_16 : a_ins 134 16 = some (.goto (4), 3, 20, 0, 0) := by decide +kernel
theorem i_134_19 : a_ins 134 19 = some (.iload_n 2, 1, 0, 0, 0) := by decide +kernel
theorem i_134_20 : a_ins 134 20 = some (.ireturn, 1, 0, 0, 0) := by decide +kernel
theorem i_135_0 : a_ins 135 0 = some (.iconst (0), 1, 0, 0, 0) := by decide +kernel
theorem i_135_1 : a_ins 135 1 = some (.istore_n 1, 1, 0, 0, 0) := by decide +kernel
theorem i_135_2 : a_ins 135 2 = some (.iload_n 1, 1, 0, 0, 0) := by decide +kernel
theorem i_135_3 : a_ins 135 3 = some (.aload_n 0, 1, 0, 0, 0) := by decide +kernel
theorem i_135_4 : a_ins 135 4 = some (.getfield 27, 3, 6, 0, 0) := by decide +kernel
theorem i_135_7 : a_ins 135 7 = some (.getfield 63, 3, 1, 0, 0) := by decide +kernel
theorem i_135_10 : a_ins 135 10 = some (.if_icmp .ge (45), 3, 55, 0, 0) := by decide +kernel
theorem i_135_13 : a_ins 135 13 = some (.aload_n 0, 1, 0, 0, 0) := by decide +kernel
theorem i_135_14 : a_ins 135 14 = some (.getfield 27, 3, 6, 0, 0) := by decide +kernel
theorem i_135_17 : a_ins 135 17 = some (.aload_n 0, 1, 0, 0, 0) := by decide +kernel
theorem i_135_18 : a_ins 135 18 = some (.getfield 35, 3, 6, 2, 0) := by decide +kernel
theorem i_135_21 : a_ins 135 21 = some (.aload_n 0, 1, 0, 0, 0) := by decide +kernel
theorem i_135_22 : a_ins 135 22 = some (.getfield 57, 3, 6, 7, 0) := by decide +kernel
theorem i_135_25 : a_ins 135 25 = some (.iaload, 1, 0, 0, 0) := by decide +kernel
theorem i_135_26 : a_ins 135 26 = some (.invokevirtual 81, 3, 94, 2, 0) := by decide +kernel
theorem i_135_29 : a_ins 135 29 = some (.aload_n 0, 1, 0, 0, 0) := by decide +kernel
theorem i_135_30 : a_ins 135 30 = some (.getfield 27, 3, 6, 0, 0) := by decide +kernel
theorem i_135_33 : a_ins 135 33 = some (.iload_n 1, 1, 0, 0, 0) := by decide +kernel
theorem i_135_34 : a_ins 135 34 = some (.invokevirtual 91, 3, 67, 2, 0) := by decide +kernel
theorem i_135_37 : a_ins 135 37 = some (.ifCond .lt (12), 3, 49, 0, 0) := by decide +kernel
theorem i_135_40 : a_ins 135 40 = some (.aload_n 0, 1, 0, 0, 0) := by decide +kernel
theorem i_135_41 : a_ins 135 41 = some (.sipush (400), 3, 0, 0, 400) := by decide +kernel
theorem i_135_44 : a_ins 135 44 = some (.iload_n 1, 1, 0, 0, 0) := by decide +kernel
theorem i_135_45 : a_ins 135 45 = some (.iadd, 1, 0, 0, 0) := by decide +kernel
theorem i_135_46 : a_ins 135 46 = some (.invokevirtual 77, 3, 129, 2, 0) := by decide +kernel
theorem i_135_49 : a_ins 135 49 = some (.iinc 1 (1), 3, 0, 0, 1) := by decide +kernel
theorem i_135_52 : a_ins 135 52 = some (.goto (-50), 3, 2, 0, 0) := by decide +kernel
theorem i_135_55 : a_ins 135 55 = some (.return_, 1, 0, 0, 0) := by decide +kernel
theorem i_136_0 : a_ins 136 0 = some (.iconst (0), 1, 0, 0, 0) := by decide +kernel
theorem i_136_1 : a_ins 136 1 = some (.istore_n 1, 1, 0, 0, 0) := by decide +kernel
theorem i_136_2 : a_ins 136 2 = some (.iload_n 1, 1, 0, 0, 0) := by decide +kernel
theorem i_136_3 : a_ins 136 3 = some (.aload_n 0, 1, 0, 0, 0) := by decide +kernel
theorem i_136_4 : a_ins 136 4 = some (.getfield 27, 3, 6, 0, 0) := by decide +kernel
theorem i_136_7 : a_ins 136 7 = some (.getfield 63, 3, 1, 0, 0) := by decide +kernel
theorem i_136_10 : a_ins 136 10 = some (.if_icmp .ge (78), 3, 88, 0, 0) := by decide +kernel
theorem i_136_13 : a_ins 136 13 = some (.iconst (4), 1, 0, 0, 4) := by decide +kernel
theorem i_136_14 : a_ins 136 14 = some (.istore_n 2, 1, 0, 0, 0) := by decide +kernel
theorem i_136_15 : a_ins 136 15 = some (.iconst (-1), 1, 0, 0, -1) := by decide +kernel
theorem i_136_16 : a_ins 136 16 = some (.istore_n 3, 1, 0, 0, 0) := by decide +kernel
theorem i_136_17 : a_ins 136 17 = some (.iload_n 3, 1, 0, 0, 0) := by decide +kernel
theorem i_136_18 : a_ins 136 18 = some (.iload_n 2, 1, 0, 0, 0) := by decide +kernel
theorem i_136_19 : a_ins 136 19 = some (.if_icmp .gt (63), 3, 82, 0, 0) := by decide +kernel
theorem i_136_22 : a_ins 136 22 = some (.aload_n 0, 1, 0, 0, 0) := by decide +kernel
theorem i_136_23 : a_ins 136 23 = some (.getfield 27, 3, 6, 0, 0) := by decide +kernel
theorem i_136_26 : a_ins 136 26 = some (.aload_n 0, 1, 0, 0, 0) := by decide +kernel
theorem i_136_27 : a_ins 136 27 = some (.getfield 35, 3, 6, 2, 0) := by decide +kernel
theorem i_136_30 : a_ins 136 30 = some (.aload_n 0, 1, 0, 0, 0) := by decide +kernel
theorem i_136_31 : a_ins 136 31 = some (.getfield 57, 3, 6, 7, 0) := by decide +kernel
theorem i_136_34 : a_ins 136 34 = some (.iaload, 1, 0, 0, 0) := by decide +kernel
theorem i_136_35 : a_ins 136 35 = some (.invokevirtual 81, 3, 94, 2, 0) := by decide +kernel
theorem i_136_38 : a_ins 136 38 = some (.aload_n 0, 1, 0, 0, 0) := by decide +kernel
theorem i_136_39 : a_ins 136 39 = some (.getfield 27, 3, 6, 0, 0) := by decide +kernel
theorem i_136_42 : a_ins 136 42 = some (.iload_n 1, 1, 0, 0, 0) := by decide +kernel
theorem i_136_43 : a_ins 136 43 = some (.iload_n 3, 1, 0, 0, 0) := by decide +kernel
theorem i_136_44 : a_ins 136 44 = some (.invokevirtual 95, 3, 72, 3, 0) := by decide +kernel
theorem i_136_47 : a_ins 136 47 = some (.ifCond .ge (6), 3, 53, 0, 0) := by decide +kernel
theorem i_136_50 : a_ins 136 50 = some (.goto (32), 3, 82, 0, 0) := by decide +kernel
theorem i_136_53 : a_ins 136 53 = some (.aload_n 0, 1, 0, 0, 0) := by decide +kernel
theorem i_136_54 : a_ins 136 54 = some (.sipush (500), 3, 0, 0, 500) := by decide +kernel
theorem i_136_57 : a_ins 136 57 = some (.bipush (10), 2, 0, 0, 10) := by decide +kernel
theorem i_136_59 : a_ins 136 59 = some (.iload_n 1, 1, 0, 0, 0) := by decide +kernel
theorem i_136_60 : a_ins 136 60 = some (.imul, 1, 0, 0, 0) := by decide +kernel
theorem i_136_61 : a_ins 136 61 = some (.iadd, 1, 0, 0, 0) := by decide +kernel
theorem i_136_62 : a_ins 136 62 = some (.iload_n 3, 1, 0, 0, 0) := by decide +kernel
theorem i_136_63 : a_ins 136 63 = some (.iadd, 1, 0, 0, 0) := by decide +kernel
theorem i_136_64 : a_ins 136 64 = some (.iconst (1), 1, 0, 0, 1) := by decide +kernel
theorem i_136_65 : a_ins 136 65 = some (.iadd, 1, 0, 0, 0) := by decide +kernel
theorem i_136_66 : a_ins 136 66 = some (.invokevirtual 77, 3, 129, 2, 0) := by decide +kernel
theorem i_136_69 : a_ins 136 69 = some (.aload_n 0, 1, 0, 0, 0) := by decide +kernel
theorem i_136_70 : a_ins 136 70 = some (.iload_n 3, 1, 0, 0, 0) := by decide +kernel
theorem i_136_71 : a_ins 136 71 = some (.iload_n 2, 1, 0, 0, 0) := by decide +kernel
theorem i_136_72 : a_ins 136 72 = some (.invokevirtual 88, 3, 134, 3, 0) := by decide +kernel
theorem i_136_75 : a_ins 136 75 = some (.istore_n 2, 1, 0, 0, 0) := by decide +kernel
theorem i_136_76 : a_ins 136 76 = some (.iinc 3 (1), 3, 0, 0, 1) := by decide +kernel
theorem i_136_79 : a_ins 136 79 = some (.goto (-62), 3, 17, 0, 0) := by decide +kernel
theorem i_136_82 : a_ins 136 82 = some (.iinc 1 (1), 3, 0, 0, 1) := by decide +kernel
theorem i_136_85 : a_ins 136 85 = some (.goto (-83), 3, 2, 0, 0) := by decide +kernel
theorem i_136_88 : a_ins 136 88 = some (.return_, 1, 0, 0, 0) := by decide +kernel
theorem i_137_0 : a_ins 137 0 = some (.iconst (0), 1, 0, 0, 0) := by decide +kernel
theorem i_137_1 : a_ins 137 1 = some (.istore_n 1, 1, 0, 0, 0) := by decide +kernel
theorem i_137_2 : a_ins 137 2 = some (.iload_n 1, 1, 0, 0, 0) := by decide +kernel
theorem i_137_3 : a_ins 137 3 = some (.aload_n 0, 1, 0, 0, 0) := by decide +kernel
theorem i_137_4 : a_ins 137 4 = some (.getfield 27, 3, 6, 0, 0) := by decide +kernel
theorem i_137_7 : a_ins 137 7 = some (.invokevirtual 98, 3, 47, 1, 0) := by decide +kernel
theorem i_137_10 : a_ins 137 10 = some (.if_icmp .gt (67), 3, 77, 0, 0) := by decide +kernel
theorem i_137_13 : a_ins 137 13 = some (.aload_n 0, 1, 0, 0, 0) := by decide +kernel
theorem i_137_14 : a_ins 137 14 = some (.getfield 27, 3, 6, 0, 0) := by decide +kernel
theorem i_137_17 : a_ins 137 17 = some (.aload_n 0, 1, 0, 0, 0) := by decide +kernel
theorem i_137_18 : a_ins 137 18 = some (.getfield 35, 3, 6, 2, 0) := by decide +kernel
theorem i_137_21 : a_ins 137 21 = some (.aload_n 0, 1, 0, 0, 0) := by decide +kernel
theorem i_137_22 : a_ins 137 22 = some (.getfield 57, 3, 6, 7, 0) := by decide +kernel
theorem i_137_25 : a_ins 137 25 = some (.iaload, 1, 0, 0, 0) := by decide +kernel
theorem i_137_26 : a_ins 137 26 = some (.invokevirtual 81, 3, 94, 2, 0) := by decide +kernel
theorem i_137_29 : a_ins 137 29 = some (.iconst (1), 1, 0, 0, 1) := by decide +kernel
theorem i_137_30 : a_ins 137 30 = some (.istore_n 2, 1, 0, 0, 0) := by decide +kernel
theorem i_137_31 : a_ins 137 31 = some (.iload_n 2, 1, 0, 0, 0) := by decide +kernel
theorem i_137_32 : a_ins 137 32 = some (.aload_n 0, 1, 0, 0, 0) := by decide +kernel
theorem i_137_33 : a_ins 137 33 = some (.getfield 27, 3, 6, 0, 0) := by decide +kernel
theorem i_137_36 : a_ins 137 36 = some (.getfield 63, 3, 1, 0, 0) := by decide +kernel
theorem i_137_39 : a_ins 137 39 = some (.if_icmp .ge (23), 3, 62, 0, 0) := by decide +kernel
theorem i_137_42 : a_ins 137 42 = some (.aload_n 0, 1, 0, 0, 0) := by decide +kernel
theorem i_137_43 : a_ins 137 43 = some (.getfield 27, 3, 6, 0, 0) := by decide +kernel
theorem i_137_46 : a_ins 137 46 = some (.getfield 102, 3, 1, 7, 0) := by decide +kernel
theorem i_137_49 : a_ins 137 49 = some (.iload_n 2, 1, 0, 0, 0) := by decide +kernel
theorem i_137_50 : a_ins 137 50 = some (.iload_n 1, 1, 0, 0, 0) := by decide +kernel
theorem i_137_51 : a_ins 137 51 = some (.iload_n 2, 1, 0, 0, 0) := by decide +kernel
theorem i_137_52 : a_ins 137 52 = some (.ishr, 1, 0, 0, 0) := by decide +kernel
theorem i_137_53 : a_ins 137 53 = some (.iconst (1), 1, 0, 0, 1) := by decide +kernel
theorem i_137_54 : a_ins 137 54 = some (.iand, 1, 0, 0, 0) := by decide +kernel
theorem i_137_55 : a_ins 137 55 = some (.iastore, 1, 0, 0, 0) := by decide +kernel
theorem i_137_56 : a_ins 137 56 = some (.iinc 2 (1), 3, 0, 0, 1) := by decide +kernel
theorem i_137_59 : a_ins 137 59 = some (.goto (-28), 3, 31, 0, 0) := by decide +kernel
theorem i_137_62 : a_ins 137 62 = some (.aload_n 0, 1, 0, 0, 0) := by decide +kernel
theorem i_137_63 : a_ins 137 63 = some (.sipush (600), 3, 0, 0, 600) := by decide +kernel
theorem i_137_66 : a_ins 137 66 = some (.iload_n 1, 1, 0, 0, 0) := by decide +kernel
theorem i_137_67 : a_ins 137 67 = some (.iadd, 1, 0, 0, 0) := by decide +kernel
theorem i_137_68 : a_ins 137 68 = some (.invokevirtual 77, 3, 129, 2, 0) := by decide +kernel
theorem i_137_71 : a_ins 137 71 = some (.iinc 1 (2), 3, 0, 0, 2) := by decide +kernel
theorem i_137_74 : a_ins 137 74 = some (.goto (-72), 3, 2, 0, 0) := by decide +kernel
theorem i_137_77 : a_ins 137 77 = some (.return_, 1, 0, 0, 0) := by decide +kernel
theorem i_138_0 : a_ins 138 0 = some (.aload_n 0, 1, 0, 0, 0) := by decide +kernel
theorem i_138_1 : a_ins 138 1 = some (.invokespecial 3, 3, 1000, 1, 0) := by decide +kernel
theorem i_138_4 : a_ins 138 4 = some (.aload_n 0, 1, 0, 0, 0) := by decide +kernel
theorem i_138_5 : a_ins 138 5 = some (.iconst (-1), 1, 0, 0, -1) := by decide +kernel
theorem i_138_6 : a_ins 138 6 = some (.putfield 9, 3, 7, 0, 0) := by decide +kernel
theorem i_138_9 : a_ins 138 9 = some (.aload_n 0, 1, 0, 0, 0) := by decide +kernel
theorem i_138_10 : a_ins 138 10 = some (.sipush (1728), 3, 0, 0, 1728) := by decide +kernel
theorem i_138_13 : a_ins 138 13 = some (.newarray .int, 2, 0, 0, 0) := by decide +kernel
theorem i_138_15 : a_ins 138 15 = some (.putfield 15, 3, 7, 1, 0) := by decide +kernel
theorem i_138_18 : a_ins 138 18 = some (.aload_n 0, 1, 0, 0, 0) := by decide +kernel
theorem i_138_19 : a_ins 138 19 = some (.bipush (6), 2, 0, 0, 6) := by decide +kernel
theorem i_138_21 : a_ins 138 21 = some (.newarray .int, 2, 0, 0, 0) := by decide +kernel
theorem i_138_23 : a_ins 138 23 = some (.putfield 19, 3, 7, 2, 0) := by decide +kernel
theorem i_138_26 : a_ins 138 26 = some (.aload_n 0, 1, 0, 0, 0) := by decide +kernel
theorem i_138_27 : a_ins 138 27 = some (.bipush (64), 2, 0, 0, 64) := by decide +kernel
theorem i_138_29 : a_ins 138 29 = some (.newarray .int, 2, 0, 0, 0) := by decide +kernel
theorem i_138_31 : a_ins 138 31 = some (.putfield 22, 3, 7, 3, 0) := by decide +kernel
theorem i_138_34 : a_ins 138 34 = some (.return_, 1, 0, 0, 0) := by decide +kernel
theorem i_139_0 : a_ins 139 0 = some (.aload_n 0, 1, 0, 0, 0) := by decide +kernel
theorem i_139_1 : a_ins 139 1 = some (.getfield 15, 3, 7, 1, 0) := by decide +kernel
theorem i_139_4 : a_ins 139 4 = some (.iconst (-1), 1, 0, 0, -1) := by decide +kernel
theorem i_139_5 : a_ins 139 5 = some (.invokestatic 25, 3, 263, 2, 0) := by decide +kernel
theorem i_139_8 : a_ins 139 8 = some (.aload_n 0, 1, 0, 0, 0) := by decide +kernel
theorem i_139_9 : a_ins 139 9 = some (.getfield 19, 3, 7, 2, 0) := by decide +kernel
theorem i_139_12 : a_ins 139 12 = some (.iconst (0), 1, 0, 0, 0) := by decide +kernel
theorem i_139_13 : a_ins 139 13 = some (.invokestatic 25, 3, 263, 2, 0) := by decide +kernel
theorem i_139_16 : a_ins 139 16 = some (.aload_n 0, 1, 0, 0, 0) := by decide +kernel
theorem i_139_17 : a_ins 139 17 = some (.iconst (-1), 1, 0, 0, -1) := by decide +kernel
theorem i_139_18 : a_ins 139 18 = some (.putfield 31, 3, 7, 4, 0) := by decide +kernel
theorem i_139_21 : a_ins 139 21 = some (.aload_n 0, 1, 0, 0, 0) := by decide +kernel
theorem i_139_22 : a_ins 139 22 = some (.iconst (0), 1, 0, 0, 0) := by decide +kernel
theorem i_139_23 : a_ins 139 23 = some (.putfield 34, 3, 7, 5, 0) := by decide +kernel
theorem i_139_26 : a_ins 139 26 = some (.aload_n 0, 1, 0, 0, 0) := by decide +kernel
theorem i_139_27 : a_ins 139 27 = some (.iconst (0), 1, 0, 0, 0) := by decide +kernel
theorem i_139_28 : a_ins 139 28 = some (.putfield 37, 3, 7, 6, 0) := by decide +kernel
theorem i_139_31 : a_ins 139 31 = some (.aload_n 0, 1, 0, 0, 0) := by decide +kernel
theorem i_139_32 : a_ins 139 32 = some (.iconst (0), 1, 0, 0, 0) := by decide +kernel
theorem i_139_33 : a_ins 139 33 = some (.putfield 40, 3, 7, 7, 0) := by decide +kernel
theorem i_139_36 : a_ins 139 36 = some (.return_, 1, 0, 0, 0) := by decide +kernel
theorem i_140_0 : a_ins 140 0 = some (.aload_n 0, 1, 0, 0, 0) := by decide +kernel
theorem i_140_1 : a_ins 140 1 = some (.getfield 15, 3, 7, 1, 0) := by decide +kernel
theorem i_140_4 : a_ins 140 4 = some (.iload_n 2, 1, 0, 0, 0) := by decide +kernel
theorem i_140_5 : a_ins 140 5 = some (.iload_n 3, 1, 0, 0, 0) := by decide +kernel
theorem i_140_6 : a_ins 140 6 = some (.iastore, 1, 0, 0, 0) := by decide +kernel
theorem i_140_7 : a_ins 140 7 = some (.aload_n 0, 1, 0, 0, 0) := by decide +kernel
theorem i_140_8 : a_ins 140 8 = some (.iload_n 3, 1, 0, 0, 0) := by decide +kernel
theorem i_140_9 : a_ins 140 9 = some (.putfield 40, 3, 7, 7, 0) := by decide +kernel
theorem i_140_12 : a_ins 140 12 = some (.aload_n 0, 1, 0, 0, 0) := by decide +kernel
theorem i_140_13 : a_ins 140 13 = some (.dup, 1, 0, 0, 0) := by decide +kernel
theorem i_140_14 : a_ins 140 14 = some (.getfield 34, 3, 7, 5, 0) := by decide +kernel
theorem i_140_17 : a_ins 140 17 = some (.iconst (1), 1, 0, 0, 1) := by decide +kernel
theorem i_140_18 : a_ins 140 18 = some (.iadd, 1, 0, 0, 0) := by decide +kernel
theorem i_140_19 : a_ins 140 19 = some (.putfield 34, 3, 7, 5, 0) := by decide +kernel
theorem i_140_22 : a_ins 140 22 = some (.iconst (0), 1, 0, 0, 0) := by decide +kernel
theorem i_140_23 : a_ins 140 23 = some (.istore 4, 2, 0, 0, 0) := by decide +kernel
theorem i_140_25 : a_ins 140 25 = some (.iload 4, 2, 0, 0, 0) := by decide +kernel
theorem i_140_27 : a_ins 140 27 = some (.aload_n 1, 1, 0, 0, 0) := by decide +kernel
theorem i_140_28 : a_ins 140 28 = some (.getfield 43, 3, 1, 0, 0) := by decide +kernel
theorem i_140_31 : a_ins 140 31 = some (.if_icmp .ge (43), 3, 74, 0, 0) := by decide +kernel
theorem i_140_34 : a_ins 140 34 = some (.aload_n 1, 1, 0, 0, 0) := by decide +kernel
theorem i_140_35 : a_ins 140 35 = some (.invokevirtual 48, 3, 47, 1, 0) := by decide +kernel
theorem i_140_38 : a_ins 140 38 = some (.iconst (1), 1, 0, 0, 1) := by decide +kernel
theorem i_140_39 : a_ins 140 39 = some (.iload 4, 2, 0, 0, 0) := by decide +kernel
theorem i_140_41 : a_ins 140 41 = some (.ishl, 1, 0, 0, 0) := by decide +kernel
theorem i_140_42 : a_ins 140 42 = some (.iconst (-1), 1, 0, 0, -1) := by decide +kernel
theorem i_140_43 : a_ins 140 43 = some (.ixor, 1, 0, 0, 0) := by decide +kernel
theorem i_140_44 : a_ins 140 44 = some (.iand, 1, 0, 0, 0) := by decide +kernel
theorem i_140_45 : a_ins 140 45 = some (.istore 5, 2, 0, 0, 0) := by decide +kernel
theorem i_140_47 : a_ins 140 47 = some (.aload_n 0, 1, 0, 0, 0) := by decide +kernel
theorem i_140_48 : a_ins 140 48 = some (.getfield 19, 3, 7, 2, 0) := by decide +kernel
theorem i_140_51 : a_ins 140 51 = some (.aload_n 1, 1, 0, 0, 0) := by decide +kernel
theorem i_140_52 : a_ins 140 52 = some (.getfield 52, 3, 1, 5, 0) := by decide +kernel
theorem i_140_55 : a_ins 140 55 = some (.iload 4, 2, 0, 0, 0) := by decide +kernel
theorem i_140_57 : a_ins 140 57 = some (.iaload, 1, 0, 0, 0) := by decide +kernel
theorem i_140_58 : a_ins 140 58 = some (.dup2, 1, 0, 0, 0) := by decide +kernel
theorem i_140_59 : a_ins 140 59 = some (.iaload, 1, 0, 0, 0) := by decide +kernel
theorem i_140_60 : a_ins 140 60 = some (.aload_n 1, 1, 0, 0, 0) := by decide +kernel
theorem i_140_61 : a_ins 140 61 = some (.iload 5, 2, 0, 0, 0) := by decide +kernel
theorem i_140_63 : a_ins 140 63 = some (.invokevirtual 55, 3, 55, 2, 0) := by decide +kernel
theorem i_140_66 : a_ins 140 66 = some (.ior, 1, 0, 0, 0) := by decide +kernel
theorem i_140_67 : a_ins 140 67 = some (.iastore, 1, 0, 0, 0) := by decide +kernel
theorem i_140_68 : a_ins 140 68 = some (.iinc 4 (1), 3, 0, 0, 1) := by decide +kernel
theorem i_140_71 : a_ins 140 71 = some (.goto (-46), 3, 25, 0, 0) := by decide +kernel
theorem i_140_74 : a_ins 140 74 = some (.aload_n 0, 1, 0, 0, 0) := by decide +kernel
theorem i_140_75 : a_ins 140 75 = some (.aload_n 1, 1, 0, 0, 0) := by decide +kernel
theorem i_140_76 : a_ins 140 76 = some (.invokevirtual 59, 3, 141, 2, 0) := by decide +kernel
theorem i_140_79 : a_ins 140 79 = some (.ifCond .eq (13), 3, 92, 0, 0) := by decide +kernel
theorem i_140_82 : a_ins 140 82 = some (.aload_n 0, 1, 0, 0, 0) := by decide +kernel
theorem i_140_83 : a_ins 140 83 = some (.dup, 1, 0, 0, 0) := by decide +kernel
theorem i_140_84 : a_ins 140 84 = some (.getfield 37, 3, 7, 6, 0) := by decide +kernel
theorem i_140_87 : a_ins 140 87 = some (.iconst (1), 1, 0, 0, 1) := by decide +kernel
theorem i_140_88 : a_ins 140 88 = some (.iadd, 1, 0, 0, 0) := by decide +kernel
theorem i_140_89 : a_ins 140 89 = some (.putfield 37, 3, 7, 6, 0) := by decide +kernel
theorem i_140_92 : a_ins 140 92 = some (.return_, 1, 0, 0, 0) := by decide +kernel
theorem i_141_0 : a_ins 141 0 = some (.aload_n 1, 1, 0, 0, 0) := by decide +kernel
theorem i_141_1 : a_ins 141 1 = some (.aload_n 1, 1, 0, 0, 0) := by decide +kernel
theorem i_141_2 : a_ins 141 2 = some (.invokevirtual 48, 3, 47, 1, 0) := by decide +kernel
theorem i_141_5 : a_ins 141 5 = some (.invokevirtual 55, 3, 55, 2, 0) := by decide +kernel
theorem i_141_8 : a_ins 141 8 = some (.bipush (48), 2, 0, 0, 48) := by decide +kernel
theorem i_141_10 : a_ins 141 10 = some (.iand, 1, 0, 0, 0) := by decide +kernel
theorem i_141_11 : a_ins 141 11 = some (.bipush (48), 2, 0, 0, 48) := by decide +kernel
theorem i_141_13 : a_ins 141 13 = some (.if_icmp .ne (7), 3, 20, 0, 0) := by decide +kernel
theorem i_141_16 : a_ins 141 16 = some (.iconst (1), 1, 0, 0, 1) := by decide +kernel
theorem i_141_17 : a_ins 141 17 = some (.goto (4), 3, 21, 0, 0) := by decide +kernel
theorem i_141_20 : a_ins 141 20 = some (.iconst (0), 1, 0, 0, 0) := by decide +kernel
theorem i_141_21 : a_ins 141 21 = some (.ireturn, 1, 0, 0, 0) := by decide +kernel
theorem i_142_0 : a_ins 142 0 = some (.iload_n 1, 1, 0, 0, 0) := by decide +kernel
theorem i_142_1 : a_ins 142 1 = some (.ifCond .lt (19), 3, 20, 0, 0) := by decide +kernel
theorem i_142_4 : a_ins 142 4 = some (.iload_n 1, 1, 0, 0, 0) := by decide +kernel
theorem i_142_5 : a_ins 142 5 = some (.sipush (1728), 3, 0, 0, 1728) := by decide +kernel
theorem i_142_8 : a_ins 142 8 = some (.if_icmp .ge (12), 3, 20, 0, 0) := by decide +kernel
theorem i_142_11 : a_ins 142 11 = some (.aload_n 0, 1, 0, 0, 0) := by decide +kernel
theorem i_142_12 : a_ins 142 12 = some (.getfield 15, 3, 7, 1, 0) := by decide +kernel
theorem i_142_15 : a_ins 142 15 = some (.iload_n 1, 1, 0, 0, 0) := by decide +kernel
theorem i_142_16 : a_ins 142 16 = some (.iaload, 1, 0, 0, 0) := by decide +kernel
theorem i_142_17 : a_ins 142 17 = some (.goto (4), 3, 21, 0, 0) := by decide +kernel
theorem i_142_20 : a_ins 142 20 = some (.iconst (-1), 1, 0, 0, -1) := by decide +kernel
theorem i_142_21 : a_ins 142 21 = some (.ireturn, 1, 0, 0, 0) := by decide +kernel
