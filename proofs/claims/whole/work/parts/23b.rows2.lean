/-! the rows of the code, one by one, by program -/
theorem i_143_0 : a_ins 143 0 = some (.aload_n 0, 1, 0, 0, 0) := by decide +kernel
theorem i_143_1 : a_ins 143 1 = some (.invokespecial 7, 3, 1000, 1, 0) := by decide +kernel
theorem i_143_4 : a_ins 143 4 = some (.aload_n 0, 1, 0, 0, 0) := by decide +kernel
theorem i_143_5 : a_ins 143 5 = some (.sipush (648), 3, 0, 0, 648) := by decide +kernel
theorem i_143_8 : a_ins 143 8 = some (.newarray .int, 2, 0, 0, 0) := by decide +kernel
theorem i_143_10 : a_ins 143 10 = some (.putfield 13, 3, 8, 1, 0) := by decide +kernel
theorem i_143_13 : a_ins 143 13 = some (.aload_n 0, 1, 0, 0, 0) := by decide +kernel
theorem i_143_14 : a_ins 143 14 = some (.sipush (2160), 3, 0, 0, 2160) := by decide +kernel
theorem i_143_17 : a_ins 143 17 = some (.newarray .int, 2, 0, 0, 0) := by decide +kernel
theorem i_143_19 : a_ins 143 19 = some (.putfield 17, 3, 8, 2, 0) := by decide +kernel
theorem i_143_22 : a_ins 143 22 = some (.aload_n 0, 1, 0, 0, 0) := by decide +kernel
theorem i_143_23 : a_ins 143 23 = some (.sipush (216), 3, 0, 0, 216) := by decide +kernel
theorem i_143_26 : a_ins 143 26 = some (.newarray .int, 2, 0, 0, 0) := by decide +kernel
theorem i_143_28 : a_ins 143 28 = some (.putfield 20, 3, 8, 3, 0) := by decide +kernel
theorem i_143_31 : a_ins 143 31 = some (.aload_n 0, 1, 0, 0, 0) := by decide +kernel
theorem i_143_32 : a_ins 143 32 = some (.sipush (216), 3, 0, 0, 216) := by decide +kernel
theorem i_143_35 : a_ins 143 35 = some (.newarray .int, 2, 0, 0, 0) := by decide +kernel
theorem i_143_37 : a_ins 143 37 = some (.putfield 23, 3, 8, 4, 0) := by decide +kernel
theorem i_143_40 : a_ins 143 40 = some (.aload_n 0, 1, 0, 0, 0) := by decide +kernel
theorem i_143_41 : a_ins 143 41 = some (.iconst (2), 1, 0, 0, 2) := by decide +kernel
theorem i_143_42 : a_ins 143 42 = some (.newarray .boolean, 2, 2, 0, 0) := by decide +kernel
theorem i_143_44 : a_ins 143 44 = some (.putfield 26, 3, 8, 6, 0) := by decide +kernel
theorem i_143_47 : a_ins 143 47 = some (.aload_n 0, 1, 0, 0, 0) := by decide +kernel
theorem i_143_48 : a_ins 143 48 = some (.sipush (27648), 3, 0, 0, 27648) := by decide +kernel
theorem i_143_51 : a_ins 143 51 = some (.newarray .int, 2, 0, 0, 0) := by decide +kernel
theorem i_143_53 : a_ins 143 53 = some (.putfield 30, 3, 8, 11, 0) := by decide +kernel
theorem i_143_56 : a_ins 143 56 = some (.aload_n 0, 1, 0, 0, 0) := by decide +kernel
theorem i_143_57 : a_ins 143 57 = some (.sipush (27648), 3, 0, 0, 27648) := by decide +kernel
theorem i_143_60 : a_ins 143 60 = some (.newarray .int, 2, 0, 0, 0) := by decide +kernel
theorem i_143_62 : a_ins 143 62 = some (.putfield 33, 3, 8, 12, 0) := by decide +kernel
theorem i_143_65 : a_ins 143 65 = some (.aload_n 0, 1, 0, 0, 0) := by decide +kernel
theorem i_143_66 : a_ins 143 66 = some (.sipush (27648), 3, 0, 0, 27648) := by decide +kernel
theorem i_143_69 : a_ins 143 69 = some (.newarray .int, 2, 0, 0, 0) := by decide +kernel
theorem i_143_71 : a_ins 143 71 = some (.putfield 36, 3, 8, 13, 0) := by decide +kernel
theorem i_143_74 : a_ins 143 74 = some (.aload_n 0, 1, 0, 0, 0) := by decide +kernel
theorem i_143_75 : a_ins 143 75 = some (.sipush (27648), 3, 0, 0, 27648) := by decide +kernel
theorem i_143_78 : a_ins 143 78 = some (.newarray .int, 2, 0, 0, 0) := by decide +kernel
theorem i_143_80 : a_ins 143 80 = some (.putfield 39, 3, 8, 14, 0) := by decide +kernel
theorem i_143_83 : a_ins 143 83 = some (.aload_n 0, 1, 0, 0, 0) := by decide +kernel
theorem i_143_84 : a_ins 143 84 = some (.sipush (1728), 3, 0, 0, 1728) := by decide +kernel
theorem i_143_87 : a_ins 143 87 = some (.newarray .int, 2, 0, 0, 0) := by decide +kernel
theorem i_143_89 : a_ins 143 89 = some (.putfield 42, 3, 8, 15, 0) := by decide +kernel
theorem i_143_92 : a_ins 143 92 = some (.aload_n 0, 1, 0, 0, 0) := by decide +kernel
theorem i_143_93 : a_ins 143 93 = some (.sipush (200), 3, 0, 0, 200) := by decide +kernel
theorem i_143_96 : a_ins 143 96 = some (.newarray .int, 2, 0, 0, 0) := by decide +kernel
theorem i_143_98 : a_ins 143 98 = some (.putfield 45, 3, 8, 17, 0) := by decide +kernel
theorem i_143_101 : a_ins 143 101 = some (.aload_n 0, 1, 0, 0, 0) := by decide +kernel
theorem i_143_102 : a_ins 143 102 = some (.iconst (-1), 1, 0, 0, -1) := by decide +kernel
theorem i_143_103 : a_ins 143 103 = some (.putfield 48, 3, 8, 22, 0) := by decide +kernel
theorem i_143_106 : a_ins 143 106 = some (.aload_n 0, 1, 0, 0, 0) := by decide +kernel
theorem i_143_107 : a_ins 143 107 = some (.bipush (12), 2, 0, 0, 12) := by decide +kernel
theorem i_143_109 : a_ins 143 109 = some (.newarray .int, 2, 0, 0, 0) := by decide +kernel
theorem i_143_111 : a_ins 143 111 = some (.putfield 51, 3, 8, 24, 0) := by decide +kernel
theorem i_143_114 : a_ins 143 114 = some (.aload_n 0, 1, 0, 0, 0) := by decide +kernel
theorem i_143_115 : a_ins 143 115 = some (.bipush (12), 2, 0, 0, 12) := by decide +kernel
theorem i_143_117 : a_ins 143 117 = some (.newarray .int, 2, 0, 0, 0) := by decide +kernel
theorem i_143_119 : a_ins 143 119 = some (.putfield 54, 3, 8, 25, 0) := by decide +kernel
theorem i_143_122 : a_ins 143 122 = some (.aload_n 0, 1, 0, 0, 0) := by decide +kernel
theorem i_143_123 : a_ins 143 123 = some (.bipush (12), 2, 0, 0, 12) := by decide +kernel
theorem i_143_125 : a_ins 143 125 = some (.newarray .int, 2, 0, 0, 0) := by decide +kernel
theorem i_143_127 : a_ins 143 127 = some (.putfield 57, 3, 8, 26, 0) := by decide +kernel
theorem i_143_130 : a_ins 143 130 = some (.aload_n 0, 1, 0, 0, 0) := by decide +kernel
theorem i_143_131 : a_ins 143 131 = some (.iconst (3), 1, 0, 0, 3) := by decide +kernel
theorem i_143_132 : a_ins 143 132 = some (.iconst (0), 1, 0, 0, 0) := by decide +kernel
theorem i_143_133 : a_ins 143 133 = some (.invokevirtual 60, 3, 144, 3, 0) := by decide +kernel
theorem i_143_136 : a_ins 143 136 = some (.return_, 1, 0, 0, 0) := by decide +kernel
theorem i_144_0 : a_ins 144 0 = some (.iconst (0), 1, 0, 0, 0) := by decide +kernel
theorem i_144_1 : a_ins 144 1 = some (.istore_n 3, 1, 0, 0, 0) := by decide +kernel
theorem i_144_2 : a_ins 144 2 = some (.iload_n 3, 1, 0, 0, 0) := by decide +kernel
theorem i_144_3 : a_ins 144 3 = some (.sipush (216), 3, 0, 0, 216) := by decide +kernel
theorem i_144_6 : a_ins 144 6 = some (.if_icmp .ge (16), 3, 22, 0, 0) := by decide +kernel
theorem i_144_9 : a_ins 144 9 = some (.aload_n 0, 1, 0, 0, 0) := by decide +kernel
theorem i_144_10 : a_ins 144 10 = some (.getfield 13, 3, 8, 1, 0) := by decide +kernel
theorem i_144_13 : a_ins 144 13 = some (.iload_n 3, 1, 0, 0, 0) := by decide +kernel
theorem i_144_14 : a_ins 144 14 = some (.iconst (0), 1, 0, 0, 0) := by decide +kernel
theorem i_144_15 : a_ins 144 15 = some (.iastore, 1, 0, 0, 0) := by decide +kernel
theorem i_144_16 : a_ins 144 16 = some (.iinc 3 (1), 3, 0, 0, 1) := by decide +kernel
theorem i_144_19 : a_ins 144 19 = some (.goto (-17), 3, 2, 0, 0) := by decide +kernel
theorem i_144_22 : a_ins 144 22 = some (.aload_n 0, 1, 0, 0, 0) := by decide +kernel
theorem i_144_23 : a_ins 144 23 = some (.getfield 13, 3, 8, 1, 0) := by decide +kernel
theorem i_144_26 : a_ins 144 26 = some (.iconst (0), 1, 0, 0, 0) := by decide +kernel
theorem i_144_27 : a_ins 144 27 = some (.iload_n 1, 1, 0, 0, 0) := by decide +kernel
theorem i_144_28 : a_ins 144 28 = some (.iastore, 1, 0, 0, 0) := by decide +kernel
theorem i_144_29 : a_ins 144 29 = some (.aload_n 0, 1, 0, 0, 0) := by decide +kernel
theorem i_144_30 : a_ins 144 30 = some (.getfield 13, 3, 8, 1, 0) := by decide +kernel
theorem i_144_33 : a_ins 144 33 = some (.iconst (1), 1, 0, 0, 1) := by decide +kernel
theorem i_144_34 : a_ins 144 34 = some (.iload_n 2, 1, 0, 0, 0) := by decide +kernel
theorem i_144_35 : a_ins 144 35 = some (.iastore, 1, 0, 0, 0) := by decide +kernel
theorem i_144_36 : a_ins 144 36 = some (.aload_n 0, 1, 0, 0, 0) := by decide +kernel
theorem i_144_37 : a_ins 144 37 = some (.getfield 13, 3, 8, 1, 0) := by decide +kernel
theorem i_144_40 : a_ins 144 40 = some (.iconst (3), 1, 0, 0, 3) := by decide +kernel
theorem i_144_41 : a_ins 144 41 = some (.iload_n 1, 1, 0, 0, 0) := by decide +kernel
theorem i_144_42 : a_ins 144 42 = some (.iconst (2), 1, 0, 0, 2) := by decide +kernel
theorem i_144_43 : a_ins 144 43 = some (.idiv, 1, 0, 0, 0) := by decide +kernel
theorem i_144_44 : a_ins 144 44 = some (.iconst (1), 1, 0, 0, 1) := by decide +kernel
theorem i_144_45 : a_ins 144 45 = some (.iadd, 1, 0, 0, 0) := by decide +kernel
theorem i_144_46 : a_ins 144 46 = some (.iastore, 1, 0, 0, 0) := by decide +kernel
theorem i_144_47 : a_ins 144 47 = some (.aload_n 0, 1, 0, 0, 0) := by decide +kernel
theorem i_144_48 : a_ins 144 48 = some (.getfield 13, 3, 8, 1, 0) := by decide +kernel
theorem i_144_51 : a_ins 144 51 = some (.iconst (4), 1, 0, 0, 4) := by decide +kernel
theorem i_144_52 : a_ins 144 52 = some (.iload_n 1, 1, 0, 0, 0) := by decide +kernel
theorem i_144_53 : a_ins 144 53 = some (.iconst (2), 1, 0, 0, 2) := by decide +kernel
theorem i_144_54 : a_ins 144 54 = some (.idiv, 1, 0, 0, 0) := by decide +kernel
theorem i_144_55 : a_ins 144 55 = some (.iconst (1), 1, 0, 0, 1) := by decide +kernel
theorem i_144_56 : a_ins 144 56 = some (.iadd, 1, 0, 0, 0) := by decide +kernel
theorem i_144_57 : a_ins 144 57 = some (.iastore, 1, 0, 0, 0) := by decide +kernel
theorem i_144_58 : a_ins 144 58 = some (.iconst (0), 1, 0, 0, 0) := by decide +kernel
theorem i_144_59 : a_ins 144 59 = some (.istore_n 3, 1, 0, 0, 0) := by decide +kernel
theorem i_144_60 : a_ins 144 60 = some (.iload_n 3, 1, 0, 0, 0) := by decide +kernel
theorem i_144_61 : a_ins 144 61 = some (.iload_n 1, 1, 0, 0, 0) := by decide +kernel
theorem i_144_62 : a_ins 144 62 = some (.if_icmp .ge (41), 3, 103, 0, 0) := by decide +kernel
theorem i_144_65 : a_ins 144 65 = some (.aload_n 0, 1, 0, 0, 0) := by decide +kernel
theorem i_144_66 : a_ins 144 66 = some (.iload_n 3, 1, 0, 0, 0) := by decide +kernel
theorem i_144_67 : a_ins 144 67 = some (.iconst (1), 1, 0, 0, 1) := by decide +kernel
theorem i_144_68 : a_ins 144 68 = some (.iconst (1), 1, 0, 0, 1) := by decide +kernel
theorem i_144_69 : a_ins 144 69 = some (.invokevirtual 64, 3, 145, 4, 0) := by decide +kernel
theorem i_144_72 : a_ins 144 72 = some (.aload_n 0, 1, 0, 0, 0) := by decide +kernel
theorem i_144_73 : a_ins 144 73 = some (.iload_n 3, 1, 0, 0, 0) := by decide +kernel
theorem i_144_74 : a_ins 144 74 = some (.iconst (3), 1, 0, 0, 3) := by decide +kernel
theorem i_144_75 : a_ins 144 75 = some (.iconst (1), 1, 0, 0, 1) := by decide +kernel
theorem i_144_76 : a_ins 144 76 = some (.invokevirtual 64, 3, 145, 4, 0) := by decide +kernel
theorem i_144_79 : a_ins 144 79 = some (.aload_n 0, 1, 0, 0, 0) := by decide +kernel
theorem i_144_80 : a_ins 144 80 = some (.iload_n 3, 1, 0, 0, 0) := by decide +kernel
theorem i_144_81 : a_ins 144 81 = some (.iconst (4), 1, 0, 0, 4) := by decide +kernel
theorem i_144_82 : a_ins 144 82 = some (.iconst (1), 1, 0, 0, 1) := by decide +kernel
theorem i_144_83 : a_ins 144 83 = some (.invokevirtual 64, 3, 145, 4, 0) := by decide +kernel
theorem i_144_86 : a_ins 144 86 = some (.aload_n 0, 1, 0, 0, 0) := by decide +kernel
theorem i_144_87 : a_ins 144 87 = some (.iload_n 3, 1, 0, 0, 0) := by decide +kernel
theorem i_144_88 : a_ins 144 88 = some (.iconst (5), 1, 0, 0, 5) := by decide +kernel
theorem i_144_89 : a_ins 144 89 = some (.iconst (1), 1, 0, 0, 1) := by decide +kernel
theorem i_144_90 : a_ins 144 90 = some (.iload_n 1, 1, 0, 0, 0) := by decide +kernel
theorem i_144_91 : a_ins 144 91 = some (.ishl, 1, 0, 0, 0) := by decide +kernel
theorem i_144_92 : a_ins 144 92 = some (.iconst (1), 1, 0, 0, 1) := by decide +kernel
theorem i_144_93 : a_ins 144 93 = some (.isub, 1, 0, 0, 0) := by decide +kernel
theorem i_144_94 : a_ins 144 94 = some (.invokevirtual 64, 3, 145, 4, 0) := by decide +kernel
theorem i_144_97 : a_ins 144 97 = some (.iinc 3 (1), 3, 0, 0, 1) := by decide +kernel
theorem i_144_100 : a_ins 144 100 = some (.goto (-40), 3, 60, 0, 0) := by decide +kernel
theorem i_144_103 : a_ins 144 103 = some (.return_, 1, 0, 0, 0) := by decide +kernel
theorem i_145_0 : a_ins 145 0 = some (.aload_n 0, 1, 0, 0, 0) := by decide +kernel
theorem i_145_1 : a_ins 145 1 = some (.getfield 13, 3, 8, 1, 0) := by decide +kernel
theorem i_145_4 : a_ins 145 4 = some (.iconst (5), 1, 0, 0, 5) := by decide +kernel
theorem i_145_5 : a_ins 145 5 = some (.bipush (6), 2, 0, 0, 6) := by decide +kernel
theorem i_145_7 : a_ins 145 7 = some (.iload_n 1, 1, 0, 0, 0) := by decide +kernel
theorem i_145_8 : a_ins 145 8 = some (.imul, 1, 0, 0, 0) := by decide +kernel
theorem i_145_9 : a_ins 145 9 = some (.iadd, 1, 0, 0, 0) := by decide +kernel
theorem i_145_10 : a_ins 145 10 = some (.iload_n 2, 1, 0, 0, 0) := by decide +kernel
theorem i_145_11 : a_ins 145 11 = some (.iadd, 1, 0, 0, 0) := by decide +kernel
theorem i_145_12 : a_ins 145 12 = some (.iload_n 3, 1, 0, 0, 0) := by decide +kernel
theorem i_145_13 : a_ins 145 13 = some (.iastore, 1, 0, 0, 0) := by decide +kernel
theorem i_145_14 : a_ins 145 14 = some (.return_, 1, 0, 0, 0) := by decide +kernel
theorem i_146_0 : a_ins 146 0 = some (.aload_n 0, 1, 0, 0, 0) := by decide +kernel
theorem i_146_1 : a_ins 146 1 = some (.iconst (0), 1, 0, 0, 0) := by decide +kernel
theorem i_146_2 : a_ins 146 2 = some (.putfield 1, 3, 8, 0, 0) := by decide +kernel
theorem i_146_5 : a_ins 146 5 = some (.iload_n 1, 1, 0, 0, 0) := by decide +kernel
theorem i_146_6 : a_ins 146 6 = some (.i2l, 1, 0, 0, 0) := by decide +kernel
theorem i_146_7 : a_ins 146 7 = some (.ldc2_w 178, 3, 0, 0, 2) := by decide +kernel
theorem i_146_10 : a_ins 146 10 = some (.ldc2_w 180, 3, 0, 0, 5) := by decide +kernel
theorem i_146_13 : a_ins 146 13 = some (.invokestatic 68, 3, 147, 3, 0) := by decide +kernel
theorem i_146_16 : a_ins 146 16 = some (.ifCond .eq (13), 3, 29, 0, 0) := by decide +kernel
theorem i_146_19 : a_ins 146 19 = some (.iload_n 2, 1, 0, 0, 0) := by decide +kernel
theorem i_146_20 : a_ins 146 20 = some (.i2l, 1, 0, 0, 0) := by decide +kernel
theorem i_146_21 : a_ins 146 21 = some (.lconst 0, 1, 0, 0, 0) := by decide +kernel
theorem i_146_22 : a_ins 146 22 = some (.lconst 1, 1, 0, 0, 1) := by decide +kernel
theorem i_146_23 : a_ins 146 23 = some (.invokestatic 68, 3, 147, 3, 0) := by decide +kernel
theorem i_146_26 : a_ins 146 26 = some (.ifCond .ne (6), 3, 32, 0, 0) := by decide +kernel
theorem i_146_29 : a_ins 146 29 = some (.bipush (-3), 2, 0, 0, -3) := by decide +kernel
theorem i_146_31 : a_ins 146 31 = some (.ireturn, 1, 0, 0, 0) := by decide +kernel
theorem i_146_32 : a_ins 146 32 = some (.aload_n 0, 1, 0, 0, 0) := by decide +kernel
theorem i_146_33 : a_ins 146 33 = some (.invokevirtual 182, 3, 148, 1, 0) := by decide +kernel
theorem i_146_36 : a_ins 146 36 = some (.aload_n 0, 1, 0, 0, 0) := by decide +kernel
theorem i_146_37 : a_ins 146 37 = some (.iload_n 1, 1, 0, 0, 0) := by decide +kernel
theorem i_146_38 : a_ins 146 38 = some (.iload_n 2, 1, 0, 0, 0) := by decide +kernel
theorem i_146_39 : a_ins 146 39 = some (.invokevirtual 60, 3, 144, 3, 0) := by decide +kernel
theorem i_146_42 : a_ins 146 42 = some (.aload_n 0, 1, 0, 0, 0) := by decide +kernel
theorem i_146_43 : a_ins 146 43 = some (.iload_n 1, 1, 0, 0, 0) := by decide +kernel
theorem i_146_44 : a_ins 146 44 = some (.invokevirtual 185, 3, 150, 2, 0) := by decide +kernel
theorem i_146_47 : a_ins 146 47 = some (.ireturn, 1, 0, 0, 0) := by decide +kernel
theorem i_147_0 : a_ins 147 0 = some (.lload_n 0, 1, 0, 0, 0) := by decide +kernel
theorem i_147_1 : a_ins 147 1 = some (.lload_n 2, 1, 0, 0, 0) := by decide +kernel
theorem i_147_2 : a_ins 147 2 = some (.lcmp, 1, 0, 0, 0) := by decide +kernel
theorem i_147_3 : a_ins 147 3 = some (.ifCond .lt (14), 3, 17, 0, 0) := by decide +kernel
theorem i_147_6 : a_ins 147 6 = some (.lload_n 0, 1, 0, 0, 0) := by decide +kernel
theorem i_147_7 : a_ins 147 7 = some (.lload 4, 2, 0, 0, 0) := by decide +kernel
theorem i_147_9 : a_ins 147 9 = some (.lcmp, 1, 0, 0, 0) := by decide +kernel
theorem i_147_10 : a_ins 147 10 = some (.ifCond .gt (7), 3, 17, 0, 0) := by decide +kernel
theorem i_147_13 : a_ins 147 13 = some (.iconst (1), 1, 0, 0, 1) := by decide +kernel
theorem i_147_14 : a_ins 147 14 = some (.goto (4), 3, 18, 0, 0) := by decide +kernel
theorem i_147_17 : a_ins 147 17 = some (.iconst (0), 1, 0, 0, 0) := by decide +kernel
theorem i_147_18 : a_ins 147 18 = some (.ireturn, 1, 0, 0, 0) := by decide +kernel
theorem i_148_0 : a_ins 148 0 = some (.aload_n 0, 1, 0, 0, 0) := by decide +kernel
theorem i_148_1 : a_ins 148 1 = some (.getfield 13, 3, 8, 1, 0) := by decide +kernel
theorem i_148_4 : a_ins 148 4 = some (.iconst (0), 1, 0, 0, 0) := by decide +kernel
theorem i_148_5 : a_ins 148 5 = some (.aload_n 0, 1, 0, 0, 0) := by decide +kernel
theorem i_148_6 : a_ins 148 6 = some (.getfield 23, 3, 8, 4, 0) := by decide +kernel
theorem i_148_9 : a_ins 148 9 = some (.iconst (0), 1, 0, 0, 0) := by decide +kernel
theorem i_148_10 : a_ins 148 10 = some (.invokestatic 87, 3, 149, 4, 0) := by decide +kernel
theorem i_148_13 : a_ins 148 13 = some (.return_, 1, 0, 0, 0) := by decide +kernel
theorem i_149_0 : a_ins 149 0 = some (.iconst (0), 1, 0, 0, 0) := by decide +kernel
theorem i_149_1 : a_ins 149 1 = some (.istore 4, 2, 0, 0, 0) := by decide +kernel
theorem i_149_3 : a_ins 149 3 = some (.iload 4, 2, 0, 0, 0) := by decide +kernel
theorem i_149_5 : a_ins 149 5 = some (.sipush (216), 3, 0, 0, 216) := by decide +kernel
theorem i_149_8 : a_ins 149 8 = some (.if_icmp .ge (21), 3, 29, 0, 0) := by decide +kernel
theorem i_149_11 : a_ins 149 11 = some (.aload_n 2, 1, 0, 0, 0) := by decide +kernel
theorem i_149_12 : a_ins 149 12 = some (.iload_n 3, 1, 0, 0, 0) := by decide +kernel
theorem i_149_13 : a_ins 149 13 = some (.iload 4, 2, 0, 0, 0) := by decide +kernel
theorem i_149_15 : a_ins 149 15 = some (.iadd, 1, 0, 0, 0) := by decide +kernel
theorem i_149_16 : a_ins 149 16 = some (.aload_n 0, 1, 0, 0, 0) := by decide +kernel
theorem i_149_17 : a_ins 149 17 = some (.iload_n 1, 1, 0, 0, 0) := by decide +kernel
theorem i_149_18 : a_ins 149 18 = some (.iload 4, 2, 0, 0, 0) := by decide +kernel
theorem i_149_20 : a_ins 149 20 = some (.iadd, 1, 0, 0, 0) := by decide +kernel
theorem i_149_21 : a_ins 149 21 = some (.iaload, 1, 0, 0, 0) := by decide +kernel
theorem i_149_22 : a_ins 149 22 = some (.iastore, 1, 0, 0, 0) := by decide +kernel
theorem i_149_23 : a_ins 149 23 = some (.iinc 4 (1), 3, 0, 0, 1) := by decide +kernel
theorem i_149_26 : a_ins 149 26 = some (.goto (-23), 3, 3, 0, 0) := by decide +kernel
theorem i_149_29 : a_ins 149 29 = some (.return_, 1, 0, 0, 0) := by decide +kernel
theorem i_150_0 : a_ins 150 0 = some (.iload_n 1, 1, 0, 0, 0) := by decide +kernel
theorem i_150_1 : a_ins 150 1 = some (.bipush (-2), 2, 0, 0, -2) := by decide +kernel
theorem i_150_3 : a_ins 150 3 = some (.if_icmp .le (7), 3, 10, 0, 0) := by decide +kernel
theorem i_150_6 : a_ins 150 6 = some (.aload_n 0, 1, 0, 0, 0) := by decide +kernel
theorem i_150_7 : a_ins 150 7 = some (.invokevirtual 94, 3, 151, 1, 0) := by decide +kernel
theorem i_150_10 : a_ins 150 10 = some (.iload_n 1, 1, 0, 0, 0) := by decide +kernel
theorem i_150_11 : a_ins 150 11 = some (.ireturn, 1, 0, 0, 0) := by decide +kernel
theorem i_151_0 : a_ins 151 0 = some (.aload_n 0, 1, 0, 0, 0) := by decide +kernel
theorem i_151_1 : a_ins 151 1 = some (.getfield 91, 3, 8, 5, 0) := by decide +kernel
theorem i_151_4 : a_ins 151 4 = some (.bipush (10), 2, 0, 0, 10) := by decide +kernel
theorem i_151_6 : a_ins 151 6 = some (.if_icmp .ne (44), 3, 50, 0, 0) := by decide +kernel
theorem i_151_9 : a_ins 151 9 = some (.iconst (0), 1, 0, 0, 0) := by decide +kernel
theorem i_151_10 : a_ins 151 10 = some (.istore_n 1, 1, 0, 0, 0) := by decide +kernel
theorem i_151_11 : a_ins 151 11 = some (.iload_n 1, 1, 0, 0, 0) := by decide +kernel
theorem i_151_12 : a_ins 151 12 = some (.sipush (1944), 3, 0, 0, 1944) := by decide +kernel
theorem i_151_15 : a_ins 151 15 = some (.if_icmp .ge (25), 3, 40, 0, 0) := by decide +kernel
theorem i_151_18 : a_ins 151 18 = some (.aload_n 0, 1, 0, 0, 0) := by decide +kernel
theorem i_151_19 : a_ins 151 19 = some (.getfield 17, 3, 8, 2, 0) := by decide +kernel
theorem i_151_22 : a_ins 151 22 = some (.iload_n 1, 1, 0, 0, 0) := by decide +kernel
theorem i_151_23 : a_ins 151 23 = some (.aload_n 0, 1, 0, 0, 0) := by decide +kernel
theorem i_151_24 : a_ins 151 24 = some (.getfield 17, 3, 8, 2, 0) := by decide +kernel
theorem i_151_27 : a_ins 151 27 = some (.sipush (216), 3, 0, 0, 216) := by decide +kernel
theorem i_151_30 : a_ins 151 30 = some (.iload_n 1, 1, 0, 0, 0) := by decide +kernel
theorem i_151_31 : a_ins 151 31 = some (.iadd, 1, 0, 0, 0) := by decide +kernel
theorem i_151_32 : a_ins 151 32 = some (.iaload, 1, 0, 0, 0) := by decide +kernel
theorem i_151_33 : a_ins 151 33 = some (.iastore, 1, 0, 0, 0) := by decide +kernel
theorem i_151_34 : a_ins 151 34 = some (.iinc 1 (1), 3, 0, 0, 1) := by decide +kernel
theorem i_151_37 : a_ins 151 37 = some (.goto (-26), 3, 11, 0, 0) := by decide +kernel
theorem i_151_40 : a_ins 151 40 = some (.aload_n 0, 1, 0, 0, 0) := by decide +kernel
theorem i_151_41 : a_ins 151 41 = some (.dup, 1, 0, 0, 0) := by decide +kernel
theorem i_151_42 : a_ins 151 42 = some (.getfield 91, 3, 8, 5, 0) := by decide +kernel
theorem i_151_45 : a_ins 151 45 = some (.iconst (1), 1, 0, 0, 1) := by decide +kernel
theorem i_151_46 : a_ins 151 46 = some (.isub, 1, 0, 0, 0) := by decide +kernel
theorem i_151_47 : a_ins 151 47 = some (.putfield 91, 3, 8, 5, 0) := by decide +kernel
theorem i_151_50 : a_ins 151 50 = some (.aload_n 0, 1, 0, 0, 0) := by decide +kernel
theorem i_151_51 : a_ins 151 51 = some (.getfield 23, 3, 8, 4, 0) := by decide +kernel
theorem i_151_54 : a_ins 151 54 = some (.iconst (0), 1, 0, 0, 0) := by decide +kernel
theorem i_151_55 : a_ins 151 55 = some (.aload_n 0, 1, 0, 0, 0) := by decide +kernel
theorem i_151_56 : a_ins 151 56 = some (.getfield 17, 3, 8, 2, 0) := by decide +kernel
theorem i_151_59 : a_ins 151 59 = some (.sipush (216), 3, 0, 0, 216) := by decide +kernel
theorem i_151_62 : a_ins 151 62 = some (.aload_n 0, 1, 0, 0, 0) := by decide +kernel
theorem i_151_63 : a_ins 151 63 = some (.getfield 91, 3, 8, 5, 0) := by decide +kernel
theorem i_151_66 : a_ins 151 66 = some (.imul, 1, 0, 0, 0) := by decide +kernel
theorem i_151_67 : a_ins 151 67 = some (.invokestatic 87, 3, 149, 4, 0) := by decide +kernel
theorem i_151_70 : a_ins 151 70 = some (.aload_n 0, 1, 0, 0, 0) := by decide +kernel
theorem i_151_71 : a_ins 151 71 = some (.dup, 1, 0, 0, 0) := by decide +kernel
theorem i_151_72 : a_ins 151 72 = some (.getfield 91, 3, 8, 5, 0) := by decide +kernel
theorem i_151_75 : a_ins 151 75 = some (.iconst (1), 1, 0, 0, 1) := by decide +kernel
theorem i_151_76 : a_ins 151 76 = some (.iadd, 1, 0, 0, 0) := by decide +kernel
theorem i_151_77 : a_ins 151 77 = some (.putfield 91, 3, 8, 5, 0) := by decide +kernel
theorem i_151_80 : a_ins 151 80 = some (.return_, 1, 0, 0, 0) := by decide +kernel
theorem i_152_0 : a_ins 152 0 = some (.aload_n 0, 1, 0, 0, 0) := by decide +kernel
theorem i_152_1 : a_ins 152 1 = some (.iconst (0), 1, 0, 0, 0) := by decide +kernel
theorem i_152_2 : a_ins 152 2 = some (.putfield 1, 3, 8, 0, 0) := by decide +kernel
theorem i_152_5 : a_ins 152 5 = some (.aload_n 0, 1, 0, 0, 0) := by decide +kernel
theorem i_152_6 : a_ins 152 6 = some (.invokevirtual 182, 3, 148, 1, 0) := by decide +kernel
theorem i_152_9 : a_ins 152 9 = some (.aload_n 0, 1, 0, 0, 0) := by decide +kernel
theorem i_152_10 : a_ins 152 10 = some (.aload_n 0, 1, 0, 0, 0) := by decide +kernel
theorem i_152_11 : a_ins 152 11 = some (.iload_n 1, 1, 0, 0, 0) := by decide +kernel
theorem i_152_12 : a_ins 152 12 = some (.iload_n 2, 1, 0, 0, 0) := by decide +kernel
theorem i_152_13 : a_ins 152 13 = some (.invokevirtual 188, 3, 153, 3, 0) := by decide +kernel
theorem i_152_16 : a_ins 152 16 = some (.invokevirtual 185, 3, 150, 2, 0) := by decide +kernel
theorem i_152_19 : a_ins 152 19 = some (.ireturn, 1, 0, 0, 0) := by decide +kernel
theorem i_153_0 : a_ins 153 0 = some (.aload_n 0, 1, 0, 0, 0) := by decide +kernel
theorem i_153_1 : a_ins 153 1 = some (.iload_n 1, 1, 0, 0, 0) := by decide +kernel
theorem i_153_2 : a_ins 153 2 = some (.invokevirtual 157, 3, 154, 2, 0) := by decide +kernel
theorem i_153_5 : a_ins 153 5 = some (.ifCond .ne (6), 3, 11, 0, 0) := by decide +kernel
theorem i_153_8 : a_ins 153 8 = some (.bipush (-2), 2, 0, 0, -2) := by decide +kernel
theorem i_153_10 : a_ins 153 10 = some (.ireturn, 1, 0, 0, 0) := by decide +kernel
theorem i_153_11 : a_ins 153 11 = some (.iload_n 2, 1, 0, 0, 0) := by decide +kernel
theorem i_153_12 : a_ins 153 12 = some (.i2l, 1, 0, 0, 0) := by decide +kernel
theorem i_153_13 : a_ins 153 13 = some (.lconst 0, 1, 0, 0, 0) := by decide +kernel
theorem i_153_14 : a_ins 153 14 = some (.lconst 1, 1, 0, 0, 1) := by decide +kernel
theorem i_153_15 : a_ins 153 15 = some (.invokestatic 68, 3, 147, 3, 0) := by decide +kernel
theorem i_153_18 : a_ins 153 18 = some (.ifCond .ne (6), 3, 24, 0, 0) := by decide +kernel
theorem i_153_21 : a_ins 153 21 = some (.bipush (-3), 2, 0, 0, -3) := by decide +kernel
theorem i_153_23 : a_ins 153 23 = some (.ireturn, 1, 0, 0, 0) := by decide +kernel
theorem i_153_24 : a_ins 153 24 = some (.aload_n 0, 1, 0, 0, 0) := by decide +kernel
theorem i_153_25 : a_ins 153 25 = some (.iload_n 1, 1, 0, 0, 0) := by decide +kernel
theorem i_153_26 : a_ins 153 26 = some (.iconst (0), 1, 0, 0, 0) := by decide +kernel
theorem i_153_27 : a_ins 153 27 = some (.invokevirtual 72, 3, 155, 3, 0) := by decide +kernel
theorem i_153_30 : a_ins 153 30 = some (.ifCond .eq (6), 3, 36, 0, 0) := by decide +kernel
theorem i_153_33 : a_ins 153 33 = some (.bipush (-5), 2, 0, 0, -5) := by decide +kernel
theorem i_153_35 : a_ins 153 35 = some (.ireturn, 1, 0, 0, 0) := by decide +kernel
theorem i_153_36 : a_ins 153 36 = some (.aload_n 0, 1, 0, 0, 0) := by decide +kernel
theorem i_153_37 : a_ins 153 37 = some (.iload_n 1, 1, 0, 0, 0) := by decide +kernel
theorem i_153_38 : a_ins 153 38 = some (.iconst (3), 1, 0, 0, 3) := by decide +kernel
theorem i_153_39 : a_ins 153 39 = some (.invokevirtual 72, 3, 155, 3, 0) := by decide +kernel
theorem i_153_42 : a_ins 153 42 = some (.istore_n 3, 1, 0, 0, 0) := by decide +kernel
theorem i_153_43 : a_ins 153 43 = some (.aload_n 0, 1, 0, 0, 0) := by decide +kernel
theorem i_153_44 : a_ins 153 44 = some (.iload_n 1, 1, 0, 0, 0) := by decide +kernel
theorem i_153_45 : a_ins 153 45 = some (.iconst (3), 1, 0, 0, 3) := by decide +kernel
theorem i_153_46 : a_ins 153 46 = some (.iload_n 2, 1, 0, 0, 0) := by decide +kernel
theorem i_153_47 : a_ins 153 47 = some (.invokevirtual 64, 3, 145, 4, 0) := by decide +kernel
theorem i_153_50 : a_ins 153 50 = some (.iload_n 3, 1, 0, 0, 0) := by decide +kernel
theorem i_153_51 : a_ins 153 51 = some (.ireturn, 1, 0, 0, 0) := by decide +kernel
theorem i_154_0 : a_ins 154 0 = some (.iload_n 1, 1, 0, 0, 0) := by decide +kernel
theorem i_154_1 : a_ins 154 1 = some (.i2l, 1, 0, 0, 0) := by decide +kernel
theorem i_154_2 : a_ins 154 2 = some (.lconst 0, 1, 0, 0, 0) := by decide +kernel
theorem i_154_3 : a_ins 154 3 = some (.aload_n 0, 1, 0, 0, 0) := by decide +kernel
theorem i_154_4 : a_ins 154 4 = some (.getfield 13, 3, 8, 1, 0) := by decide +kernel
theorem i_154_7 : a_ins 154 7 = some (.iconst (0), 1, 0, 0, 0) := by decide +kernel
theorem i_154_8 : a_ins 154 8 = some (.iaload, 1, 0, 0, 0) := by decide +kernel
theorem i_154_9 : a_ins 154 9 = some (.iconst (1), 1, 0, 0, 1) := by decide +kernel
theorem i_154_10 : a_ins 154 10 = some (.isub, 1, 0, 0, 0) := by decide +kernel
theorem i_154_11 : a_ins 154 11 = some (.i2l, 1, 0, 0, 0) := by decide +kernel
theorem i_154_12 : a_ins 154 12 = some (.invokestatic 68, 3, 147, 3, 0) := by decide +kernel
theorem i_154_15 : a_ins 154 15 = some (.ireturn, 1, 0, 0, 0) := by decide +kernel
theorem i_155_0 : a_ins 155 0 = some (.aload_n 0, 1, 0, 0, 0) := by decide +kernel
theorem i_155_1 : a_ins 155 1 = some (.getfield 13, 3, 8, 1, 0) := by decide +kernel
theorem i_155_4 : a_ins 155 4 = some (.iconst (5), 1, 0, 0, 5) := by decide +kernel
theorem i_155_5 : a_ins 155 5 = some (.bipush (6), 2, 0, 0, 6) := by decide +kernel
theorem i_155_7 : a_ins 155 7 = some (.iload_n 1, 1, 0, 0, 0) := by decide +kernel
theorem i_155_8 : a_ins 155 8 = some (.imul, 1, 0, 0, 0) := by decide +kernel
theorem i_155_9 : a_ins 155 9 = some (.iadd, 1, 0, 0, 0) := by decide +kernel
theorem i_155_10 : a_ins 155 10 = some (.iload_n 2, 1, 0, 0, 0) := by decide +kernel
theorem i_155_11 : a_ins 155 11 = some (.iadd, 1, 0, 0, 0) := by decide +kernel
theorem i_155_12 : a_ins 155 12 = some (.iaload, 1, 0, 0, 0) := by decide +kernel
theorem i_155_13 : a_ins 155 13 = some (.ireturn, 1, 0, 0, 0) := by decide +kernel
theorem i_156_0 : a_ins 156 0 = some (.aload_n 0, 1, 0, 0, 0) := by decide +kernel
theorem i_156_1 : a_ins 156 1 = some (.iconst (0), 1, 0, 0, 0) := by decide +kernel
theorem i_156_2 : a_ins 156 2 = some (.putfield 1, 3, 8, 0, 0) := by decide +kernel
theorem i_156_5 : a_ins 156 5 = some (.aload_n 0, 1, 0, 0, 0) := by decide +kernel
theorem i_156_6 : a_ins 156 6 = some (.iload_n 1, 1, 0, 0, 0) := by decide +kernel
theorem i_156_7 : a_ins 156 7 = some (.invokevirtual 157, 3, 154, 2, 0) := by decide +kernel
theorem i_156_10 : a_ins 156 10 = some (.ifCond .ne (6), 3, 16, 0, 0) := by decide +kernel
theorem i_156_13 : a_ins 156 13 = some (.bipush (-2), 2, 0, 0, -2) := by decide +kernel
theorem i_156_15 : a_ins 156 15 = some (.ireturn, 1, 0, 0, 0) := by decide +kernel
theorem i_156_16 : a_ins 156 16 = some (.iload_n 2, 1, 0, 0, 0) := by decide +kernel
theorem i_156_17 : a_ins 156 17 = some (.i2l, 1, 0, 0, 0) := by decide +kernel
theorem i_156_18 : a_ins 156 18 = some (.lconst 1, 1, 0, 0, 1) := by decide +kernel
theorem i_156_19 : a_ins 156 19 = some (.ldc2_w 191, 3, 0, 0, 3) := by decide +kernel
theorem i_156_22 : a_ins 156 22 = some (.invokestatic 68, 3, 147, 3, 0) := by decide +kernel
theorem i_156_25 : a_ins 156 25 = some (.ifCond .ne (6), 3, 31, 0, 0) := by decide +kernel
theorem i_156_28 : a_ins 156 28 = some (.bipush (-3), 2, 0, 0, -3) := by decide +kernel
theorem i_156_30 : a_ins 156 30 = some (.ireturn, 1, 0, 0, 0) := by decide +kernel
theorem i_156_31 : a_ins 156 31 = some (.aload_n 0, 1, 0, 0, 0) := by decide +kernel
theorem i_156_32 : a_ins 156 32 = some (.invokevirtual 193, 3, 157, 1, 0) := by decide +kernel
theorem i_156_35 : a_ins 156 35 = some (.ifCond .ne (6), 3, 41, 0, 0) := by decide +kernel
theorem i_156_38 : a_ins 156 38 = some (.bipush (-5), 2, 0, 0, -5) := by decide +kernel
theorem i_156_40 : a_ins 156 40 = some (.ireturn, 1, 0, 0, 0) := by decide +kernel
theorem i_156_41 : a_ins 156 41 = some (.aload_n 0, 1, 0, 0, 0) := by decide +kernel
theorem i_156_42 : a_ins 156 42 = some (.invokevirtual 182, 3, 148, 1, 0) := by decide +kernel
theorem i_156_45 : a_ins 156 45 = some (.aload_n 0, 1, 0, 0, 0) := by decide +kernel
theorem i_156_46 : a_ins 156 46 = some (.iload_n 1, 1, 0, 0, 0) := by decide +kernel
theorem i_156_47 : a_ins 156 47 = some (.iconst (4), 1, 0, 0, 4) := by decide +kernel
theorem i_156_48 : a_ins 156 48 = some (.invokevirtual 72, 3, 155, 3, 0) := by decide +kernel
theorem i_156_51 : a_ins 156 51 = some (.istore_n 3, 1, 0, 0, 0) := by decide +kernel
theorem i_156_52 : a_ins 156 52 = some (.aload_n 0, 1, 0, 0, 0) := by decide +kernel
theorem i_156_53 : a_ins 156 53 = some (.iload_n 1, 1, 0, 0, 0) := by decide +kernel
theorem i_156_54 : a_ins 156 54 = some (.iconst (4), 1, 0, 0, 4) := by decide +kernel
theorem i_156_55 : a_ins 156 55 = some (.iload_n 2, 1, 0, 0, 0) := by decide +kernel
theorem i_156_56 : a_ins 156 56 = some (.invokevirtual 64, 3, 145, 4, 0) := by decide +kernel
theorem i_156_59 : a_ins 156 59 = some (.aload_n 0, 1, 0, 0, 0) := by decide +kernel
theorem i_156_60 : a_ins 156 60 = some (.getfield 13, 3, 8, 1, 0) := by decide +kernel
theorem i_156_63 : a_ins 156 63 = some (.iconst (3), 1, 0, 0, 3) := by decide +kernel
theorem i_156_64 : a_ins 156 64 = some (.aload_n 0, 1, 0, 0, 0) := by decide +kernel
theorem i_156_65 : a_ins 156 65 = some (.aload_n 0, 1, 0, 0, 0) := by decide +kernel
theorem i_156_66 : a_ins 156 66 = some (.invokevirtual 142, 3, 159, 1, 0) := by decide +kernel
theorem i_156_69 : a_ins 156 69 = some (.invokevirtual 145, 3, 160, 2, 0) := by decide +kernel
theorem i_156_72 : a_ins 156 72 = some (.iconst (2), 1, 0, 0, 2) := by decide +kernel
theorem i_156_73 : a_ins 156 73 = some (.idiv, 1, 0, 0, 0) := by decide +kernel
theorem i_156_74 : a_ins 156 74 = some (.iconst (1), 1, 0, 0, 1) := by decide +kernel
theorem i_156_75 : a_ins 156 75 = some (.iadd, 1, 0, 0, 0) := by decide +kernel
theorem i_156_76 : a_ins 156 76 = some (.iastore, 1, 0, 0, 0) := by decide +kernel
theorem i_156_77 : a_ins 156 77 = some (.aload_n 0, 1, 0, 0, 0) := by decide +kernel
theorem i_156_78 : a_ins 156 78 = some (.getfield 13, 3, 8, 1, 0) := by decide +kernel
theorem i_156_81 : a_ins 156 81 = some (.iconst (4), 1, 0, 0, 4) := by decide +kernel
theorem i_156_82 : a_ins 156 82 = some (.aload_n 0, 1, 0, 0, 0) := by decide +kernel
theorem i_156_83 : a_ins 156 83 = some (.getfield 13, 3, 8, 1, 0) := by decide +kernel
theorem i_156_86 : a_ins 156 86 = some (.iconst (3), 1, 0, 0, 3) := by decide +kernel
theorem i_156_87 : a_ins 156 87 = some (.iaload, 1, 0, 0, 0) := by decide +kernel
theorem i_156_88 : a_ins 156 88 = some (.iastore, 1, 0, 0, 0) := by decide +kernel
theorem i_156_89 : a_ins 156 89 = some (.aload_n 0, 1, 0, 0, 0) := by decide +kernel
theorem i_156_90 : a_ins 156 90 = some (.iload_n 3, 1, 0, 0, 0) := by decide +kernel
theorem i_156_91 : a_ins 156 91 = some (.invokevirtual 185, 3, 150, 2, 0) := by decide +kernel
theorem i_156_94 : a_ins 156 94 = some (.ireturn, 1, 0, 0, 0) := by decide +kernel
theorem i_157_0 : a_ins 157 0 = some (.aload_n 0, 1, 0, 0, 0) := by decide +kernel
theorem i_157_1 : a_ins 157 1 = some (.iconst (0), 1, 0, 0, 0) := by decide +kernel
theorem i_157_2 : a_ins 157 2 = some (.iconst (0), 1, 0, 0, 0) := by decide +kernel
theorem i_157_3 : a_ins 157 3 = some (.invokevirtual 76, 3, 158, 3, 0) := by decide +kernel
theorem i_157_6 : a_ins 157 6 = some (.aload_n 0, 1, 0, 0, 0) := by decide +kernel
theorem i_157_7 : a_ins 157 7 = some (.invokevirtual 142, 3, 159, 1, 0) := by decide +kernel
theorem i_157_10 : a_ins 157 10 = some (.if_icmp .ne (7), 3, 17, 0, 0) := by decide +kernel
theorem i_157_13 : a_ins 157 13 = some (.iconst (1), 1, 0, 0, 1) := by decide +kernel
theorem i_157_14 : a_ins 157 14 = some (.goto (4), 3, 18, 0, 0) := by decide +kernel
theorem i_157_17 : a_ins 157 17 = some (.iconst (0), 1, 0, 0, 0) := by decide +kernel
theorem i_157_18 : a_ins 157 18 = some (.ireturn, 1, 0, 0, 0) := by decide +kernel
theorem i_158_0 : a_ins 158 0 = some (.iconst (0), 1, 0, 0, 0) := by decide +kernel
theorem i_158_1 : a_ins 158 1 = some (.istore_n 3, 1, 0, 0, 0) := by decide +kernel
theorem i_158_2 : a_ins 158 2 = some (.iconst (0), 1, 0, 0, 0) := by decide +kernel
theorem i_158_3 : a_ins 158 3 = some (.istore 4, 2, 0, 0, 0) := by decide +kernel
theorem i_158_5 : a_ins 158 5 = some (.iload 4, 2, 0, 0, 0) := by decide +kernel
theorem i_158_7 : a_ins 158 7 = some (.aload_n 0, 1, 0, 0, 0) := by decide +kernel
theorem i_158_8 : a_ins 158 8 = some (.getfield 13, 3, 8, 1, 0) := by decide +kernel
theorem i_158_11 : a_ins 158 11 = some (.iconst (0), 1, 0, 0, 0) := by decide +kernel
theorem i_158_12 : a_ins 158 12 = some (.iaload, 1, 0, 0, 0) := by decide +kernel
theorem i_158_13 : a_ins 158 13 = some (.if_icmp .ge (31), 3, 44, 0, 0) := by decide +kernel
theorem i_158_16 : a_ins 158 16 = some (.iload_n 3, 1, 0, 0, 0) := by decide +kernel
theorem i_158_17 : a_ins 158 17 = some (.aload_n 0, 1, 0, 0, 0) := by decide +kernel
theorem i_158_18 : a_ins 158 18 = some (.iload 4, 2, 0, 0, 0) := by decide +kernel
theorem i_158_20 : a_ins 158 20 = some (.iload_n 1, 1, 0, 0, 0) := by decide +kernel
theorem i_158_21 : a_ins 158 21 = some (.invokevirtual 72, 3, 155, 3, 0) := by decide +kernel
theorem i_158_24 : a_ins 158 24 = some (.iload_n 2, 1, 0, 0, 0) := by decide +kernel
theorem i_158_25 : a_ins 158 25 = some (.if_icmp .ne (10), 3, 35, 0, 0) := by decide +kernel
theorem i_158_28 : a_ins 158 28 = some (.iconst (1), 1, 0, 0, 1) := by decide +kernel
theorem i_158_29 : a_ins 158 29 = some (.iload 4, 2, 0, 0, 0) := by decide +kernel
theorem i_158_31 : a_ins 158 31 = some (.ishl, 1, 0, 0, 0) := by decide +kernel
theorem i_158_32 : a_ins 158 32 = some (.goto (4), 3, 36, 0, 0) := by decide +kernel
theorem i_158_35 : a_ins 158 35 = some (.iconst (0), 1, 0, 0, 0) := by decide +kernel
theorem i_158_36 : a_ins 158 36 = some (.ior, 1, 0, 0, 0) := by decide +kernel
theorem i_158_37 : a_ins 158 37 = some (.istore_n 3, 1, 0, 0, 0) := by decide +kernel
theorem i_158_38 : a_ins 158 38 = some (.iinc 4 (1), 3, 0, 0, 1) := by decide +kernel
theorem i_158_41 : a_ins 158 41 = some (.goto (-36), 3, 5, 0, 0) := by decide +kernel
theorem i_158_44 : a_ins 158 44 = some (.iload_n 3, 1, 0, 0, 0) := by decide +kernel
theorem i_158_45 : a_ins 158 45 = some (.ireturn, 1, 0, 0, 0) := by decide +kernel
theorem i_159_0 : a_ins 159 0 = some (.iconst (1), 1, 0, 0, 1) := by decide +kernel
theorem i_159_1 : a_ins 159 1 = some (.aload_n 0, 1, 0, 0, 0) := by decide +kernel
theorem i_159_2 : a_ins 159 2 = some (.getfield 13, 3, 8, 1, 0) := by decide +kernel
theorem i_159_5 : a_ins 159 5 = some (.iconst (0), 1, 0, 0, 0) := by decide +kernel
theorem i_159_6 : a_ins 159 6 = some (.iaload, 1, 0, 0, 0) := by decide +kernel
theorem i_159_7 : a_ins 159 7 = some (.ishl, 1, 0, 0, 0) := by decide +kernel
theorem i_159_8 : a_ins 159 8 = some (.iconst (1), 1, 0, 0, 1) := by decide +kernel
theorem i_159_9 : a_ins 159 9 = some (.isub, 1, 0, 0, 0) := by decide +kernel
theorem i_159_10 : a_ins 159 10 = some (.ireturn, 1, 0, 0, 0) := by decide +kernel
theorem i_160_0 : a_ins 160 0 = some (.iconst (0), 1, 0, 0, 0) := by decide +kernel
theorem i_160_1 : a_ins 160 1 = some (.istore_n 2, 1, 0, 0, 0) := by decide +kernel
theorem i_160_2 : a_ins 160 2 = some (.iconst (0), 1, 0, 0, 0) := by decide +kernel
theorem i_160_3 : a_ins 160 3 = some (.istore_n 3, 1, 0, 0, 0) := by decide +kernel
theorem i_160_4 : a_ins 160 4 = some (.iload_n 3, 1, 0, 0, 0) := by decide +kernel
theorem i_160_5 : a_ins 160 5 = some (.aload_n 0, 1, 0, 0, 0) := by decide +kernel
theorem i_160_6 : a_ins 160 6 = some (.getfield 13, 3, 8, 1, 0) := by decide +kernel
theorem i_160_9 : a_ins 160 9 = some (.iconst (0), 1, 0, 0, 0) := by decide +kernel
theorem i_160_10 : a_ins 160 10 = some (.iaload, 1, 0, 0, 0) := by decide +kernel
theorem i_160_11 : a_ins 160 11 = some (.if_icmp .ge (30), 3, 41, 0, 0) := by decide +kernel
theorem i_160_14 : a_ins 160 14 = some (.iload_n 2, 1, 0, 0, 0) := by decide +kernel
theorem i_160_15 : a_ins 160 15 = some (.iload_n 1, 1, 0, 0, 0) := by decide +kernel
theorem i_160_16 : a_ins 160 16 = some (.iload_n 3, 1, 0, 0, 0) := by decide +kernel
theorem i_160_17 : a_ins 160 17 = some (.invokestatic 79, 3, 161, 2, 0) := by decide +kernel
theorem i_160_20 : a_ins 160 20 = some (.ifCond .eq (12), 3, 32, 0, 0) := by decide +kernel
theorem i_160_23 : a_ins 160 23 = some (.aload_n 0, 1, 0, 0, 0) := by decide +kernel
theorem i_160_24 : a_ins 160 24 = some (.iload_n 3, 1, 0, 0, 0) := by decide +kernel
theorem i_160_25 : a_ins 160 25 = some (.iconst (4), 1, 0, 0, 4) := by decide +kernel
theorem i_160_26 : a_ins 160 26 = some (.invokevirtual 72, 3, 155, 3, 0) := by decide +kernel
theorem i_160_29 : a_ins 160 29 = some (.goto (4), 3, 33, 0, 0) := by decide +kernel
theorem i_160_32 : a_ins 160 32 = some (.iconst (0), 1, 0, 0, 0) := by decide +kernel
theorem i_160_33 : a_ins 160 33 = some (.iadd, 1, 0, 0, 0) := by decide +kernel
theorem i_160_34 : a_ins 160 34 = some (.istore_n 2, 1, 0, 0, 0) := by decide +kernel
theorem i_160_35 : a_ins 160 35 = some (.iinc 3 (1), 3, 0, 0, 1) := by decide +kernel
theorem i_160_38 : a_ins 160 38 = some (.goto (-34), 3, 4, 0, 0) := by decide +kernel
theorem i_160_41 : a_ins 160 41 = some (.iload_n 2, 1, 0, 0, 0) := by decide +kernel
theorem i_160_42 : a_ins 160 42 = some (.ireturn, 1, 0, 0, 0) := by decide +kernel
theorem i_161_0 : a_ins 161 0 = some (.iload_n 0, 1, 0, 0, 0) := by decide +kernel
theorem i_161_1 : a_ins 161 1 = some (.iload_n 1, 1, 0, 0, 0) := by decide +kernel
theorem i_161_2 : a_ins 161 2 = some (.ishr, 1, 0, 0, 0) := by decide +kernel
theorem i_161_3 : a_ins 161 3 = some (.iconst (1), 1, 0, 0, 1) := by decide +kernel
theorem i_161_4 : a_ins 161 4 = some (.iand, 1, 0, 0, 0) := by decide +kernel
theorem i_161_5 : a_ins 161 5 = some (.iconst (1), 1, 0, 0, 1) := by decide +kernel
theorem i_161_6 : a_ins 161 6 = some (.if_icmp .ne (7), 3, 13, 0, 0) := by decide +kernel
theorem i_161_9 : a_ins 161 9 = some (.iconst (1), 1, 0, 0, 1) := by decide +kernel
theorem i_161_10 : a_ins 161 10 = some (.goto (4), 3, 14, 0, 0) := by decide +kernel
theorem i_161_13 : a_ins 161 13 = some (.iconst (0), 1, 0, 0, 0) := by decide +kernel
theorem i_161_14 : a_ins 161 14 = some (.ireturn, 1, 0, 0, 0) := by decide +kernel
theorem i_162_0 : a_ins 162 0 = some (.aload_n 0, 1, 0, 0, 0) := by decide +kernel
theorem i_162_1 : a_ins 162 1 = some (.iconst (0), 1, 0, 0, 0) := by decide +kernel
theorem i_162_2 : a_ins 162 2 = some (.putfield 1, 3, 8, 0, 0) := by decide +kernel
theorem i_162_5 : a_ins 162 5 = some (.aload_n 0, 1, 0, 0, 0) := by decide +kernel
theorem i_162_6 : a_ins 162 6 = some (.aload_n 0, 1, 0, 0, 0) := by decide +kernel
theorem i_162_7 : a_ins 162 7 = some (.invokevirtual 142, 3, 159, 1, 0) := by decide +kernel
theorem i_162_10 : a_ins 162 10 = some (.invokevirtual 145, 3, 160, 2, 0) := by decide +kernel
theorem i_162_13 : a_ins 162 13 = some (.istore_n 3, 1, 0, 0, 0) := by decide +kernel
theorem i_162_14 : a_ins 162 14 = some (.iload_n 1, 1, 0, 0, 0) := by decide +kernel
theorem i_162_15 : a_ins 162 15 = some (.i2l, 1, 0, 0, 0) := by decide +kernel
theorem i_162_16 : a_ins 162 16 = some (.lconst 1, 1, 0, 0, 1) := by decide +kernel
theorem i_162_17 : a_ins 162 17 = some (.ldc2_w 197, 3, 0, 0, 15) := by decide +kernel
theorem i_162_20 : a_ins 162 20 = some (.invokestatic 68, 3, 147, 3, 0) := by decide +kernel
theorem i_162_23 : a_ins 162 23 = some (.ifCond .eq (22), 3, 45, 0, 0) := by decide +kernel
theorem i_162_26 : a_ins 162 26 = some (.iload_n 2, 1, 0, 0, 0) := by decide +kernel
theorem i_162_27 : a_ins 162 27 = some (.i2l, 1, 0, 0, 0) := by decide +kernel
theorem i_162_28 : a_ins 162 28 = some (.lconst 1, 1, 0, 0, 1) := by decide +kernel
theorem i_162_29 : a_ins 162 29 = some (.ldc2_w 197, 3, 0, 0, 15) := by decide +kernel
theorem i_162_32 : a_ins 162 32 = some (.invokestatic 68, 3, 147, 3, 0) := by decide +kernel
theorem i_162_35 : a_ins 162 35 = some (.ifCond .eq (10), 3, 45, 0, 0) := by decide +kernel
theorem i_162_38 : a_ins 162 38 = some (.iload_n 1, 1, 0, 0, 0) := by decide +kernel
theorem i_162_39 : a_ins 162 39 = some (.iload_n 2, 1, 0, 0, 0) := by decide +kernel
theorem i_162_40 : a_ins 162 40 = some (.iadd, 1, 0, 0, 0) := by decide +kernel
theorem i_162_41 : a_ins 162 41 = some (.iload_n 3, 1, 0, 0, 0) := by decide +kernel
theorem i_162_42 : a_ins 162 42 = some (.if_icmp .gt (6), 3, 48, 0, 0) := by decide +kernel
theorem i_162_45 : a_ins 162 45 = some (.bipush (-3), 2, 0, 0, -3) := by decide +kernel
theorem i_162_47 : a_ins 162 47 = some (.ireturn, 1, 0, 0, 0) := by decide +kernel
theorem i_162_48 : a_ins 162 48 = some (.aload_n 0, 1, 0, 0, 0) := by decide +kernel
theorem i_162_49 : a_ins 162 49 = some (.invokevirtual 193, 3, 157, 1, 0) := by decide +kernel
theorem i_162_52 : a_ins 162 52 = some (.ifCond .ne (6), 3, 58, 0, 0) := by decide +kernel
theorem i_162_55 : a_ins 162 55 = some (.bipush (-5), 2, 0, 0, -5) := by decide +kernel
theorem i_162_57 : a_ins 162 57 = some (.ireturn, 1, 0, 0, 0) := by decide +kernel
theorem i_162_58 : a_ins 162 58 = some (.aload_n 0, 1, 0, 0, 0) := by decide +kernel
theorem i_162_59 : a_ins 162 59 = some (.invokevirtual 182, 3, 148, 1, 0) := by decide +kernel
theorem i_162_62 : a_ins 162 62 = some (.aload_n 0, 1, 0, 0, 0) := by decide +kernel
theorem i_162_63 : a_ins 162 63 = some (.getfield 13, 3, 8, 1, 0) := by decide +kernel
theorem i_162_66 : a_ins 162 66 = some (.iconst (3), 1, 0, 0, 3) := by decide +kernel
theorem i_162_67 : a_ins 162 67 = some (.iload_n 1, 1, 0, 0, 0) := by decide +kernel
theorem i_162_68 : a_ins 162 68 = some (.iastore, 1, 0, 0, 0) := by decide +kernel
theorem i_162_69 : a_ins 162 69 = some (.aload_n 0, 1, 0, 0, 0) := by decide +kernel
theorem i_162_70 : a_ins 162 70 = some (.getfield 13, 3, 8, 1, 0) := by decide +kernel
theorem i_162_73 : a_ins 162 73 = some (.iconst (4), 1, 0, 0, 4) := by decide +kernel
theorem i_162_74 : a_ins 162 74 = some (.iload_n 2, 1, 0, 0, 0) := by decide +kernel
theorem i_162_75 : a_ins 162 75 = some (.iastore, 1, 0, 0, 0) := by decide +kernel
theorem i_162_76 : a_ins 162 76 = some (.aload_n 0, 1, 0, 0, 0) := by decide +kernel
theorem i_162_77 : a_ins 162 77 = some (.iload_n 3, 1, 0, 0, 0) := by decide +kernel
theorem i_162_78 : a_ins 162 78 = some (.invokevirtual 185, 3, 150, 2, 0) := by decide +kernel
theorem i_162_81 : a_ins 162 81 = some (.ireturn, 1, 0, 0, 0) := by decide +kernel
theorem i_163_0 : a_ins 163 0 = some (.aload_n 0, 1, 0, 0, 0) := by decide +kernel
theorem i_163_1 : a_ins 163 1 = some (.iconst (0), 1, 0, 0, 0) := by decide +kernel
theorem i_163_2 : a_ins 163 2 = some (.putfield 1, 3, 8, 0, 0) := by decide +kernel
theorem i_163_5 : a_ins 163 5 = some (.aload_n 0, 1, 0, 0, 0) := by decide +kernel
theorem i_163_6 : a_ins 163 6 = some (.invokevirtual 182, 3, 148, 1, 0) := by decide +kernel
theorem i_163_9 : a_ins 163 9 = some (.aload_n 0, 1, 0, 0, 0) := by decide +kernel
theorem i_163_10 : a_ins 163 10 = some (.aload_n 0, 1, 0, 0, 0) := by decide +kernel
theorem i_163_11 : a_ins 163 11 = some (.iload_n 1, 1, 0, 0, 0) := by decide +kernel
theorem i_163_12 : a_ins 163 12 = some (.invokevirtual 199, 3, 164, 2, 0) := by decide +kernel
theorem i_163_15 : a_ins 163 15 = some (.invokevirtual 185, 3, 150, 2, 0) := by decide +kernel
theorem i_163_18 : a_ins 163 18 = some (.ireturn, 1, 0, 0, 0) := by decide +kernel
theorem i_164_0 : a_ins 164 0 = some (.iload_n 1, 1, 0, 0, 0) := by decide +kernel
theorem i_164_1 : a_ins 164 1 = some (.invokestatic 133, 3, 165, 1, 0) := by decide +kernel
theorem i_164_4 : a_ins 164 4 = some (.ifCond .ne (6), 3, 10, 0, 0) := by decide +kernel
theorem i_164_7 : a_ins 164 7 = some (.bipush (-3), 2, 0, 0, -3) := by decide +kernel
theorem i_164_9 : a_ins 164 9 = some (.ireturn, 1, 0, 0, 0) := by decide +kernel
theorem i_164_10 : a_ins 164 10 = some (.aload_n 0, 1, 0, 0, 0) := by decide +kernel
theorem i_164_11 : a_ins 164 11 = some (.getfield 13, 3, 8, 1, 0) := by decide +kernel
theorem i_164_14 : a_ins 164 14 = some (.iconst (2), 1, 0, 0, 2) := by decide +kernel
theorem i_164_15 : a_ins 164 15 = some (.iaload, 1, 0, 0, 0) := by decide +kernel
theorem i_164_16 : a_ins 164 16 = some (.ifCond .ne (22), 3, 38, 0, 0) := by decide +kernel
theorem i_164_19 : a_ins 164 19 = some (.aload_n 0, 1, 0, 0, 0) := by decide +kernel
theorem i_164_20 : a_ins 164 20 = some (.iconst (0), 1, 0, 0, 0) := by decide +kernel
theorem i_164_21 : a_ins 164 21 = some (.iconst (1), 1, 0, 0, 1) := by decide +kernel
theorem i_164_22 : a_ins 164 22 = some (.invokevirtual 72, 3, 155, 3, 0) := by decide +kernel
theorem i_164_25 : a_ins 164 25 = some (.iconst (1), 1, 0, 0, 1) := by decide +kernel
theorem i_164_26 : a_ins 164 26 = some (.if_icmp .ne (12), 3, 38, 0, 0) := by decide +kernel
theorem i_164_29 : a_ins 164 29 = some (.aload_n 0, 1, 0, 0, 0) := by decide +kernel
theorem i_164_30 : a_ins 164 30 = some (.iconst (0), 1, 0, 0, 0) := by decide +kernel
theorem i_164_31 : a_ins 164 31 = some (.iconst (0), 1, 0, 0, 0) := by decide +kernel
theorem i_164_32 : a_ins 164 32 = some (.invokevirtual 72, 3, 155, 3, 0) := by decide +kernel
theorem i_164_35 : a_ins 164 35 = some (.ifCond .eq (6), 3, 41, 0, 0) := by decide +kernel
theorem i_164_38 : a_ins 164 38 = some (.bipush (-5), 2, 0, 0, -5) := by decide +kernel
theorem i_164_40 : a_ins 164 40 = some (.ireturn, 1, 0, 0, 0) := by decide +kernel
theorem i_164_41 : a_ins 164 41 = some (.aload_n 0, 1, 0, 0, 0) := by decide +kernel
theorem i_164_42 : a_ins 164 42 = some (.iload_n 1, 1, 0, 0, 0) := by decide +kernel
theorem i_164_43 : a_ins 164 43 = some (.invokevirtual 136, 3, 166, 2, 0) := by decide +kernel
theorem i_164_46 : a_ins 164 46 = some (.aload_n 0, 1, 0, 0, 0) := by decide +kernel
theorem i_164_47 : a_ins 164 47 = some (.iconst (0), 1, 0, 0, 0) := by decide +kernel
theorem i_164_48 : a_ins 164 48 = some (.iconst (3), 1, 0, 0, 3) := by decide +kernel
theorem i_164_49 : a_ins 164 49 = some (.invokevirtual 72, 3, 155, 3, 0) := by decide +kernel
theorem i_164_52 : a_ins 164 52 = some (.ifCond .ne (14), 3, 66, 0, 0) := by decide +kernel
theorem i_164_55 : a_ins 164 55 = some (.aload_n 0, 1, 0, 0, 0) := by decide +kernel
theorem i_164_56 : a_ins 164 56 = some (.invokevirtual 139, 3, 167, 1, 0) := by decide +kernel
theorem i_164_59 : a_ins 164 59 = some (.aload_n 0, 1, 0, 0, 0) := by decide +kernel
theorem i_164_60 : a_ins 164 60 = some (.getfield 13, 3, 8, 1, 0) := by decide +kernel
theorem i_164_63 : a_ins 164 63 = some (.iconst (2), 1, 0, 0, 2) := by decide +kernel
theorem i_164_64 : a_ins 164 64 = some (.iaload, 1, 0, 0, 0) := by decide +kernel
theorem i_164_65 : a_ins 164 65 = some (.ireturn, 1, 0, 0, 0) := by decide +kernel
theorem i_164_66 : a_ins 164 66 = some (.aload_n 0, 1, 0, 0, 0) := by decide +kernel
theorem i_164_67 : a_ins 164 67 = some (.iconst (0), 1, 0, 0, 0) := by decide +kernel
theorem i_164_68 : a_ins 164 68 = some (.iconst (1), 1, 0, 0, 1) := by decide +kernel
theorem i_164_69 : a_ins 164 69 = some (.invokevirtual 123, 3, 168, 3, 0) := by decide +kernel
theorem i_164_72 : a_ins 164 72 = some (.iconst (1), 1, 0, 0, 1) := by decide +kernel
theorem i_164_73 : a_ins 164 73 = some (.istore_n 2, 1, 0, 0, 0) := by decide +kernel
theorem i_164_74 : a_ins 164 74 = some (.iconst (1), 1, 0, 0, 1) := by decide +kernel
theorem i_164_75 : a_ins 164 75 = some (.istore_n 3, 1, 0, 0, 0) := by decide +kernel
theorem i_164_76 : a_ins 164 76 = some (.iload_n 3, 1, 0, 0, 0) := by decide +kernel
theorem i_164_77 : a_ins 164 77 = some (.aload_n 0, 1, 0, 0, 0) := by decide +kernel
theorem i_164_78 : a_ins 164 78 = some (.getfield 13, 3, 8, 1, 0) := by decide +kernel
theorem i_164_81 : a_ins 164 81 = some (.iconst (0), 1, 0, 0, 0) := by decide +kernel
theorem i_164_82 : a_ins 164 82 = some (.iaload, 1, 0, 0, 0) := by decide +kernel
theorem i_164_83 : a_ins 164 83 = some (.if_icmp .ge (70), 3, 153, 0, 0) := by decide +kernel
theorem i_164_86 : a_ins 164 86 = some (.aload_n 0, 1, 0, 0, 0) := by decide +kernel
theorem i_164_87 : a_ins 164 87 = some (.iconst (0), 1, 0, 0, 0) := by decide +kernel
theorem i_164_88 : a_ins 164 88 = some (.iload_n 3, 1, 0, 0, 0) := by decide +kernel
theorem i_164_89 : a_ins 164 89 = some (.invokevirtual 126, 3, 169, 3, 0) := by decide +kernel
theorem i_164_92 : a_ins 164 92 = some (.ifCond .eq (55), 3, 147, 0, 0) := by decide +kernel
theorem i_164_95 : a_ins 164 95 = some (.aload_n 0, 1, 0, 0, 0) := by decide +kernel
theorem i_164_96 : a_ins 164 96 = some (.iload_n 3, 1, 0, 0, 0) := by decide +kernel
theorem i_164_97 : a_ins 164 97 = some (.iconst (0), 1, 0, 0, 0) := by decide +kernel
theorem i_164_98 : a_ins 164 98 = some (.invokevirtual 72, 3, 155, 3, 0) := by decide +kernel
theorem i_164_101 : a_ins 164 101 = some (.ifCond .eq (6), 3, 107, 0, 0) := by decide +kernel
theorem i_164_104 : a_ins 164 104 = some (.goto (43), 3, 147, 0, 0) := by decide +kernel
theorem i_164_107 : a_ins 164 107 = some (.aload_n 0, 1, 0, 0, 0) := by decide +kernel
theorem i_164_108 : a_ins 164 108 = some (.iload_n 3, 1, 0, 0, 0) := by decide +kernel
theorem i_164_109 : a_ins 164 109 = some (.aload_n 0, 1, 0, 0, 0) := by decide +kernel
theorem i_164_110 : a_ins 164 110 = some (.iload_n 3, 1, 0, 0, 0) := by decide +kernel
theorem i_164_111 : a_ins 164 111 = some (.iconst (3), 1, 0, 0, 3) := by decide +kernel
theorem i_164_112 : a_ins 164 112 = some (.invokevirtual 72, 3, 155, 3, 0) := by decide +kernel
theorem i_164_115 : a_ins 164 115 = some (.iconst (1), 1, 0, 0, 1) := by decide +kernel
theorem i_164_116 : a_ins 164 116 = some (.if_icmp .ne (7), 3, 123, 0, 0) := by decide +kernel
theorem i_164_119 : a_ins 164 119 = some (.iconst (1), 1, 0, 0, 1) := by decide +kernel
theorem i_164_120 : a_ins 164 120 = some (.goto (4), 3, 124, 0, 0) := by decide +kernel
theorem i_164_123 : a_ins 164 123 = some (.iconst (5), 1, 0, 0, 5) := by decide +kernel
theorem i_164_124 : a_ins 164 124 = some (.invokevirtual 123, 3, 168, 3, 0) := by decide +kernel
theorem i_164_127 : a_ins 164 127 = some (.iload_n 2, 1, 0, 0, 0) := by decide +kernel
theorem i_164_128 : a_ins 164 128 = some (.aload_n 0, 1, 0, 0, 0) := by decide +kernel
theorem i_164_129 : a_ins 164 129 = some (.iload_n 3, 1, 0, 0, 0) := by decide +kernel
theorem i_164_130 : a_ins 164 130 = some (.iconst (0), 1, 0, 0, 0) := by decide +kernel
theorem i_164_131 : a_ins 164 131 = some (.invokevirtual 72, 3, 155, 3, 0) := by decide +kernel
theorem i_164_134 : a_ins 164 134 = some (.iconst (1), 1, 0, 0, 1) := by decide +kernel
theorem i_164_135 : a_ins 164 135 = some (.if_icmp .ne (9), 3, 144, 0, 0) := by decide +kernel
theorem i_164_138 : a_ins 164 138 = some (.iconst (1), 1, 0, 0, 1) := by decide +kernel
theorem i_164_139 : a_ins 164 139 = some (.iload_n 3, 1, 0, 0, 0) := by decide +kernel
theorem i_164_140 : a_ins 164 140 = some (.ishl, 1, 0, 0, 0) := by decide +kernel
theorem i_164_141 : a_ins 164 141 = some (.goto (4), 3, 145, 0, 0) := by decide +kernel
theorem i_164_144 : a_ins 164 144 = some (.iconst (0), 1, 0, 0, 0) := by decide +kernel
theorem i_164_145 : a_ins 164 145 = some (.ior, 1, 0, 0, 0) := by decide +kernel
theorem i_164_146 : a_ins 164 146 = some (.istore_n 2, 1, 0, 0, 0) := by decide +kernel
theorem i_164_147 : a_ins 164 147 = some (.iinc 3 (1), 3, 0, 0, 1) := by decide +kernel
theorem i_164_150 : a_ins 164 150 = some (.goto (-74), 3, 76, 0, 0) := by decide +kernel
theorem i_164_153 : a_ins 164 153 = some (.aload_n 0, 1, 0, 0, 0) := by decide +kernel
theorem i_164_154 : a_ins 164 154 = some (.iconst (0), 1, 0, 0, 0) := by decide +kernel
theorem i_164_155 : a_ins 164 155 = some (.invokevirtual 120, 3, 170, 2, 0) := by decide +kernel
theorem i_164_158 : a_ins 164 158 = some (.aload_n 0, 1, 0, 0, 0) := by decide +kernel
theorem i_164_159 : a_ins 164 159 = some (.getfield 108, 3, 8, 9, 0) := by decide +kernel
theorem i_164_162 : a_ins 164 162 = some (.ifCond .eq (10), 3, 172, 0, 0) := by decide +kernel
theorem i_164_165 : a_ins 164 165 = some (.aload_n 0, 1, 0, 0, 0) := by decide +kernel
theorem i_164_166 : a_ins 164 166 = some (.getfield 13, 3, 8, 1, 0) := by decide +kernel
theorem i_164_169 : a_ins 164 169 = some (.iconst (2), 1, 0, 0, 2) := by decide +kernel
theorem i_164_170 : a_ins 164 170 = some (.iaload, 1, 0, 0, 0) := by decide +kernel
theorem i_164_171 : a_ins 164 171 = some (.ireturn, 1, 0, 0, 0) := by decide +kernel
theorem i_164_172 : a_ins 164 172 = some (.iload_n 2, 1, 0, 0, 0) := by decide +kernel
theorem i_164_173 : a_ins 164 173 = some (.aload_n 0, 1, 0, 0, 0) := by decide +kernel
theorem i_164_174 : a_ins 164 174 = some (.invokevirtual 142, 3, 159, 1, 0) := by decide +kernel
theorem i_164_177 : a_ins 164 177 = some (.if_icmp .ne (13), 3, 190, 0, 0) := by decide +kernel
theorem i_164_180 : a_ins 164 180 = some (.aload_n 0, 1, 0, 0, 0) := by decide +kernel
theorem i_164_181 : a_ins 164 181 = some (.getfield 13, 3, 8, 1, 0) := by decide +kernel
theorem i_164_184 : a_ins 164 184 = some (.iconst (2), 1, 0, 0, 2) := by decide +kernel
theorem i_164_185 : a_ins 164 185 = some (.iconst (1), 1, 0, 0, 1) := by decide +kernel
theorem i_164_186 : a_ins 164 186 = some (.iastore, 1, 0, 0, 0) := by decide +kernel
theorem i_164_187 : a_ins 164 187 = some (.goto (7), 3, 194, 0, 0) := by decide +kernel
theorem i_164_190 : a_ins 164 190 = some (.aload_n 0, 1, 0, 0, 0) := by decide +kernel
theorem i_164_191 : a_ins 164 191 = some (.invokevirtual 139, 3, 167, 1, 0) := by decide +kernel
theorem i_164_194 : a_ins 164 194 = some (.aload_n 0, 1, 0, 0, 0) := by decide +kernel
theorem i_164_195 : a_ins 164 195 = some (.getfield 13, 3, 8, 1, 0) := by decide +kernel
theorem i_164_198 : a_ins 164 198 = some (.iconst (2), 1, 0, 0, 2) := by decide +kernel
theorem i_164_199 : a_ins 164 199 = some (.iaload, 1, 0, 0, 0) := by decide +kernel
theorem i_164_200 : a_ins 164 200 = some (.ireturn, 1, 0, 0, 0) := by decide +kernel
theorem i_165_0 : a_ins 165 0 = some (.iload_n 0, 1, 0, 0, 0) := by decide +kernel
theorem i_165_1 : a_ins 165 1 = some (.i2l, 1, 0, 0, 0) := by decide +kernel
theorem i_165_2 : a_ins 165 2 = some (.ldc2_w 112, 3, 0, 0, -1) := by decide +kernel
theorem i_165_5 : a_ins 165 5 = some (.ldc2_w 114, 3, 0, 0, 20) := by decide +kernel
theorem i_165_8 : a_ins 165 8 = some (.invokestatic 68, 3, 147, 3, 0) := by decide +kernel
theorem i_165_11 : a_ins 165 11 = some (.ireturn, 1, 0, 0, 0) := by decide +kernel
theorem i_166_0 : a_ins 166 0 = some (.aload_n 0, 1, 0, 0, 0) := by decide +kernel
theorem i_166_1 : a_ins 166 1 = some (.iconst (0), 1, 0, 0, 0) := by decide +kernel
theorem i_166_2 : a_ins 166 2 = some (.putfield 101, 3, 8, 7, 0) := by decide +kernel
theorem i_166_5 : a_ins 166 5 = some (.aload_n 0, 1, 0, 0, 0) := by decide +kernel
theorem i_166_6 : a_ins 166 6 = some (.iload_n 1, 1, 0, 0, 0) := by decide +kernel
theorem i_166_7 : a_ins 166 7 = some (.iconst (-1), 1, 0, 0, -1) := by decide +kernel
theorem i_166_8 : a_ins 166 8 = some (.if_icmp .ne (8), 3, 16, 0, 0) := by decide +kernel
theorem i_166_11 : a_ins 166 11 = some (.ldc 104, 2, 0, 0, 1048576) := by decide +kernel
theorem i_166_13 : a_ins 166 13 = some (.goto (4), 3, 17, 0, 0) := by decide +kernel
theorem i_166_16 : a_ins 166 16 = some (.iload_n 1, 1, 0, 0, 0) := by decide +kernel
theorem i_166_17 : a_ins 166 17 = some (.putfield 105, 3, 8, 8, 0) := by decide +kernel
theorem i_166_20 : a_ins 166 20 = some (.aload_n 0, 1, 0, 0, 0) := by decide +kernel
theorem i_166_21 : a_ins 166 21 = some (.iconst (0), 1, 0, 0, 0) := by decide +kernel
theorem i_166_22 : a_ins 166 22 = some (.putfield 108, 3, 8, 9, 0) := by decide +kernel
theorem i_166_25 : a_ins 166 25 = some (.return_, 1, 0, 0, 0) := by decide +kernel
theorem i_167_0 : a_ins 167 0 = some (.aload_n 0, 1, 0, 0, 0) := by decide +kernel
theorem i_167_1 : a_ins 167 1 = some (.iconst (0), 1, 0, 0, 0) := by decide +kernel
theorem i_167_2 : a_ins 167 2 = some (.iconst (5), 1, 0, 0, 5) := by decide +kernel
theorem i_167_3 : a_ins 167 3 = some (.invokevirtual 123, 3, 168, 3, 0) := by decide +kernel
theorem i_167_6 : a_ins 167 6 = some (.iconst (1), 1, 0, 0, 1) := by decide +kernel
theorem i_167_7 : a_ins 167 7 = some (.istore_n 1, 1, 0, 0, 0) := by decide +kernel
theorem i_167_8 : a_ins 167 8 = some (.iload_n 1, 1, 0, 0, 0) := by decide +kernel
theorem i_167_9 : a_ins 167 9 = some (.aload_n 0, 1, 0, 0, 0) := by decide +kernel
theorem i_167_10 : a_ins 167 10 = some (.getfield 13, 3, 8, 1, 0) := by decide +kernel
theorem i_167_13 : a_ins 167 13 = some (.iconst (0), 1, 0, 0, 0) := by decide +kernel
theorem i_167_14 : a_ins 167 14 = some (.iaload, 1, 0, 0, 0) := by decide +kernel
theorem i_167_15 : a_ins 167 15 = some (.if_icmp .ge (34), 3, 49, 0, 0) := by decide +kernel
theorem i_167_18 : a_ins 167 18 = some (.aload_n 0, 1, 0, 0, 0) := by decide +kernel
theorem i_167_19 : a_ins 167 19 = some (.iconst (0), 1, 0, 0, 0) := by decide +kernel
theorem i_167_20 : a_ins 167 20 = some (.iload_n 1, 1, 0, 0, 0) := by decide +kernel
theorem i_167_21 : a_ins 167 21 = some (.invokevirtual 126, 3, 169, 3, 0) := by decide +kernel
theorem i_167_24 : a_ins 167 24 = some (.ifCond .eq (19), 3, 43, 0, 0) := by decide +kernel
theorem i_167_27 : a_ins 167 27 = some (.aload_n 0, 1, 0, 0, 0) := by decide +kernel
theorem i_167_28 : a_ins 167 28 = some (.iconst (1), 1, 0, 0, 1) := by decide +kernel
theorem i_167_29 : a_ins 167 29 = some (.iload_n 1, 1, 0, 0, 0) := by decide +kernel
theorem i_167_30 : a_ins 167 30 = some (.ishl, 1, 0, 0, 0) := by decide +kernel
theorem i_167_31 : a_ins 167 31 = some (.invokevirtual 129, 3, 173, 2, 0) := by decide +kernel
theorem i_167_34 : a_ins 167 34 = some (.ifCond .ne (9), 3, 43, 0, 0) := by decide +kernel
theorem i_167_37 : a_ins 167 37 = some (.aload_n 0, 1, 0, 0, 0) := by decide +kernel
theorem i_167_38 : a_ins 167 38 = some (.iload_n 1, 1, 0, 0, 0) := by decide +kernel
theorem i_167_39 : a_ins 167 39 = some (.iconst (5), 1, 0, 0, 5) := by decide +kernel
theorem i_167_40 : a_ins 167 40 = some (.invokevirtual 123, 3, 168, 3, 0) := by decide +kernel
theorem i_167_43 : a_ins 167 43 = some (.iinc 1 (1), 3, 0, 0, 1) := by decide +kernel
theorem i_167_46 : a_ins 167 46 = some (.goto (-38), 3, 8, 0, 0) := by decide +kernel
theorem i_167_49 : a_ins 167 49 = some (.aload_n 0, 1, 0, 0, 0) := by decide +kernel
theorem i_167_50 : a_ins 167 50 = some (.iconst (0), 1, 0, 0, 0) := by decide +kernel
theorem i_167_51 : a_ins 167 51 = some (.invokevirtual 120, 3, 170, 2, 0) := by decide +kernel
theorem i_167_54 : a_ins 167 54 = some (.aload_n 0, 1, 0, 0, 0) := by decide +kernel
theorem i_167_55 : a_ins 167 55 = some (.getfield 13, 3, 8, 1, 0) := by decide +kernel
theorem i_167_58 : a_ins 167 58 = some (.iconst (2), 1, 0, 0, 2) := by decide +kernel
theorem i_167_59 : a_ins 167 59 = some (.iconst (3), 1, 0, 0, 3) := by decide +kernel
theorem i_167_60 : a_ins 167 60 = some (.iastore, 1, 0, 0, 0) := by decide +kernel
theorem i_167_61 : a_ins 167 61 = some (.return_, 1, 0, 0, 0) := by decide +kernel
theorem i_168_0 : a_ins 168 0 = some (.aload_n 0, 1, 0, 0, 0) := by decide +kernel
theorem i_168_1 : a_ins 168 1 = some (.iload_n 1, 1, 0, 0, 0) := by decide +kernel
theorem i_168_2 : a_ins 168 2 = some (.iconst (0), 1, 0, 0, 0) := by decide +kernel
theorem i_168_3 : a_ins 168 3 = some (.invokevirtual 72, 3, 155, 3, 0) := by decide +kernel
theorem i_168_6 : a_ins 168 6 = some (.iload_n 2, 1, 0, 0, 0) := by decide +kernel
theorem i_168_7 : a_ins 168 7 = some (.if_icmp .ne (4), 3, 11, 0, 0) := by decide +kernel
theorem i_168_10 : a_ins 168 10 = some (.return_, 1, 0, 0, 0) := by decide +kernel
theorem i_168_11 : a_ins 168 11 = some (.aload_n 0, 1, 0, 0, 0) := by decide +kernel
theorem i_168_12 : a_ins 168 12 = some (.getfield 13, 3, 8, 1, 0) := by decide +kernel
theorem i_168_15 : a_ins 168 15 = some (.bipush (35), 2, 0, 0, 35) := by decide +kernel
theorem i_168_17 : a_ins 168 17 = some (.iaload, 1, 0, 0, 0) := by decide +kernel
theorem i_168_18 : a_ins 168 18 = some (.bipush (60), 2, 0, 0, 60) := by decide +kernel
theorem i_168_20 : a_ins 168 20 = some (.if_icmp .ne (47), 3, 67, 0, 0) := by decide +kernel
theorem i_168_23 : a_ins 168 23 = some (.iconst (0), 1, 0, 0, 0) := by decide +kernel
theorem i_168_24 : a_ins 168 24 = some (.istore_n 3, 1, 0, 0, 0) := by decide +kernel
theorem i_168_25 : a_ins 168 25 = some (.iload_n 3, 1, 0, 0, 0) := by decide +kernel
theorem i_168_26 : a_ins 168 26 = some (.sipush (177), 3, 0, 0, 177) := by decide +kernel
theorem i_168_29 : a_ins 168 29 = some (.if_icmp .ge (27), 3, 56, 0, 0) := by decide +kernel
theorem i_168_32 : a_ins 168 32 = some (.aload_n 0, 1, 0, 0, 0) := by decide +kernel
theorem i_168_33 : a_ins 168 33 = some (.getfield 13, 3, 8, 1, 0) := by decide +kernel
theorem i_168_36 : a_ins 168 36 = some (.bipush (36), 2, 0, 0, 36) := by decide +kernel
theorem i_168_38 : a_ins 168 38 = some (.iload_n 3, 1, 0, 0, 0) := by decide +kernel
theorem i_168_39 : a_ins 168 39 = some (.iadd, 1, 0, 0, 0) := by decide +kernel
theorem i_168_40 : a_ins 168 40 = some (.aload_n 0, 1, 0, 0, 0) := by decide +kernel
theorem i_168_41 : a_ins 168 41 = some (.getfield 13, 3, 8, 1, 0) := by decide +kernel
theorem i_168_44 : a_ins 168 44 = some (.bipush (39), 2, 0, 0, 39) := by decide +kernel
theorem i_168_46 : a_ins 168 46 = some (.iload_n 3, 1, 0, 0, 0) := by decide +kernel
theorem i_168_47 : a_ins 168 47 = some (.iadd, 1, 0, 0, 0) := by decide +kernel
theorem i_168_48 : a_ins 168 48 = some (.iaload, 1, 0, 0, 0) := by decide +kernel
theorem i_168_49 : a_ins 168 49 = some (.iastore, 1, 0, 0, 0) := by decide +kernel
theorem i_168_50 : a_ins 168 50 = some (.iinc 3 (1), 3, 0, 0, 1) := by decide +kernel
theorem i_168_53 : a_ins 168 53 = some (.goto (-28), 3, 25, 0, 0) := by decide +kernel
theorem i_168_56 : a_ins 168 56 = some (.aload_n 0, 1, 0, 0, 0) := by decide +kernel
theorem i_168_57 : a_ins 168 57 = some (.getfield 13, 3, 8, 1, 0) := by decide +kernel
theorem i_168_60 : a_ins 168 60 = some (.bipush (35), 2, 0, 0, 35) := by decide +kernel
theorem i_168_62 : a_ins 168 62 = some (.dup2, 1, 0, 0, 0) := by decide +kernel
theorem i_168_63 : a_ins 168 63 = some (.iaload, 1, 0, 0, 0) := by decide +kernel
theorem i_168_64 : a_ins 168 64 = some (.iconst (1), 1, 0, 0, 1) := by decide +kernel
theorem i_168_65 : a_ins 168 65 = some (.isub, 1, 0, 0, 0) := by decide +kernel
theorem i_168_66 : a_ins 168 66 = some (.iastore, 1, 0, 0, 0) := by decide +kernel
theorem i_168_67 : a_ins 168 67 = some (.bipush (36), 2, 0, 0, 36) := by decide +kernel
theorem i_168_69 : a_ins 168 69 = some (.iconst (3), 1, 0, 0, 3) := by decide +kernel
theorem i_168_70 : a_ins 168 70 = some (.aload_n 0, 1, 0, 0, 0) := by decide +kernel
theorem i_168_71 : a_ins 168 71 = some (.getfield 13, 3, 8, 1, 0) := by decide +kernel
theorem i_168_74 : a_ins 168 74 = some (.bipush (35), 2, 0, 0, 35) := by decide +kernel
theorem i_168_76 : a_ins 168 76 = some (.iaload, 1, 0, 0, 0) := by decide +kernel
theorem i_168_77 : a_ins 168 77 = some (.imul, 1, 0, 0, 0) := by decide +kernel
theorem i_168_78 : a_ins 168 78 = some (.iadd, 1, 0, 0, 0) := by decide +kernel
theorem i_168_79 : a_ins 168 79 = some (.istore_n 3, 1, 0, 0, 0) := by decide +kernel
theorem i_168_80 : a_ins 168 80 = some (.aload_n 0, 1, 0, 0, 0) := by decide +kernel
theorem i_168_81 : a_ins 168 81 = some (.getfield 13, 3, 8, 1, 0) := by decide +kernel
theorem i_168_84 : a_ins 168 84 = some (.iload_n 3, 1, 0, 0, 0) := by decide +kernel
theorem i_168_85 : a_ins 168 85 = some (.iload_n 1, 1, 0, 0, 0) := by decide +kernel
theorem i_168_86 : a_ins 168 86 = some (.iastore, 1, 0, 0, 0) := by decide +kernel
theorem i_168_87 : a_ins 168 87 = some (.aload_n 0, 1, 0, 0, 0) := by decide +kernel
theorem i_168_88 : a_ins 168 88 = some (.getfield 13, 3, 8, 1, 0) := by decide +kernel
theorem i_168_91 : a_ins 168 91 = some (.iload_n 3, 1, 0, 0, 0) := by decide +kernel
theorem i_168_92 : a_ins 168 92 = some (.iconst (1), 1, 0, 0, 1) := by decide +kernel
theorem i_168_93 : a_ins 168 93 = some (.iadd, 1, 0, 0, 0) := by decide +kernel
theorem i_168_94 : a_ins 168 94 = some (.aload_n 0, 1, 0, 0, 0) := by decide +kernel
theorem i_168_95 : a_ins 168 95 = some (.iload_n 1, 1, 0, 0, 0) := by decide +kernel
theorem i_168_96 : a_ins 168 96 = some (.iconst (0), 1, 0, 0, 0) := by decide +kernel
theorem i_168_97 : a_ins 168 97 = some (.invokevirtual 72, 3, 155, 3, 0) := by decide +kernel
theorem i_168_100 : a_ins 168 100 = some (.iastore, 1, 0, 0, 0) := by decide +kernel
theorem i_168_101 : a_ins 168 101 = some (.aload_n 0, 1, 0, 0, 0) := by decide +kernel
theorem i_168_102 : a_ins 168 102 = some (.getfield 13, 3, 8, 1, 0) := by decide +kernel
theorem i_168_105 : a_ins 168 105 = some (.iload_n 3, 1, 0, 0, 0) := by decide +kernel
theorem i_168_106 : a_ins 168 106 = some (.iconst (2), 1, 0, 0, 2) := by decide +kernel
theorem i_168_107 : a_ins 168 107 = some (.iadd, 1, 0, 0, 0) := by decide +kernel
theorem i_168_108 : a_ins 168 108 = some (.iload_n 2, 1, 0, 0, 0) := by decide +kernel
theorem i_168_109 : a_ins 168 109 = some (.iastore, 1, 0, 0, 0) := by decide +kernel
theorem i_168_110 : a_ins 168 110 = some (.aload_n 0, 1, 0, 0, 0) := by decide +kernel
theorem i_168_111 : a_ins 168 111 = some (.getfield 13, 3, 8, 1, 0) := by decide +kernel
theorem i_168_114 : a_ins 168 114 = some (.bipush (35), 2, 0, 0, 35) := by decide +kernel
theorem i_168_116 : a_ins 168 116 = some (.dup2, 1, 0, 0, 0) := by decide +kernel
theorem i_168_117 : a_ins 168 117 = some (.iaload, 1, 0, 0, 0) := by decide +kernel
theorem i_168_118 : a_ins 168 118 = some (.iconst (1), 1, 0, 0, 1) := by decide +kernel
theorem i_168_119 : a_ins 168 119 = some (.iadd, 1, 0, 0, 0) := by decide +kernel
theorem i_168_120 : a_ins 168 120 = some (.iastore, 1, 0, 0, 0) := by decide +kernel
theorem i_168_121 : a_ins 168 121 = some (.aload_n 0, 1, 0, 0, 0) := by decide +kernel
theorem i_168_122 : a_ins 168 122 = some (.iload_n 1, 1, 0, 0, 0) := by decide +kernel
theorem i_168_123 : a_ins 168 123 = some (.iconst (0), 1, 0, 0, 0) := by decide +kernel
theorem i_168_124 : a_ins 168 124 = some (.iload_n 2, 1, 0, 0, 0) := by decide +kernel
theorem i_168_125 : a_ins 168 125 = some (.invokevirtual 64, 3, 145, 4, 0) := by decide +kernel
theorem i_168_128 : a_ins 168 128 = some (.return_, 1, 0, 0, 0) := by decide +kernel
theorem i_169_0 : a_ins 169 0 = some (.aload_n 0, 1, 0, 0, 0) := by decide +kernel
theorem i_169_1 : a_ins 169 1 = some (.iload_n 1, 1, 0, 0, 0) := by decide +kernel
theorem i_169_2 : a_ins 169 2 = some (.invokevirtual 120, 3, 170, 2, 0) := by decide +kernel
theorem i_169_5 : a_ins 169 5 = some (.aload_n 0, 1, 0, 0, 0) := by decide +kernel
theorem i_169_6 : a_ins 169 6 = some (.getfield 108, 3, 8, 9, 0) := by decide +kernel
theorem i_169_9 : a_ins 169 9 = some (.ifCond .eq (5), 3, 14, 0, 0) := by decide +kernel
theorem i_169_12 : a_ins 169 12 = some (.iconst (0), 1, 0, 0, 0) := by decide +kernel
theorem i_169_13 : a_ins 169 13 = some (.ireturn, 1, 0, 0, 0) := by decide +kernel
theorem i_169_14 : a_ins 169 14 = some (.aload_n 0, 1, 0, 0, 0) := by decide +kernel
theorem i_169_15 : a_ins 169 15 = some (.dup, 1, 0, 0, 0) := by decide +kernel
theorem i_169_16 : a_ins 169 16 = some (.getfield 101, 3, 8, 7, 0) := by decide +kernel
theorem i_169_19 : a_ins 169 19 = some (.iconst (1), 1, 0, 0, 1) := by decide +kernel
theorem i_169_20 : a_ins 169 20 = some (.iadd, 1, 0, 0, 0) := by decide +kernel
theorem i_169_21 : a_ins 169 21 = some (.putfield 101, 3, 8, 7, 0) := by decide +kernel
theorem i_169_24 : a_ins 169 24 = some (.aload_n 0, 1, 0, 0, 0) := by decide +kernel
theorem i_169_25 : a_ins 169 25 = some (.iload_n 2, 1, 0, 0, 0) := by decide +kernel
theorem i_169_26 : a_ins 169 26 = some (.iconst (1), 1, 0, 0, 1) := by decide +kernel
theorem i_169_27 : a_ins 169 27 = some (.invokevirtual 72, 3, 155, 3, 0) := by decide +kernel
theorem i_169_30 : a_ins 169 30 = some (.iconst (1), 1, 0, 0, 1) := by decide +kernel
theorem i_169_31 : a_ins 169 31 = some (.if_icmp .ne (22), 3, 53, 0, 0) := by decide +kernel
theorem i_169_34 : a_ins 169 34 = some (.aload_n 0, 1, 0, 0, 0) := by decide +kernel
theorem i_169_35 : a_ins 169 35 = some (.iload_n 2, 1, 0, 0, 0) := by decide +kernel
theorem i_169_36 : a_ins 169 36 = some (.iconst (2), 1, 0, 0, 2) := by decide +kernel
theorem i_169_37 : a_ins 169 37 = some (.invokevirtual 72, 3, 155, 3, 0) := by decide +kernel
theorem i_169_40 : a_ins 169 40 = some (.aload_n 0, 1, 0, 0, 0) := by decide +kernel
theorem i_169_41 : a_ins 169 41 = some (.iload_n 1, 1, 0, 0, 0) := by decide +kernel
theorem i_169_42 : a_ins 169 42 = some (.iconst (2), 1, 0, 0, 2) := by decide +kernel
theorem i_169_43 : a_ins 169 43 = some (.invokevirtual 72, 3, 155, 3, 0) := by decide +kernel
theorem i_169_46 : a_ins 169 46 = some (.if_icmp .ne (7), 3, 53, 0, 0) := by decide +kernel
theorem i_169_49 : a_ins 169 49 = some (.iconst (1), 1, 0, 0, 1) := by decide +kernel
theorem i_169_50 : a_ins 169 50 = some (.goto (4), 3, 54, 0, 0) := by decide +kernel
theorem i_169_53 : a_ins 169 53 = some (.iconst (0), 1, 0, 0, 0) := by decide +kernel
theorem i_169_54 : a_ins 169 54 = some (.ireturn, 1, 0, 0, 0) := by decide +kernel
theorem i_170_0 : a_ins 170 0 = some (.aload_n 0, 1, 0, 0, 0) := by decide +kernel
theorem i_170_1 : a_ins 170 1 = some (.getfield 108, 3, 8, 9, 0) := by decide +kernel
theorem i_170_4 : a_ins 170 4 = some (.ifCond .ne (14), 3, 18, 0, 0) := by decide +kernel
theorem i_170_7 : a_ins 170 7 = some (.aload_n 0, 1, 0, 0, 0) := by decide +kernel
theorem i_170_8 : a_ins 170 8 = some (.getfield 101, 3, 8, 7, 0) := by decide +kernel
theorem i_170_11 : a_ins 170 11 = some (.aload_n 0, 1, 0, 0, 0) := by decide +kernel
theorem i_170_12 : a_ins 170 12 = some (.getfield 105, 3, 8, 8, 0) := by decide +kernel
theorem i_170_15 : a_ins 170 15 = some (.if_icmp .eq (4), 3, 19, 0, 0) := by decide +kernel
theorem i_170_18 : a_ins 170 18 = some (.return_, 1, 0, 0, 0) := by decide +kernel
theorem i_170_19 : a_ins 170 19 = some (.aload_n 0, 1, 0, 0, 0) := by decide +kernel
theorem i_170_20 : a_ins 170 20 = some (.iconst (1), 1, 0, 0, 1) := by decide +kernel
theorem i_170_21 : a_ins 170 21 = some (.putfield 108, 3, 8, 9, 0) := by decide +kernel
theorem i_170_24 : a_ins 170 24 = some (.aload_n 0, 1, 0, 0, 0) := by decide +kernel
theorem i_170_25 : a_ins 170 25 = some (.iload_n 1, 1, 0, 0, 0) := by decide +kernel
theorem i_170_26 : a_ins 170 26 = some (.invokevirtual 116, 3, 171, 2, 0) := by decide +kernel
theorem i_170_29 : a_ins 170 29 = some (.return_, 1, 0, 0, 0) := by decide +kernel
theorem i_171_0 : a_ins 171 0 = some (.aload_n 0, 1, 0, 0, 0) := by decide +kernel
theorem i_171_1 : a_ins 171 1 = some (.iload_n 1, 1, 0, 0, 0) := by decide +kernel
theorem i_171_2 : a_ins 171 2 = some (.iconst (1), 1, 0, 0, 1) := by decide +kernel
theorem i_171_3 : a_ins 171 3 = some (.iconst (0), 1, 0, 0, 0) := by decide +kernel
theorem i_171_4 : a_ins 171 4 = some (.invokevirtual 64, 3, 145, 4, 0) := by decide +kernel
theorem i_171_7 : a_ins 171 7 = some (.aload_n 0, 1, 0, 0, 0) := by decide +kernel
theorem i_171_8 : a_ins 171 8 = some (.iload_n 1, 1, 0, 0, 0) := by decide +kernel
theorem i_171_9 : a_ins 171 9 = some (.invokevirtual 97, 3, 172, 2, 0) := by decide +kernel
theorem i_171_12 : a_ins 171 12 = some (.istore_n 2, 1, 0, 0, 0) := by decide +kernel
theorem i_171_13 : a_ins 171 13 = some (.iconst (0), 1, 0, 0, 0) := by decide +kernel
theorem i_171_14 : a_ins 171 14 = some (.istore_n 3, 1, 0, 0, 0) := by decide +kernel
theorem i_171_15 : a_ins 171 15 = some (.iload_n 3, 1, 0, 0, 0) := by decide +kernel
theorem i_171_16 : a_ins 171 16 = some (.aload_n 0, 1, 0, 0, 0) := by decide +kernel
theorem i_171_17 : a_ins 171 17 = some (.getfield 13, 3, 8, 1, 0) := by decide +kernel
theorem i_171_20 : a_ins 171 20 = some (.iconst (0), 1, 0, 0, 0) := by decide +kernel
theorem i_171_21 : a_ins 171 21 = some (.iaload, 1, 0, 0, 0) := by decide +kernel
theorem i_171_22 : a_ins 171 22 = some (.if_icmp .ge (35), 3, 57, 0, 0) := by decide +kernel
theorem i_171_25 : a_ins 171 25 = some (.iload_n 2, 1, 0, 0, 0) := by decide +kernel
theorem i_171_26 : a_ins 171 26 = some (.iload_n 3, 1, 0, 0, 0) := by decide +kernel
theorem i_171_27 : a_ins 171 27 = some (.invokestatic 79, 3, 161, 2, 0) := by decide +kernel
theorem i_171_30 : a_ins 171 30 = some (.ifCond .eq (21), 3, 51, 0, 0) := by decide +kernel
theorem i_171_33 : a_ins 171 33 = some (.aload_n 0, 1, 0, 0, 0) := by decide +kernel
theorem i_171_34 : a_ins 171 34 = some (.iload_n 3, 1, 0, 0, 0) := by decide +kernel
theorem i_171_35 : a_ins 171 35 = some (.iconst (5), 1, 0, 0, 5) := by decide +kernel
theorem i_171_36 : a_ins 171 36 = some (.aload_n 0, 1, 0, 0, 0) := by decide +kernel
theorem i_171_37 : a_ins 171 37 = some (.iload_n 3, 1, 0, 0, 0) := by decide +kernel
theorem i_171_38 : a_ins 171 38 = some (.iconst (5), 1, 0, 0, 5) := by decide +kernel
theorem i_171_39 : a_ins 171 39 = some (.invokevirtual 72, 3, 155, 3, 0) := by decide +kernel
theorem i_171_42 : a_ins 171 42 = some (.iconst (1), 1, 0, 0, 1) := by decide +kernel
theorem i_171_43 : a_ins 171 43 = some (.iload_n 1, 1, 0, 0, 0) := by decide +kernel
theorem i_171_44 : a_ins 171 44 = some (.ishl, 1, 0, 0, 0) := by decide +kernel
theorem i_171_45 : a_ins 171 45 = some (.iconst (-1), 1, 0, 0, -1) := by decide +kernel
theorem i_171_46 : a_ins 171 46 = some (.ixor, 1, 0, 0, 0) := by decide +kernel
theorem i_171_47 : a_ins 171 47 = some (.iand, 1, 0, 0, 0) := by decide +kernel
theorem i_171_48 : a_ins 171 48 = some (.invokevirtual 64, 3, 145, 4, 0) := by decide +kernel
theorem i_171_51 : a_ins 171 51 = some (.iinc 3 (1), 3, 0, 0, 1) := by decide +kernel
theorem i_171_54 : a_ins 171 54 = some (.goto (-39), 3, 15, 0, 0) := by decide +kernel
theorem i_171_57 : a_ins 171 57 = some (.iload_n 1, 1, 0, 0, 0) := by decide +kernel
theorem i_171_58 : a_ins 171 58 = some (.ifCond .ne (10), 3, 68, 0, 0) := by decide +kernel
theorem i_171_61 : a_ins 171 61 = some (.aload_n 0, 1, 0, 0, 0) := by decide +kernel
theorem i_171_62 : a_ins 171 62 = some (.getfield 13, 3, 8, 1, 0) := by decide +kernel
theorem i_171_65 : a_ins 171 65 = some (.iconst (2), 1, 0, 0, 2) := by decide +kernel
theorem i_171_66 : a_ins 171 66 = some (.iconst (3), 1, 0, 0, 3) := by decide +kernel
theorem i_171_67 : a_ins 171 67 = some (.iastore, 1, 0, 0, 0) := by decide +kernel
theorem i_171_68 : a_ins 171 68 = some (.return_, 1, 0, 0, 0) := by decide +kernel
theorem i_172_0 : a_ins 172 0 = some (.aload_n 0, 1, 0, 0, 0) := by decide +kernel
theorem i_172_1 : a_ins 172 1 = some (.iconst (1), 1, 0, 0, 1) := by decide +kernel
theorem i_172_2 : a_ins 172 2 = some (.iconst (1), 1, 0, 0, 1) := by decide +kernel
theorem i_172_3 : a_ins 172 3 = some (.invokevirtual 76, 3, 158, 3, 0) := by decide +kernel
theorem i_172_6 : a_ins 172 6 = some (.aload_n 0, 1, 0, 0, 0) := by decide +kernel
theorem i_172_7 : a_ins 172 7 = some (.iconst (2), 1, 0, 0, 2) := by decide +kernel
theorem i_172_8 : a_ins 172 8 = some (.aload_n 0, 1, 0, 0, 0) := by decide +kernel
theorem i_172_9 : a_ins 172 9 = some (.iload_n 1, 1, 0, 0, 0) := by decide +kernel
theorem i_172_10 : a_ins 172 10 = some (.iconst (2), 1, 0, 0, 2) := by decide +kernel
theorem i_172_11 : a_ins 172 11 = some (.invokevirtual 72, 3, 155, 3, 0) := by decide +kernel
theorem i_172_14 : a_ins 172 14 = some (.invokevirtual 76, 3, 158, 3, 0) := by decide +kernel
theorem i_172_17 : a_ins 172 17 = some (.iand, 1, 0, 0, 0) := by decide +kernel
theorem i_172_18 : a_ins 172 18 = some (.ireturn, 1, 0, 0, 0) := by decide +kernel
theorem i_173_0 : a_ins 173 0 = some (.iload_n 1, 1, 0, 0, 0) := by decide +kernel
theorem i_173_1 : a_ins 173 1 = some (.aload_n 0, 1, 0, 0, 0) := by decide +kernel
theorem i_173_2 : a_ins 173 2 = some (.invokevirtual 83, 3, 174, 1, 0) := by decide +kernel
theorem i_173_5 : a_ins 173 5 = some (.iconst (-1), 1, 0, 0, -1) := by decide +kernel
theorem i_173_6 : a_ins 173 6 = some (.ixor, 1, 0, 0, 0) := by decide +kernel
theorem i_173_7 : a_ins 173 7 = some (.iand, 1, 0, 0, 0) := by decide +kernel
theorem i_173_8 : a_ins 173 8 = some (.ifCond .ne (7), 3, 15, 0, 0) := by decide +kernel
theorem i_173_11 : a_ins 173 11 = some (.iconst (1), 1, 0, 0, 1) := by decide +kernel
theorem i_173_12 : a_ins 173 12 = some (.goto (4), 3, 16, 0, 0) := by decide +kernel
theorem i_173_15 : a_ins 173 15 = some (.iconst (0), 1, 0, 0, 0) := by decide +kernel
theorem i_173_16 : a_ins 173 16 = some (.ireturn, 1, 0, 0, 0) := by decide +kernel
theorem i_174_0 : a_ins 174 0 = some (.aload_n 0, 1, 0, 0, 0) := by decide +kernel
theorem i_174_1 : a_ins 174 1 = some (.iconst (0), 1, 0, 0, 0) := by decide +kernel
theorem i_174_2 : a_ins 174 2 = some (.iconst (4), 1, 0, 0, 4) := by decide +kernel
theorem i_174_3 : a_ins 174 3 = some (.invokevirtual 76, 3, 158, 3, 0) := by decide +kernel
theorem i_174_6 : a_ins 174 6 = some (.aload_n 0, 1, 0, 0, 0) := by decide +kernel
theorem i_174_7 : a_ins 174 7 = some (.iconst (0), 1, 0, 0, 0) := by decide +kernel
theorem i_174_8 : a_ins 174 8 = some (.iconst (5), 1, 0, 0, 5) := by decide +kernel
theorem i_174_9 : a_ins 174 9 = some (.invokevirtual 76, 3, 158, 3, 0) := by decide +kernel
theorem i_174_12 : a_ins 174 12 = some (.ior, 1, 0, 0, 0) := by decide +kernel
theorem i_174_13 : a_ins 174 13 = some (.ireturn, 1, 0, 0, 0) := by decide +kernel
theorem i_175_0 : a_ins 175 0 = some (.aload_n 0, 1, 0, 0, 0) := by decide +kernel
theorem i_175_1 : a_ins 175 1 = some (.iconst (0), 1, 0, 0, 0) := by decide +kernel
theorem i_175_2 : a_ins 175 2 = some (.putfield 1, 3, 8, 0, 0) := by decide +kernel
theorem i_175_5 : a_ins 175 5 = some (.aload_n 0, 1, 0, 0, 0) := by decide +kernel
theorem i_175_6 : a_ins 175 6 = some (.invokevirtual 182, 3, 148, 1, 0) := by decide +kernel
theorem i_175_9 : a_ins 175 9 = some (.aload_n 0, 1, 0, 0, 0) := by decide +kernel
theorem i_175_10 : a_ins 175 10 = some (.aload_n 0, 1, 0, 0, 0) := by decide +kernel
theorem i_175_11 : a_ins 175 11 = some (.iload_n 1, 1, 0, 0, 0) := by decide +kernel
theorem i_175_12 : a_ins 175 12 = some (.invokevirtual 202, 3, 176, 2, 0) := by decide +kernel
theorem i_175_15 : a_ins 175 15 = some (.invokevirtual 185, 3, 150, 2, 0) := by decide +kernel
theorem i_175_18 : a_ins 175 18 = some (.ireturn, 1, 0, 0, 0) := by decide +kernel
theorem i_176_0 : a_ins 176 0 = some (.iload_n 1, 1, 0, 0, 0) := by decide +kernel
theorem i_176_1 : a_ins 176 1 = some (.invokestatic 133, 3, 165, 1, 0) := by decide +kernel
theorem i_176_4 : a_ins 176 4 = some (.ifCond .ne (6), 3, 10, 0, 0) := by decide +kernel
theorem i_176_7 : a_ins 176 7 = some (.bipush (-3), 2, 0, 0, -3) := by decide +kernel
theorem i_176_9 : a_ins 176 9 = some (.ireturn, 1, 0, 0, 0) := by decide +kernel
theorem i_176_10 : a_ins 176 10 = some (.aload_n 0, 1, 0, 0, 0) := by decide +kernel
theorem i_176_11 : a_ins 176 11 = some (.getfield 13, 3, 8, 1, 0) := by decide +kernel
theorem i_176_14 : a_ins 176 14 = some (.iconst (2), 1, 0, 0, 2) := by decide +kernel
theorem i_176_15 : a_ins 176 15 = some (.iaload, 1, 0, 0, 0) := by decide +kernel
theorem i_176_16 : a_ins 176 16 = some (.iconst (1), 1, 0, 0, 1) := by decide +kernel
theorem i_176_17 : a_ins 176 17 = some (.if_icmp .ne (23), 3, 40, 0, 0) := by decide +kernel
theorem i_176_20 : a_ins 176 20 = some (.aload_n 0, 1, 0, 0, 0) := by decide +kernel
theorem i_176_21 : a_ins 176 21 = some (.iconst (0), 1, 0, 0, 0) := by decide +kernel
theorem i_176_22 : a_ins 176 22 = some (.iconst (1), 1, 0, 0, 1) := by decide +kernel
theorem i_176_23 : a_ins 176 23 = some (.invokevirtual 72, 3, 155, 3, 0) := by decide +kernel
theorem i_176_26 : a_ins 176 26 = some (.iconst (1), 1, 0, 0, 1) := by decide +kernel
theorem i_176_27 : a_ins 176 27 = some (.if_icmp .ne (13), 3, 40, 0, 0) := by decide +kernel
theorem i_176_30 : a_ins 176 30 = some (.aload_n 0, 1, 0, 0, 0) := by decide +kernel
theorem i_176_31 : a_ins 176 31 = some (.iconst (0), 1, 0, 0, 0) := by decide +kernel
theorem i_176_32 : a_ins 176 32 = some (.iconst (0), 1, 0, 0, 0) := by decide +kernel
theorem i_176_33 : a_ins 176 33 = some (.invokevirtual 72, 3, 155, 3, 0) := by decide +kernel
theorem i_176_36 : a_ins 176 36 = some (.iconst (1), 1, 0, 0, 1) := by decide +kernel
theorem i_176_37 : a_ins 176 37 = some (.if_icmp .eq (6), 3, 43, 0, 0) := by decide +kernel
theorem i_176_40 : a_ins 176 40 = some (.bipush (-5), 2, 0, 0, -5) := by decide +kernel
theorem i_176_42 : a_ins 176 42 = some (.ireturn, 1, 0, 0, 0) := by decide +kernel
theorem i_176_43 : a_ins 176 43 = some (.aload_n 0, 1, 0, 0, 0) := by decide +kernel
theorem i_176_44 : a_ins 176 44 = some (.iload_n 1, 1, 0, 0, 0) := by decide +kernel
theorem i_176_45 : a_ins 176 45 = some (.invokevirtual 136, 3, 166, 2, 0) := by decide +kernel
theorem i_176_48 : a_ins 176 48 = some (.aload_n 0, 1, 0, 0, 0) := by decide +kernel
theorem i_176_49 : a_ins 176 49 = some (.iconst (0), 1, 0, 0, 0) := by decide +kernel
theorem i_176_50 : a_ins 176 50 = some (.iconst (2), 1, 0, 0, 2) := by decide +kernel
theorem i_176_51 : a_ins 176 51 = some (.invokevirtual 123, 3, 168, 3, 0) := by decide +kernel
theorem i_176_54 : a_ins 176 54 = some (.iconst (1), 1, 0, 0, 1) := by decide +kernel
theorem i_176_55 : a_ins 176 55 = some (.istore_n 2, 1, 0, 0, 0) := by decide +kernel
theorem i_176_56 : a_ins 176 56 = some (.iconst (1), 1, 0, 0, 1) := by decide +kernel
theorem i_176_57 : a_ins 176 57 = some (.istore_n 3, 1, 0, 0, 0) := by decide +kernel
theorem i_176_58 : a_ins 176 58 = some (.iload_n 3, 1, 0, 0, 0) := by decide +kernel
theorem i_176_59 : a_ins 176 59 = some (.aload_n 0, 1, 0, 0, 0) := by decide +kernel
theorem i_176_60 : a_ins 176 60 = some (.getfield 13, 3, 8, 1, 0) := by decide +kernel
theorem i_176_63 : a_ins 176 63 = some (.iconst (0), 1, 0, 0, 0) := by decide +kernel
theorem i_176_64 : a_ins 176 64 = some (.iaload, 1, 0, 0, 0) := by decide +kernel
theorem i_176_65 : a_ins 176 65 = some (.if_icmp .ge (43), 3, 108, 0, 0) := by decide +kernel
theorem i_176_68 : a_ins 176 68 = some (.aload_n 0, 1, 0, 0, 0) := by decide +kernel
theorem i_176_69 : a_ins 176 69 = some (.iconst (0), 1, 0, 0, 0) := by decide +kernel
theorem i_176_70 : a_ins 176 70 = some (.iload_n 3, 1, 0, 0, 0) := by decide +kernel
theorem i_176_71 : a_ins 176 71 = some (.invokevirtual 126, 3, 169, 3, 0) := by decide +kernel
theorem i_176_74 : a_ins 176 74 = some (.ifCond .eq (28), 3, 102, 0, 0) := by decide +kernel
theorem i_176_77 : a_ins 176 77 = some (.aload_n 0, 1, 0, 0, 0) := by decide +kernel
theorem i_176_78 : a_ins 176 78 = some (.iload_n 3, 1, 0, 0, 0) := by decide +kernel
theorem i_176_79 : a_ins 176 79 = some (.iconst (0), 1, 0, 0, 0) := by decide +kernel
theorem i_176_80 : a_ins 176 80 = some (.invokevirtual 72, 3, 155, 3, 0) := by decide +kernel
theorem i_176_83 : a_ins 176 83 = some (.iconst (1), 1, 0, 0, 1) := by decide +kernel
theorem i_176_84 : a_ins 176 84 = some (.if_icmp .eq (6), 3, 90, 0, 0) := by decide +kernel
theorem i_176_87 : a_ins 176 87 = some (.goto (15), 3, 102, 0, 0) := by decide +kernel
theorem i_176_90 : a_ins 176 90 = some (.aload_n 0, 1, 0, 0, 0) := by decide +kernel
theorem i_176_91 : a_ins 176 91 = some (.iload_n 3, 1, 0, 0, 0) := by decide +kernel
theorem i_176_92 : a_ins 176 92 = some (.iconst (2), 1, 0, 0, 2) := by decide +kernel
theorem i_176_93 : a_ins 176 93 = some (.invokevirtual 123, 3, 168, 3, 0) := by decide +kernel
theorem i_176_96 : a_ins 176 96 = some (.iload_n 2, 1, 0, 0, 0) := by decide +kernel
theorem i_176_97 : a_ins 176 97 = some (.iconst (1), 1, 0, 0, 1) := by decide +kernel
theorem i_176_98 : a_ins 176 98 = some (.iload_n 3, 1, 0, 0, 0) := by decide +kernel
theorem i_176_99 : a_ins 176 99 = some (.ishl, 1, 0, 0, 0) := by decide +kernel
theorem i_176_100 : a_ins 176 100 = some (.ior, 1, 0, 0, 0) := by decide +kernel
theorem i_176_101 : a_ins 176 101 = some (.istore_n 2, 1, 0, 0, 0) := by decide +kernel
theorem i_176_102 : a_ins 176 102 = some (.iinc 3 (1), 3, 0, 0, 1) := by decide +kernel
theorem i_176_105 : a_ins 176 105 = some (.goto (-47), 3, 58, 0, 0) := by decide +kernel
theorem i_176_108 : a_ins 176 108 = some (.aload_n 0, 1, 0, 0, 0) := by decide +kernel
theorem i_176_109 : a_ins 176 109 = some (.iconst (0), 1, 0, 0, 0) := by decide +kernel
theorem i_176_110 : a_ins 176 110 = some (.invokevirtual 120, 3, 170, 2, 0) := by decide +kernel
theorem i_176_113 : a_ins 176 113 = some (.aload_n 0, 1, 0, 0, 0) := by decide +kernel
theorem i_176_114 : a_ins 176 114 = some (.getfield 108, 3, 8, 9, 0) := by decide +kernel
theorem i_176_117 : a_ins 176 117 = some (.ifCond .ne (37), 3, 154, 0, 0) := by decide +kernel
theorem i_176_120 : a_ins 176 120 = some (.aload_n 0, 1, 0, 0, 0) := by decide +kernel
theorem i_176_121 : a_ins 176 121 = some (.getfield 13, 3, 8, 1, 0) := by decide +kernel
theorem i_176_124 : a_ins 176 124 = some (.iconst (2), 1, 0, 0, 2) := by decide +kernel
theorem i_176_125 : a_ins 176 125 = some (.aload_n 0, 1, 0, 0, 0) := by decide +kernel
theorem i_176_126 : a_ins 176 126 = some (.getfield 13, 3, 8, 1, 0) := by decide +kernel
theorem i_176_129 : a_ins 176 129 = some (.iconst (1), 1, 0, 0, 1) := by decide +kernel
theorem i_176_130 : a_ins 176 130 = some (.iaload, 1, 0, 0, 0) := by decide +kernel
theorem i_176_131 : a_ins 176 131 = some (.ifCond .eq (17), 3, 148, 0, 0) := by decide +kernel
theorem i_176_134 : a_ins 176 134 = some (.aload_n 0, 1, 0, 0, 0) := by decide +kernel
theorem i_176_135 : a_ins 176 135 = some (.iload_n 2, 1, 0, 0, 0) := by decide +kernel
theorem i_176_136 : a_ins 176 136 = some (.invokevirtual 145, 3, 160, 2, 0) := by decide +kernel
theorem i_176_139 : a_ins 176 139 = some (.aload_n 0, 1, 0, 0, 0) := by decide +kernel
theorem i_176_140 : a_ins 176 140 = some (.getfield 13, 3, 8, 1, 0) := by decide +kernel
theorem i_176_143 : a_ins 176 143 = some (.iconst (3), 1, 0, 0, 3) := by decide +kernel
theorem i_176_144 : a_ins 176 144 = some (.iaload, 1, 0, 0, 0) := by decide +kernel
theorem i_176_145 : a_ins 176 145 = some (.if_icmp .lt (7), 3, 152, 0, 0) := by decide +kernel
theorem i_176_148 : a_ins 176 148 = some (.iconst (2), 1, 0, 0, 2) := by decide +kernel
theorem i_176_149 : a_ins 176 149 = some (.goto (4), 3, 153, 0, 0) := by decide +kernel
theorem i_176_152 : a_ins 176 152 = some (.iconst (3), 1, 0, 0, 3) := by decide +kernel
theorem i_176_153 : a_ins 176 153 = some (.iastore, 1, 0, 0, 0) := by decide +kernel
theorem i_176_154 : a_ins 176 154 = some (.aload_n 0, 1, 0, 0, 0) := by decide +kernel
theorem i_176_155 : a_ins 176 155 = some (.getfield 13, 3, 8, 1, 0) := by decide +kernel
theorem i_176_158 : a_ins 176 158 = some (.iconst (2), 1, 0, 0, 2) := by decide +kernel
theorem i_176_159 : a_ins 176 159 = some (.iaload, 1, 0, 0, 0) := by decide +kernel
theorem i_176_160 : a_ins 176 160 = some (.ireturn, 1, 0, 0, 0) := by decide +kernel
theorem i_177_0 : a_ins 177 0 = some (.aload_n 0, 1, 0, 0, 0) := by decide +kernel
theorem i_177_1 : a_ins 177 1 = some (.iconst (0), 1, 0, 0, 0) := by decide +kernel
theorem i_177_2 : a_ins 177 2 = some (.putfield 1, 3, 8, 0, 0) := by decide +kernel
theorem i_177_5 : a_ins 177 5 = some (.aload_n 0, 1, 0, 0, 0) := by decide +kernel
theorem i_177_6 : a_ins 177 6 = some (.invokevirtual 182, 3, 148, 1, 0) := by decide +kernel
theorem i_177_9 : a_ins 177 9 = some (.aload_n 0, 1, 0, 0, 0) := by decide +kernel
theorem i_177_10 : a_ins 177 10 = some (.aload_n 0, 1, 0, 0, 0) := by decide +kernel
theorem i_177_11 : a_ins 177 11 = some (.iload_n 1, 1, 0, 0, 0) := by decide +kernel
theorem i_177_12 : a_ins 177 12 = some (.invokevirtual 205, 3, 178, 2, 0) := by decide +kernel
theorem i_177_15 : a_ins 177 15 = some (.invokevirtual 185, 3, 150, 2, 0) := by decide +kernel
theorem i_177_18 : a_ins 177 18 = some (.ireturn, 1, 0, 0, 0) := by decide +kernel
theorem i_178_0 : a_ins 178 0 = some (.iload_n 1, 1, 0, 0, 0) := by decide +kernel
theorem i_178_1 : a_ins 178 1 = some (.invokestatic 133, 3, 165, 1, 0) := by decide +kernel
theorem i_178_4 : a_ins 178 4 = some (.ifCond .ne (6), 3, 10, 0, 0) := by decide +kernel
theorem i_178_7 : a_ins 178 7 = some (.bipush (-3), 2, 0, 0, -3) := by decide +kernel
theorem i_178_9 : a_ins 178 9 = some (.ireturn, 1, 0, 0, 0) := by decide +kernel
theorem i_178_10 : a_ins 178 10 = some (.aload_n 0, 1, 0, 0, 0) := by decide +kernel
theorem i_178_11 : a_ins 178 11 = some (.getfield 13, 3, 8, 1, 0) := by decide +kernel
theorem i_178_14 : a_ins 178 14 = some (.iconst (2), 1, 0, 0, 2) := by decide +kernel
theorem i_178_15 : a_ins 178 15 = some (.iaload, 1, 0, 0, 0) := by decide +kernel
theorem i_178_16 : a_ins 178 16 = some (.iconst (2), 1, 0, 0, 2) := by decide +kernel
theorem i_178_17 : a_ins 178 17 = some (.if_icmp .ne (23), 3, 40, 0, 0) := by decide +kernel
theorem i_178_20 : a_ins 178 20 = some (.aload_n 0, 1, 0, 0, 0) := by decide +kernel
theorem i_178_21 : a_ins 178 21 = some (.iconst (0), 1, 0, 0, 0) := by decide +kernel
theorem i_178_22 : a_ins 178 22 = some (.iconst (1), 1, 0, 0, 1) := by decide +kernel
theorem i_178_23 : a_ins 178 23 = some (.invokevirtual 72, 3, 155, 3, 0) := by decide +kernel
theorem i_178_26 : a_ins 178 26 = some (.iconst (1), 1, 0, 0, 1) := by decide +kernel
theorem i_178_27 : a_ins 178 27 = some (.if_icmp .ne (13), 3, 40, 0, 0) := by decide +kernel
theorem i_178_30 : a_ins 178 30 = some (.aload_n 0, 1, 0, 0, 0) := by decide +kernel
theorem i_178_31 : a_ins 178 31 = some (.iconst (0), 1, 0, 0, 0) := by decide +kernel
theorem i_178_32 : a_ins 178 32 = some (.iconst (0), 1, 0, 0, 0) := by decide +kernel
theorem i_178_33 : a_ins 178 33 = some (.invokevirtual 72, 3, 155, 3, 0) := by decide +kernel
theorem i_178_36 : a_ins 178 36 = some (.iconst (2), 1, 0, 0, 2) := by decide +kernel
theorem i_178_37 : a_ins 178 37 = some (.if_icmp .eq (6), 3, 43, 0, 0) := by decide +kernel
theorem i_178_40 : a_ins 178 40 = some (.bipush (-5), 2, 0, 0, -5) := by decide +kernel
theorem i_178_42 : a_ins 178 42 = some (.ireturn, 1, 0, 0, 0) := by decide +kernel
theorem i_178_43 : a_ins 178 43 = some (.aload_n 0, 1, 0, 0, 0) := by decide +kernel
theorem i_178_44 : a_ins 178 44 = some (.iload_n 1, 1, 0, 0, 0) := by decide +kernel
theorem i_178_45 : a_ins 178 45 = some (.invokevirtual 136, 3, 166, 2, 0) := by decide +kernel
theorem i_178_48 : a_ins 178 48 = some (.aload_n 0, 1, 0, 0, 0) := by decide +kernel
theorem i_178_49 : a_ins 178 49 = some (.iconst (0), 1, 0, 0, 0) := by decide +kernel
theorem i_178_50 : a_ins 178 50 = some (.iconst (4), 1, 0, 0, 4) := by decide +kernel
theorem i_178_51 : a_ins 178 51 = some (.invokevirtual 123, 3, 168, 3, 0) := by decide +kernel
theorem i_178_54 : a_ins 178 54 = some (.iconst (1), 1, 0, 0, 1) := by decide +kernel
theorem i_178_55 : a_ins 178 55 = some (.istore_n 2, 1, 0, 0, 0) := by decide +kernel
theorem i_178_56 : a_ins 178 56 = some (.iload_n 2, 1, 0, 0, 0) := by decide +kernel
theorem i_178_57 : a_ins 178 57 = some (.aload_n 0, 1, 0, 0, 0) := by decide +kernel
theorem i_178_58 : a_ins 178 58 = some (.getfield 13, 3, 8, 1, 0) := by decide +kernel
theorem i_178_61 : a_ins 178 61 = some (.iconst (0), 1, 0, 0, 0) := by decide +kernel
theorem i_178_62 : a_ins 178 62 = some (.iaload, 1, 0, 0, 0) := by decide +kernel
theorem i_178_63 : a_ins 178 63 = some (.if_icmp .ge (34), 3, 97, 0, 0) := by decide +kernel
theorem i_178_66 : a_ins 178 66 = some (.aload_n 0, 1, 0, 0, 0) := by decide +kernel
theorem i_178_67 : a_ins 178 67 = some (.iconst (0), 1, 0, 0, 0) := by decide +kernel
theorem i_178_68 : a_ins 178 68 = some (.iload_n 2, 1, 0, 0, 0) := by decide +kernel
theorem i_178_69 : a_ins 178 69 = some (.invokevirtual 126, 3, 169, 3, 0) := by decide +kernel
theorem i_178_72 : a_ins 178 72 = some (.ifCond .eq (19), 3, 91, 0, 0) := by decide +kernel
theorem i_178_75 : a_ins 178 75 = some (.aload_n 0, 1, 0, 0, 0) := by decide +kernel
theorem i_178_76 : a_ins 178 76 = some (.iload_n 2, 1, 0, 0, 0) := by decide +kernel
theorem i_178_77 : a_ins 178 77 = some (.iconst (0), 1, 0, 0, 0) := by decide +kernel
theorem i_178_78 : a_ins 178 78 = some (.invokevirtual 72, 3, 155, 3, 0) := by decide +kernel
theorem i_178_81 : a_ins 178 81 = some (.iconst (5), 1, 0, 0, 5) := by decide +kernel
theorem i_178_82 : a_ins 178 82 = some (.if_icmp .eq (9), 3, 91, 0, 0) := by decide +kernel
theorem i_178_85 : a_ins 178 85 = some (.aload_n 0, 1, 0, 0, 0) := by decide +kernel
theorem i_178_86 : a_ins 178 86 = some (.iload_n 2, 1, 0, 0, 0) := by decide +kernel
theorem i_178_87 : a_ins 178 87 = some (.iconst (4), 1, 0, 0, 4) := by decide +kernel
theorem i_178_88 : a_ins 178 88 = some (.invokevirtual 123, 3, 168, 3, 0) := by decide +kernel
theorem i_178_91 : a_ins 178 91 = some (.iinc 2 (1), 3, 0, 0, 1) := by decide +kernel
theorem i_178_94 : a_ins 178 94 = some (.goto (-38), 3, 56, 0, 0) := by decide +kernel
theorem i_178_97 : a_ins 178 97 = some (.aload_n 0, 1, 0, 0, 0) := by decide +kernel
theorem i_178_98 : a_ins 178 98 = some (.iconst (0), 1, 0, 0, 0) := by decide +kernel
theorem i_178_99 : a_ins 178 99 = some (.invokevirtual 120, 3, 170, 2, 0) := by decide +kernel
theorem i_178_102 : a_ins 178 102 = some (.aload_n 0, 1, 0, 0, 0) := by decide +kernel
theorem i_178_103 : a_ins 178 103 = some (.getfield 13, 3, 8, 1, 0) := by decide +kernel
theorem i_178_106 : a_ins 178 106 = some (.iconst (2), 1, 0, 0, 2) := by decide +kernel
theorem i_178_107 : a_ins 178 107 = some (.iconst (3), 1, 0, 0, 3) := by decide +kernel
theorem i_178_108 : a_ins 178 108 = some (.iastore, 1, 0, 0, 0) := by decide +kernel
theorem i_178_109 : a_ins 178 109 = some (.aload_n 0, 1, 0, 0, 0) := by decide +kernel
theorem i_178_110 : a_ins 178 110 = some (.iconst (0), 1, 0, 0, 0) := by decide +kernel
theorem i_178_111 : a_ins 178 111 = some (.iconst (4), 1, 0, 0, 4) := by decide +kernel
theorem i_178_112 : a_ins 178 112 = some (.invokevirtual 76, 3, 158, 3, 0) := by decide +kernel
theorem i_178_115 : a_ins 178 115 = some (.invokestatic 148, 3, 179, 1, 0) := by decide +kernel
theorem i_178_118 : a_ins 178 118 = some (.ireturn, 1, 0, 0, 0) := by decide +kernel
theorem i_179_0 : a_ins 179 0 = some (.iconst (0), 1, 0, 0, 0) := by decide +kernel
theorem i_179_1 : a_ins 179 1 = some (.istore_n 1, 1, 0, 0, 0) := by decide +kernel
theorem i_179_2 : a_ins 179 2 = some (.iconst (0), 1, 0, 0, 0) := by decide +kernel
theorem i_179_3 : a_ins 179 3 = some (.istore_n 2, 1, 0, 0, 0) := by decide +kernel
theorem i_179_4 : a_ins 179 4 = some (.iload_n 2, 1, 0, 0, 0) := by decide +kernel
theorem i_179_5 : a_ins 179 5 = some (.iconst (5), 1, 0, 0, 5) := by decide +kernel
theorem i_179_6 : a_ins 179 6 = some (.if_icmp .ge (17), 3, 23, 0, 0) := by decide +kernel
theorem i_179_9 : a_ins 179 9 = some (.iload_n 1, 1, 0, 0, 0) := by decide +kernel
theorem i_179_10 : a_ins 179 10 = some (.iload_n 0, 1, 0, 0, 0) := by decide +kernel
theorem i_179_11 : a_ins 179 11 = some (.iload_n 2, 1, 0, 0, 0) := by decide +kernel
theorem i_179_12 : a_ins 179 12 = some (.ishr, 1, 0, 0, 0) := by decide +kernel
theorem i_179_13 : a_ins 179 13 = some (.iconst (1), 1, 0, 0, 1) := by decide +kernel
theorem i_179_14 : a_ins 179 14 = some (.iand, 1, 0, 0, 0) := by decide +kernel
theorem i_179_15 : a_ins 179 15 = some (.iadd, 1, 0, 0, 0) := by decide +kernel
theorem i_179_16 : a_ins 179 16 = some (.istore_n 1, 1, 0, 0, 0) := by decide +kernel
theorem i_179_17 : a_ins 179 17 = some (.iinc 2 (1), 3, 0, 0, 1) := by decide +kernel
theorem i_179_20 : a_ins 179 20 = some (.goto (-16), 3, 4, 0, 0) := by decide +kernel
theorem i_179_23 : a_ins 179 23 = some (.iload_n 1, 1, 0, 0, 0) := by decide +kernel
theorem i_179_24 : a_ins 179 24 = some (.ireturn, 1, 0, 0, 0) := by decide +kernel
theorem i_180_0 : a_ins 180 0 = some (.aload_n 0, 1, 0, 0, 0) := by decide +kernel
theorem i_180_1 : a_ins 180 1 = some (.iconst (0), 1, 0, 0, 0) := by decide +kernel
theorem i_180_2 : a_ins 180 2 = some (.putfield 1, 3, 8, 0, 0) := by decide +kernel
theorem i_180_5 : a_ins 180 5 = some (.aload_n 0, 1, 0, 0, 0) := by decide +kernel
theorem i_180_6 : a_ins 180 6 = some (.invokevirtual 182, 3, 148, 1, 0) := by decide +kernel
theorem i_180_9 : a_ins 180 9 = some (.aload_n 0, 1, 0, 0, 0) := by decide +kernel
theorem i_180_10 : a_ins 180 10 = some (.aload_n 0, 1, 0, 0, 0) := by decide +kernel
theorem i_180_11 : a_ins 180 11 = some (.iload_n 1, 1, 0, 0, 0) := by decide +kernel
theorem i_180_12 : a_ins 180 12 = some (.invokevirtual 208, 3, 181, 2, 0) := by decide +kernel
theorem i_180_15 : a_ins 180 15 = some (.invokevirtual 185, 3, 150, 2, 0) := by decide +kernel
theorem i_180_18 : a_ins 180 18 = some (.ireturn, 1, 0, 0, 0) := by decide +kernel
theorem i_181_0 : a_ins 181 0 = some (.aload_n 0, 1, 0, 0, 0) := by decide +kernel
theorem i_181_1 : a_ins 181 1 = some (.iload_n 1, 1, 0, 0, 0) := by decide +kernel
theorem i_181_2 : a_ins 181 2 = some (.invokevirtual 157, 3, 154, 2, 0) := by decide +kernel
theorem i_181_5 : a_ins 181 5 = some (.ifCond .ne (6), 3, 11, 0, 0) := by decide +kernel
theorem i_181_8 : a_ins 181 8 = some (.bipush (-2), 2, 0, 0, -2) := by decide +kernel
theorem i_181_10 : a_ins 181 10 = some (.ireturn, 1, 0, 0, 0) := by decide +kernel
theorem i_181_11 : a_ins 181 11 = some (.aload_n 0, 1, 0, 0, 0) := by decide +kernel
theorem i_181_12 : a_ins 181 12 = some (.iload_n 1, 1, 0, 0, 0) := by decide +kernel
theorem i_181_13 : a_ins 181 13 = some (.iconst (1), 1, 0, 0, 1) := by decide +kernel
theorem i_181_14 : a_ins 181 14 = some (.invokevirtual 72, 3, 155, 3, 0) := by decide +kernel
theorem i_181_17 : a_ins 181 17 = some (.ifCond .ne (6), 3, 23, 0, 0) := by decide +kernel
theorem i_181_20 : a_ins 181 20 = some (.bipush (-5), 2, 0, 0, -5) := by decide +kernel
theorem i_181_22 : a_ins 181 22 = some (.ireturn, 1, 0, 0, 0) := by decide +kernel
theorem i_181_23 : a_ins 181 23 = some (.aload_n 0, 1, 0, 0, 0) := by decide +kernel
theorem i_181_24 : a_ins 181 24 = some (.iload_n 1, 1, 0, 0, 0) := by decide +kernel
theorem i_181_25 : a_ins 181 25 = some (.invokevirtual 116, 3, 171, 2, 0) := by decide +kernel
theorem i_181_28 : a_ins 181 28 = some (.aload_n 0, 1, 0, 0, 0) := by decide +kernel
theorem i_181_29 : a_ins 181 29 = some (.iconst (1), 1, 0, 0, 1) := by decide +kernel
theorem i_181_30 : a_ins 181 30 = some (.iconst (1), 1, 0, 0, 1) := by decide +kernel
theorem i_181_31 : a_ins 181 31 = some (.invokevirtual 76, 3, 158, 3, 0) := by decide +kernel
theorem i_181_34 : a_ins 181 34 = some (.invokestatic 148, 3, 179, 1, 0) := by decide +kernel
theorem i_181_37 : a_ins 181 37 = some (.ireturn, 1, 0, 0, 0) := by decide +kernel
theorem i_182_0 : a_ins 182 0 = some (.aload_n 0, 1, 0, 0, 0) := by decide +kernel
theorem i_182_1 : a_ins 182 1 = some (.iconst (0), 1, 0, 0, 0) := by decide +kernel
theorem i_182_2 : a_ins 182 2 = some (.putfield 1, 3, 8, 0, 0) := by decide +kernel
theorem i_182_5 : a_ins 182 5 = some (.aload_n 0, 1, 0, 0, 0) := by decide +kernel
theorem i_182_6 : a_ins 182 6 = some (.invokevirtual 182, 3, 148, 1, 0) := by decide +kernel
theorem i_182_9 : a_ins 182 9 = some (.aload_n 0, 1, 0, 0, 0) := by decide +kernel
theorem i_182_10 : a_ins 182 10 = some (.aload_n 0, 1, 0, 0, 0) := by decide +kernel
theorem i_182_11 : a_ins 182 11 = some (.iload_n 1, 1, 0, 0, 0) := by decide +kernel
theorem i_182_12 : a_ins 182 12 = some (.invokevirtual 211, 3, 183, 2, 0) := by decide +kernel
theorem i_182_15 : a_ins 182 15 = some (.invokevirtual 185, 3, 150, 2, 0) := by decide +kernel
theorem i_182_18 : a_ins 182 18 = some (.ireturn, 1, 0, 0, 0) := by decide +kernel
theorem i_183_0 : a_ins 183 0 = some (.aload_n 0, 1, 0, 0, 0) := by decide +kernel
theorem i_183_1 : a_ins 183 1 = some (.iload_n 1, 1, 0, 0, 0) := by decide +kernel
theorem i_183_2 : a_ins 183 2 = some (.invokevirtual 157, 3, 154, 2, 0) := by decide +kernel
theorem i_183_5 : a_ins 183 5 = some (.ifCond .ne (6), 3, 11, 0, 0) := by decide +kernel
theorem i_183_8 : a_ins 183 8 = some (.bipush (-2), 2, 0, 0, -2) := by decide +kernel
theorem i_183_10 : a_ins 183 10 = some (.ireturn, 1, 0, 0, 0) := by decide +kernel
theorem i_183_11 : a_ins 183 11 = some (.aload_n 0, 1, 0, 0, 0) := by decide +kernel
theorem i_183_12 : a_ins 183 12 = some (.iload_n 1, 1, 0, 0, 0) := by decide +kernel
theorem i_183_13 : a_ins 183 13 = some (.iconst (1), 1, 0, 0, 1) := by decide +kernel
theorem i_183_14 : a_ins 183 14 = some (.invokevirtual 72, 3, 155, 3, 0) := by decide +kernel
theorem i_183_17 : a_ins 183 17 = some (.ifCond .eq (6), 3, 23, 0, 0) := by decide +kernel
theorem i_183_20 : a_ins 183 20 = some (.bipush (-5), 2, 0, 0, -5) := by decide +kernel
theorem i_183_22 : a_ins 183 22 = some (.ireturn, 1, 0, 0, 0) := by decide +kernel
theorem i_183_23 : a_ins 183 23 = some (.aload_n 0, 1, 0, 0, 0) := by decide +kernel
theorem i_183_24 : a_ins 183 24 = some (.iload_n 1, 1, 0, 0, 0) := by decide +kernel
theorem i_183_25 : a_ins 183 25 = some (.iconst (1), 1, 0, 0, 1) := by decide +kernel
theorem i_183_26 : a_ins 183 26 = some (.iconst (2), 1, 0, 0, 2) := by decide +kernel
theorem i_183_27 : a_ins 183 27 = some (.invokevirtual 64, 3, 145, 4, 0) := by decide +kernel
theorem i_183_30 : a_ins 183 30 = some (.aload_n 0, 1, 0, 0, 0) := by decide +kernel
theorem i_183_31 : a_ins 183 31 = some (.iload_n 1, 1, 0, 0, 0) := by decide +kernel
theorem i_183_32 : a_ins 183 32 = some (.iconst (0), 1, 0, 0, 0) := by decide +kernel
theorem i_183_33 : a_ins 183 33 = some (.invokevirtual 72, 3, 155, 3, 0) := by decide +kernel
theorem i_183_36 : a_ins 183 36 = some (.ireturn, 1, 0, 0, 0) := by decide +kernel
theorem i_184_0 : a_ins 184 0 = some (.aload_n 0, 1, 0, 0, 0) := by decide +kernel
theorem i_184_1 : a_ins 184 1 = some (.iconst (0), 1, 0, 0, 0) := by decide +kernel
theorem i_184_2 : a_ins 184 2 = some (.putfield 1, 3, 8, 0, 0) := by decide +kernel
theorem i_184_5 : a_ins 184 5 = some (.aload_n 0, 1, 0, 0, 0) := by decide +kernel
theorem i_184_6 : a_ins 184 6 = some (.invokevirtual 182, 3, 148, 1, 0) := by decide +kernel
theorem i_184_9 : a_ins 184 9 = some (.aload_n 0, 1, 0, 0, 0) := by decide +kernel
theorem i_184_10 : a_ins 184 10 = some (.aload_n 0, 1, 0, 0, 0) := by decide +kernel
theorem i_184_11 : a_ins 184 11 = some (.iload_n 1, 1, 0, 0, 0) := by decide +kernel
theorem i_184_12 : a_ins 184 12 = some (.invokevirtual 214, 3, 185, 2, 0) := by decide +kernel
theorem i_184_15 : a_ins 184 15 = some (.invokevirtual 185, 3, 150, 2, 0) := by decide +kernel
theorem i_184_18 : a_ins 184 18 = some (.ireturn, 1, 0, 0, 0) := by decide +kernel
theorem i_185_0 : a_ins 185 0 = some (.aload_n 0, 1, 0, 0, 0) := by decide +kernel
theorem i_185_1 : a_ins 185 1 = some (.getfield 13, 3, 8, 1, 0) := by decide +kernel
theorem i_185_4 : a_ins 185 4 = some (.iconst (0), 1, 0, 0, 0) := by decide +kernel
theorem i_185_5 : a_ins 185 5 = some (.iaload, 1, 0, 0, 0) := by decide +kernel
theorem i_185_6 : a_ins 185 6 = some (.istore_n 2, 1, 0, 0, 0) := by decide +kernel
theorem i_185_7 : a_ins 185 7 = some (.iload_n 1, 1, 0, 0, 0) := by decide +kernel
theorem i_185_8 : a_ins 185 8 = some (.istore_n 3, 1, 0, 0, 0) := by decide +kernel
theorem i_185_9 : a_ins 185 9 = some (.iload_n 3, 1, 0, 0, 0) := by decide +kernel
theorem i_185_10 : a_ins 185 10 = some (.ifCond .ge (6), 3, 16, 0, 0) := by decide +kernel
theorem i_185_13 : a_ins 185 13 = some (.bipush (-3), 2, 0, 0, -3) := by decide +kernel
theorem i_185_15 : a_ins 185 15 = some (.ireturn, 1, 0, 0, 0) := by decide +kernel
theorem i_185_16 : a_ins 185 16 = some (.iconst (0), 1, 0, 0, 0) := by decide +kernel
theorem i_185_17 : a_ins 185 17 = some (.istore 4, 2, 0, 0, 0) := by decide +kernel
theorem i_185_19 : a_ins 185 19 = some (.iload 4, 2, 0, 0, 0) := by decide +kernel
theorem i_185_21 : a_ins 185 21 = some (.iload_n 2, 1, 0, 0, 0) := by decide +kernel
theorem i_185_22 : a_ins 185 22 = some (.if_icmp .ge (25), 3, 47, 0, 0) := by decide +kernel
theorem i_185_25 : a_ins 185 25 = some (.iload_n 3, 1, 0, 0, 0) := by decide +kernel
theorem i_185_26 : a_ins 185 26 = some (.bipush (10), 2, 0, 0, 10) := by decide +kernel
theorem i_185_28 : a_ins 185 28 = some (.irem, 1, 0, 0, 0) := by decide +kernel
theorem i_185_29 : a_ins 185 29 = some (.iconst (5), 1, 0, 0, 5) := by decide +kernel
theorem i_185_30 : a_ins 185 30 = some (.if_icmp .lt (6), 3, 36, 0, 0) := by decide +kernel
theorem i_185_33 : a_ins 185 33 = some (.bipush (-3), 2, 0, 0, -3) := by decide +kernel
theorem i_185_35 : a_ins 185 35 = some (.ireturn, 1, 0, 0, 0) := by decide +kernel
theorem i_185_36 : a_ins 185 36 = some (.iload_n 3, 1, 0, 0, 0) := by decide +kernel
theorem i_185_37 : a_ins 185 37 = some (.bipush (10), 2, 0, 0, 10) := by decide +kernel
theorem i_185_39 : a_ins 185 39 = some (.idiv, 1, 0, 0, 0) := by decide +kernel
theorem i_185_40 : a_ins 185 40 = some (.istore_n 3, 1, 0, 0, 0) := by decide +kernel
theorem i_185_41 : a_ins 185 41 = some (.iinc 4 (1), 3, 0, 0, 1) := by decide +kernel
theorem i_185_44 : a_ins 185 44 = some (.goto (-25), 3, 19, 0, 0) := by decide +kernel
theorem i_185_47 : a_ins 185 47 = some (.iload_n 3, 1, 0, 0, 0) := by decide +kernel
theorem i_185_48 : a_ins 185 48 = some (.ifCond .le (6), 3, 54, 0, 0) := by decide +kernel
theorem i_185_51 : a_ins 185 51 = some (.bipush (-3), 2, 0, 0, -3) := by decide +kernel
theorem i_185_53 : a_ins 185 53 = some (.ireturn, 1, 0, 0, 0) := by decide +kernel
theorem i_185_54 : a_ins 185 54 = some (.iload_n 1, 1, 0, 0, 0) := by decide +kernel
theorem i_185_55 : a_ins 185 55 = some (.istore_n 3, 1, 0, 0, 0) := by decide +kernel
theorem i_185_56 : a_ins 185 56 = some (.iconst (0), 1, 0, 0, 0) := by decide +kernel
theorem i_185_57 : a_ins 185 57 = some (.istore 4, 2, 0, 0, 0) := by decide +kernel
theorem i_185_59 : a_ins 185 59 = some (.iload_n 2, 1, 0, 0, 0) := by decide +kernel
theorem i_185_60 : a_ins 185 60 = some (.iconst (1), 1, 0, 0, 1) := by decide +kernel
theorem i_185_61 : a_ins 185 61 = some (.isub, 1, 0, 0, 0) := by decide +kernel
theorem i_185_62 : a_ins 185 62 = some (.istore 5, 2, 0, 0, 0) := by decide +kernel
theorem i_185_64 : a_ins 185 64 = some (.iload 5, 2, 0, 0, 0) := by decide +kernel
theorem i_185_66 : a_ins 185 66 = some (.ifCond .lt (36), 3, 102, 0, 0) := by decide +kernel
theorem i_185_69 : a_ins 185 69 = some (.aload_n 0, 1, 0, 0, 0) := by decide +kernel
theorem i_185_70 : a_ins 185 70 = some (.iload 5, 2, 0, 0, 0) := by decide +kernel
theorem i_185_72 : a_ins 185 72 = some (.iconst (2), 1, 0, 0, 2) := by decide +kernel
theorem i_185_73 : a_ins 185 73 = some (.iload_n 3, 1, 0, 0, 0) := by decide +kernel
theorem i_185_74 : a_ins 185 74 = some (.bipush (10), 2, 0, 0, 10) := by decide +kernel
theorem i_185_76 : a_ins 185 76 = some (.irem, 1, 0, 0, 0) := by decide +kernel
theorem i_185_77 : a_ins 185 77 = some (.invokevirtual 64, 3, 145, 4, 0) := by decide +kernel
theorem i_185_80 : a_ins 185 80 = some (.iload 4, 2, 0, 0, 0) := by decide +kernel
theorem i_185_82 : a_ins 185 82 = some (.iconst (1), 1, 0, 0, 1) := by decide +kernel
theorem i_185_83 : a_ins 185 83 = some (.iload_n 3, 1, 0, 0, 0) := by decide +kernel
theorem i_185_84 : a_ins 185 84 = some (.bipush (10), 2, 0, 0, 10) := by decide +kernel
theorem i_185_86 : a_ins 185 86 = some (.irem, 1, 0, 0, 0) := by decide +kernel
theorem i_185_87 : a_ins 185 87 = some (.ishl, 1, 0, 0, 0) := by decide +kernel
theorem i_185_88 : a_ins 185 88 = some (.ior, 1, 0, 0, 0) := by decide +kernel
theorem i_185_89 : a_ins 185 89 = some (.istore 4, 2, 0, 0, 0) := by decide +kernel
theorem i_185_91 : a_ins 185 91 = some (.iload_n 3, 1, 0, 0, 0) := by decide +kernel
theorem i_185_92 : a_ins 185 92 = some (.bipush (10), 2, 0, 0, 10) := by decide +kernel
theorem i_185_94 : a_ins 185 94 = some (.idiv, 1, 0, 0, 0) := by decide +kernel
theorem i_185_95 : a_ins 185 95 = some (.istore_n 3, 1, 0, 0, 0) := by decide +kernel
theorem i_185_96 : a_ins 185 96 = some (.iinc 5 (-1), 3, 0, 0, -1) := by decide +kernel
theorem i_185_99 : a_ins 185 99 = some (.goto (-35), 3, 64, 0, 0) := by decide +kernel
theorem i_185_102 : a_ins 185 102 = some (.iload 4, 2, 0, 0, 0) := by decide +kernel
theorem i_185_104 : a_ins 185 104 = some (.invokestatic 148, 3, 179, 1, 0) := by decide +kernel
theorem i_185_107 : a_ins 185 107 = some (.ireturn, 1, 0, 0, 0) := by decide +kernel
theorem i_186_0 : a_ins 186 0 = some (.aload_n 0, 1, 0, 0, 0) := by decide +kernel
theorem i_186_1 : a_ins 186 1 = some (.iconst (0), 1, 0, 0, 0) := by decide +kernel
theorem i_186_2 : a_ins 186 2 = some (.putfield 1, 3, 8, 0, 0) := by decide +kernel
theorem i_186_5 : a_ins 186 5 = some (.aload_n 0, 1, 0, 0, 0) := by decide +kernel
theorem i_186_6 : a_ins 186 6 = some (.invokevirtual 182, 3, 148, 1, 0) := by decide +kernel
theorem i_186_9 : a_ins 186 9 = some (.aload_n 0, 1, 0, 0, 0) := by decide +kernel
theorem i_186_10 : a_ins 186 10 = some (.aload_n 0, 1, 0, 0, 0) := by decide +kernel
theorem i_186_11 : a_ins 186 11 = some (.iload_n 1, 1, 0, 0, 0) := by decide +kernel
theorem i_186_12 : a_ins 186 12 = some (.iload_n 2, 1, 0, 0, 0) := by decide +kernel
theorem i_186_13 : a_ins 186 13 = some (.invokevirtual 217, 3, 187, 3, 0) := by decide +kernel
theorem i_186_16 : a_ins 186 16 = some (.invokevirtual 185, 3, 150, 2, 0) := by decide +kernel
theorem i_186_19 : a_ins 186 19 = some (.ireturn, 1, 0, 0, 0) := by decide +kernel
theorem i_187_0 : a_ins 187 0 = some (.aload_n 0, 1, 0, 0, 0) := by decide +kernel
theorem i_187_1 : a_ins 187 1 = some (.iload_n 1, 1, 0, 0, 0) := by decide +kernel
theorem i_187_2 : a_ins 187 2 = some (.invokevirtual 157, 3, 154, 2, 0) := by decide +kernel
theorem i_187_5 : a_ins 187 5 = some (.ifCond .ne (6), 3, 11, 0, 0) := by decide +kernel
theorem i_187_8 : a_ins 187 8 = some (.bipush (-2), 2, 0, 0, -2) := by decide +kernel
theorem i_187_10 : a_ins 187 10 = some (.ireturn, 1, 0, 0, 0) := by decide +kernel
theorem i_187_11 : a_ins 187 11 = some (.iload_n 2, 1, 0, 0, 0) := by decide +kernel
theorem i_187_12 : a_ins 187 12 = some (.invokestatic 133, 3, 165, 1, 0) := by decide +kernel
theorem i_187_15 : a_ins 187 15 = some (.ifCond .ne (6), 3, 21, 0, 0) := by decide +kernel
theorem i_187_18 : a_ins 187 18 = some (.bipush (-3), 2, 0, 0, -3) := by decide +kernel
theorem i_187_20 : a_ins 187 20 = some (.ireturn, 1, 0, 0, 0) := by decide +kernel
theorem i_187_21 : a_ins 187 21 = some (.aload_n 0, 1, 0, 0, 0) := by decide +kernel
theorem i_187_22 : a_ins 187 22 = some (.iload_n 1, 1, 0, 0, 0) := by decide +kernel
theorem i_187_23 : a_ins 187 23 = some (.iconst (1), 1, 0, 0, 1) := by decide +kernel
theorem i_187_24 : a_ins 187 24 = some (.invokevirtual 72, 3, 155, 3, 0) := by decide +kernel
theorem i_187_27 : a_ins 187 27 = some (.iconst (1), 1, 0, 0, 1) := by decide +kernel
theorem i_187_28 : a_ins 187 28 = some (.if_icmp .ne (27), 3, 55, 0, 0) := by decide +kernel
theorem i_187_31 : a_ins 187 31 = some (.aload_n 0, 1, 0, 0, 0) := by decide +kernel
theorem i_187_32 : a_ins 187 32 = some (.iload_n 1, 1, 0, 0, 0) := by decide +kernel
theorem i_187_33 : a_ins 187 33 = some (.invokevirtual 97, 3, 172, 2, 0) := by decide +kernel
theorem i_187_36 : a_ins 187 36 = some (.invokestatic 160, 3, 188, 1, 0) := by decide +kernel
theorem i_187_39 : a_ins 187 39 = some (.iload_n 1, 1, 0, 0, 0) := by decide +kernel
theorem i_187_40 : a_ins 187 40 = some (.if_icmp .ne (15), 3, 55, 0, 0) := by decide +kernel
theorem i_187_43 : a_ins 187 43 = some (.aload_n 0, 1, 0, 0, 0) := by decide +kernel
theorem i_187_44 : a_ins 187 44 = some (.aload_n 0, 1, 0, 0, 0) := by decide +kernel
theorem i_187_45 : a_ins 187 45 = some (.iload_n 1, 1, 0, 0, 0) := by decide +kernel
theorem i_187_46 : a_ins 187 46 = some (.invokevirtual 97, 3, 172, 2, 0) := by decide +kernel
theorem i_187_49 : a_ins 187 49 = some (.invokevirtual 129, 3, 173, 2, 0) := by decide +kernel
theorem i_187_52 : a_ins 187 52 = some (.ifCond .eq (6), 3, 58, 0, 0) := by decide +kernel
theorem i_187_55 : a_ins 187 55 = some (.bipush (-5), 2, 0, 0, -5) := by decide +kernel
theorem i_187_57 : a_ins 187 57 = some (.ireturn, 1, 0, 0, 0) := by decide +kernel
theorem i_187_58 : a_ins 187 58 = some (.aload_n 0, 1, 0, 0, 0) := by decide +kernel
theorem i_187_59 : a_ins 187 59 = some (.iload_n 1, 1, 0, 0, 0) := by decide +kernel
theorem i_187_60 : a_ins 187 60 = some (.invokevirtual 97, 3, 172, 2, 0) := by decide +kernel
theorem i_187_63 : a_ins 187 63 = some (.istore_n 3, 1, 0, 0, 0) := by decide +kernel
theorem i_187_64 : a_ins 187 64 = some (.aload_n 0, 1, 0, 0, 0) := by decide +kernel
theorem i_187_65 : a_ins 187 65 = some (.iload_n 3, 1, 0, 0, 0) := by decide +kernel
theorem i_187_66 : a_ins 187 66 = some (.iload_n 3, 1, 0, 0, 0) := by decide +kernel
theorem i_187_67 : a_ins 187 67 = some (.invokevirtual 163, 3, 189, 3, 0) := by decide +kernel
theorem i_187_70 : a_ins 187 70 = some (.istore 4, 2, 0, 0, 0) := by decide +kernel
theorem i_187_72 : a_ins 187 72 = some (.iload 4, 2, 0, 0, 0) := by decide +kernel
theorem i_187_74 : a_ins 187 74 = some (.iconst (-1), 1, 0, 0, -1) := by decide +kernel
theorem i_187_75 : a_ins 187 75 = some (.if_icmp .ne (6), 3, 81, 0, 0) := by decide +kernel
theorem i_187_78 : a_ins 187 78 = some (.bipush (-4), 2, 0, 0, -4) := by decide +kernel
theorem i_187_80 : a_ins 187 80 = some (.ireturn, 1, 0, 0, 0) := by decide +kernel
theorem i_187_81 : a_ins 187 81 = some (.aload_n 0, 1, 0, 0, 0) := by decide +kernel
theorem i_187_82 : a_ins 187 82 = some (.iload_n 2, 1, 0, 0, 0) := by decide +kernel
theorem i_187_83 : a_ins 187 83 = some (.invokevirtual 136, 3, 166, 2, 0) := by decide +kernel
theorem i_187_86 : a_ins 187 86 = some (.aload_n 0, 1, 0, 0, 0) := by decide +kernel
theorem i_187_87 : a_ins 187 87 = some (.iload_n 1, 1, 0, 0, 0) := by decide +kernel
theorem i_187_88 : a_ins 187 88 = some (.iload 4, 2, 0, 0, 0) := by decide +kernel
theorem i_187_90 : a_ins 187 90 = some (.iload_n 3, 1, 0, 0, 0) := by decide +kernel
theorem i_187_91 : a_ins 187 91 = some (.invokevirtual 166, 3, 191, 4, 0) := by decide +kernel
theorem i_187_94 : a_ins 187 94 = some (.iload 4, 2, 0, 0, 0) := by decide +kernel
theorem i_187_96 : a_ins 187 96 = some (.ireturn, 1, 0, 0, 0) := by decide +kernel
theorem i_188_0 : a_ins 188 0 = some (.iconst (0), 1, 0, 0, 0) := by decide +kernel
theorem i_188_1 : a_ins 188 1 = some (.istore_n 1, 1, 0, 0, 0) := by decide +kernel
theorem i_188_2 : a_ins 188 2 = some (.iload_n 0, 1, 0, 0, 0) := by decide +kernel
theorem i_188_3 : a_ins 188 3 = some (.iload_n 1, 1, 0, 0, 0) := by decide +kernel
theorem i_188_4 : a_ins 188 4 = some (.invokestatic 79, 3, 161, 2, 0) := by decide +kernel
theorem i_188_7 : a_ins 188 7 = some (.ifCond .ne (9), 3, 16, 0, 0) := by decide +kernel
theorem i_188_10 : a_ins 188 10 = some (.iinc 1 (1), 3, 0, 0, 1) := by decide +kernel
theorem i_188_13 : a_ins 188 13 = some (.goto (-11), 3, 2, 0, 0) := by decide +kernel
theorem i_188_16 : a_ins 188 16 = some (.iload_n 1, 1, 0, 0, 0) := by decide +kernel
theorem i_188_17 : a_ins 188 17 = some (.ireturn, 1, 0, 0, 0) := by decide +kernel
theorem i_189_0 : a_ins 189 0 = some (.aload_n 0, 1, 0, 0, 0) := by decide +kernel
theorem i_189_1 : a_ins 189 1 = some (.iload_n 1, 1, 0, 0, 0) := by decide +kernel
theorem i_189_2 : a_ins 189 2 = some (.iconst (4), 1, 0, 0, 4) := by decide +kernel
theorem i_189_3 : a_ins 189 3 = some (.invokevirtual 151, 3, 190, 3, 0) := by decide +kernel
theorem i_189_6 : a_ins 189 6 = some (.ifCond .eq (5), 3, 11, 0, 0) := by decide +kernel
theorem i_189_9 : a_ins 189 9 = some (.iconst (1), 1, 0, 0, 1) := by decide +kernel
theorem i_189_10 : a_ins 189 10 = some (.ireturn, 1, 0, 0, 0) := by decide +kernel
theorem i_189_11 : a_ins 189 11 = some (.aload_n 0, 1, 0, 0, 0) := by decide +kernel
theorem i_189_12 : a_ins 189 12 = some (.iload_n 1, 1, 0, 0, 0) := by decide +kernel
theorem i_189_13 : a_ins 189 13 = some (.iconst (5), 1, 0, 0, 5) := by decide +kernel
theorem i_189_14 : a_ins 189 14 = some (.invokevirtual 151, 3, 190, 3, 0) := by decide +kernel
theorem i_189_17 : a_ins 189 17 = some (.ifCond .eq (5), 3, 22, 0, 0) := by decide +kernel
theorem i_189_20 : a_ins 189 20 = some (.iconst (0), 1, 0, 0, 0) := by decide +kernel
theorem i_189_21 : a_ins 189 21 = some (.ireturn, 1, 0, 0, 0) := by decide +kernel
theorem i_189_22 : a_ins 189 22 = some (.aload_n 0, 1, 0, 0, 0) := by decide +kernel
theorem i_189_23 : a_ins 189 23 = some (.iload_n 1, 1, 0, 0, 0) := by decide +kernel
theorem i_189_24 : a_ins 189 24 = some (.iconst (2), 1, 0, 0, 2) := by decide +kernel
theorem i_189_25 : a_ins 189 25 = some (.invokevirtual 151, 3, 190, 3, 0) := by decide +kernel
theorem i_189_28 : a_ins 189 28 = some (.istore_n 3, 1, 0, 0, 0) := by decide +kernel
theorem i_189_29 : a_ins 189 29 = some (.aload_n 0, 1, 0, 0, 0) := by decide +kernel
theorem i_189_30 : a_ins 189 30 = some (.getfield 13, 3, 8, 1, 0) := by decide +kernel
theorem i_189_33 : a_ins 189 33 = some (.iconst (1), 1, 0, 0, 1) := by decide +kernel
theorem i_189_34 : a_ins 189 34 = some (.iaload, 1, 0, 0, 0) := by decide +kernel
theorem i_189_35 : a_ins 189 35 = some (.ifCond .ne (31), 3, 66, 0, 0) := by decide +kernel
theorem i_189_38 : a_ins 189 38 = some (.iload_n 3, 1, 0, 0, 0) := by decide +kernel
theorem i_189_39 : a_ins 189 39 = some (.ifCond .ne (5), 3, 44, 0, 0) := by decide +kernel
theorem i_189_42 : a_ins 189 42 = some (.iconst (0), 1, 0, 0, 0) := by decide +kernel
theorem i_189_43 : a_ins 189 43 = some (.ireturn, 1, 0, 0, 0) := by decide +kernel
theorem i_189_44 : a_ins 189 44 = some (.aload_n 0, 1, 0, 0, 0) := by decide +kernel
theorem i_189_45 : a_ins 189 45 = some (.iload_n 2, 1, 0, 0, 0) := by decide +kernel
theorem i_189_46 : a_ins 189 46 = some (.iconst (0), 1, 0, 0, 0) := by decide +kernel
theorem i_189_47 : a_ins 189 47 = some (.invokevirtual 151, 3, 190, 3, 0) := by decide +kernel
theorem i_189_50 : a_ins 189 50 = some (.aload_n 0, 1, 0, 0, 0) := by decide +kernel
theorem i_189_51 : a_ins 189 51 = some (.iload_n 2, 1, 0, 0, 0) := by decide +kernel
theorem i_189_52 : a_ins 189 52 = some (.iconst (1), 1, 0, 0, 1) := by decide +kernel
theorem i_189_53 : a_ins 189 53 = some (.invokevirtual 151, 3, 190, 3, 0) := by decide +kernel
theorem i_189_56 : a_ins 189 56 = some (.ior, 1, 0, 0, 0) := by decide +kernel
theorem i_189_57 : a_ins 189 57 = some (.ifCond .ne (7), 3, 64, 0, 0) := by decide +kernel
theorem i_189_60 : a_ins 189 60 = some (.iconst (1), 1, 0, 0, 1) := by decide +kernel
theorem i_189_61 : a_ins 189 61 = some (.goto (4), 3, 65, 0, 0) := by decide +kernel
theorem i_189_64 : a_ins 189 64 = some (.iconst (2), 1, 0, 0, 2) := by decide +kernel
theorem i_189_65 : a_ins 189 65 = some (.ireturn, 1, 0, 0, 0) := by decide +kernel
theorem i_189_66 : a_ins 189 66 = some (.iload_n 3, 1, 0, 0, 0) := by decide +kernel
theorem i_189_67 : a_ins 189 67 = some (.ifCond .eq (39), 3, 106, 0, 0) := by decide +kernel
theorem i_189_70 : a_ins 189 70 = some (.aload_n 0, 1, 0, 0, 0) := by decide +kernel
theorem i_189_71 : a_ins 189 71 = some (.iload_n 3, 1, 0, 0, 0) := by decide +kernel
theorem i_189_72 : a_ins 189 72 = some (.aload_n 0, 1, 0, 0, 0) := by decide +kernel
theorem i_189_73 : a_ins 189 73 = some (.iload_n 1, 1, 0, 0, 0) := by decide +kernel
theorem i_189_74 : a_ins 189 74 = some (.iconst (1), 1, 0, 0, 1) := by decide +kernel
theorem i_189_75 : a_ins 189 75 = some (.invokevirtual 151, 3, 190, 3, 0) := by decide +kernel
theorem i_189_78 : a_ins 189 78 = some (.ior, 1, 0, 0, 0) := by decide +kernel
theorem i_189_79 : a_ins 189 79 = some (.invokevirtual 145, 3, 160, 2, 0) := by decide +kernel
theorem i_189_82 : a_ins 189 82 = some (.aload_n 0, 1, 0, 0, 0) := by decide +kernel
theorem i_189_83 : a_ins 189 83 = some (.getfield 13, 3, 8, 1, 0) := by decide +kernel
theorem i_189_86 : a_ins 189 86 = some (.iconst (3), 1, 0, 0, 3) := by decide +kernel
theorem i_189_87 : a_ins 189 87 = some (.iaload, 1, 0, 0, 0) := by decide +kernel
theorem i_189_88 : a_ins 189 88 = some (.if_icmp .lt (18), 3, 106, 0, 0) := by decide +kernel
theorem i_189_91 : a_ins 189 91 = some (.aload_n 0, 1, 0, 0, 0) := by decide +kernel
theorem i_189_92 : a_ins 189 92 = some (.iload_n 2, 1, 0, 0, 0) := by decide +kernel
theorem i_189_93 : a_ins 189 93 = some (.iconst (1), 1, 0, 0, 1) := by decide +kernel
theorem i_189_94 : a_ins 189 94 = some (.invokevirtual 151, 3, 190, 3, 0) := by decide +kernel
theorem i_189_97 : a_ins 189 97 = some (.ifCond .ne (7), 3, 104, 0, 0) := by decide +kernel
theorem i_189_100 : a_ins 189 100 = some (.iconst (1), 1, 0, 0, 1) := by decide +kernel
theorem i_189_101 : a_ins 189 101 = some (.goto (4), 3, 105, 0, 0) := by decide +kernel
theorem i_189_104 : a_ins 189 104 = some (.iconst (2), 1, 0, 0, 2) := by decide +kernel
theorem i_189_105 : a_ins 189 105 = some (.ireturn, 1, 0, 0, 0) := by decide +kernel
theorem i_189_106 : a_ins 189 106 = some (.aload_n 0, 1, 0, 0, 0) := by decide +kernel
theorem i_189_107 : a_ins 189 107 = some (.aload_n 0, 1, 0, 0, 0) := by decide +kernel
theorem i_189_108 : a_ins 189 108 = some (.iload_n 1, 1, 0, 0, 0) := by decide +kernel
theorem i_189_109 : a_ins 189 109 = some (.iconst (0), 1, 0, 0, 0) := by decide +kernel
theorem i_189_110 : a_ins 189 110 = some (.invokevirtual 151, 3, 190, 3, 0) := by decide +kernel
theorem i_189_113 : a_ins 189 113 = some (.aload_n 0, 1, 0, 0, 0) := by decide +kernel
theorem i_189_114 : a_ins 189 114 = some (.iload_n 1, 1, 0, 0, 0) := by decide +kernel
theorem i_189_115 : a_ins 189 115 = some (.iconst (1), 1, 0, 0, 1) := by decide +kernel
theorem i_189_116 : a_ins 189 116 = some (.invokevirtual 151, 3, 190, 3, 0) := by decide +kernel
theorem i_189_119 : a_ins 189 119 = some (.ior, 1, 0, 0, 0) := by decide +kernel
theorem i_189_120 : a_ins 189 120 = some (.aload_n 0, 1, 0, 0, 0) := by decide +kernel
theorem i_189_121 : a_ins 189 121 = some (.iload_n 1, 1, 0, 0, 0) := by decide +kernel
theorem i_189_122 : a_ins 189 122 = some (.iconst (3), 1, 0, 0, 3) := by decide +kernel
theorem i_189_123 : a_ins 189 123 = some (.invokevirtual 151, 3, 190, 3, 0) := by decide +kernel
theorem i_189_126 : a_ins 189 126 = some (.ior, 1, 0, 0, 0) := by decide +kernel
theorem i_189_127 : a_ins 189 127 = some (.invokevirtual 145, 3, 160, 2, 0) := by decide +kernel
theorem i_189_130 : a_ins 189 130 = some (.aload_n 0, 1, 0, 0, 0) := by decide +kernel
theorem i_189_131 : a_ins 189 131 = some (.getfield 13, 3, 8, 1, 0) := by decide +kernel
theorem i_189_134 : a_ins 189 134 = some (.iconst (4), 1, 0, 0, 4) := by decide +kernel
theorem i_189_135 : a_ins 189 135 = some (.iaload, 1, 0, 0, 0) := by decide +kernel
theorem i_189_136 : a_ins 189 136 = some (.if_icmp .ge (5), 3, 141, 0, 0) := by decide +kernel
theorem i_189_139 : a_ins 189 139 = some (.iconst (-1), 1, 0, 0, -1) := by decide +kernel
theorem i_189_140 : a_ins 189 140 = some (.ireturn, 1, 0, 0, 0) := by decide +kernel
theorem i_189_141 : a_ins 189 141 = some (.aload_n 0, 1, 0, 0, 0) := by decide +kernel
theorem i_189_142 : a_ins 189 142 = some (.iload_n 2, 1, 0, 0, 0) := by decide +kernel
theorem i_189_143 : a_ins 189 143 = some (.iconst (0), 1, 0, 0, 0) := by decide +kernel
theorem i_189_144 : a_ins 189 144 = some (.invokevirtual 151, 3, 190, 3, 0) := by decide +kernel
theorem i_189_147 : a_ins 189 147 = some (.aload_n 0, 1, 0, 0, 0) := by decide +kernel
theorem i_189_148 : a_ins 189 148 = some (.iload_n 2, 1, 0, 0, 0) := by decide +kernel
theorem i_189_149 : a_ins 189 149 = some (.iconst (1), 1, 0, 0, 1) := by decide +kernel
theorem i_189_150 : a_ins 189 150 = some (.invokevirtual 151, 3, 190, 3, 0) := by decide +kernel
theorem i_189_153 : a_ins 189 153 = some (.ior, 1, 0, 0, 0) := by decide +kernel
theorem i_189_154 : a_ins 189 154 = some (.ifCond .ne (7), 3, 161, 0, 0) := by decide +kernel
theorem i_189_157 : a_ins 189 157 = some (.iconst (0), 1, 0, 0, 0) := by decide +kernel
theorem i_189_158 : a_ins 189 158 = some (.goto (4), 3, 162, 0, 0) := by decide +kernel
theorem i_189_161 : a_ins 189 161 = some (.iconst (3), 1, 0, 0, 3) := by decide +kernel
theorem i_189_162 : a_ins 189 162 = some (.ireturn, 1, 0, 0, 0) := by decide +kernel
theorem i_190_0 : a_ins 190 0 = some (.iload_n 1, 1, 0, 0, 0) := by decide +kernel
theorem i_190_1 : a_ins 190 1 = some (.aload_n 0, 1, 0, 0, 0) := by decide +kernel
theorem i_190_2 : a_ins 190 2 = some (.iconst (0), 1, 0, 0, 0) := by decide +kernel
theorem i_190_3 : a_ins 190 3 = some (.iload_n 2, 1, 0, 0, 0) := by decide +kernel
theorem i_190_4 : a_ins 190 4 = some (.invokevirtual 76, 3, 158, 3, 0) := by decide +kernel
theorem i_190_7 : a_ins 190 7 = some (.iand, 1, 0, 0, 0) := by decide +kernel
theorem i_190_8 : a_ins 190 8 = some (.ireturn, 1, 0, 0, 0) := by decide +kernel
theorem i_191_0 : a_ins 191 0 = some (.aload_n 0, 1, 0, 0, 0) := by decide +kernel
theorem i_191_1 : a_ins 191 1 = some (.iload_n 2, 1, 0, 0, 0) := by decide +kernel
theorem i_191_2 : a_ins 191 2 = some (.iload_n 3, 1, 0, 0, 0) := by decide +kernel
theorem i_191_3 : a_ins 191 3 = some (.invokevirtual 154, 3, 192, 3, 0) := by decide +kernel
theorem i_191_6 : a_ins 191 6 = some (.istore 4, 2, 0, 0, 0) := by decide +kernel
theorem i_191_8 : a_ins 191 8 = some (.iload 4, 2, 0, 0, 0) := by decide +kernel
theorem i_191_10 : a_ins 191 10 = some (.ifCond .eq (99), 3, 109, 0, 0) := by decide +kernel
theorem i_191_13 : a_ins 191 13 = some (.iload_n 2, 1, 0, 0, 0) := by decide +kernel
theorem i_191_14 : a_ins 191 14 = some (.iconst (2), 1, 0, 0, 2) := by decide +kernel
theorem i_191_15 : a_ins 191 15 = some (.if_icmp .ne (7), 3, 22, 0, 0) := by decide +kernel
theorem i_191_18 : a_ins 191 18 = some (.iconst (2), 1, 0, 0, 2) := by decide +kernel
theorem i_191_19 : a_ins 191 19 = some (.goto (4), 3, 23, 0, 0) := by decide +kernel
theorem i_191_22 : a_ins 191 22 = some (.iconst (3), 1, 0, 0, 3) := by decide +kernel
theorem i_191_23 : a_ins 191 23 = some (.istore 5, 2, 0, 0, 0) := by decide +kernel
theorem i_191_25 : a_ins 191 25 = some (.iload 4, 2, 0, 0, 0) := by decide +kernel
theorem i_191_27 : a_ins 191 27 = some (.iload_n 1, 1, 0, 0, 0) := by decide +kernel
theorem i_191_28 : a_ins 191 28 = some (.invokestatic 79, 3, 161, 2, 0) := by decide +kernel
theorem i_191_31 : a_ins 191 31 = some (.ifCond .eq (10), 3, 41, 0, 0) := by decide +kernel
theorem i_191_34 : a_ins 191 34 = some (.aload_n 0, 1, 0, 0, 0) := by decide +kernel
theorem i_191_35 : a_ins 191 35 = some (.iload_n 1, 1, 0, 0, 0) := by decide +kernel
theorem i_191_36 : a_ins 191 36 = some (.iload 5, 2, 0, 0, 0) := by decide +kernel
theorem i_191_38 : a_ins 191 38 = some (.invokevirtual 123, 3, 168, 3, 0) := by decide +kernel
theorem i_191_41 : a_ins 191 41 = some (.iconst (0), 1, 0, 0, 0) := by decide +kernel
theorem i_191_42 : a_ins 191 42 = some (.istore 6, 2, 0, 0, 0) := by decide +kernel
theorem i_191_44 : a_ins 191 44 = some (.iload 6, 2, 0, 0, 0) := by decide +kernel
theorem i_191_46 : a_ins 191 46 = some (.aload_n 0, 1, 0, 0, 0) := by decide +kernel
theorem i_191_47 : a_ins 191 47 = some (.getfield 13, 3, 8, 1, 0) := by decide +kernel
theorem i_191_50 : a_ins 191 50 = some (.iconst (0), 1, 0, 0, 0) := by decide +kernel
theorem i_191_51 : a_ins 191 51 = some (.iaload, 1, 0, 0, 0) := by decide +kernel
theorem i_191_52 : a_ins 191 52 = some (.if_icmp .ge (52), 3, 104, 0, 0) := by decide +kernel
theorem i_191_55 : a_ins 191 55 = some (.iload 6, 2, 0, 0, 0) := by decide +kernel
theorem i_191_57 : a_ins 191 57 = some (.iload_n 1, 1, 0, 0, 0) := by decide +kernel
theorem i_191_58 : a_ins 191 58 = some (.if_icmp .eq (40), 3, 98, 0, 0) := by decide +kernel
theorem i_191_61 : a_ins 191 61 = some (.iload_n 3, 1, 0, 0, 0) := by decide +kernel
theorem i_191_62 : a_ins 191 62 = some (.iload 6, 2, 0, 0, 0) := by decide +kernel
theorem i_191_64 : a_ins 191 64 = some (.invokestatic 79, 3, 161, 2, 0) := by decide +kernel
theorem i_191_67 : a_ins 191 67 = some (.ifCond .eq (31), 3, 98, 0, 0) := by decide +kernel
theorem i_191_70 : a_ins 191 70 = some (.aload_n 0, 1, 0, 0, 0) := by decide +kernel
theorem i_191_71 : a_ins 191 71 = some (.iload_n 1, 1, 0, 0, 0) := by decide +kernel
theorem i_191_72 : a_ins 191 72 = some (.iload 6, 2, 0, 0, 0) := by decide +kernel
theorem i_191_74 : a_ins 191 74 = some (.invokevirtual 126, 3, 169, 3, 0) := by decide +kernel
theorem i_191_77 : a_ins 191 77 = some (.ifCond .eq (21), 3, 98, 0, 0) := by decide +kernel
theorem i_191_80 : a_ins 191 80 = some (.iload 4, 2, 0, 0, 0) := by decide +kernel
theorem i_191_82 : a_ins 191 82 = some (.iload 6, 2, 0, 0, 0) := by decide +kernel
theorem i_191_84 : a_ins 191 84 = some (.invokestatic 79, 3, 161, 2, 0) := by decide +kernel
theorem i_191_87 : a_ins 191 87 = some (.ifCond .eq (11), 3, 98, 0, 0) := by decide +kernel
theorem i_191_90 : a_ins 191 90 = some (.aload_n 0, 1, 0, 0, 0) := by decide +kernel
theorem i_191_91 : a_ins 191 91 = some (.iload 6, 2, 0, 0, 0) := by decide +kernel
theorem i_191_93 : a_ins 191 93 = some (.iload 5, 2, 0, 0, 0) := by decide +kernel
theorem i_191_95 : a_ins 191 95 = some (.invokevirtual 123, 3, 168, 3, 0) := by decide +kernel
theorem i_191_98 : a_ins 191 98 = some (.iinc 6 (1), 3, 0, 0, 1) := by decide +kernel
theorem i_191_101 : a_ins 191 101 = some (.goto (-57), 3, 44, 0, 0) := by decide +kernel
theorem i_191_104 : a_ins 191 104 = some (.aload_n 0, 1, 0, 0, 0) := by decide +kernel
theorem i_191_105 : a_ins 191 105 = some (.iload_n 1, 1, 0, 0, 0) := by decide +kernel
theorem i_191_106 : a_ins 191 106 = some (.invokevirtual 120, 3, 170, 2, 0) := by decide +kernel
theorem i_191_109 : a_ins 191 109 = some (.aload_n 0, 1, 0, 0, 0) := by decide +kernel
theorem i_191_110 : a_ins 191 110 = some (.getfield 108, 3, 8, 9, 0) := by decide +kernel
theorem i_191_113 : a_ins 191 113 = some (.ifCond .eq (4), 3, 117, 0, 0) := by decide +kernel
theorem i_191_116 : a_ins 191 116 = some (.return_, 1, 0, 0, 0) := by decide +kernel
theorem i_191_117 : a_ins 191 117 = some (.iload_n 2, 1, 0, 0, 0) := by decide +kernel
theorem i_191_118 : a_ins 191 118 = some (.iconst (1), 1, 0, 0, 1) := by decide +kernel
theorem i_191_119 : a_ins 191 119 = some (.if_icmp .eq (8), 3, 127, 0, 0) := by decide +kernel
theorem i_191_122 : a_ins 191 122 = some (.iload_n 2, 1, 0, 0, 0) := by decide +kernel
theorem i_191_123 : a_ins 191 123 = some (.iconst (2), 1, 0, 0, 2) := by decide +kernel
theorem i_191_124 : a_ins 191 124 = some (.if_icmp .ne (7), 3, 131, 0, 0) := by decide +kernel
theorem i_191_127 : a_ins 191 127 = some (.iconst (4), 1, 0, 0, 4) := by decide +kernel
theorem i_191_128 : a_ins 191 128 = some (.goto (4), 3, 132, 0, 0) := by decide +kernel
theorem i_191_131 : a_ins 191 131 = some (.iconst (5), 1, 0, 0, 5) := by decide +kernel
theorem i_191_132 : a_ins 191 132 = some (.istore 5, 2, 0, 0, 0) := by decide +kernel
theorem i_191_134 : a_ins 191 134 = some (.aload_n 0, 1, 0, 0, 0) := by decide +kernel
theorem i_191_135 : a_ins 191 135 = some (.iload_n 1, 1, 0, 0, 0) := by decide +kernel
theorem i_191_136 : a_ins 191 136 = some (.iload 5, 2, 0, 0, 0) := by decide +kernel
theorem i_191_138 : a_ins 191 138 = some (.invokevirtual 123, 3, 168, 3, 0) := by decide +kernel
theorem i_191_141 : a_ins 191 141 = some (.iconst (0), 1, 0, 0, 0) := by decide +kernel
theorem i_191_142 : a_ins 191 142 = some (.istore 6, 2, 0, 0, 0) := by decide +kernel
theorem i_191_144 : a_ins 191 144 = some (.iload 6, 2, 0, 0, 0) := by decide +kernel
theorem i_191_146 : a_ins 191 146 = some (.aload_n 0, 1, 0, 0, 0) := by decide +kernel
theorem i_191_147 : a_ins 191 147 = some (.getfield 13, 3, 8, 1, 0) := by decide +kernel
theorem i_191_150 : a_ins 191 150 = some (.iconst (0), 1, 0, 0, 0) := by decide +kernel
theorem i_191_151 : a_ins 191 151 = some (.iaload, 1, 0, 0, 0) := by decide +kernel
theorem i_191_152 : a_ins 191 152 = some (.if_icmp .ge (42), 3, 194, 0, 0) := by decide +kernel
theorem i_191_155 : a_ins 191 155 = some (.iload 6, 2, 0, 0, 0) := by decide +kernel
theorem i_191_157 : a_ins 191 157 = some (.iload_n 1, 1, 0, 0, 0) := by decide +kernel
theorem i_191_158 : a_ins 191 158 = some (.if_icmp .eq (30), 3, 188, 0, 0) := by decide +kernel
theorem i_191_161 : a_ins 191 161 = some (.iload_n 3, 1, 0, 0, 0) := by decide +kernel
theorem i_191_162 : a_ins 191 162 = some (.iload 6, 2, 0, 0, 0) := by decide +kernel
theorem i_191_164 : a_ins 191 164 = some (.invokestatic 79, 3, 161, 2, 0) := by decide +kernel
theorem i_191_167 : a_ins 191 167 = some (.ifCond .eq (21), 3, 188, 0, 0) := by decide +kernel
theorem i_191_170 : a_ins 191 170 = some (.aload_n 0, 1, 0, 0, 0) := by decide +kernel
theorem i_191_171 : a_ins 191 171 = some (.iload_n 1, 1, 0, 0, 0) := by decide +kernel
theorem i_191_172 : a_ins 191 172 = some (.iload 6, 2, 0, 0, 0) := by decide +kernel
theorem i_191_174 : a_ins 191 174 = some (.invokevirtual 126, 3, 169, 3, 0) := by decide +kernel
theorem i_191_177 : a_ins 191 177 = some (.ifCond .eq (11), 3, 188, 0, 0) := by decide +kernel
theorem i_191_180 : a_ins 191 180 = some (.aload_n 0, 1, 0, 0, 0) := by decide +kernel
theorem i_191_181 : a_ins 191 181 = some (.iload 6, 2, 0, 0, 0) := by decide +kernel
theorem i_191_183 : a_ins 191 183 = some (.iload 5, 2, 0, 0, 0) := by decide +kernel
theorem i_191_185 : a_ins 191 185 = some (.invokevirtual 123, 3, 168, 3, 0) := by decide +kernel
theorem i_191_188 : a_ins 191 188 = some (.iinc 6 (1), 3, 0, 0, 1) := by decide +kernel
theorem i_191_191 : a_ins 191 191 = some (.goto (-47), 3, 144, 0, 0) := by decide +kernel
theorem i_191_194 : a_ins 191 194 = some (.aload_n 0, 1, 0, 0, 0) := by decide +kernel
theorem i_191_195 : a_ins 191 195 = some (.iload_n 1, 1, 0, 0, 0) := by decide +kernel
theorem i_191_196 : a_ins 191 196 = some (.invokevirtual 120, 3, 170, 2, 0) := by decide +kernel
theorem i_191_199 : a_ins 191 199 = some (.iload_n 1, 1, 0, 0, 0) := by decide +kernel
theorem i_191_200 : a_ins 191 200 = some (.ifCond .ne (10), 3, 210, 0, 0) := by decide +kernel
theorem i_191_203 : a_ins 191 203 = some (.aload_n 0, 1, 0, 0, 0) := by decide +kernel
theorem i_191_204 : a_ins 191 204 = some (.getfield 13, 3, 8, 1, 0) := by decide +kernel
theorem i_191_207 : a_ins 191 207 = some (.iconst (2), 1, 0, 0, 2) := by decide +kernel
theorem i_191_208 : a_ins 191 208 = some (.iconst (3), 1, 0, 0, 3) := by decide +kernel
theorem i_191_209 : a_ins 191 209 = some (.iastore, 1, 0, 0, 0) := by decide +kernel
theorem i_191_210 : a_ins 191 210 = some (.return_, 1, 0, 0, 0) := by decide +kernel
theorem i_192_0 : a_ins 192 0 = some (.iload_n 1, 1, 0, 0, 0) := by decide +kernel
theorem i_192_1 : a_ins 192 1 = some (.iconst (2), 1, 0, 0, 2) := by decide +kernel
theorem i_192_2 : a_ins 192 2 = some (.if_icmp .ge (5), 3, 7, 0, 0) := by decide +kernel
theorem i_192_5 : a_ins 192 5 = some (.iconst (0), 1, 0, 0, 0) := by decide +kernel
theorem i_192_6 : a_ins 192 6 = some (.ireturn, 1, 0, 0, 0) := by decide +kernel
theorem i_192_7 : a_ins 192 7 = some (.aload_n 0, 1, 0, 0, 0) := by decide +kernel
theorem i_192_8 : a_ins 192 8 = some (.iload_n 2, 1, 0, 0, 0) := by decide +kernel
theorem i_192_9 : a_ins 192 9 = some (.iconst (1), 1, 0, 0, 1) := by decide +kernel
theorem i_192_10 : a_ins 192 10 = some (.invokevirtual 151, 3, 190, 3, 0) := by decide +kernel
theorem i_192_13 : a_ins 192 13 = some (.iload_n 1, 1, 0, 0, 0) := by decide +kernel
theorem i_192_14 : a_ins 192 14 = some (.iconst (2), 1, 0, 0, 2) := by decide +kernel
theorem i_192_15 : a_ins 192 15 = some (.if_icmp .ne (17), 3, 32, 0, 0) := by decide +kernel
theorem i_192_18 : a_ins 192 18 = some (.aload_n 0, 1, 0, 0, 0) := by decide +kernel
theorem i_192_19 : a_ins 192 19 = some (.getfield 13, 3, 8, 1, 0) := by decide +kernel
theorem i_192_22 : a_ins 192 22 = some (.iconst (1), 1, 0, 0, 1) := by decide +kernel
theorem i_192_23 : a_ins 192 23 = some (.iaload, 1, 0, 0, 0) := by decide +kernel
theorem i_192_24 : a_ins 192 24 = some (.iconst (1), 1, 0, 0, 1) := by decide +kernel
theorem i_192_25 : a_ins 192 25 = some (.if_icmp .ne (7), 3, 32, 0, 0) := by decide +kernel
theorem i_192_28 : a_ins 192 28 = some (.iconst (0), 1, 0, 0, 0) := by decide +kernel
theorem i_192_29 : a_ins 192 29 = some (.goto (9), 3, 38, 0, 0) := by decide +kernel
theorem i_192_32 : a_ins 192 32 = some (.aload_n 0, 1, 0, 0, 0) := by decide +kernel
theorem i_192_33 : a_ins 192 33 = some (.iload_n 2, 1, 0, 0, 0) := by decide +kernel
theorem i_192_34 : a_ins 192 34 = some (.iconst (0), 1, 0, 0, 0) := by decide +kernel
theorem i_192_35 : a_ins 192 35 = some (.invokevirtual 151, 3, 190, 3, 0) := by decide +kernel
theorem i_192_38 : a_ins 192 38 = some (.ior, 1, 0, 0, 0) := by decide +kernel
theorem i_192_39 : a_ins 192 39 = some (.ireturn, 1, 0, 0, 0) := by decide +kernel
theorem i_193_0 : a_ins 193 0 = some (.aload_n 0, 1, 0, 0, 0) := by decide +kernel
theorem i_193_1 : a_ins 193 1 = some (.iconst (0), 1, 0, 0, 0) := by decide +kernel
theorem i_193_2 : a_ins 193 2 = some (.putfield 1, 3, 8, 0, 0) := by decide +kernel
theorem i_193_5 : a_ins 193 5 = some (.aload_n 0, 1, 0, 0, 0) := by decide +kernel
theorem i_193_6 : a_ins 193 6 = some (.invokevirtual 182, 3, 148, 1, 0) := by decide +kernel
theorem i_193_9 : a_ins 193 9 = some (.aload_n 0, 1, 0, 0, 0) := by decide +kernel
theorem i_193_10 : a_ins 193 10 = some (.aload_n 0, 1, 0, 0, 0) := by decide +kernel
theorem i_193_11 : a_ins 193 11 = some (.iload_n 1, 1, 0, 0, 0) := by decide +kernel
theorem i_193_12 : a_ins 193 12 = some (.invokevirtual 220, 3, 194, 2, 0) := by decide +kernel
theorem i_193_15 : a_ins 193 15 = some (.invokevirtual 185, 3, 150, 2, 0) := by decide +kernel
theorem i_193_18 : a_ins 193 18 = some (.ireturn, 1, 0, 0, 0) := by decide +kernel
theorem i_194_0 : a_ins 194 0 = some (.aload_n 0, 1, 0, 0, 0) := by decide +kernel
theorem i_194_1 : a_ins 194 1 = some (.iload_n 1, 1, 0, 0, 0) := by decide +kernel
theorem i_194_2 : a_ins 194 2 = some (.invokevirtual 157, 3, 154, 2, 0) := by decide +kernel
theorem i_194_5 : a_ins 194 5 = some (.ifCond .ne (6), 3, 11, 0, 0) := by decide +kernel
theorem i_194_8 : a_ins 194 8 = some (.bipush (-2), 2, 0, 0, -2) := by decide +kernel
theorem i_194_10 : a_ins 194 10 = some (.ireturn, 1, 0, 0, 0) := by decide +kernel
theorem i_194_11 : a_ins 194 11 = some (.aload_n 0, 1, 0, 0, 0) := by decide +kernel
theorem i_194_12 : a_ins 194 12 = some (.iload_n 1, 1, 0, 0, 0) := by decide +kernel
theorem i_194_13 : a_ins 194 13 = some (.iconst (1), 1, 0, 0, 1) := by decide +kernel
theorem i_194_14 : a_ins 194 14 = some (.invokevirtual 72, 3, 155, 3, 0) := by decide +kernel
theorem i_194_17 : a_ins 194 17 = some (.iconst (2), 1, 0, 0, 2) := by decide +kernel
theorem i_194_18 : a_ins 194 18 = some (.if_icmp .eq (6), 3, 24, 0, 0) := by decide +kernel
theorem i_194_21 : a_ins 194 21 = some (.bipush (-5), 2, 0, 0, -5) := by decide +kernel
theorem i_194_23 : a_ins 194 23 = some (.ireturn, 1, 0, 0, 0) := by decide +kernel
theorem i_194_24 : a_ins 194 24 = some (.aload_n 0, 1, 0, 0, 0) := by decide +kernel
theorem i_194_25 : a_ins 194 25 = some (.iload_n 1, 1, 0, 0, 0) := by decide +kernel
theorem i_194_26 : a_ins 194 26 = some (.invokevirtual 97, 3, 172, 2, 0) := by decide +kernel
theorem i_194_29 : a_ins 194 29 = some (.istore_n 2, 1, 0, 0, 0) := by decide +kernel
theorem i_194_30 : a_ins 194 30 = some (.aload_n 0, 1, 0, 0, 0) := by decide +kernel
theorem i_194_31 : a_ins 194 31 = some (.iload_n 1, 1, 0, 0, 0) := by decide +kernel
theorem i_194_32 : a_ins 194 32 = some (.iconst (0), 1, 0, 0, 0) := by decide +kernel
theorem i_194_33 : a_ins 194 33 = some (.invokevirtual 72, 3, 155, 3, 0) := by decide +kernel
theorem i_194_36 : a_ins 194 36 = some (.ifCond .ne (12), 3, 48, 0, 0) := by decide +kernel
theorem i_194_39 : a_ins 194 39 = some (.aload_n 0, 1, 0, 0, 0) := by decide +kernel
theorem i_194_40 : a_ins 194 40 = some (.iload_n 1, 1, 0, 0, 0) := by decide +kernel
theorem i_194_41 : a_ins 194 41 = some (.iconst (5), 1, 0, 0, 5) := by decide +kernel
theorem i_194_42 : a_ins 194 42 = some (.invokevirtual 123, 3, 168, 3, 0) := by decide +kernel
theorem i_194_45 : a_ins 194 45 = some (.goto (81), 3, 126, 0, 0) := by decide +kernel
theorem i_194_48 : a_ins 194 48 = some (.aload_n 0, 1, 0, 0, 0) := by decide +kernel
theorem i_194_49 : a_ins 194 49 = some (.iconst (1), 1, 0, 0, 1) := by decide +kernel
theorem i_194_50 : a_ins 194 50 = some (.iload_n 1, 1, 0, 0, 0) := by decide +kernel
theorem i_194_51 : a_ins 194 51 = some (.ishl, 1, 0, 0, 0) := by decide +kernel
theorem i_194_52 : a_ins 194 52 = some (.invokevirtual 129, 3, 173, 2, 0) := by decide +kernel
theorem i_194_55 : a_ins 194 55 = some (.ifCond .ne (21), 3, 76, 0, 0) := by decide +kernel
theorem i_194_58 : a_ins 194 58 = some (.aload_n 0, 1, 0, 0, 0) := by decide +kernel
theorem i_194_59 : a_ins 194 59 = some (.iload_n 2, 1, 0, 0, 0) := by decide +kernel
theorem i_194_60 : a_ins 194 60 = some (.iconst (4), 1, 0, 0, 4) := by decide +kernel
theorem i_194_61 : a_ins 194 61 = some (.invokevirtual 151, 3, 190, 3, 0) := by decide +kernel
theorem i_194_64 : a_ins 194 64 = some (.ifCond .eq (12), 3, 76, 0, 0) := by decide +kernel
theorem i_194_67 : a_ins 194 67 = some (.aload_n 0, 1, 0, 0, 0) := by decide +kernel
theorem i_194_68 : a_ins 194 68 = some (.iload_n 1, 1, 0, 0, 0) := by decide +kernel
theorem i_194_69 : a_ins 194 69 = some (.iconst (4), 1, 0, 0, 4) := by decide +kernel
theorem i_194_70 : a_ins 194 70 = some (.invokevirtual 123, 3, 168, 3, 0) := by decide +kernel
theorem i_194_73 : a_ins 194 73 = some (.goto (53), 3, 126, 0, 0) := by decide +kernel
theorem i_194_76 : a_ins 194 76 = some (.aload_n 0, 1, 0, 0, 0) := by decide +kernel
theorem i_194_77 : a_ins 194 77 = some (.iconst (1), 1, 0, 0, 1) := by decide +kernel
theorem i_194_78 : a_ins 194 78 = some (.iload_n 1, 1, 0, 0, 0) := by decide +kernel
theorem i_194_79 : a_ins 194 79 = some (.ishl, 1, 0, 0, 0) := by decide +kernel
theorem i_194_80 : a_ins 194 80 = some (.invokevirtual 129, 3, 173, 2, 0) := by decide +kernel
theorem i_194_83 : a_ins 194 83 = some (.ifCond .ne (21), 3, 104, 0, 0) := by decide +kernel
theorem i_194_86 : a_ins 194 86 = some (.aload_n 0, 1, 0, 0, 0) := by decide +kernel
theorem i_194_87 : a_ins 194 87 = some (.iload_n 2, 1, 0, 0, 0) := by decide +kernel
theorem i_194_88 : a_ins 194 88 = some (.iconst (5), 1, 0, 0, 5) := by decide +kernel
theorem i_194_89 : a_ins 194 89 = some (.invokevirtual 151, 3, 190, 3, 0) := by decide +kernel
theorem i_194_92 : a_ins 194 92 = some (.ifCond .eq (12), 3, 104, 0, 0) := by decide +kernel
theorem i_194_95 : a_ins 194 95 = some (.aload_n 0, 1, 0, 0, 0) := by decide +kernel
theorem i_194_96 : a_ins 194 96 = some (.iload_n 1, 1, 0, 0, 0) := by decide +kernel
theorem i_194_97 : a_ins 194 97 = some (.iconst (5), 1, 0, 0, 5) := by decide +kernel
theorem i_194_98 : a_ins 194 98 = some (.invokevirtual 123, 3, 168, 3, 0) := by decide +kernel
theorem i_194_101 : a_ins 194 101 = some (.goto (25), 3, 126, 0, 0) := by decide +kernel
theorem i_194_104 : a_ins 194 104 = some (.aload_n 0, 1, 0, 0, 0) := by decide +kernel
theorem i_194_105 : a_ins 194 105 = some (.iconst (1), 1, 0, 0, 1) := by decide +kernel
theorem i_194_106 : a_ins 194 106 = some (.iload_n 1, 1, 0, 0, 0) := by decide +kernel
theorem i_194_107 : a_ins 194 107 = some (.ishl, 1, 0, 0, 0) := by decide +kernel
theorem i_194_108 : a_ins 194 108 = some (.invokevirtual 129, 3, 173, 2, 0) := by decide +kernel
theorem i_194_111 : a_ins 194 111 = some (.ifCond .ne (15), 3, 126, 0, 0) := by decide +kernel
theorem i_194_114 : a_ins 194 114 = some (.aload_n 0, 1, 0, 0, 0) := by decide +kernel
theorem i_194_115 : a_ins 194 115 = some (.getfield 13, 3, 8, 1, 0) := by decide +kernel
theorem i_194_118 : a_ins 194 118 = some (.iconst (1), 1, 0, 0, 1) := by decide +kernel
theorem i_194_119 : a_ins 194 119 = some (.iaload, 1, 0, 0, 0) := by decide +kernel
theorem i_194_120 : a_ins 194 120 = some (.ifCond .ne (6), 3, 126, 0, 0) := by decide +kernel
theorem i_194_123 : a_ins 194 123 = some (.bipush (-4), 2, 0, 0, -4) := by decide +kernel
theorem i_194_125 : a_ins 194 125 = some (.ireturn, 1, 0, 0, 0) := by decide +kernel
theorem i_194_126 : a_ins 194 126 = some (.aload_n 0, 1, 0, 0, 0) := by decide +kernel
theorem i_194_127 : a_ins 194 127 = some (.iload_n 1, 1, 0, 0, 0) := by decide +kernel
theorem i_194_128 : a_ins 194 128 = some (.invokevirtual 169, 3, 195, 2, 0) := by decide +kernel
theorem i_194_131 : a_ins 194 131 = some (.aload_n 0, 1, 0, 0, 0) := by decide +kernel
theorem i_194_132 : a_ins 194 132 = some (.iload_n 1, 1, 0, 0, 0) := by decide +kernel
theorem i_194_133 : a_ins 194 133 = some (.iconst (0), 1, 0, 0, 0) := by decide +kernel
theorem i_194_134 : a_ins 194 134 = some (.invokevirtual 72, 3, 155, 3, 0) := by decide +kernel
theorem i_194_137 : a_ins 194 137 = some (.ireturn, 1, 0, 0, 0) := by decide +kernel
theorem i_195_0 : a_ins 195 0 = some (.aload_n 0, 1, 0, 0, 0) := by decide +kernel
theorem i_195_1 : a_ins 195 1 = some (.iload_n 1, 1, 0, 0, 0) := by decide +kernel
theorem i_195_2 : a_ins 195 2 = some (.iconst (1), 1, 0, 0, 1) := by decide +kernel
theorem i_195_3 : a_ins 195 3 = some (.iconst (1), 1, 0, 0, 1) := by decide +kernel
theorem i_195_4 : a_ins 195 4 = some (.invokevirtual 64, 3, 145, 4, 0) := by decide +kernel
theorem i_195_7 : a_ins 195 7 = some (.aload_n 0, 1, 0, 0, 0) := by decide +kernel
theorem i_195_8 : a_ins 195 8 = some (.iload_n 1, 1, 0, 0, 0) := by decide +kernel
theorem i_195_9 : a_ins 195 9 = some (.invokevirtual 97, 3, 172, 2, 0) := by decide +kernel
theorem i_195_12 : a_ins 195 12 = some (.istore_n 2, 1, 0, 0, 0) := by decide +kernel
theorem i_195_13 : a_ins 195 13 = some (.iconst (0), 1, 0, 0, 0) := by decide +kernel
theorem i_195_14 : a_ins 195 14 = some (.istore_n 3, 1, 0, 0, 0) := by decide +kernel
theorem i_195_15 : a_ins 195 15 = some (.iload_n 3, 1, 0, 0, 0) := by decide +kernel
theorem i_195_16 : a_ins 195 16 = some (.aload_n 0, 1, 0, 0, 0) := by decide +kernel
theorem i_195_17 : a_ins 195 17 = some (.getfield 13, 3, 8, 1, 0) := by decide +kernel
theorem i_195_20 : a_ins 195 20 = some (.iconst (0), 1, 0, 0, 0) := by decide +kernel
theorem i_195_21 : a_ins 195 21 = some (.iaload, 1, 0, 0, 0) := by decide +kernel
theorem i_195_22 : a_ins 195 22 = some (.if_icmp .ge (33), 3, 55, 0, 0) := by decide +kernel
theorem i_195_25 : a_ins 195 25 = some (.iload_n 2, 1, 0, 0, 0) := by decide +kernel
theorem i_195_26 : a_ins 195 26 = some (.iload_n 3, 1, 0, 0, 0) := by decide +kernel
theorem i_195_27 : a_ins 195 27 = some (.invokestatic 79, 3, 161, 2, 0) := by decide +kernel
theorem i_195_30 : a_ins 195 30 = some (.ifCond .eq (19), 3, 49, 0, 0) := by decide +kernel
theorem i_195_33 : a_ins 195 33 = some (.aload_n 0, 1, 0, 0, 0) := by decide +kernel
theorem i_195_34 : a_ins 195 34 = some (.iload_n 3, 1, 0, 0, 0) := by decide +kernel
theorem i_195_35 : a_ins 195 35 = some (.iconst (5), 1, 0, 0, 5) := by decide +kernel
theorem i_195_36 : a_ins 195 36 = some (.aload_n 0, 1, 0, 0, 0) := by decide +kernel
theorem i_195_37 : a_ins 195 37 = some (.iload_n 3, 1, 0, 0, 0) := by decide +kernel
theorem i_195_38 : a_ins 195 38 = some (.iconst (5), 1, 0, 0, 5) := by decide +kernel
theorem i_195_39 : a_ins 195 39 = some (.invokevirtual 72, 3, 155, 3, 0) := by decide +kernel
theorem i_195_42 : a_ins 195 42 = some (.iconst (1), 1, 0, 0, 1) := by decide +kernel
theorem i_195_43 : a_ins 195 43 = some (.iload_n 1, 1, 0, 0, 0) := by decide +kernel
theorem i_195_44 : a_ins 195 44 = some (.ishl, 1, 0, 0, 0) := by decide +kernel
theorem i_195_45 : a_ins 195 45 = some (.ior, 1, 0, 0, 0) := by decide +kernel
theorem i_195_46 : a_ins 195 46 = some (.invokevirtual 64, 3, 145, 4, 0) := by decide +kernel
theorem i_195_49 : a_ins 195 49 = some (.iinc 3 (1), 3, 0, 0, 1) := by decide +kernel
theorem i_195_52 : a_ins 195 52 = some (.goto (-37), 3, 15, 0, 0) := by decide +kernel
theorem i_195_55 : a_ins 195 55 = some (.aload_n 0, 1, 0, 0, 0) := by decide +kernel
theorem i_195_56 : a_ins 195 56 = some (.iload_n 1, 1, 0, 0, 0) := by decide +kernel
theorem i_195_57 : a_ins 195 57 = some (.iconst (5), 1, 0, 0, 5) := by decide +kernel
theorem i_195_58 : a_ins 195 58 = some (.iload_n 2, 1, 0, 0, 0) := by decide +kernel
theorem i_195_59 : a_ins 195 59 = some (.invokevirtual 64, 3, 145, 4, 0) := by decide +kernel
theorem i_195_62 : a_ins 195 62 = some (.return_, 1, 0, 0, 0) := by decide +kernel
theorem i_196_0 : a_ins 196 0 = some (.aload_n 0, 1, 0, 0, 0) := by decide +kernel
theorem i_196_1 : a_ins 196 1 = some (.iconst (0), 1, 0, 0, 0) := by decide +kernel
theorem i_196_2 : a_ins 196 2 = some (.putfield 1, 3, 8, 0, 0) := by decide +kernel
theorem i_196_5 : a_ins 196 5 = some (.aload_n 0, 1, 0, 0, 0) := by decide +kernel
theorem i_196_6 : a_ins 196 6 = some (.invokevirtual 182, 3, 148, 1, 0) := by decide +kernel
theorem i_196_9 : a_ins 196 9 = some (.aload_n 0, 1, 0, 0, 0) := by decide +kernel
theorem i_196_10 : a_ins 196 10 = some (.aload_n 0, 1, 0, 0, 0) := by decide +kernel
theorem i_196_11 : a_ins 196 11 = some (.iload_n 1, 1, 0, 0, 0) := by decide +kernel
theorem i_196_12 : a_ins 196 12 = some (.invokevirtual 223, 3, 197, 2, 0) := by decide +kernel
theorem i_196_15 : a_ins 196 15 = some (.invokevirtual 185, 3, 150, 2, 0) := by decide +kernel
theorem i_196_18 : a_ins 196 18 = some (.ireturn, 1, 0, 0, 0) := by decide +kernel
theorem i_197_0 : a_ins 197 0 = some (.iload_n 1, 1, 0, 0, 0) := by decide +kernel
theorem i_197_1 : a_ins 197 1 = some (.invokestatic 133, 3, 165, 1, 0) := by decide +kernel
theorem i_197_4 : a_ins 197 4 = some (.ifCond .ne (6), 3, 10, 0, 0) := by decide +kernel
theorem i_197_7 : a_ins 197 7 = some (.bipush (-3), 2, 0, 0, -3) := by decide +kernel
theorem i_197_9 : a_ins 197 9 = some (.ireturn, 1, 0, 0, 0) := by decide +kernel
theorem i_197_10 : a_ins 197 10 = some (.aload_n 0, 1, 0, 0, 0) := by decide +kernel
theorem i_197_11 : a_ins 197 11 = some (.getfield 13, 3, 8, 1, 0) := by decide +kernel
theorem i_197_14 : a_ins 197 14 = some (.iconst (1), 1, 0, 0, 1) := by decide +kernel
theorem i_197_15 : a_ins 197 15 = some (.iaload, 1, 0, 0, 0) := by decide +kernel
theorem i_197_16 : a_ins 197 16 = some (.iconst (1), 1, 0, 0, 1) := by decide +kernel
theorem i_197_17 : a_ins 197 17 = some (.if_icmp .eq (12), 3, 29, 0, 0) := by decide +kernel
theorem i_197_20 : a_ins 197 20 = some (.aload_n 0, 1, 0, 0, 0) := by decide +kernel
theorem i_197_21 : a_ins 197 21 = some (.iconst (1), 1, 0, 0, 1) := by decide +kernel
theorem i_197_22 : a_ins 197 22 = some (.iconst (1), 1, 0, 0, 1) := by decide +kernel
theorem i_197_23 : a_ins 197 23 = some (.invokevirtual 76, 3, 158, 3, 0) := by decide +kernel
theorem i_197_26 : a_ins 197 26 = some (.ifCond .eq (6), 3, 32, 0, 0) := by decide +kernel
theorem i_197_29 : a_ins 197 29 = some (.bipush (-5), 2, 0, 0, -5) := by decide +kernel
theorem i_197_31 : a_ins 197 31 = some (.ireturn, 1, 0, 0, 0) := by decide +kernel
theorem i_197_32 : a_ins 197 32 = some (.aload_n 0, 1, 0, 0, 0) := by decide +kernel
theorem i_197_33 : a_ins 197 33 = some (.iconst (1), 1, 0, 0, 1) := by decide +kernel
theorem i_197_34 : a_ins 197 34 = some (.iconst (2), 1, 0, 0, 2) := by decide +kernel
theorem i_197_35 : a_ins 197 35 = some (.invokevirtual 76, 3, 158, 3, 0) := by decide +kernel
theorem i_197_38 : a_ins 197 38 = some (.istore_n 2, 1, 0, 0, 0) := by decide +kernel
theorem i_197_39 : a_ins 197 39 = some (.iload_n 2, 1, 0, 0, 0) := by decide +kernel
theorem i_197_40 : a_ins 197 40 = some (.ifCond .ne (6), 3, 46, 0, 0) := by decide +kernel
theorem i_197_43 : a_ins 197 43 = some (.bipush (-6), 2, 0, 0, -6) := by decide +kernel
theorem i_197_45 : a_ins 197 45 = some (.ireturn, 1, 0, 0, 0) := by decide +kernel
theorem i_197_46 : a_ins 197 46 = some (.iload_n 2, 1, 0, 0, 0) := by decide +kernel
theorem i_197_47 : a_ins 197 47 = some (.aload_n 0, 1, 0, 0, 0) := by decide +kernel
theorem i_197_48 : a_ins 197 48 = some (.iconst (2), 1, 0, 0, 2) := by decide +kernel
theorem i_197_49 : a_ins 197 49 = some (.aload_n 0, 1, 0, 0, 0) := by decide +kernel
theorem i_197_50 : a_ins 197 50 = some (.iload_n 2, 1, 0, 0, 0) := by decide +kernel
theorem i_197_51 : a_ins 197 51 = some (.invokestatic 160, 3, 188, 1, 0) := by decide +kernel
theorem i_197_54 : a_ins 197 54 = some (.iconst (2), 1, 0, 0, 2) := by decide +kernel
theorem i_197_55 : a_ins 197 55 = some (.invokevirtual 72, 3, 155, 3, 0) := by decide +kernel
theorem i_197_58 : a_ins 197 58 = some (.invokevirtual 76, 3, 158, 3, 0) := by decide +kernel
theorem i_197_61 : a_ins 197 61 = some (.iand, 1, 0, 0, 0) := by decide +kernel
theorem i_197_62 : a_ins 197 62 = some (.istore_n 2, 1, 0, 0, 0) := by decide +kernel
theorem i_197_63 : a_ins 197 63 = some (.aload_n 0, 1, 0, 0, 0) := by decide +kernel
theorem i_197_64 : a_ins 197 64 = some (.iload_n 2, 1, 0, 0, 0) := by decide +kernel
theorem i_197_65 : a_ins 197 65 = some (.invokevirtual 172, 3, 198, 2, 0) := by decide +kernel
theorem i_197_68 : a_ins 197 68 = some (.istore_n 3, 1, 0, 0, 0) := by decide +kernel
theorem i_197_69 : a_ins 197 69 = some (.aload_n 0, 1, 0, 0, 0) := by decide +kernel
theorem i_197_70 : a_ins 197 70 = some (.iload_n 2, 1, 0, 0, 0) := by decide +kernel
theorem i_197_71 : a_ins 197 71 = some (.invokevirtual 175, 3, 199, 2, 0) := by decide +kernel
theorem i_197_74 : a_ins 197 74 = some (.ifCond .ne (6), 3, 80, 0, 0) := by decide +kernel
theorem i_197_77 : a_ins 197 77 = some (.bipush (-4), 2, 0, 0, -4) := by decide +kernel
theorem i_197_79 : a_ins 197 79 = some (.ireturn, 1, 0, 0, 0) := by decide +kernel
theorem i_197_80 : a_ins 197 80 = some (.iconst (0), 1, 0, 0, 0) := by decide +kernel
theorem i_197_81 : a_ins 197 81 = some (.istore 4, 2, 0, 0, 0) := by decide +kernel
theorem i_197_83 : a_ins 197 83 = some (.iload 4, 2, 0, 0, 0) := by decide +kernel
theorem i_197_85 : a_ins 197 85 = some (.aload_n 0, 1, 0, 0, 0) := by decide +kernel
theorem i_197_86 : a_ins 197 86 = some (.getfield 13, 3, 8, 1, 0) := by decide +kernel
theorem i_197_89 : a_ins 197 89 = some (.iconst (0), 1, 0, 0, 0) := by decide +kernel
theorem i_197_90 : a_ins 197 90 = some (.iaload, 1, 0, 0, 0) := by decide +kernel
theorem i_197_91 : a_ins 197 91 = some (.if_icmp .ge (24), 3, 115, 0, 0) := by decide +kernel
theorem i_197_94 : a_ins 197 94 = some (.iload_n 2, 1, 0, 0, 0) := by decide +kernel
theorem i_197_95 : a_ins 197 95 = some (.iload 4, 2, 0, 0, 0) := by decide +kernel
theorem i_197_97 : a_ins 197 97 = some (.invokestatic 79, 3, 161, 2, 0) := by decide +kernel
theorem i_197_100 : a_ins 197 100 = some (.ifCond .eq (9), 3, 109, 0, 0) := by decide +kernel
theorem i_197_103 : a_ins 197 103 = some (.aload_n 0, 1, 0, 0, 0) := by decide +kernel
theorem i_197_104 : a_ins 197 104 = some (.iload 4, 2, 0, 0, 0) := by decide +kernel
theorem i_197_106 : a_ins 197 106 = some (.invokevirtual 169, 3, 195, 2, 0) := by decide +kernel
theorem i_197_109 : a_ins 197 109 = some (.iinc 4 (1), 3, 0, 0, 1) := by decide +kernel
theorem i_197_112 : a_ins 197 112 = some (.goto (-29), 3, 83, 0, 0) := by decide +kernel
theorem i_197_115 : a_ins 197 115 = some (.aload_n 0, 1, 0, 0, 0) := by decide +kernel
theorem i_197_116 : a_ins 197 116 = some (.iload_n 2, 1, 0, 0, 0) := by decide +kernel
theorem i_197_117 : a_ins 197 117 = some (.invokevirtual 129, 3, 173, 2, 0) := by decide +kernel
theorem i_197_120 : a_ins 197 120 = some (.ifCond .eq (5), 3, 125, 0, 0) := by decide +kernel
theorem i_197_123 : a_ins 197 123 = some (.iconst (4), 1, 0, 0, 4) := by decide +kernel
theorem i_197_124 : a_ins 197 124 = some (.ireturn, 1, 0, 0, 0) := by decide +kernel
theorem i_197_125 : a_ins 197 125 = some (.aload_n 0, 1, 0, 0, 0) := by decide +kernel
theorem i_197_126 : a_ins 197 126 = some (.iload_n 3, 1, 0, 0, 0) := by decide +kernel
theorem i_197_127 : a_ins 197 127 = some (.iload_n 2, 1, 0, 0, 0) := by decide +kernel
theorem i_197_128 : a_ins 197 128 = some (.invokevirtual 163, 3, 189, 3, 0) := by decide +kernel
theorem i_197_131 : a_ins 197 131 = some (.istore 4, 2, 0, 0, 0) := by decide +kernel
theorem i_197_133 : a_ins 197 133 = some (.aload_n 0, 1, 0, 0, 0) := by decide +kernel
theorem i_197_134 : a_ins 197 134 = some (.iload_n 1, 1, 0, 0, 0) := by decide +kernel
theorem i_197_135 : a_ins 197 135 = some (.invokevirtual 136, 3, 166, 2, 0) := by decide +kernel
theorem i_197_138 : a_ins 197 138 = some (.aload_n 0, 1, 0, 0, 0) := by decide +kernel
theorem i_197_139 : a_ins 197 139 = some (.iload_n 3, 1, 0, 0, 0) := by decide +kernel
theorem i_197_140 : a_ins 197 140 = some (.invokestatic 160, 3, 188, 1, 0) := by decide +kernel
theorem i_197_143 : a_ins 197 143 = some (.iload 4, 2, 0, 0, 0) := by decide +kernel
theorem i_197_145 : a_ins 197 145 = some (.iload_n 2, 1, 0, 0, 0) := by decide +kernel
theorem i_197_146 : a_ins 197 146 = some (.invokevirtual 166, 3, 191, 4, 0) := by decide +kernel
theorem i_197_149 : a_ins 197 149 = some (.iload 4, 2, 0, 0, 0) := by decide +kernel
theorem i_197_151 : a_ins 197 151 = some (.ireturn, 1, 0, 0, 0) := by decide +kernel
theorem i_198_0 : a_ins 198 0 = some (.aload_n 0, 1, 0, 0, 0) := by decide +kernel
theorem i_198_1 : a_ins 198 1 = some (.invokevirtual 142, 3, 159, 1, 0) := by decide +kernel
theorem i_198_4 : a_ins 198 4 = some (.istore_n 2, 1, 0, 0, 0) := by decide +kernel
theorem i_198_5 : a_ins 198 5 = some (.iconst (0), 1, 0, 0, 0) := by decide +kernel
theorem i_198_6 : a_ins 198 6 = some (.istore_n 3, 1, 0, 0, 0) := by decide +kernel
theorem i_198_7 : a_ins 198 7 = some (.iload_n 3, 1, 0, 0, 0) := by decide +kernel
theorem i_198_8 : a_ins 198 8 = some (.aload_n 0, 1, 0, 0, 0) := by decide +kernel
theorem i_198_9 : a_ins 198 9 = some (.getfield 13, 3, 8, 1, 0) := by decide +kernel
theorem i_198_12 : a_ins 198 12 = some (.iconst (0), 1, 0, 0, 0) := by decide +kernel
theorem i_198_13 : a_ins 198 13 = some (.iaload, 1, 0, 0, 0) := by decide +kernel
theorem i_198_14 : a_ins 198 14 = some (.if_icmp .ge (26), 3, 40, 0, 0) := by decide +kernel
theorem i_198_17 : a_ins 198 17 = some (.iload_n 1, 1, 0, 0, 0) := by decide +kernel
theorem i_198_18 : a_ins 198 18 = some (.iload_n 3, 1, 0, 0, 0) := by decide +kernel
theorem i_198_19 : a_ins 198 19 = some (.invokestatic 79, 3, 161, 2, 0) := by decide +kernel
theorem i_198_22 : a_ins 198 22 = some (.ifCond .eq (12), 3, 34, 0, 0) := by decide +kernel
theorem i_198_25 : a_ins 198 25 = some (.iload_n 2, 1, 0, 0, 0) := by decide +kernel
theorem i_198_26 : a_ins 198 26 = some (.aload_n 0, 1, 0, 0, 0) := by decide +kernel
theorem i_198_27 : a_ins 198 27 = some (.iload_n 3, 1, 0, 0, 0) := by decide +kernel
theorem i_198_28 : a_ins 198 28 = some (.iconst (5), 1, 0, 0, 5) := by decide +kernel
theorem i_198_29 : a_ins 198 29 = some (.invokevirtual 72, 3, 155, 3, 0) := by decide +kernel
theorem i_198_32 : a_ins 198 32 = some (.iand, 1, 0, 0, 0) := by decide +kernel
theorem i_198_33 : a_ins 198 33 = some (.istore_n 2, 1, 0, 0, 0) := by decide +kernel
theorem i_198_34 : a_ins 198 34 = some (.iinc 3 (1), 3, 0, 0, 1) := by decide +kernel
theorem i_198_37 : a_ins 198 37 = some (.goto (-30), 3, 7, 0, 0) := by decide +kernel
theorem i_198_40 : a_ins 198 40 = some (.iload_n 2, 1, 0, 0, 0) := by decide +kernel
theorem i_198_41 : a_ins 198 41 = some (.ireturn, 1, 0, 0, 0) := by decide +kernel
theorem i_199_0 : a_ins 199 0 = some (.aload_n 0, 1, 0, 0, 0) := by decide +kernel
theorem i_199_1 : a_ins 199 1 = some (.iload_n 1, 1, 0, 0, 0) := by decide +kernel
theorem i_199_2 : a_ins 199 2 = some (.invokevirtual 172, 3, 198, 2, 0) := by decide +kernel
theorem i_199_5 : a_ins 199 5 = some (.ifCond .eq (19), 3, 24, 0, 0) := by decide +kernel
theorem i_199_8 : a_ins 199 8 = some (.aload_n 0, 1, 0, 0, 0) := by decide +kernel
theorem i_199_9 : a_ins 199 9 = some (.iload_n 1, 1, 0, 0, 0) := by decide +kernel
theorem i_199_10 : a_ins 199 10 = some (.invokevirtual 172, 3, 198, 2, 0) := by decide +kernel
theorem i_199_13 : a_ins 199 13 = some (.iload_n 1, 1, 0, 0, 0) := by decide +kernel
theorem i_199_14 : a_ins 199 14 = some (.iconst (-1), 1, 0, 0, -1) := by decide +kernel
theorem i_199_15 : a_ins 199 15 = some (.ixor, 1, 0, 0, 0) := by decide +kernel
theorem i_199_16 : a_ins 199 16 = some (.iand, 1, 0, 0, 0) := by decide +kernel
theorem i_199_17 : a_ins 199 17 = some (.ifCond .ne (7), 3, 24, 0, 0) := by decide +kernel
theorem i_199_20 : a_ins 199 20 = some (.iconst (1), 1, 0, 0, 1) := by decide +kernel
theorem i_199_21 : a_ins 199 21 = some (.goto (4), 3, 25, 0, 0) := by decide +kernel
theorem i_199_24 : a_ins 199 24 = some (.iconst (0), 1, 0, 0, 0) := by decide +kernel
theorem i_199_25 : a_ins 199 25 = some (.ireturn, 1, 0, 0, 0) := by decide +kernel
theorem i_200_0 : a_ins 200 0 = some (.aload_n 0, 1, 0, 0, 0) := by decide +kernel
theorem i_200_1 : a_ins 200 1 = some (.iconst (0), 1, 0, 0, 0) := by decide +kernel
theorem i_200_2 : a_ins 200 2 = some (.putfield 1, 3, 8, 0, 0) := by decide +kernel
theorem i_200_5 : a_ins 200 5 = some (.aload_n 0, 1, 0, 0, 0) := by decide +kernel
theorem i_200_6 : a_ins 200 6 = some (.iload_n 1, 1, 0, 0, 0) := by decide +kernel
theorem i_200_7 : a_ins 200 7 = some (.invokevirtual 157, 3, 154, 2, 0) := by decide +kernel
theorem i_200_10 : a_ins 200 10 = some (.ifCond .eq (24), 3, 34, 0, 0) := by decide +kernel
theorem i_200_13 : a_ins 200 13 = some (.iload_n 2, 1, 0, 0, 0) := by decide +kernel
theorem i_200_14 : a_ins 200 14 = some (.i2l, 1, 0, 0, 0) := by decide +kernel
theorem i_200_15 : a_ins 200 15 = some (.lconst 0, 1, 0, 0, 0) := by decide +kernel
theorem i_200_16 : a_ins 200 16 = some (.ldc2_w 180, 3, 0, 0, 5) := by decide +kernel
theorem i_200_19 : a_ins 200 19 = some (.invokestatic 68, 3, 147, 3, 0) := by decide +kernel
theorem i_200_22 : a_ins 200 22 = some (.ifCond .eq (12), 3, 34, 0, 0) := by decide +kernel
theorem i_200_25 : a_ins 200 25 = some (.aload_n 0, 1, 0, 0, 0) := by decide +kernel
theorem i_200_26 : a_ins 200 26 = some (.iload_n 1, 1, 0, 0, 0) := by decide +kernel
theorem i_200_27 : a_ins 200 27 = some (.iload_n 2, 1, 0, 0, 0) := by decide +kernel
theorem i_200_28 : a_ins 200 28 = some (.invokevirtual 72, 3, 155, 3, 0) := by decide +kernel
theorem i_200_31 : a_ins 200 31 = some (.goto (5), 3, 36, 0, 0) := by decide +kernel
theorem i_200_34 : a_ins 200 34 = some (.bipush (-2), 2, 0, 0, -2) := by decide +kernel
theorem i_200_36 : a_ins 200 36 = some (.ireturn, 1, 0, 0, 0) := by decide +kernel
theorem i_201_0 : a_ins 201 0 = some (.aload_n 0, 1, 0, 0, 0) := by decide +kernel
theorem i_201_1 : a_ins 201 1 = some (.iconst (0), 1, 0, 0, 0) := by decide +kernel
theorem i_201_2 : a_ins 201 2 = some (.putfield 1, 3, 8, 0, 0) := by decide +kernel
theorem i_201_5 : a_ins 201 5 = some (.aload_n 0, 1, 0, 0, 0) := by decide +kernel
theorem i_201_6 : a_ins 201 6 = some (.iload_n 1, 1, 0, 0, 0) := by decide +kernel
theorem i_201_7 : a_ins 201 7 = some (.invokevirtual 157, 3, 154, 2, 0) := by decide +kernel
theorem i_201_10 : a_ins 201 10 = some (.ifCond .ne (6), 3, 16, 0, 0) := by decide +kernel
theorem i_201_13 : a_ins 201 13 = some (.bipush (-2), 2, 0, 0, -2) := by decide +kernel
theorem i_201_15 : a_ins 201 15 = some (.ireturn, 1, 0, 0, 0) := by decide +kernel
theorem i_201_16 : a_ins 201 16 = some (.aload_n 0, 1, 0, 0, 0) := by decide +kernel
theorem i_201_17 : a_ins 201 17 = some (.iload_n 1, 1, 0, 0, 0) := by decide +kernel
theorem i_201_18 : a_ins 201 18 = some (.iconst (1), 1, 0, 0, 1) := by decide +kernel
theorem i_201_19 : a_ins 201 19 = some (.invokevirtual 72, 3, 155, 3, 0) := by decide +kernel
theorem i_201_22 : a_ins 201 22 = some (.iconst (1), 1, 0, 0, 1) := by decide +kernel
theorem i_201_23 : a_ins 201 23 = some (.if_icmp .ne (15), 3, 38, 0, 0) := by decide +kernel
theorem i_201_26 : a_ins 201 26 = some (.aload_n 0, 1, 0, 0, 0) := by decide +kernel
theorem i_201_27 : a_ins 201 27 = some (.aload_n 0, 1, 0, 0, 0) := by decide +kernel
theorem i_201_28 : a_ins 201 28 = some (.iload_n 1, 1, 0, 0, 0) := by decide +kernel
theorem i_201_29 : a_ins 201 29 = some (.invokevirtual 97, 3, 172, 2, 0) := by decide +kernel
theorem i_201_32 : a_ins 201 32 = some (.invokevirtual 226, 3, 202, 2, 0) := by decide +kernel
theorem i_201_35 : a_ins 201 35 = some (.goto (5), 3, 40, 0, 0) := by decide +kernel
theorem i_201_38 : a_ins 201 38 = some (.bipush (-5), 2, 0, 0, -5) := by decide +kernel
theorem i_201_40 : a_ins 201 40 = some (.ireturn, 1, 0, 0, 0) := by decide +kernel
theorem i_202_0 : a_ins 202 0 = some (.aload_n 0, 1, 0, 0, 0) := by decide +kernel
theorem i_202_1 : a_ins 202 1 = some (.iload_n 1, 1, 0, 0, 0) := by decide +kernel
theorem i_202_2 : a_ins 202 2 = some (.invokevirtual 129, 3, 173, 2, 0) := by decide +kernel
theorem i_202_5 : a_ins 202 5 = some (.ifCond .eq (7), 3, 12, 0, 0) := by decide +kernel
theorem i_202_8 : a_ins 202 8 = some (.iconst (-1), 1, 0, 0, -1) := by decide +kernel
theorem i_202_9 : a_ins 202 9 = some (.goto (9), 3, 18, 0, 0) := by decide +kernel
theorem i_202_12 : a_ins 202 12 = some (.aload_n 0, 1, 0, 0, 0) := by decide +kernel
theorem i_202_13 : a_ins 202 13 = some (.iload_n 1, 1, 0, 0, 0) := by decide +kernel
theorem i_202_14 : a_ins 202 14 = some (.iload_n 1, 1, 0, 0, 0) := by decide +kernel
theorem i_202_15 : a_ins 202 15 = some (.invokevirtual 163, 3, 189, 3, 0) := by decide +kernel
theorem i_202_18 : a_ins 202 18 = some (.ireturn, 1, 0, 0, 0) := by decide +kernel
theorem i_203_0 : a_ins 203 0 = some (.aload_n 0, 1, 0, 0, 0) := by decide +kernel
theorem i_203_1 : a_ins 203 1 = some (.iconst (0), 1, 0, 0, 0) := by decide +kernel
theorem i_203_2 : a_ins 203 2 = some (.putfield 1, 3, 8, 0, 0) := by decide +kernel
theorem i_203_5 : a_ins 203 5 = some (.aload_n 0, 1, 0, 0, 0) := by decide +kernel
theorem i_203_6 : a_ins 203 6 = some (.iload_n 1, 1, 0, 0, 0) := by decide +kernel
theorem i_203_7 : a_ins 203 7 = some (.invokevirtual 157, 3, 154, 2, 0) := by decide +kernel
theorem i_203_10 : a_ins 203 10 = some (.ifCond .ne (6), 3, 16, 0, 0) := by decide +kernel
theorem i_203_13 : a_ins 203 13 = some (.bipush (-2), 2, 0, 0, -2) := by decide +kernel
theorem i_203_15 : a_ins 203 15 = some (.ireturn, 1, 0, 0, 0) := by decide +kernel
theorem i_203_16 : a_ins 203 16 = some (.aload_n 0, 1, 0, 0, 0) := by decide +kernel
theorem i_203_17 : a_ins 203 17 = some (.iload_n 1, 1, 0, 0, 0) := by decide +kernel
theorem i_203_18 : a_ins 203 18 = some (.iconst (1), 1, 0, 0, 1) := by decide +kernel
theorem i_203_19 : a_ins 203 19 = some (.invokevirtual 72, 3, 155, 3, 0) := by decide +kernel
theorem i_203_22 : a_ins 203 22 = some (.iconst (1), 1, 0, 0, 1) := by decide +kernel
theorem i_203_23 : a_ins 203 23 = some (.if_icmp .eq (6), 3, 29, 0, 0) := by decide +kernel
theorem i_203_26 : a_ins 203 26 = some (.bipush (-5), 2, 0, 0, -5) := by decide +kernel
theorem i_203_28 : a_ins 203 28 = some (.ireturn, 1, 0, 0, 0) := by decide +kernel
theorem i_203_29 : a_ins 203 29 = some (.aload_n 0, 1, 0, 0, 0) := by decide +kernel
theorem i_203_30 : a_ins 203 30 = some (.aload_n 0, 1, 0, 0, 0) := by decide +kernel
theorem i_203_31 : a_ins 203 31 = some (.iload_n 1, 1, 0, 0, 0) := by decide +kernel
theorem i_203_32 : a_ins 203 32 = some (.invokevirtual 97, 3, 172, 2, 0) := by decide +kernel
theorem i_203_35 : a_ins 203 35 = some (.invokevirtual 226, 3, 202, 2, 0) := by decide +kernel
theorem i_203_38 : a_ins 203 38 = some (.istore_n 2, 1, 0, 0, 0) := by decide +kernel
theorem i_203_39 : a_ins 203 39 = some (.aload_n 0, 1, 0, 0, 0) := by decide +kernel
theorem i_203_40 : a_ins 203 40 = some (.iload_n 1, 1, 0, 0, 0) := by decide +kernel
theorem i_203_41 : a_ins 203 41 = some (.invokevirtual 97, 3, 172, 2, 0) := by decide +kernel
theorem i_203_44 : a_ins 203 44 = some (.invokestatic 148, 3, 179, 1, 0) := by decide +kernel
theorem i_203_47 : a_ins 203 47 = some (.iconst (1), 1, 0, 0, 1) := by decide +kernel
theorem i_203_48 : a_ins 203 48 = some (.isub, 1, 0, 0, 0) := by decide +kernel
theorem i_203_49 : a_ins 203 49 = some (.istore_n 3, 1, 0, 0, 0) := by decide +kernel
theorem i_203_50 : a_ins 203 50 = some (.iload_n 2, 1, 0, 0, 0) := by decide +kernel
theorem i_203_51 : a_ins 203 51 = some (.iconst (-1), 1, 0, 0, -1) := by decide +kernel
theorem i_203_52 : a_ins 203 52 = some (.if_icmp .ne (7), 3, 59, 0, 0) := by decide +kernel
theorem i_203_55 : a_ins 203 55 = some (.iconst (-1), 1, 0, 0, -1) := by decide +kernel
theorem i_203_56 : a_ins 203 56 = some (.goto (15), 3, 71, 0, 0) := by decide +kernel
theorem i_203_59 : a_ins 203 59 = some (.iload_n 2, 1, 0, 0, 0) := by decide +kernel
theorem i_203_60 : a_ins 203 60 = some (.iconst (2), 1, 0, 0, 2) := by decide +kernel
theorem i_203_61 : a_ins 203 61 = some (.if_icmp .ge (7), 3, 68, 0, 0) := by decide +kernel
theorem i_203_64 : a_ins 203 64 = some (.iload_n 3, 1, 0, 0, 0) := by decide +kernel
theorem i_203_65 : a_ins 203 65 = some (.goto (6), 3, 71, 0, 0) := by decide +kernel
theorem i_203_68 : a_ins 203 68 = some (.iconst (2), 1, 0, 0, 2) := by decide +kernel
theorem i_203_69 : a_ins 203 69 = some (.iload_n 3, 1, 0, 0, 0) := by decide +kernel
theorem i_203_70 : a_ins 203 70 = some (.imul, 1, 0, 0, 0) := by decide +kernel
theorem i_203_71 : a_ins 203 71 = some (.ireturn, 1, 0, 0, 0) := by decide +kernel
theorem i_204_0 : a_ins 204 0 = some (.aload_n 0, 1, 0, 0, 0) := by decide +kernel
theorem i_204_1 : a_ins 204 1 = some (.iconst (0), 1, 0, 0, 0) := by decide +kernel
theorem i_204_2 : a_ins 204 2 = some (.putfield 1, 3, 8, 0, 0) := by decide +kernel
theorem i_204_5 : a_ins 204 5 = some (.iconst (0), 1, 0, 0, 0) := by decide +kernel
theorem i_204_6 : a_ins 204 6 = some (.istore_n 1, 1, 0, 0, 0) := by decide +kernel
theorem i_204_7 : a_ins 204 7 = some (.iconst (0), 1, 0, 0, 0) := by decide +kernel
theorem i_204_8 : a_ins 204 8 = some (.istore_n 2, 1, 0, 0, 0) := by decide +kernel
theorem i_204_9 : a_ins 204 9 = some (.iload_n 2, 1, 0, 0, 0) := by decide +kernel
theorem i_204_10 : a_ins 204 10 = some (.aload_n 0, 1, 0, 0, 0) := by decide +kernel
theorem i_204_11 : a_ins 204 11 = some (.getfield 13, 3, 8, 1, 0) := by decide +kernel
theorem i_204_14 : a_ins 204 14 = some (.iconst (0), 1, 0, 0, 0) := by decide +kernel
theorem i_204_15 : a_ins 204 15 = some (.iaload, 1, 0, 0, 0) := by decide +kernel
theorem i_204_16 : a_ins 204 16 = some (.if_icmp .ge (41), 3, 57, 0, 0) := by decide +kernel
theorem i_204_19 : a_ins 204 19 = some (.iload_n 1, 1, 0, 0, 0) := by decide +kernel
theorem i_204_20 : a_ins 204 20 = some (.aload_n 0, 1, 0, 0, 0) := by decide +kernel
theorem i_204_21 : a_ins 204 21 = some (.iload_n 2, 1, 0, 0, 0) := by decide +kernel
theorem i_204_22 : a_ins 204 22 = some (.iconst (1), 1, 0, 0, 1) := by decide +kernel
theorem i_204_23 : a_ins 204 23 = some (.invokevirtual 72, 3, 155, 3, 0) := by decide +kernel
theorem i_204_26 : a_ins 204 26 = some (.iconst (1), 1, 0, 0, 1) := by decide +kernel
theorem i_204_27 : a_ins 204 27 = some (.if_icmp .ne (21), 3, 48, 0, 0) := by decide +kernel
theorem i_204_30 : a_ins 204 30 = some (.aload_n 0, 1, 0, 0, 0) := by decide +kernel
theorem i_204_31 : a_ins 204 31 = some (.aload_n 0, 1, 0, 0, 0) := by decide +kernel
theorem i_204_32 : a_ins 204 32 = some (.iload_n 2, 1, 0, 0, 0) := by decide +kernel
theorem i_204_33 : a_ins 204 33 = some (.invokevirtual 97, 3, 172, 2, 0) := by decide +kernel
theorem i_204_36 : a_ins 204 36 = some (.invokevirtual 229, 3, 205, 2, 0) := by decide +kernel
theorem i_204_39 : a_ins 204 39 = some (.ifCond .eq (9), 3, 48, 0, 0) := by decide +kernel
theorem i_204_42 : a_ins 204 42 = some (.iconst (1), 1, 0, 0, 1) := by decide +kernel
theorem i_204_43 : a_ins 204 43 = some (.iload_n 2, 1, 0, 0, 0) := by decide +kernel
theorem i_204_44 : a_ins 204 44 = some (.ishl, 1, 0, 0, 0) := by decide +kernel
theorem i_204_45 : a_ins 204 45 = some (.goto (4), 3, 49, 0, 0) := by decide +kernel
theorem i_204_48 : a_ins 204 48 = some (.iconst (0), 1, 0, 0, 0) := by decide +kernel
theorem i_204_49 : a_ins 204 49 = some (.ior, 1, 0, 0, 0) := by decide +kernel
theorem i_204_50 : a_ins 204 50 = some (.istore_n 1, 1, 0, 0, 0) := by decide +kernel
theorem i_204_51 : a_ins 204 51 = some (.iinc 2 (1), 3, 0, 0, 1) := by decide +kernel
theorem i_204_54 : a_ins 204 54 = some (.goto (-45), 3, 9, 0, 0) := by decide +kernel
theorem i_204_57 : a_ins 204 57 = some (.iload_n 1, 1, 0, 0, 0) := by decide +kernel
theorem i_204_58 : a_ins 204 58 = some (.ireturn, 1, 0, 0, 0) := by decide +kernel
theorem i_205_0 : a_ins 205 0 = some (.aload_n 0, 1, 0, 0, 0) := by decide +kernel
theorem i_205_1 : a_ins 205 1 = some (.iload_n 1, 1, 0, 0, 0) := by decide +kernel
theorem i_205_2 : a_ins 205 2 = some (.invokevirtual 129, 3, 173, 2, 0) := by decide +kernel
theorem i_205_5 : a_ins 205 5 = some (.ifCond .ne (17), 3, 22, 0, 0) := by decide +kernel
theorem i_205_8 : a_ins 205 8 = some (.aload_n 0, 1, 0, 0, 0) := by decide +kernel
theorem i_205_9 : a_ins 205 9 = some (.iload_n 1, 1, 0, 0, 0) := by decide +kernel
theorem i_205_10 : a_ins 205 10 = some (.iload_n 1, 1, 0, 0, 0) := by decide +kernel
theorem i_205_11 : a_ins 205 11 = some (.invokevirtual 163, 3, 189, 3, 0) := by decide +kernel
theorem i_205_14 : a_ins 205 14 = some (.iconst (-1), 1, 0, 0, -1) := by decide +kernel
theorem i_205_15 : a_ins 205 15 = some (.if_icmp .ne (7), 3, 22, 0, 0) := by decide +kernel
theorem i_205_18 : a_ins 205 18 = some (.iconst (1), 1, 0, 0, 1) := by decide +kernel
theorem i_205_19 : a_ins 205 19 = some (.goto (4), 3, 23, 0, 0) := by decide +kernel
theorem i_205_22 : a_ins 205 22 = some (.iconst (0), 1, 0, 0, 0) := by decide +kernel
theorem i_205_23 : a_ins 205 23 = some (.ireturn, 1, 0, 0, 0) := by decide +kernel
theorem i_206_0 : a_ins 206 0 = some (.aload_n 0, 1, 0, 0, 0) := by decide +kernel
theorem i_206_1 : a_ins 206 1 = some (.iconst (0), 1, 0, 0, 0) := by decide +kernel
theorem i_206_2 : a_ins 206 2 = some (.putfield 1, 3, 8, 0, 0) := by decide +kernel
theorem i_206_5 : a_ins 206 5 = some (.aload_n 0, 1, 0, 0, 0) := by decide +kernel
theorem i_206_6 : a_ins 206 6 = some (.iload_n 1, 1, 0, 0, 0) := by decide +kernel
theorem i_206_7 : a_ins 206 7 = some (.invokevirtual 232, 3, 207, 2, 0) := by decide +kernel
theorem i_206_10 : a_ins 206 10 = some (.ifCond .eq (11), 3, 21, 0, 0) := by decide +kernel
theorem i_206_13 : a_ins 206 13 = some (.aload_n 0, 1, 0, 0, 0) := by decide +kernel
theorem i_206_14 : a_ins 206 14 = some (.iload_n 1, 1, 0, 0, 0) := by decide +kernel
theorem i_206_15 : a_ins 206 15 = some (.invokevirtual 226, 3, 202, 2, 0) := by decide +kernel
theorem i_206_18 : a_ins 206 18 = some (.goto (5), 3, 23, 0, 0) := by decide +kernel
theorem i_206_21 : a_ins 206 21 = some (.bipush (-2), 2, 0, 0, -2) := by decide +kernel
theorem i_206_23 : a_ins 206 23 = some (.ireturn, 1, 0, 0, 0) := by decide +kernel
theorem i_207_0 : a_ins 207 0 = some (.iload_n 1, 1, 0, 0, 0) := by decide +kernel
theorem i_207_1 : a_ins 207 1 = some (.i2l, 1, 0, 0, 0) := by decide +kernel
theorem i_207_2 : a_ins 207 2 = some (.lconst 1, 1, 0, 0, 1) := by decide +kernel
theorem i_207_3 : a_ins 207 3 = some (.aload_n 0, 1, 0, 0, 0) := by decide +kernel
theorem i_207_4 : a_ins 207 4 = some (.invokevirtual 142, 3, 159, 1, 0) := by decide +kernel
theorem i_207_7 : a_ins 207 7 = some (.i2l, 1, 0, 0, 0) := by decide +kernel
theorem i_207_8 : a_ins 207 8 = some (.invokestatic 68, 3, 147, 3, 0) := by decide +kernel
theorem i_207_11 : a_ins 207 11 = some (.ireturn, 1, 0, 0, 0) := by decide +kernel
theorem i_208_0 : a_ins 208 0 = some (.aload_n 0, 1, 0, 0, 0) := by decide +kernel
theorem i_208_1 : a_ins 208 1 = some (.iconst (0), 1, 0, 0, 0) := by decide +kernel
theorem i_208_2 : a_ins 208 2 = some (.putfield 1, 3, 8, 0, 0) := by decide +kernel
theorem i_208_5 : a_ins 208 5 = some (.iconst (0), 1, 0, 0, 0) := by decide +kernel
theorem i_208_6 : a_ins 208 6 = some (.istore_n 1, 1, 0, 0, 0) := by decide +kernel
theorem i_208_7 : a_ins 208 7 = some (.iconst (1), 1, 0, 0, 1) := by decide +kernel
theorem i_208_8 : a_ins 208 8 = some (.istore_n 2, 1, 0, 0, 0) := by decide +kernel
theorem i_208_9 : a_ins 208 9 = some (.iload_n 2, 1, 0, 0, 0) := by decide +kernel
theorem i_208_10 : a_ins 208 10 = some (.aload_n 0, 1, 0, 0, 0) := by decide +kernel
theorem i_208_11 : a_ins 208 11 = some (.invokevirtual 142, 3, 159, 1, 0) := by decide +kernel
theorem i_208_14 : a_ins 208 14 = some (.if_icmp .gt (59), 3, 73, 0, 0) := by decide +kernel
theorem i_208_17 : a_ins 208 17 = some (.aload_n 0, 1, 0, 0, 0) := by decide +kernel
theorem i_208_18 : a_ins 208 18 = some (.iload_n 2, 1, 0, 0, 0) := by decide +kernel
theorem i_208_19 : a_ins 208 19 = some (.invokevirtual 235, 3, 209, 2, 0) := by decide +kernel
theorem i_208_22 : a_ins 208 22 = some (.iconst (1), 1, 0, 0, 1) := by decide +kernel
theorem i_208_23 : a_ins 208 23 = some (.if_icmp .eq (6), 3, 29, 0, 0) := by decide +kernel
theorem i_208_26 : a_ins 208 26 = some (.goto (41), 3, 67, 0, 0) := by decide +kernel
theorem i_208_29 : a_ins 208 29 = some (.iconst (1), 1, 0, 0, 1) := by decide +kernel
theorem i_208_30 : a_ins 208 30 = some (.istore_n 3, 1, 0, 0, 0) := by decide +kernel
theorem i_208_31 : a_ins 208 31 = some (.iload_n 3, 1, 0, 0, 0) := by decide +kernel
theorem i_208_32 : a_ins 208 32 = some (.aload_n 0, 1, 0, 0, 0) := by decide +kernel
theorem i_208_33 : a_ins 208 33 = some (.invokevirtual 142, 3, 159, 1, 0) := by decide +kernel
theorem i_208_36 : a_ins 208 36 = some (.if_icmp .gt (31), 3, 67, 0, 0) := by decide +kernel
theorem i_208_39 : a_ins 208 39 = some (.iload_n 1, 1, 0, 0, 0) := by decide +kernel
theorem i_208_40 : a_ins 208 40 = some (.iload_n 2, 1, 0, 0, 0) := by decide +kernel
theorem i_208_41 : a_ins 208 41 = some (.iload_n 3, 1, 0, 0, 0) := by decide +kernel
theorem i_208_42 : a_ins 208 42 = some (.iand, 1, 0, 0, 0) := by decide +kernel
theorem i_208_43 : a_ins 208 43 = some (.ifCond .ne (15), 3, 58, 0, 0) := by decide +kernel
theorem i_208_46 : a_ins 208 46 = some (.aload_n 0, 1, 0, 0, 0) := by decide +kernel
theorem i_208_47 : a_ins 208 47 = some (.iload_n 3, 1, 0, 0, 0) := by decide +kernel
theorem i_208_48 : a_ins 208 48 = some (.invokevirtual 235, 3, 209, 2, 0) := by decide +kernel
theorem i_208_51 : a_ins 208 51 = some (.ifCond .ne (7), 3, 58, 0, 0) := by decide +kernel
theorem i_208_54 : a_ins 208 54 = some (.iconst (1), 1, 0, 0, 1) := by decide +kernel
theorem i_208_55 : a_ins 208 55 = some (.goto (4), 3, 59, 0, 0) := by decide +kernel
theorem i_208_58 : a_ins 208 58 = some (.iconst (0), 1, 0, 0, 0) := by decide +kernel
theorem i_208_59 : a_ins 208 59 = some (.iadd, 1, 0, 0, 0) := by decide +kernel
theorem i_208_60 : a_ins 208 60 = some (.istore_n 1, 1, 0, 0, 0) := by decide +kernel
theorem i_208_61 : a_ins 208 61 = some (.iinc 3 (1), 3, 0, 0, 1) := by decide +kernel
theorem i_208_64 : a_ins 208 64 = some (.goto (-33), 3, 31, 0, 0) := by decide +kernel
theorem i_208_67 : a_ins 208 67 = some (.iinc 2 (1), 3, 0, 0, 1) := by decide +kernel
theorem i_208_70 : a_ins 208 70 = some (.goto (-61), 3, 9, 0, 0) := by decide +kernel
theorem i_208_73 : a_ins 208 73 = some (.iload_n 1, 1, 0, 0, 0) := by decide +kernel
theorem i_208_74 : a_ins 208 74 = some (.ireturn, 1, 0, 0, 0) := by decide +kernel
theorem i_209_0 : a_ins 209 0 = some (.aload_n 0, 1, 0, 0, 0) := by decide +kernel
theorem i_209_1 : a_ins 209 1 = some (.iload_n 1, 1, 0, 0, 0) := by decide +kernel
theorem i_209_2 : a_ins 209 2 = some (.invokevirtual 129, 3, 173, 2, 0) := by decide +kernel
theorem i_209_5 : a_ins 209 5 = some (.ifCond .eq (18), 3, 23, 0, 0) := by decide +kernel
theorem i_209_8 : a_ins 209 8 = some (.aload_n 0, 1, 0, 0, 0) := by decide +kernel
theorem i_209_9 : a_ins 209 9 = some (.iload_n 1, 1, 0, 0, 0) := by decide +kernel
theorem i_209_10 : a_ins 209 10 = some (.iconst (4), 1, 0, 0, 4) := by decide +kernel
theorem i_209_11 : a_ins 209 11 = some (.invokevirtual 151, 3, 190, 3, 0) := by decide +kernel
theorem i_209_14 : a_ins 209 14 = some (.ifCond .eq (7), 3, 21, 0, 0) := by decide +kernel
theorem i_209_17 : a_ins 209 17 = some (.iconst (1), 1, 0, 0, 1) := by decide +kernel
theorem i_209_18 : a_ins 209 18 = some (.goto (4), 3, 22, 0, 0) := by decide +kernel
theorem i_209_21 : a_ins 209 21 = some (.iconst (0), 1, 0, 0, 0) := by decide +kernel
theorem i_209_22 : a_ins 209 22 = some (.ireturn, 1, 0, 0, 0) := by decide +kernel
theorem i_209_23 : a_ins 209 23 = some (.aload_n 0, 1, 0, 0, 0) := by decide +kernel
theorem i_209_24 : a_ins 209 24 = some (.iload_n 1, 1, 0, 0, 0) := by decide +kernel
theorem i_209_25 : a_ins 209 25 = some (.iload_n 1, 1, 0, 0, 0) := by decide +kernel
theorem i_209_26 : a_ins 209 26 = some (.invokevirtual 163, 3, 189, 3, 0) := by decide +kernel
theorem i_209_29 : a_ins 209 29 = some (.istore_n 2, 1, 0, 0, 0) := by decide +kernel
theorem i_209_30 : a_ins 209 30 = some (.iload_n 2, 1, 0, 0, 0) := by decide +kernel
theorem i_209_31 : a_ins 209 31 = some (.iconst (-1), 1, 0, 0, -1) := by decide +kernel
theorem i_209_32 : a_ins 209 32 = some (.if_icmp .ne (7), 3, 39, 0, 0) := by decide +kernel
theorem i_209_35 : a_ins 209 35 = some (.iconst (-1), 1, 0, 0, -1) := by decide +kernel
theorem i_209_36 : a_ins 209 36 = some (.goto (18), 3, 54, 0, 0) := by decide +kernel
theorem i_209_39 : a_ins 209 39 = some (.iload_n 2, 1, 0, 0, 0) := by decide +kernel
theorem i_209_40 : a_ins 209 40 = some (.iconst (1), 1, 0, 0, 1) := by decide +kernel
theorem i_209_41 : a_ins 209 41 = some (.if_icmp .eq (8), 3, 49, 0, 0) := by decide +kernel
theorem i_209_44 : a_ins 209 44 = some (.iload_n 2, 1, 0, 0, 0) := by decide +kernel
theorem i_209_45 : a_ins 209 45 = some (.iconst (2), 1, 0, 0, 2) := by decide +kernel
theorem i_209_46 : a_ins 209 46 = some (.if_icmp .ne (7), 3, 53, 0, 0) := by decide +kernel
theorem i_209_49 : a_ins 209 49 = some (.iconst (1), 1, 0, 0, 1) := by decide +kernel
theorem i_209_50 : a_ins 209 50 = some (.goto (4), 3, 54, 0, 0) := by decide +kernel
theorem i_209_53 : a_ins 209 53 = some (.iconst (0), 1, 0, 0, 0) := by decide +kernel
theorem i_209_54 : a_ins 209 54 = some (.ireturn, 1, 0, 0, 0) := by decide +kernel
theorem i_210_0 : a_ins 210 0 = some (.aload_n 0, 1, 0, 0, 0) := by decide +kernel
theorem i_210_1 : a_ins 210 1 = some (.iconst (0), 1, 0, 0, 0) := by decide +kernel
theorem i_210_2 : a_ins 210 2 = some (.putfield 1, 3, 8, 0, 0) := by decide +kernel
theorem i_210_5 : a_ins 210 5 = some (.iload_n 1, 1, 0, 0, 0) := by decide +kernel
theorem i_210_6 : a_ins 210 6 = some (.i2l, 1, 0, 0, 0) := by decide +kernel
theorem i_210_7 : a_ins 210 7 = some (.lconst 0, 1, 0, 0, 0) := by decide +kernel
theorem i_210_8 : a_ins 210 8 = some (.aload_n 0, 1, 0, 0, 0) := by decide +kernel
theorem i_210_9 : a_ins 210 9 = some (.getfield 13, 3, 8, 1, 0) := by decide +kernel
theorem i_210_12 : a_ins 210 12 = some (.iconst (0), 1, 0, 0, 0) := by decide +kernel
theorem i_210_13 : a_ins 210 13 = some (.iaload, 1, 0, 0, 0) := by decide +kernel
theorem i_210_14 : a_ins 210 14 = some (.iconst (1), 1, 0, 0, 1) := by decide +kernel
theorem i_210_15 : a_ins 210 15 = some (.isub, 1, 0, 0, 0) := by decide +kernel
theorem i_210_16 : a_ins 210 16 = some (.i2l, 1, 0, 0, 0) := by decide +kernel
theorem i_210_17 : a_ins 210 17 = some (.invokestatic 68, 3, 147, 3, 0) := by decide +kernel
theorem i_210_20 : a_ins 210 20 = some (.ifCond .ne (6), 3, 26, 0, 0) := by decide +kernel
theorem i_210_23 : a_ins 210 23 = some (.bipush (-3), 2, 0, 0, -3) := by decide +kernel
theorem i_210_25 : a_ins 210 25 = some (.ireturn, 1, 0, 0, 0) := by decide +kernel
theorem i_210_26 : a_ins 210 26 = some (.iconst (0), 1, 0, 0, 0) := by decide +kernel
theorem i_210_27 : a_ins 210 27 = some (.istore_n 2, 1, 0, 0, 0) := by decide +kernel
theorem i_210_28 : a_ins 210 28 = some (.iconst (0), 1, 0, 0, 0) := by decide +kernel
theorem i_210_29 : a_ins 210 29 = some (.istore_n 3, 1, 0, 0, 0) := by decide +kernel
theorem i_210_30 : a_ins 210 30 = some (.iload_n 3, 1, 0, 0, 0) := by decide +kernel
theorem i_210_31 : a_ins 210 31 = some (.aload_n 0, 1, 0, 0, 0) := by decide +kernel
theorem i_210_32 : a_ins 210 32 = some (.invokevirtual 142, 3, 159, 1, 0) := by decide +kernel
theorem i_210_35 : a_ins 210 35 = some (.if_icmp .gt (46), 3, 81, 0, 0) := by decide +kernel
theorem i_210_38 : a_ins 210 38 = some (.iload_n 2, 1, 0, 0, 0) := by decide +kernel
theorem i_210_39 : a_ins 210 39 = some (.iload_n 3, 1, 0, 0, 0) := by decide +kernel
theorem i_210_40 : a_ins 210 40 = some (.invokestatic 148, 3, 179, 1, 0) := by decide +kernel
theorem i_210_43 : a_ins 210 43 = some (.iload_n 1, 1, 0, 0, 0) := by decide +kernel
theorem i_210_44 : a_ins 210 44 = some (.if_icmp .ne (28), 3, 72, 0, 0) := by decide +kernel
theorem i_210_47 : a_ins 210 47 = some (.iload_n 3, 1, 0, 0, 0) := by decide +kernel
theorem i_210_48 : a_ins 210 48 = some (.aload_n 0, 1, 0, 0, 0) := by decide +kernel
theorem i_210_49 : a_ins 210 49 = some (.iconst (1), 1, 0, 0, 1) := by decide +kernel
theorem i_210_50 : a_ins 210 50 = some (.iconst (1), 1, 0, 0, 1) := by decide +kernel
theorem i_210_51 : a_ins 210 51 = some (.invokevirtual 76, 3, 158, 3, 0) := by decide +kernel
theorem i_210_54 : a_ins 210 54 = some (.iconst (-1), 1, 0, 0, -1) := by decide +kernel
theorem i_210_55 : a_ins 210 55 = some (.ixor, 1, 0, 0, 0) := by decide +kernel
theorem i_210_56 : a_ins 210 56 = some (.iand, 1, 0, 0, 0) := by decide +kernel
theorem i_210_57 : a_ins 210 57 = some (.ifCond .ne (15), 3, 72, 0, 0) := by decide +kernel
theorem i_210_60 : a_ins 210 60 = some (.aload_n 0, 1, 0, 0, 0) := by decide +kernel
theorem i_210_61 : a_ins 210 61 = some (.iload_n 3, 1, 0, 0, 0) := by decide +kernel
theorem i_210_62 : a_ins 210 62 = some (.invokevirtual 238, 3, 211, 2, 0) := by decide +kernel
theorem i_210_65 : a_ins 210 65 = some (.ifCond .eq (7), 3, 72, 0, 0) := by decide +kernel
theorem i_210_68 : a_ins 210 68 = some (.iconst (1), 1, 0, 0, 1) := by decide +kernel
theorem i_210_69 : a_ins 210 69 = some (.goto (4), 3, 73, 0, 0) := by decide +kernel
theorem i_210_72 : a_ins 210 72 = some (.iconst (0), 1, 0, 0, 0) := by decide +kernel
theorem i_210_73 : a_ins 210 73 = some (.iadd, 1, 0, 0, 0) := by decide +kernel
theorem i_210_74 : a_ins 210 74 = some (.istore_n 2, 1, 0, 0, 0) := by decide +kernel
theorem i_210_75 : a_ins 210 75 = some (.iinc 3 (1), 3, 0, 0, 1) := by decide +kernel
theorem i_210_78 : a_ins 210 78 = some (.goto (-48), 3, 30, 0, 0) := by decide +kernel
theorem i_210_81 : a_ins 210 81 = some (.iload_n 2, 1, 0, 0, 0) := by decide +kernel
theorem i_210_82 : a_ins 210 82 = some (.ireturn, 1, 0, 0, 0) := by decide +kernel
theorem i_211_0 : a_ins 211 0 = some (.aload_n 0, 1, 0, 0, 0) := by decide +kernel
theorem i_211_1 : a_ins 211 1 = some (.iconst (1), 1, 0, 0, 1) := by decide +kernel
theorem i_211_2 : a_ins 211 2 = some (.iconst (1), 1, 0, 0, 1) := by decide +kernel
theorem i_211_3 : a_ins 211 3 = some (.invokevirtual 76, 3, 158, 3, 0) := by decide +kernel
theorem i_211_6 : a_ins 211 6 = some (.iload_n 1, 1, 0, 0, 0) := by decide +kernel
theorem i_211_7 : a_ins 211 7 = some (.iconst (-1), 1, 0, 0, -1) := by decide +kernel
theorem i_211_8 : a_ins 211 8 = some (.ixor, 1, 0, 0, 0) := by decide +kernel
theorem i_211_9 : a_ins 211 9 = some (.iand, 1, 0, 0, 0) := by decide +kernel
theorem i_211_10 : a_ins 211 10 = some (.istore_n 2, 1, 0, 0, 0) := by decide +kernel
theorem i_211_11 : a_ins 211 11 = some (.iconst (0), 1, 0, 0, 0) := by decide +kernel
theorem i_211_12 : a_ins 211 12 = some (.istore_n 3, 1, 0, 0, 0) := by decide +kernel
theorem i_211_13 : a_ins 211 13 = some (.iload_n 3, 1, 0, 0, 0) := by decide +kernel
theorem i_211_14 : a_ins 211 14 = some (.aload_n 0, 1, 0, 0, 0) := by decide +kernel
theorem i_211_15 : a_ins 211 15 = some (.getfield 13, 3, 8, 1, 0) := by decide +kernel
theorem i_211_18 : a_ins 211 18 = some (.iconst (0), 1, 0, 0, 0) := by decide +kernel
theorem i_211_19 : a_ins 211 19 = some (.iaload, 1, 0, 0, 0) := by decide +kernel
theorem i_211_20 : a_ins 211 20 = some (.if_icmp .ge (39), 3, 59, 0, 0) := by decide +kernel
theorem i_211_23 : a_ins 211 23 = some (.iload_n 2, 1, 0, 0, 0) := by decide +kernel
theorem i_211_24 : a_ins 211 24 = some (.iload_n 3, 1, 0, 0, 0) := by decide +kernel
theorem i_211_25 : a_ins 211 25 = some (.invokestatic 79, 3, 161, 2, 0) := by decide +kernel
theorem i_211_28 : a_ins 211 28 = some (.ifCond .eq (25), 3, 53, 0, 0) := by decide +kernel
theorem i_211_31 : a_ins 211 31 = some (.aload_n 0, 1, 0, 0, 0) := by decide +kernel
theorem i_211_32 : a_ins 211 32 = some (.iload_n 2, 1, 0, 0, 0) := by decide +kernel
theorem i_211_33 : a_ins 211 33 = some (.aload_n 0, 1, 0, 0, 0) := by decide +kernel
theorem i_211_34 : a_ins 211 34 = some (.iconst (2), 1, 0, 0, 2) := by decide +kernel
theorem i_211_35 : a_ins 211 35 = some (.aload_n 0, 1, 0, 0, 0) := by decide +kernel
theorem i_211_36 : a_ins 211 36 = some (.iload_n 3, 1, 0, 0, 0) := by decide +kernel
theorem i_211_37 : a_ins 211 37 = some (.iconst (2), 1, 0, 0, 2) := by decide +kernel
theorem i_211_38 : a_ins 211 38 = some (.invokevirtual 72, 3, 155, 3, 0) := by decide +kernel
theorem i_211_41 : a_ins 211 41 = some (.invokevirtual 76, 3, 158, 3, 0) := by decide +kernel
theorem i_211_44 : a_ins 211 44 = some (.iand, 1, 0, 0, 0) := by decide +kernel
theorem i_211_45 : a_ins 211 45 = some (.invokevirtual 229, 3, 205, 2, 0) := by decide +kernel
theorem i_211_48 : a_ins 211 48 = some (.ifCond .eq (5), 3, 53, 0, 0) := by decide +kernel
theorem i_211_51 : a_ins 211 51 = some (.iconst (0), 1, 0, 0, 0) := by decide +kernel
theorem i_211_52 : a_ins 211 52 = some (.ireturn, 1, 0, 0, 0) := by decide +kernel
theorem i_211_53 : a_ins 211 53 = some (.iinc 3 (1), 3, 0, 0, 1) := by decide +kernel
theorem i_211_56 : a_ins 211 56 = some (.goto (-43), 3, 13, 0, 0) := by decide +kernel
theorem i_211_59 : a_ins 211 59 = some (.iconst (1), 1, 0, 0, 1) := by decide +kernel
theorem i_211_60 : a_ins 211 60 = some (.ireturn, 1, 0, 0, 0) := by decide +kernel
theorem i_212_0 : a_ins 212 0 = some (.aload_n 0, 1, 0, 0, 0) := by decide +kernel
theorem i_212_1 : a_ins 212 1 = some (.iconst (0), 1, 0, 0, 0) := by decide +kernel
theorem i_212_2 : a_ins 212 2 = some (.putfield 1, 3, 8, 0, 0) := by decide +kernel
theorem i_212_5 : a_ins 212 5 = some (.aload_n 0, 1, 0, 0, 0) := by decide +kernel
theorem i_212_6 : a_ins 212 6 = some (.iload_n 1, 1, 0, 0, 0) := by decide +kernel
theorem i_212_7 : a_ins 212 7 = some (.invokevirtual 232, 3, 207, 2, 0) := by decide +kernel
theorem i_212_10 : a_ins 212 10 = some (.ifCond .eq (11), 3, 21, 0, 0) := by decide +kernel
theorem i_212_13 : a_ins 212 13 = some (.aload_n 0, 1, 0, 0, 0) := by decide +kernel
theorem i_212_14 : a_ins 212 14 = some (.iload_n 1, 1, 0, 0, 0) := by decide +kernel
theorem i_212_15 : a_ins 212 15 = some (.invokevirtual 172, 3, 198, 2, 0) := by decide +kernel
theorem i_212_18 : a_ins 212 18 = some (.goto (5), 3, 23, 0, 0) := by decide +kernel
theorem i_212_21 : a_ins 212 21 = some (.bipush (-2), 2, 0, 0, -2) := by decide +kernel
theorem i_212_23 : a_ins 212 23 = some (.ireturn, 1, 0, 0, 0) := by decide +kernel
theorem i_213_0 : a_ins 213 0 = some (.aload_n 0, 1, 0, 0, 0) := by decide +kernel
theorem i_213_1 : a_ins 213 1 = some (.iconst (0), 1, 0, 0, 0) := by decide +kernel
theorem i_213_2 : a_ins 213 2 = some (.putfield 1, 3, 8, 0, 0) := by decide +kernel
theorem i_213_5 : a_ins 213 5 = some (.iconst (-1), 1, 0, 0, -1) := by decide +kernel
theorem i_213_6 : a_ins 213 6 = some (.istore_n 1, 1, 0, 0, 0) := by decide +kernel
theorem i_213_7 : a_ins 213 7 = some (.aload_n 0, 1, 0, 0, 0) := by decide +kernel
theorem i_213_8 : a_ins 213 8 = some (.invokevirtual 142, 3, 159, 1, 0) := by decide +kernel
theorem i_213_11 : a_ins 213 11 = some (.istore_n 2, 1, 0, 0, 0) := by decide +kernel
theorem i_213_12 : a_ins 213 12 = some (.iload_n 2, 1, 0, 0, 0) := by decide +kernel
theorem i_213_13 : a_ins 213 13 = some (.ifCond .le (35), 3, 48, 0, 0) := by decide +kernel
theorem i_213_16 : a_ins 213 16 = some (.iload_n 1, 1, 0, 0, 0) := by decide +kernel
theorem i_213_17 : a_ins 213 17 = some (.iconst (-1), 1, 0, 0, -1) := by decide +kernel
theorem i_213_18 : a_ins 213 18 = some (.if_icmp .eq (14), 3, 32, 0, 0) := by decide +kernel
theorem i_213_21 : a_ins 213 21 = some (.iload_n 2, 1, 0, 0, 0) := by decide +kernel
theorem i_213_22 : a_ins 213 22 = some (.invokestatic 148, 3, 179, 1, 0) := by decide +kernel
theorem i_213_25 : a_ins 213 25 = some (.iload_n 1, 1, 0, 0, 0) := by decide +kernel
theorem i_213_26 : a_ins 213 26 = some (.invokestatic 148, 3, 179, 1, 0) := by decide +kernel
theorem i_213_29 : a_ins 213 29 = some (.if_icmp .gt (13), 3, 42, 0, 0) := by decide +kernel
theorem i_213_32 : a_ins 213 32 = some (.aload_n 0, 1, 0, 0, 0) := by decide +kernel
theorem i_213_33 : a_ins 213 33 = some (.iload_n 2, 1, 0, 0, 0) := by decide +kernel
theorem i_213_34 : a_ins 213 34 = some (.invokevirtual 175, 3, 199, 2, 0) := by decide +kernel
theorem i_213_37 : a_ins 213 37 = some (.ifCond .eq (5), 3, 42, 0, 0) := by decide +kernel
theorem i_213_40 : a_ins 213 40 = some (.iload_n 2, 1, 0, 0, 0) := by decide +kernel
theorem i_213_41 : a_ins 213 41 = some (.istore_n 1, 1, 0, 0, 0) := by decide +kernel
theorem i_213_42 : a_ins 213 42 = some (.iinc 2 (-1), 3, 0, 0, -1) := by decide +kernel
theorem i_213_45 : a_ins 213 45 = some (.goto (-33), 3, 12, 0, 0) := by decide +kernel
theorem i_213_48 : a_ins 213 48 = some (.iload_n 1, 1, 0, 0, 0) := by decide +kernel
theorem i_213_49 : a_ins 213 49 = some (.ireturn, 1, 0, 0, 0) := by decide +kernel
theorem i_214_0 : a_ins 214 0 = some (.aload_n 0, 1, 0, 0, 0) := by decide +kernel
theorem i_214_1 : a_ins 214 1 = some (.iconst (0), 1, 0, 0, 0) := by decide +kernel
theorem i_214_2 : a_ins 214 2 = some (.putfield 1, 3, 8, 0, 0) := by decide +kernel
theorem i_214_5 : a_ins 214 5 = some (.iload_n 1, 1, 0, 0, 0) := by decide +kernel
theorem i_214_6 : a_ins 214 6 = some (.i2l, 1, 0, 0, 0) := by decide +kernel
theorem i_214_7 : a_ins 214 7 = some (.lconst 0, 1, 0, 0, 0) := by decide +kernel
theorem i_214_8 : a_ins 214 8 = some (.ldc2_w 191, 3, 0, 0, 3) := by decide +kernel
theorem i_214_11 : a_ins 214 11 = some (.invokestatic 68, 3, 147, 3, 0) := by decide +kernel
theorem i_214_14 : a_ins 214 14 = some (.ifCond .ne (6), 3, 20, 0, 0) := by decide +kernel
theorem i_214_17 : a_ins 214 17 = some (.bipush (-2), 2, 0, 0, -2) := by decide +kernel
theorem i_214_19 : a_ins 214 19 = some (.ireturn, 1, 0, 0, 0) := by decide +kernel
theorem i_214_20 : a_ins 214 20 = some (.iload_n 1, 1, 0, 0, 0) := by decide +kernel
theorem i_214_21 : a_ins 214 21 = some (.iconst (2), 1, 0, 0, 2) := by decide +kernel
theorem i_214_22 : a_ins 214 22 = some (.irem, 1, 0, 0, 0) := by decide +kernel
theorem i_214_23 : a_ins 214 23 = some (.ifCond .ne (7), 3, 30, 0, 0) := by decide +kernel
theorem i_214_26 : a_ins 214 26 = some (.iconst (3), 1, 0, 0, 3) := by decide +kernel
theorem i_214_27 : a_ins 214 27 = some (.goto (4), 3, 31, 0, 0) := by decide +kernel
theorem i_214_30 : a_ins 214 30 = some (.iconst (4), 1, 0, 0, 4) := by decide +kernel
theorem i_214_31 : a_ins 214 31 = some (.istore_n 2, 1, 0, 0, 0) := by decide +kernel
theorem i_214_32 : a_ins 214 32 = some (.iconst (0), 1, 0, 0, 0) := by decide +kernel
theorem i_214_33 : a_ins 214 33 = some (.istore_n 3, 1, 0, 0, 0) := by decide +kernel
theorem i_214_34 : a_ins 214 34 = some (.iconst (1), 1, 0, 0, 1) := by decide +kernel
theorem i_214_35 : a_ins 214 35 = some (.istore 4, 2, 0, 0, 0) := by decide +kernel
theorem i_214_37 : a_ins 214 37 = some (.iload 4, 2, 0, 0, 0) := by decide +kernel
theorem i_214_39 : a_ins 214 39 = some (.aload_n 0, 1, 0, 0, 0) := by decide +kernel
theorem i_214_40 : a_ins 214 40 = some (.invokevirtual 142, 3, 159, 1, 0) := by decide +kernel
theorem i_214_43 : a_ins 214 43 = some (.if_icmp .gt (45), 3, 88, 0, 0) := by decide +kernel
theorem i_214_46 : a_ins 214 46 = some (.iload_n 3, 1, 0, 0, 0) := by decide +kernel
theorem i_214_47 : a_ins 214 47 = some (.iload_n 1, 1, 0, 0, 0) := by decide +kernel
theorem i_214_48 : a_ins 214 48 = some (.iconst (2), 1, 0, 0, 2) := by decide +kernel
theorem i_214_49 : a_ins 214 49 = some (.if_icmp .ge (16), 3, 65, 0, 0) := by decide +kernel
theorem i_214_52 : a_ins 214 52 = some (.aload_n 0, 1, 0, 0, 0) := by decide +kernel
theorem i_214_53 : a_ins 214 53 = some (.iload 4, 2, 0, 0, 0) := by decide +kernel
theorem i_214_55 : a_ins 214 55 = some (.iload_n 2, 1, 0, 0, 0) := by decide +kernel
theorem i_214_56 : a_ins 214 56 = some (.invokevirtual 241, 3, 215, 3, 0) := by decide +kernel
theorem i_214_59 : a_ins 214 59 = some (.ifCond .eq (20), 3, 79, 0, 0) := by decide +kernel
theorem i_214_62 : a_ins 214 62 = some (.goto (13), 3, 75, 0, 0) := by decide +kernel
theorem i_214_65 : a_ins 214 65 = some (.aload_n 0, 1, 0, 0, 0) := by decide +kernel
theorem i_214_66 : a_ins 214 66 = some (.iload 4, 2, 0, 0, 0) := by decide +kernel
theorem i_214_68 : a_ins 214 68 = some (.iload_n 2, 1, 0, 0, 0) := by decide +kernel
theorem i_214_69 : a_ins 214 69 = some (.invokevirtual 244, 3, 216, 3, 0) := by decide +kernel
theorem i_214_72 : a_ins 214 72 = some (.ifCond .eq (7), 3, 79, 0, 0) := by decide +kernel
theorem i_214_75 : a_ins 214 75 = some (.iconst (1), 1, 0, 0, 1) := by decide +kernel
theorem i_214_76 : a_ins 214 76 = some (.goto (4), 3, 80, 0, 0) := by decide +kernel
theorem i_214_79 : a_ins 214 79 = some (.iconst (0), 1, 0, 0, 0) := by decide +kernel
theorem i_214_80 : a_ins 214 80 = some (.iadd, 1, 0, 0, 0) := by decide +kernel
theorem i_214_81 : a_ins 214 81 = some (.istore_n 3, 1, 0, 0, 0) := by decide +kernel
theorem i_214_82 : a_ins 214 82 = some (.iinc 4 (1), 3, 0, 0, 1) := by decide +kernel
theorem i_214_85 : a_ins 214 85 = some (.goto (-48), 3, 37, 0, 0) := by decide +kernel
theorem i_214_88 : a_ins 214 88 = some (.iload_n 3, 1, 0, 0, 0) := by decide +kernel
theorem i_214_89 : a_ins 214 89 = some (.ireturn, 1, 0, 0, 0) := by decide +kernel
theorem i_215_0 : a_ins 215 0 = some (.aload_n 0, 1, 0, 0, 0) := by decide +kernel
theorem i_215_1 : a_ins 215 1 = some (.iload_n 1, 1, 0, 0, 0) := by decide +kernel
theorem i_215_2 : a_ins 215 2 = some (.invokevirtual 145, 3, 160, 2, 0) := by decide +kernel
theorem i_215_5 : a_ins 215 5 = some (.aload_n 0, 1, 0, 0, 0) := by decide +kernel
theorem i_215_6 : a_ins 215 6 = some (.getfield 13, 3, 8, 1, 0) := by decide +kernel
theorem i_215_9 : a_ins 215 9 = some (.iload_n 2, 1, 0, 0, 0) := by decide +kernel
theorem i_215_10 : a_ins 215 10 = some (.iaload, 1, 0, 0, 0) := by decide +kernel
theorem i_215_11 : a_ins 215 11 = some (.if_icmp .lt (7), 3, 18, 0, 0) := by decide +kernel
theorem i_215_14 : a_ins 215 14 = some (.iconst (1), 1, 0, 0, 1) := by decide +kernel
theorem i_215_15 : a_ins 215 15 = some (.goto (4), 3, 19, 0, 0) := by decide +kernel
theorem i_215_18 : a_ins 215 18 = some (.iconst (0), 1, 0, 0, 0) := by decide +kernel
theorem i_215_19 : a_ins 215 19 = some (.ireturn, 1, 0, 0, 0) := by decide +kernel
theorem i_216_0 : a_ins 216 0 = some (.iconst (0), 1, 0, 0, 0) := by decide +kernel
theorem i_216_1 : a_ins 216 1 = some (.istore_n 3, 1, 0, 0, 0) := by decide +kernel
theorem i_216_2 : a_ins 216 2 = some (.iload_n 3, 1, 0, 0, 0) := by decide +kernel
theorem i_216_3 : a_ins 216 3 = some (.aload_n 0, 1, 0, 0, 0) := by decide +kernel
theorem i_216_4 : a_ins 216 4 = some (.getfield 13, 3, 8, 1, 0) := by decide +kernel
theorem i_216_7 : a_ins 216 7 = some (.iconst (0), 1, 0, 0, 0) := by decide +kernel
theorem i_216_8 : a_ins 216 8 = some (.iaload, 1, 0, 0, 0) := by decide +kernel
theorem i_216_9 : a_ins 216 9 = some (.if_icmp .ge (34), 3, 43, 0, 0) := by decide +kernel
theorem i_216_12 : a_ins 216 12 = some (.iload_n 1, 1, 0, 0, 0) := by decide +kernel
theorem i_216_13 : a_ins 216 13 = some (.iload_n 3, 1, 0, 0, 0) := by decide +kernel
theorem i_216_14 : a_ins 216 14 = some (.invokestatic 79, 3, 161, 2, 0) := by decide +kernel
theorem i_216_17 : a_ins 216 17 = some (.ifCond .eq (20), 3, 37, 0, 0) := by decide +kernel
theorem i_216_20 : a_ins 216 20 = some (.aload_n 0, 1, 0, 0, 0) := by decide +kernel
theorem i_216_21 : a_ins 216 21 = some (.iload_n 1, 1, 0, 0, 0) := by decide +kernel
theorem i_216_22 : a_ins 216 22 = some (.iconst (1), 1, 0, 0, 1) := by decide +kernel
theorem i_216_23 : a_ins 216 23 = some (.iload_n 3, 1, 0, 0, 0) := by decide +kernel
theorem i_216_24 : a_ins 216 24 = some (.ishl, 1, 0, 0, 0) := by decide +kernel
theorem i_216_25 : a_ins 216 25 = some (.iconst (-1), 1, 0, 0, -1) := by decide +kernel
theorem i_216_26 : a_ins 216 26 = some (.ixor, 1, 0, 0, 0) := by decide +kernel
theorem i_216_27 : a_ins 216 27 = some (.iand, 1, 0, 0, 0) := by decide +kernel
theorem i_216_28 : a_ins 216 28 = some (.iload_n 2, 1, 0, 0, 0) := by decide +kernel
theorem i_216_29 : a_ins 216 29 = some (.invokevirtual 241, 3, 215, 3, 0) := by decide +kernel
theorem i_216_32 : a_ins 216 32 = some (.ifCond .eq (5), 3, 37, 0, 0) := by decide +kernel
theorem i_216_35 : a_ins 216 35 = some (.iconst (0), 1, 0, 0, 0) := by decide +kernel
theorem i_216_36 : a_ins 216 36 = some (.ireturn, 1, 0, 0, 0) := by decide +kernel
theorem i_216_37 : a_ins 216 37 = some (.iinc 3 (1), 3, 0, 0, 1) := by decide +kernel
theorem i_216_40 : a_ins 216 40 = some (.goto (-38), 3, 2, 0, 0) := by decide +kernel
theorem i_216_43 : a_ins 216 43 = some (.aload_n 0, 1, 0, 0, 0) := by decide +kernel
theorem i_216_44 : a_ins 216 44 = some (.iload_n 1, 1, 0, 0, 0) := by decide +kernel
theorem i_216_45 : a_ins 216 45 = some (.iload_n 2, 1, 0, 0, 0) := by decide +kernel
theorem i_216_46 : a_ins 216 46 = some (.invokevirtual 241, 3, 215, 3, 0) := by decide +kernel
theorem i_216_49 : a_ins 216 49 = some (.ireturn, 1, 0, 0, 0) := by decide +kernel
theorem i_217_0 : a_ins 217 0 = some (.aload_n 0, 1, 0, 0, 0) := by decide +kernel
theorem i_217_1 : a_ins 217 1 = some (.iconst (0), 1, 0, 0, 0) := by decide +kernel
theorem i_217_2 : a_ins 217 2 = some (.putfield 1, 3, 8, 0, 0) := by decide +kernel
theorem i_217_5 : a_ins 217 5 = some (.aload_n 0, 1, 0, 0, 0) := by decide +kernel
theorem i_217_6 : a_ins 217 6 = some (.iload_n 1, 1, 0, 0, 0) := by decide +kernel
theorem i_217_7 : a_ins 217 7 = some (.invokevirtual 157, 3, 154, 2, 0) := by decide +kernel
theorem i_217_10 : a_ins 217 10 = some (.ifCond .eq (15), 3, 25, 0, 0) := by decide +kernel
theorem i_217_13 : a_ins 217 13 = some (.iload_n 3, 1, 0, 0, 0) := by decide +kernel
theorem i_217_14 : a_ins 217 14 = some (.i2l, 1, 0, 0, 0) := by decide +kernel
theorem i_217_15 : a_ins 217 15 = some (.lconst 0, 1, 0, 0, 0) := by decide +kernel
theorem i_217_16 : a_ins 217 16 = some (.ldc2_w 178, 3, 0, 0, 2) := by decide +kernel
theorem i_217_19 : a_ins 217 19 = some (.invokestatic 68, 3, 147, 3, 0) := by decide +kernel
theorem i_217_22 : a_ins 217 22 = some (.ifCond .ne (6), 3, 28, 0, 0) := by decide +kernel
theorem i_217_25 : a_ins 217 25 = some (.bipush (-2), 2, 0, 0, -2) := by decide +kernel
theorem i_217_27 : a_ins 217 27 = some (.ireturn, 1, 0, 0, 0) := by decide +kernel
theorem i_217_28 : a_ins 217 28 = some (.aload_n 0, 1, 0, 0, 0) := by decide +kernel
theorem i_217_29 : a_ins 217 29 = some (.getfield 13, 3, 8, 1, 0) := by decide +kernel
theorem i_217_32 : a_ins 217 32 = some (.iconst (0), 1, 0, 0, 0) := by decide +kernel
theorem i_217_33 : a_ins 217 33 = some (.aload_n 0, 1, 0, 0, 0) := by decide +kernel
theorem i_217_34 : a_ins 217 34 = some (.getfield 20, 3, 8, 3, 0) := by decide +kernel
theorem i_217_37 : a_ins 217 37 = some (.iconst (0), 1, 0, 0, 0) := by decide +kernel
theorem i_217_38 : a_ins 217 38 = some (.invokestatic 87, 3, 149, 4, 0) := by decide +kernel
theorem i_217_41 : a_ins 217 41 = some (.aload_n 0, 1, 0, 0, 0) := by decide +kernel
theorem i_217_42 : a_ins 217 42 = some (.iload_n 1, 1, 0, 0, 0) := by decide +kernel
theorem i_217_43 : a_ins 217 43 = some (.iload_n 2, 1, 0, 0, 0) := by decide +kernel
theorem i_217_44 : a_ins 217 44 = some (.invokevirtual 217, 3, 187, 3, 0) := by decide +kernel
theorem i_217_47 : a_ins 217 47 = some (.istore 4, 2, 0, 0, 0) := by decide +kernel
theorem i_217_49 : a_ins 217 49 = some (.iload 4, 2, 0, 0, 0) := by decide +kernel
theorem i_217_51 : a_ins 217 51 = some (.ifCond .lt (39), 3, 90, 0, 0) := by decide +kernel
theorem i_217_54 : a_ins 217 54 = some (.iload_n 3, 1, 0, 0, 0) := by decide +kernel
theorem i_217_55 : a_ins 217 55 = some (.ifCond .ne (10), 3, 65, 0, 0) := by decide +kernel
theorem i_217_58 : a_ins 217 58 = some (.aload_n 0, 1, 0, 0, 0) := by decide +kernel
theorem i_217_59 : a_ins 217 59 = some (.invokevirtual 83, 3, 174, 1, 0) := by decide +kernel
theorem i_217_62 : a_ins 217 62 = some (.goto (26), 3, 88, 0, 0) := by decide +kernel
theorem i_217_65 : a_ins 217 65 = some (.iload_n 3, 1, 0, 0, 0) := by decide +kernel
theorem i_217_66 : a_ins 217 66 = some (.iconst (1), 1, 0, 0, 1) := by decide +kernel
theorem i_217_67 : a_ins 217 67 = some (.if_icmp .ne (12), 3, 79, 0, 0) := by decide +kernel
theorem i_217_70 : a_ins 217 70 = some (.aload_n 0, 1, 0, 0, 0) := by decide +kernel
theorem i_217_71 : a_ins 217 71 = some (.iconst (1), 1, 0, 0, 1) := by decide +kernel
theorem i_217_72 : a_ins 217 72 = some (.iconst (1), 1, 0, 0, 1) := by decide +kernel
theorem i_217_73 : a_ins 217 73 = some (.invokevirtual 76, 3, 158, 3, 0) := by decide +kernel
theorem i_217_76 : a_ins 217 76 = some (.goto (12), 3, 88, 0, 0) := by decide +kernel
theorem i_217_79 : a_ins 217 79 = some (.aload_n 0, 1, 0, 0, 0) := by decide +kernel
theorem i_217_80 : a_ins 217 80 = some (.aload_n 0, 1, 0, 0, 0) := by decide +kernel
theorem i_217_81 : a_ins 217 81 = some (.iload_n 1, 1, 0, 0, 0) := by decide +kernel
theorem i_217_82 : a_ins 217 82 = some (.invokevirtual 97, 3, 172, 2, 0) := by decide +kernel
theorem i_217_85 : a_ins 217 85 = some (.invokevirtual 247, 3, 218, 2, 0) := by decide +kernel
theorem i_217_88 : a_ins 217 88 = some (.istore 4, 2, 0, 0, 0) := by decide +kernel
theorem i_217_90 : a_ins 217 90 = some (.aload_n 0, 1, 0, 0, 0) := by decide +kernel
theorem i_217_91 : a_ins 217 91 = some (.getfield 20, 3, 8, 3, 0) := by decide +kernel
theorem i_217_94 : a_ins 217 94 = some (.iconst (0), 1, 0, 0, 0) := by decide +kernel
theorem i_217_95 : a_ins 217 95 = some (.aload_n 0, 1, 0, 0, 0) := by decide +kernel
theorem i_217_96 : a_ins 217 96 = some (.getfield 13, 3, 8, 1, 0) := by decide +kernel
theorem i_217_99 : a_ins 217 99 = some (.iconst (0), 1, 0, 0, 0) := by decide +kernel
theorem i_217_100 : a_ins 217 100 = some (.invokestatic 87, 3, 149, 4, 0) := by decide +kernel
theorem i_217_103 : a_ins 217 103 = some (.iload 4, 2, 0, 0, 0) := by decide +kernel
theorem i_217_105 : a_ins 217 105 = some (.ireturn, 1, 0, 0, 0) := by decide +kernel
theorem i_218_0 : a_ins 218 0 = some (.iload_n 1, 1, 0, 0, 0) := by decide +kernel
theorem i_218_1 : a_ins 218 1 = some (.ifCond .ne (7), 3, 8, 0, 0) := by decide +kernel
theorem i_218_4 : a_ins 218 4 = some (.iconst (-1), 1, 0, 0, -1) := by decide +kernel
theorem i_218_5 : a_ins 218 5 = some (.goto (8), 3, 13, 0, 0) := by decide +kernel
theorem i_218_8 : a_ins 218 8 = some (.aload_n 0, 1, 0, 0, 0) := by decide +kernel
theorem i_218_9 : a_ins 218 9 = some (.iload_n 1, 1, 0, 0, 0) := by decide +kernel
theorem i_218_10 : a_ins 218 10 = some (.invokevirtual 226, 3, 202, 2, 0) := by decide +kernel
theorem i_218_13 : a_ins 218 13 = some (.ireturn, 1, 0, 0, 0) := by decide +kernel
theorem i_219_0 : a_ins 219 0 = some (.aload_n 0, 1, 0, 0, 0) := by decide +kernel
theorem i_219_1 : a_ins 219 1 = some (.iconst (0), 1, 0, 0, 0) := by decide +kernel
theorem i_219_2 : a_ins 219 2 = some (.putfield 1, 3, 8, 0, 0) := by decide +kernel
theorem i_219_5 : a_ins 219 5 = some (.iload_n 1, 1, 0, 0, 0) := by decide +kernel
theorem i_219_6 : a_ins 219 6 = some (.i2l, 1, 0, 0, 0) := by decide +kernel
theorem i_219_7 : a_ins 219 7 = some (.lconst 0, 1, 0, 0, 0) := by decide +kernel
theorem i_219_8 : a_ins 219 8 = some (.ldc2_w 259, 3, 0, 0, 9999) := by decide +kernel
theorem i_219_11 : a_ins 219 11 = some (.invokestatic 68, 3, 147, 3, 0) := by decide +kernel
theorem i_219_14 : a_ins 219 14 = some (.ifCond .eq (15), 3, 29, 0, 0) := by decide +kernel
theorem i_219_17 : a_ins 219 17 = some (.iload_n 2, 1, 0, 0, 0) := by decide +kernel
theorem i_219_18 : a_ins 219 18 = some (.i2l, 1, 0, 0, 0) := by decide +kernel
theorem i_219_19 : a_ins 219 19 = some (.lconst 1, 1, 0, 0, 1) := by decide +kernel
theorem i_219_20 : a_ins 219 20 = some (.ldc2_w 261, 3, 0, 0, 40) := by decide +kernel
theorem i_219_23 : a_ins 219 23 = some (.invokestatic 68, 3, 147, 3, 0) := by decide +kernel
theorem i_219_26 : a_ins 219 26 = some (.ifCond .ne (6), 3, 32, 0, 0) := by decide +kernel
theorem i_219_29 : a_ins 219 29 = some (.bipush (-3), 2, 0, 0, -3) := by decide +kernel
theorem i_219_31 : a_ins 219 31 = some (.ireturn, 1, 0, 0, 0) := by decide +kernel
theorem i_219_32 : a_ins 219 32 = some (.iload_n 3, 1, 0, 0, 0) := by decide +kernel
theorem i_219_33 : a_ins 219 33 = some (.i2l, 1, 0, 0, 0) := by decide +kernel
theorem i_219_34 : a_ins 219 34 = some (.lconst 0, 1, 0, 0, 0) := by decide +kernel
theorem i_219_35 : a_ins 219 35 = some (.ldc2_w 178, 3, 0, 0, 2) := by decide +kernel
theorem i_219_38 : a_ins 219 38 = some (.invokestatic 68, 3, 147, 3, 0) := by decide +kernel
theorem i_219_41 : a_ins 219 41 = some (.ifCond .ne (6), 3, 47, 0, 0) := by decide +kernel
theorem i_219_44 : a_ins 219 44 = some (.bipush (-2), 2, 0, 0, -2) := by decide +kernel
theorem i_219_46 : a_ins 219 46 = some (.ireturn, 1, 0, 0, 0) := by decide +kernel
theorem i_219_47 : a_ins 219 47 = some (.aload_n 0, 1, 0, 0, 0) := by decide +kernel
theorem i_219_48 : a_ins 219 48 = some (.getfield 13, 3, 8, 1, 0) := by decide +kernel
theorem i_219_51 : a_ins 219 51 = some (.iconst (0), 1, 0, 0, 0) := by decide +kernel
theorem i_219_52 : a_ins 219 52 = some (.aload_n 0, 1, 0, 0, 0) := by decide +kernel
theorem i_219_53 : a_ins 219 53 = some (.getfield 20, 3, 8, 3, 0) := by decide +kernel
theorem i_219_56 : a_ins 219 56 = some (.iconst (0), 1, 0, 0, 0) := by decide +kernel
theorem i_219_57 : a_ins 219 57 = some (.invokestatic 87, 3, 149, 4, 0) := by decide +kernel
theorem i_219_60 : a_ins 219 60 = some (.aload_n 0, 1, 0, 0, 0) := by decide +kernel
theorem i_219_61 : a_ins 219 61 = some (.iload_n 1, 1, 0, 0, 0) := by decide +kernel
theorem i_219_62 : a_ins 219 62 = some (.putfield 250, 3, 8, 10, 0) := by decide +kernel
theorem i_219_65 : a_ins 219 65 = some (.iconst (0), 1, 0, 0, 0) := by decide +kernel
theorem i_219_66 : a_ins 219 66 = some (.istore 4, 2, 0, 0, 0) := by decide +kernel
theorem i_219_68 : a_ins 219 68 = some (.iconst (0), 1, 0, 0, 0) := by decide +kernel
theorem i_219_69 : a_ins 219 69 = some (.istore 5, 2, 0, 0, 0) := by decide +kernel
theorem i_219_71 : a_ins 219 71 = some (.iload 5, 2, 0, 0, 0) := by decide +kernel
theorem i_219_73 : a_ins 219 73 = some (.iload_n 2, 1, 0, 0, 0) := by decide +kernel
theorem i_219_74 : a_ins 219 74 = some (.if_icmp .ge (26), 3, 100, 0, 0) := by decide +kernel
theorem i_219_77 : a_ins 219 77 = some (.iload 4, 2, 0, 0, 0) := by decide +kernel
theorem i_219_79 : a_ins 219 79 = some (.aload_n 0, 1, 0, 0, 0) := by decide +kernel
theorem i_219_80 : a_ins 219 80 = some (.invokevirtual 263, 3, 220, 1, 0) := by decide +kernel
theorem i_219_83 : a_ins 219 83 = some (.ifCond .lt (7), 3, 90, 0, 0) := by decide +kernel
theorem i_219_86 : a_ins 219 86 = some (.iconst (1), 1, 0, 0, 1) := by decide +kernel
theorem i_219_87 : a_ins 219 87 = some (.goto (4), 3, 91, 0, 0) := by decide +kernel
theorem i_219_90 : a_ins 219 90 = some (.iconst (0), 1, 0, 0, 0) := by decide +kernel
theorem i_219_91 : a_ins 219 91 = some (.iadd, 1, 0, 0, 0) := by decide +kernel
theorem i_219_92 : a_ins 219 92 = some (.istore 4, 2, 0, 0, 0) := by decide +kernel
theorem i_219_94 : a_ins 219 94 = some (.iinc 5 (1), 3, 0, 0, 1) := by decide +kernel
theorem i_219_97 : a_ins 219 97 = some (.goto (-26), 3, 71, 0, 0) := by decide +kernel
theorem i_219_100 : a_ins 219 100 = some (.iload_n 3, 1, 0, 0, 0) := by decide +kernel
theorem i_219_101 : a_ins 219 101 = some (.ifCond .ne (10), 3, 111, 0, 0) := by decide +kernel
theorem i_219_104 : a_ins 219 104 = some (.aload_n 0, 1, 0, 0, 0) := by decide +kernel
theorem i_219_105 : a_ins 219 105 = some (.invokevirtual 266, 3, 223, 1, 0) := by decide +kernel
theorem i_219_108 : a_ins 219 108 = some (.goto (19), 3, 127, 0, 0) := by decide +kernel
theorem i_219_111 : a_ins 219 111 = some (.iload_n 3, 1, 0, 0, 0) := by decide +kernel
theorem i_219_112 : a_ins 219 112 = some (.iconst (1), 1, 0, 0, 1) := by decide +kernel
theorem i_219_113 : a_ins 219 113 = some (.if_icmp .ne (12), 3, 125, 0, 0) := by decide +kernel
theorem i_219_116 : a_ins 219 116 = some (.aload_n 0, 1, 0, 0, 0) := by decide +kernel
theorem i_219_117 : a_ins 219 117 = some (.iconst (1), 1, 0, 0, 1) := by decide +kernel
theorem i_219_118 : a_ins 219 118 = some (.iconst (1), 1, 0, 0, 1) := by decide +kernel
theorem i_219_119 : a_ins 219 119 = some (.invokevirtual 76, 3, 158, 3, 0) := by decide +kernel
theorem i_219_122 : a_ins 219 122 = some (.goto (5), 3, 127, 0, 0) := by decide +kernel
theorem i_219_125 : a_ins 219 125 = some (.iload 4, 2, 0, 0, 0) := by decide +kernel
theorem i_219_127 : a_ins 219 127 = some (.istore 5, 2, 0, 0, 0) := by decide +kernel
theorem i_219_129 : a_ins 219 129 = some (.aload_n 0, 1, 0, 0, 0) := by decide +kernel
theorem i_219_130 : a_ins 219 130 = some (.getfield 20, 3, 8, 3, 0) := by decide +kernel
theorem i_219_133 : a_ins 219 133 = some (.iconst (0), 1, 0, 0, 0) := by decide +kernel
theorem i_219_134 : a_ins 219 134 = some (.aload_n 0, 1, 0, 0, 0) := by decide +kernel
theorem i_219_135 : a_ins 219 135 = some (.getfield 13, 3, 8, 1, 0) := by decide +kernel
theorem i_219_138 : a_ins 219 138 = some (.iconst (0), 1, 0, 0, 0) := by decide +kernel
theorem i_219_139 : a_ins 219 139 = some (.invokestatic 87, 3, 149, 4, 0) := by decide +kernel
theorem i_219_142 : a_ins 219 142 = some (.iload 5, 2, 0, 0, 0) := by decide +kernel
theorem i_219_144 : a_ins 219 144 = some (.ireturn, 1, 0, 0, 0) := by decide +kernel
theorem i_220_0 : a_ins 220 0 = some (.aload_n 0, 1, 0, 0, 0) := by decide +kernel
theorem i_220_1 : a_ins 220 1 = some (.bipush (8), 2, 0, 0, 8) := by decide +kernel
theorem i_220_3 : a_ins 220 3 = some (.invokevirtual 253, 3, 221, 2, 0) := by decide +kernel
theorem i_220_6 : a_ins 220 6 = some (.istore_n 1, 1, 0, 0, 0) := by decide +kernel
theorem i_220_7 : a_ins 220 7 = some (.iload_n 1, 1, 0, 0, 0) := by decide +kernel
theorem i_220_8 : a_ins 220 8 = some (.iconst (3), 1, 0, 0, 3) := by decide +kernel
theorem i_220_9 : a_ins 220 9 = some (.if_icmp .ge (39), 3, 48, 0, 0) := by decide +kernel
theorem i_220_12 : a_ins 220 12 = some (.aload_n 0, 1, 0, 0, 0) := by decide +kernel
theorem i_220_13 : a_ins 220 13 = some (.invokevirtual 256, 3, 222, 1, 0) := by decide +kernel
theorem i_220_16 : a_ins 220 16 = some (.istore_n 2, 1, 0, 0, 0) := by decide +kernel
theorem i_220_17 : a_ins 220 17 = some (.iload_n 1, 1, 0, 0, 0) := by decide +kernel
theorem i_220_18 : a_ins 220 18 = some (.ifCond .ne (11), 3, 29, 0, 0) := by decide +kernel
theorem i_220_21 : a_ins 220 21 = some (.aload_n 0, 1, 0, 0, 0) := by decide +kernel
theorem i_220_22 : a_ins 220 22 = some (.iload_n 2, 1, 0, 0, 0) := by decide +kernel
theorem i_220_23 : a_ins 220 23 = some (.invokevirtual 199, 3, 164, 2, 0) := by decide +kernel
theorem i_220_26 : a_ins 220 26 = some (.goto (21), 3, 47, 0, 0) := by decide +kernel
theorem i_220_29 : a_ins 220 29 = some (.iload_n 1, 1, 0, 0, 0) := by decide +kernel
theorem i_220_30 : a_ins 220 30 = some (.iconst (1), 1, 0, 0, 1) := by decide +kernel
theorem i_220_31 : a_ins 220 31 = some (.if_icmp .ne (11), 3, 42, 0, 0) := by decide +kernel
theorem i_220_34 : a_ins 220 34 = some (.aload_n 0, 1, 0, 0, 0) := by decide +kernel
theorem i_220_35 : a_ins 220 35 = some (.iload_n 2, 1, 0, 0, 0) := by decide +kernel
theorem i_220_36 : a_ins 220 36 = some (.invokevirtual 202, 3, 176, 2, 0) := by decide +kernel
theorem i_220_39 : a_ins 220 39 = some (.goto (8), 3, 47, 0, 0) := by decide +kernel
theorem i_220_42 : a_ins 220 42 = some (.aload_n 0, 1, 0, 0, 0) := by decide +kernel
theorem i_220_43 : a_ins 220 43 = some (.iload_n 2, 1, 0, 0, 0) := by decide +kernel
theorem i_220_44 : a_ins 220 44 = some (.invokevirtual 205, 3, 178, 2, 0) := by decide +kernel
theorem i_220_47 : a_ins 220 47 = some (.ireturn, 1, 0, 0, 0) := by decide +kernel
theorem i_220_48 : a_ins 220 48 = some (.aload_n 0, 1, 0, 0, 0) := by decide +kernel
theorem i_220_49 : a_ins 220 49 = some (.aload_n 0, 1, 0, 0, 0) := by decide +kernel
theorem i_220_50 : a_ins 220 50 = some (.getfield 13, 3, 8, 1, 0) := by decide +kernel
theorem i_220_53 : a_ins 220 53 = some (.iconst (0), 1, 0, 0, 0) := by decide +kernel
theorem i_220_54 : a_ins 220 54 = some (.iaload, 1, 0, 0, 0) := by decide +kernel
theorem i_220_55 : a_ins 220 55 = some (.invokevirtual 253, 3, 221, 2, 0) := by decide +kernel
theorem i_220_58 : a_ins 220 58 = some (.istore_n 2, 1, 0, 0, 0) := by decide +kernel
theorem i_220_59 : a_ins 220 59 = some (.iload_n 1, 1, 0, 0, 0) := by decide +kernel
theorem i_220_60 : a_ins 220 60 = some (.bipush (6), 2, 0, 0, 6) := by decide +kernel
theorem i_220_62 : a_ins 220 62 = some (.if_icmp .ge (35), 3, 97, 0, 0) := by decide +kernel
theorem i_220_65 : a_ins 220 65 = some (.iload_n 1, 1, 0, 0, 0) := by decide +kernel
theorem i_220_66 : a_ins 220 66 = some (.iconst (3), 1, 0, 0, 3) := by decide +kernel
theorem i_220_67 : a_ins 220 67 = some (.if_icmp .ne (11), 3, 78, 0, 0) := by decide +kernel
theorem i_220_70 : a_ins 220 70 = some (.aload_n 0, 1, 0, 0, 0) := by decide +kernel
theorem i_220_71 : a_ins 220 71 = some (.iload_n 2, 1, 0, 0, 0) := by decide +kernel
theorem i_220_72 : a_ins 220 72 = some (.invokevirtual 208, 3, 181, 2, 0) := by decide +kernel
theorem i_220_75 : a_ins 220 75 = some (.goto (21), 3, 96, 0, 0) := by decide +kernel
theorem i_220_78 : a_ins 220 78 = some (.iload_n 1, 1, 0, 0, 0) := by decide +kernel
theorem i_220_79 : a_ins 220 79 = some (.iconst (4), 1, 0, 0, 4) := by decide +kernel
theorem i_220_80 : a_ins 220 80 = some (.if_icmp .ne (11), 3, 91, 0, 0) := by decide +kernel
theorem i_220_83 : a_ins 220 83 = some (.aload_n 0, 1, 0, 0, 0) := by decide +kernel
theorem i_220_84 : a_ins 220 84 = some (.iload_n 2, 1, 0, 0, 0) := by decide +kernel
theorem i_220_85 : a_ins 220 85 = some (.invokevirtual 211, 3, 183, 2, 0) := by decide +kernel
theorem i_220_88 : a_ins 220 88 = some (.goto (8), 3, 96, 0, 0) := by decide +kernel
theorem i_220_91 : a_ins 220 91 = some (.aload_n 0, 1, 0, 0, 0) := by decide +kernel
theorem i_220_92 : a_ins 220 92 = some (.iload_n 2, 1, 0, 0, 0) := by decide +kernel
theorem i_220_93 : a_ins 220 93 = some (.invokevirtual 220, 3, 194, 2, 0) := by decide +kernel
theorem i_220_96 : a_ins 220 96 = some (.ireturn, 1, 0, 0, 0) := by decide +kernel
theorem i_220_97 : a_ins 220 97 = some (.aload_n 0, 1, 0, 0, 0) := by decide +kernel
theorem i_220_98 : a_ins 220 98 = some (.iload_n 2, 1, 0, 0, 0) := by decide +kernel
theorem i_220_99 : a_ins 220 99 = some (.aload_n 0, 1, 0, 0, 0) := by decide +kernel
theorem i_220_100 : a_ins 220 100 = some (.invokevirtual 256, 3, 222, 1, 0) := by decide +kernel
theorem i_220_103 : a_ins 220 103 = some (.invokevirtual 217, 3, 187, 3, 0) := by decide +kernel
theorem i_220_106 : a_ins 220 106 = some (.ireturn, 1, 0, 0, 0) := by decide +kernel
theorem i_221_0 : a_ins 221 0 = some (.aload_n 0, 1, 0, 0, 0) := by decide +kernel
theorem i_221_1 : a_ins 221 1 = some (.getfield 250, 3, 8, 10, 0) := by decide +kernel
theorem i_221_4 : a_ins 221 4 = some (.iload_n 1, 1, 0, 0, 0) := by decide +kernel
theorem i_221_5 : a_ins 221 5 = some (.irem, 1, 0, 0, 0) := by decide +kernel
theorem i_221_6 : a_ins 221 6 = some (.istore_n 2, 1, 0, 0, 0) := by decide +kernel
theorem i_221_7 : a_ins 221 7 = some (.aload_n 0, 1, 0, 0, 0) := by decide +kernel
theorem i_221_8 : a_ins 221 8 = some (.sipush (709), 3, 0, 0, 709) := by decide +kernel
theorem i_221_11 : a_ins 221 11 = some (.aload_n 0, 1, 0, 0, 0) := by decide +kernel
theorem i_221_12 : a_ins 221 12 = some (.getfield 250, 3, 8, 10, 0) := by decide +kernel
theorem i_221_15 : a_ins 221 15 = some (.imul, 1, 0, 0, 0) := by decide +kernel
theorem i_221_16 : a_ins 221 16 = some (.sipush (4177), 3, 0, 0, 4177) := by decide +kernel
theorem i_221_19 : a_ins 221 19 = some (.iadd, 1, 0, 0, 0) := by decide +kernel
theorem i_221_20 : a_ins 221 20 = some (.sipush (30011), 3, 0, 0, 30011) := by decide +kernel
theorem i_221_23 : a_ins 221 23 = some (.irem, 1, 0, 0, 0) := by decide +kernel
theorem i_221_24 : a_ins 221 24 = some (.putfield 250, 3, 8, 10, 0) := by decide +kernel
theorem i_221_27 : a_ins 221 27 = some (.iload_n 2, 1, 0, 0, 0) := by decide +kernel
theorem i_221_28 : a_ins 221 28 = some (.ireturn, 1, 0, 0, 0) := by decide +kernel
theorem i_222_0 : a_ins 222 0 = some (.aload_n 0, 1, 0, 0, 0) := by decide +kernel
theorem i_222_1 : a_ins 222 1 = some (.bipush (6), 2, 0, 0, 6) := by decide +kernel
theorem i_222_3 : a_ins 222 3 = some (.invokevirtual 253, 3, 221, 2, 0) := by decide +kernel
theorem i_222_6 : a_ins 222 6 = some (.istore_n 1, 1, 0, 0, 0) := by decide +kernel
theorem i_222_7 : a_ins 222 7 = some (.iload_n 1, 1, 0, 0, 0) := by decide +kernel
theorem i_222_8 : a_ins 222 8 = some (.iconst (5), 1, 0, 0, 5) := by decide +kernel
theorem i_222_9 : a_ins 222 9 = some (.if_icmp .ne (7), 3, 16, 0, 0) := by decide +kernel
theorem i_222_12 : a_ins 222 12 = some (.iconst (-1), 1, 0, 0, -1) := by decide +kernel
theorem i_222_13 : a_ins 222 13 = some (.goto (4), 3, 17, 0, 0) := by decide +kernel
theorem i_222_16 : a_ins 222 16 = some (.iload_n 1, 1, 0, 0, 0) := by decide +kernel
theorem i_222_17 : a_ins 222 17 = some (.ireturn, 1, 0, 0, 0) := by decide +kernel
theorem i_223_0 : a_ins 223 0 = some (.iconst (0), 1, 0, 0, 0) := by decide +kernel
theorem i_223_1 : a_ins 223 1 = some (.istore_n 1, 1, 0, 0, 0) := by decide +kernel
theorem i_223_2 : a_ins 223 2 = some (.iconst (0), 1, 0, 0, 0) := by decide +kernel
theorem i_223_3 : a_ins 223 3 = some (.istore_n 2, 1, 0, 0, 0) := by decide +kernel
theorem i_223_4 : a_ins 223 4 = some (.iload_n 2, 1, 0, 0, 0) := by decide +kernel
theorem i_223_5 : a_ins 223 5 = some (.aload_n 0, 1, 0, 0, 0) := by decide +kernel
theorem i_223_6 : a_ins 223 6 = some (.getfield 13, 3, 8, 1, 0) := by decide +kernel
theorem i_223_9 : a_ins 223 9 = some (.iconst (0), 1, 0, 0, 0) := by decide +kernel
theorem i_223_10 : a_ins 223 10 = some (.iaload, 1, 0, 0, 0) := by decide +kernel
theorem i_223_11 : a_ins 223 11 = some (.if_icmp .ge (21), 3, 32, 0, 0) := by decide +kernel
theorem i_223_14 : a_ins 223 14 = some (.bipush (10), 2, 0, 0, 10) := by decide +kernel
theorem i_223_16 : a_ins 223 16 = some (.iload_n 1, 1, 0, 0, 0) := by decide +kernel
theorem i_223_17 : a_ins 223 17 = some (.imul, 1, 0, 0, 0) := by decide +kernel
theorem i_223_18 : a_ins 223 18 = some (.aload_n 0, 1, 0, 0, 0) := by decide +kernel
theorem i_223_19 : a_ins 223 19 = some (.iload_n 2, 1, 0, 0, 0) := by decide +kernel
theorem i_223_20 : a_ins 223 20 = some (.iconst (0), 1, 0, 0, 0) := by decide +kernel
theorem i_223_21 : a_ins 223 21 = some (.invokevirtual 72, 3, 155, 3, 0) := by decide +kernel
theorem i_223_24 : a_ins 223 24 = some (.iadd, 1, 0, 0, 0) := by decide +kernel
theorem i_223_25 : a_ins 223 25 = some (.istore_n 1, 1, 0, 0, 0) := by decide +kernel
theorem i_223_26 : a_ins 223 26 = some (.iinc 2 (1), 3, 0, 0, 1) := by decide +kernel
theorem i_223_29 : a_ins 223 29 = some (.goto (-25), 3, 4, 0, 0) := by decide +kernel
theorem i_223_32 : a_ins 223 32 = some (.iload_n 1, 1, 0, 0, 0) := by decide +kernel
theorem i_223_33 : a_ins 223 33 = some (.ireturn, 1, 0, 0, 0) := by decide +kernel
theorem i_224_0 : a_ins 224 0 = some (.aload_n 0, 1, 0, 0, 0) := by decide +kernel
theorem i_224_1 : a_ins 224 1 = some (.iconst (0), 1, 0, 0, 0) := by decide +kernel
theorem i_224_2 : a_ins 224 2 = some (.putfield 1, 3, 8, 0, 0) := by decide +kernel
theorem i_224_5 : a_ins 224 5 = some (.aload_n 0, 1, 0, 0, 0) := by decide +kernel
theorem i_224_6 : a_ins 224 6 = some (.iconst (1), 1, 0, 0, 1) := by decide +kernel
theorem i_224_7 : a_ins 224 7 = some (.iconst (1), 1, 0, 0, 1) := by decide +kernel
theorem i_224_8 : a_ins 224 8 = some (.invokevirtual 76, 3, 158, 3, 0) := by decide +kernel
theorem i_224_11 : a_ins 224 11 = some (.istore_n 2, 1, 0, 0, 0) := by decide +kernel
theorem i_224_12 : a_ins 224 12 = some (.iload_n 1, 1, 0, 0, 0) := by decide +kernel
theorem i_224_13 : a_ins 224 13 = some (.tableswitch (54) (0) (3) #[31, 38, 45, 47], 31, 0, 0, 0) := by decide +kernel
theorem i_224_44 : a_ins 224 44 = some (.aload_n 0, 1, 0, 0, 0) := by decide +kernel
theorem i_224_45 : a_ins 224 45 = some (.iconst (0), 1, 0, 0, 0) := by decide +kernel
theorem i_224_46 : a_ins 224 46 = some (.iconst (4), 1, 0, 0, 4) := by decide +kernel
theorem i_224_47 : a_ins 224 47 = some (.invokevirtual 76, 3, 158, 3, 0) := by decide +kernel
theorem i_224_50 : a_ins 224 50 = some (.ireturn, 1, 0, 0, 0) := by decide +kernel
theorem i_224_51 : a_ins 224 51 = some (.aload_n 0, 1, 0, 0, 0) := by decide +kernel
theorem i_224_52 : a_ins 224 52 = some (.iconst (0), 1, 0, 0, 0) := by decide +kernel
theorem i_224_53 : a_ins 224 53 = some (.iconst (5), 1, 0, 0, 5) := by decide +kernel
theorem i_224_54 : a_ins 224 54 = some (.invokevirtual 76, 3, 158, 3, 0) := by decide +kernel
theorem i_224_57 : a_ins 224 57 = some (.ireturn, 1, 0, 0, 0) := by decide +kernel
theorem i_224_58 : a_ins 224 58 = some (.iload_n 2, 1, 0, 0, 0) := by decide +kernel
theorem i_224_59 : a_ins 224 59 = some (.ireturn, 1, 0, 0, 0) := by decide +kernel
theorem i_224_60 : a_ins 224 60 = some (.iload_n 2, 1, 0, 0, 0) := by decide +kernel
theorem i_224_61 : a_ins 224 61 = some (.aload_n 0, 1, 0, 0, 0) := by decide +kernel
theorem i_224_62 : a_ins 224 62 = some (.invokevirtual 83, 3, 174, 1, 0) := by decide +kernel
theorem i_224_65 : a_ins 224 65 = some (.iand, 1, 0, 0, 0) := by decide +kernel
theorem i_224_66 : a_ins 224 66 = some (.ireturn, 1, 0, 0, 0) := by decide +kernel
theorem i_224_67 : a_ins 224 67 = some (.bipush (-2), 2, 0, 0, -2) := by decide +kernel
theorem i_224_69 : a_ins 224 69 = some (.ireturn, 1, 0, 0, 0) := by decide +kernel
theorem i_225_0 : a_ins 225 0 = some (.aload_n 0, 1, 0, 0, 0) := by decide +kernel
theorem i_225_1 : a_ins 225 1 = some (.iconst (0), 1, 0, 0, 0) := by decide +kernel
theorem i_225_2 : a_ins 225 2 = some (.putfield 1, 3, 8, 0, 0) := by decide +kernel
theorem i_225_5 : a_ins 225 5 = some (.iload_n 1, 1, 0, 0, 0) := by decide +kernel
theorem i_225_6 : a_ins 225 6 = some (.i2l, 1, 0, 0, 0) := by decide +kernel
theorem i_225_7 : a_ins 225 7 = some (.lconst 0, 1, 0, 0, 0) := by decide +kernel
theorem i_225_8 : a_ins 225 8 = some (.lconst 1, 1, 0, 0, 1) := by decide +kernel
theorem i_225_9 : a_ins 225 9 = some (.invokestatic 68, 3, 147, 3, 0) := by decide +kernel
theorem i_225_12 : a_ins 225 12 = some (.ifCond .ne (6), 3, 18, 0, 0) := by decide +kernel
theorem i_225_15 : a_ins 225 15 = some (.bipush (-3), 2, 0, 0, -3) := by decide +kernel
theorem i_225_17 : a_ins 225 17 = some (.ireturn, 1, 0, 0, 0) := by decide +kernel
theorem i_225_18 : a_ins 225 18 = some (.iload_n 2, 1, 0, 0, 0) := by decide +kernel
theorem i_225_19 : a_ins 225 19 = some (.i2l, 1, 0, 0, 0) := by decide +kernel
theorem i_225_20 : a_ins 225 20 = some (.lconst 0, 1, 0, 0, 0) := by decide +kernel
theorem i_225_21 : a_ins 225 21 = some (.ldc2_w 191, 3, 0, 0, 3) := by decide +kernel
theorem i_225_24 : a_ins 225 24 = some (.invokestatic 68, 3, 147, 3, 0) := by decide +kernel
theorem i_225_27 : a_ins 225 27 = some (.ifCond .ne (6), 3, 33, 0, 0) := by decide +kernel
theorem i_225_30 : a_ins 225 30 = some (.bipush (-2), 2, 0, 0, -2) := by decide +kernel
theorem i_225_32 : a_ins 225 32 = some (.ireturn, 1, 0, 0, 0) := by decide +kernel
theorem i_225_33 : a_ins 225 33 = some (.aload_n 0, 1, 0, 0, 0) := by decide +kernel
theorem i_225_34 : a_ins 225 34 = some (.getfield 13, 3, 8, 1, 0) := by decide +kernel
theorem i_225_37 : a_ins 225 37 = some (.iconst (0), 1, 0, 0, 0) := by decide +kernel
theorem i_225_38 : a_ins 225 38 = some (.iaload, 1, 0, 0, 0) := by decide +kernel
theorem i_225_39 : a_ins 225 39 = some (.iconst (3), 1, 0, 0, 3) := by decide +kernel
theorem i_225_40 : a_ins 225 40 = some (.if_icmp .le (6), 3, 46, 0, 0) := by decide +kernel
theorem i_225_43 : a_ins 225 43 = some (.bipush (-5), 2, 0, 0, -5) := by decide +kernel
theorem i_225_45 : a_ins 225 45 = some (.ireturn, 1, 0, 0, 0) := by decide +kernel
theorem i_225_46 : a_ins 225 46 = some (.aload_n 0, 1, 0, 0, 0) := by decide +kernel
theorem i_225_47 : a_ins 225 47 = some (.iload_n 1, 1, 0, 0, 0) := by decide +kernel
theorem i_225_48 : a_ins 225 48 = some (.invokevirtual 290, 3, 226, 2, 0) := by decide +kernel
theorem i_225_51 : a_ins 225 51 = some (.iconst (0), 1, 0, 0, 0) := by decide +kernel
theorem i_225_52 : a_ins 225 52 = some (.istore_n 3, 1, 0, 0, 0) := by decide +kernel
theorem i_225_53 : a_ins 225 53 = some (.iconst (0), 1, 0, 0, 0) := by decide +kernel
theorem i_225_54 : a_ins 225 54 = some (.istore 4, 2, 0, 0, 0) := by decide +kernel
theorem i_225_56 : a_ins 225 56 = some (.iconst (-1), 1, 0, 0, -1) := by decide +kernel
theorem i_225_57 : a_ins 225 57 = some (.istore 5, 2, 0, 0, 0) := by decide +kernel
theorem i_225_59 : a_ins 225 59 = some (.iconst (0), 1, 0, 0, 0) := by decide +kernel
theorem i_225_60 : a_ins 225 60 = some (.istore 6, 2, 0, 0, 0) := by decide +kernel
theorem i_225_62 : a_ins 225 62 = some (.iconst (0), 1, 0, 0, 0) := by decide +kernel
theorem i_225_63 : a_ins 225 63 = some (.istore 7, 2, 0, 0, 0) := by decide +kernel
theorem i_225_65 : a_ins 225 65 = some (.iload 7, 2, 0, 0, 0) := by decide +kernel
theorem i_225_67 : a_ins 225 67 = some (.sipush (1728), 3, 0, 0, 1728) := by decide +kernel
theorem i_225_70 : a_ins 225 70 = some (.if_icmp .ge (98), 3, 168, 0, 0) := by decide +kernel
theorem i_225_73 : a_ins 225 73 = some (.aload_n 0, 1, 0, 0, 0) := by decide +kernel
theorem i_225_74 : a_ins 225 74 = some (.getfield 42, 3, 8, 15, 0) := by decide +kernel
theorem i_225_77 : a_ins 225 77 = some (.iload 7, 2, 0, 0, 0) := by decide +kernel
theorem i_225_79 : a_ins 225 79 = some (.iaload, 1, 0, 0, 0) := by decide +kernel
theorem i_225_80 : a_ins 225 80 = some (.iconst (-1), 1, 0, 0, -1) := by decide +kernel
theorem i_225_81 : a_ins 225 81 = some (.if_icmp .ne (6), 3, 87, 0, 0) := by decide +kernel
theorem i_225_84 : a_ins 225 84 = some (.goto (78), 3, 162, 0, 0) := by decide +kernel
theorem i_225_87 : a_ins 225 87 = some (.iinc 3 (1), 3, 0, 0, 1) := by decide +kernel
theorem i_225_90 : a_ins 225 90 = some (.aload_n 0, 1, 0, 0, 0) := by decide +kernel
theorem i_225_91 : a_ins 225 91 = some (.getfield 42, 3, 8, 15, 0) := by decide +kernel
theorem i_225_94 : a_ins 225 94 = some (.iload 7, 2, 0, 0, 0) := by decide +kernel
theorem i_225_96 : a_ins 225 96 = some (.iaload, 1, 0, 0, 0) := by decide +kernel
theorem i_225_97 : a_ins 225 97 = some (.iload 6, 2, 0, 0, 0) := by decide +kernel
theorem i_225_99 : a_ins 225 99 = some (.if_icmp .le (13), 3, 112, 0, 0) := by decide +kernel
theorem i_225_102 : a_ins 225 102 = some (.aload_n 0, 1, 0, 0, 0) := by decide +kernel
theorem i_225_103 : a_ins 225 103 = some (.getfield 42, 3, 8, 15, 0) := by decide +kernel
theorem i_225_106 : a_ins 225 106 = some (.iload 7, 2, 0, 0, 0) := by decide +kernel
theorem i_225_108 : a_ins 225 108 = some (.iaload, 1, 0, 0, 0) := by decide +kernel
theorem i_225_109 : a_ins 225 109 = some (.goto (5), 3, 114, 0, 0) := by decide +kernel
theorem i_225_112 : a_ins 225 112 = some (.iload 6, 2, 0, 0, 0) := by decide +kernel
theorem i_225_114 : a_ins 225 114 = some (.istore 6, 2, 0, 0, 0) := by decide +kernel
theorem i_225_116 : a_ins 225 116 = some (.iload 7, 2, 0, 0, 0) := by decide +kernel
theorem i_225_118 : a_ins 225 118 = some (.invokestatic 293, 3, 233, 1, 0) := by decide +kernel
theorem i_225_121 : a_ins 225 121 = some (.ifCond .ne (6), 3, 127, 0, 0) := by decide +kernel
theorem i_225_124 : a_ins 225 124 = some (.goto (38), 3, 162, 0, 0) := by decide +kernel
theorem i_225_127 : a_ins 225 127 = some (.iinc 4 (1), 3, 0, 0, 1) := by decide +kernel
theorem i_225_130 : a_ins 225 130 = some (.iload 5, 2, 0, 0, 0) := by decide +kernel
theorem i_225_132 : a_ins 225 132 = some (.iconst (-1), 1, 0, 0, -1) := by decide +kernel
theorem i_225_133 : a_ins 225 133 = some (.if_icmp .eq (15), 3, 148, 0, 0) := by decide +kernel
theorem i_225_136 : a_ins 225 136 = some (.aload_n 0, 1, 0, 0, 0) := by decide +kernel
theorem i_225_137 : a_ins 225 137 = some (.getfield 42, 3, 8, 15, 0) := by decide +kernel
theorem i_225_140 : a_ins 225 140 = some (.iload 7, 2, 0, 0, 0) := by decide +kernel
theorem i_225_142 : a_ins 225 142 = some (.iaload, 1, 0, 0, 0) := by decide +kernel
theorem i_225_143 : a_ins 225 143 = some (.iload 5, 2, 0, 0, 0) := by decide +kernel
theorem i_225_145 : a_ins 225 145 = some (.if_icmp .ge (13), 3, 158, 0, 0) := by decide +kernel
theorem i_225_148 : a_ins 225 148 = some (.aload_n 0, 1, 0, 0, 0) := by decide +kernel
theorem i_225_149 : a_ins 225 149 = some (.getfield 42, 3, 8, 15, 0) := by decide +kernel
theorem i_225_152 : a_ins 225 152 = some (.iload 7, 2, 0, 0, 0) := by decide +kernel
theorem i_225_154 : a_ins 225 154 = some (.iaload, 1, 0, 0, 0) := by decide +kernel
theorem i_225_155 : a_ins 225 155 = some (.goto (5), 3, 160, 0, 0) := by decide +kernel
theorem i_225_158 : a_ins 225 158 = some (.iload 5, 2, 0, 0, 0) := by decide +kernel
theorem i_225_160 : a_ins 225 160 = some (.istore 5, 2, 0, 0, 0) := by decide +kernel
theorem i_225_162 : a_ins 225 162 = some (.iinc 7 (1), 3, 0, 0, 1) := by decide +kernel
theorem i_225_165 : a_ins 225 165 = some (.goto (-100), 3, 65, 0, 0) := by decide +kernel
theorem i_225_168 : a_ins 225 168 = some (.iload_n 2, 1, 0, 0, 0) := by decide +kernel
theorem i_225_169 : a_ins 225 169 = some (.ifCond .ne (7), 3, 176, 0, 0) := by decide +kernel
theorem i_225_172 : a_ins 225 172 = some (.iload_n 3, 1, 0, 0, 0) := by decide +kernel
theorem i_225_173 : a_ins 225 173 = some (.goto (25), 3, 198, 0, 0) := by decide +kernel
theorem i_225_176 : a_ins 225 176 = some (.iload_n 2, 1, 0, 0, 0) := by decide +kernel
theorem i_225_177 : a_ins 225 177 = some (.iconst (1), 1, 0, 0, 1) := by decide +kernel
theorem i_225_178 : a_ins 225 178 = some (.if_icmp .ne (8), 3, 186, 0, 0) := by decide +kernel
theorem i_225_181 : a_ins 225 181 = some (.iload 4, 2, 0, 0, 0) := by decide +kernel
theorem i_225_183 : a_ins 225 183 = some (.goto (15), 3, 198, 0, 0) := by decide +kernel
theorem i_225_186 : a_ins 225 186 = some (.iload_n 2, 1, 0, 0, 0) := by decide +kernel
theorem i_225_187 : a_ins 225 187 = some (.iconst (2), 1, 0, 0, 2) := by decide +kernel
theorem i_225_188 : a_ins 225 188 = some (.if_icmp .ne (8), 3, 196, 0, 0) := by decide +kernel
theorem i_225_191 : a_ins 225 191 = some (.iload 5, 2, 0, 0, 0) := by decide +kernel
theorem i_225_193 : a_ins 225 193 = some (.goto (5), 3, 198, 0, 0) := by decide +kernel
theorem i_225_196 : a_ins 225 196 = some (.iload 6, 2, 0, 0, 0) := by decide +kernel
theorem i_225_198 : a_ins 225 198 = some (.ireturn, 1, 0, 0, 0) := by decide +kernel
theorem i_226_0 : a_ins 226 0 = some (.aload_n 0, 1, 0, 0, 0) := by decide +kernel
theorem i_226_1 : a_ins 226 1 = some (.getfield 13, 3, 8, 1, 0) := by decide +kernel
theorem i_226_4 : a_ins 226 4 = some (.iconst (0), 1, 0, 0, 0) := by decide +kernel
theorem i_226_5 : a_ins 226 5 = some (.aload_n 0, 1, 0, 0, 0) := by decide +kernel
theorem i_226_6 : a_ins 226 6 = some (.getfield 20, 3, 8, 3, 0) := by decide +kernel
theorem i_226_9 : a_ins 226 9 = some (.iconst (0), 1, 0, 0, 0) := by decide +kernel
theorem i_226_10 : a_ins 226 10 = some (.invokestatic 87, 3, 149, 4, 0) := by decide +kernel
theorem i_226_13 : a_ins 226 13 = some (.iconst (0), 1, 0, 0, 0) := by decide +kernel
theorem i_226_14 : a_ins 226 14 = some (.istore_n 2, 1, 0, 0, 0) := by decide +kernel
theorem i_226_15 : a_ins 226 15 = some (.iload_n 2, 1, 0, 0, 0) := by decide +kernel
theorem i_226_16 : a_ins 226 16 = some (.sipush (27648), 3, 0, 0, 27648) := by decide +kernel
theorem i_226_19 : a_ins 226 19 = some (.if_icmp .ge (16), 3, 35, 0, 0) := by decide +kernel
theorem i_226_22 : a_ins 226 22 = some (.aload_n 0, 1, 0, 0, 0) := by decide +kernel
theorem i_226_23 : a_ins 226 23 = some (.getfield 30, 3, 8, 11, 0) := by decide +kernel
theorem i_226_26 : a_ins 226 26 = some (.iload_n 2, 1, 0, 0, 0) := by decide +kernel
theorem i_226_27 : a_ins 226 27 = some (.iconst (-1), 1, 0, 0, -1) := by decide +kernel
theorem i_226_28 : a_ins 226 28 = some (.iastore, 1, 0, 0, 0) := by decide +kernel
theorem i_226_29 : a_ins 226 29 = some (.iinc 2 (1), 3, 0, 0, 1) := by decide +kernel
theorem i_226_32 : a_ins 226 32 = some (.goto (-17), 3, 15, 0, 0) := by decide +kernel
theorem i_226_35 : a_ins 226 35 = some (.iconst (0), 1, 0, 0, 0) := by decide +kernel
theorem i_226_36 : a_ins 226 36 = some (.istore_n 2, 1, 0, 0, 0) := by decide +kernel
theorem i_226_37 : a_ins 226 37 = some (.iload_n 2, 1, 0, 0, 0) := by decide +kernel
theorem i_226_38 : a_ins 226 38 = some (.sipush (1728), 3, 0, 0, 1728) := by decide +kernel
theorem i_226_41 : a_ins 226 41 = some (.if_icmp .ge (16), 3, 57, 0, 0) := by decide +kernel
theorem i_226_44 : a_ins 226 44 = some (.aload_n 0, 1, 0, 0, 0) := by decide +kernel
theorem i_226_45 : a_ins 226 45 = some (.getfield 42, 3, 8, 15, 0) := by decide +kernel
theorem i_226_48 : a_ins 226 48 = some (.iload_n 2, 1, 0, 0, 0) := by decide +kernel
theorem i_226_49 : a_ins 226 49 = some (.iconst (-1), 1, 0, 0, -1) := by decide +kernel
theorem i_226_50 : a_ins 226 50 = some (.iastore, 1, 0, 0, 0) := by decide +kernel
theorem i_226_51 : a_ins 226 51 = some (.iinc 2 (1), 3, 0, 0, 1) := by decide +kernel
theorem i_226_54 : a_ins 226 54 = some (.goto (-17), 3, 37, 0, 0) := by decide +kernel
theorem i_226_57 : a_ins 226 57 = some (.aload_n 0, 1, 0, 0, 0) := by decide +kernel
theorem i_226_58 : a_ins 226 58 = some (.iconst (0), 1, 0, 0, 0) := by decide +kernel
theorem i_226_59 : a_ins 226 59 = some (.putfield 269, 3, 8, 16, 0) := by decide +kernel
theorem i_226_62 : a_ins 226 62 = some (.aload_n 0, 1, 0, 0, 0) := by decide +kernel
theorem i_226_63 : a_ins 226 63 = some (.getfield 13, 3, 8, 1, 0) := by decide +kernel
theorem i_226_66 : a_ins 226 66 = some (.iconst (2), 1, 0, 0, 2) := by decide +kernel
theorem i_226_67 : a_ins 226 67 = some (.iconst (0), 1, 0, 0, 0) := by decide +kernel
theorem i_226_68 : a_ins 226 68 = some (.iastore, 1, 0, 0, 0) := by decide +kernel
theorem i_226_69 : a_ins 226 69 = some (.iconst (0), 1, 0, 0, 0) := by decide +kernel
theorem i_226_70 : a_ins 226 70 = some (.istore_n 2, 1, 0, 0, 0) := by decide +kernel
theorem i_226_71 : a_ins 226 71 = some (.iload_n 2, 1, 0, 0, 0) := by decide +kernel
theorem i_226_72 : a_ins 226 72 = some (.aload_n 0, 1, 0, 0, 0) := by decide +kernel
theorem i_226_73 : a_ins 226 73 = some (.getfield 13, 3, 8, 1, 0) := by decide +kernel
theorem i_226_76 : a_ins 226 76 = some (.iconst (0), 1, 0, 0, 0) := by decide +kernel
theorem i_226_77 : a_ins 226 77 = some (.iaload, 1, 0, 0, 0) := by decide +kernel
theorem i_226_78 : a_ins 226 78 = some (.if_icmp .ge (30), 3, 108, 0, 0) := by decide +kernel
theorem i_226_81 : a_ins 226 81 = some (.aload_n 0, 1, 0, 0, 0) := by decide +kernel
theorem i_226_82 : a_ins 226 82 = some (.iload_n 2, 1, 0, 0, 0) := by decide +kernel
theorem i_226_83 : a_ins 226 83 = some (.iconst (0), 1, 0, 0, 0) := by decide +kernel
theorem i_226_84 : a_ins 226 84 = some (.iconst (0), 1, 0, 0, 0) := by decide +kernel
theorem i_226_85 : a_ins 226 85 = some (.invokevirtual 64, 3, 145, 4, 0) := by decide +kernel
theorem i_226_88 : a_ins 226 88 = some (.aload_n 0, 1, 0, 0, 0) := by decide +kernel
theorem i_226_89 : a_ins 226 89 = some (.iload_n 2, 1, 0, 0, 0) := by decide +kernel
theorem i_226_90 : a_ins 226 90 = some (.iconst (1), 1, 0, 0, 1) := by decide +kernel
theorem i_226_91 : a_ins 226 91 = some (.iconst (1), 1, 0, 0, 1) := by decide +kernel
theorem i_226_92 : a_ins 226 92 = some (.invokevirtual 64, 3, 145, 4, 0) := by decide +kernel
theorem i_226_95 : a_ins 226 95 = some (.aload_n 0, 1, 0, 0, 0) := by decide +kernel
theorem i_226_96 : a_ins 226 96 = some (.iload_n 2, 1, 0, 0, 0) := by decide +kernel
theorem i_226_97 : a_ins 226 97 = some (.iconst (2), 1, 0, 0, 2) := by decide +kernel
theorem i_226_98 : a_ins 226 98 = some (.iconst (0), 1, 0, 0, 0) := by decide +kernel
theorem i_226_99 : a_ins 226 99 = some (.invokevirtual 64, 3, 145, 4, 0) := by decide +kernel
theorem i_226_102 : a_ins 226 102 = some (.iinc 2 (1), 3, 0, 0, 1) := by decide +kernel
theorem i_226_105 : a_ins 226 105 = some (.goto (-34), 3, 71, 0, 0) := by decide +kernel
theorem i_226_108 : a_ins 226 108 = some (.aload_n 0, 1, 0, 0, 0) := by decide +kernel
theorem i_226_109 : a_ins 226 109 = some (.aload_n 0, 1, 0, 0, 0) := by decide +kernel
theorem i_226_110 : a_ins 226 110 = some (.invokevirtual 272, 3, 227, 1, 0) := by decide +kernel
theorem i_226_113 : a_ins 226 113 = some (.iconst (-1), 1, 0, 0, -1) := by decide +kernel
theorem i_226_114 : a_ins 226 114 = some (.iconst (-1), 1, 0, 0, -1) := by decide +kernel
theorem i_226_115 : a_ins 226 115 = some (.invokevirtual 275, 3, 228, 4, 0) := by decide +kernel
theorem i_226_118 : a_ins 226 118 = some (.iconst (0), 1, 0, 0, 0) := by decide +kernel
theorem i_226_119 : a_ins 226 119 = some (.istore_n 2, 1, 0, 0, 0) := by decide +kernel
theorem i_226_120 : a_ins 226 120 = some (.iload_n 2, 1, 0, 0, 0) := by decide +kernel
theorem i_226_121 : a_ins 226 121 = some (.aload_n 0, 1, 0, 0, 0) := by decide +kernel
theorem i_226_122 : a_ins 226 122 = some (.getfield 269, 3, 8, 16, 0) := by decide +kernel
theorem i_226_125 : a_ins 226 125 = some (.if_icmp .ge (96), 3, 221, 0, 0) := by decide +kernel
theorem i_226_128 : a_ins 226 128 = some (.aload_n 0, 1, 0, 0, 0) := by decide +kernel
theorem i_226_129 : a_ins 226 129 = some (.getfield 39, 3, 8, 14, 0) := by decide +kernel
theorem i_226_132 : a_ins 226 132 = some (.iload_n 2, 1, 0, 0, 0) := by decide +kernel
theorem i_226_133 : a_ins 226 133 = some (.iaload, 1, 0, 0, 0) := by decide +kernel
theorem i_226_134 : a_ins 226 134 = some (.istore_n 3, 1, 0, 0, 0) := by decide +kernel
theorem i_226_135 : a_ins 226 135 = some (.aload_n 0, 1, 0, 0, 0) := by decide +kernel
theorem i_226_136 : a_ins 226 136 = some (.getfield 42, 3, 8, 15, 0) := by decide +kernel
theorem i_226_139 : a_ins 226 139 = some (.iload_n 3, 1, 0, 0, 0) := by decide +kernel
theorem i_226_140 : a_ins 226 140 = some (.invokestatic 278, 3, 229, 1, 0) := by decide +kernel
theorem i_226_143 : a_ins 226 143 = some (.iaload, 1, 0, 0, 0) := by decide +kernel
theorem i_226_144 : a_ins 226 144 = some (.iconst (-1), 1, 0, 0, -1) := by decide +kernel
theorem i_226_145 : a_ins 226 145 = some (.if_icmp .ne (18), 3, 163, 0, 0) := by decide +kernel
theorem i_226_148 : a_ins 226 148 = some (.aload_n 0, 1, 0, 0, 0) := by decide +kernel
theorem i_226_149 : a_ins 226 149 = some (.getfield 42, 3, 8, 15, 0) := by decide +kernel
theorem i_226_152 : a_ins 226 152 = some (.iload_n 3, 1, 0, 0, 0) := by decide +kernel
theorem i_226_153 : a_ins 226 153 = some (.invokestatic 278, 3, 229, 1, 0) := by decide +kernel
theorem i_226_156 : a_ins 226 156 = some (.aload_n 0, 1, 0, 0, 0) := by decide +kernel
theorem i_226_157 : a_ins 226 157 = some (.getfield 30, 3, 8, 11, 0) := by decide +kernel
theorem i_226_160 : a_ins 226 160 = some (.iload_n 3, 1, 0, 0, 0) := by decide +kernel
theorem i_226_161 : a_ins 226 161 = some (.iaload, 1, 0, 0, 0) := by decide +kernel
theorem i_226_162 : a_ins 226 162 = some (.iastore, 1, 0, 0, 0) := by decide +kernel
theorem i_226_163 : a_ins 226 163 = some (.aload_n 0, 1, 0, 0, 0) := by decide +kernel
theorem i_226_164 : a_ins 226 164 = some (.bipush (99), 2, 0, 0, 99) := by decide +kernel
theorem i_226_166 : a_ins 226 166 = some (.iload_n 1, 1, 0, 0, 0) := by decide +kernel
theorem i_226_167 : a_ins 226 167 = some (.invokevirtual 281, 3, 230, 3, 0) := by decide +kernel
theorem i_226_170 : a_ins 226 170 = some (.istore 4, 2, 0, 0, 0) := by decide +kernel
theorem i_226_172 : a_ins 226 172 = some (.iload 4, 2, 0, 0, 0) := by decide +kernel
theorem i_226_174 : a_ins 226 174 = some (.iconst (-1), 1, 0, 0, -1) := by decide +kernel
theorem i_226_175 : a_ins 226 175 = some (.if_icmp .eq (40), 3, 215, 0, 0) := by decide +kernel
theorem i_226_178 : a_ins 226 178 = some (.aload_n 0, 1, 0, 0, 0) := by decide +kernel
theorem i_226_179 : a_ins 226 179 = some (.iload_n 3, 1, 0, 0, 0) := by decide +kernel
theorem i_226_180 : a_ins 226 180 = some (.invokevirtual 284, 3, 231, 2, 0) := by decide +kernel
theorem i_226_183 : a_ins 226 183 = some (.aload_n 0, 1, 0, 0, 0) := by decide +kernel
theorem i_226_184 : a_ins 226 184 = some (.iload 4, 2, 0, 0, 0) := by decide +kernel
theorem i_226_186 : a_ins 226 186 = some (.invokevirtual 287, 3, 232, 2, 0) := by decide +kernel
theorem i_226_189 : a_ins 226 189 = some (.ifCond .lt (14), 3, 203, 0, 0) := by decide +kernel
theorem i_226_192 : a_ins 226 192 = some (.aload_n 0, 1, 0, 0, 0) := by decide +kernel
theorem i_226_193 : a_ins 226 193 = some (.aload_n 0, 1, 0, 0, 0) := by decide +kernel
theorem i_226_194 : a_ins 226 194 = some (.invokevirtual 272, 3, 227, 1, 0) := by decide +kernel
theorem i_226_197 : a_ins 226 197 = some (.iload_n 3, 1, 0, 0, 0) := by decide +kernel
theorem i_226_198 : a_ins 226 198 = some (.iload 4, 2, 0, 0, 0) := by decide +kernel
theorem i_226_200 : a_ins 226 200 = some (.invokevirtual 275, 3, 228, 4, 0) := by decide +kernel
theorem i_226_203 : a_ins 226 203 = some (.aload_n 0, 1, 0, 0, 0) := by decide +kernel
theorem i_226_204 : a_ins 226 204 = some (.iload 4, 2, 0, 0, 0) := by decide +kernel
theorem i_226_206 : a_ins 226 206 = some (.iload_n 1, 1, 0, 0, 0) := by decide +kernel
theorem i_226_207 : a_ins 226 207 = some (.invokevirtual 281, 3, 230, 3, 0) := by decide +kernel
theorem i_226_210 : a_ins 226 210 = some (.istore 4, 2, 0, 0, 0) := by decide +kernel
theorem i_226_212 : a_ins 226 212 = some (.goto (-40), 3, 172, 0, 0) := by decide +kernel
theorem i_226_215 : a_ins 226 215 = some (.iinc 2 (1), 3, 0, 0, 1) := by decide +kernel
theorem i_226_218 : a_ins 226 218 = some (.goto (-98), 3, 120, 0, 0) := by decide +kernel
theorem i_226_221 : a_ins 226 221 = some (.aload_n 0, 1, 0, 0, 0) := by decide +kernel
theorem i_226_222 : a_ins 226 222 = some (.getfield 20, 3, 8, 3, 0) := by decide +kernel
theorem i_226_225 : a_ins 226 225 = some (.iconst (0), 1, 0, 0, 0) := by decide +kernel
theorem i_226_226 : a_ins 226 226 = some (.aload_n 0, 1, 0, 0, 0) := by decide +kernel
theorem i_226_227 : a_ins 226 227 = some (.getfield 13, 3, 8, 1, 0) := by decide +kernel
theorem i_226_230 : a_ins 226 230 = some (.iconst (0), 1, 0, 0, 0) := by decide +kernel
theorem i_226_231 : a_ins 226 231 = some (.invokestatic 87, 3, 149, 4, 0) := by decide +kernel
theorem i_226_234 : a_ins 226 234 = some (.return_, 1, 0, 0, 0) := by decide +kernel
theorem i_227_0 : a_ins 227 0 = some (.iconst (0), 1, 0, 0, 0) := by decide +kernel
theorem i_227_1 : a_ins 227 1 = some (.istore_n 1, 1, 0, 0, 0) := by decide +kernel
theorem i_227_2 : a_ins 227 2 = some (.iconst (2), 1, 0, 0, 2) := by decide +kernel
theorem i_227_3 : a_ins 227 3 = some (.istore_n 2, 1, 0, 0, 0) := by decide +kernel
theorem i_227_4 : a_ins 227 4 = some (.iload_n 2, 1, 0, 0, 0) := by decide +kernel
theorem i_227_5 : a_ins 227 5 = some (.ifCond .lt (35), 3, 40, 0, 0) := by decide +kernel
theorem i_227_8 : a_ins 227 8 = some (.bipush (6), 2, 0, 0, 6) := by decide +kernel
theorem i_227_10 : a_ins 227 10 = some (.iload_n 1, 1, 0, 0, 0) := by decide +kernel
theorem i_227_11 : a_ins 227 11 = some (.imul, 1, 0, 0, 0) := by decide +kernel
theorem i_227_12 : a_ins 227 12 = some (.iload_n 2, 1, 0, 0, 0) := by decide +kernel
theorem i_227_13 : a_ins 227 13 = some (.aload_n 0, 1, 0, 0, 0) := by decide +kernel
theorem i_227_14 : a_ins 227 14 = some (.getfield 13, 3, 8, 1, 0) := by decide +kernel
theorem i_227_17 : a_ins 227 17 = some (.iconst (0), 1, 0, 0, 0) := by decide +kernel
theorem i_227_18 : a_ins 227 18 = some (.iaload, 1, 0, 0, 0) := by decide +kernel
theorem i_227_19 : a_ins 227 19 = some (.if_icmp .ge (12), 3, 31, 0, 0) := by decide +kernel
theorem i_227_22 : a_ins 227 22 = some (.aload_n 0, 1, 0, 0, 0) := by decide +kernel
theorem i_227_23 : a_ins 227 23 = some (.iload_n 2, 1, 0, 0, 0) := by decide +kernel
theorem i_227_24 : a_ins 227 24 = some (.iconst (0), 1, 0, 0, 0) := by decide +kernel
theorem i_227_25 : a_ins 227 25 = some (.invokevirtual 72, 3, 155, 3, 0) := by decide +kernel
theorem i_227_28 : a_ins 227 28 = some (.goto (4), 3, 32, 0, 0) := by decide +kernel
theorem i_227_31 : a_ins 227 31 = some (.iconst (0), 1, 0, 0, 0) := by decide +kernel
theorem i_227_32 : a_ins 227 32 = some (.iadd, 1, 0, 0, 0) := by decide +kernel
theorem i_227_33 : a_ins 227 33 = some (.istore_n 1, 1, 0, 0, 0) := by decide +kernel
theorem i_227_34 : a_ins 227 34 = some (.iinc 2 (-1), 3, 0, 0, -1) := by decide +kernel
theorem i_227_37 : a_ins 227 37 = some (.goto (-33), 3, 4, 0, 0) := by decide +kernel
theorem i_227_40 : a_ins 227 40 = some (.iconst (4), 1, 0, 0, 4) := by decide +kernel
theorem i_227_41 : a_ins 227 41 = some (.iconst (4), 1, 0, 0, 4) := by decide +kernel
theorem i_227_42 : a_ins 227 42 = some (.bipush (8), 2, 0, 0, 8) := by decide +kernel
theorem i_227_44 : a_ins 227 44 = some (.iload_n 1, 1, 0, 0, 0) := by decide +kernel
theorem i_227_45 : a_ins 227 45 = some (.imul, 1, 0, 0, 0) := by decide +kernel
theorem i_227_46 : a_ins 227 46 = some (.aload_n 0, 1, 0, 0, 0) := by decide +kernel
theorem i_227_47 : a_ins 227 47 = some (.iconst (1), 1, 0, 0, 1) := by decide +kernel
theorem i_227_48 : a_ins 227 48 = some (.iconst (1), 1, 0, 0, 1) := by decide +kernel
theorem i_227_49 : a_ins 227 49 = some (.invokevirtual 76, 3, 158, 3, 0) := by decide +kernel
theorem i_227_52 : a_ins 227 52 = some (.iadd, 1, 0, 0, 0) := by decide +kernel
theorem i_227_53 : a_ins 227 53 = some (.imul, 1, 0, 0, 0) := by decide +kernel
theorem i_227_54 : a_ins 227 54 = some (.aload_n 0, 1, 0, 0, 0) := by decide +kernel
theorem i_227_55 : a_ins 227 55 = some (.iconst (2), 1, 0, 0, 2) := by decide +kernel
theorem i_227_56 : a_ins 227 56 = some (.iconst (1), 1, 0, 0, 1) := by decide +kernel
theorem i_227_57 : a_ins 227 57 = some (.invokevirtual 76, 3, 158, 3, 0) := by decide +kernel
theorem i_227_60 : a_ins 227 60 = some (.iconst (2), 1, 0, 0, 2) := by decide +kernel
theorem i_227_61 : a_ins 227 61 = some (.idiv, 1, 0, 0, 0) := by decide +kernel
theorem i_227_62 : a_ins 227 62 = some (.iadd, 1, 0, 0, 0) := by decide +kernel
theorem i_227_63 : a_ins 227 63 = some (.imul, 1, 0, 0, 0) := by decide +kernel
theorem i_227_64 : a_ins 227 64 = some (.aload_n 0, 1, 0, 0, 0) := by decide +kernel
theorem i_227_65 : a_ins 227 65 = some (.getfield 13, 3, 8, 1, 0) := by decide +kernel
theorem i_227_68 : a_ins 227 68 = some (.iconst (2), 1, 0, 0, 2) := by decide +kernel
theorem i_227_69 : a_ins 227 69 = some (.iaload, 1, 0, 0, 0) := by decide +kernel
theorem i_227_70 : a_ins 227 70 = some (.iadd, 1, 0, 0, 0) := by decide +kernel
theorem i_227_71 : a_ins 227 71 = some (.ireturn, 1, 0, 0, 0) := by decide +kernel
theorem i_228_0 : a_ins 228 0 = some (.aload_n 0, 1, 0, 0, 0) := by decide +kernel
theorem i_228_1 : a_ins 228 1 = some (.getfield 30, 3, 8, 11, 0) := by decide +kernel
theorem i_228_4 : a_ins 228 4 = some (.iload_n 1, 1, 0, 0, 0) := by decide +kernel
theorem i_228_5 : a_ins 228 5 = some (.iaload, 1, 0, 0, 0) := by decide +kernel
theorem i_228_6 : a_ins 228 6 = some (.iconst (-1), 1, 0, 0, -1) := by decide +kernel
theorem i_228_7 : a_ins 228 7 = some (.if_icmp .eq (4), 3, 11, 0, 0) := by decide +kernel
theorem i_228_10 : a_ins 228 10 = some (.return_, 1, 0, 0, 0) := by decide +kernel
theorem i_228_11 : a_ins 228 11 = some (.aload_n 0, 1, 0, 0, 0) := by decide +kernel
theorem i_228_12 : a_ins 228 12 = some (.getfield 30, 3, 8, 11, 0) := by decide +kernel
theorem i_228_15 : a_ins 228 15 = some (.iload_n 1, 1, 0, 0, 0) := by decide +kernel
theorem i_228_16 : a_ins 228 16 = some (.iload_n 2, 1, 0, 0, 0) := by decide +kernel
theorem i_228_17 : a_ins 228 17 = some (.iconst (-1), 1, 0, 0, -1) := by decide +kernel
theorem i_228_18 : a_ins 228 18 = some (.if_icmp .ne (7), 3, 25, 0, 0) := by decide +kernel
theorem i_228_21 : a_ins 228 21 = some (.iconst (0), 1, 0, 0, 0) := by decide +kernel
theorem i_228_22 : a_ins 228 22 = some (.goto (11), 3, 33, 0, 0) := by decide +kernel
theorem i_228_25 : a_ins 228 25 = some (.aload_n 0, 1, 0, 0, 0) := by decide +kernel
theorem i_228_26 : a_ins 228 26 = some (.getfield 30, 3, 8, 11, 0) := by decide +kernel
theorem i_228_29 : a_ins 228 29 = some (.iload_n 2, 1, 0, 0, 0) := by decide +kernel
theorem i_228_30 : a_ins 228 30 = some (.iaload, 1, 0, 0, 0) := by decide +kernel
theorem i_228_31 : a_ins 228 31 = some (.iconst (1), 1, 0, 0, 1) := by decide +kernel
theorem i_228_32 : a_ins 228 32 = some (.iadd, 1, 0, 0, 0) := by decide +kernel
theorem i_228_33 : a_ins 228 33 = some (.iastore, 1, 0, 0, 0) := by decide +kernel
theorem i_228_34 : a_ins 228 34 = some (.aload_n 0, 1, 0, 0, 0) := by decide +kernel
theorem i_228_35 : a_ins 228 35 = some (.getfield 36, 3, 8, 13, 0) := by decide +kernel
theorem i_228_38 : a_ins 228 38 = some (.iload_n 1, 1, 0, 0, 0) := by decide +kernel
theorem i_228_39 : a_ins 228 39 = some (.iload_n 2, 1, 0, 0, 0) := by decide +kernel
theorem i_228_40 : a_ins 228 40 = some (.iastore, 1, 0, 0, 0) := by decide +kernel
theorem i_228_41 : a_ins 228 41 = some (.aload_n 0, 1, 0, 0, 0) := by decide +kernel
theorem i_228_42 : a_ins 228 42 = some (.getfield 33, 3, 8, 12, 0) := by decide +kernel
theorem i_228_45 : a_ins 228 45 = some (.iload_n 1, 1, 0, 0, 0) := by decide +kernel
theorem i_228_46 : a_ins 228 46 = some (.iload_n 3, 1, 0, 0, 0) := by decide +kernel
theorem i_228_47 : a_ins 228 47 = some (.iastore, 1, 0, 0, 0) := by decide +kernel
theorem i_228_48 : a_ins 228 48 = some (.aload_n 0, 1, 0, 0, 0) := by decide +kernel
theorem i_228_49 : a_ins 228 49 = some (.getfield 39, 3, 8, 14, 0) := by decide +kernel
theorem i_228_52 : a_ins 228 52 = some (.aload_n 0, 1, 0, 0, 0) := by decide +kernel
theorem i_228_53 : a_ins 228 53 = some (.getfield 269, 3, 8, 16, 0) := by decide +kernel
theorem i_228_56 : a_ins 228 56 = some (.iload_n 1, 1, 0, 0, 0) := by decide +kernel
theorem i_228_57 : a_ins 228 57 = some (.iastore, 1, 0, 0, 0) := by decide +kernel
theorem i_228_58 : a_ins 228 58 = some (.aload_n 0, 1, 0, 0, 0) := by decide +kernel
theorem i_228_59 : a_ins 228 59 = some (.dup, 1, 0, 0, 0) := by decide +kernel
theorem i_228_60 : a_ins 228 60 = some (.getfield 269, 3, 8, 16, 0) := by decide +kernel
theorem i_228_63 : a_ins 228 63 = some (.iconst (1), 1, 0, 0, 1) := by decide +kernel
theorem i_228_64 : a_ins 228 64 = some (.iadd, 1, 0, 0, 0) := by decide +kernel
theorem i_228_65 : a_ins 228 65 = some (.putfield 269, 3, 8, 16, 0) := by decide +kernel
theorem i_228_68 : a_ins 228 68 = some (.return_, 1, 0, 0, 0) := by decide +kernel
theorem i_229_0 : a_ins 229 0 = some (.iload_n 0, 1, 0, 0, 0) := by decide +kernel
theorem i_229_1 : a_ins 229 1 = some (.bipush (16), 2, 0, 0, 16) := by decide +kernel
theorem i_229_3 : a_ins 229 3 = some (.idiv, 1, 0, 0, 0) := by decide +kernel
theorem i_229_4 : a_ins 229 4 = some (.ireturn, 1, 0, 0, 0) := by decide +kernel
theorem i_230_0 : a_ins 230 0 = some (.iload_n 1, 1, 0, 0, 0) := by decide +kernel
theorem i_230_1 : a_ins 230 1 = some (.iconst (1), 1, 0, 0, 1) := by decide +kernel
theorem i_230_2 : a_ins 230 2 = some (.iadd, 1, 0, 0, 0) := by decide +kernel
theorem i_230_3 : a_ins 230 3 = some (.istore_n 3, 1, 0, 0, 0) := by decide +kernel
theorem i_230_4 : a_ins 230 4 = some (.iload_n 3, 1, 0, 0, 0) := by decide +kernel
theorem i_230_5 : a_ins 230 5 = some (.sipush (608), 3, 0, 0, 608) := by decide +kernel
theorem i_230_8 : a_ins 230 8 = some (.if_icmp .ge (140), 3, 148, 0, 0) := by decide +kernel
theorem i_230_11 : a_ins 230 11 = some (.iload_n 3, 1, 0, 0, 0) := by decide +kernel
theorem i_230_12 : a_ins 230 12 = some (.bipush (100), 2, 0, 0, 100) := by decide +kernel
theorem i_230_14 : a_ins 230 14 = some (.idiv, 1, 0, 0, 0) := by decide +kernel
theorem i_230_15 : a_ins 230 15 = some (.istore 4, 2, 0, 0, 0) := by decide +kernel
theorem i_230_17 : a_ins 230 17 = some (.iload_n 3, 1, 0, 0, 0) := by decide +kernel
theorem i_230_18 : a_ins 230 18 = some (.bipush (100), 2, 0, 0, 100) := by decide +kernel
theorem i_230_20 : a_ins 230 20 = some (.irem, 1, 0, 0, 0) := by decide +kernel
theorem i_230_21 : a_ins 230 21 = some (.istore 5, 2, 0, 0, 0) := by decide +kernel
theorem i_230_23 : a_ins 230 23 = some (.iload 4, 2, 0, 0, 0) := by decide +kernel
theorem i_230_25 : a_ins 230 25 = some (.iconst (4), 1, 0, 0, 4) := by decide +kernel
theorem i_230_26 : a_ins 230 26 = some (.if_icmp .ge (18), 3, 44, 0, 0) := by decide +kernel
theorem i_230_29 : a_ins 230 29 = some (.iload 5, 2, 0, 0, 0) := by decide +kernel
theorem i_230_31 : a_ins 230 31 = some (.bipush (6), 2, 0, 0, 6) := by decide +kernel
theorem i_230_33 : a_ins 230 33 = some (.if_icmp .ge (7), 3, 40, 0, 0) := by decide +kernel
theorem i_230_36 : a_ins 230 36 = some (.iconst (1), 1, 0, 0, 1) := by decide +kernel
theorem i_230_37 : a_ins 230 37 = some (.goto (96), 3, 133, 0, 0) := by decide +kernel
theorem i_230_40 : a_ins 230 40 = some (.iconst (0), 1, 0, 0, 0) := by decide +kernel
theorem i_230_41 : a_ins 230 41 = some (.goto (92), 3, 133, 0, 0) := by decide +kernel
theorem i_230_44 : a_ins 230 44 = some (.iload 4, 2, 0, 0, 0) := by decide +kernel
theorem i_230_46 : a_ins 230 46 = some (.iconst (4), 1, 0, 0, 4) := by decide +kernel
theorem i_230_47 : a_ins 230 47 = some (.if_icmp .ne (22), 3, 69, 0, 0) := by decide +kernel
theorem i_230_50 : a_ins 230 50 = some (.iload 5, 2, 0, 0, 0) := by decide +kernel
theorem i_230_52 : a_ins 230 52 = some (.aload_n 0, 1, 0, 0, 0) := by decide +kernel
theorem i_230_53 : a_ins 230 53 = some (.getfield 13, 3, 8, 1, 0) := by decide +kernel
theorem i_230_56 : a_ins 230 56 = some (.iconst (0), 1, 0, 0, 0) := by decide +kernel
theorem i_230_57 : a_ins 230 57 = some (.iaload, 1, 0, 0, 0) := by decide +kernel
theorem i_230_58 : a_ins 230 58 = some (.if_icmp .ge (7), 3, 65, 0, 0) := by decide +kernel
theorem i_230_61 : a_ins 230 61 = some (.iconst (1), 1, 0, 0, 1) := by decide +kernel
theorem i_230_62 : a_ins 230 62 = some (.goto (71), 3, 133, 0, 0) := by decide +kernel
theorem i_230_65 : a_ins 230 65 = some (.iconst (0), 1, 0, 0, 0) := by decide +kernel
theorem i_230_66 : a_ins 230 66 = some (.goto (67), 3, 133, 0, 0) := by decide +kernel
theorem i_230_69 : a_ins 230 69 = some (.iload 4, 2, 0, 0, 0) := by decide +kernel
theorem i_230_71 : a_ins 230 71 = some (.iconst (5), 1, 0, 0, 5) := by decide +kernel
theorem i_230_72 : a_ins 230 72 = some (.if_icmp .ne (35), 3, 107, 0, 0) := by decide +kernel
theorem i_230_75 : a_ins 230 75 = some (.iload 5, 2, 0, 0, 0) := by decide +kernel
theorem i_230_77 : a_ins 230 77 = some (.bipush (10), 2, 0, 0, 10) := by decide +kernel
theorem i_230_79 : a_ins 230 79 = some (.idiv, 1, 0, 0, 0) := by decide +kernel
theorem i_230_80 : a_ins 230 80 = some (.aload_n 0, 1, 0, 0, 0) := by decide +kernel
theorem i_230_81 : a_ins 230 81 = some (.getfield 13, 3, 8, 1, 0) := by decide +kernel
theorem i_230_84 : a_ins 230 84 = some (.iconst (0), 1, 0, 0, 0) := by decide +kernel
theorem i_230_85 : a_ins 230 85 = some (.iaload, 1, 0, 0, 0) := by decide +kernel
theorem i_230_86 : a_ins 230 86 = some (.if_icmp .ge (17), 3, 103, 0, 0) := by decide +kernel
theorem i_230_89 : a_ins 230 89 = some (.iload 5, 2, 0, 0, 0) := by decide +kernel
theorem i_230_91 : a_ins 230 91 = some (.bipush (10), 2, 0, 0, 10) := by decide +kernel
theorem i_230_93 : a_ins 230 93 = some (.irem, 1, 0, 0, 0) := by decide +kernel
theorem i_230_94 : a_ins 230 94 = some (.bipush (6), 2, 0, 0, 6) := by decide +kernel
theorem i_230_96 : a_ins 230 96 = some (.if_icmp .ge (7), 3, 103, 0, 0) := by decide +kernel
theorem i_230_99 : a_ins 230 99 = some (.iconst (1), 1, 0, 0, 1) := by decide +kernel
theorem i_230_100 : a_ins 230 100 = some (.goto (33), 3, 133, 0, 0) := by decide +kernel
theorem i_230_103 : a_ins 230 103 = some (.iconst (0), 1, 0, 0, 0) := by decide +kernel
theorem i_230_104 : a_ins 230 104 = some (.goto (29), 3, 133, 0, 0) := by decide +kernel
theorem i_230_107 : a_ins 230 107 = some (.iload_n 2, 1, 0, 0, 0) := by decide +kernel
theorem i_230_108 : a_ins 230 108 = some (.iconst (1), 1, 0, 0, 1) := by decide +kernel
theorem i_230_109 : a_ins 230 109 = some (.if_icmp .ne (23), 3, 132, 0, 0) := by decide +kernel
theorem i_230_112 : a_ins 230 112 = some (.iload 5, 2, 0, 0, 0) := by decide +kernel
theorem i_230_114 : a_ins 230 114 = some (.iconst (2), 1, 0, 0, 2) := by decide +kernel
theorem i_230_115 : a_ins 230 115 = some (.irem, 1, 0, 0, 0) := by decide +kernel
theorem i_230_116 : a_ins 230 116 = some (.ifCond .ne (16), 3, 132, 0, 0) := by decide +kernel
theorem i_230_119 : a_ins 230 119 = some (.iload 5, 2, 0, 0, 0) := by decide +kernel
theorem i_230_121 : a_ins 230 121 = some (.aload_n 0, 1, 0, 0, 0) := by decide +kernel
theorem i_230_122 : a_ins 230 122 = some (.invokevirtual 142, 3, 159, 1, 0) := by decide +kernel
theorem i_230_125 : a_ins 230 125 = some (.if_icmp .gt (7), 3, 132, 0, 0) := by decide +kernel
theorem i_230_128 : a_ins 230 128 = some (.iconst (1), 1, 0, 0, 1) := by decide +kernel
theorem i_230_129 : a_ins 230 129 = some (.goto (4), 3, 133, 0, 0) := by decide +kernel
theorem i_230_132 : a_ins 230 132 = some (.iconst (0), 1, 0, 0, 0) := by decide +kernel
theorem i_230_133 : a_ins 230 133 = some (.istore 6, 2, 0, 0, 0) := by decide +kernel
theorem i_230_135 : a_ins 230 135 = some (.iload 6, 2, 0, 0, 0) := by decide +kernel
theorem i_230_137 : a_ins 230 137 = some (.ifCond .eq (5), 3, 142, 0, 0) := by decide +kernel
theorem i_230_140 : a_ins 230 140 = some (.iload_n 3, 1, 0, 0, 0) := by decide +kernel
theorem i_230_141 : a_ins 230 141 = some (.ireturn, 1, 0, 0, 0) := by decide +kernel
theorem i_230_142 : a_ins 230 142 = some (.iinc 3 (1), 3, 0, 0, 1) := by decide +kernel
theorem i_230_145 : a_ins 230 145 = some (.goto (-141), 3, 4, 0, 0) := by decide +kernel
theorem i_230_148 : a_ins 230 148 = some (.iconst (-1), 1, 0, 0, -1) := by decide +kernel
theorem i_230_149 : a_ins 230 149 = some (.ireturn, 1, 0, 0, 0) := by decide +kernel
theorem i_231_0 : a_ins 231 0 = some (.aload_n 0, 1, 0, 0, 0) := by decide +kernel
theorem i_231_1 : a_ins 231 1 = some (.getfield 13, 3, 8, 1, 0) := by decide +kernel
theorem i_231_4 : a_ins 231 4 = some (.iconst (2), 1, 0, 0, 2) := by decide +kernel
theorem i_231_5 : a_ins 231 5 = some (.iload_n 1, 1, 0, 0, 0) := by decide +kernel
theorem i_231_6 : a_ins 231 6 = some (.iconst (4), 1, 0, 0, 4) := by decide +kernel
theorem i_231_7 : a_ins 231 7 = some (.irem, 1, 0, 0, 0) := by decide +kernel
theorem i_231_8 : a_ins 231 8 = some (.iastore, 1, 0, 0, 0) := by decide +kernel
theorem i_231_9 : a_ins 231 9 = some (.iload_n 1, 1, 0, 0, 0) := by decide +kernel
theorem i_231_10 : a_ins 231 10 = some (.iconst (4), 1, 0, 0, 4) := by decide +kernel
theorem i_231_11 : a_ins 231 11 = some (.idiv, 1, 0, 0, 0) := by decide +kernel
theorem i_231_12 : a_ins 231 12 = some (.iconst (4), 1, 0, 0, 4) := by decide +kernel
theorem i_231_13 : a_ins 231 13 = some (.irem, 1, 0, 0, 0) := by decide +kernel
theorem i_231_14 : a_ins 231 14 = some (.iconst (2), 1, 0, 0, 2) := by decide +kernel
theorem i_231_15 : a_ins 231 15 = some (.imul, 1, 0, 0, 0) := by decide +kernel
theorem i_231_16 : a_ins 231 16 = some (.istore_n 2, 1, 0, 0, 0) := by decide +kernel
theorem i_231_17 : a_ins 231 17 = some (.iload_n 1, 1, 0, 0, 0) := by decide +kernel
theorem i_231_18 : a_ins 231 18 = some (.bipush (16), 2, 0, 0, 16) := by decide +kernel
theorem i_231_20 : a_ins 231 20 = some (.idiv, 1, 0, 0, 0) := by decide +kernel
theorem i_231_21 : a_ins 231 21 = some (.bipush (8), 2, 0, 0, 8) := by decide +kernel
theorem i_231_23 : a_ins 231 23 = some (.irem, 1, 0, 0, 0) := by decide +kernel
theorem i_231_24 : a_ins 231 24 = some (.istore_n 3, 1, 0, 0, 0) := by decide +kernel
theorem i_231_25 : a_ins 231 25 = some (.iload_n 1, 1, 0, 0, 0) := by decide +kernel
theorem i_231_26 : a_ins 231 26 = some (.sipush (128), 3, 0, 0, 128) := by decide +kernel
theorem i_231_29 : a_ins 231 29 = some (.idiv, 1, 0, 0, 0) := by decide +kernel
theorem i_231_30 : a_ins 231 30 = some (.istore 4, 2, 0, 0, 0) := by decide +kernel
theorem i_231_32 : a_ins 231 32 = some (.iconst (0), 1, 0, 0, 0) := by decide +kernel
theorem i_231_33 : a_ins 231 33 = some (.istore 5, 2, 0, 0, 0) := by decide +kernel
theorem i_231_35 : a_ins 231 35 = some (.iload 5, 2, 0, 0, 0) := by decide +kernel
theorem i_231_37 : a_ins 231 37 = some (.aload_n 0, 1, 0, 0, 0) := by decide +kernel
theorem i_231_38 : a_ins 231 38 = some (.getfield 13, 3, 8, 1, 0) := by decide +kernel
theorem i_231_41 : a_ins 231 41 = some (.iconst (0), 1, 0, 0, 0) := by decide +kernel
theorem i_231_42 : a_ins 231 42 = some (.iaload, 1, 0, 0, 0) := by decide +kernel
theorem i_231_43 : a_ins 231 43 = some (.if_icmp .ge (70), 3, 113, 0, 0) := by decide +kernel
theorem i_231_46 : a_ins 231 46 = some (.aload_n 0, 1, 0, 0, 0) := by decide +kernel
theorem i_231_47 : a_ins 231 47 = some (.iload 5, 2, 0, 0, 0) := by decide +kernel
theorem i_231_49 : a_ins 231 49 = some (.iconst (0), 1, 0, 0, 0) := by decide +kernel
theorem i_231_50 : a_ins 231 50 = some (.iload 4, 2, 0, 0, 0) := by decide +kernel
theorem i_231_52 : a_ins 231 52 = some (.bipush (6), 2, 0, 0, 6) := by decide +kernel
theorem i_231_54 : a_ins 231 54 = some (.irem, 1, 0, 0, 0) := by decide +kernel
theorem i_231_55 : a_ins 231 55 = some (.invokevirtual 64, 3, 145, 4, 0) := by decide +kernel
theorem i_231_58 : a_ins 231 58 = some (.aload_n 0, 1, 0, 0, 0) := by decide +kernel
theorem i_231_59 : a_ins 231 59 = some (.iload 5, 2, 0, 0, 0) := by decide +kernel
theorem i_231_61 : a_ins 231 61 = some (.iconst (1), 1, 0, 0, 1) := by decide +kernel
theorem i_231_62 : a_ins 231 62 = some (.iload_n 3, 1, 0, 0, 0) := by decide +kernel
theorem i_231_63 : a_ins 231 63 = some (.iload 5, 2, 0, 0, 0) := by decide +kernel
theorem i_231_65 : a_ins 231 65 = some (.invokestatic 79, 3, 161, 2, 0) := by decide +kernel
theorem i_231_68 : a_ins 231 68 = some (.ifCond .eq (7), 3, 75, 0, 0) := by decide +kernel
theorem i_231_71 : a_ins 231 71 = some (.iconst (1), 1, 0, 0, 1) := by decide +kernel
theorem i_231_72 : a_ins 231 72 = some (.goto (4), 3, 76, 0, 0) := by decide +kernel
theorem i_231_75 : a_ins 231 75 = some (.iconst (0), 1, 0, 0, 0) := by decide +kernel
theorem i_231_76 : a_ins 231 76 = some (.invokevirtual 64, 3, 145, 4, 0) := by decide +kernel
theorem i_231_79 : a_ins 231 79 = some (.aload_n 0, 1, 0, 0, 0) := by decide +kernel
theorem i_231_80 : a_ins 231 80 = some (.iload 5, 2, 0, 0, 0) := by decide +kernel
theorem i_231_82 : a_ins 231 82 = some (.iconst (2), 1, 0, 0, 2) := by decide +kernel
theorem i_231_83 : a_ins 231 83 = some (.iload_n 2, 1, 0, 0, 0) := by decide +kernel
theorem i_231_84 : a_ins 231 84 = some (.iload 5, 2, 0, 0, 0) := by decide +kernel
theorem i_231_86 : a_ins 231 86 = some (.invokestatic 79, 3, 161, 2, 0) := by decide +kernel
theorem i_231_89 : a_ins 231 89 = some (.ifCond .eq (7), 3, 96, 0, 0) := by decide +kernel
theorem i_231_92 : a_ins 231 92 = some (.iconst (1), 1, 0, 0, 1) := by decide +kernel
theorem i_231_93 : a_ins 231 93 = some (.goto (4), 3, 97, 0, 0) := by decide +kernel
theorem i_231_96 : a_ins 231 96 = some (.iconst (0), 1, 0, 0, 0) := by decide +kernel
theorem i_231_97 : a_ins 231 97 = some (.invokevirtual 64, 3, 145, 4, 0) := by decide +kernel
theorem i_231_100 : a_ins 231 100 = some (.iload 4, 2, 0, 0, 0) := by decide +kernel
theorem i_231_102 : a_ins 231 102 = some (.bipush (6), 2, 0, 0, 6) := by decide +kernel
theorem i_231_104 : a_ins 231 104 = some (.idiv, 1, 0, 0, 0) := by decide +kernel
theorem i_231_105 : a_ins 231 105 = some (.istore 4, 2, 0, 0, 0) := by decide +kernel
theorem i_231_107 : a_ins 231 107 = some (.iinc 5 (1), 3, 0, 0, 1) := by decide +kernel
theorem i_231_110 : a_ins 231 110 = some (.goto (-75), 3, 35, 0, 0) := by decide +kernel
theorem i_231_113 : a_ins 231 113 = some (.return_, 1, 0, 0, 0) := by decide +kernel
theorem i_232_0 : a_ins 232 0 = some (.iload_n 1, 1, 0, 0, 0) := by decide +kernel
theorem i_232_1 : a_ins 232 1 = some (.bipush (100), 2, 0, 0, 100) := by decide +kernel
theorem i_232_3 : a_ins 232 3 = some (.idiv, 1, 0, 0, 0) := by decide +kernel
theorem i_232_4 : a_ins 232 4 = some (.istore_n 2, 1, 0, 0, 0) := by decide +kernel
theorem i_232_5 : a_ins 232 5 = some (.iload_n 1, 1, 0, 0, 0) := by decide +kernel
theorem i_232_6 : a_ins 232 6 = some (.bipush (100), 2, 0, 0, 100) := by decide +kernel
theorem i_232_8 : a_ins 232 8 = some (.irem, 1, 0, 0, 0) := by decide +kernel
theorem i_232_9 : a_ins 232 9 = some (.istore_n 3, 1, 0, 0, 0) := by decide +kernel
theorem i_232_10 : a_ins 232 10 = some (.iload_n 2, 1, 0, 0, 0) := by decide +kernel
theorem i_232_11 : a_ins 232 11 = some (.tableswitch (78) (1) (5) #[33, 41, 49, 57, 63], 33, 0, 0, 0) := by decide +kernel
theorem i_232_44 : a_ins 232 44 = some (.aload_n 0, 1, 0, 0, 0) := by decide +kernel
theorem i_232_45 : a_ins 232 45 = some (.iload_n 3, 1, 0, 0, 0) := by decide +kernel
theorem i_232_46 : a_ins 232 46 = some (.iconst (1), 1, 0, 0, 1) := by decide +kernel
theorem i_232_47 : a_ins 232 47 = some (.isub, 1, 0, 0, 0) := by decide +kernel
theorem i_232_48 : a_ins 232 48 = some (.invokevirtual 199, 3, 164, 2, 0) := by decide +kernel
theorem i_232_51 : a_ins 232 51 = some (.ireturn, 1, 0, 0, 0) := by decide +kernel
theorem i_232_52 : a_ins 232 52 = some (.aload_n 0, 1, 0, 0, 0) := by decide +kernel
theorem i_232_53 : a_ins 232 53 = some (.iload_n 3, 1, 0, 0, 0) := by decide +kernel
theorem i_232_54 : a_ins 232 54 = some (.iconst (1), 1, 0, 0, 1) := by decide +kernel
theorem i_232_55 : a_ins 232 55 = some (.isub, 1, 0, 0, 0) := by decide +kernel
theorem i_232_56 : a_ins 232 56 = some (.invokevirtual 202, 3, 176, 2, 0) := by decide +kernel
theorem i_232_59 : a_ins 232 59 = some (.ireturn, 1, 0, 0, 0) := by decide +kernel
theorem i_232_60 : a_ins 232 60 = some (.aload_n 0, 1, 0, 0, 0) := by decide +kernel
theorem i_232_61 : a_ins 232 61 = some (.iload_n 3, 1, 0, 0, 0) := by decide +kernel
theorem i_232_62 : a_ins 232 62 = some (.iconst (1), 1, 0, 0, 1) := by decide +kernel
theorem i_232_63 : a_ins 232 63 = some (.isub, 1, 0, 0, 0) := by decide +kernel
theorem i_232_64 : a_ins 232 64 = some (.invokevirtual 205, 3, 178, 2, 0) := by decide +kernel
theorem i_232_67 : a_ins 232 67 = some (.ireturn, 1, 0, 0, 0) := by decide +kernel
theorem i_232_68 : a_ins 232 68 = some (.aload_n 0, 1, 0, 0, 0) := by decide +kernel
theorem i_232_69 : a_ins 232 69 = some (.iload_n 3, 1, 0, 0, 0) := by decide +kernel
theorem i_232_70 : a_ins 232 70 = some (.invokevirtual 208, 3, 181, 2, 0) := by decide +kernel
theorem i_232_73 : a_ins 232 73 = some (.ireturn, 1, 0, 0, 0) := by decide +kernel
theorem i_232_74 : a_ins 232 74 = some (.aload_n 0, 1, 0, 0, 0) := by decide +kernel
theorem i_232_75 : a_ins 232 75 = some (.iload_n 3, 1, 0, 0, 0) := by decide +kernel
theorem i_232_76 : a_ins 232 76 = some (.bipush (10), 2, 0, 0, 10) := by decide +kernel
theorem i_232_78 : a_ins 232 78 = some (.idiv, 1, 0, 0, 0) := by decide +kernel
theorem i_232_79 : a_ins 232 79 = some (.iload_n 3, 1, 0, 0, 0) := by decide +kernel
theorem i_232_80 : a_ins 232 80 = some (.bipush (10), 2, 0, 0, 10) := by decide +kernel
theorem i_232_82 : a_ins 232 82 = some (.irem, 1, 0, 0, 0) := by decide +kernel
theorem i_232_83 : a_ins 232 83 = some (.iconst (1), 1, 0, 0, 1) := by decide +kernel
theorem i_232_84 : a_ins 232 84 = some (.isub, 1, 0, 0, 0) := by decide +kernel
theorem i_232_85 : a_ins 232 85 = some (.invokevirtual 217, 3, 187, 3, 0) := by decide +kernel
theorem i_232_88 : a_ins 232 88 = some (.ireturn, 1, 0, 0, 0) := by decide +kernel
theorem i_232_89 : a_ins 232 89 = some (.iconst (0), 1, 0, 0, 0) := by decide +kernel
theorem i_232_90 : a_ins 232 90 = some (.istore 4, 2, 0, 0, 0) := by decide +kernel
theorem i_232_92 : a_ins 232 92 = some (.iload 4, 2, 0, 0, 0) := by decide +kernel
theorem i_232_94 : a_ins 232 94 = some (.aload_n 0, 1, 0, 0, 0) := by decide +kernel
theorem i_232_95 : a_ins 232 95 = some (.getfield 13, 3, 8, 1, 0) := by decide +kernel
theorem i_232_98 : a_ins 232 98 = some (.iconst (0), 1, 0, 0, 0) := by decide +kernel
theorem i_232_99 : a_ins 232 99 = some (.iaload, 1, 0, 0, 0) := by decide +kernel
theorem i_232_100 : a_ins 232 100 = some (.if_icmp .ge (30), 3, 130, 0, 0) := by decide +kernel
theorem i_232_103 : a_ins 232 103 = some (.aload_n 0, 1, 0, 0, 0) := by decide +kernel
theorem i_232_104 : a_ins 232 104 = some (.iload 4, 2, 0, 0, 0) := by decide +kernel
theorem i_232_106 : a_ins 232 106 = some (.iconst (2), 1, 0, 0, 2) := by decide +kernel
theorem i_232_107 : a_ins 232 107 = some (.iload_n 3, 1, 0, 0, 0) := by decide +kernel
theorem i_232_108 : a_ins 232 108 = some (.iload 4, 2, 0, 0, 0) := by decide +kernel
theorem i_232_110 : a_ins 232 110 = some (.invokestatic 79, 3, 161, 2, 0) := by decide +kernel
theorem i_232_113 : a_ins 232 113 = some (.ifCond .eq (7), 3, 120, 0, 0) := by decide +kernel
theorem i_232_116 : a_ins 232 116 = some (.iconst (1), 1, 0, 0, 1) := by decide +kernel
theorem i_232_117 : a_ins 232 117 = some (.goto (4), 3, 121, 0, 0) := by decide +kernel
theorem i_232_120 : a_ins 232 120 = some (.iconst (0), 1, 0, 0, 0) := by decide +kernel
theorem i_232_121 : a_ins 232 121 = some (.invokevirtual 64, 3, 145, 4, 0) := by decide +kernel
theorem i_232_124 : a_ins 232 124 = some (.iinc 4 (1), 3, 0, 0, 1) := by decide +kernel
theorem i_232_127 : a_ins 232 127 = some (.goto (-35), 3, 92, 0, 0) := by decide +kernel
theorem i_232_130 : a_ins 232 130 = some (.iconst (0), 1, 0, 0, 0) := by decide +kernel
theorem i_232_131 : a_ins 232 131 = some (.ireturn, 1, 0, 0, 0) := by decide +kernel
theorem i_233_0 : a_ins 233 0 = some (.iconst (0), 1, 0, 0, 0) := by decide +kernel
theorem i_233_1 : a_ins 233 1 = some (.istore_n 1, 1, 0, 0, 0) := by decide +kernel
theorem i_233_2 : a_ins 233 2 = some (.iconst (0), 1, 0, 0, 0) := by decide +kernel
theorem i_233_3 : a_ins 233 3 = some (.istore_n 2, 1, 0, 0, 0) := by decide +kernel
theorem i_233_4 : a_ins 233 4 = some (.iload_n 0, 1, 0, 0, 0) := by decide +kernel
theorem i_233_5 : a_ins 233 5 = some (.bipush (8), 2, 0, 0, 8) := by decide +kernel
theorem i_233_7 : a_ins 233 7 = some (.idiv, 1, 0, 0, 0) := by decide +kernel
theorem i_233_8 : a_ins 233 8 = some (.istore_n 3, 1, 0, 0, 0) := by decide +kernel
theorem i_233_9 : a_ins 233 9 = some (.iconst (0), 1, 0, 0, 0) := by decide +kernel
theorem i_233_10 : a_ins 233 10 = some (.istore 4, 2, 0, 0, 0) := by decide +kernel
theorem i_233_12 : a_ins 233 12 = some (.iload 4, 2, 0, 0, 0) := by decide +kernel
theorem i_233_14 : a_ins 233 14 = some (.iconst (3), 1, 0, 0, 3) := by decide +kernel
theorem i_233_15 : a_ins 233 15 = some (.if_icmp .ge (46), 3, 61, 0, 0) := by decide +kernel
theorem i_233_18 : a_ins 233 18 = some (.iload_n 1, 1, 0, 0, 0) := by decide +kernel
theorem i_233_19 : a_ins 233 19 = some (.iload_n 3, 1, 0, 0, 0) := by decide +kernel
theorem i_233_20 : a_ins 233 20 = some (.bipush (6), 2, 0, 0, 6) := by decide +kernel
theorem i_233_22 : a_ins 233 22 = some (.irem, 1, 0, 0, 0) := by decide +kernel
theorem i_233_23 : a_ins 233 23 = some (.iconst (4), 1, 0, 0, 4) := by decide +kernel
theorem i_233_24 : a_ins 233 24 = some (.if_icmp .ne (7), 3, 31, 0, 0) := by decide +kernel
theorem i_233_27 : a_ins 233 27 = some (.iconst (1), 1, 0, 0, 1) := by decide +kernel
theorem i_233_28 : a_ins 233 28 = some (.goto (4), 3, 32, 0, 0) := by decide +kernel
theorem i_233_31 : a_ins 233 31 = some (.iconst (0), 1, 0, 0, 0) := by decide +kernel
theorem i_233_32 : a_ins 233 32 = some (.ior, 1, 0, 0, 0) := by decide +kernel
theorem i_233_33 : a_ins 233 33 = some (.istore_n 1, 1, 0, 0, 0) := by decide +kernel
theorem i_233_34 : a_ins 233 34 = some (.iload_n 2, 1, 0, 0, 0) := by decide +kernel
theorem i_233_35 : a_ins 233 35 = some (.iload_n 3, 1, 0, 0, 0) := by decide +kernel
theorem i_233_36 : a_ins 233 36 = some (.bipush (6), 2, 0, 0, 6) := by decide +kernel
theorem i_233_38 : a_ins 233 38 = some (.irem, 1, 0, 0, 0) := by decide +kernel
theorem i_233_39 : a_ins 233 39 = some (.iconst (5), 1, 0, 0, 5) := by decide +kernel
theorem i_233_40 : a_ins 233 40 = some (.if_icmp .ne (7), 3, 47, 0, 0) := by decide +kernel
theorem i_233_43 : a_ins 233 43 = some (.iconst (1), 1, 0, 0, 1) := by decide +kernel
theorem i_233_44 : a_ins 233 44 = some (.goto (4), 3, 48, 0, 0) := by decide +kernel
theorem i_233_47 : a_ins 233 47 = some (.iconst (0), 1, 0, 0, 0) := by decide +kernel
theorem i_233_48 : a_ins 233 48 = some (.ior, 1, 0, 0, 0) := by decide +kernel
theorem i_233_49 : a_ins 233 49 = some (.istore_n 2, 1, 0, 0, 0) := by decide +kernel
theorem i_233_50 : a_ins 233 50 = some (.iload_n 3, 1, 0, 0, 0) := by decide +kernel
theorem i_233_51 : a_ins 233 51 = some (.bipush (6), 2, 0, 0, 6) := by decide +kernel
theorem i_233_53 : a_ins 233 53 = some (.idiv, 1, 0, 0, 0) := by decide +kernel
theorem i_233_54 : a_ins 233 54 = some (.istore_n 3, 1, 0, 0, 0) := by decide +kernel
theorem i_233_55 : a_ins 233 55 = some (.iinc 4 (1), 3, 0, 0, 1) := by decide +kernel
theorem i_233_58 : a_ins 233 58 = some (.goto (-46), 3, 12, 0, 0) := by decide +kernel
theorem i_233_61 : a_ins 233 61 = some (.iload_n 1, 1, 0, 0, 0) := by decide +kernel
theorem i_233_62 : a_ins 233 62 = some (.ifCond .eq (11), 3, 73, 0, 0) := by decide +kernel
theorem i_233_65 : a_ins 233 65 = some (.iload_n 2, 1, 0, 0, 0) := by decide +kernel
theorem i_233_66 : a_ins 233 66 = some (.ifCond .eq (7), 3, 73, 0, 0) := by decide +kernel
theorem i_233_69 : a_ins 233 69 = some (.iconst (1), 1, 0, 0, 1) := by decide +kernel
theorem i_233_70 : a_ins 233 70 = some (.goto (4), 3, 74, 0, 0) := by decide +kernel
theorem i_233_73 : a_ins 233 73 = some (.iconst (0), 1, 0, 0, 0) := by decide +kernel
theorem i_233_74 : a_ins 233 74 = some (.ireturn, 1, 0, 0, 0) := by decide +kernel
theorem i_234_0 : a_ins 234 0 = some (.aload_n 0, 1, 0, 0, 0) := by decide +kernel
theorem i_234_1 : a_ins 234 1 = some (.iconst (0), 1, 0, 0, 0) := by decide +kernel
theorem i_234_2 : a_ins 234 2 = some (.putfield 1, 3, 8, 0, 0) := by decide +kernel
theorem i_234_5 : a_ins 234 5 = some (.iload_n 1, 1, 0, 0, 0) := by decide +kernel
theorem i_234_6 : a_ins 234 6 = some (.i2l, 1, 0, 0, 0) := by decide +kernel
theorem i_234_7 : a_ins 234 7 = some (.lconst 0, 1, 0, 0, 0) := by decide +kernel
theorem i_234_8 : a_ins 234 8 = some (.ldc2_w 180, 3, 0, 0, 5) := by decide +kernel
theorem i_234_11 : a_ins 234 11 = some (.invokestatic 68, 3, 147, 3, 0) := by decide +kernel
theorem i_234_14 : a_ins 234 14 = some (.ifCond .ne (6), 3, 20, 0, 0) := by decide +kernel
theorem i_234_17 : a_ins 234 17 = some (.bipush (-2), 2, 0, 0, -2) := by decide +kernel
theorem i_234_19 : a_ins 234 19 = some (.ireturn, 1, 0, 0, 0) := by decide +kernel
theorem i_234_20 : a_ins 234 20 = some (.iload_n 2, 1, 0, 0, 0) := by decide +kernel
theorem i_234_21 : a_ins 234 21 = some (.i2l, 1, 0, 0, 0) := by decide +kernel
theorem i_234_22 : a_ins 234 22 = some (.lconst 0, 1, 0, 0, 0) := by decide +kernel
theorem i_234_23 : a_ins 234 23 = some (.lconst 1, 1, 0, 0, 1) := by decide +kernel
theorem i_234_24 : a_ins 234 24 = some (.invokestatic 68, 3, 147, 3, 0) := by decide +kernel
theorem i_234_27 : a_ins 234 27 = some (.ifCond .ne (6), 3, 33, 0, 0) := by decide +kernel
theorem i_234_30 : a_ins 234 30 = some (.bipush (-3), 2, 0, 0, -3) := by decide +kernel
theorem i_234_32 : a_ins 234 32 = some (.ireturn, 1, 0, 0, 0) := by decide +kernel
theorem i_234_33 : a_ins 234 33 = some (.aload_n 0, 1, 0, 0, 0) := by decide +kernel
theorem i_234_34 : a_ins 234 34 = some (.getfield 13, 3, 8, 1, 0) := by decide +kernel
theorem i_234_37 : a_ins 234 37 = some (.iconst (0), 1, 0, 0, 0) := by decide +kernel
theorem i_234_38 : a_ins 234 38 = some (.iaload, 1, 0, 0, 0) := by decide +kernel
theorem i_234_39 : a_ins 234 39 = some (.iconst (3), 1, 0, 0, 3) := by decide +kernel
theorem i_234_40 : a_ins 234 40 = some (.if_icmp .le (6), 3, 46, 0, 0) := by decide +kernel
theorem i_234_43 : a_ins 234 43 = some (.bipush (-5), 2, 0, 0, -5) := by decide +kernel
theorem i_234_45 : a_ins 234 45 = some (.ireturn, 1, 0, 0, 0) := by decide +kernel
theorem i_234_46 : a_ins 234 46 = some (.aload_n 0, 1, 0, 0, 0) := by decide +kernel
theorem i_234_47 : a_ins 234 47 = some (.iload_n 2, 1, 0, 0, 0) := by decide +kernel
theorem i_234_48 : a_ins 234 48 = some (.invokevirtual 290, 3, 226, 2, 0) := by decide +kernel
theorem i_234_51 : a_ins 234 51 = some (.iconst (0), 1, 0, 0, 0) := by decide +kernel
theorem i_234_52 : a_ins 234 52 = some (.istore_n 3, 1, 0, 0, 0) := by decide +kernel
theorem i_234_53 : a_ins 234 53 = some (.iconst (0), 1, 0, 0, 0) := by decide +kernel
theorem i_234_54 : a_ins 234 54 = some (.istore 4, 2, 0, 0, 0) := by decide +kernel
theorem i_234_56 : a_ins 234 56 = some (.iload 4, 2, 0, 0, 0) := by decide +kernel
theorem i_234_58 : a_ins 234 58 = some (.sipush (1728), 3, 0, 0, 1728) := by decide +kernel
theorem i_234_61 : a_ins 234 61 = some (.if_icmp .ge (100), 3, 161, 0, 0) := by decide +kernel
theorem i_234_64 : a_ins 234 64 = some (.aload_n 0, 1, 0, 0, 0) := by decide +kernel
theorem i_234_65 : a_ins 234 65 = some (.getfield 42, 3, 8, 15, 0) := by decide +kernel
theorem i_234_68 : a_ins 234 68 = some (.iload 4, 2, 0, 0, 0) := by decide +kernel
theorem i_234_70 : a_ins 234 70 = some (.iaload, 1, 0, 0, 0) := by decide +kernel
theorem i_234_71 : a_ins 234 71 = some (.iconst (-1), 1, 0, 0, -1) := by decide +kernel
theorem i_234_72 : a_ins 234 72 = some (.if_icmp .ne (6), 3, 78, 0, 0) := by decide +kernel
theorem i_234_75 : a_ins 234 75 = some (.goto (80), 3, 155, 0, 0) := by decide +kernel
theorem i_234_78 : a_ins 234 78 = some (.iload 4, 2, 0, 0, 0) := by decide +kernel
theorem i_234_80 : a_ins 234 80 = some (.bipush (8), 2, 0, 0, 8) := by decide +kernel
theorem i_234_82 : a_ins 234 82 = some (.idiv, 1, 0, 0, 0) := by decide +kernel
theorem i_234_83 : a_ins 234 83 = some (.istore 5, 2, 0, 0, 0) := by decide +kernel
theorem i_234_85 : a_ins 234 85 = some (.iconst (0), 1, 0, 0, 0) := by decide +kernel
theorem i_234_86 : a_ins 234 86 = some (.istore 6, 2, 0, 0, 0) := by decide +kernel
theorem i_234_88 : a_ins 234 88 = some (.iload 6, 2, 0, 0, 0) := by decide +kernel
theorem i_234_90 : a_ins 234 90 = some (.aload_n 0, 1, 0, 0, 0) := by decide +kernel
theorem i_234_91 : a_ins 234 91 = some (.getfield 13, 3, 8, 1, 0) := by decide +kernel
theorem i_234_94 : a_ins 234 94 = some (.iconst (0), 1, 0, 0, 0) := by decide +kernel
theorem i_234_95 : a_ins 234 95 = some (.iaload, 1, 0, 0, 0) := by decide +kernel
theorem i_234_96 : a_ins 234 96 = some (.if_icmp .ge (59), 3, 155, 0, 0) := by decide +kernel
theorem i_234_99 : a_ins 234 99 = some (.iconst (0), 1, 0, 0, 0) := by decide +kernel
theorem i_234_100 : a_ins 234 100 = some (.istore 7, 2, 0, 0, 0) := by decide +kernel
theorem i_234_102 : a_ins 234 102 = some (.iload 7, 2, 0, 0, 0) := by decide +kernel
theorem i_234_104 : a_ins 234 104 = some (.aload_n 0, 1, 0, 0, 0) := by decide +kernel
theorem i_234_105 : a_ins 234 105 = some (.getfield 13, 3, 8, 1, 0) := by decide +kernel
theorem i_234_108 : a_ins 234 108 = some (.iconst (0), 1, 0, 0, 0) := by decide +kernel
theorem i_234_109 : a_ins 234 109 = some (.iaload, 1, 0, 0, 0) := by decide +kernel
theorem i_234_110 : a_ins 234 110 = some (.if_icmp .ge (39), 3, 149, 0, 0) := by decide +kernel
theorem i_234_113 : a_ins 234 113 = some (.iload 6, 2, 0, 0, 0) := by decide +kernel
theorem i_234_115 : a_ins 234 115 = some (.iload 7, 2, 0, 0, 0) := by decide +kernel
theorem i_234_117 : a_ins 234 117 = some (.if_icmp .eq (26), 3, 143, 0, 0) := by decide +kernel
theorem i_234_120 : a_ins 234 120 = some (.iload 5, 2, 0, 0, 0) := by decide +kernel
theorem i_234_122 : a_ins 234 122 = some (.iload 6, 2, 0, 0, 0) := by decide +kernel
theorem i_234_124 : a_ins 234 124 = some (.invokestatic 296, 3, 235, 2, 0) := by decide +kernel
theorem i_234_127 : a_ins 234 127 = some (.iload_n 1, 1, 0, 0, 0) := by decide +kernel
theorem i_234_128 : a_ins 234 128 = some (.if_icmp .ne (15), 3, 143, 0, 0) := by decide +kernel
theorem i_234_131 : a_ins 234 131 = some (.iload_n 3, 1, 0, 0, 0) := by decide +kernel
theorem i_234_132 : a_ins 234 132 = some (.iconst (1), 1, 0, 0, 1) := by decide +kernel
theorem i_234_133 : a_ins 234 133 = some (.iload 5, 2, 0, 0, 0) := by decide +kernel
theorem i_234_135 : a_ins 234 135 = some (.iload 7, 2, 0, 0, 0) := by decide +kernel
theorem i_234_137 : a_ins 234 137 = some (.invokestatic 296, 3, 235, 2, 0) := by decide +kernel
theorem i_234_140 : a_ins 234 140 = some (.ishl, 1, 0, 0, 0) := by decide +kernel
theorem i_234_141 : a_ins 234 141 = some (.ior, 1, 0, 0, 0) := by decide +kernel
theorem i_234_142 : a_ins 234 142 = some (.istore_n 3, 1, 0, 0, 0) := by decide +kernel
theorem i_234_143 : a_ins 234 143 = some (.iinc 7 (1), 3, 0, 0, 1) := by decide +kernel
theorem i_234_146 : a_ins 234 146 = some (.goto (-44), 3, 102, 0, 0) := by decide +kernel
theorem i_234_149 : a_ins 234 149 = some (.iinc 6 (1), 3, 0, 0, 1) := by decide +kernel
theorem i_234_152 : a_ins 234 152 = some (.goto (-64), 3, 88, 0, 0) := by decide +kernel
theorem i_234_155 : a_ins 234 155 = some (.iinc 4 (1), 3, 0, 0, 1) := by decide +kernel
theorem i_234_158 : a_ins 234 158 = some (.goto (-102), 3, 56, 0, 0) := by decide +kernel
theorem i_234_161 : a_ins 234 161 = some (.iload_n 3, 1, 0, 0, 0) := by decide +kernel
theorem i_234_162 : a_ins 234 162 = some (.ireturn, 1, 0, 0, 0) := by decide +kernel
theorem i_235_0 : a_ins 235 0 = some (.iload_n 1, 1, 0, 0, 0) := by decide +kernel
theorem i_235_1 : a_ins 235 1 = some (.ifCond .ne (10), 3, 11, 0, 0) := by decide +kernel
theorem i_235_4 : a_ins 235 4 = some (.iload_n 0, 1, 0, 0, 0) := by decide +kernel
theorem i_235_5 : a_ins 235 5 = some (.bipush (6), 2, 0, 0, 6) := by decide +kernel
theorem i_235_7 : a_ins 235 7 = some (.irem, 1, 0, 0, 0) := by decide +kernel
theorem i_235_8 : a_ins 235 8 = some (.goto (22), 3, 30, 0, 0) := by decide +kernel
theorem i_235_11 : a_ins 235 11 = some (.iload_n 1, 1, 0, 0, 0) := by decide +kernel
theorem i_235_12 : a_ins 235 12 = some (.iconst (1), 1, 0, 0, 1) := by decide +kernel
theorem i_235_13 : a_ins 235 13 = some (.if_icmp .ne (13), 3, 26, 0, 0) := by decide +kernel
theorem i_235_16 : a_ins 235 16 = some (.iload_n 0, 1, 0, 0, 0) := by decide +kernel
theorem i_235_17 : a_ins 235 17 = some (.bipush (6), 2, 0, 0, 6) := by decide +kernel
theorem i_235_19 : a_ins 235 19 = some (.idiv, 1, 0, 0, 0) := by decide +kernel
theorem i_235_20 : a_ins 235 20 = some (.bipush (6), 2, 0, 0, 6) := by decide +kernel
theorem i_235_22 : a_ins 235 22 = some (.irem, 1, 0, 0, 0) := by decide +kernel
theorem i_235_23 : a_ins 235 23 = some (.goto (7), 3, 30, 0, 0) := by decide +kernel
theorem i_235_26 : a_ins 235 26 = some (.iload_n 0, 1, 0, 0, 0) := by decide +kernel
theorem i_235_27 : a_ins 235 27 = some (.bipush (36), 2, 0, 0, 36) := by decide +kernel
theorem i_235_29 : a_ins 235 29 = some (.idiv, 1, 0, 0, 0) := by decide +kernel
theorem i_235_30 : a_ins 235 30 = some (.ireturn, 1, 0, 0, 0) := by decide +kernel
theorem i_236_0 : a_ins 236 0 = some (.aload_n 0, 1, 0, 0, 0) := by decide +kernel
theorem i_236_1 : a_ins 236 1 = some (.iconst (0), 1, 0, 0, 0) := by decide +kernel
theorem i_236_2 : a_ins 236 2 = some (.putfield 1, 3, 8, 0, 0) := by decide +kernel
theorem i_236_5 : a_ins 236 5 = some (.aload_n 0, 1, 0, 0, 0) := by decide +kernel
theorem i_236_6 : a_ins 236 6 = some (.iload_n 1, 1, 0, 0, 0) := by decide +kernel
theorem i_236_7 : a_ins 236 7 = some (.invokevirtual 299, 3, 237, 2, 0) := by decide +kernel
theorem i_236_10 : a_ins 236 10 = some (.istore 4, 2, 0, 0, 0) := by decide +kernel
theorem i_236_12 : a_ins 236 12 = some (.iload 4, 2, 0, 0, 0) := by decide +kernel
theorem i_236_14 : a_ins 236 14 = some (.iconst (-1), 1, 0, 0, -1) := by decide +kernel
theorem i_236_15 : a_ins 236 15 = some (.if_icmp .eq (27), 3, 42, 0, 0) := by decide +kernel
theorem i_236_18 : a_ins 236 18 = some (.iload_n 2, 1, 0, 0, 0) := by decide +kernel
theorem i_236_19 : a_ins 236 19 = some (.i2l, 1, 0, 0, 0) := by decide +kernel
theorem i_236_20 : a_ins 236 20 = some (.lconst 0, 1, 0, 0, 0) := by decide +kernel
theorem i_236_21 : a_ins 236 21 = some (.aload_n 0, 1, 0, 0, 0) := by decide +kernel
theorem i_236_22 : a_ins 236 22 = some (.invokevirtual 142, 3, 159, 1, 0) := by decide +kernel
theorem i_236_25 : a_ins 236 25 = some (.i2l, 1, 0, 0, 0) := by decide +kernel
theorem i_236_26 : a_ins 236 26 = some (.invokestatic 68, 3, 147, 3, 0) := by decide +kernel
theorem i_236_29 : a_ins 236 29 = some (.ifCond .eq (13), 3, 42, 0, 0) := by decide +kernel
theorem i_236_32 : a_ins 236 32 = some (.iload_n 3, 1, 0, 0, 0) := by decide +kernel
theorem i_236_33 : a_ins 236 33 = some (.i2l, 1, 0, 0, 0) := by decide +kernel
theorem i_236_34 : a_ins 236 34 = some (.lconst 0, 1, 0, 0, 0) := by decide +kernel
theorem i_236_35 : a_ins 236 35 = some (.lconst 1, 1, 0, 0, 1) := by decide +kernel
theorem i_236_36 : a_ins 236 36 = some (.invokestatic 68, 3, 147, 3, 0) := by decide +kernel
theorem i_236_39 : a_ins 236 39 = some (.ifCond .ne (6), 3, 45, 0, 0) := by decide +kernel
theorem i_236_42 : a_ins 236 42 = some (.bipush (-3), 2, 0, 0, -3) := by decide +kernel
theorem i_236_44 : a_ins 236 44 = some (.ireturn, 1, 0, 0, 0) := by decide +kernel
theorem i_236_45 : a_ins 236 45 = some (.aload_n 0, 1, 0, 0, 0) := by decide +kernel
theorem i_236_46 : a_ins 236 46 = some (.getfield 13, 3, 8, 1, 0) := by decide +kernel
theorem i_236_49 : a_ins 236 49 = some (.iconst (0), 1, 0, 0, 0) := by decide +kernel
theorem i_236_50 : a_ins 236 50 = some (.iaload, 1, 0, 0, 0) := by decide +kernel
theorem i_236_51 : a_ins 236 51 = some (.iconst (3), 1, 0, 0, 3) := by decide +kernel
theorem i_236_52 : a_ins 236 52 = some (.if_icmp .le (6), 3, 58, 0, 0) := by decide +kernel
theorem i_236_55 : a_ins 236 55 = some (.bipush (-5), 2, 0, 0, -5) := by decide +kernel
theorem i_236_57 : a_ins 236 57 = some (.ireturn, 1, 0, 0, 0) := by decide +kernel
theorem i_236_58 : a_ins 236 58 = some (.aload_n 0, 1, 0, 0, 0) := by decide +kernel
theorem i_236_59 : a_ins 236 59 = some (.iload_n 3, 1, 0, 0, 0) := by decide +kernel
theorem i_236_60 : a_ins 236 60 = some (.invokevirtual 290, 3, 226, 2, 0) := by decide +kernel
theorem i_236_63 : a_ins 236 63 = some (.aload_n 0, 1, 0, 0, 0) := by decide +kernel
theorem i_236_64 : a_ins 236 64 = some (.getfield 42, 3, 8, 15, 0) := by decide +kernel
theorem i_236_67 : a_ins 236 67 = some (.bipush (8), 2, 0, 0, 8) := by decide +kernel
theorem i_236_69 : a_ins 236 69 = some (.iload 4, 2, 0, 0, 0) := by decide +kernel
theorem i_236_71 : a_ins 236 71 = some (.imul, 1, 0, 0, 0) := by decide +kernel
theorem i_236_72 : a_ins 236 72 = some (.iload_n 2, 1, 0, 0, 0) := by decide +kernel
theorem i_236_73 : a_ins 236 73 = some (.iadd, 1, 0, 0, 0) := by decide +kernel
theorem i_236_74 : a_ins 236 74 = some (.iaload, 1, 0, 0, 0) := by decide +kernel
theorem i_236_75 : a_ins 236 75 = some (.ireturn, 1, 0, 0, 0) := by decide +kernel
theorem i_237_0 : a_ins 237 0 = some (.iload_n 1, 1, 0, 0, 0) := by decide +kernel
theorem i_237_1 : a_ins 237 1 = some (.istore_n 2, 1, 0, 0, 0) := by decide +kernel
theorem i_237_2 : a_ins 237 2 = some (.iconst (0), 1, 0, 0, 0) := by decide +kernel
theorem i_237_3 : a_ins 237 3 = some (.istore_n 3, 1, 0, 0, 0) := by decide +kernel
theorem i_237_4 : a_ins 237 4 = some (.iload_n 2, 1, 0, 0, 0) := by decide +kernel
theorem i_237_5 : a_ins 237 5 = some (.ifCond .ge (5), 3, 10, 0, 0) := by decide +kernel
theorem i_237_8 : a_ins 237 8 = some (.iconst (-1), 1, 0, 0, -1) := by decide +kernel
theorem i_237_9 : a_ins 237 9 = some (.ireturn, 1, 0, 0, 0) := by decide +kernel
theorem i_237_10 : a_ins 237 10 = some (.iconst (0), 1, 0, 0, 0) := by decide +kernel
theorem i_237_11 : a_ins 237 11 = some (.istore 4, 2, 0, 0, 0) := by decide +kernel
theorem i_237_13 : a_ins 237 13 = some (.iload 4, 2, 0, 0, 0) := by decide +kernel
theorem i_237_15 : a_ins 237 15 = some (.aload_n 0, 1, 0, 0, 0) := by decide +kernel
theorem i_237_16 : a_ins 237 16 = some (.getfield 13, 3, 8, 1, 0) := by decide +kernel
theorem i_237_19 : a_ins 237 19 = some (.iconst (0), 1, 0, 0, 0) := by decide +kernel
theorem i_237_20 : a_ins 237 20 = some (.iaload, 1, 0, 0, 0) := by decide +kernel
theorem i_237_21 : a_ins 237 21 = some (.if_icmp .ge (34), 3, 55, 0, 0) := by decide +kernel
theorem i_237_24 : a_ins 237 24 = some (.iload_n 2, 1, 0, 0, 0) := by decide +kernel
theorem i_237_25 : a_ins 237 25 = some (.bipush (10), 2, 0, 0, 10) := by decide +kernel
theorem i_237_27 : a_ins 237 27 = some (.irem, 1, 0, 0, 0) := by decide +kernel
theorem i_237_28 : a_ins 237 28 = some (.iconst (5), 1, 0, 0, 5) := by decide +kernel
theorem i_237_29 : a_ins 237 29 = some (.if_icmp .le (5), 3, 34, 0, 0) := by decide +kernel
theorem i_237_32 : a_ins 237 32 = some (.iconst (-1), 1, 0, 0, -1) := by decide +kernel
theorem i_237_33 : a_ins 237 33 = some (.ireturn, 1, 0, 0, 0) := by decide +kernel
theorem i_237_34 : a_ins 237 34 = some (.bipush (6), 2, 0, 0, 6) := by decide +kernel
theorem i_237_36 : a_ins 237 36 = some (.iload_n 3, 1, 0, 0, 0) := by decide +kernel
theorem i_237_37 : a_ins 237 37 = some (.imul, 1, 0, 0, 0) := by decide +kernel
theorem i_237_38 : a_ins 237 38 = some (.iload_n 2, 1, 0, 0, 0) := by decide +kernel
theorem i_237_39 : a_ins 237 39 = some (.bipush (10), 2, 0, 0, 10) := by decide +kernel
theorem i_237_41 : a_ins 237 41 = some (.irem, 1, 0, 0, 0) := by decide +kernel
theorem i_237_42 : a_ins 237 42 = some (.iadd, 1, 0, 0, 0) := by decide +kernel
theorem i_237_43 : a_ins 237 43 = some (.istore_n 3, 1, 0, 0, 0) := by decide +kernel
theorem i_237_44 : a_ins 237 44 = some (.iload_n 2, 1, 0, 0, 0) := by decide +kernel
theorem i_237_45 : a_ins 237 45 = some (.bipush (10), 2, 0, 0, 10) := by decide +kernel
theorem i_237_47 : a_ins 237 47 = some (.idiv, 1, 0, 0, 0) := by decide +kernel
theorem i_237_48 : a_ins 237 48 = some (.istore_n 2, 1, 0, 0, 0) := by decide +kernel
theorem i_237_49 : a_ins 237 49 = some (.iinc 4 (1), 3, 0, 0, 1) := by decide +kernel
theorem i_237_52 : a_ins 237 52 = some (.goto (-39), 3, 13, 0, 0) := by decide +kernel
theorem i_237_55 : a_ins 237 55 = some (.iload_n 2, 1, 0, 0, 0) := by decide +kernel
theorem i_237_56 : a_ins 237 56 = some (.ifCond .le (7), 3, 63, 0, 0) := by decide +kernel
theorem i_237_59 : a_ins 237 59 = some (.iconst (-1), 1, 0, 0, -1) := by decide +kernel
theorem i_237_60 : a_ins 237 60 = some (.goto (4), 3, 64, 0, 0) := by decide +kernel
theorem i_237_63 : a_ins 237 63 = some (.iload_n 3, 1, 0, 0, 0) := by decide +kernel
theorem i_237_64 : a_ins 237 64 = some (.ireturn, 1, 0, 0, 0) := by decide +kernel
theorem i_238_0 : a_ins 238 0 = some (.aload_n 0, 1, 0, 0, 0) := by decide +kernel
theorem i_238_1 : a_ins 238 1 = some (.iconst (0), 1, 0, 0, 0) := by decide +kernel
theorem i_238_2 : a_ins 238 2 = some (.putfield 1, 3, 8, 0, 0) := by decide +kernel
theorem i_238_5 : a_ins 238 5 = some (.iload_n 1, 1, 0, 0, 0) := by decide +kernel
theorem i_238_6 : a_ins 238 6 = some (.i2l, 1, 0, 0, 0) := by decide +kernel
theorem i_238_7 : a_ins 238 7 = some (.lconst 0, 1, 0, 0, 0) := by decide +kernel
theorem i_238_8 : a_ins 238 8 = some (.lconst 1, 1, 0, 0, 1) := by decide +kernel
theorem i_238_9 : a_ins 238 9 = some (.invokestatic 68, 3, 147, 3, 0) := by decide +kernel
theorem i_238_12 : a_ins 238 12 = some (.ifCond .eq (7), 3, 19, 0, 0) := by decide +kernel
theorem i_238_15 : a_ins 238 15 = some (.iload_n 2, 1, 0, 0, 0) := by decide +kernel
theorem i_238_16 : a_ins 238 16 = some (.ifCond .ge (6), 3, 22, 0, 0) := by decide +kernel
theorem i_238_19 : a_ins 238 19 = some (.bipush (-3), 2, 0, 0, -3) := by decide +kernel
theorem i_238_21 : a_ins 238 21 = some (.ireturn, 1, 0, 0, 0) := by decide +kernel
theorem i_238_22 : a_ins 238 22 = some (.aload_n 0, 1, 0, 0, 0) := by decide +kernel
theorem i_238_23 : a_ins 238 23 = some (.getfield 13, 3, 8, 1, 0) := by decide +kernel
theorem i_238_26 : a_ins 238 26 = some (.iconst (0), 1, 0, 0, 0) := by decide +kernel
theorem i_238_27 : a_ins 238 27 = some (.iaload, 1, 0, 0, 0) := by decide +kernel
theorem i_238_28 : a_ins 238 28 = some (.iconst (3), 1, 0, 0, 3) := by decide +kernel
theorem i_238_29 : a_ins 238 29 = some (.if_icmp .le (6), 3, 35, 0, 0) := by decide +kernel
theorem i_238_32 : a_ins 238 32 = some (.bipush (-5), 2, 0, 0, -5) := by decide +kernel
theorem i_238_34 : a_ins 238 34 = some (.ireturn, 1, 0, 0, 0) := by decide +kernel
theorem i_238_35 : a_ins 238 35 = some (.aload_n 0, 1, 0, 0, 0) := by decide +kernel
theorem i_238_36 : a_ins 238 36 = some (.iload_n 1, 1, 0, 0, 0) := by decide +kernel
theorem i_238_37 : a_ins 238 37 = some (.invokevirtual 290, 3, 226, 2, 0) := by decide +kernel
theorem i_238_40 : a_ins 238 40 = some (.iconst (0), 1, 0, 0, 0) := by decide +kernel
theorem i_238_41 : a_ins 238 41 = some (.istore_n 3, 1, 0, 0, 0) := by decide +kernel
theorem i_238_42 : a_ins 238 42 = some (.iload_n 3, 1, 0, 0, 0) := by decide +kernel
theorem i_238_43 : a_ins 238 43 = some (.aload_n 0, 1, 0, 0, 0) := by decide +kernel
theorem i_238_44 : a_ins 238 44 = some (.getfield 269, 3, 8, 16, 0) := by decide +kernel
theorem i_238_47 : a_ins 238 47 = some (.if_icmp .ge (24), 3, 71, 0, 0) := by decide +kernel
theorem i_238_50 : a_ins 238 50 = some (.aload_n 0, 1, 0, 0, 0) := by decide +kernel
theorem i_238_51 : a_ins 238 51 = some (.getfield 39, 3, 8, 14, 0) := by decide +kernel
theorem i_238_54 : a_ins 238 54 = some (.iload_n 3, 1, 0, 0, 0) := by decide +kernel
theorem i_238_55 : a_ins 238 55 = some (.iaload, 1, 0, 0, 0) := by decide +kernel
theorem i_238_56 : a_ins 238 56 = some (.invokestatic 278, 3, 229, 1, 0) := by decide +kernel
theorem i_238_59 : a_ins 238 59 = some (.invokestatic 293, 3, 233, 1, 0) := by decide +kernel
theorem i_238_62 : a_ins 238 62 = some (.ifCond .ne (9), 3, 71, 0, 0) := by decide +kernel
theorem i_238_65 : a_ins 238 65 = some (.iinc 3 (1), 3, 0, 0, 1) := by decide +kernel
theorem i_238_68 : a_ins 238 68 = some (.goto (-26), 3, 42, 0, 0) := by decide +kernel
theorem i_238_71 : a_ins 238 71 = some (.iload_n 3, 1, 0, 0, 0) := by decide +kernel
theorem i_238_72 : a_ins 238 72 = some (.aload_n 0, 1, 0, 0, 0) := by decide +kernel
theorem i_238_73 : a_ins 238 73 = some (.getfield 269, 3, 8, 16, 0) := by decide +kernel
theorem i_238_76 : a_ins 238 76 = some (.if_icmp .eq (18), 3, 94, 0, 0) := by decide +kernel
theorem i_238_79 : a_ins 238 79 = some (.iload_n 2, 1, 0, 0, 0) := by decide +kernel
theorem i_238_80 : a_ins 238 80 = some (.aload_n 0, 1, 0, 0, 0) := by decide +kernel
theorem i_238_81 : a_ins 238 81 = some (.getfield 30, 3, 8, 11, 0) := by decide +kernel
theorem i_238_84 : a_ins 238 84 = some (.aload_n 0, 1, 0, 0, 0) := by decide +kernel
theorem i_238_85 : a_ins 238 85 = some (.getfield 39, 3, 8, 14, 0) := by decide +kernel
theorem i_238_88 : a_ins 238 88 = some (.iload_n 3, 1, 0, 0, 0) := by decide +kernel
theorem i_238_89 : a_ins 238 89 = some (.iaload, 1, 0, 0, 0) := by decide +kernel
theorem i_238_90 : a_ins 238 90 = some (.iaload, 1, 0, 0, 0) := by decide +kernel
theorem i_238_91 : a_ins 238 91 = some (.if_icmp .lt (5), 3, 96, 0, 0) := by decide +kernel
theorem i_238_94 : a_ins 238 94 = some (.iconst (-1), 1, 0, 0, -1) := by decide +kernel
theorem i_238_95 : a_ins 238 95 = some (.ireturn, 1, 0, 0, 0) := by decide +kernel
theorem i_238_96 : a_ins 238 96 = some (.aload_n 0, 1, 0, 0, 0) := by decide +kernel
theorem i_238_97 : a_ins 238 97 = some (.getfield 39, 3, 8, 14, 0) := by decide +kernel
theorem i_238_100 : a_ins 238 100 = some (.iload_n 3, 1, 0, 0, 0) := by decide +kernel
theorem i_238_101 : a_ins 238 101 = some (.iaload, 1, 0, 0, 0) := by decide +kernel
theorem i_238_102 : a_ins 238 102 = some (.istore 4, 2, 0, 0, 0) := by decide +kernel
theorem i_238_104 : a_ins 238 104 = some (.aload_n 0, 1, 0, 0, 0) := by decide +kernel
theorem i_238_105 : a_ins 238 105 = some (.getfield 30, 3, 8, 11, 0) := by decide +kernel
theorem i_238_108 : a_ins 238 108 = some (.iload 4, 2, 0, 0, 0) := by decide +kernel
theorem i_238_110 : a_ins 238 110 = some (.iaload, 1, 0, 0, 0) := by decide +kernel
theorem i_238_111 : a_ins 238 111 = some (.iload_n 2, 1, 0, 0, 0) := by decide +kernel
theorem i_238_112 : a_ins 238 112 = some (.iconst (1), 1, 0, 0, 1) := by decide +kernel
theorem i_238_113 : a_ins 238 113 = some (.iadd, 1, 0, 0, 0) := by decide +kernel
theorem i_238_114 : a_ins 238 114 = some (.if_icmp .le (15), 3, 129, 0, 0) := by decide +kernel
theorem i_238_117 : a_ins 238 117 = some (.aload_n 0, 1, 0, 0, 0) := by decide +kernel
theorem i_238_118 : a_ins 238 118 = some (.getfield 36, 3, 8, 13, 0) := by decide +kernel
theorem i_238_121 : a_ins 238 121 = some (.iload 4, 2, 0, 0, 0) := by decide +kernel
theorem i_238_123 : a_ins 238 123 = some (.iaload, 1, 0, 0, 0) := by decide +kernel
theorem i_238_124 : a_ins 238 124 = some (.istore 4, 2, 0, 0, 0) := by decide +kernel
theorem i_238_126 : a_ins 238 126 = some (.goto (-22), 3, 104, 0, 0) := by decide +kernel
theorem i_238_129 : a_ins 238 129 = some (.aload_n 0, 1, 0, 0, 0) := by decide +kernel
theorem i_238_130 : a_ins 238 130 = some (.getfield 33, 3, 8, 12, 0) := by decide +kernel
theorem i_238_133 : a_ins 238 133 = some (.iload 4, 2, 0, 0, 0) := by decide +kernel
theorem i_238_135 : a_ins 238 135 = some (.iaload, 1, 0, 0, 0) := by decide +kernel
theorem i_238_136 : a_ins 238 136 = some (.ireturn, 1, 0, 0, 0) := by decide +kernel
theorem i_239_0 : a_ins 239 0 = some (.aload_n 0, 1, 0, 0, 0) := by decide +kernel
theorem i_239_1 : a_ins 239 1 = some (.iconst (0), 1, 0, 0, 0) := by decide +kernel
theorem i_239_2 : a_ins 239 2 = some (.putfield 1, 3, 8, 0, 0) := by decide +kernel
theorem i_239_5 : a_ins 239 5 = some (.aload_n 0, 1, 0, 0, 0) := by decide +kernel
theorem i_239_6 : a_ins 239 6 = some (.getfield 302, 3, 8, 18, 0) := by decide +kernel
theorem i_239_9 : a_ins 239 9 = some (.bipush (20), 2, 0, 0, 20) := by decide +kernel
theorem i_239_11 : a_ins 239 11 = some (.iadd, 1, 0, 0, 0) := by decide +kernel
theorem i_239_12 : a_ins 239 12 = some (.sipush (200), 3, 0, 0, 200) := by decide +kernel
theorem i_239_15 : a_ins 239 15 = some (.if_icmp .le (6), 3, 21, 0, 0) := by decide +kernel
theorem i_239_18 : a_ins 239 18 = some (.bipush (-3), 2, 0, 0, -3) := by decide +kernel
theorem i_239_20 : a_ins 239 20 = some (.ireturn, 1, 0, 0, 0) := by decide +kernel
theorem i_239_21 : a_ins 239 21 = some (.iconst (0), 1, 0, 0, 0) := by decide +kernel
theorem i_239_22 : a_ins 239 22 = some (.istore 6, 2, 0, 0, 0) := by decide +kernel
theorem i_239_24 : a_ins 239 24 = some (.iload 6, 2, 0, 0, 0) := by decide +kernel
theorem i_239_26 : a_ins 239 26 = some (.bipush (20), 2, 0, 0, 20) := by decide +kernel
theorem i_239_28 : a_ins 239 28 = some (.if_icmp .ge (93), 3, 121, 0, 0) := by decide +kernel
theorem i_239_31 : a_ins 239 31 = some (.iload 6, 2, 0, 0, 0) := by decide +kernel
theorem i_239_33 : a_ins 239 33 = some (.iconst (4), 1, 0, 0, 4) := by decide +kernel
theorem i_239_34 : a_ins 239 34 = some (.if_icmp .ge (7), 3, 41, 0, 0) := by decide +kernel
theorem i_239_37 : a_ins 239 37 = some (.iload_n 1, 1, 0, 0, 0) := by decide +kernel
theorem i_239_38 : a_ins 239 38 = some (.goto (39), 3, 77, 0, 0) := by decide +kernel
theorem i_239_41 : a_ins 239 41 = some (.iload 6, 2, 0, 0, 0) := by decide +kernel
theorem i_239_43 : a_ins 239 43 = some (.bipush (8), 2, 0, 0, 8) := by decide +kernel
theorem i_239_45 : a_ins 239 45 = some (.if_icmp .ge (7), 3, 52, 0, 0) := by decide +kernel
theorem i_239_48 : a_ins 239 48 = some (.iload_n 2, 1, 0, 0, 0) := by decide +kernel
theorem i_239_49 : a_ins 239 49 = some (.goto (28), 3, 77, 0, 0) := by decide +kernel
theorem i_239_52 : a_ins 239 52 = some (.iload 6, 2, 0, 0, 0) := by decide +kernel
theorem i_239_54 : a_ins 239 54 = some (.bipush (12), 2, 0, 0, 12) := by decide +kernel
theorem i_239_56 : a_ins 239 56 = some (.if_icmp .ge (7), 3, 63, 0, 0) := by decide +kernel
theorem i_239_59 : a_ins 239 59 = some (.iload_n 3, 1, 0, 0, 0) := by decide +kernel
theorem i_239_60 : a_ins 239 60 = some (.goto (17), 3, 77, 0, 0) := by decide +kernel
theorem i_239_63 : a_ins 239 63 = some (.iload 6, 2, 0, 0, 0) := by decide +kernel
theorem i_239_65 : a_ins 239 65 = some (.bipush (16), 2, 0, 0, 16) := by decide +kernel
theorem i_239_67 : a_ins 239 67 = some (.if_icmp .ge (8), 3, 75, 0, 0) := by decide +kernel
theorem i_239_70 : a_ins 239 70 = some (.iload 4, 2, 0, 0, 0) := by decide +kernel
theorem i_239_72 : a_ins 239 72 = some (.goto (5), 3, 77, 0, 0) := by decide +kernel
theorem i_239_75 : a_ins 239 75 = some (.iload 5, 2, 0, 0, 0) := by decide +kernel
theorem i_239_77 : a_ins 239 77 = some (.istore 7, 2, 0, 0, 0) := by decide +kernel
theorem i_239_79 : a_ins 239 79 = some (.aload_n 0, 1, 0, 0, 0) := by decide +kernel
theorem i_239_80 : a_ins 239 80 = some (.getfield 45, 3, 8, 17, 0) := by decide +kernel
theorem i_239_83 : a_ins 239 83 = some (.aload_n 0, 1, 0, 0, 0) := by decide +kernel
theorem i_239_84 : a_ins 239 84 = some (.getfield 302, 3, 8, 18, 0) := by decide +kernel
theorem i_239_87 : a_ins 239 87 = some (.iload 7, 2, 0, 0, 0) := by decide +kernel
theorem i_239_89 : a_ins 239 89 = some (.bipush (24), 2, 0, 0, 24) := by decide +kernel
theorem i_239_91 : a_ins 239 91 = some (.bipush (8), 2, 0, 0, 8) := by decide +kernel
theorem i_239_93 : a_ins 239 93 = some (.iload 6, 2, 0, 0, 0) := by decide +kernel
theorem i_239_95 : a_ins 239 95 = some (.iconst (4), 1, 0, 0, 4) := by decide +kernel
theorem i_239_96 : a_ins 239 96 = some (.irem, 1, 0, 0, 0) := by decide +kernel
theorem i_239_97 : a_ins 239 97 = some (.imul, 1, 0, 0, 0) := by decide +kernel
theorem i_239_98 : a_ins 239 98 = some (.isub, 1, 0, 0, 0) := by decide +kernel
theorem i_239_99 : a_ins 239 99 = some (.ishr, 1, 0, 0, 0) := by decide +kernel
theorem i_239_100 : a_ins 239 100 = some (.sipush (255), 3, 0, 0, 255) := by decide +kernel
theorem i_239_103 : a_ins 239 103 = some (.iand, 1, 0, 0, 0) := by decide +kernel
theorem i_239_104 : a_ins 239 104 = some (.iastore, 1, 0, 0, 0) := by decide +kernel
theorem i_239_105 : a_ins 239 105 = some (.aload_n 0, 1, 0, 0, 0) := by decide +kernel
theorem i_239_106 : a_ins 239 106 = some (.dup, 1, 0, 0, 0) := by decide +kernel
theorem i_239_107 : a_ins 239 107 = some (.getfield 302, 3, 8, 18, 0) := by decide +kernel
theorem i_239_110 : a_ins 239 110 = some (.iconst (1), 1, 0, 0, 1) := by decide +kernel
theorem i_239_111 : a_ins 239 111 = some (.iadd, 1, 0, 0, 0) := by decide +kernel
theorem i_239_112 : a_ins 239 112 = some (.putfield 302, 3, 8, 18, 0) := by decide +kernel
theorem i_239_115 : a_ins 239 115 = some (.iinc 6 (1), 3, 0, 0, 1) := by decide +kernel
theorem i_239_118 : a_ins 239 118 = some (.goto (-94), 3, 24, 0, 0) := by decide +kernel
theorem i_239_121 : a_ins 239 121 = some (.aload_n 0, 1, 0, 0, 0) := by decide +kernel
theorem i_239_122 : a_ins 239 122 = some (.getfield 302, 3, 8, 18, 0) := by decide +kernel
theorem i_239_125 : a_ins 239 125 = some (.ireturn, 1, 0, 0, 0) := by decide +kernel
theorem i_240_0 : a_ins 240 0 = some (.aload_n 0, 1, 0, 0, 0) := by decide +kernel
theorem i_240_1 : a_ins 240 1 = some (.iconst (0), 1, 0, 0, 0) := by decide +kernel
theorem i_240_2 : a_ins 240 2 = some (.putfield 1, 3, 8, 0, 0) := by decide +kernel
theorem i_240_5 : a_ins 240 5 = some (.iload_n 1, 1, 0, 0, 0) := by decide +kernel
theorem i_240_6 : a_ins 240 6 = some (.i2l, 1, 0, 0, 0) := by decide +kernel
theorem i_240_7 : a_ins 240 7 = some (.lconst 0, 1, 0, 0, 0) := by decide +kernel
theorem i_240_8 : a_ins 240 8 = some (.aload_n 0, 1, 0, 0, 0) := by decide +kernel
theorem i_240_9 : a_ins 240 9 = some (.getfield 302, 3, 8, 18, 0) := by decide +kernel
theorem i_240_12 : a_ins 240 12 = some (.i2l, 1, 0, 0, 0) := by decide +kernel
theorem i_240_13 : a_ins 240 13 = some (.invokestatic 68, 3, 147, 3, 0) := by decide +kernel
theorem i_240_16 : a_ins 240 16 = some (.ifCond .ne (6), 3, 22, 0, 0) := by decide +kernel
theorem i_240_19 : a_ins 240 19 = some (.bipush (-3), 2, 0, 0, -3) := by decide +kernel
theorem i_240_21 : a_ins 240 21 = some (.ireturn, 1, 0, 0, 0) := by decide +kernel
theorem i_240_22 : a_ins 240 22 = some (.aload_n 0, 1, 0, 0, 0) := by decide +kernel
theorem i_240_23 : a_ins 240 23 = some (.iconst (0), 1, 0, 0, 0) := by decide +kernel
theorem i_240_24 : a_ins 240 24 = some (.putfield 302, 3, 8, 18, 0) := by decide +kernel
theorem i_240_27 : a_ins 240 27 = some (.aload_n 0, 1, 0, 0, 0) := by decide +kernel
theorem i_240_28 : a_ins 240 28 = some (.iload_n 1, 1, 0, 0, 0) := by decide +kernel
theorem i_240_29 : a_ins 240 29 = some (.putfield 311, 3, 8, 19, 0) := by decide +kernel
theorem i_240_32 : a_ins 240 32 = some (.aload_n 0, 1, 0, 0, 0) := by decide +kernel
theorem i_240_33 : a_ins 240 33 = some (.iconst (0), 1, 0, 0, 0) := by decide +kernel
theorem i_240_34 : a_ins 240 34 = some (.putfield 308, 3, 8, 20, 0) := by decide +kernel
theorem i_240_37 : a_ins 240 37 = some (.aload_n 0, 1, 0, 0, 0) := by decide +kernel
theorem i_240_38 : a_ins 240 38 = some (.iconst (0), 1, 0, 0, 0) := by decide +kernel
theorem i_240_39 : a_ins 240 39 = some (.putfield 305, 3, 8, 21, 0) := by decide +kernel
theorem i_240_42 : a_ins 240 42 = some (.aload_n 0, 1, 0, 0, 0) := by decide +kernel
theorem i_240_43 : a_ins 240 43 = some (.iconst (-1), 1, 0, 0, -1) := by decide +kernel
theorem i_240_44 : a_ins 240 44 = some (.putfield 48, 3, 8, 22, 0) := by decide +kernel
theorem i_240_47 : a_ins 240 47 = some (.aload_n 0, 1, 0, 0, 0) := by decide +kernel
theorem i_240_48 : a_ins 240 48 = some (.iconst (0), 1, 0, 0, 0) := by decide +kernel
theorem i_240_49 : a_ins 240 49 = some (.putfield 391, 3, 8, 23, 0) := by decide +kernel
theorem i_240_52 : a_ins 240 52 = some (.aload_n 0, 1, 0, 0, 0) := by decide +kernel
theorem i_240_53 : a_ins 240 53 = some (.iconst (0), 1, 0, 0, 0) := by decide +kernel
theorem i_240_54 : a_ins 240 54 = some (.putfield 377, 3, 8, 27, 0) := by decide +kernel
theorem i_240_57 : a_ins 240 57 = some (.aload_n 0, 1, 0, 0, 0) := by decide +kernel
theorem i_240_58 : a_ins 240 58 = some (.getfield 305, 3, 8, 21, 0) := by decide +kernel
theorem i_240_61 : a_ins 240 61 = some (.ifCond .ne (21), 3, 82, 0, 0) := by decide +kernel
theorem i_240_64 : a_ins 240 64 = some (.aload_n 0, 1, 0, 0, 0) := by decide +kernel
theorem i_240_65 : a_ins 240 65 = some (.getfield 308, 3, 8, 20, 0) := by decide +kernel
theorem i_240_68 : a_ins 240 68 = some (.aload_n 0, 1, 0, 0, 0) := by decide +kernel
theorem i_240_69 : a_ins 240 69 = some (.getfield 311, 3, 8, 19, 0) := by decide +kernel
theorem i_240_72 : a_ins 240 72 = some (.if_icmp .ge (10), 3, 82, 0, 0) := by decide +kernel
theorem i_240_75 : a_ins 240 75 = some (.aload_n 0, 1, 0, 0, 0) := by decide +kernel
theorem i_240_76 : a_ins 240 76 = some (.invokevirtual 394, 3, 241, 1, 0) := by decide +kernel
theorem i_240_79 : a_ins 240 79 = some (.goto (-22), 3, 57, 0, 0) := by decide +kernel
theorem i_240_82 : a_ins 240 82 = some (.aload_n 0, 1, 0, 0, 0) := by decide +kernel
theorem i_240_83 : a_ins 240 83 = some (.getfield 305, 3, 8, 21, 0) := by decide +kernel
theorem i_240_86 : a_ins 240 86 = some (.ifCond .eq (11), 3, 97, 0, 0) := by decide +kernel
theorem i_240_89 : a_ins 240 89 = some (.bipush (-30), 2, 0, 0, -30) := by decide +kernel
theorem i_240_91 : a_ins 240 91 = some (.aload_n 0, 1, 0, 0, 0) := by decide +kernel
theorem i_240_92 : a_ins 240 92 = some (.getfield 305, 3, 8, 21, 0) := by decide +kernel
theorem i_240_95 : a_ins 240 95 = some (.isub, 1, 0, 0, 0) := by decide +kernel
theorem i_240_96 : a_ins 240 96 = some (.ireturn, 1, 0, 0, 0) := by decide +kernel
theorem i_240_97 : a_ins 240 97 = some (.aload_n 0, 1, 0, 0, 0) := by decide +kernel
theorem i_240_98 : a_ins 240 98 = some (.invokevirtual 182, 3, 148, 1, 0) := by decide +kernel
theorem i_240_101 : a_ins 240 101 = some (.iconst (0), 1, 0, 0, 0) := by decide +kernel
theorem i_240_102 : a_ins 240 102 = some (.istore_n 2, 1, 0, 0, 0) := by decide +kernel
theorem i_240_103 : a_ins 240 103 = some (.iload_n 2, 1, 0, 0, 0) := by decide +kernel
theorem i_240_104 : a_ins 240 104 = some (.aload_n 0, 1, 0, 0, 0) := by decide +kernel
theorem i_240_105 : a_ins 240 105 = some (.getfield 377, 3, 8, 27, 0) := by decide +kernel
theorem i_240_108 : a_ins 240 108 = some (.if_icmp .ge (51), 3, 159, 0, 0) := by decide +kernel
theorem i_240_111 : a_ins 240 111 = some (.aload_n 0, 1, 0, 0, 0) := by decide +kernel
theorem i_240_112 : a_ins 240 112 = some (.getfield 391, 3, 8, 23, 0) := by decide +kernel
theorem i_240_115 : a_ins 240 115 = some (.ifCond .ne (44), 3, 159, 0, 0) := by decide +kernel
theorem i_240_118 : a_ins 240 118 = some (.aload_n 0, 1, 0, 0, 0) := by decide +kernel
theorem i_240_119 : a_ins 240 119 = some (.aload_n 0, 1, 0, 0, 0) := by decide +kernel
theorem i_240_120 : a_ins 240 120 = some (.getfield 51, 3, 8, 24, 0) := by decide +kernel
theorem i_240_123 : a_ins 240 123 = some (.iload_n 2, 1, 0, 0, 0) := by decide +kernel
theorem i_240_124 : a_ins 240 124 = some (.iaload, 1, 0, 0, 0) := by decide +kernel
theorem i_240_125 : a_ins 240 125 = some (.aload_n 0, 1, 0, 0, 0) := by decide +kernel
theorem i_240_126 : a_ins 240 126 = some (.getfield 54, 3, 8, 25, 0) := by decide +kernel
theorem i_240_129 : a_ins 240 129 = some (.iload_n 2, 1, 0, 0, 0) := by decide +kernel
theorem i_240_130 : a_ins 240 130 = some (.iaload, 1, 0, 0, 0) := by decide +kernel
theorem i_240_131 : a_ins 240 131 = some (.aload_n 0, 1, 0, 0, 0) := by decide +kernel
theorem i_240_132 : a_ins 240 132 = some (.getfield 57, 3, 8, 26, 0) := by decide +kernel
theorem i_240_135 : a_ins 240 135 = some (.iload_n 2, 1, 0, 0, 0) := by decide +kernel
theorem i_240_136 : a_ins 240 136 = some (.iaload, 1, 0, 0, 0) := by decide +kernel
theorem i_240_137 : a_ins 240 137 = some (.invokevirtual 397, 3, 252, 4, 0) := by decide +kernel
theorem i_240_140 : a_ins 240 140 = some (.istore_n 3, 1, 0, 0, 0) := by decide +kernel
theorem i_240_141 : a_ins 240 141 = some (.iload_n 3, 1, 0, 0, 0) := by decide +kernel
theorem i_240_142 : a_ins 240 142 = some (.ifCond .ge (11), 3, 153, 0, 0) := by decide +kernel
theorem i_240_145 : a_ins 240 145 = some (.aload_n 0, 1, 0, 0, 0) := by decide +kernel
theorem i_240_146 : a_ins 240 146 = some (.iload_n 3, 1, 0, 0, 0) := by decide +kernel
theorem i_240_147 : a_ins 240 147 = some (.putfield 391, 3, 8, 23, 0) := by decide +kernel
theorem i_240_150 : a_ins 240 150 = some (.goto (6), 3, 156, 0, 0) := by decide +kernel
theorem i_240_153 : a_ins 240 153 = some (.iinc 2 (1), 3, 0, 0, 1) := by decide +kernel
theorem i_240_156 : a_ins 240 156 = some (.goto (-53), 3, 103, 0, 0) := by decide +kernel
theorem i_240_159 : a_ins 240 159 = some (.iload_n 2, 1, 0, 0, 0) := by decide +kernel
theorem i_240_160 : a_ins 240 160 = some (.ifCond .le (7), 3, 167, 0, 0) := by decide +kernel
theorem i_240_163 : a_ins 240 163 = some (.aload_n 0, 1, 0, 0, 0) := by decide +kernel
theorem i_240_164 : a_ins 240 164 = some (.invokevirtual 94, 3, 151, 1, 0) := by decide +kernel
theorem i_240_167 : a_ins 240 167 = some (.iload_n 2, 1, 0, 0, 0) := by decide +kernel
theorem i_240_168 : a_ins 240 168 = some (.ireturn, 1, 0, 0, 0) := by decide +kernel
theorem i_241_0 : a_ins 241 0 = some (.aload_n 0, 1, 0, 0, 0) := by decide +kernel
theorem i_241_1 : a_ins 241 1 = some (.getfield 308, 3, 8, 20, 0) := by decide +kernel
theorem i_241_4 : a_ins 241 4 = some (.istore_n 1, 1, 0, 0, 0) := by decide +kernel
theorem i_241_5 : a_ins 241 5 = some (.aload_n 0, 1, 0, 0, 0) := by decide +kernel
theorem i_241_6 : a_ins 241 6 = some (.iconst (0), 1, 0, 0, 0) := by decide +kernel
theorem i_241_7 : a_ins 241 7 = some (.bipush (9), 2, 0, 0, 9) := by decide +kernel
theorem i_241_9 : a_ins 241 9 = some (.invokevirtual 374, 3, 242, 3, 0) := by decide +kernel
theorem i_241_12 : a_ins 241 12 = some (.istore_n 2, 1, 0, 0, 0) := by decide +kernel
theorem i_241_13 : a_ins 241 13 = some (.aload_n 0, 1, 0, 0, 0) := by decide +kernel
theorem i_241_14 : a_ins 241 14 = some (.getfield 377, 3, 8, 27, 0) := by decide +kernel
theorem i_241_17 : a_ins 241 17 = some (.bipush (12), 2, 0, 0, 12) := by decide +kernel
theorem i_241_19 : a_ins 241 19 = some (.if_icmp .ne (9), 3, 28, 0, 0) := by decide +kernel
theorem i_241_22 : a_ins 241 22 = some (.aload_n 0, 1, 0, 0, 0) := by decide +kernel
theorem i_241_23 : a_ins 241 23 = some (.iconst (3), 1, 0, 0, 3) := by decide +kernel
theorem i_241_24 : a_ins 241 24 = some (.iload_n 1, 1, 0, 0, 0) := by decide +kernel
theorem i_241_25 : a_ins 241 25 = some (.invokevirtual 365, 3, 245, 3, 0) := by decide +kernel
theorem i_241_28 : a_ins 241 28 = some (.iconst (-1), 1, 0, 0, -1) := by decide +kernel
theorem i_241_29 : a_ins 241 29 = some (.istore_n 3, 1, 0, 0, 0) := by decide +kernel
theorem i_241_30 : a_ins 241 30 = some (.iconst (-1), 1, 0, 0, -1) := by decide +kernel
theorem i_241_31 : a_ins 241 31 = some (.istore 4, 2, 0, 0, 0) := by decide +kernel
theorem i_241_33 : a_ins 241 33 = some (.iload_n 2, 1, 0, 0, 0) := by decide +kernel
theorem i_241_34 : a_ins 241 34 = some (.i2l, 1, 0, 0, 0) := by decide +kernel
theorem i_241_35 : a_ins 241 35 = some (.ldc2_w 191, 3, 0, 0, 3) := by decide +kernel
theorem i_241_38 : a_ins 241 38 = some (.ldc2_w 380, 3, 0, 0, 6) := by decide +kernel
theorem i_241_41 : a_ins 241 41 = some (.invokestatic 68, 3, 147, 3, 0) := by decide +kernel
theorem i_241_44 : a_ins 241 44 = some (.ifCond .ne (9), 3, 53, 0, 0) := by decide +kernel
theorem i_241_47 : a_ins 241 47 = some (.iload_n 2, 1, 0, 0, 0) := by decide +kernel
theorem i_241_48 : a_ins 241 48 = some (.bipush (8), 2, 0, 0, 8) := by decide +kernel
theorem i_241_50 : a_ins 241 50 = some (.if_icmp .ne (14), 3, 64, 0, 0) := by decide +kernel
theorem i_241_53 : a_ins 241 53 = some (.aload_n 0, 1, 0, 0, 0) := by decide +kernel
theorem i_241_54 : a_ins 241 54 = some (.bipush (32), 2, 0, 0, 32) := by decide +kernel
theorem i_241_56 : a_ins 241 56 = some (.invokevirtual 382, 3, 248, 2, 0) := by decide +kernel
theorem i_241_59 : a_ins 241 59 = some (.aload_n 0, 1, 0, 0, 0) := by decide +kernel
theorem i_241_60 : a_ins 241 60 = some (.invokevirtual 385, 3, 249, 1, 0) := by decide +kernel
theorem i_241_63 : a_ins 241 63 = some (.istore_n 3, 1, 0, 0, 0) := by decide +kernel
theorem i_241_64 : a_ins 241 64 = some (.iload_n 2, 1, 0, 0, 0) := by decide +kernel
theorem i_241_65 : a_ins 241 65 = some (.bipush (8), 2, 0, 0, 8) := by decide +kernel
theorem i_241_67 : a_ins 241 67 = some (.if_icmp .ne (29), 3, 96, 0, 0) := by decide +kernel
theorem i_241_70 : a_ins 241 70 = some (.aload_n 0, 1, 0, 0, 0) := by decide +kernel
theorem i_241_71 : a_ins 241 71 = some (.bipush (32), 2, 0, 0, 32) := by decide +kernel
theorem i_241_73 : a_ins 241 73 = some (.invokevirtual 382, 3, 248, 2, 0) := by decide +kernel
theorem i_241_76 : a_ins 241 76 = some (.aload_n 0, 1, 0, 0, 0) := by decide +kernel
theorem i_241_77 : a_ins 241 77 = some (.bipush (10), 2, 0, 0, 10) := by decide +kernel
theorem i_241_79 : a_ins 241 79 = some (.bipush (11), 2, 0, 0, 11) := by decide +kernel
theorem i_241_81 : a_ins 241 81 = some (.invokevirtual 374, 3, 242, 3, 0) := by decide +kernel
theorem i_241_84 : a_ins 241 84 = some (.bipush (10), 2, 0, 0, 10) := by decide +kernel
theorem i_241_86 : a_ins 241 86 = some (.if_icmp .ne (7), 3, 93, 0, 0) := by decide +kernel
theorem i_241_89 : a_ins 241 89 = some (.iconst (1), 1, 0, 0, 1) := by decide +kernel
theorem i_241_90 : a_ins 241 90 = some (.goto (4), 3, 94, 0, 0) := by decide +kernel
theorem i_241_93 : a_ins 241 93 = some (.iconst (0), 1, 0, 0, 0) := by decide +kernel
theorem i_241_94 : a_ins 241 94 = some (.istore 4, 2, 0, 0, 0) := by decide +kernel
theorem i_241_96 : a_ins 241 96 = some (.iload_n 2, 1, 0, 0, 0) := by decide +kernel
theorem i_241_97 : a_ins 241 97 = some (.i2l, 1, 0, 0, 0) := by decide +kernel
theorem i_241_98 : a_ins 241 98 = some (.lconst 0, 1, 0, 0, 0) := by decide +kernel
theorem i_241_99 : a_ins 241 99 = some (.ldc2_w 178, 3, 0, 0, 2) := by decide +kernel
theorem i_241_102 : a_ins 241 102 = some (.invokestatic 68, 3, 147, 3, 0) := by decide +kernel
theorem i_241_105 : a_ins 241 105 = some (.ifCond .eq (17), 3, 122, 0, 0) := by decide +kernel
theorem i_241_108 : a_ins 241 108 = some (.aload_n 0, 1, 0, 0, 0) := by decide +kernel
theorem i_241_109 : a_ins 241 109 = some (.bipush (32), 2, 0, 0, 32) := by decide +kernel
theorem i_241_111 : a_ins 241 111 = some (.invokevirtual 388, 3, 251, 2, 0) := by decide +kernel
theorem i_241_114 : a_ins 241 114 = some (.ifCond .eq (8), 3, 122, 0, 0) := by decide +kernel
theorem i_241_117 : a_ins 241 117 = some (.aload_n 0, 1, 0, 0, 0) := by decide +kernel
theorem i_241_118 : a_ins 241 118 = some (.invokevirtual 385, 3, 249, 1, 0) := by decide +kernel
theorem i_241_121 : a_ins 241 121 = some (.istore_n 3, 1, 0, 0, 0) := by decide +kernel
theorem i_241_122 : a_ins 241 122 = some (.iload_n 2, 1, 0, 0, 0) := by decide +kernel
theorem i_241_123 : a_ins 241 123 = some (.iconst (5), 1, 0, 0, 5) := by decide +kernel
theorem i_241_124 : a_ins 241 124 = some (.if_icmp .ne (18), 3, 142, 0, 0) := by decide +kernel
theorem i_241_127 : a_ins 241 127 = some (.aload_n 0, 1, 0, 0, 0) := by decide +kernel
theorem i_241_128 : a_ins 241 128 = some (.bipush (32), 2, 0, 0, 32) := by decide +kernel
theorem i_241_130 : a_ins 241 130 = some (.invokevirtual 388, 3, 251, 2, 0) := by decide +kernel
theorem i_241_133 : a_ins 241 133 = some (.ifCond .eq (9), 3, 142, 0, 0) := by decide +kernel
theorem i_241_136 : a_ins 241 136 = some (.aload_n 0, 1, 0, 0, 0) := by decide +kernel
theorem i_241_137 : a_ins 241 137 = some (.invokevirtual 385, 3, 249, 1, 0) := by decide +kernel
theorem i_241_140 : a_ins 241 140 = some (.istore 4, 2, 0, 0, 0) := by decide +kernel
theorem i_241_142 : a_ins 241 142 = some (.aload_n 0, 1, 0, 0, 0) := by decide +kernel
theorem i_241_143 : a_ins 241 143 = some (.bipush (59), 2, 0, 0, 59) := by decide +kernel
theorem i_241_145 : a_ins 241 145 = some (.invokevirtual 382, 3, 248, 2, 0) := by decide +kernel
theorem i_241_148 : a_ins 241 148 = some (.aload_n 0, 1, 0, 0, 0) := by decide +kernel
theorem i_241_149 : a_ins 241 149 = some (.getfield 305, 3, 8, 21, 0) := by decide +kernel
theorem i_241_152 : a_ins 241 152 = some (.ifCond .eq (4), 3, 156, 0, 0) := by decide +kernel
theorem i_241_155 : a_ins 241 155 = some (.return_, 1, 0, 0, 0) := by decide +kernel
theorem i_241_156 : a_ins 241 156 = some (.aload_n 0, 1, 0, 0, 0) := by decide +kernel
theorem i_241_157 : a_ins 241 157 = some (.getfield 51, 3, 8, 24, 0) := by decide +kernel
theorem i_241_160 : a_ins 241 160 = some (.aload_n 0, 1, 0, 0, 0) := by decide +kernel
theorem i_241_161 : a_ins 241 161 = some (.getfield 377, 3, 8, 27, 0) := by decide +kernel
theorem i_241_164 : a_ins 241 164 = some (.iload_n 2, 1, 0, 0, 0) := by decide +kernel
theorem i_241_165 : a_ins 241 165 = some (.iastore, 1, 0, 0, 0) := by decide +kernel
theorem i_241_166 : a_ins 241 166 = some (.aload_n 0, 1, 0, 0, 0) := by decide +kernel
theorem i_241_167 : a_ins 241 167 = some (.getfield 54, 3, 8, 25, 0) := by decide +kernel
theorem i_241_170 : a_ins 241 170 = some (.aload_n 0, 1, 0, 0, 0) := by decide +kernel
theorem i_241_171 : a_ins 241 171 = some (.getfield 377, 3, 8, 27, 0) := by decide +kernel
theorem i_241_174 : a_ins 241 174 = some (.iload_n 3, 1, 0, 0, 0) := by decide +kernel
theorem i_241_175 : a_ins 241 175 = some (.iastore, 1, 0, 0, 0) := by decide +kernel
theorem i_241_176 : a_ins 241 176 = some (.aload_n 0, 1, 0, 0, 0) := by decide +kernel
theorem i_241_177 : a_ins 241 177 = some (.getfield 57, 3, 8, 26, 0) := by decide +kernel
theorem i_241_180 : a_ins 241 180 = some (.aload_n 0, 1, 0, 0, 0) := by decide +kernel
theorem i_241_181 : a_ins 241 181 = some (.getfield 377, 3, 8, 27, 0) := by decide +kernel
theorem i_241_184 : a_ins 241 184 = some (.iload 4, 2, 0, 0, 0) := by decide +kernel
theorem i_241_186 : a_ins 241 186 = some (.iastore, 1, 0, 0, 0) := by decide +kernel
theorem i_241_187 : a_ins 241 187 = some (.aload_n 0, 1, 0, 0, 0) := by decide +kernel
theorem i_241_188 : a_ins 241 188 = some (.dup, 1, 0, 0, 0) := by decide +kernel
theorem i_241_189 : a_ins 241 189 = some (.getfield 377, 3, 8, 27, 0) := by decide +kernel
theorem i_241_192 : a_ins 241 192 = some (.iconst (1), 1, 0, 0, 1) := by decide +kernel
theorem i_241_193 : a_ins 241 193 = some (.iadd, 1, 0, 0, 0) := by decide +kernel
theorem i_241_194 : a_ins 241 194 = some (.putfield 377, 3, 8, 27, 0) := by decide +kernel
theorem i_241_197 : a_ins 241 197 = some (.return_, 1, 0, 0, 0) := by decide +kernel
theorem i_242_0 : a_ins 242 0 = some (.aload_n 0, 1, 0, 0, 0) := by decide +kernel
theorem i_242_1 : a_ins 242 1 = some (.getfield 305, 3, 8, 21, 0) := by decide +kernel
theorem i_242_4 : a_ins 242 4 = some (.ifCond .eq (5), 3, 9, 0, 0) := by decide +kernel
theorem i_242_7 : a_ins 242 7 = some (.iconst (-1), 1, 0, 0, -1) := by decide +kernel
theorem i_242_8 : a_ins 242 8 = some (.ireturn, 1, 0, 0, 0) := by decide +kernel
theorem i_242_9 : a_ins 242 9 = some (.aload_n 0, 1, 0, 0, 0) := by decide +kernel
theorem i_242_10 : a_ins 242 10 = some (.getfield 308, 3, 8, 20, 0) := by decide +kernel
theorem i_242_13 : a_ins 242 13 = some (.istore_n 3, 1, 0, 0, 0) := by decide +kernel
theorem i_242_14 : a_ins 242 14 = some (.aload_n 0, 1, 0, 0, 0) := by decide +kernel
theorem i_242_15 : a_ins 242 15 = some (.invokevirtual 362, 3, 243, 1, 0) := by decide +kernel
theorem i_242_18 : a_ins 242 18 = some (.ifCond .ne (11), 3, 29, 0, 0) := by decide +kernel
theorem i_242_21 : a_ins 242 21 = some (.aload_n 0, 1, 0, 0, 0) := by decide +kernel
theorem i_242_22 : a_ins 242 22 = some (.iconst (2), 1, 0, 0, 2) := by decide +kernel
theorem i_242_23 : a_ins 242 23 = some (.iload_n 3, 1, 0, 0, 0) := by decide +kernel
theorem i_242_24 : a_ins 242 24 = some (.invokevirtual 365, 3, 245, 3, 0) := by decide +kernel
theorem i_242_27 : a_ins 242 27 = some (.iconst (-1), 1, 0, 0, -1) := by decide +kernel
theorem i_242_28 : a_ins 242 28 = some (.ireturn, 1, 0, 0, 0) := by decide +kernel
theorem i_242_29 : a_ins 242 29 = some (.aload_n 0, 1, 0, 0, 0) := by decide +kernel
theorem i_242_30 : a_ins 242 30 = some (.invokevirtual 362, 3, 243, 1, 0) := by decide +kernel
theorem i_242_33 : a_ins 242 33 = some (.ifCond .eq (16), 3, 49, 0, 0) := by decide +kernel
theorem i_242_36 : a_ins 242 36 = some (.aload_n 0, 1, 0, 0, 0) := by decide +kernel
theorem i_242_37 : a_ins 242 37 = some (.dup, 1, 0, 0, 0) := by decide +kernel
theorem i_242_38 : a_ins 242 38 = some (.getfield 308, 3, 8, 20, 0) := by decide +kernel
theorem i_242_41 : a_ins 242 41 = some (.iconst (1), 1, 0, 0, 1) := by decide +kernel
theorem i_242_42 : a_ins 242 42 = some (.iadd, 1, 0, 0, 0) := by decide +kernel
theorem i_242_43 : a_ins 242 43 = some (.putfield 308, 3, 8, 20, 0) := by decide +kernel
theorem i_242_46 : a_ins 242 46 = some (.goto (-17), 3, 29, 0, 0) := by decide +kernel
theorem i_242_49 : a_ins 242 49 = some (.aload_n 0, 1, 0, 0, 0) := by decide +kernel
theorem i_242_50 : a_ins 242 50 = some (.iload_n 3, 1, 0, 0, 0) := by decide +kernel
theorem i_242_51 : a_ins 242 51 = some (.aload_n 0, 1, 0, 0, 0) := by decide +kernel
theorem i_242_52 : a_ins 242 52 = some (.getfield 308, 3, 8, 20, 0) := by decide +kernel
theorem i_242_55 : a_ins 242 55 = some (.invokevirtual 368, 3, 246, 3, 0) := by decide +kernel
theorem i_242_58 : a_ins 242 58 = some (.istore 4, 2, 0, 0, 0) := by decide +kernel
theorem i_242_60 : a_ins 242 60 = some (.iload 4, 2, 0, 0, 0) := by decide +kernel
theorem i_242_62 : a_ins 242 62 = some (.i2l, 1, 0, 0, 0) := by decide +kernel
theorem i_242_63 : a_ins 242 63 = some (.iload_n 1, 1, 0, 0, 0) := by decide +kernel
theorem i_242_64 : a_ins 242 64 = some (.i2l, 1, 0, 0, 0) := by decide +kernel
theorem i_242_65 : a_ins 242 65 = some (.iload_n 2, 1, 0, 0, 0) := by decide +kernel
theorem i_242_66 : a_ins 242 66 = some (.i2l, 1, 0, 0, 0) := by decide +kernel
theorem i_242_67 : a_ins 242 67 = some (.invokestatic 68, 3, 147, 3, 0) := by decide +kernel
theorem i_242_70 : a_ins 242 70 = some (.ifCond .ne (9), 3, 79, 0, 0) := by decide +kernel
theorem i_242_73 : a_ins 242 73 = some (.aload_n 0, 1, 0, 0, 0) := by decide +kernel
theorem i_242_74 : a_ins 242 74 = some (.iconst (1), 1, 0, 0, 1) := by decide +kernel
theorem i_242_75 : a_ins 242 75 = some (.iload_n 3, 1, 0, 0, 0) := by decide +kernel
theorem i_242_76 : a_ins 242 76 = some (.invokevirtual 365, 3, 245, 3, 0) := by decide +kernel
theorem i_242_79 : a_ins 242 79 = some (.iload 4, 2, 0, 0, 0) := by decide +kernel
theorem i_242_81 : a_ins 242 81 = some (.ireturn, 1, 0, 0, 0) := by decide +kernel
theorem i_243_0 : a_ins 243 0 = some (.aload_n 0, 1, 0, 0, 0) := by decide +kernel
theorem i_243_1 : a_ins 243 1 = some (.invokevirtual 314, 3, 244, 1, 0) := by decide +kernel
theorem i_243_4 : a_ins 243 4 = some (.i2l, 1, 0, 0, 0) := by decide +kernel
theorem i_243_5 : a_ins 243 5 = some (.ldc2_w 317, 3, 0, 0, 97) := by decide +kernel
theorem i_243_8 : a_ins 243 8 = some (.ldc2_w 319, 3, 0, 0, 122) := by decide +kernel
theorem i_243_11 : a_ins 243 11 = some (.invokestatic 68, 3, 147, 3, 0) := by decide +kernel
theorem i_243_14 : a_ins 243 14 = some (.ireturn, 1, 0, 0, 0) := by decide +kernel
theorem i_244_0 : a_ins 244 0 = some (.aload_n 0, 1, 0, 0, 0) := by decide +kernel
theorem i_244_1 : a_ins 244 1 = some (.getfield 308, 3, 8, 20, 0) := by decide +kernel
theorem i_244_4 : a_ins 244 4 = some (.aload_n 0, 1, 0, 0, 0) := by decide +kernel
theorem i_244_5 : a_ins 244 5 = some (.getfield 311, 3, 8, 19, 0) := by decide +kernel
theorem i_244_8 : a_ins 244 8 = some (.if_icmp .ge (15), 3, 23, 0, 0) := by decide +kernel
theorem i_244_11 : a_ins 244 11 = some (.aload_n 0, 1, 0, 0, 0) := by decide +kernel
theorem i_244_12 : a_ins 244 12 = some (.getfield 45, 3, 8, 17, 0) := by decide +kernel
theorem i_244_15 : a_ins 244 15 = some (.aload_n 0, 1, 0, 0, 0) := by decide +kernel
theorem i_244_16 : a_ins 244 16 = some (.getfield 308, 3, 8, 20, 0) := by decide +kernel
theorem i_244_19 : a_ins 244 19 = some (.iaload, 1, 0, 0, 0) := by decide +kernel
theorem i_244_20 : a_ins 244 20 = some (.goto (4), 3, 24, 0, 0) := by decide +kernel
theorem i_244_23 : a_ins 244 23 = some (.iconst (-1), 1, 0, 0, -1) := by decide +kernel
theorem i_244_24 : a_ins 244 24 = some (.ireturn, 1, 0, 0, 0) := by decide +kernel
theorem i_245_0 : a_ins 245 0 = some (.aload_n 0, 1, 0, 0, 0) := by decide +kernel
theorem i_245_1 : a_ins 245 1 = some (.getfield 305, 3, 8, 21, 0) := by decide +kernel
theorem i_245_4 : a_ins 245 4 = some (.ifCond .eq (4), 3, 8, 0, 0) := by decide +kernel
theorem i_245_7 : a_ins 245 7 = some (.return_, 1, 0, 0, 0) := by decide +kernel
theorem i_245_8 : a_ins 245 8 = some (.aload_n 0, 1, 0, 0, 0) := by decide +kernel
theorem i_245_9 : a_ins 245 9 = some (.iload_n 1, 1, 0, 0, 0) := by decide +kernel
theorem i_245_10 : a_ins 245 10 = some (.putfield 305, 3, 8, 21, 0) := by decide +kernel
theorem i_245_13 : a_ins 245 13 = some (.aload_n 0, 1, 0, 0, 0) := by decide +kernel
theorem i_245_14 : a_ins 245 14 = some (.iload_n 2, 1, 0, 0, 0) := by decide +kernel
theorem i_245_15 : a_ins 245 15 = some (.putfield 48, 3, 8, 22, 0) := by decide +kernel
theorem i_245_18 : a_ins 245 18 = some (.return_, 1, 0, 0, 0) := by decide +kernel
theorem i_246_0 : a_ins 246 0 = some (.aload_n 0, 1, 0, 0, 0) := by decide +kernel
theorem i_246_1 : a_ins 246 1 = some (.iload_n 1, 1, 0, 0, 0) := by decide +kernel
theorem i_246_2 : a_ins 246 2 = some (.iload_n 2, 1, 0, 0, 0) := by decide +kernel
theorem i_246_3 : a_ins 246 3 = some (.ldc_w 334, 3, 1, 18, 0) := by decide +kernel
theorem i_246_6 : a_ins 246 6 = some (.invokevirtual 336, 3, 247, 4, 0) := by decide +kernel
theorem i_246_9 : a_ins 246 9 = some (.ifCond .eq (5), 3, 14, 0, 0) := by decide +kernel
theorem i_246_12 : a_ins 246 12 = some (.iconst (0), 1, 0, 0, 0) := by decide +kernel
theorem i_246_13 : a_ins 246 13 = some (.ireturn, 1, 0, 0, 0) := by decide +kernel
theorem i_246_14 : a_ins 246 14 = some (.aload_n 0, 1, 0, 0, 0) := by decide +kernel
theorem i_246_15 : a_ins 246 15 = some (.iload_n 1, 1, 0, 0, 0) := by decide +kernel
theorem i_246_16 : a_ins 246 16 = some (.iload_n 2, 1, 0, 0, 0) := by decide +kernel
theorem i_246_17 : a_ins 246 17 = some (.ldc_w 340, 3, 1, 19, 0) := by decide +kernel
theorem i_246_20 : a_ins 246 20 = some (.invokevirtual 336, 3, 247, 4, 0) := by decide +kernel
theorem i_246_23 : a_ins 246 23 = some (.ifCond .eq (5), 3, 28, 0, 0) := by decide +kernel
theorem i_246_26 : a_ins 246 26 = some (.iconst (1), 1, 0, 0, 1) := by decide +kernel
theorem i_246_27 : a_ins 246 27 = some (.ireturn, 1, 0, 0, 0) := by decide +kernel
theorem i_246_28 : a_ins 246 28 = some (.aload_n 0, 1, 0, 0, 0) := by decide +kernel
theorem i_246_29 : a_ins 246 29 = some (.iload_n 1, 1, 0, 0, 0) := by decide +kernel
theorem i_246_30 : a_ins 246 30 = some (.iload_n 2, 1, 0, 0, 0) := by decide +kernel
theorem i_246_31 : a_ins 246 31 = some (.ldc_w 342, 3, 1, 20, 0) := by decide +kernel
theorem i_246_34 : a_ins 246 34 = some (.invokevirtual 336, 3, 247, 4, 0) := by decide +kernel
theorem i_246_37 : a_ins 246 37 = some (.ifCond .eq (5), 3, 42, 0, 0) := by decide +kernel
theorem i_246_40 : a_ins 246 40 = some (.iconst (2), 1, 0, 0, 2) := by decide +kernel
theorem i_246_41 : a_ins 246 41 = some (.ireturn, 1, 0, 0, 0) := by decide +kernel
theorem i_246_42 : a_ins 246 42 = some (.aload_n 0, 1, 0, 0, 0) := by decide +kernel
theorem i_246_43 : a_ins 246 43 = some (.iload_n 1, 1, 0, 0, 0) := by decide +kernel
theorem i_246_44 : a_ins 246 44 = some (.iload_n 2, 1, 0, 0, 0) := by decide +kernel
theorem i_246_45 : a_ins 246 45 = some (.ldc_w 344, 3, 1, 21, 0) := by decide +kernel
theorem i_246_48 : a_ins 246 48 = some (.invokevirtual 336, 3, 247, 4, 0) := by decide +kernel
theorem i_246_51 : a_ins 246 51 = some (.ifCond .eq (5), 3, 56, 0, 0) := by decide +kernel
theorem i_246_54 : a_ins 246 54 = some (.iconst (3), 1, 0, 0, 3) := by decide +kernel
theorem i_246_55 : a_ins 246 55 = some (.ireturn, 1, 0, 0, 0) := by decide +kernel
theorem i_246_56 : a_ins 246 56 = some (.aload_n 0, 1, 0, 0, 0) := by decide +kernel
theorem i_246_57 : a_ins 246 57 = some (.iload_n 1, 1, 0, 0, 0) := by decide +kernel
theorem i_246_58 : a_ins 246 58 = some (.iload_n 2, 1, 0, 0, 0) := by decide +kernel
theorem i_246_59 : a_ins 246 59 = some (.ldc_w 346, 3, 1, 22, 0) := by decide +kernel
theorem i_246_62 : a_ins 246 62 = some (.invokevirtual 336, 3, 247, 4, 0) := by decide +kernel
theorem i_246_65 : a_ins 246 65 = some (.ifCond .eq (5), 3, 70, 0, 0) := by decide +kernel
theorem i_246_68 : a_ins 246 68 = some (.iconst (4), 1, 0, 0, 4) := by decide +kernel
theorem i_246_69 : a_ins 246 69 = some (.ireturn, 1, 0, 0, 0) := by decide +kernel
theorem i_246_70 : a_ins 246 70 = some (.aload_n 0, 1, 0, 0, 0) := by decide +kernel
theorem i_246_71 : a_ins 246 71 = some (.iload_n 1, 1, 0, 0, 0) := by decide +kernel
theorem i_246_72 : a_ins 246 72 = some (.iload_n 2, 1, 0, 0, 0) := by decide +kernel
theorem i_246_73 : a_ins 246 73 = some (.ldc_w 348, 3, 1, 23, 0) := by decide +kernel
theorem i_246_76 : a_ins 246 76 = some (.invokevirtual 336, 3, 247, 4, 0) := by decide +kernel
theorem i_246_79 : a_ins 246 79 = some (.ifCond .eq (5), 3, 84, 0, 0) := by decide +kernel
theorem i_246_82 : a_ins 246 82 = some (.iconst (5), 1, 0, 0, 5) := by decide +kernel
theorem i_246_83 : a_ins 246 83 = some (.ireturn, 1, 0, 0, 0) := by decide +kernel
theorem i_246_84 : a_ins 246 84 = some (.aload_n 0, 1, 0, 0, 0) := by decide +kernel
theorem i_246_85 : a_ins 246 85 = some (.iload_n 1, 1, 0, 0, 0) := by decide +kernel
theorem i_246_86 : a_ins 246 86 = some (.iload_n 2, 1, 0, 0, 0) := by decide +kernel
theorem i_246_87 : a_ins 246 87 = some (.ldc_w 350, 3, 1, 24, 0) := by decide +kernel
theorem i_246_90 : a_ins 246 90 = some (.invokevirtual 336, 3, 247, 4, 0) := by decide +kernel
theorem i_246_93 : a_ins 246 93 = some (.ifCond .eq (6), 3, 99, 0, 0) := by decide +kernel
theorem i_246_96 : a_ins 246 96 = some (.bipush (6), 2, 0, 0, 6) := by decide +kernel
theorem i_246_98 : a_ins 246 98 = some (.ireturn, 1, 0, 0, 0) := by decide +kernel
theorem i_246_99 : a_ins 246 99 = some (.aload_n 0, 1, 0, 0, 0) := by decide +kernel
theorem i_246_100 : a_ins 246 100 = some (.iload_n 1, 1, 0, 0, 0) := by decide +kernel
theorem i_246_101 : a_ins 246 101 = some (.iload_n 2, 1, 0, 0, 0) := by decide +kernel
theorem i_246_102 : a_ins 246 102 = some (.ldc_w 352, 3, 1, 25, 0) := by decide +kernel
theorem i_246_105 : a_ins 246 105 = some (.invokevirtual 336, 3, 247, 4, 0) := by decide +kernel
theorem i_246_108 : a_ins 246 108 = some (.ifCond .eq (6), 3, 114, 0, 0) := by decide +kernel
theorem i_246_111 : a_ins 246 111 = some (.bipush (7), 2, 0, 0, 7) := by decide +kernel
theorem i_246_113 : a_ins 246 113 = some (.ireturn, 1, 0, 0, 0) := by decide +kernel
theorem i_246_114 : a_ins 246 114 = some (.aload_n 0, 1, 0, 0, 0) := by decide +kernel
theorem i_246_115 : a_ins 246 115 = some (.iload_n 1, 1, 0, 0, 0) := by decide +kernel
theorem i_246_116 : a_ins 246 116 = some (.iload_n 2, 1, 0, 0, 0) := by decide +kernel
theorem i_246_117 : a_ins 246 117 = some (.ldc_w 354, 3, 1, 26, 0) := by decide +kernel
theorem i_246_120 : a_ins 246 120 = some (.invokevirtual 336, 3, 247, 4, 0) := by decide +kernel
theorem i_246_123 : a_ins 246 123 = some (.ifCond .eq (6), 3, 129, 0, 0) := by decide +kernel
theorem i_246_126 : a_ins 246 126 = some (.bipush (8), 2, 0, 0, 8) := by decide +kernel
theorem i_246_128 : a_ins 246 128 = some (.ireturn, 1, 0, 0, 0) := by decide +kernel
theorem i_246_129 : a_ins 246 129 = some (.aload_n 0, 1, 0, 0, 0) := by decide +kernel
theorem i_246_130 : a_ins 246 130 = some (.iload_n 1, 1, 0, 0, 0) := by decide +kernel
theorem i_246_131 : a_ins 246 131 = some (.iload_n 2, 1, 0, 0, 0) := by decide +kernel
theorem i_246_132 : a_ins 246 132 = some (.ldc_w 356, 3, 1, 27, 0) := by decide +kernel
theorem i_246_135 : a_ins 246 135 = some (.invokevirtual 336, 3, 247, 4, 0) := by decide +kernel
theorem i_246_138 : a_ins 246 138 = some (.ifCond .eq (6), 3, 144, 0, 0) := by decide +kernel
theorem i_246_141 : a_ins 246 141 = some (.bipush (9), 2, 0, 0, 9) := by decide +kernel
theorem i_246_143 : a_ins 246 143 = some (.ireturn, 1, 0, 0, 0) := by decide +kernel
theorem i_246_144 : a_ins 246 144 = some (.aload_n 0, 1, 0, 0, 0) := by decide +kernel
theorem i_246_145 : a_ins 246 145 = some (.iload_n 1, 1, 0, 0, 0) := by decide +kernel
theorem i_246_146 : a_ins 246 146 = some (.iload_n 2, 1, 0, 0, 0) := by decide +kernel
theorem i_246_147 : a_ins 246 147 = some (.ldc_w 358, 3, 1, 28, 0) := by decide +kernel
theorem i_246_150 : a_ins 246 150 = some (.invokevirtual 336, 3, 247, 4, 0) := by decide +kernel
theorem i_246_153 : a_ins 246 153 = some (.ifCond .eq (6), 3, 159, 0, 0) := by decide +kernel
theorem i_246_156 : a_ins 246 156 = some (.bipush (10), 2, 0, 0, 10) := by decide +kernel
theorem i_246_158 : a_ins 246 158 = some (.ireturn, 1, 0, 0, 0) := by decide +kernel
theorem i_246_159 : a_ins 246 159 = some (.aload_n 0, 1, 0, 0, 0) := by decide +kernel
theorem i_246_160 : a_ins 246 160 = some (.iload_n 1, 1, 0, 0, 0) := by decide +kernel
theorem i_246_161 : a_ins 246 161 = some (.iload_n 2, 1, 0, 0, 0) := by decide +kernel
theorem i_246_162 : a_ins 246 162 = some (.ldc_w 360, 3, 1, 29, 0) := by decide +kernel
theorem i_246_165 : a_ins 246 165 = some (.invokevirtual 336, 3, 247, 4, 0) := by decide +kernel
theorem i_246_168 : a_ins 246 168 = some (.ifCond .eq (8), 3, 176, 0, 0) := by decide +kernel
theorem i_246_171 : a_ins 246 171 = some (.bipush (11), 2, 0, 0, 11) := by decide +kernel
theorem i_246_173 : a_ins 246 173 = some (.goto (4), 3, 177, 0, 0) := by decide +kernel
theorem i_246_176 : a_ins 246 176 = some (.iconst (-1), 1, 0, 0, -1) := by decide +kernel
theorem i_246_177 : a_ins 246 177 = some (.ireturn, 1, 0, 0, 0) := by decide +kernel
theorem i_247_0 : a_ins 247 0 = some (.iload_n 2, 1, 0, 0, 0) := by decide +kernel
theorem i_247_1 : a_ins 247 1 = some (.iload_n 1, 1, 0, 0, 0) := by decide +kernel
theorem i_247_2 : a_ins 247 2 = some (.isub, 1, 0, 0, 0) := by decide +kernel
theorem i_247_3 : a_ins 247 3 = some (.aload_n 3, 1, 0, 0, 0) := by decide +kernel
theorem i_247_4 : a_ins 247 4 = some (.invokevirtual 325, 3, 267, 1, 0) := by decide +kernel
theorem i_247_7 : a_ins 247 7 = some (.if_icmp .eq (5), 3, 12, 0, 0) := by decide +kernel
theorem i_247_10 : a_ins 247 10 = some (.iconst (0), 1, 0, 0, 0) := by decide +kernel
theorem i_247_11 : a_ins 247 11 = some (.ireturn, 1, 0, 0, 0) := by decide +kernel
theorem i_247_12 : a_ins 247 12 = some (.iconst (0), 1, 0, 0, 0) := by decide +kernel
theorem i_247_13 : a_ins 247 13 = some (.istore 4, 2, 0, 0, 0) := by decide +kernel
theorem i_247_15 : a_ins 247 15 = some (.iload 4, 2, 0, 0, 0) := by decide +kernel
theorem i_247_17 : a_ins 247 17 = some (.aload_n 3, 1, 0, 0, 0) := by decide +kernel
theorem i_247_18 : a_ins 247 18 = some (.invokevirtual 325, 3, 267, 1, 0) := by decide +kernel
theorem i_247_21 : a_ins 247 21 = some (.if_icmp .ge (29), 3, 50, 0, 0) := by decide +kernel
theorem i_247_24 : a_ins 247 24 = some (.aload_n 0, 1, 0, 0, 0) := by decide +kernel
theorem i_247_25 : a_ins 247 25 = some (.getfield 45, 3, 8, 17, 0) := by decide +kernel
theorem i_247_28 : a_ins 247 28 = some (.iload_n 1, 1, 0, 0, 0) := by decide +kernel
theorem i_247_29 : a_ins 247 29 = some (.iload 4, 2, 0, 0, 0) := by decide +kernel
theorem i_247_31 : a_ins 247 31 = some (.iadd, 1, 0, 0, 0) := by decide +kernel
theorem i_247_32 : a_ins 247 32 = some (.iaload, 1, 0, 0, 0) := by decide +kernel
theorem i_247_33 : a_ins 247 33 = some (.aload_n 3, 1, 0, 0, 0) := by decide +kernel
theorem i_247_34 : a_ins 247 34 = some (.iload 4, 2, 0, 0, 0) := by decide +kernel
theorem i_247_36 : a_ins 247 36 = some (.invokevirtual 330, 3, 269, 2, 0) := by decide +kernel
theorem i_247_39 : a_ins 247 39 = some (.if_icmp .eq (5), 3, 44, 0, 0) := by decide +kernel
theorem i_247_42 : a_ins 247 42 = some (.iconst (0), 1, 0, 0, 0) := by decide +kernel
theorem i_247_43 : a_ins 247 43 = some (.ireturn, 1, 0, 0, 0) := by decide +kernel
theorem i_247_44 : a_ins 247 44 = some (.iinc 4 (1), 3, 0, 0, 1) := by decide +kernel
theorem i_247_47 : a_ins 247 47 = some (.goto (-32), 3, 15, 0, 0) := by decide +kernel
theorem i_247_50 : a_ins 247 50 = some (.iconst (1), 1, 0, 0, 1) := by decide +kernel
theorem i_247_51 : a_ins 247 51 = some (.ireturn, 1, 0, 0, 0) := by decide +kernel
theorem i_248_0 : a_ins 248 0 = some (.aload_n 0, 1, 0, 0, 0) := by decide +kernel
theorem i_248_1 : a_ins 248 1 = some (.getfield 305, 3, 8, 21, 0) := by decide +kernel
theorem i_248_4 : a_ins 248 4 = some (.ifCond .eq (4), 3, 8, 0, 0) := by decide +kernel
theorem i_248_7 : a_ins 248 7 = some (.return_, 1, 0, 0, 0) := by decide +kernel
theorem i_248_8 : a_ins 248 8 = some (.aload_n 0, 1, 0, 0, 0) := by decide +kernel
theorem i_248_9 : a_ins 248 9 = some (.invokevirtual 314, 3, 244, 1, 0) := by decide +kernel
theorem i_248_12 : a_ins 248 12 = some (.iload_n 1, 1, 0, 0, 0) := by decide +kernel
theorem i_248_13 : a_ins 248 13 = some (.if_icmp .ne (16), 3, 29, 0, 0) := by decide +kernel
theorem i_248_16 : a_ins 248 16 = some (.aload_n 0, 1, 0, 0, 0) := by decide +kernel
theorem i_248_17 : a_ins 248 17 = some (.dup, 1, 0, 0, 0) := by decide +kernel
theorem i_248_18 : a_ins 248 18 = some (.getfield 308, 3, 8, 20, 0) := by decide +kernel
theorem i_248_21 : a_ins 248 21 = some (.iconst (1), 1, 0, 0, 1) := by decide +kernel
theorem i_248_22 : a_ins 248 22 = some (.iadd, 1, 0, 0, 0) := by decide +kernel
theorem i_248_23 : a_ins 248 23 = some (.putfield 308, 3, 8, 20, 0) := by decide +kernel
theorem i_248_26 : a_ins 248 26 = some (.goto (23), 3, 49, 0, 0) := by decide +kernel
theorem i_248_29 : a_ins 248 29 = some (.aload_n 0, 1, 0, 0, 0) := by decide +kernel
theorem i_248_30 : a_ins 248 30 = some (.aload_n 0, 1, 0, 0, 0) := by decide +kernel
theorem i_248_31 : a_ins 248 31 = some (.invokevirtual 362, 3, 243, 1, 0) := by decide +kernel
theorem i_248_34 : a_ins 248 34 = some (.ifCond .eq (7), 3, 41, 0, 0) := by decide +kernel
theorem i_248_37 : a_ins 248 37 = some (.iconst (1), 1, 0, 0, 1) := by decide +kernel
theorem i_248_38 : a_ins 248 38 = some (.goto (4), 3, 42, 0, 0) := by decide +kernel
theorem i_248_41 : a_ins 248 41 = some (.iconst (2), 1, 0, 0, 2) := by decide +kernel
theorem i_248_42 : a_ins 248 42 = some (.aload_n 0, 1, 0, 0, 0) := by decide +kernel
theorem i_248_43 : a_ins 248 43 = some (.getfield 308, 3, 8, 20, 0) := by decide +kernel
theorem i_248_46 : a_ins 248 46 = some (.invokevirtual 365, 3, 245, 3, 0) := by decide +kernel
theorem i_248_49 : a_ins 248 49 = some (.return_, 1, 0, 0, 0) := by decide +kernel
theorem i_249_0 : a_ins 249 0 = some (.aload_n 0, 1, 0, 0, 0) := by decide +kernel
theorem i_249_1 : a_ins 249 1 = some (.getfield 305, 3, 8, 21, 0) := by decide +kernel
theorem i_249_4 : a_ins 249 4 = some (.ifCond .eq (5), 3, 9, 0, 0) := by decide +kernel
theorem i_249_7 : a_ins 249 7 = some (.iconst (-1), 1, 0, 0, -1) := by decide +kernel
theorem i_249_8 : a_ins 249 8 = some (.ireturn, 1, 0, 0, 0) := by decide +kernel
theorem i_249_9 : a_ins 249 9 = some (.aload_n 0, 1, 0, 0, 0) := by decide +kernel
theorem i_249_10 : a_ins 249 10 = some (.invokevirtual 371, 3, 250, 1, 0) := by decide +kernel
theorem i_249_13 : a_ins 249 13 = some (.ifCond .ne (25), 3, 38, 0, 0) := by decide +kernel
theorem i_249_16 : a_ins 249 16 = some (.aload_n 0, 1, 0, 0, 0) := by decide +kernel
theorem i_249_17 : a_ins 249 17 = some (.aload_n 0, 1, 0, 0, 0) := by decide +kernel
theorem i_249_18 : a_ins 249 18 = some (.invokevirtual 362, 3, 243, 1, 0) := by decide +kernel
theorem i_249_21 : a_ins 249 21 = some (.ifCond .eq (7), 3, 28, 0, 0) := by decide +kernel
theorem i_249_24 : a_ins 249 24 = some (.iconst (1), 1, 0, 0, 1) := by decide +kernel
theorem i_249_25 : a_ins 249 25 = some (.goto (4), 3, 29, 0, 0) := by decide +kernel
theorem i_249_28 : a_ins 249 28 = some (.iconst (2), 1, 0, 0, 2) := by decide +kernel
theorem i_249_29 : a_ins 249 29 = some (.aload_n 0, 1, 0, 0, 0) := by decide +kernel
theorem i_249_30 : a_ins 249 30 = some (.getfield 308, 3, 8, 20, 0) := by decide +kernel
theorem i_249_33 : a_ins 249 33 = some (.invokevirtual 365, 3, 245, 3, 0) := by decide +kernel
theorem i_249_36 : a_ins 249 36 = some (.iconst (-1), 1, 0, 0, -1) := by decide +kernel
theorem i_249_37 : a_ins 249 37 = some (.ireturn, 1, 0, 0, 0) := by decide +kernel
theorem i_249_38 : a_ins 249 38 = some (.aload_n 0, 1, 0, 0, 0) := by decide +kernel
theorem i_249_39 : a_ins 249 39 = some (.dup, 1, 0, 0, 0) := by decide +kernel
theorem i_249_40 : a_ins 249 40 = some (.getfield 308, 3, 8, 20, 0) := by decide +kernel
theorem i_249_43 : a_ins 249 43 = some (.iconst (1), 1, 0, 0, 1) := by decide +kernel
theorem i_249_44 : a_ins 249 44 = some (.iadd, 1, 0, 0, 0) := by decide +kernel
theorem i_249_45 : a_ins 249 45 = some (.putfield 308, 3, 8, 20, 0) := by decide +kernel
theorem i_249_48 : a_ins 249 48 = some (.aload_n 0, 1, 0, 0, 0) := by decide +kernel
theorem i_249_49 : a_ins 249 49 = some (.getfield 45, 3, 8, 17, 0) := by decide +kernel
theorem i_249_52 : a_ins 249 52 = some (.aload_n 0, 1, 0, 0, 0) := by decide +kernel
theorem i_249_53 : a_ins 249 53 = some (.getfield 308, 3, 8, 20, 0) := by decide +kernel
theorem i_249_56 : a_ins 249 56 = some (.iconst (1), 1, 0, 0, 1) := by decide +kernel
theorem i_249_57 : a_ins 249 57 = some (.isub, 1, 0, 0, 0) := by decide +kernel
theorem i_249_58 : a_ins 249 58 = some (.iaload, 1, 0, 0, 0) := by decide +kernel
theorem i_249_59 : a_ins 249 59 = some (.bipush (48), 2, 0, 0, 48) := by decide +kernel
theorem i_249_61 : a_ins 249 61 = some (.isub, 1, 0, 0, 0) := by decide +kernel
theorem i_249_62 : a_ins 249 62 = some (.ireturn, 1, 0, 0, 0) := by decide +kernel
theorem i_250_0 : a_ins 250 0 = some (.aload_n 0, 1, 0, 0, 0) := by decide +kernel
theorem i_250_1 : a_ins 250 1 = some (.invokevirtual 314, 3, 244, 1, 0) := by decide +kernel
theorem i_250_4 : a_ins 250 4 = some (.i2l, 1, 0, 0, 0) := by decide +kernel
theorem i_250_5 : a_ins 250 5 = some (.ldc2_w 321, 3, 0, 0, 48) := by decide +kernel
theorem i_250_8 : a_ins 250 8 = some (.ldc2_w 323, 3, 0, 0, 57) := by decide +kernel
theorem i_250_11 : a_ins 250 11 = some (.invokestatic 68, 3, 147, 3, 0) := by decide +kernel
theorem i_250_14 : a_ins 250 14 = some (.ireturn, 1, 0, 0, 0) := by decide +kernel
theorem i_251_0 : a_ins 251 0 = some (.aload_n 0, 1, 0, 0, 0) := by decide +kernel
theorem i_251_1 : a_ins 251 1 = some (.getfield 305, 3, 8, 21, 0) := by decide +kernel
theorem i_251_4 : a_ins 251 4 = some (.ifCond .ne (11), 3, 15, 0, 0) := by decide +kernel
theorem i_251_7 : a_ins 251 7 = some (.aload_n 0, 1, 0, 0, 0) := by decide +kernel
theorem i_251_8 : a_ins 251 8 = some (.invokevirtual 314, 3, 244, 1, 0) := by decide +kernel
theorem i_251_11 : a_ins 251 11 = some (.iload_n 1, 1, 0, 0, 0) := by decide +kernel
theorem i_251_12 : a_ins 251 12 = some (.if_icmp .eq (5), 3, 17, 0, 0) := by decide +kernel
theorem i_251_15 : a_ins 251 15 = some (.iconst (0), 1, 0, 0, 0) := by decide +kernel
theorem i_251_16 : a_ins 251 16 = some (.ireturn, 1, 0, 0, 0) := by decide +kernel
theorem i_251_17 : a_ins 251 17 = some (.aload_n 0, 1, 0, 0, 0) := by decide +kernel
theorem i_251_18 : a_ins 251 18 = some (.dup, 1, 0, 0, 0) := by decide +kernel
theorem i_251_19 : a_ins 251 19 = some (.getfield 308, 3, 8, 20, 0) := by decide +kernel
theorem i_251_22 : a_ins 251 22 = some (.iconst (1), 1, 0, 0, 1) := by decide +kernel
theorem i_251_23 : a_ins 251 23 = some (.iadd, 1, 0, 0, 0) := by decide +kernel
theorem i_251_24 : a_ins 251 24 = some (.putfield 308, 3, 8, 20, 0) := by decide +kernel
theorem i_251_27 : a_ins 251 27 = some (.iconst (1), 1, 0, 0, 1) := by decide +kernel
theorem i_251_28 : a_ins 251 28 = some (.ireturn, 1, 0, 0, 0) := by decide +kernel
theorem i_252_0 : a_ins 252 0 = some (.iload_n 1, 1, 0, 0, 0) := by decide +kernel
theorem i_252_1 : a_ins 252 1 = some (.tableswitch (107) (0) (8) #[51, 57, 63, 69, 75, 81, 88, 94, 100], 51, 0, 0, 0) := by decide +kernel
theorem i_252_52 : a_ins 252 52 = some (.aload_n 0, 1, 0, 0, 0) := by decide +kernel
theorem i_252_53 : a_ins 252 53 = some (.iload_n 2, 1, 0, 0, 0) := by decide +kernel
theorem i_252_54 : a_ins 252 54 = some (.invokevirtual 199, 3, 164, 2, 0) := by decide +kernel
theorem i_252_57 : a_ins 252 57 = some (.ireturn, 1, 0, 0, 0) := by decide +kernel
theorem i_252_58 : a_ins 252 58 = some (.aload_n 0, 1, 0, 0, 0) := by decide +kernel
theorem i_252_59 : a_ins 252 59 = some (.iload_n 2, 1, 0, 0, 0) := by decide +kernel
theorem i_252_60 : a_ins 252 60 = some (.invokevirtual 202, 3, 176, 2, 0) := by decide +kernel
theorem i_252_63 : a_ins 252 63 = some (.ireturn, 1, 0, 0, 0) := by decide +kernel
theorem i_252_64 : a_ins 252 64 = some (.aload_n 0, 1, 0, 0, 0) := by decide +kernel
theorem i_252_65 : a_ins 252 65 = some (.iload_n 2, 1, 0, 0, 0) := by decide +kernel
theorem i_252_66 : a_ins 252 66 = some (.invokevirtual 205, 3, 178, 2, 0) := by decide +kernel
theorem i_252_69 : a_ins 252 69 = some (.ireturn, 1, 0, 0, 0) := by decide +kernel
theorem i_252_70 : a_ins 252 70 = some (.aload_n 0, 1, 0, 0, 0) := by decide +kernel
theorem i_252_71 : a_ins 252 71 = some (.iload_n 2, 1, 0, 0, 0) := by decide +kernel
theorem i_252_72 : a_ins 252 72 = some (.invokevirtual 208, 3, 181, 2, 0) := by decide +kernel
theorem i_252_75 : a_ins 252 75 = some (.ireturn, 1, 0, 0, 0) := by decide +kernel
theorem i_252_76 : a_ins 252 76 = some (.aload_n 0, 1, 0, 0, 0) := by decide +kernel
theorem i_252_77 : a_ins 252 77 = some (.iload_n 2, 1, 0, 0, 0) := by decide +kernel
theorem i_252_78 : a_ins 252 78 = some (.invokevirtual 211, 3, 183, 2, 0) := by decide +kernel
theorem i_252_81 : a_ins 252 81 = some (.ireturn, 1, 0, 0, 0) := by decide +kernel
theorem i_252_82 : a_ins 252 82 = some (.aload_n 0, 1, 0, 0, 0) := by decide +kernel
theorem i_252_83 : a_ins 252 83 = some (.iload_n 2, 1, 0, 0, 0) := by decide +kernel
theorem i_252_84 : a_ins 252 84 = some (.iload_n 3, 1, 0, 0, 0) := by decide +kernel
theorem i_252_85 : a_ins 252 85 = some (.invokevirtual 217, 3, 187, 3, 0) := by decide +kernel
theorem i_252_88 : a_ins 252 88 = some (.ireturn, 1, 0, 0, 0) := by decide +kernel
theorem i_252_89 : a_ins 252 89 = some (.aload_n 0, 1, 0, 0, 0) := by decide +kernel
theorem i_252_90 : a_ins 252 90 = some (.iload_n 2, 1, 0, 0, 0) := by decide +kernel
theorem i_252_91 : a_ins 252 91 = some (.invokevirtual 220, 3, 194, 2, 0) := by decide +kernel
theorem i_252_94 : a_ins 252 94 = some (.ireturn, 1, 0, 0, 0) := by decide +kernel
theorem i_252_95 : a_ins 252 95 = some (.aload_n 0, 1, 0, 0, 0) := by decide +kernel
theorem i_252_96 : a_ins 252 96 = some (.iconst (0), 1, 0, 0, 0) := by decide +kernel
theorem i_252_97 : a_ins 252 97 = some (.invokevirtual 214, 3, 185, 2, 0) := by decide +kernel
theorem i_252_100 : a_ins 252 100 = some (.ireturn, 1, 0, 0, 0) := by decide +kernel
theorem i_252_101 : a_ins 252 101 = some (.aload_n 0, 1, 0, 0, 0) := by decide +kernel
theorem i_252_102 : a_ins 252 102 = some (.iload_n 2, 1, 0, 0, 0) := by decide +kernel
theorem i_252_103 : a_ins 252 103 = some (.iload_n 3, 1, 0, 0, 0) := by decide +kernel
theorem i_252_104 : a_ins 252 104 = some (.invokevirtual 188, 3, 153, 3, 0) := by decide +kernel
theorem i_252_107 : a_ins 252 107 = some (.ireturn, 1, 0, 0, 0) := by decide +kernel
theorem i_252_108 : a_ins 252 108 = some (.aload_n 0, 1, 0, 0, 0) := by decide +kernel
theorem i_252_109 : a_ins 252 109 = some (.iconst (-1), 1, 0, 0, -1) := by decide +kernel
theorem i_252_110 : a_ins 252 110 = some (.invokevirtual 223, 3, 197, 2, 0) := by decide +kernel
theorem i_252_113 : a_ins 252 113 = some (.ireturn, 1, 0, 0, 0) := by decide +kernel
theorem i_253_0 : a_ins 253 0 = some (.aload_n 0, 1, 0, 0, 0) := by decide +kernel
theorem i_253_1 : a_ins 253 1 = some (.iconst (0), 1, 0, 0, 0) := by decide +kernel
theorem i_253_2 : a_ins 253 2 = some (.putfield 1, 3, 8, 0, 0) := by decide +kernel
theorem i_253_5 : a_ins 253 5 = some (.iload_n 1, 1, 0, 0, 0) := by decide +kernel
theorem i_253_6 : a_ins 253 6 = some (.ifCond .ne (10), 3, 16, 0, 0) := by decide +kernel
theorem i_253_9 : a_ins 253 9 = some (.aload_n 0, 1, 0, 0, 0) := by decide +kernel
theorem i_253_10 : a_ins 253 10 = some (.getfield 305, 3, 8, 21, 0) := by decide +kernel
theorem i_253_13 : a_ins 253 13 = some (.goto (28), 3, 41, 0, 0) := by decide +kernel
theorem i_253_16 : a_ins 253 16 = some (.iload_n 1, 1, 0, 0, 0) := by decide +kernel
theorem i_253_17 : a_ins 253 17 = some (.iconst (1), 1, 0, 0, 1) := by decide +kernel
theorem i_253_18 : a_ins 253 18 = some (.if_icmp .ne (10), 3, 28, 0, 0) := by decide +kernel
theorem i_253_21 : a_ins 253 21 = some (.aload_n 0, 1, 0, 0, 0) := by decide +kernel
theorem i_253_22 : a_ins 253 22 = some (.getfield 48, 3, 8, 22, 0) := by decide +kernel
theorem i_253_25 : a_ins 253 25 = some (.goto (16), 3, 41, 0, 0) := by decide +kernel
theorem i_253_28 : a_ins 253 28 = some (.iload_n 1, 1, 0, 0, 0) := by decide +kernel
theorem i_253_29 : a_ins 253 29 = some (.iconst (2), 1, 0, 0, 2) := by decide +kernel
theorem i_253_30 : a_ins 253 30 = some (.if_icmp .ne (10), 3, 40, 0, 0) := by decide +kernel
theorem i_253_33 : a_ins 253 33 = some (.aload_n 0, 1, 0, 0, 0) := by decide +kernel
theorem i_253_34 : a_ins 253 34 = some (.getfield 391, 3, 8, 23, 0) := by decide +kernel
theorem i_253_37 : a_ins 253 37 = some (.goto (4), 3, 41, 0, 0) := by decide +kernel
theorem i_253_40 : a_ins 253 40 = some (.iconst (-1), 1, 0, 0, -1) := by decide +kernel
theorem i_253_41 : a_ins 253 41 = some (.ireturn, 1, 0, 0, 0) := by decide +kernel
theorem i_254_0 : a_ins 254 0 = some (.aload_n 0, 1, 0, 0, 0) := by decide +kernel
theorem i_254_1 : a_ins 254 1 = some (.iconst (0), 1, 0, 0, 0) := by decide +kernel
theorem i_254_2 : a_ins 254 2 = some (.putfield 1, 3, 8, 0, 0) := by decide +kernel
theorem i_254_5 : a_ins 254 5 = some (.aload_n 0, 1, 0, 0, 0) := by decide +kernel
theorem i_254_6 : a_ins 254 6 = some (.getfield 13, 3, 8, 1, 0) := by decide +kernel
theorem i_254_9 : a_ins 254 9 = some (.bipush (35), 2, 0, 0, 35) := by decide +kernel
theorem i_254_11 : a_ins 254 11 = some (.iaload, 1, 0, 0, 0) := by decide +kernel
theorem i_254_12 : a_ins 254 12 = some (.ireturn, 1, 0, 0, 0) := by decide +kernel
theorem i_255_0 : a_ins 255 0 = some (.aload_n 0, 1, 0, 0, 0) := by decide +kernel
theorem i_255_1 : a_ins 255 1 = some (.iconst (0), 1, 0, 0, 0) := by decide +kernel
theorem i_255_2 : a_ins 255 2 = some (.putfield 1, 3, 8, 0, 0) := by decide +kernel
theorem i_255_5 : a_ins 255 5 = some (.iload_n 1, 1, 0, 0, 0) := by decide +kernel
theorem i_255_6 : a_ins 255 6 = some (.i2l, 1, 0, 0, 0) := by decide +kernel
theorem i_255_7 : a_ins 255 7 = some (.lconst 0, 1, 0, 0, 0) := by decide +kernel
theorem i_255_8 : a_ins 255 8 = some (.aload_n 0, 1, 0, 0, 0) := by decide +kernel
theorem i_255_9 : a_ins 255 9 = some (.getfield 13, 3, 8, 1, 0) := by decide +kernel
theorem i_255_12 : a_ins 255 12 = some (.bipush (35), 2, 0, 0, 35) := by decide +kernel
theorem i_255_14 : a_ins 255 14 = some (.iaload, 1, 0, 0, 0) := by decide +kernel
theorem i_255_15 : a_ins 255 15 = some (.iconst (1), 1, 0, 0, 1) := by decide +kernel
theorem i_255_16 : a_ins 255 16 = some (.isub, 1, 0, 0, 0) := by decide +kernel
theorem i_255_17 : a_ins 255 17 = some (.i2l, 1, 0, 0, 0) := by decide +kernel
theorem i_255_18 : a_ins 255 18 = some (.invokestatic 68, 3, 147, 3, 0) := by decide +kernel
theorem i_255_21 : a_ins 255 21 = some (.ifCond .ne (6), 3, 27, 0, 0) := by decide +kernel
theorem i_255_24 : a_ins 255 24 = some (.bipush (-2), 2, 0, 0, -2) := by decide +kernel
theorem i_255_26 : a_ins 255 26 = some (.ireturn, 1, 0, 0, 0) := by decide +kernel
theorem i_255_27 : a_ins 255 27 = some (.iload_n 2, 1, 0, 0, 0) := by decide +kernel
theorem i_255_28 : a_ins 255 28 = some (.iconst (-1), 1, 0, 0, -1) := by decide +kernel
theorem i_255_29 : a_ins 255 29 = some (.if_icmp .ge (6), 3, 35, 0, 0) := by decide +kernel
theorem i_255_32 : a_ins 255 32 = some (.bipush (-3), 2, 0, 0, -3) := by decide +kernel
theorem i_255_34 : a_ins 255 34 = some (.ireturn, 1, 0, 0, 0) := by decide +kernel
theorem i_255_35 : a_ins 255 35 = some (.bipush (36), 2, 0, 0, 36) := by decide +kernel
theorem i_255_37 : a_ins 255 37 = some (.iconst (3), 1, 0, 0, 3) := by decide +kernel
theorem i_255_38 : a_ins 255 38 = some (.iload_n 1, 1, 0, 0, 0) := by decide +kernel
theorem i_255_39 : a_ins 255 39 = some (.imul, 1, 0, 0, 0) := by decide +kernel
theorem i_255_40 : a_ins 255 40 = some (.iadd, 1, 0, 0, 0) := by decide +kernel
theorem i_255_41 : a_ins 255 41 = some (.istore_n 3, 1, 0, 0, 0) := by decide +kernel
theorem i_255_42 : a_ins 255 42 = some (.aload_n 0, 1, 0, 0, 0) := by decide +kernel
theorem i_255_43 : a_ins 255 43 = some (.getfield 13, 3, 8, 1, 0) := by decide +kernel
theorem i_255_46 : a_ins 255 46 = some (.iload_n 3, 1, 0, 0, 0) := by decide +kernel
theorem i_255_47 : a_ins 255 47 = some (.iconst (1), 1, 0, 0, 1) := by decide +kernel
theorem i_255_48 : a_ins 255 48 = some (.iadd, 1, 0, 0, 0) := by decide +kernel
theorem i_255_49 : a_ins 255 49 = some (.iaload, 1, 0, 0, 0) := by decide +kernel
theorem i_255_50 : a_ins 255 50 = some (.invokestatic 416, 3, 256, 1, 0) := by decide +kernel
theorem i_255_53 : a_ins 255 53 = some (.istore 4, 2, 0, 0, 0) := by decide +kernel
theorem i_255_55 : a_ins 255 55 = some (.iload_n 2, 1, 0, 0, 0) := by decide +kernel
theorem i_255_56 : a_ins 255 56 = some (.iconst (-1), 1, 0, 0, -1) := by decide +kernel
theorem i_255_57 : a_ins 255 57 = some (.if_icmp .ne (20), 3, 77, 0, 0) := by decide +kernel
theorem i_255_60 : a_ins 255 60 = some (.iconst (3), 1, 0, 0, 3) := by decide +kernel
theorem i_255_61 : a_ins 255 61 = some (.iload 4, 2, 0, 0, 0) := by decide +kernel
theorem i_255_63 : a_ins 255 63 = some (.iadd, 1, 0, 0, 0) := by decide +kernel
theorem i_255_64 : a_ins 255 64 = some (.aload_n 0, 1, 0, 0, 0) := by decide +kernel
theorem i_255_65 : a_ins 255 65 = some (.getfield 13, 3, 8, 1, 0) := by decide +kernel
theorem i_255_68 : a_ins 255 68 = some (.iload_n 3, 1, 0, 0, 0) := by decide +kernel
theorem i_255_69 : a_ins 255 69 = some (.iconst (2), 1, 0, 0, 2) := by decide +kernel
theorem i_255_70 : a_ins 255 70 = some (.iadd, 1, 0, 0, 0) := by decide +kernel
theorem i_255_71 : a_ins 255 71 = some (.iaload, 1, 0, 0, 0) := by decide +kernel
theorem i_255_72 : a_ins 255 72 = some (.invokestatic 416, 3, 256, 1, 0) := by decide +kernel
theorem i_255_75 : a_ins 255 75 = some (.iadd, 1, 0, 0, 0) := by decide +kernel
theorem i_255_76 : a_ins 255 76 = some (.ireturn, 1, 0, 0, 0) := by decide +kernel
theorem i_255_77 : a_ins 255 77 = some (.iload_n 2, 1, 0, 0, 0) := by decide +kernel
theorem i_255_78 : a_ins 255 78 = some (.ifCond .ne (13), 3, 91, 0, 0) := by decide +kernel
theorem i_255_81 : a_ins 255 81 = some (.bipush (48), 2, 0, 0, 48) := by decide +kernel
theorem i_255_83 : a_ins 255 83 = some (.aload_n 0, 1, 0, 0, 0) := by decide +kernel
theorem i_255_84 : a_ins 255 84 = some (.getfield 13, 3, 8, 1, 0) := by decide +kernel
theorem i_255_87 : a_ins 255 87 = some (.iload_n 3, 1, 0, 0, 0) := by decide +kernel
theorem i_255_88 : a_ins 255 88 = some (.iaload, 1, 0, 0, 0) := by decide +kernel
theorem i_255_89 : a_ins 255 89 = some (.iadd, 1, 0, 0, 0) := by decide +kernel
theorem i_255_90 : a_ins 255 90 = some (.ireturn, 1, 0, 0, 0) := by decide +kernel
theorem i_255_91 : a_ins 255 91 = some (.iload_n 2, 1, 0, 0, 0) := by decide +kernel
theorem i_255_92 : a_ins 255 92 = some (.iconst (1), 1, 0, 0, 1) := by decide +kernel
theorem i_255_93 : a_ins 255 93 = some (.if_icmp .eq (11), 3, 104, 0, 0) := by decide +kernel
theorem i_255_96 : a_ins 255 96 = some (.iload_n 2, 1, 0, 0, 0) := by decide +kernel
theorem i_255_97 : a_ins 255 97 = some (.iconst (2), 1, 0, 0, 2) := by decide +kernel
theorem i_255_98 : a_ins 255 98 = some (.iload 4, 2, 0, 0, 0) := by decide +kernel
theorem i_255_100 : a_ins 255 100 = some (.iadd, 1, 0, 0, 0) := by decide +kernel
theorem i_255_101 : a_ins 255 101 = some (.if_icmp .ne (6), 3, 107, 0, 0) := by decide +kernel
theorem i_255_104 : a_ins 255 104 = some (.bipush (32), 2, 0, 0, 32) := by decide +kernel
theorem i_255_106 : a_ins 255 106 = some (.ireturn, 1, 0, 0, 0) := by decide +kernel
theorem i_255_107 : a_ins 255 107 = some (.iload_n 2, 1, 0, 0, 0) := by decide +kernel
theorem i_255_108 : a_ins 255 108 = some (.iconst (2), 1, 0, 0, 2) := by decide +kernel
theorem i_255_109 : a_ins 255 109 = some (.iload 4, 2, 0, 0, 0) := by decide +kernel
theorem i_255_111 : a_ins 255 111 = some (.iadd, 1, 0, 0, 0) := by decide +kernel
theorem i_255_112 : a_ins 255 112 = some (.if_icmp .ge (20), 3, 132, 0, 0) := by decide +kernel
theorem i_255_115 : a_ins 255 115 = some (.aload_n 0, 1, 0, 0, 0) := by decide +kernel
theorem i_255_116 : a_ins 255 116 = some (.getfield 13, 3, 8, 1, 0) := by decide +kernel
theorem i_255_119 : a_ins 255 119 = some (.iload_n 3, 1, 0, 0, 0) := by decide +kernel
theorem i_255_120 : a_ins 255 120 = some (.iconst (1), 1, 0, 0, 1) := by decide +kernel
theorem i_255_121 : a_ins 255 121 = some (.iadd, 1, 0, 0, 0) := by decide +kernel
theorem i_255_122 : a_ins 255 122 = some (.iaload, 1, 0, 0, 0) := by decide +kernel
theorem i_255_123 : a_ins 255 123 = some (.iload_n 2, 1, 0, 0, 0) := by decide +kernel
theorem i_255_124 : a_ins 255 124 = some (.iconst (2), 1, 0, 0, 2) := by decide +kernel
theorem i_255_125 : a_ins 255 125 = some (.isub, 1, 0, 0, 0) := by decide +kernel
theorem i_255_126 : a_ins 255 126 = some (.invokestatic 413, 3, 257, 2, 0) := by decide +kernel
theorem i_255_129 : a_ins 255 129 = some (.goto (20), 3, 149, 0, 0) := by decide +kernel
theorem i_255_132 : a_ins 255 132 = some (.aload_n 0, 1, 0, 0, 0) := by decide +kernel
theorem i_255_133 : a_ins 255 133 = some (.getfield 13, 3, 8, 1, 0) := by decide +kernel
theorem i_255_136 : a_ins 255 136 = some (.iload_n 3, 1, 0, 0, 0) := by decide +kernel
theorem i_255_137 : a_ins 255 137 = some (.iconst (2), 1, 0, 0, 2) := by decide +kernel
theorem i_255_138 : a_ins 255 138 = some (.iadd, 1, 0, 0, 0) := by decide +kernel
theorem i_255_139 : a_ins 255 139 = some (.iaload, 1, 0, 0, 0) := by decide +kernel
theorem i_255_140 : a_ins 255 140 = some (.iload_n 2, 1, 0, 0, 0) := by decide +kernel
theorem i_255_141 : a_ins 255 141 = some (.iconst (3), 1, 0, 0, 3) := by decide +kernel
theorem i_255_142 : a_ins 255 142 = some (.isub, 1, 0, 0, 0) := by decide +kernel
theorem i_255_143 : a_ins 255 143 = some (.iload 4, 2, 0, 0, 0) := by decide +kernel
theorem i_255_145 : a_ins 255 145 = some (.isub, 1, 0, 0, 0) := by decide +kernel
theorem i_255_146 : a_ins 255 146 = some (.invokestatic 413, 3, 257, 2, 0) := by decide +kernel
theorem i_255_149 : a_ins 255 149 = some (.ireturn, 1, 0, 0, 0) := by decide +kernel
theorem i_256_0 : a_ins 256 0 = some (.iconst (0), 1, 0, 0, 0) := by decide +kernel
theorem i_256_1 : a_ins 256 1 = some (.istore_n 1, 1, 0, 0, 0) := by decide +kernel
theorem i_256_2 : a_ins 256 2 = some (.iload_n 0, 1, 0, 0, 0) := by decide +kernel
theorem i_256_3 : a_ins 256 3 = some (.iload_n 1, 1, 0, 0, 0) := by decide +kernel
theorem i_256_4 : a_ins 256 4 = some (.invokestatic 413, 3, 257, 2, 0) := by decide +kernel
theorem i_256_7 : a_ins 256 7 = some (.iconst (-1), 1, 0, 0, -1) := by decide +kernel
theorem i_256_8 : a_ins 256 8 = some (.if_icmp .eq (9), 3, 17, 0, 0) := by decide +kernel
theorem i_256_11 : a_ins 256 11 = some (.iinc 1 (1), 3, 0, 0, 1) := by decide +kernel
theorem i_256_14 : a_ins 256 14 = some (.goto (-12), 3, 2, 0, 0) := by decide +kernel
theorem i_256_17 : a_ins 256 17 = some (.iload_n 1, 1, 0, 0, 0) := by decide +kernel
theorem i_256_18 : a_ins 256 18 = some (.ireturn, 1, 0, 0, 0) := by decide +kernel
theorem i_257_0 : a_ins 257 0 = some (.iload_n 0, 1, 0, 0, 0) := by decide +kernel
theorem i_257_1 : a_ins 257 1 = some (.ifCond .ne (9), 3, 10, 0, 0) := by decide +kernel
theorem i_257_4 : a_ins 257 4 = some (.ldc_w 401, 3, 1, 30, 0) := by decide +kernel
theorem i_257_7 : a_ins 257 7 = some (.goto (50), 3, 57, 0, 0) := by decide +kernel
theorem i_257_10 : a_ins 257 10 = some (.iload_n 0, 1, 0, 0, 0) := by decide +kernel
theorem i_257_11 : a_ins 257 11 = some (.iconst (1), 1, 0, 0, 1) := by decide +kernel
theorem i_257_12 : a_ins 257 12 = some (.if_icmp .ne (9), 3, 21, 0, 0) := by decide +kernel
theorem i_257_15 : a_ins 257 15 = some (.ldc_w 403, 3, 1, 31, 0) := by decide +kernel
theorem i_257_18 : a_ins 257 18 = some (.goto (39), 3, 57, 0, 0) := by decide +kernel
theorem i_257_21 : a_ins 257 21 = some (.iload_n 0, 1, 0, 0, 0) := by decide +kernel
theorem i_257_22 : a_ins 257 22 = some (.iconst (2), 1, 0, 0, 2) := by decide +kernel
theorem i_257_23 : a_ins 257 23 = some (.if_icmp .ne (9), 3, 32, 0, 0) := by decide +kernel
theorem i_257_26 : a_ins 257 26 = some (.ldc_w 405, 3, 1, 32, 0) := by decide +kernel
theorem i_257_29 : a_ins 257 29 = some (.goto (28), 3, 57, 0, 0) := by decide +kernel
theorem i_257_32 : a_ins 257 32 = some (.iload_n 0, 1, 0, 0, 0) := by decide +kernel
theorem i_257_33 : a_ins 257 33 = some (.iconst (3), 1, 0, 0, 3) := by decide +kernel
theorem i_257_34 : a_ins 257 34 = some (.if_icmp .ne (9), 3, 43, 0, 0) := by decide +kernel
theorem i_257_37 : a_ins 257 37 = some (.ldc_w 407, 3, 1, 33, 0) := by decide +kernel
theorem i_257_40 : a_ins 257 40 = some (.goto (17), 3, 57, 0, 0) := by decide +kernel
theorem i_257_43 : a_ins 257 43 = some (.iload_n 0, 1, 0, 0, 0) := by decide +kernel
theorem i_257_44 : a_ins 257 44 = some (.iconst (4), 1, 0, 0, 4) := by decide +kernel
theorem i_257_45 : a_ins 257 45 = some (.if_icmp .ne (9), 3, 54, 0, 0) := by decide +kernel
theorem i_257_48 : a_ins 257 48 = some (.ldc_w 409, 3, 1, 34, 0) := by decide +kernel
theorem i_257_51 : a_ins 257 51 = some (.goto (6), 3, 57, 0, 0) := by decide +kernel
theorem i_257_54 : a_ins 257 54 = some (.ldc_w 411, 3, 1, 35, 0) := by decide +kernel
theorem i_257_57 : a_ins 257 57 = some (.astore_n 2, 1, 0, 0, 0) := by decide +kernel
theorem i_257_58 : a_ins 257 58 = some (.iload_n 1, 1, 0, 0, 0) := by decide +kernel
theorem i_257_59 : a_ins 257 59 = some (.aload_n 2, 1, 0, 0, 0) := by decide +kernel
theorem i_257_60 : a_ins 257 60 = some (.invokevirtual 325, 3, 267, 1, 0) := by decide +kernel
theorem i_257_63 : a_ins 257 63 = some (.if_icmp .ge (11), 3, 74, 0, 0) := by decide +kernel
theorem i_257_66 : a_ins 257 66 = some (.aload_n 2, 1, 0, 0, 0) := by decide +kernel
theorem i_257_67 : a_ins 257 67 = some (.iload_n 1, 1, 0, 0, 0) := by decide +kernel
theorem i_257_68 : a_ins 257 68 = some (.invokevirtual 330, 3, 269, 2, 0) := by decide +kernel
theorem i_257_71 : a_ins 257 71 = some (.goto (4), 3, 75, 0, 0) := by decide +kernel
theorem i_257_74 : a_ins 257 74 = some (.iconst (-1), 1, 0, 0, -1) := by decide +kernel
theorem i_257_75 : a_ins 257 75 = some (.ireturn, 1, 0, 0, 0) := by decide +kernel
theorem i_258_0 : a_ins 258 0 = some (.aload_n 0, 1, 0, 0, 0) := by decide +kernel
theorem i_258_1 : a_ins 258 1 = some (.iconst (0), 1, 0, 0, 0) := by decide +kernel
theorem i_258_2 : a_ins 258 2 = some (.putfield 1, 3, 8, 0, 0) := by decide +kernel
theorem i_258_5 : a_ins 258 5 = some (.iload_n 1, 1, 0, 0, 0) := by decide +kernel
theorem i_258_6 : a_ins 258 6 = some (.i2l, 1, 0, 0, 0) := by decide +kernel
theorem i_258_7 : a_ins 258 7 = some (.lconst 1, 1, 0, 0, 1) := by decide +kernel
theorem i_258_8 : a_ins 258 8 = some (.ldc2_w 419, 3, 0, 0, 10) := by decide +kernel
theorem i_258_11 : a_ins 258 11 = some (.invokestatic 68, 3, 147, 3, 0) := by decide +kernel
theorem i_258_14 : a_ins 258 14 = some (.ifCond .eq (11), 3, 25, 0, 0) := by decide +kernel
theorem i_258_17 : a_ins 258 17 = some (.iload_n 1, 1, 0, 0, 0) := by decide +kernel
theorem i_258_18 : a_ins 258 18 = some (.aload_n 0, 1, 0, 0, 0) := by decide +kernel
theorem i_258_19 : a_ins 258 19 = some (.getfield 91, 3, 8, 5, 0) := by decide +kernel
theorem i_258_22 : a_ins 258 22 = some (.if_icmp .le (6), 3, 28, 0, 0) := by decide +kernel
theorem i_258_25 : a_ins 258 25 = some (.bipush (-3), 2, 0, 0, -3) := by decide +kernel
theorem i_258_27 : a_ins 258 27 = some (.ireturn, 1, 0, 0, 0) := by decide +kernel
theorem i_258_28 : a_ins 258 28 = some (.aload_n 0, 1, 0, 0, 0) := by decide +kernel
theorem i_258_29 : a_ins 258 29 = some (.dup, 1, 0, 0, 0) := by decide +kernel
theorem i_258_30 : a_ins 258 30 = some (.getfield 91, 3, 8, 5, 0) := by decide +kernel
theorem i_258_33 : a_ins 258 33 = some (.iload_n 1, 1, 0, 0, 0) := by decide +kernel
theorem i_258_34 : a_ins 258 34 = some (.isub, 1, 0, 0, 0) := by decide +kernel
theorem i_258_35 : a_ins 258 35 = some (.putfield 91, 3, 8, 5, 0) := by decide +kernel
theorem i_258_38 : a_ins 258 38 = some (.aload_n 0, 1, 0, 0, 0) := by decide +kernel
theorem i_258_39 : a_ins 258 39 = some (.getfield 17, 3, 8, 2, 0) := by decide +kernel
theorem i_258_42 : a_ins 258 42 = some (.sipush (216), 3, 0, 0, 216) := by decide +kernel
theorem i_258_45 : a_ins 258 45 = some (.aload_n 0, 1, 0, 0, 0) := by decide +kernel
theorem i_258_46 : a_ins 258 46 = some (.getfield 91, 3, 8, 5, 0) := by decide +kernel
theorem i_258_49 : a_ins 258 49 = some (.imul, 1, 0, 0, 0) := by decide +kernel
theorem i_258_50 : a_ins 258 50 = some (.aload_n 0, 1, 0, 0, 0) := by decide +kernel
theorem i_258_51 : a_ins 258 51 = some (.getfield 13, 3, 8, 1, 0) := by decide +kernel
theorem i_258_54 : a_ins 258 54 = some (.iconst (0), 1, 0, 0, 0) := by decide +kernel
theorem i_258_55 : a_ins 258 55 = some (.invokestatic 87, 3, 149, 4, 0) := by decide +kernel
theorem i_258_58 : a_ins 258 58 = some (.aload_n 0, 1, 0, 0, 0) := by decide +kernel
theorem i_258_59 : a_ins 258 59 = some (.getfield 91, 3, 8, 5, 0) := by decide +kernel
theorem i_258_62 : a_ins 258 62 = some (.ireturn, 1, 0, 0, 0) := by decide +kernel
theorem i_259_0 : a_ins 259 0 = some (.aload_n 0, 1, 0, 0, 0) := by decide +kernel
theorem i_259_1 : a_ins 259 1 = some (.iconst (0), 1, 0, 0, 0) := by decide +kernel
theorem i_259_2 : a_ins 259 2 = some (.putfield 1, 3, 8, 0, 0) := by decide +kernel
theorem i_259_5 : a_ins 259 5 = some (.iload_n 1, 1, 0, 0, 0) := by decide +kernel
theorem i_259_6 : a_ins 259 6 = some (.i2l, 1, 0, 0, 0) := by decide +kernel
theorem i_259_7 : a_ins 259 7 = some (.lconst 0, 1, 0, 0, 0) := by decide +kernel
theorem i_259_8 : a_ins 259 8 = some (.lconst 1, 1, 0, 0, 1) := by decide +kernel
theorem i_259_9 : a_ins 259 9 = some (.invokestatic 68, 3, 147, 3, 0) := by decide +kernel
theorem i_259_12 : a_ins 259 12 = some (.ifCond .ne (6), 3, 18, 0, 0) := by decide +kernel
theorem i_259_15 : a_ins 259 15 = some (.bipush (-2), 2, 0, 0, -2) := by decide +kernel
theorem i_259_17 : a_ins 259 17 = some (.ireturn, 1, 0, 0, 0) := by decide +kernel
theorem i_259_18 : a_ins 259 18 = some (.aload_n 0, 1, 0, 0, 0) := by decide +kernel
theorem i_259_19 : a_ins 259 19 = some (.getfield 13, 3, 8, 1, 0) := by decide +kernel
theorem i_259_22 : a_ins 259 22 = some (.iconst (0), 1, 0, 0, 0) := by decide +kernel
theorem i_259_23 : a_ins 259 23 = some (.aload_n 0, 1, 0, 0, 0) := by decide +kernel
theorem i_259_24 : a_ins 259 24 = some (.getfield 13, 3, 8, 1, 0) := by decide +kernel
theorem i_259_27 : a_ins 259 27 = some (.sipush (216), 3, 0, 0, 216) := by decide +kernel
theorem i_259_30 : a_ins 259 30 = some (.iload_n 1, 1, 0, 0, 0) := by decide +kernel
theorem i_259_31 : a_ins 259 31 = some (.iconst (1), 1, 0, 0, 1) := by decide +kernel
theorem i_259_32 : a_ins 259 32 = some (.iadd, 1, 0, 0, 0) := by decide +kernel
theorem i_259_33 : a_ins 259 33 = some (.imul, 1, 0, 0, 0) := by decide +kernel
theorem i_259_34 : a_ins 259 34 = some (.invokestatic 87, 3, 149, 4, 0) := by decide +kernel
theorem i_259_37 : a_ins 259 37 = some (.aload_n 0, 1, 0, 0, 0) := by decide +kernel
theorem i_259_38 : a_ins 259 38 = some (.getfield 26, 3, 8, 6, 0) := by decide +kernel
theorem i_259_41 : a_ins 259 41 = some (.iload_n 1, 1, 0, 0, 0) := by decide +kernel
theorem i_259_42 : a_ins 259 42 = some (.iconst (1), 1, 0, 0, 1) := by decide +kernel
theorem i_259_43 : a_ins 259 43 = some (.bastore, 1, 0, 0, 0) := by decide +kernel
theorem i_259_44 : a_ins 259 44 = some (.iconst (0), 1, 0, 0, 0) := by decide +kernel
theorem i_259_45 : a_ins 259 45 = some (.ireturn, 1, 0, 0, 0) := by decide +kernel
theorem i_260_0 : a_ins 260 0 = some (.aload_n 0, 1, 0, 0, 0) := by decide +kernel
theorem i_260_1 : a_ins 260 1 = some (.iconst (0), 1, 0, 0, 0) := by decide +kernel
theorem i_260_2 : a_ins 260 2 = some (.putfield 1, 3, 8, 0, 0) := by decide +kernel
theorem i_260_5 : a_ins 260 5 = some (.iload_n 1, 1, 0, 0, 0) := by decide +kernel
theorem i_260_6 : a_ins 260 6 = some (.i2l, 1, 0, 0, 0) := by decide +kernel
theorem i_260_7 : a_ins 260 7 = some (.lconst 0, 1, 0, 0, 0) := by decide +kernel
theorem i_260_8 : a_ins 260 8 = some (.lconst 1, 1, 0, 0, 1) := by decide +kernel
theorem i_260_9 : a_ins 260 9 = some (.invokestatic 68, 3, 147, 3, 0) := by decide +kernel
theorem i_260_12 : a_ins 260 12 = some (.ifCond .ne (6), 3, 18, 0, 0) := by decide +kernel
theorem i_260_15 : a_ins 260 15 = some (.bipush (-2), 2, 0, 0, -2) := by decide +kernel
theorem i_260_17 : a_ins 260 17 = some (.ireturn, 1, 0, 0, 0) := by decide +kernel
theorem i_260_18 : a_ins 260 18 = some (.aload_n 0, 1, 0, 0, 0) := by decide +kernel
theorem i_260_19 : a_ins 260 19 = some (.getfield 26, 3, 8, 6, 0) := by decide +kernel
theorem i_260_22 : a_ins 260 22 = some (.iload_n 1, 1, 0, 0, 0) := by decide +kernel
theorem i_260_23 : a_ins 260 23 = some (.baload, 1, 0, 0, 0) := by decide +kernel
theorem i_260_24 : a_ins 260 24 = some (.ifCond .ne (6), 3, 30, 0, 0) := by decide +kernel
theorem i_260_27 : a_ins 260 27 = some (.bipush (-6), 2, 0, 0, -6) := by decide +kernel
theorem i_260_29 : a_ins 260 29 = some (.ireturn, 1, 0, 0, 0) := by decide +kernel
theorem i_260_30 : a_ins 260 30 = some (.aload_n 0, 1, 0, 0, 0) := by decide +kernel
theorem i_260_31 : a_ins 260 31 = some (.getfield 13, 3, 8, 1, 0) := by decide +kernel
theorem i_260_34 : a_ins 260 34 = some (.sipush (216), 3, 0, 0, 216) := by decide +kernel
theorem i_260_37 : a_ins 260 37 = some (.iload_n 1, 1, 0, 0, 0) := by decide +kernel
theorem i_260_38 : a_ins 260 38 = some (.iconst (1), 1, 0, 0, 1) := by decide +kernel
theorem i_260_39 : a_ins 260 39 = some (.iadd, 1, 0, 0, 0) := by decide +kernel
theorem i_260_40 : a_ins 260 40 = some (.imul, 1, 0, 0, 0) := by decide +kernel
theorem i_260_41 : a_ins 260 41 = some (.aload_n 0, 1, 0, 0, 0) := by decide +kernel
theorem i_260_42 : a_ins 260 42 = some (.getfield 13, 3, 8, 1, 0) := by decide +kernel
theorem i_260_45 : a_ins 260 45 = some (.iconst (0), 1, 0, 0, 0) := by decide +kernel
theorem i_260_46 : a_ins 260 46 = some (.invokestatic 87, 3, 149, 4, 0) := by decide +kernel
theorem i_260_49 : a_ins 260 49 = some (.aload_n 0, 1, 0, 0, 0) := by decide +kernel
theorem i_260_50 : a_ins 260 50 = some (.iconst (0), 1, 0, 0, 0) := by decide +kernel
theorem i_260_51 : a_ins 260 51 = some (.putfield 91, 3, 8, 5, 0) := by decide +kernel
theorem i_260_54 : a_ins 260 54 = some (.iconst (0), 1, 0, 0, 0) := by decide +kernel
theorem i_260_55 : a_ins 260 55 = some (.ireturn, 1, 0, 0, 0) := by decide +kernel
theorem i_261_0 : a_ins 261 0 = some (.aload_n 0, 1, 0, 0, 0) := by decide +kernel
theorem i_261_1 : a_ins 261 1 = some (.iconst (0), 1, 0, 0, 0) := by decide +kernel
theorem i_261_2 : a_ins 261 2 = some (.putfield 1, 3, 8, 0, 0) := by decide +kernel
theorem i_261_5 : a_ins 261 5 = some (.iload_n 1, 1, 0, 0, 0) := by decide +kernel
theorem i_261_6 : a_ins 261 6 = some (.tableswitch (100) (0) (7) #[46, 53, 60, 67, 74, 81, 90, 95], 46, 0, 0, 0) := by decide +kernel
theorem i_261_52 : a_ins 261 52 = some (.aload_n 0, 1, 0, 0, 0) := by decide +kernel
theorem i_261_53 : a_ins 261 53 = some (.getfield 13, 3, 8, 1, 0) := by decide +kernel
theorem i_261_56 : a_ins 261 56 = some (.iconst (0), 1, 0, 0, 0) := by decide +kernel
theorem i_261_57 : a_ins 261 57 = some (.iaload, 1, 0, 0, 0) := by decide +kernel
theorem i_261_58 : a_ins 261 58 = some (.ireturn, 1, 0, 0, 0) := by decide +kernel
theorem i_261_59 : a_ins 261 59 = some (.aload_n 0, 1, 0, 0, 0) := by decide +kernel
theorem i_261_60 : a_ins 261 60 = some (.getfield 13, 3, 8, 1, 0) := by decide +kernel
theorem i_261_63 : a_ins 261 63 = some (.iconst (1), 1, 0, 0, 1) := by decide +kernel
theorem i_261_64 : a_ins 261 64 = some (.iaload, 1, 0, 0, 0) := by decide +kernel
theorem i_261_65 : a_ins 261 65 = some (.ireturn, 1, 0, 0, 0) := by decide +kernel
theorem i_261_66 : a_ins 261 66 = some (.aload_n 0, 1, 0, 0, 0) := by decide +kernel
theorem i_261_67 : a_ins 261 67 = some (.getfield 13, 3, 8, 1, 0) := by decide +kernel
theorem i_261_70 : a_ins 261 70 = some (.iconst (2), 1, 0, 0, 2) := by decide +kernel
theorem i_261_71 : a_ins 261 71 = some (.iaload, 1, 0, 0, 0) := by decide +kernel
theorem i_261_72 : a_ins 261 72 = some (.ireturn, 1, 0, 0, 0) := by decide +kernel
theorem i_261_73 : a_ins 261 73 = some (.aload_n 0, 1, 0, 0, 0) := by decide +kernel
theorem i_261_74 : a_ins 261 74 = some (.getfield 13, 3, 8, 1, 0) := by decide +kernel
theorem i_261_77 : a_ins 261 77 = some (.iconst (3), 1, 0, 0, 3) := by decide +kernel
theorem i_261_78 : a_ins 261 78 = some (.iaload, 1, 0, 0, 0) := by decide +kernel
theorem i_261_79 : a_ins 261 79 = some (.ireturn, 1, 0, 0, 0) := by decide +kernel
theorem i_261_80 : a_ins 261 80 = some (.aload_n 0, 1, 0, 0, 0) := by decide +kernel
theorem i_261_81 : a_ins 261 81 = some (.getfield 13, 3, 8, 1, 0) := by decide +kernel
theorem i_261_84 : a_ins 261 84 = some (.iconst (4), 1, 0, 0, 4) := by decide +kernel
theorem i_261_85 : a_ins 261 85 = some (.iaload, 1, 0, 0, 0) := by decide +kernel
theorem i_261_86 : a_ins 261 86 = some (.ireturn, 1, 0, 0, 0) := by decide +kernel
theorem i_261_87 : a_ins 261 87 = some (.aload_n 0, 1, 0, 0, 0) := by decide +kernel
theorem i_261_88 : a_ins 261 88 = some (.aload_n 0, 1, 0, 0, 0) := by decide +kernel
theorem i_261_89 : a_ins 261 89 = some (.invokevirtual 142, 3, 159, 1, 0) := by decide +kernel
theorem i_261_92 : a_ins 261 92 = some (.invokevirtual 145, 3, 160, 2, 0) := by decide +kernel
theorem i_261_95 : a_ins 261 95 = some (.ireturn, 1, 0, 0, 0) := by decide +kernel
theorem i_261_96 : a_ins 261 96 = some (.aload_n 0, 1, 0, 0, 0) := by decide +kernel
theorem i_261_97 : a_ins 261 97 = some (.getfield 91, 3, 8, 5, 0) := by decide +kernel
theorem i_261_100 : a_ins 261 100 = some (.ireturn, 1, 0, 0, 0) := by decide +kernel
theorem i_261_101 : a_ins 261 101 = some (.aload_n 0, 1, 0, 0, 0) := by decide +kernel
theorem i_261_102 : a_ins 261 102 = some (.getfield 302, 3, 8, 18, 0) := by decide +kernel
theorem i_261_105 : a_ins 261 105 = some (.ireturn, 1, 0, 0, 0) := by decide +kernel
theorem i_261_106 : a_ins 261 106 = some (.iconst (-1), 1, 0, 0, -1) := by decide +kernel
theorem i_261_107 : a_ins 261 107 = some (.ireturn, 1, 0, 0, 0) := by decide +kernel
theorem i_262_0 : a_ins 262 0 = some (.new 7, 3, 0, 0, 0) := by decide +kernel
theorem i_262_3 : a_ins 262 3 = some (.dup, 1, 0, 0, 0) := by decide +kernel
theorem i_262_4 : a_ins 262 4 = some (.invokespecial 9, 3, 0, 1, 0) := by decide +kernel
theorem i_262_7 : a_ins 262 7 = some (.astore_n 1, 1, 0, 0, 0) := by decide +kernel
theorem i_262_8 : a_ins 262 8 = some (.new 10, 3, 8, 0, 0) := by decide +kernel
theorem i_262_11 : a_ins 262 11 = some (.dup, 1, 0, 0, 0) := by decide +kernel
theorem i_262_12 : a_ins 262 12 = some (.invokespecial 12, 3, 143, 1, 0) := by decide +kernel
theorem i_262_15 : a_ins 262 15 = some (.astore_n 2, 1, 0, 0, 0) := by decide +kernel
theorem i_262_16 : a_ins 262 16 = some (.iconst (0), 1, 0, 0, 0) := by decide +kernel
theorem i_262_17 : a_ins 262 17 = some (.istore_n 3, 1, 0, 0, 0) := by decide +kernel
theorem i_262_18 : a_ins 262 18 = some (.iload_n 3, 1, 0, 0, 0) := by decide +kernel
theorem i_262_19 : a_ins 262 19 = some (.aload_n 0, 1, 0, 0, 0) := by decide +kernel
theorem i_262_20 : a_ins 262 20 = some (.arraylength, 1, 0, 0, 0) := by decide +kernel
theorem i_262_21 : a_ins 262 21 = some (.bipush (6), 2, 0, 0, 6) := by decide +kernel
theorem i_262_23 : a_ins 262 23 = some (.isub, 1, 0, 0, 0) := by decide +kernel
theorem i_262_24 : a_ins 262 24 = some (.if_icmp .gt (1243), 3, 1267, 0, 0) := by decide +kernel
theorem i_262_27 : a_ins 262 27 = some (.aload_n 0, 1, 0, 0, 0) := by decide +kernel
theorem i_262_28 : a_ins 262 28 = some (.iload_n 3, 1, 0, 0, 0) := by decide +kernel
theorem i_262_29 : a_ins 262 29 = some (.iaload, 1, 0, 0, 0) := by decide +kernel
theorem i_262_30 : a_ins 262 30 = some (.bipush (63), 2, 0, 0, 63) := by decide +kernel
theorem i_262_32 : a_ins 262 32 = some (.iand, 1, 0, 0, 0) := by decide +kernel
theorem i_262_33 : a_ins 262 33 = some (.tableswitch (1228) (0) (38) #[171, 204, 237, 270, 303, 326, 349, 372, 395, 418, 441, 474, 497, 520, 553, 576, 599, 612, 635, 648, 671, 694, 737, 780, 803, 816, 839, 872, 915, 948, 981, 1044, 1067, 1090, 1103, 1136, 1159, 1182, 1205], 171, 0, 0, 0) := by decide +kernel
theorem i_262_204 : a_ins 262 204 = some (.aload_n 1, 1, 0, 0, 0) := by decide +kernel
theorem i_262_205 : a_ins 262 205 = some (.aload_n 0, 1, 0, 0, 0) := by decide +kernel
theorem i_262_206 : a_ins 262 206 = some (.iload_n 3, 1, 0, 0, 0) := by decide +kernel
theorem i_262_207 : a_ins 262 207 = some (.iconst (1), 1, 0, 0, 1) := by decide +kernel
theorem i_262_208 : a_ins 262 208 = some (.iadd, 1, 0, 0, 0) := by decide +kernel
theorem i_262_209 : a_ins 262 209 = some (.iaload, 1, 0, 0, 0) := by decide +kernel
theorem i_262_210 : a_ins 262 210 = some (.aload_n 0, 1, 0, 0, 0) := by decide +kernel
theorem i_262_211 : a_ins 262 211 = some (.iload_n 3, 1, 0, 0, 0) := by decide +kernel
theorem i_262_212 : a_ins 262 212 = some (.iconst (2), 1, 0, 0, 2) := by decide +kernel
theorem i_262_213 : a_ins 262 213 = some (.iadd, 1, 0, 0, 0) := by decide +kernel
theorem i_262_214 : a_ins 262 214 = some (.iaload, 1, 0, 0, 0) := by decide +kernel
theorem i_262_215 : a_ins 262 215 = some (.invokevirtual 13, 3, 1, 3, 0) := by decide +kernel
theorem i_262_218 : a_ins 262 218 = some (.aload_n 2, 1, 0, 0, 0) := by decide +kernel
theorem i_262_219 : a_ins 262 219 = some (.aload_n 0, 1, 0, 0, 0) := by decide +kernel
theorem i_262_220 : a_ins 262 220 = some (.iload_n 3, 1, 0, 0, 0) := by decide +kernel
theorem i_262_221 : a_ins 262 221 = some (.iconst (1), 1, 0, 0, 1) := by decide +kernel
theorem i_262_222 : a_ins 262 222 = some (.iadd, 1, 0, 0, 0) := by decide +kernel
theorem i_262_223 : a_ins 262 223 = some (.iaload, 1, 0, 0, 0) := by decide +kernel
theorem i_262_224 : a_ins 262 224 = some (.aload_n 0, 1, 0, 0, 0) := by decide +kernel
theorem i_262_225 : a_ins 262 225 = some (.iload_n 3, 1, 0, 0, 0) := by decide +kernel
theorem i_262_226 : a_ins 262 226 = some (.iconst (2), 1, 0, 0, 2) := by decide +kernel
theorem i_262_227 : a_ins 262 227 = some (.iadd, 1, 0, 0, 0) := by decide +kernel
theorem i_262_228 : a_ins 262 228 = some (.iaload, 1, 0, 0, 0) := by decide +kernel
theorem i_262_229 : a_ins 262 229 = some (.invokevirtual 17, 3, 146, 3, 0) := by decide +kernel
theorem i_262_232 : a_ins 262 232 = some (.if_icmp .eq (1029), 3, 1261, 0, 0) := by decide +kernel
theorem i_262_235 : a_ins 262 235 = some (.iconst (0), 1, 0, 0, 0) := by decide +kernel
theorem i_262_236 : a_ins 262 236 = some (.ireturn, 1, 0, 0, 0) := by decide +kernel
theorem i_262_237 : a_ins 262 237 = some (.aload_n 1, 1, 0, 0, 0) := by decide +kernel
theorem i_262_238 : a_ins 262 238 = some (.aload_n 0, 1, 0, 0, 0) := by decide +kernel
theorem i_262_239 : a_ins 262 239 = some (.iload_n 3, 1, 0, 0, 0) := by decide +kernel
theorem i_262_240 : a_ins 262 240 = some (.iconst (1), 1, 0, 0, 1) := by decide +kernel
theorem i_262_241 : a_ins 262 241 = some (.iadd, 1, 0, 0, 0) := by decide +kernel
theorem i_262_242 : a_ins 262 242 = some (.iaload, 1, 0, 0, 0) := by decide +kernel
theorem i_262_243 : a_ins 262 243 = some (.aload_n 0, 1, 0, 0, 0) := by decide +kernel
theorem i_262_244 : a_ins 262 244 = some (.iload_n 3, 1, 0, 0, 0) := by decide +kernel
theorem i_262_245 : a_ins 262 245 = some (.iconst (2), 1, 0, 0, 2) := by decide +kernel
theorem i_262_246 : a_ins 262 246 = some (.iadd, 1, 0, 0, 0) := by decide +kernel
theorem i_262_247 : a_ins 262 247 = some (.iaload, 1, 0, 0, 0) := by decide +kernel
theorem i_262_248 : a_ins 262 248 = some (.invokevirtual 18, 3, 2, 3, 0) := by decide +kernel
theorem i_262_251 : a_ins 262 251 = some (.aload_n 2, 1, 0, 0, 0) := by decide +kernel
theorem i_262_252 : a_ins 262 252 = some (.aload_n 0, 1, 0, 0, 0) := by decide +kernel
theorem i_262_253 : a_ins 262 253 = some (.iload_n 3, 1, 0, 0, 0) := by decide +kernel
theorem i_262_254 : a_ins 262 254 = some (.iconst (1), 1, 0, 0, 1) := by decide +kernel
theorem i_262_255 : a_ins 262 255 = some (.iadd, 1, 0, 0, 0) := by decide +kernel
theorem i_262_256 : a_ins 262 256 = some (.iaload, 1, 0, 0, 0) := by decide +kernel
theorem i_262_257 : a_ins 262 257 = some (.aload_n 0, 1, 0, 0, 0) := by decide +kernel
theorem i_262_258 : a_ins 262 258 = some (.iload_n 3, 1, 0, 0, 0) := by decide +kernel
theorem i_262_259 : a_ins 262 259 = some (.iconst (2), 1, 0, 0, 2) := by decide +kernel
theorem i_262_260 : a_ins 262 260 = some (.iadd, 1, 0, 0, 0) := by decide +kernel
theorem i_262_261 : a_ins 262 261 = some (.iaload, 1, 0, 0, 0) := by decide +kernel
theorem i_262_262 : a_ins 262 262 = some (.invokevirtual 21, 3, 152, 3, 0) := by decide +kernel
theorem i_262_265 : a_ins 262 265 = some (.if_icmp .eq (996), 3, 1261, 0, 0) := by decide +kernel
theorem i_262_268 : a_ins 262 268 = some (.iconst (0), 1, 0, 0, 0) := by decide +kernel
theorem i_262_269 : a_ins 262 269 = some (.ireturn, 1, 0, 0, 0) := by decide +kernel
theorem i_262_270 : a_ins 262 270 = some (.aload_n 1, 1, 0, 0, 0) := by decide +kernel
theorem i_262_271 : a_ins 262 271 = some (.aload_n 0, 1, 0, 0, 0) := by decide +kernel
theorem i_262_272 : a_ins 262 272 = some (.iload_n 3, 1, 0, 0, 0) := by decide +kernel
theorem i_262_273 : a_ins 262 273 = some (.iconst (1), 1, 0, 0, 1) := by decide +kernel
theorem i_262_274 : a_ins 262 274 = some (.iadd, 1, 0, 0, 0) := by decide +kernel
theorem i_262_275 : a_ins 262 275 = some (.iaload, 1, 0, 0, 0) := by decide +kernel
theorem i_262_276 : a_ins 262 276 = some (.aload_n 0, 1, 0, 0, 0) := by decide +kernel
theorem i_262_277 : a_ins 262 277 = some (.iload_n 3, 1, 0, 0, 0) := by decide +kernel
theorem i_262_278 : a_ins 262 278 = some (.iconst (2), 1, 0, 0, 2) := by decide +kernel
theorem i_262_279 : a_ins 262 279 = some (.iadd, 1, 0, 0, 0) := by decide +kernel
theorem i_262_280 : a_ins 262 280 = some (.iaload, 1, 0, 0, 0) := by decide +kernel
theorem i_262_281 : a_ins 262 281 = some (.invokevirtual 22, 3, 3, 3, 0) := by decide +kernel
theorem i_262_284 : a_ins 262 284 = some (.aload_n 2, 1, 0, 0, 0) := by decide +kernel
theorem i_262_285 : a_ins 262 285 = some (.aload_n 0, 1, 0, 0, 0) := by decide +kernel
theorem i_262_286 : a_ins 262 286 = some (.iload_n 3, 1, 0, 0, 0) := by decide +kernel
theorem i_262_287 : a_ins 262 287 = some (.iconst (1), 1, 0, 0, 1) := by decide +kernel
theorem i_262_288 : a_ins 262 288 = some (.iadd, 1, 0, 0, 0) := by decide +kernel
theorem i_262_289 : a_ins 262 289 = some (.iaload, 1, 0, 0, 0) := by decide +kernel
theorem i_262_290 : a_ins 262 290 = some (.aload_n 0, 1, 0, 0, 0) := by decide +kernel
theorem i_262_291 : a_ins 262 291 = some (.iload_n 3, 1, 0, 0, 0) := by decide +kernel
theorem i_262_292 : a_ins 262 292 = some (.iconst (2), 1, 0, 0, 2) := by decide +kernel
theorem i_262_293 : a_ins 262 293 = some (.iadd, 1, 0, 0, 0) := by decide +kernel
theorem i_262_294 : a_ins 262 294 = some (.iaload, 1, 0, 0, 0) := by decide +kernel
theorem i_262_295 : a_ins 262 295 = some (.invokevirtual 25, 3, 156, 3, 0) := by decide +kernel
theorem i_262_298 : a_ins 262 298 = some (.if_icmp .eq (963), 3, 1261, 0, 0) := by decide +kernel
theorem i_262_301 : a_ins 262 301 = some (.iconst (0), 1, 0, 0, 0) := by decide +kernel
theorem i_262_302 : a_ins 262 302 = some (.ireturn, 1, 0, 0, 0) := by decide +kernel
theorem i_262_303 : a_ins 262 303 = some (.aload_n 1, 1, 0, 0, 0) := by decide +kernel
theorem i_262_304 : a_ins 262 304 = some (.aload_n 0, 1, 0, 0, 0) := by decide +kernel
theorem i_262_305 : a_ins 262 305 = some (.iload_n 3, 1, 0, 0, 0) := by decide +kernel
theorem i_262_306 : a_ins 262 306 = some (.iconst (1), 1, 0, 0, 1) := by decide +kernel
theorem i_262_307 : a_ins 262 307 = some (.iadd, 1, 0, 0, 0) := by decide +kernel
theorem i_262_308 : a_ins 262 308 = some (.iaload, 1, 0, 0, 0) := by decide +kernel
theorem i_262_309 : a_ins 262 309 = some (.aload_n 0, 1, 0, 0, 0) := by decide +kernel
theorem i_262_310 : a_ins 262 310 = some (.iload_n 3, 1, 0, 0, 0) := by decide +kernel
theorem i_262_311 : a_ins 262 311 = some (.iconst (2), 1, 0, 0, 2) := by decide +kernel
theorem i_262_312 : a_ins 262 312 = some (.iadd, 1, 0, 0, 0) := by decide +kernel
theorem i_262_313 : a_ins 262 313 = some (.iaload, 1, 0, 0, 0) := by decide +kernel
theorem i_262_314 : a_ins 262 314 = some (.invokevirtual 26, 3, 4, 3, 0) := by decide +kernel
theorem i_262_317 : a_ins 262 317 = some (.aload_n 2, 1, 0, 0, 0) := by decide +kernel
theorem i_262_318 : a_ins 262 318 = some (.aload_n 0, 1, 0, 0, 0) := by decide +kernel
theorem i_262_319 : a_ins 262 319 = some (.iload_n 3, 1, 0, 0, 0) := by decide +kernel
theorem i_262_320 : a_ins 262 320 = some (.iconst (1), 1, 0, 0, 1) := by decide +kernel
theorem i_262_321 : a_ins 262 321 = some (.iadd, 1, 0, 0, 0) := by decide +kernel
theorem i_262_322 : a_ins 262 322 = some (.iaload, 1, 0, 0, 0) := by decide +kernel
theorem i_262_323 : a_ins 262 323 = some (.aload_n 0, 1, 0, 0, 0) := by decide +kernel
theorem i_262_324 : a_ins 262 324 = some (.iload_n 3, 1, 0, 0, 0) := by decide +kernel
theorem i_262_325 : a_ins 262 325 = some (.iconst (2), 1, 0, 0, 2) := by decide +kernel
theorem i_262_326 : a_ins 262 326 = some (.iadd, 1, 0, 0, 0) := by decide +kernel
theorem i_262_327 : a_ins 262 327 = some (.iaload, 1, 0, 0, 0) := by decide +kernel
theorem i_262_328 : a_ins 262 328 = some (.invokevirtual 29, 3, 162, 3, 0) := by decide +kernel
theorem i_262_331 : a_ins 262 331 = some (.if_icmp .eq (930), 3, 1261, 0, 0) := by decide +kernel
theorem i_262_334 : a_ins 262 334 = some (.iconst (0), 1, 0, 0, 0) := by decide +kernel
theorem i_262_335 : a_ins 262 335 = some (.ireturn, 1, 0, 0, 0) := by decide +kernel
theorem i_262_336 : a_ins 262 336 = some (.aload_n 1, 1, 0, 0, 0) := by decide +kernel
theorem i_262_337 : a_ins 262 337 = some (.aload_n 0, 1, 0, 0, 0) := by decide +kernel
theorem i_262_338 : a_ins 262 338 = some (.iload_n 3, 1, 0, 0, 0) := by decide +kernel
theorem i_262_339 : a_ins 262 339 = some (.iconst (1), 1, 0, 0, 1) := by decide +kernel
theorem i_262_340 : a_ins 262 340 = some (.iadd, 1, 0, 0, 0) := by decide +kernel
theorem i_262_341 : a_ins 262 341 = some (.iaload, 1, 0, 0, 0) := by decide +kernel
theorem i_262_342 : a_ins 262 342 = some (.invokevirtual 30, 3, 5, 2, 0) := by decide +kernel
theorem i_262_345 : a_ins 262 345 = some (.aload_n 2, 1, 0, 0, 0) := by decide +kernel
theorem i_262_346 : a_ins 262 346 = some (.aload_n 0, 1, 0, 0, 0) := by decide +kernel
theorem i_262_347 : a_ins 262 347 = some (.iload_n 3, 1, 0, 0, 0) := by decide +kernel
theorem i_262_348 : a_ins 262 348 = some (.iconst (1), 1, 0, 0, 1) := by decide +kernel
theorem i_262_349 : a_ins 262 349 = some (.iadd, 1, 0, 0, 0) := by decide +kernel
theorem i_262_350 : a_ins 262 350 = some (.iaload, 1, 0, 0, 0) := by decide +kernel
theorem i_262_351 : a_ins 262 351 = some (.invokevirtual 34, 3, 163, 2, 0) := by decide +kernel
theorem i_262_354 : a_ins 262 354 = some (.if_icmp .eq (907), 3, 1261, 0, 0) := by decide +kernel
theorem i_262_357 : a_ins 262 357 = some (.iconst (0), 1, 0, 0, 0) := by decide +kernel
theorem i_262_358 : a_ins 262 358 = some (.ireturn, 1, 0, 0, 0) := by decide +kernel
theorem i_262_359 : a_ins 262 359 = some (.aload_n 1, 1, 0, 0, 0) := by decide +kernel
theorem i_262_360 : a_ins 262 360 = some (.aload_n 0, 1, 0, 0, 0) := by decide +kernel
theorem i_262_361 : a_ins 262 361 = some (.iload_n 3, 1, 0, 0, 0) := by decide +kernel
theorem i_262_362 : a_ins 262 362 = some (.iconst (1), 1, 0, 0, 1) := by decide +kernel
theorem i_262_363 : a_ins 262 363 = some (.iadd, 1, 0, 0, 0) := by decide +kernel
theorem i_262_364 : a_ins 262 364 = some (.iaload, 1, 0, 0, 0) := by decide +kernel
theorem i_262_365 : a_ins 262 365 = some (.invokevirtual 35, 3, 6, 2, 0) := by decide +kernel
theorem i_262_368 : a_ins 262 368 = some (.aload_n 2, 1, 0, 0, 0) := by decide +kernel
theorem i_262_369 : a_ins 262 369 = some (.aload_n 0, 1, 0, 0, 0) := by decide +kernel
theorem i_262_370 : a_ins 262 370 = some (.iload_n 3, 1, 0, 0, 0) := by decide +kernel
theorem i_262_371 : a_ins 262 371 = some (.iconst (1), 1, 0, 0, 1) := by decide +kernel
theorem i_262_372 : a_ins 262 372 = some (.iadd, 1, 0, 0, 0) := by decide +kernel
theorem i_262_373 : a_ins 262 373 = some (.iaload, 1, 0, 0, 0) := by decide +kernel
theorem i_262_374 : a_ins 262 374 = some (.invokevirtual 38, 3, 175, 2, 0) := by decide +kernel
theorem i_262_377 : a_ins 262 377 = some (.if_icmp .eq (884), 3, 1261, 0, 0) := by decide +kernel
theorem i_262_380 : a_ins 262 380 = some (.iconst (0), 1, 0, 0, 0) := by decide +kernel
theorem i_262_381 : a_ins 262 381 = some (.ireturn, 1, 0, 0, 0) := by decide +kernel
theorem i_262_382 : a_ins 262 382 = some (.aload_n 1, 1, 0, 0, 0) := by decide +kernel
theorem i_262_383 : a_ins 262 383 = some (.aload_n 0, 1, 0, 0, 0) := by decide +kernel
theorem i_262_384 : a_ins 262 384 = some (.iload_n 3, 1, 0, 0, 0) := by decide +kernel
theorem i_262_385 : a_ins 262 385 = some (.iconst (1), 1, 0, 0, 1) := by decide +kernel
theorem i_262_386 : a_ins 262 386 = some (.iadd, 1, 0, 0, 0) := by decide +kernel
theorem i_262_387 : a_ins 262 387 = some (.iaload, 1, 0, 0, 0) := by decide +kernel
theorem i_262_388 : a_ins 262 388 = some (.invokevirtual 39, 3, 7, 2, 0) := by decide +kernel
theorem i_262_391 : a_ins 262 391 = some (.aload_n 2, 1, 0, 0, 0) := by decide +kernel
theorem i_262_392 : a_ins 262 392 = some (.aload_n 0, 1, 0, 0, 0) := by decide +kernel
theorem i_262_393 : a_ins 262 393 = some (.iload_n 3, 1, 0, 0, 0) := by decide +kernel
theorem i_262_394 : a_ins 262 394 = some (.iconst (1), 1, 0, 0, 1) := by decide +kernel
theorem i_262_395 : a_ins 262 395 = some (.iadd, 1, 0, 0, 0) := by decide +kernel
theorem i_262_396 : a_ins 262 396 = some (.iaload, 1, 0, 0, 0) := by decide +kernel
theorem i_262_397 : a_ins 262 397 = some (.invokevirtual 42, 3, 177, 2, 0) := by decide +kernel
theorem i_262_400 : a_ins 262 400 = some (.if_icmp .eq (861), 3, 1261, 0, 0) := by decide +kernel
theorem i_262_403 : a_ins 262 403 = some (.iconst (0), 1, 0, 0, 0) := by decide +kernel
theorem i_262_404 : a_ins 262 404 = some (.ireturn, 1, 0, 0, 0) := by decide +kernel
theorem i_262_405 : a_ins 262 405 = some (.aload_n 1, 1, 0, 0, 0) := by decide +kernel
theorem i_262_406 : a_ins 262 406 = some (.aload_n 0, 1, 0, 0, 0) := by decide +kernel
theorem i_262_407 : a_ins 262 407 = some (.iload_n 3, 1, 0, 0, 0) := by decide +kernel
theorem i_262_408 : a_ins 262 408 = some (.iconst (1), 1, 0, 0, 1) := by decide +kernel
theorem i_262_409 : a_ins 262 409 = some (.iadd, 1, 0, 0, 0) := by decide +kernel
theorem i_262_410 : a_ins 262 410 = some (.iaload, 1, 0, 0, 0) := by decide +kernel
theorem i_262_411 : a_ins 262 411 = some (.invokevirtual 43, 3, 8, 2, 0) := by decide +kernel
theorem i_262_414 : a_ins 262 414 = some (.aload_n 2, 1, 0, 0, 0) := by decide +kernel
theorem i_262_415 : a_ins 262 415 = some (.aload_n 0, 1, 0, 0, 0) := by decide +kernel
theorem i_262_416 : a_ins 262 416 = some (.iload_n 3, 1, 0, 0, 0) := by decide +kernel
theorem i_262_417 : a_ins 262 417 = some (.iconst (1), 1, 0, 0, 1) := by decide +kernel
theorem i_262_418 : a_ins 262 418 = some (.iadd, 1, 0, 0, 0) := by decide +kernel
theorem i_262_419 : a_ins 262 419 = some (.iaload, 1, 0, 0, 0) := by decide +kernel
theorem i_262_420 : a_ins 262 420 = some (.invokevirtual 46, 3, 180, 2, 0) := by decide +kernel
theorem i_262_423 : a_ins 262 423 = some (.if_icmp .eq (838), 3, 1261, 0, 0) := by decide +kernel
theorem i_262_426 : a_ins 262 426 = some (.iconst (0), 1, 0, 0, 0) := by decide +kernel
theorem i_262_427 : a_ins 262 427 = some (.ireturn, 1, 0, 0, 0) := by decide +kernel
theorem i_262_428 : a_ins 262 428 = some (.aload_n 1, 1, 0, 0, 0) := by decide +kernel
theorem i_262_429 : a_ins 262 429 = some (.aload_n 0, 1, 0, 0, 0) := by decide +kernel
theorem i_262_430 : a_ins 262 430 = some (.iload_n 3, 1, 0, 0, 0) := by decide +kernel
theorem i_262_431 : a_ins 262 431 = some (.iconst (1), 1, 0, 0, 1) := by decide +kernel
theorem i_262_432 : a_ins 262 432 = some (.iadd, 1, 0, 0, 0) := by decide +kernel
theorem i_262_433 : a_ins 262 433 = some (.iaload, 1, 0, 0, 0) := by decide +kernel
theorem i_262_434 : a_ins 262 434 = some (.invokevirtual 47, 3, 9, 2, 0) := by decide +kernel
theorem i_262_437 : a_ins 262 437 = some (.aload_n 2, 1, 0, 0, 0) := by decide +kernel
theorem i_262_438 : a_ins 262 438 = some (.aload_n 0, 1, 0, 0, 0) := by decide +kernel
theorem i_262_439 : a_ins 262 439 = some (.iload_n 3, 1, 0, 0, 0) := by decide +kernel
theorem i_262_440 : a_ins 262 440 = some (.iconst (1), 1, 0, 0, 1) := by decide +kernel
theorem i_262_441 : a_ins 262 441 = some (.iadd, 1, 0, 0, 0) := by decide +kernel
theorem i_262_442 : a_ins 262 442 = some (.iaload, 1, 0, 0, 0) := by decide +kernel
theorem i_262_443 : a_ins 262 443 = some (.invokevirtual 50, 3, 182, 2, 0) := by decide +kernel
theorem i_262_446 : a_ins 262 446 = some (.if_icmp .eq (815), 3, 1261, 0, 0) := by decide +kernel
theorem i_262_449 : a_ins 262 449 = some (.iconst (0), 1, 0, 0, 0) := by decide +kernel
theorem i_262_450 : a_ins 262 450 = some (.ireturn, 1, 0, 0, 0) := by decide +kernel
theorem i_262_451 : a_ins 262 451 = some (.aload_n 1, 1, 0, 0, 0) := by decide +kernel
theorem i_262_452 : a_ins 262 452 = some (.aload_n 0, 1, 0, 0, 0) := by decide +kernel
theorem i_262_453 : a_ins 262 453 = some (.iload_n 3, 1, 0, 0, 0) := by decide +kernel
theorem i_262_454 : a_ins 262 454 = some (.iconst (1), 1, 0, 0, 1) := by decide +kernel
theorem i_262_455 : a_ins 262 455 = some (.iadd, 1, 0, 0, 0) := by decide +kernel
theorem i_262_456 : a_ins 262 456 = some (.iaload, 1, 0, 0, 0) := by decide +kernel
theorem i_262_457 : a_ins 262 457 = some (.invokevirtual 51, 3, 10, 2, 0) := by decide +kernel
theorem i_262_460 : a_ins 262 460 = some (.aload_n 2, 1, 0, 0, 0) := by decide +kernel
theorem i_262_461 : a_ins 262 461 = some (.aload_n 0, 1, 0, 0, 0) := by decide +kernel
theorem i_262_462 : a_ins 262 462 = some (.iload_n 3, 1, 0, 0, 0) := by decide +kernel
theorem i_262_463 : a_ins 262 463 = some (.iconst (1), 1, 0, 0, 1) := by decide +kernel
theorem i_262_464 : a_ins 262 464 = some (.iadd, 1, 0, 0, 0) := by decide +kernel
theorem i_262_465 : a_ins 262 465 = some (.iaload, 1, 0, 0, 0) := by decide +kernel
theorem i_262_466 : a_ins 262 466 = some (.invokevirtual 54, 3, 184, 2, 0) := by decide +kernel
theorem i_262_469 : a_ins 262 469 = some (.if_icmp .eq (792), 3, 1261, 0, 0) := by decide +kernel
theorem i_262_472 : a_ins 262 472 = some (.iconst (0), 1, 0, 0, 0) := by decide +kernel
theorem i_262_473 : a_ins 262 473 = some (.ireturn, 1, 0, 0, 0) := by decide +kernel
theorem i_262_474 : a_ins 262 474 = some (.aload_n 1, 1, 0, 0, 0) := by decide +kernel
theorem i_262_475 : a_ins 262 475 = some (.aload_n 0, 1, 0, 0, 0) := by decide +kernel
theorem i_262_476 : a_ins 262 476 = some (.iload_n 3, 1, 0, 0, 0) := by decide +kernel
theorem i_262_477 : a_ins 262 477 = some (.iconst (1), 1, 0, 0, 1) := by decide +kernel
theorem i_262_478 : a_ins 262 478 = some (.iadd, 1, 0, 0, 0) := by decide +kernel
theorem i_262_479 : a_ins 262 479 = some (.iaload, 1, 0, 0, 0) := by decide +kernel
theorem i_262_480 : a_ins 262 480 = some (.aload_n 0, 1, 0, 0, 0) := by decide +kernel
theorem i_262_481 : a_ins 262 481 = some (.iload_n 3, 1, 0, 0, 0) := by decide +kernel
theorem i_262_482 : a_ins 262 482 = some (.iconst (2), 1, 0, 0, 2) := by decide +kernel
theorem i_262_483 : a_ins 262 483 = some (.iadd, 1, 0, 0, 0) := by decide +kernel
theorem i_262_484 : a_ins 262 484 = some (.iaload, 1, 0, 0, 0) := by decide +kernel
theorem i_262_485 : a_ins 262 485 = some (.invokevirtual 55, 3, 11, 3, 0) := by decide +kernel
theorem i_262_488 : a_ins 262 488 = some (.aload_n 2, 1, 0, 0, 0) := by decide +kernel
theorem i_262_489 : a_ins 262 489 = some (.aload_n 0, 1, 0, 0, 0) := by decide +kernel
theorem i_262_490 : a_ins 262 490 = some (.iload_n 3, 1, 0, 0, 0) := by decide +kernel
theorem i_262_491 : a_ins 262 491 = some (.iconst (1), 1, 0, 0, 1) := by decide +kernel
theorem i_262_492 : a_ins 262 492 = some (.iadd, 1, 0, 0, 0) := by decide +kernel
theorem i_262_493 : a_ins 262 493 = some (.iaload, 1, 0, 0, 0) := by decide +kernel
theorem i_262_494 : a_ins 262 494 = some (.aload_n 0, 1, 0, 0, 0) := by decide +kernel
theorem i_262_495 : a_ins 262 495 = some (.iload_n 3, 1, 0, 0, 0) := by decide +kernel
theorem i_262_496 : a_ins 262 496 = some (.iconst (2), 1, 0, 0, 2) := by decide +kernel
theorem i_262_497 : a_ins 262 497 = some (.iadd, 1, 0, 0, 0) := by decide +kernel
theorem i_262_498 : a_ins 262 498 = some (.iaload, 1, 0, 0, 0) := by decide +kernel
theorem i_262_499 : a_ins 262 499 = some (.invokevirtual 58, 3, 186, 3, 0) := by decide +kernel
theorem i_262_502 : a_ins 262 502 = some (.if_icmp .eq (759), 3, 1261, 0, 0) := by decide +kernel
theorem i_262_505 : a_ins 262 505 = some (.iconst (0), 1, 0, 0, 0) := by decide +kernel
theorem i_262_506 : a_ins 262 506 = some (.ireturn, 1, 0, 0, 0) := by decide +kernel
theorem i_262_507 : a_ins 262 507 = some (.aload_n 1, 1, 0, 0, 0) := by decide +kernel
theorem i_262_508 : a_ins 262 508 = some (.aload_n 0, 1, 0, 0, 0) := by decide +kernel
theorem i_262_509 : a_ins 262 509 = some (.iload_n 3, 1, 0, 0, 0) := by decide +kernel
theorem i_262_510 : a_ins 262 510 = some (.iconst (1), 1, 0, 0, 1) := by decide +kernel
theorem i_262_511 : a_ins 262 511 = some (.iadd, 1, 0, 0, 0) := by decide +kernel
theorem i_262_512 : a_ins 262 512 = some (.iaload, 1, 0, 0, 0) := by decide +kernel
theorem i_262_513 : a_ins 262 513 = some (.invokevirtual 59, 3, 12, 2, 0) := by decide +kernel
theorem i_262_516 : a_ins 262 516 = some (.aload_n 2, 1, 0, 0, 0) := by decide +kernel
theorem i_262_517 : a_ins 262 517 = some (.aload_n 0, 1, 0, 0, 0) := by decide +kernel
theorem i_262_518 : a_ins 262 518 = some (.iload_n 3, 1, 0, 0, 0) := by decide +kernel
theorem i_262_519 : a_ins 262 519 = some (.iconst (1), 1, 0, 0, 1) := by decide +kernel
theorem i_262_520 : a_ins 262 520 = some (.iadd, 1, 0, 0, 0) := by decide +kernel
theorem i_262_521 : a_ins 262 521 = some (.iaload, 1, 0, 0, 0) := by decide +kernel
theorem i_262_522 : a_ins 262 522 = some (.invokevirtual 62, 3, 193, 2, 0) := by decide +kernel
theorem i_262_525 : a_ins 262 525 = some (.if_icmp .eq (736), 3, 1261, 0, 0) := by decide +kernel
theorem i_262_528 : a_ins 262 528 = some (.iconst (0), 1, 0, 0, 0) := by decide +kernel
theorem i_262_529 : a_ins 262 529 = some (.ireturn, 1, 0, 0, 0) := by decide +kernel
theorem i_262_530 : a_ins 262 530 = some (.aload_n 1, 1, 0, 0, 0) := by decide +kernel
theorem i_262_531 : a_ins 262 531 = some (.aload_n 0, 1, 0, 0, 0) := by decide +kernel
theorem i_262_532 : a_ins 262 532 = some (.iload_n 3, 1, 0, 0, 0) := by decide +kernel
theorem i_262_533 : a_ins 262 533 = some (.iconst (1), 1, 0, 0, 1) := by decide +kernel
theorem i_262_534 : a_ins 262 534 = some (.iadd, 1, 0, 0, 0) := by decide +kernel
theorem i_262_535 : a_ins 262 535 = some (.iaload, 1, 0, 0, 0) := by decide +kernel
theorem i_262_536 : a_ins 262 536 = some (.invokevirtual 63, 3, 13, 2, 0) := by decide +kernel
theorem i_262_539 : a_ins 262 539 = some (.aload_n 2, 1, 0, 0, 0) := by decide +kernel
theorem i_262_540 : a_ins 262 540 = some (.aload_n 0, 1, 0, 0, 0) := by decide +kernel
theorem i_262_541 : a_ins 262 541 = some (.iload_n 3, 1, 0, 0, 0) := by decide +kernel
theorem i_262_542 : a_ins 262 542 = some (.iconst (1), 1, 0, 0, 1) := by decide +kernel
theorem i_262_543 : a_ins 262 543 = some (.iadd, 1, 0, 0, 0) := by decide +kernel
theorem i_262_544 : a_ins 262 544 = some (.iaload, 1, 0, 0, 0) := by decide +kernel
theorem i_262_545 : a_ins 262 545 = some (.invokevirtual 66, 3, 196, 2, 0) := by decide +kernel
theorem i_262_548 : a_ins 262 548 = some (.if_icmp .eq (713), 3, 1261, 0, 0) := by decide +kernel
theorem i_262_551 : a_ins 262 551 = some (.iconst (0), 1, 0, 0, 0) := by decide +kernel
theorem i_262_552 : a_ins 262 552 = some (.ireturn, 1, 0, 0, 0) := by decide +kernel
theorem i_262_553 : a_ins 262 553 = some (.aload_n 1, 1, 0, 0, 0) := by decide +kernel
theorem i_262_554 : a_ins 262 554 = some (.aload_n 0, 1, 0, 0, 0) := by decide +kernel
theorem i_262_555 : a_ins 262 555 = some (.iload_n 3, 1, 0, 0, 0) := by decide +kernel
theorem i_262_556 : a_ins 262 556 = some (.iconst (1), 1, 0, 0, 1) := by decide +kernel
theorem i_262_557 : a_ins 262 557 = some (.iadd, 1, 0, 0, 0) := by decide +kernel
theorem i_262_558 : a_ins 262 558 = some (.iaload, 1, 0, 0, 0) := by decide +kernel
theorem i_262_559 : a_ins 262 559 = some (.aload_n 0, 1, 0, 0, 0) := by decide +kernel
theorem i_262_560 : a_ins 262 560 = some (.iload_n 3, 1, 0, 0, 0) := by decide +kernel
theorem i_262_561 : a_ins 262 561 = some (.iconst (2), 1, 0, 0, 2) := by decide +kernel
theorem i_262_562 : a_ins 262 562 = some (.iadd, 1, 0, 0, 0) := by decide +kernel
theorem i_262_563 : a_ins 262 563 = some (.iaload, 1, 0, 0, 0) := by decide +kernel
theorem i_262_564 : a_ins 262 564 = some (.invokevirtual 67, 3, 14, 3, 0) := by decide +kernel
theorem i_262_567 : a_ins 262 567 = some (.aload_n 2, 1, 0, 0, 0) := by decide +kernel
theorem i_262_568 : a_ins 262 568 = some (.aload_n 0, 1, 0, 0, 0) := by decide +kernel
theorem i_262_569 : a_ins 262 569 = some (.iload_n 3, 1, 0, 0, 0) := by decide +kernel
theorem i_262_570 : a_ins 262 570 = some (.iconst (1), 1, 0, 0, 1) := by decide +kernel
theorem i_262_571 : a_ins 262 571 = some (.iadd, 1, 0, 0, 0) := by decide +kernel
theorem i_262_572 : a_ins 262 572 = some (.iaload, 1, 0, 0, 0) := by decide +kernel
theorem i_262_573 : a_ins 262 573 = some (.aload_n 0, 1, 0, 0, 0) := by decide +kernel
theorem i_262_574 : a_ins 262 574 = some (.iload_n 3, 1, 0, 0, 0) := by decide +kernel
theorem i_262_575 : a_ins 262 575 = some (.iconst (2), 1, 0, 0, 2) := by decide +kernel
theorem i_262_576 : a_ins 262 576 = some (.iadd, 1, 0, 0, 0) := by decide +kernel
theorem i_262_577 : a_ins 262 577 = some (.iaload, 1, 0, 0, 0) := by decide +kernel
theorem i_262_578 : a_ins 262 578 = some (.invokevirtual 70, 3, 200, 3, 0) := by decide +kernel
theorem i_262_581 : a_ins 262 581 = some (.if_icmp .eq (680), 3, 1261, 0, 0) := by decide +kernel
theorem i_262_584 : a_ins 262 584 = some (.iconst (0), 1, 0, 0, 0) := by decide +kernel
theorem i_262_585 : a_ins 262 585 = some (.ireturn, 1, 0, 0, 0) := by decide +kernel
theorem i_262_586 : a_ins 262 586 = some (.aload_n 1, 1, 0, 0, 0) := by decide +kernel
theorem i_262_587 : a_ins 262 587 = some (.aload_n 0, 1, 0, 0, 0) := by decide +kernel
theorem i_262_588 : a_ins 262 588 = some (.iload_n 3, 1, 0, 0, 0) := by decide +kernel
theorem i_262_589 : a_ins 262 589 = some (.iconst (1), 1, 0, 0, 1) := by decide +kernel
theorem i_262_590 : a_ins 262 590 = some (.iadd, 1, 0, 0, 0) := by decide +kernel
theorem i_262_591 : a_ins 262 591 = some (.iaload, 1, 0, 0, 0) := by decide +kernel
theorem i_262_592 : a_ins 262 592 = some (.invokevirtual 71, 3, 15, 2, 0) := by decide +kernel
theorem i_262_595 : a_ins 262 595 = some (.aload_n 2, 1, 0, 0, 0) := by decide +kernel
theorem i_262_596 : a_ins 262 596 = some (.aload_n 0, 1, 0, 0, 0) := by decide +kernel
theorem i_262_597 : a_ins 262 597 = some (.iload_n 3, 1, 0, 0, 0) := by decide +kernel
theorem i_262_598 : a_ins 262 598 = some (.iconst (1), 1, 0, 0, 1) := by decide +kernel
theorem i_262_599 : a_ins 262 599 = some (.iadd, 1, 0, 0, 0) := by decide +kernel
theorem i_262_600 : a_ins 262 600 = some (.iaload, 1, 0, 0, 0) := by decide +kernel
theorem i_262_601 : a_ins 262 601 = some (.invokevirtual 74, 3, 201, 2, 0) := by decide +kernel
theorem i_262_604 : a_ins 262 604 = some (.if_icmp .eq (657), 3, 1261, 0, 0) := by decide +kernel
theorem i_262_607 : a_ins 262 607 = some (.iconst (0), 1, 0, 0, 0) := by decide +kernel
theorem i_262_608 : a_ins 262 608 = some (.ireturn, 1, 0, 0, 0) := by decide +kernel
theorem i_262_609 : a_ins 262 609 = some (.aload_n 1, 1, 0, 0, 0) := by decide +kernel
theorem i_262_610 : a_ins 262 610 = some (.aload_n 0, 1, 0, 0, 0) := by decide +kernel
theorem i_262_611 : a_ins 262 611 = some (.iload_n 3, 1, 0, 0, 0) := by decide +kernel
theorem i_262_612 : a_ins 262 612 = some (.iconst (1), 1, 0, 0, 1) := by decide +kernel
theorem i_262_613 : a_ins 262 613 = some (.iadd, 1, 0, 0, 0) := by decide +kernel
theorem i_262_614 : a_ins 262 614 = some (.iaload, 1, 0, 0, 0) := by decide +kernel
theorem i_262_615 : a_ins 262 615 = some (.invokevirtual 75, 3, 16, 2, 0) := by decide +kernel
theorem i_262_618 : a_ins 262 618 = some (.aload_n 2, 1, 0, 0, 0) := by decide +kernel
theorem i_262_619 : a_ins 262 619 = some (.aload_n 0, 1, 0, 0, 0) := by decide +kernel
theorem i_262_620 : a_ins 262 620 = some (.iload_n 3, 1, 0, 0, 0) := by decide +kernel
theorem i_262_621 : a_ins 262 621 = some (.iconst (1), 1, 0, 0, 1) := by decide +kernel
theorem i_262_622 : a_ins 262 622 = some (.iadd, 1, 0, 0, 0) := by decide +kernel
theorem i_262_623 : a_ins 262 623 = some (.iaload, 1, 0, 0, 0) := by decide +kernel
theorem i_262_624 : a_ins 262 624 = some (.invokevirtual 78, 3, 203, 2, 0) := by decide +kernel
theorem i_262_627 : a_ins 262 627 = some (.if_icmp .eq (634), 3, 1261, 0, 0) := by decide +kernel
theorem i_262_630 : a_ins 262 630 = some (.iconst (0), 1, 0, 0, 0) := by decide +kernel
theorem i_262_631 : a_ins 262 631 = some (.ireturn, 1, 0, 0, 0) := by decide +kernel
theorem i_262_632 : a_ins 262 632 = some (.aload_n 1, 1, 0, 0, 0) := by decide +kernel
theorem i_262_633 : a_ins 262 633 = some (.invokevirtual 79, 3, 17, 1, 0) := by decide +kernel
theorem i_262_636 : a_ins 262 636 = some (.aload_n 2, 1, 0, 0, 0) := by decide +kernel
theorem i_262_637 : a_ins 262 637 = some (.invokevirtual 83, 3, 204, 1, 0) := by decide +kernel
theorem i_262_640 : a_ins 262 640 = some (.if_icmp .eq (621), 3, 1261, 0, 0) := by decide +kernel
theorem i_262_643 : a_ins 262 643 = some (.iconst (0), 1, 0, 0, 0) := by decide +kernel
theorem i_262_644 : a_ins 262 644 = some (.ireturn, 1, 0, 0, 0) := by decide +kernel
theorem i_262_645 : a_ins 262 645 = some (.aload_n 1, 1, 0, 0, 0) := by decide +kernel
theorem i_262_646 : a_ins 262 646 = some (.aload_n 0, 1, 0, 0, 0) := by decide +kernel
theorem i_262_647 : a_ins 262 647 = some (.iload_n 3, 1, 0, 0, 0) := by decide +kernel
theorem i_262_648 : a_ins 262 648 = some (.iconst (1), 1, 0, 0, 1) := by decide +kernel
theorem i_262_649 : a_ins 262 649 = some (.iadd, 1, 0, 0, 0) := by decide +kernel
theorem i_262_650 : a_ins 262 650 = some (.iaload, 1, 0, 0, 0) := by decide +kernel
theorem i_262_651 : a_ins 262 651 = some (.invokevirtual 84, 3, 18, 2, 0) := by decide +kernel
theorem i_262_654 : a_ins 262 654 = some (.aload_n 2, 1, 0, 0, 0) := by decide +kernel
theorem i_262_655 : a_ins 262 655 = some (.aload_n 0, 1, 0, 0, 0) := by decide +kernel
theorem i_262_656 : a_ins 262 656 = some (.iload_n 3, 1, 0, 0, 0) := by decide +kernel
theorem i_262_657 : a_ins 262 657 = some (.iconst (1), 1, 0, 0, 1) := by decide +kernel
theorem i_262_658 : a_ins 262 658 = some (.iadd, 1, 0, 0, 0) := by decide +kernel
theorem i_262_659 : a_ins 262 659 = some (.iaload, 1, 0, 0, 0) := by decide +kernel
theorem i_262_660 : a_ins 262 660 = some (.invokevirtual 87, 3, 206, 2, 0) := by decide +kernel
theorem i_262_663 : a_ins 262 663 = some (.if_icmp .eq (598), 3, 1261, 0, 0) := by decide +kernel
theorem i_262_666 : a_ins 262 666 = some (.iconst (0), 1, 0, 0, 0) := by decide +kernel
theorem i_262_667 : a_ins 262 667 = some (.ireturn, 1, 0, 0, 0) := by decide +kernel
theorem i_262_668 : a_ins 262 668 = some (.aload_n 1, 1, 0, 0, 0) := by decide +kernel
theorem i_262_669 : a_ins 262 669 = some (.invokevirtual 88, 3, 19, 1, 0) := by decide +kernel
theorem i_262_672 : a_ins 262 672 = some (.aload_n 2, 1, 0, 0, 0) := by decide +kernel
theorem i_262_673 : a_ins 262 673 = some (.invokevirtual 91, 3, 208, 1, 0) := by decide +kernel
theorem i_262_676 : a_ins 262 676 = some (.if_icmp .eq (585), 3, 1261, 0, 0) := by decide +kernel
theorem i_262_679 : a_ins 262 679 = some (.iconst (0), 1, 0, 0, 0) := by decide +kernel
theorem i_262_680 : a_ins 262 680 = some (.ireturn, 1, 0, 0, 0) := by decide +kernel
theorem i_262_681 : a_ins 262 681 = some (.aload_n 1, 1, 0, 0, 0) := by decide +kernel
theorem i_262_682 : a_ins 262 682 = some (.aload_n 0, 1, 0, 0, 0) := by decide +kernel
theorem i_262_683 : a_ins 262 683 = some (.iload_n 3, 1, 0, 0, 0) := by decide +kernel
theorem i_262_684 : a_ins 262 684 = some (.iconst (1), 1, 0, 0, 1) := by decide +kernel
theorem i_262_685 : a_ins 262 685 = some (.iadd, 1, 0, 0, 0) := by decide +kernel
theorem i_262_686 : a_ins 262 686 = some (.iaload, 1, 0, 0, 0) := by decide +kernel
theorem i_262_687 : a_ins 262 687 = some (.invokevirtual 92, 3, 20, 2, 0) := by decide +kernel
theorem i_262_690 : a_ins 262 690 = some (.aload_n 2, 1, 0, 0, 0) := by decide +kernel
theorem i_262_691 : a_ins 262 691 = some (.aload_n 0, 1, 0, 0, 0) := by decide +kernel
theorem i_262_692 : a_ins 262 692 = some (.iload_n 3, 1, 0, 0, 0) := by decide +kernel
theorem i_262_693 : a_ins 262 693 = some (.iconst (1), 1, 0, 0, 1) := by decide +kernel
theorem i_262_694 : a_ins 262 694 = some (.iadd, 1, 0, 0, 0) := by decide +kernel
theorem i_262_695 : a_ins 262 695 = some (.iaload, 1, 0, 0, 0) := by decide +kernel
theorem i_262_696 : a_ins 262 696 = some (.invokevirtual 95, 3, 210, 2, 0) := by decide +kernel
theorem i_262_699 : a_ins 262 699 = some (.if_icmp .eq (562), 3, 1261, 0, 0) := by decide +kernel
theorem i_262_702 : a_ins 262 702 = some (.iconst (0), 1, 0, 0, 0) := by decide +kernel
theorem i_262_703 : a_ins 262 703 = some (.ireturn, 1, 0, 0, 0) := by decide +kernel
theorem i_262_704 : a_ins 262 704 = some (.aload_n 1, 1, 0, 0, 0) := by decide +kernel
theorem i_262_705 : a_ins 262 705 = some (.aload_n 0, 1, 0, 0, 0) := by decide +kernel
theorem i_262_706 : a_ins 262 706 = some (.iload_n 3, 1, 0, 0, 0) := by decide +kernel
theorem i_262_707 : a_ins 262 707 = some (.iconst (1), 1, 0, 0, 1) := by decide +kernel
theorem i_262_708 : a_ins 262 708 = some (.iadd, 1, 0, 0, 0) := by decide +kernel
theorem i_262_709 : a_ins 262 709 = some (.iaload, 1, 0, 0, 0) := by decide +kernel
theorem i_262_710 : a_ins 262 710 = some (.invokevirtual 96, 3, 21, 2, 0) := by decide +kernel
theorem i_262_713 : a_ins 262 713 = some (.aload_n 2, 1, 0, 0, 0) := by decide +kernel
theorem i_262_714 : a_ins 262 714 = some (.aload_n 0, 1, 0, 0, 0) := by decide +kernel
theorem i_262_715 : a_ins 262 715 = some (.iload_n 3, 1, 0, 0, 0) := by decide +kernel
theorem i_262_716 : a_ins 262 716 = some (.iconst (1), 1, 0, 0, 1) := by decide +kernel
theorem i_262_717 : a_ins 262 717 = some (.iadd, 1, 0, 0, 0) := by decide +kernel
theorem i_262_718 : a_ins 262 718 = some (.iaload, 1, 0, 0, 0) := by decide +kernel
theorem i_262_719 : a_ins 262 719 = some (.invokevirtual 99, 3, 214, 2, 0) := by decide +kernel
theorem i_262_722 : a_ins 262 722 = some (.if_icmp .eq (539), 3, 1261, 0, 0) := by decide +kernel
theorem i_262_725 : a_ins 262 725 = some (.iconst (0), 1, 0, 0, 0) := by decide +kernel
theorem i_262_726 : a_ins 262 726 = some (.ireturn, 1, 0, 0, 0) := by decide +kernel
theorem i_262_727 : a_ins 262 727 = some (.aload_n 1, 1, 0, 0, 0) := by decide +kernel
theorem i_262_728 : a_ins 262 728 = some (.aload_n 0, 1, 0, 0, 0) := by decide +kernel
theorem i_262_729 : a_ins 262 729 = some (.iload_n 3, 1, 0, 0, 0) := by decide +kernel
theorem i_262_730 : a_ins 262 730 = some (.iconst (1), 1, 0, 0, 1) := by decide +kernel
theorem i_262_731 : a_ins 262 731 = some (.iadd, 1, 0, 0, 0) := by decide +kernel
theorem i_262_732 : a_ins 262 732 = some (.iaload, 1, 0, 0, 0) := by decide +kernel
theorem i_262_733 : a_ins 262 733 = some (.aload_n 0, 1, 0, 0, 0) := by decide +kernel
theorem i_262_734 : a_ins 262 734 = some (.iload_n 3, 1, 0, 0, 0) := by decide +kernel
theorem i_262_735 : a_ins 262 735 = some (.iconst (2), 1, 0, 0, 2) := by decide +kernel
theorem i_262_736 : a_ins 262 736 = some (.iadd, 1, 0, 0, 0) := by decide +kernel
theorem i_262_737 : a_ins 262 737 = some (.iaload, 1, 0, 0, 0) := by decide +kernel
theorem i_262_738 : a_ins 262 738 = some (.aload_n 0, 1, 0, 0, 0) := by decide +kernel
theorem i_262_739 : a_ins 262 739 = some (.iload_n 3, 1, 0, 0, 0) := by decide +kernel
theorem i_262_740 : a_ins 262 740 = some (.iconst (3), 1, 0, 0, 3) := by decide +kernel
theorem i_262_741 : a_ins 262 741 = some (.iadd, 1, 0, 0, 0) := by decide +kernel
theorem i_262_742 : a_ins 262 742 = some (.iaload, 1, 0, 0, 0) := by decide +kernel
theorem i_262_743 : a_ins 262 743 = some (.invokevirtual 100, 3, 22, 4, 0) := by decide +kernel
theorem i_262_746 : a_ins 262 746 = some (.aload_n 2, 1, 0, 0, 0) := by decide +kernel
theorem i_262_747 : a_ins 262 747 = some (.aload_n 0, 1, 0, 0, 0) := by decide +kernel
theorem i_262_748 : a_ins 262 748 = some (.iload_n 3, 1, 0, 0, 0) := by decide +kernel
theorem i_262_749 : a_ins 262 749 = some (.iconst (1), 1, 0, 0, 1) := by decide +kernel
theorem i_262_750 : a_ins 262 750 = some (.iadd, 1, 0, 0, 0) := by decide +kernel
theorem i_262_751 : a_ins 262 751 = some (.iaload, 1, 0, 0, 0) := by decide +kernel
theorem i_262_752 : a_ins 262 752 = some (.aload_n 0, 1, 0, 0, 0) := by decide +kernel
theorem i_262_753 : a_ins 262 753 = some (.iload_n 3, 1, 0, 0, 0) := by decide +kernel
theorem i_262_754 : a_ins 262 754 = some (.iconst (2), 1, 0, 0, 2) := by decide +kernel
theorem i_262_755 : a_ins 262 755 = some (.iadd, 1, 0, 0, 0) := by decide +kernel
theorem i_262_756 : a_ins 262 756 = some (.iaload, 1, 0, 0, 0) := by decide +kernel
theorem i_262_757 : a_ins 262 757 = some (.aload_n 0, 1, 0, 0, 0) := by decide +kernel
theorem i_262_758 : a_ins 262 758 = some (.iload_n 3, 1, 0, 0, 0) := by decide +kernel
theorem i_262_759 : a_ins 262 759 = some (.iconst (3), 1, 0, 0, 3) := by decide +kernel
theorem i_262_760 : a_ins 262 760 = some (.iadd, 1, 0, 0, 0) := by decide +kernel
theorem i_262_761 : a_ins 262 761 = some (.iaload, 1, 0, 0, 0) := by decide +kernel
theorem i_262_762 : a_ins 262 762 = some (.invokevirtual 104, 3, 217, 4, 0) := by decide +kernel
theorem i_262_765 : a_ins 262 765 = some (.if_icmp .eq (496), 3, 1261, 0, 0) := by decide +kernel
theorem i_262_768 : a_ins 262 768 = some (.iconst (0), 1, 0, 0, 0) := by decide +kernel
theorem i_262_769 : a_ins 262 769 = some (.ireturn, 1, 0, 0, 0) := by decide +kernel
theorem i_262_770 : a_ins 262 770 = some (.aload_n 1, 1, 0, 0, 0) := by decide +kernel
theorem i_262_771 : a_ins 262 771 = some (.aload_n 0, 1, 0, 0, 0) := by decide +kernel
theorem i_262_772 : a_ins 262 772 = some (.iload_n 3, 1, 0, 0, 0) := by decide +kernel
theorem i_262_773 : a_ins 262 773 = some (.iconst (1), 1, 0, 0, 1) := by decide +kernel
theorem i_262_774 : a_ins 262 774 = some (.iadd, 1, 0, 0, 0) := by decide +kernel
theorem i_262_775 : a_ins 262 775 = some (.iaload, 1, 0, 0, 0) := by decide +kernel
theorem i_262_776 : a_ins 262 776 = some (.aload_n 0, 1, 0, 0, 0) := by decide +kernel
theorem i_262_777 : a_ins 262 777 = some (.iload_n 3, 1, 0, 0, 0) := by decide +kernel
theorem i_262_778 : a_ins 262 778 = some (.iconst (2), 1, 0, 0, 2) := by decide +kernel
theorem i_262_779 : a_ins 262 779 = some (.iadd, 1, 0, 0, 0) := by decide +kernel
theorem i_262_780 : a_ins 262 780 = some (.iaload, 1, 0, 0, 0) := by decide +kernel
theorem i_262_781 : a_ins 262 781 = some (.aload_n 0, 1, 0, 0, 0) := by decide +kernel
theorem i_262_782 : a_ins 262 782 = some (.iload_n 3, 1, 0, 0, 0) := by decide +kernel
theorem i_262_783 : a_ins 262 783 = some (.iconst (3), 1, 0, 0, 3) := by decide +kernel
theorem i_262_784 : a_ins 262 784 = some (.iadd, 1, 0, 0, 0) := by decide +kernel
theorem i_262_785 : a_ins 262 785 = some (.iaload, 1, 0, 0, 0) := by decide +kernel
theorem i_262_786 : a_ins 262 786 = some (.invokevirtual 105, 3, 23, 4, 0) := by decide +kernel
theorem i_262_789 : a_ins 262 789 = some (.aload_n 2, 1, 0, 0, 0) := by decide +kernel
theorem i_262_790 : a_ins 262 790 = some (.aload_n 0, 1, 0, 0, 0) := by decide +kernel
theorem i_262_791 : a_ins 262 791 = some (.iload_n 3, 1, 0, 0, 0) := by decide +kernel
theorem i_262_792 : a_ins 262 792 = some (.iconst (1), 1, 0, 0, 1) := by decide +kernel
theorem i_262_793 : a_ins 262 793 = some (.iadd, 1, 0, 0, 0) := by decide +kernel
theorem i_262_794 : a_ins 262 794 = some (.iaload, 1, 0, 0, 0) := by decide +kernel
theorem i_262_795 : a_ins 262 795 = some (.aload_n 0, 1, 0, 0, 0) := by decide +kernel
theorem i_262_796 : a_ins 262 796 = some (.iload_n 3, 1, 0, 0, 0) := by decide +kernel
theorem i_262_797 : a_ins 262 797 = some (.iconst (2), 1, 0, 0, 2) := by decide +kernel
theorem i_262_798 : a_ins 262 798 = some (.iadd, 1, 0, 0, 0) := by decide +kernel
theorem i_262_799 : a_ins 262 799 = some (.iaload, 1, 0, 0, 0) := by decide +kernel
theorem i_262_800 : a_ins 262 800 = some (.aload_n 0, 1, 0, 0, 0) := by decide +kernel
theorem i_262_801 : a_ins 262 801 = some (.iload_n 3, 1, 0, 0, 0) := by decide +kernel
theorem i_262_802 : a_ins 262 802 = some (.iconst (3), 1, 0, 0, 3) := by decide +kernel
theorem i_262_803 : a_ins 262 803 = some (.iadd, 1, 0, 0, 0) := by decide +kernel
theorem i_262_804 : a_ins 262 804 = some (.iaload, 1, 0, 0, 0) := by decide +kernel
theorem i_262_805 : a_ins 262 805 = some (.invokevirtual 108, 3, 219, 4, 0) := by decide +kernel
theorem i_262_808 : a_ins 262 808 = some (.if_icmp .eq (453), 3, 1261, 0, 0) := by decide +kernel
theorem i_262_811 : a_ins 262 811 = some (.iconst (0), 1, 0, 0, 0) := by decide +kernel
theorem i_262_812 : a_ins 262 812 = some (.ireturn, 1, 0, 0, 0) := by decide +kernel
theorem i_262_813 : a_ins 262 813 = some (.aload_n 1, 1, 0, 0, 0) := by decide +kernel
theorem i_262_814 : a_ins 262 814 = some (.aload_n 0, 1, 0, 0, 0) := by decide +kernel
theorem i_262_815 : a_ins 262 815 = some (.iload_n 3, 1, 0, 0, 0) := by decide +kernel
theorem i_262_816 : a_ins 262 816 = some (.iconst (1), 1, 0, 0, 1) := by decide +kernel
theorem i_262_817 : a_ins 262 817 = some (.iadd, 1, 0, 0, 0) := by decide +kernel
theorem i_262_818 : a_ins 262 818 = some (.iaload, 1, 0, 0, 0) := by decide +kernel
theorem i_262_819 : a_ins 262 819 = some (.invokevirtual 109, 3, 25, 2, 0) := by decide +kernel
theorem i_262_822 : a_ins 262 822 = some (.aload_n 2, 1, 0, 0, 0) := by decide +kernel
theorem i_262_823 : a_ins 262 823 = some (.aload_n 0, 1, 0, 0, 0) := by decide +kernel
theorem i_262_824 : a_ins 262 824 = some (.iload_n 3, 1, 0, 0, 0) := by decide +kernel
theorem i_262_825 : a_ins 262 825 = some (.iconst (1), 1, 0, 0, 1) := by decide +kernel
theorem i_262_826 : a_ins 262 826 = some (.iadd, 1, 0, 0, 0) := by decide +kernel
theorem i_262_827 : a_ins 262 827 = some (.iaload, 1, 0, 0, 0) := by decide +kernel
theorem i_262_828 : a_ins 262 828 = some (.invokevirtual 112, 3, 212, 2, 0) := by decide +kernel
theorem i_262_831 : a_ins 262 831 = some (.if_icmp .eq (430), 3, 1261, 0, 0) := by decide +kernel
theorem i_262_834 : a_ins 262 834 = some (.iconst (0), 1, 0, 0, 0) := by decide +kernel
theorem i_262_835 : a_ins 262 835 = some (.ireturn, 1, 0, 0, 0) := by decide +kernel
theorem i_262_836 : a_ins 262 836 = some (.aload_n 1, 1, 0, 0, 0) := by decide +kernel
theorem i_262_837 : a_ins 262 837 = some (.invokevirtual 113, 3, 26, 1, 0) := by decide +kernel
theorem i_262_840 : a_ins 262 840 = some (.aload_n 2, 1, 0, 0, 0) := by decide +kernel
theorem i_262_841 : a_ins 262 841 = some (.invokevirtual 116, 3, 213, 1, 0) := by decide +kernel
theorem i_262_844 : a_ins 262 844 = some (.if_icmp .eq (417), 3, 1261, 0, 0) := by decide +kernel
theorem i_262_847 : a_ins 262 847 = some (.iconst (0), 1, 0, 0, 0) := by decide +kernel
theorem i_262_848 : a_ins 262 848 = some (.ireturn, 1, 0, 0, 0) := by decide +kernel
theorem i_262_849 : a_ins 262 849 = some (.aload_n 1, 1, 0, 0, 0) := by decide +kernel
theorem i_262_850 : a_ins 262 850 = some (.aload_n 0, 1, 0, 0, 0) := by decide +kernel
theorem i_262_851 : a_ins 262 851 = some (.iload_n 3, 1, 0, 0, 0) := by decide +kernel
theorem i_262_852 : a_ins 262 852 = some (.iconst (1), 1, 0, 0, 1) := by decide +kernel
theorem i_262_853 : a_ins 262 853 = some (.iadd, 1, 0, 0, 0) := by decide +kernel
theorem i_262_854 : a_ins 262 854 = some (.iaload, 1, 0, 0, 0) := by decide +kernel
theorem i_262_855 : a_ins 262 855 = some (.invokevirtual 117, 3, 27, 2, 0) := by decide +kernel
theorem i_262_858 : a_ins 262 858 = some (.aload_n 2, 1, 0, 0, 0) := by decide +kernel
theorem i_262_859 : a_ins 262 859 = some (.aload_n 0, 1, 0, 0, 0) := by decide +kernel
theorem i_262_860 : a_ins 262 860 = some (.iload_n 3, 1, 0, 0, 0) := by decide +kernel
theorem i_262_861 : a_ins 262 861 = some (.iconst (1), 1, 0, 0, 1) := by decide +kernel
theorem i_262_862 : a_ins 262 862 = some (.iadd, 1, 0, 0, 0) := by decide +kernel
theorem i_262_863 : a_ins 262 863 = some (.iaload, 1, 0, 0, 0) := by decide +kernel
theorem i_262_864 : a_ins 262 864 = some (.invokevirtual 120, 3, 224, 2, 0) := by decide +kernel
theorem i_262_867 : a_ins 262 867 = some (.if_icmp .eq (394), 3, 1261, 0, 0) := by decide +kernel
theorem i_262_870 : a_ins 262 870 = some (.iconst (0), 1, 0, 0, 0) := by decide +kernel
theorem i_262_871 : a_ins 262 871 = some (.ireturn, 1, 0, 0, 0) := by decide +kernel
theorem i_262_872 : a_ins 262 872 = some (.aload_n 1, 1, 0, 0, 0) := by decide +kernel
theorem i_262_873 : a_ins 262 873 = some (.aload_n 0, 1, 0, 0, 0) := by decide +kernel
theorem i_262_874 : a_ins 262 874 = some (.iload_n 3, 1, 0, 0, 0) := by decide +kernel
theorem i_262_875 : a_ins 262 875 = some (.iconst (1), 1, 0, 0, 1) := by decide +kernel
theorem i_262_876 : a_ins 262 876 = some (.iadd, 1, 0, 0, 0) := by decide +kernel
theorem i_262_877 : a_ins 262 877 = some (.iaload, 1, 0, 0, 0) := by decide +kernel
theorem i_262_878 : a_ins 262 878 = some (.aload_n 0, 1, 0, 0, 0) := by decide +kernel
theorem i_262_879 : a_ins 262 879 = some (.iload_n 3, 1, 0, 0, 0) := by decide +kernel
theorem i_262_880 : a_ins 262 880 = some (.iconst (2), 1, 0, 0, 2) := by decide +kernel
theorem i_262_881 : a_ins 262 881 = some (.iadd, 1, 0, 0, 0) := by decide +kernel
theorem i_262_882 : a_ins 262 882 = some (.iaload, 1, 0, 0, 0) := by decide +kernel
theorem i_262_883 : a_ins 262 883 = some (.invokevirtual 121, 3, 28, 3, 0) := by decide +kernel
theorem i_262_886 : a_ins 262 886 = some (.aload_n 2, 1, 0, 0, 0) := by decide +kernel
theorem i_262_887 : a_ins 262 887 = some (.aload_n 0, 1, 0, 0, 0) := by decide +kernel
theorem i_262_888 : a_ins 262 888 = some (.iload_n 3, 1, 0, 0, 0) := by decide +kernel
theorem i_262_889 : a_ins 262 889 = some (.iconst (1), 1, 0, 0, 1) := by decide +kernel
theorem i_262_890 : a_ins 262 890 = some (.iadd, 1, 0, 0, 0) := by decide +kernel
theorem i_262_891 : a_ins 262 891 = some (.iaload, 1, 0, 0, 0) := by decide +kernel
theorem i_262_892 : a_ins 262 892 = some (.aload_n 0, 1, 0, 0, 0) := by decide +kernel
theorem i_262_893 : a_ins 262 893 = some (.iload_n 3, 1, 0, 0, 0) := by decide +kernel
theorem i_262_894 : a_ins 262 894 = some (.iconst (2), 1, 0, 0, 2) := by decide +kernel
theorem i_262_895 : a_ins 262 895 = some (.iadd, 1, 0, 0, 0) := by decide +kernel
theorem i_262_896 : a_ins 262 896 = some (.iaload, 1, 0, 0, 0) := by decide +kernel
theorem i_262_897 : a_ins 262 897 = some (.invokevirtual 124, 3, 225, 3, 0) := by decide +kernel
theorem i_262_900 : a_ins 262 900 = some (.if_icmp .eq (361), 3, 1261, 0, 0) := by decide +kernel
theorem i_262_903 : a_ins 262 903 = some (.iconst (0), 1, 0, 0, 0) := by decide +kernel
theorem i_262_904 : a_ins 262 904 = some (.ireturn, 1, 0, 0, 0) := by decide +kernel
theorem i_262_905 : a_ins 262 905 = some (.aload_n 1, 1, 0, 0, 0) := by decide +kernel
theorem i_262_906 : a_ins 262 906 = some (.aload_n 0, 1, 0, 0, 0) := by decide +kernel
theorem i_262_907 : a_ins 262 907 = some (.iload_n 3, 1, 0, 0, 0) := by decide +kernel
theorem i_262_908 : a_ins 262 908 = some (.iconst (1), 1, 0, 0, 1) := by decide +kernel
theorem i_262_909 : a_ins 262 909 = some (.iadd, 1, 0, 0, 0) := by decide +kernel
theorem i_262_910 : a_ins 262 910 = some (.iaload, 1, 0, 0, 0) := by decide +kernel
theorem i_262_911 : a_ins 262 911 = some (.aload_n 0, 1, 0, 0, 0) := by decide +kernel
theorem i_262_912 : a_ins 262 912 = some (.iload_n 3, 1, 0, 0, 0) := by decide +kernel
theorem i_262_913 : a_ins 262 913 = some (.iconst (2), 1, 0, 0, 2) := by decide +kernel
theorem i_262_914 : a_ins 262 914 = some (.iadd, 1, 0, 0, 0) := by decide +kernel
theorem i_262_915 : a_ins 262 915 = some (.iaload, 1, 0, 0, 0) := by decide +kernel
theorem i_262_916 : a_ins 262 916 = some (.aload_n 0, 1, 0, 0, 0) := by decide +kernel
theorem i_262_917 : a_ins 262 917 = some (.iload_n 3, 1, 0, 0, 0) := by decide +kernel
theorem i_262_918 : a_ins 262 918 = some (.iconst (3), 1, 0, 0, 3) := by decide +kernel
theorem i_262_919 : a_ins 262 919 = some (.iadd, 1, 0, 0, 0) := by decide +kernel
theorem i_262_920 : a_ins 262 920 = some (.iaload, 1, 0, 0, 0) := by decide +kernel
theorem i_262_921 : a_ins 262 921 = some (.invokevirtual 125, 3, 30, 4, 0) := by decide +kernel
theorem i_262_924 : a_ins 262 924 = some (.aload_n 2, 1, 0, 0, 0) := by decide +kernel
theorem i_262_925 : a_ins 262 925 = some (.aload_n 0, 1, 0, 0, 0) := by decide +kernel
theorem i_262_926 : a_ins 262 926 = some (.iload_n 3, 1, 0, 0, 0) := by decide +kernel
theorem i_262_927 : a_ins 262 927 = some (.iconst (1), 1, 0, 0, 1) := by decide +kernel
theorem i_262_928 : a_ins 262 928 = some (.iadd, 1, 0, 0, 0) := by decide +kernel
theorem i_262_929 : a_ins 262 929 = some (.iaload, 1, 0, 0, 0) := by decide +kernel
theorem i_262_930 : a_ins 262 930 = some (.aload_n 0, 1, 0, 0, 0) := by decide +kernel
theorem i_262_931 : a_ins 262 931 = some (.iload_n 3, 1, 0, 0, 0) := by decide +kernel
theorem i_262_932 : a_ins 262 932 = some (.iconst (2), 1, 0, 0, 2) := by decide +kernel
theorem i_262_933 : a_ins 262 933 = some (.iadd, 1, 0, 0, 0) := by decide +kernel
theorem i_262_934 : a_ins 262 934 = some (.iaload, 1, 0, 0, 0) := by decide +kernel
theorem i_262_935 : a_ins 262 935 = some (.aload_n 0, 1, 0, 0, 0) := by decide +kernel
theorem i_262_936 : a_ins 262 936 = some (.iload_n 3, 1, 0, 0, 0) := by decide +kernel
theorem i_262_937 : a_ins 262 937 = some (.iconst (3), 1, 0, 0, 3) := by decide +kernel
theorem i_262_938 : a_ins 262 938 = some (.iadd, 1, 0, 0, 0) := by decide +kernel
theorem i_262_939 : a_ins 262 939 = some (.iaload, 1, 0, 0, 0) := by decide +kernel
theorem i_262_940 : a_ins 262 940 = some (.invokevirtual 128, 3, 236, 4, 0) := by decide +kernel
theorem i_262_943 : a_ins 262 943 = some (.if_icmp .eq (318), 3, 1261, 0, 0) := by decide +kernel
theorem i_262_946 : a_ins 262 946 = some (.iconst (0), 1, 0, 0, 0) := by decide +kernel
theorem i_262_947 : a_ins 262 947 = some (.ireturn, 1, 0, 0, 0) := by decide +kernel
theorem i_262_948 : a_ins 262 948 = some (.aload_n 1, 1, 0, 0, 0) := by decide +kernel
theorem i_262_949 : a_ins 262 949 = some (.aload_n 0, 1, 0, 0, 0) := by decide +kernel
theorem i_262_950 : a_ins 262 950 = some (.iload_n 3, 1, 0, 0, 0) := by decide +kernel
theorem i_262_951 : a_ins 262 951 = some (.iconst (1), 1, 0, 0, 1) := by decide +kernel
theorem i_262_952 : a_ins 262 952 = some (.iadd, 1, 0, 0, 0) := by decide +kernel
theorem i_262_953 : a_ins 262 953 = some (.iaload, 1, 0, 0, 0) := by decide +kernel
theorem i_262_954 : a_ins 262 954 = some (.aload_n 0, 1, 0, 0, 0) := by decide +kernel
theorem i_262_955 : a_ins 262 955 = some (.iload_n 3, 1, 0, 0, 0) := by decide +kernel
theorem i_262_956 : a_ins 262 956 = some (.iconst (2), 1, 0, 0, 2) := by decide +kernel
theorem i_262_957 : a_ins 262 957 = some (.iadd, 1, 0, 0, 0) := by decide +kernel
theorem i_262_958 : a_ins 262 958 = some (.iaload, 1, 0, 0, 0) := by decide +kernel
theorem i_262_959 : a_ins 262 959 = some (.invokevirtual 129, 3, 31, 3, 0) := by decide +kernel
theorem i_262_962 : a_ins 262 962 = some (.aload_n 2, 1, 0, 0, 0) := by decide +kernel
theorem i_262_963 : a_ins 262 963 = some (.aload_n 0, 1, 0, 0, 0) := by decide +kernel
theorem i_262_964 : a_ins 262 964 = some (.iload_n 3, 1, 0, 0, 0) := by decide +kernel
theorem i_262_965 : a_ins 262 965 = some (.iconst (1), 1, 0, 0, 1) := by decide +kernel
theorem i_262_966 : a_ins 262 966 = some (.iadd, 1, 0, 0, 0) := by decide +kernel
theorem i_262_967 : a_ins 262 967 = some (.iaload, 1, 0, 0, 0) := by decide +kernel
theorem i_262_968 : a_ins 262 968 = some (.aload_n 0, 1, 0, 0, 0) := by decide +kernel
theorem i_262_969 : a_ins 262 969 = some (.iload_n 3, 1, 0, 0, 0) := by decide +kernel
theorem i_262_970 : a_ins 262 970 = some (.iconst (2), 1, 0, 0, 2) := by decide +kernel
theorem i_262_971 : a_ins 262 971 = some (.iadd, 1, 0, 0, 0) := by decide +kernel
theorem i_262_972 : a_ins 262 972 = some (.iaload, 1, 0, 0, 0) := by decide +kernel
theorem i_262_973 : a_ins 262 973 = some (.invokevirtual 132, 3, 234, 3, 0) := by decide +kernel
theorem i_262_976 : a_ins 262 976 = some (.if_icmp .eq (285), 3, 1261, 0, 0) := by decide +kernel
theorem i_262_979 : a_ins 262 979 = some (.iconst (0), 1, 0, 0, 0) := by decide +kernel
theorem i_262_980 : a_ins 262 980 = some (.ireturn, 1, 0, 0, 0) := by decide +kernel
theorem i_262_981 : a_ins 262 981 = some (.aload_n 1, 1, 0, 0, 0) := by decide +kernel
theorem i_262_982 : a_ins 262 982 = some (.aload_n 0, 1, 0, 0, 0) := by decide +kernel
theorem i_262_983 : a_ins 262 983 = some (.iload_n 3, 1, 0, 0, 0) := by decide +kernel
theorem i_262_984 : a_ins 262 984 = some (.iconst (1), 1, 0, 0, 1) := by decide +kernel
theorem i_262_985 : a_ins 262 985 = some (.iadd, 1, 0, 0, 0) := by decide +kernel
theorem i_262_986 : a_ins 262 986 = some (.iaload, 1, 0, 0, 0) := by decide +kernel
theorem i_262_987 : a_ins 262 987 = some (.aload_n 0, 1, 0, 0, 0) := by decide +kernel
theorem i_262_988 : a_ins 262 988 = some (.iload_n 3, 1, 0, 0, 0) := by decide +kernel
theorem i_262_989 : a_ins 262 989 = some (.iconst (2), 1, 0, 0, 2) := by decide +kernel
theorem i_262_990 : a_ins 262 990 = some (.iadd, 1, 0, 0, 0) := by decide +kernel
theorem i_262_991 : a_ins 262 991 = some (.iaload, 1, 0, 0, 0) := by decide +kernel
theorem i_262_992 : a_ins 262 992 = some (.invokevirtual 133, 3, 32, 3, 0) := by decide +kernel
theorem i_262_995 : a_ins 262 995 = some (.aload_n 2, 1, 0, 0, 0) := by decide +kernel
theorem i_262_996 : a_ins 262 996 = some (.aload_n 0, 1, 0, 0, 0) := by decide +kernel
theorem i_262_997 : a_ins 262 997 = some (.iload_n 3, 1, 0, 0, 0) := by decide +kernel
theorem i_262_998 : a_ins 262 998 = some (.iconst (1), 1, 0, 0, 1) := by decide +kernel
theorem i_262_999 : a_ins 262 999 = some (.iadd, 1, 0, 0, 0) := by decide +kernel
theorem i_262_1000 : a_ins 262 1000 = some (.iaload, 1, 0, 0, 0) := by decide +kernel
theorem i_262_1001 : a_ins 262 1001 = some (.aload_n 0, 1, 0, 0, 0) := by decide +kernel
theorem i_262_1002 : a_ins 262 1002 = some (.iload_n 3, 1, 0, 0, 0) := by decide +kernel
theorem i_262_1003 : a_ins 262 1003 = some (.iconst (2), 1, 0, 0, 2) := by decide +kernel
theorem i_262_1004 : a_ins 262 1004 = some (.iadd, 1, 0, 0, 0) := by decide +kernel
theorem i_262_1005 : a_ins 262 1005 = some (.iaload, 1, 0, 0, 0) := by decide +kernel
theorem i_262_1006 : a_ins 262 1006 = some (.invokevirtual 136, 3, 238, 3, 0) := by decide +kernel
theorem i_262_1009 : a_ins 262 1009 = some (.if_icmp .eq (252), 3, 1261, 0, 0) := by decide +kernel
theorem i_262_1012 : a_ins 262 1012 = some (.iconst (0), 1, 0, 0, 0) := by decide +kernel
theorem i_262_1013 : a_ins 262 1013 = some (.ireturn, 1, 0, 0, 0) := by decide +kernel
theorem i_262_1014 : a_ins 262 1014 = some (.aload_n 1, 1, 0, 0, 0) := by decide +kernel
theorem i_262_1015 : a_ins 262 1015 = some (.aload_n 0, 1, 0, 0, 0) := by decide +kernel
theorem i_262_1016 : a_ins 262 1016 = some (.iload_n 3, 1, 0, 0, 0) := by decide +kernel
theorem i_262_1017 : a_ins 262 1017 = some (.iconst (1), 1, 0, 0, 1) := by decide +kernel
theorem i_262_1018 : a_ins 262 1018 = some (.iadd, 1, 0, 0, 0) := by decide +kernel
theorem i_262_1019 : a_ins 262 1019 = some (.iaload, 1, 0, 0, 0) := by decide +kernel
theorem i_262_1020 : a_ins 262 1020 = some (.aload_n 0, 1, 0, 0, 0) := by decide +kernel
theorem i_262_1021 : a_ins 262 1021 = some (.iload_n 3, 1, 0, 0, 0) := by decide +kernel
theorem i_262_1022 : a_ins 262 1022 = some (.iconst (2), 1, 0, 0, 2) := by decide +kernel
theorem i_262_1023 : a_ins 262 1023 = some (.iadd, 1, 0, 0, 0) := by decide +kernel
theorem i_262_1024 : a_ins 262 1024 = some (.iaload, 1, 0, 0, 0) := by decide +kernel
theorem i_262_1025 : a_ins 262 1025 = some (.aload_n 0, 1, 0, 0, 0) := by decide +kernel
theorem i_262_1026 : a_ins 262 1026 = some (.iload_n 3, 1, 0, 0, 0) := by decide +kernel
theorem i_262_1027 : a_ins 262 1027 = some (.iconst (3), 1, 0, 0, 3) := by decide +kernel
theorem i_262_1028 : a_ins 262 1028 = some (.iadd, 1, 0, 0, 0) := by decide +kernel
theorem i_262_1029 : a_ins 262 1029 = some (.iaload, 1, 0, 0, 0) := by decide +kernel
theorem i_262_1030 : a_ins 262 1030 = some (.aload_n 0, 1, 0, 0, 0) := by decide +kernel
theorem i_262_1031 : a_ins 262 1031 = some (.iload_n 3, 1, 0, 0, 0) := by decide +kernel
theorem i_262_1032 : a_ins 262 1032 = some (.iconst (4), 1, 0, 0, 4) := by decide +kernel
theorem i_262_1033 : a_ins 262 1033 = some (.iadd, 1, 0, 0, 0) := by decide +kernel
theorem i_262_1034 : a_ins 262 1034 = some (.iaload, 1, 0, 0, 0) := by decide +kernel
theorem i_262_1035 : a_ins 262 1035 = some (.aload_n 0, 1, 0, 0, 0) := by decide +kernel
theorem i_262_1036 : a_ins 262 1036 = some (.iload_n 3, 1, 0, 0, 0) := by decide +kernel
theorem i_262_1037 : a_ins 262 1037 = some (.iconst (5), 1, 0, 0, 5) := by decide +kernel
theorem i_262_1038 : a_ins 262 1038 = some (.iadd, 1, 0, 0, 0) := by decide +kernel
theorem i_262_1039 : a_ins 262 1039 = some (.iaload, 1, 0, 0, 0) := by decide +kernel
theorem i_262_1040 : a_ins 262 1040 = some (.invokevirtual 137, 3, 33, 6, 0) := by decide +kernel
theorem i_262_1043 : a_ins 262 1043 = some (.aload_n 2, 1, 0, 0, 0) := by decide +kernel
theorem i_262_1044 : a_ins 262 1044 = some (.aload_n 0, 1, 0, 0, 0) := by decide +kernel
theorem i_262_1045 : a_ins 262 1045 = some (.iload_n 3, 1, 0, 0, 0) := by decide +kernel
theorem i_262_1046 : a_ins 262 1046 = some (.iconst (1), 1, 0, 0, 1) := by decide +kernel
theorem i_262_1047 : a_ins 262 1047 = some (.iadd, 1, 0, 0, 0) := by decide +kernel
theorem i_262_1048 : a_ins 262 1048 = some (.iaload, 1, 0, 0, 0) := by decide +kernel
theorem i_262_1049 : a_ins 262 1049 = some (.aload_n 0, 1, 0, 0, 0) := by decide +kernel
theorem i_262_1050 : a_ins 262 1050 = some (.iload_n 3, 1, 0, 0, 0) := by decide +kernel
theorem i_262_1051 : a_ins 262 1051 = some (.iconst (2), 1, 0, 0, 2) := by decide +kernel
theorem i_262_1052 : a_ins 262 1052 = some (.iadd, 1, 0, 0, 0) := by decide +kernel
theorem i_262_1053 : a_ins 262 1053 = some (.iaload, 1, 0, 0, 0) := by decide +kernel
theorem i_262_1054 : a_ins 262 1054 = some (.aload_n 0, 1, 0, 0, 0) := by decide +kernel
theorem i_262_1055 : a_ins 262 1055 = some (.iload_n 3, 1, 0, 0, 0) := by decide +kernel
theorem i_262_1056 : a_ins 262 1056 = some (.iconst (3), 1, 0, 0, 3) := by decide +kernel
theorem i_262_1057 : a_ins 262 1057 = some (.iadd, 1, 0, 0, 0) := by decide +kernel
theorem i_262_1058 : a_ins 262 1058 = some (.iaload, 1, 0, 0, 0) := by decide +kernel
theorem i_262_1059 : a_ins 262 1059 = some (.aload_n 0, 1, 0, 0, 0) := by decide +kernel
theorem i_262_1060 : a_ins 262 1060 = some (.iload_n 3, 1, 0, 0, 0) := by decide +kernel
theorem i_262_1061 : a_ins 262 1061 = some (.iconst (4), 1, 0, 0, 4) := by decide +kernel
theorem i_262_1062 : a_ins 262 1062 = some (.iadd, 1, 0, 0, 0) := by decide +kernel
theorem i_262_1063 : a_ins 262 1063 = some (.iaload, 1, 0, 0, 0) := by decide +kernel
theorem i_262_1064 : a_ins 262 1064 = some (.aload_n 0, 1, 0, 0, 0) := by decide +kernel
theorem i_262_1065 : a_ins 262 1065 = some (.iload_n 3, 1, 0, 0, 0) := by decide +kernel
theorem i_262_1066 : a_ins 262 1066 = some (.iconst (5), 1, 0, 0, 5) := by decide +kernel
theorem i_262_1067 : a_ins 262 1067 = some (.iadd, 1, 0, 0, 0) := by decide +kernel
theorem i_262_1068 : a_ins 262 1068 = some (.iaload, 1, 0, 0, 0) := by decide +kernel
theorem i_262_1069 : a_ins 262 1069 = some (.invokevirtual 141, 3, 239, 6, 0) := by decide +kernel
theorem i_262_1072 : a_ins 262 1072 = some (.if_icmp .eq (189), 3, 1261, 0, 0) := by decide +kernel
theorem i_262_1075 : a_ins 262 1075 = some (.iconst (0), 1, 0, 0, 0) := by decide +kernel
theorem i_262_1076 : a_ins 262 1076 = some (.ireturn, 1, 0, 0, 0) := by decide +kernel
theorem i_262_1077 : a_ins 262 1077 = some (.aload_n 1, 1, 0, 0, 0) := by decide +kernel
theorem i_262_1078 : a_ins 262 1078 = some (.aload_n 0, 1, 0, 0, 0) := by decide +kernel
theorem i_262_1079 : a_ins 262 1079 = some (.iload_n 3, 1, 0, 0, 0) := by decide +kernel
theorem i_262_1080 : a_ins 262 1080 = some (.iconst (1), 1, 0, 0, 1) := by decide +kernel
theorem i_262_1081 : a_ins 262 1081 = some (.iadd, 1, 0, 0, 0) := by decide +kernel
theorem i_262_1082 : a_ins 262 1082 = some (.iaload, 1, 0, 0, 0) := by decide +kernel
theorem i_262_1083 : a_ins 262 1083 = some (.invokevirtual 142, 3, 35, 2, 0) := by decide +kernel
theorem i_262_1086 : a_ins 262 1086 = some (.aload_n 2, 1, 0, 0, 0) := by decide +kernel
theorem i_262_1087 : a_ins 262 1087 = some (.aload_n 0, 1, 0, 0, 0) := by decide +kernel
theorem i_262_1088 : a_ins 262 1088 = some (.iload_n 3, 1, 0, 0, 0) := by decide +kernel
theorem i_262_1089 : a_ins 262 1089 = some (.iconst (1), 1, 0, 0, 1) := by decide +kernel
theorem i_262_1090 : a_ins 262 1090 = some (.iadd, 1, 0, 0, 0) := by decide +kernel
theorem i_262_1091 : a_ins 262 1091 = some (.iaload, 1, 0, 0, 0) := by decide +kernel
theorem i_262_1092 : a_ins 262 1092 = some (.invokevirtual 145, 3, 240, 2, 0) := by decide +kernel
theorem i_262_1095 : a_ins 262 1095 = some (.if_icmp .eq (166), 3, 1261, 0, 0) := by decide +kernel
theorem i_262_1098 : a_ins 262 1098 = some (.iconst (0), 1, 0, 0, 0) := by decide +kernel
theorem i_262_1099 : a_ins 262 1099 = some (.ireturn, 1, 0, 0, 0) := by decide +kernel
theorem i_262_1100 : a_ins 262 1100 = some (.aload_n 1, 1, 0, 0, 0) := by decide +kernel
theorem i_262_1101 : a_ins 262 1101 = some (.aload_n 0, 1, 0, 0, 0) := by decide +kernel
theorem i_262_1102 : a_ins 262 1102 = some (.iload_n 3, 1, 0, 0, 0) := by decide +kernel
theorem i_262_1103 : a_ins 262 1103 = some (.iconst (1), 1, 0, 0, 1) := by decide +kernel
theorem i_262_1104 : a_ins 262 1104 = some (.iadd, 1, 0, 0, 0) := by decide +kernel
theorem i_262_1105 : a_ins 262 1105 = some (.iaload, 1, 0, 0, 0) := by decide +kernel
theorem i_262_1106 : a_ins 262 1106 = some (.invokevirtual 146, 3, 38, 2, 0) := by decide +kernel
theorem i_262_1109 : a_ins 262 1109 = some (.aload_n 2, 1, 0, 0, 0) := by decide +kernel
theorem i_262_1110 : a_ins 262 1110 = some (.aload_n 0, 1, 0, 0, 0) := by decide +kernel
theorem i_262_1111 : a_ins 262 1111 = some (.iload_n 3, 1, 0, 0, 0) := by decide +kernel
theorem i_262_1112 : a_ins 262 1112 = some (.iconst (1), 1, 0, 0, 1) := by decide +kernel
theorem i_262_1113 : a_ins 262 1113 = some (.iadd, 1, 0, 0, 0) := by decide +kernel
theorem i_262_1114 : a_ins 262 1114 = some (.iaload, 1, 0, 0, 0) := by decide +kernel
theorem i_262_1115 : a_ins 262 1115 = some (.invokevirtual 149, 3, 253, 2, 0) := by decide +kernel
theorem i_262_1118 : a_ins 262 1118 = some (.if_icmp .eq (143), 3, 1261, 0, 0) := by decide +kernel
theorem i_262_1121 : a_ins 262 1121 = some (.iconst (0), 1, 0, 0, 0) := by decide +kernel
theorem i_262_1122 : a_ins 262 1122 = some (.ireturn, 1, 0, 0, 0) := by decide +kernel
theorem i_262_1123 : a_ins 262 1123 = some (.aload_n 1, 1, 0, 0, 0) := by decide +kernel
theorem i_262_1124 : a_ins 262 1124 = some (.invokevirtual 150, 3, 39, 1, 0) := by decide +kernel
theorem i_262_1127 : a_ins 262 1127 = some (.aload_n 2, 1, 0, 0, 0) := by decide +kernel
theorem i_262_1128 : a_ins 262 1128 = some (.invokevirtual 153, 3, 254, 1, 0) := by decide +kernel
theorem i_262_1131 : a_ins 262 1131 = some (.if_icmp .eq (130), 3, 1261, 0, 0) := by decide +kernel
theorem i_262_1134 : a_ins 262 1134 = some (.iconst (0), 1, 0, 0, 0) := by decide +kernel
theorem i_262_1135 : a_ins 262 1135 = some (.ireturn, 1, 0, 0, 0) := by decide +kernel
theorem i_262_1136 : a_ins 262 1136 = some (.aload_n 1, 1, 0, 0, 0) := by decide +kernel
theorem i_262_1137 : a_ins 262 1137 = some (.aload_n 0, 1, 0, 0, 0) := by decide +kernel
theorem i_262_1138 : a_ins 262 1138 = some (.iload_n 3, 1, 0, 0, 0) := by decide +kernel
theorem i_262_1139 : a_ins 262 1139 = some (.iconst (1), 1, 0, 0, 1) := by decide +kernel
theorem i_262_1140 : a_ins 262 1140 = some (.iadd, 1, 0, 0, 0) := by decide +kernel
theorem i_262_1141 : a_ins 262 1141 = some (.iaload, 1, 0, 0, 0) := by decide +kernel
theorem i_262_1142 : a_ins 262 1142 = some (.aload_n 0, 1, 0, 0, 0) := by decide +kernel
theorem i_262_1143 : a_ins 262 1143 = some (.iload_n 3, 1, 0, 0, 0) := by decide +kernel
theorem i_262_1144 : a_ins 262 1144 = some (.iconst (2), 1, 0, 0, 2) := by decide +kernel
theorem i_262_1145 : a_ins 262 1145 = some (.iadd, 1, 0, 0, 0) := by decide +kernel
theorem i_262_1146 : a_ins 262 1146 = some (.iaload, 1, 0, 0, 0) := by decide +kernel
theorem i_262_1147 : a_ins 262 1147 = some (.invokevirtual 154, 3, 40, 3, 0) := by decide +kernel
theorem i_262_1150 : a_ins 262 1150 = some (.aload_n 2, 1, 0, 0, 0) := by decide +kernel
theorem i_262_1151 : a_ins 262 1151 = some (.aload_n 0, 1, 0, 0, 0) := by decide +kernel
theorem i_262_1152 : a_ins 262 1152 = some (.iload_n 3, 1, 0, 0, 0) := by decide +kernel
theorem i_262_1153 : a_ins 262 1153 = some (.iconst (1), 1, 0, 0, 1) := by decide +kernel
theorem i_262_1154 : a_ins 262 1154 = some (.iadd, 1, 0, 0, 0) := by decide +kernel
theorem i_262_1155 : a_ins 262 1155 = some (.iaload, 1, 0, 0, 0) := by decide +kernel
theorem i_262_1156 : a_ins 262 1156 = some (.aload_n 0, 1, 0, 0, 0) := by decide +kernel
theorem i_262_1157 : a_ins 262 1157 = some (.iload_n 3, 1, 0, 0, 0) := by decide +kernel
theorem i_262_1158 : a_ins 262 1158 = some (.iconst (2), 1, 0, 0, 2) := by decide +kernel
theorem i_262_1159 : a_ins 262 1159 = some (.iadd, 1, 0, 0, 0) := by decide +kernel
theorem i_262_1160 : a_ins 262 1160 = some (.iaload, 1, 0, 0, 0) := by decide +kernel
theorem i_262_1161 : a_ins 262 1161 = some (.invokevirtual 157, 3, 255, 3, 0) := by decide +kernel
theorem i_262_1164 : a_ins 262 1164 = some (.if_icmp .eq (97), 3, 1261, 0, 0) := by decide +kernel
theorem i_262_1167 : a_ins 262 1167 = some (.iconst (0), 1, 0, 0, 0) := by decide +kernel
theorem i_262_1168 : a_ins 262 1168 = some (.ireturn, 1, 0, 0, 0) := by decide +kernel
theorem i_262_1169 : a_ins 262 1169 = some (.aload_n 1, 1, 0, 0, 0) := by decide +kernel
theorem i_262_1170 : a_ins 262 1170 = some (.aload_n 0, 1, 0, 0, 0) := by decide +kernel
theorem i_262_1171 : a_ins 262 1171 = some (.iload_n 3, 1, 0, 0, 0) := by decide +kernel
theorem i_262_1172 : a_ins 262 1172 = some (.iconst (1), 1, 0, 0, 1) := by decide +kernel
theorem i_262_1173 : a_ins 262 1173 = some (.iadd, 1, 0, 0, 0) := by decide +kernel
theorem i_262_1174 : a_ins 262 1174 = some (.iaload, 1, 0, 0, 0) := by decide +kernel
theorem i_262_1175 : a_ins 262 1175 = some (.invokevirtual 158, 3, 41, 2, 0) := by decide +kernel
theorem i_262_1178 : a_ins 262 1178 = some (.aload_n 2, 1, 0, 0, 0) := by decide +kernel
theorem i_262_1179 : a_ins 262 1179 = some (.aload_n 0, 1, 0, 0, 0) := by decide +kernel
theorem i_262_1180 : a_ins 262 1180 = some (.iload_n 3, 1, 0, 0, 0) := by decide +kernel
theorem i_262_1181 : a_ins 262 1181 = some (.iconst (1), 1, 0, 0, 1) := by decide +kernel
theorem i_262_1182 : a_ins 262 1182 = some (.iadd, 1, 0, 0, 0) := by decide +kernel
theorem i_262_1183 : a_ins 262 1183 = some (.iaload, 1, 0, 0, 0) := by decide +kernel
theorem i_262_1184 : a_ins 262 1184 = some (.invokevirtual 161, 3, 258, 2, 0) := by decide +kernel
theorem i_262_1187 : a_ins 262 1187 = some (.if_icmp .eq (74), 3, 1261, 0, 0) := by decide +kernel
theorem i_262_1190 : a_ins 262 1190 = some (.iconst (0), 1, 0, 0, 0) := by decide +kernel
theorem i_262_1191 : a_ins 262 1191 = some (.ireturn, 1, 0, 0, 0) := by decide +kernel
theorem i_262_1192 : a_ins 262 1192 = some (.aload_n 1, 1, 0, 0, 0) := by decide +kernel
theorem i_262_1193 : a_ins 262 1193 = some (.aload_n 0, 1, 0, 0, 0) := by decide +kernel
theorem i_262_1194 : a_ins 262 1194 = some (.iload_n 3, 1, 0, 0, 0) := by decide +kernel
theorem i_262_1195 : a_ins 262 1195 = some (.iconst (1), 1, 0, 0, 1) := by decide +kernel
theorem i_262_1196 : a_ins 262 1196 = some (.iadd, 1, 0, 0, 0) := by decide +kernel
theorem i_262_1197 : a_ins 262 1197 = some (.iaload, 1, 0, 0, 0) := by decide +kernel
theorem i_262_1198 : a_ins 262 1198 = some (.invokevirtual 162, 3, 42, 2, 0) := by decide +kernel
theorem i_262_1201 : a_ins 262 1201 = some (.aload_n 2, 1, 0, 0, 0) := by decide +kernel
theorem i_262_1202 : a_ins 262 1202 = some (.aload_n 0, 1, 0, 0, 0) := by decide +kernel
theorem i_262_1203 : a_ins 262 1203 = some (.iload_n 3, 1, 0, 0, 0) := by decide +kernel
theorem i_262_1204 : a_ins 262 1204 = some (.iconst (1), 1, 0, 0, 1) := by decide +kernel
theorem i_262_1205 : a_ins 262 1205 = some (.iadd, 1, 0, 0, 0) := by decide +kernel
theorem i_262_1206 : a_ins 262 1206 = some (.iaload, 1, 0, 0, 0) := by decide +kernel
theorem i_262_1207 : a_ins 262 1207 = some (.invokevirtual 165, 3, 259, 2, 0) := by decide +kernel
theorem i_262_1210 : a_ins 262 1210 = some (.if_icmp .eq (51), 3, 1261, 0, 0) := by decide +kernel
theorem i_262_1213 : a_ins 262 1213 = some (.iconst (0), 1, 0, 0, 0) := by decide +kernel
theorem i_262_1214 : a_ins 262 1214 = some (.ireturn, 1, 0, 0, 0) := by decide +kernel
theorem i_262_1215 : a_ins 262 1215 = some (.aload_n 1, 1, 0, 0, 0) := by decide +kernel
theorem i_262_1216 : a_ins 262 1216 = some (.aload_n 0, 1, 0, 0, 0) := by decide +kernel
theorem i_262_1217 : a_ins 262 1217 = some (.iload_n 3, 1, 0, 0, 0) := by decide +kernel
theorem i_262_1218 : a_ins 262 1218 = some (.iconst (1), 1, 0, 0, 1) := by decide +kernel
theorem i_262_1219 : a_ins 262 1219 = some (.iadd, 1, 0, 0, 0) := by decide +kernel
theorem i_262_1220 : a_ins 262 1220 = some (.iaload, 1, 0, 0, 0) := by decide +kernel
theorem i_262_1221 : a_ins 262 1221 = some (.invokevirtual 166, 3, 43, 2, 0) := by decide +kernel
theorem i_262_1224 : a_ins 262 1224 = some (.aload_n 2, 1, 0, 0, 0) := by decide +kernel
theorem i_262_1225 : a_ins 262 1225 = some (.aload_n 0, 1, 0, 0, 0) := by decide +kernel
theorem i_262_1226 : a_ins 262 1226 = some (.iload_n 3, 1, 0, 0, 0) := by decide +kernel
theorem i_262_1227 : a_ins 262 1227 = some (.iconst (1), 1, 0, 0, 1) := by decide +kernel
theorem i_262_1228 : a_ins 262 1228 = some (.iadd, 1, 0, 0, 0) := by decide +kernel
theorem i_262_1229 : a_ins 262 1229 = some (.iaload, 1, 0, 0, 0) := by decide +kernel
theorem i_262_1230 : a_ins 262 1230 = some (.invokevirtual 169, 3, 260, 2, 0) := by decide +kernel
theorem i_262_1233 : a_ins 262 1233 = some (.if_icmp .eq (28), 3, 1261, 0, 0) := by decide +kernel
theorem i_262_1236 : a_ins 262 1236 = some (.iconst (0), 1, 0, 0, 0) := by decide +kernel
theorem i_262_1237 : a_ins 262 1237 = some (.ireturn, 1, 0, 0, 0) := by decide +kernel
theorem i_262_1238 : a_ins 262 1238 = some (.aload_n 1, 1, 0, 0, 0) := by decide +kernel
theorem i_262_1239 : a_ins 262 1239 = some (.aload_n 0, 1, 0, 0, 0) := by decide +kernel
theorem i_262_1240 : a_ins 262 1240 = some (.iload_n 3, 1, 0, 0, 0) := by decide +kernel
theorem i_262_1241 : a_ins 262 1241 = some (.iconst (1), 1, 0, 0, 1) := by decide +kernel
theorem i_262_1242 : a_ins 262 1242 = some (.iadd, 1, 0, 0, 0) := by decide +kernel
theorem i_262_1243 : a_ins 262 1243 = some (.iaload, 1, 0, 0, 0) := by decide +kernel
theorem i_262_1244 : a_ins 262 1244 = some (.invokevirtual 170, 3, 44, 2, 0) := by decide +kernel
theorem i_262_1247 : a_ins 262 1247 = some (.aload_n 2, 1, 0, 0, 0) := by decide +kernel
theorem i_262_1248 : a_ins 262 1248 = some (.aload_n 0, 1, 0, 0, 0) := by decide +kernel
theorem i_262_1249 : a_ins 262 1249 = some (.iload_n 3, 1, 0, 0, 0) := by decide +kernel
theorem i_262_1250 : a_ins 262 1250 = some (.iconst (1), 1, 0, 0, 1) := by decide +kernel
theorem i_262_1251 : a_ins 262 1251 = some (.iadd, 1, 0, 0, 0) := by decide +kernel
theorem i_262_1252 : a_ins 262 1252 = some (.iaload, 1, 0, 0, 0) := by decide +kernel
theorem i_262_1253 : a_ins 262 1253 = some (.invokevirtual 173, 3, 261, 2, 0) := by decide +kernel
theorem i_262_1256 : a_ins 262 1256 = some (.if_icmp .eq (5), 3, 1261, 0, 0) := by decide +kernel
theorem i_262_1259 : a_ins 262 1259 = some (.iconst (0), 1, 0, 0, 0) := by decide +kernel
theorem i_262_1260 : a_ins 262 1260 = some (.ireturn, 1, 0, 0, 0) := by decide +kernel
theorem i_262_1261 : a_ins 262 1261 = some (.iinc 3 (6), 3, 0, 0, 6) := by decide +kernel
theorem i_262_1264 : a_ins 262 1264 = some (.goto (-1246), 3, 18, 0, 0) := by decide +kernel
theorem i_262_1267 : a_ins 262 1267 = some (.iconst (1), 1, 0, 0, 1) := by decide +kernel
theorem i_262_1268 : a_ins 262 1268 = some (.ireturn, 1, 0, 0, 0) := by decide +kernel
theorem i_263_0 : a_ins 263 0 = some (.iconst (0), 1, 0, 0, 0) := by decide +kernel
theorem i_263_1 : a_ins 263 1 = some (.istore_n 2, 1, 0, 0, 0) := by decide +kernel
theorem i_263_2 : a_ins 263 2 = some (.aload_n 0, 1, 0, 0, 0) := by decide +kernel
theorem i_263_3 : a_ins 263 3 = some (.arraylength, 1, 0, 0, 0) := by decide +kernel
theorem i_263_4 : a_ins 263 4 = some (.istore_n 3, 1, 0, 0, 0) := by decide +kernel
theorem i_263_5 : a_ins 263 5 = some (.iload_n 2, 1, 0, 0, 0) := by decide +kernel
theorem i_263_6 : a_ins 263 6 = some (.iload_n 3, 1, 0, 0, 0) := by decide +kernel
theorem i_263_7 : a_ins 263 7 = some (.if_icmp .ge (13), 3, 20, 0, 0) := by decide +kernel
theorem i_263_10 : a_ins 263 10 = some (.aload_n 0, 1, 0, 0, 0) := by decide +kernel
theorem i_263_11 : a_ins 263 11 = some (.iload_n 2, 1, 0, 0, 0) := by decide +kernel
theorem i_263_12 : a_ins 263 12 = some (.iload_n 1, 1, 0, 0, 0) := by decide +kernel
theorem i_263_13 : a_ins 263 13 = some (.iastore, 1, 0, 0, 0) := by decide +kernel
theorem i_263_14 : a_ins 263 14 = some (.iinc 2 (1), 3, 0, 0, 1) := by decide +kernel
theorem i_263_17 : a_ins 263 17 = some (.goto (-12), 3, 5, 0, 0) := by decide +kernel
theorem i_263_20 : a_ins 263 20 = some (.return_, 1, 0, 0, 0) := by decide +kernel
theorem i_264_0 : a_ins 264 0 = some (.iload_n 0, 1, 0, 0, 0) := by decide +kernel
theorem i_264_1 : a_ins 264 1 = some (.iload_n 1, 1, 0, 0, 0) := by decide +kernel
theorem i_264_2 : a_ins 264 2 = some (.if_icmp .gt (7), 3, 9, 0, 0) := by decide +kernel
theorem i_264_5 : a_ins 264 5 = some (.iload_n 0, 1, 0, 0, 0) := by decide +kernel
theorem i_264_6 : a_ins 264 6 = some (.goto (4), 3, 10, 0, 0) := by decide +kernel
theorem i_264_9 : a_ins 264 9 = some (.iload_n 1, 1, 0, 0, 0) := by decide +kernel
theorem i_264_10 : a_ins 264 10 = some (.ireturn, 1, 0, 0, 0) := by decide +kernel
theorem i_265_0 : a_ins 265 0 = some (.iload_n 0, 1, 0, 0, 0) := by decide +kernel
theorem i_265_1 : a_ins 265 1 = some (.iload_n 0, 1, 0, 0, 0) := by decide +kernel
theorem i_265_2 : a_ins 265 2 = some (.iconst (1), 1, 0, 0, 1) := by decide +kernel
theorem i_265_3 : a_ins 265 3 = some (.iushr, 1, 0, 0, 0) := by decide +kernel
theorem i_265_4 : a_ins 265 4 = some (.ldc_w 265, 3, 0, 0, 1431655765) := by decide +kernel
theorem i_265_7 : a_ins 265 7 = some (.iand, 1, 0, 0, 0) := by decide +kernel
theorem i_265_8 : a_ins 265 8 = some (.isub, 1, 0, 0, 0) := by decide +kernel
theorem i_265_9 : a_ins 265 9 = some (.istore_n 0, 1, 0, 0, 0) := by decide +kernel
theorem i_265_10 : a_ins 265 10 = some (.iload_n 0, 1, 0, 0, 0) := by decide +kernel
theorem i_265_11 : a_ins 265 11 = some (.ldc_w 266, 3, 0, 0, 858993459) := by decide +kernel
theorem i_265_14 : a_ins 265 14 = some (.iand, 1, 0, 0, 0) := by decide +kernel
theorem i_265_15 : a_ins 265 15 = some (.iload_n 0, 1, 0, 0, 0) := by decide +kernel
theorem i_265_16 : a_ins 265 16 = some (.iconst (2), 1, 0, 0, 2) := by decide +kernel
theorem i_265_17 : a_ins 265 17 = some (.iushr, 1, 0, 0, 0) := by decide +kernel
theorem i_265_18 : a_ins 265 18 = some (.ldc_w 266, 3, 0, 0, 858993459) := by decide +kernel
theorem i_265_21 : a_ins 265 21 = some (.iand, 1, 0, 0, 0) := by decide +kernel
theorem i_265_22 : a_ins 265 22 = some (.iadd, 1, 0, 0, 0) := by decide +kernel
theorem i_265_23 : a_ins 265 23 = some (.istore_n 0, 1, 0, 0, 0) := by decide +kernel
theorem i_265_24 : a_ins 265 24 = some (.iload_n 0, 1, 0, 0, 0) := by decide +kernel
theorem i_265_25 : a_ins 265 25 = some (.iload_n 0, 1, 0, 0, 0) := by decide +kernel
theorem i_265_26 : a_ins 265 26 = some (.iconst (4), 1, 0, 0, 4) := by decide +kernel
theorem i_265_27 : a_ins 265 27 = some (.iushr, 1, 0, 0, 0) := by decide +kernel
theorem i_265_28 : a_ins 265 28 = some (.iadd, 1, 0, 0, 0) := by decide +kernel
theorem i_265_29 : a_ins 265 29 = some (.ldc_w 267, 3, 0, 0, 252645135) := by decide +kernel
theorem i_265_32 : a_ins 265 32 = some (.iand, 1, 0, 0, 0) := by decide +kernel
theorem i_265_33 : a_ins 265 33 = some (.istore_n 0, 1, 0, 0, 0) := by decide +kernel
theorem i_265_34 : a_ins 265 34 = some (.iload_n 0, 1, 0, 0, 0) := by decide +kernel
theorem i_265_35 : a_ins 265 35 = some (.iload_n 0, 1, 0, 0, 0) := by decide +kernel
theorem i_265_36 : a_ins 265 36 = some (.bipush (8), 2, 0, 0, 8) := by decide +kernel
theorem i_265_38 : a_ins 265 38 = some (.iushr, 1, 0, 0, 0) := by decide +kernel
theorem i_265_39 : a_ins 265 39 = some (.iadd, 1, 0, 0, 0) := by decide +kernel
theorem i_265_40 : a_ins 265 40 = some (.istore_n 0, 1, 0, 0, 0) := by decide +kernel
theorem i_265_41 : a_ins 265 41 = some (.iload_n 0, 1, 0, 0, 0) := by decide +kernel
theorem i_265_42 : a_ins 265 42 = some (.iload_n 0, 1, 0, 0, 0) := by decide +kernel
theorem i_265_43 : a_ins 265 43 = some (.bipush (16), 2, 0, 0, 16) := by decide +kernel
theorem i_265_45 : a_ins 265 45 = some (.iushr, 1, 0, 0, 0) := by decide +kernel
theorem i_265_46 : a_ins 265 46 = some (.iadd, 1, 0, 0, 0) := by decide +kernel
theorem i_265_47 : a_ins 265 47 = some (.istore_n 0, 1, 0, 0, 0) := by decide +kernel
theorem i_265_48 : a_ins 265 48 = some (.iload_n 0, 1, 0, 0, 0) := by decide +kernel
theorem i_265_49 : a_ins 265 49 = some (.bipush (63), 2, 0, 0, 63) := by decide +kernel
theorem i_265_51 : a_ins 265 51 = some (.iand, 1, 0, 0, 0) := by decide +kernel
theorem i_265_52 : a_ins 265 52 = some (.ireturn, 1, 0, 0, 0) := by decide +kernel
theorem i_266_0 : a_ins 266 0 = some (.iload_n 0, 1, 0, 0, 0) := by decide +kernel
theorem i_266_1 : a_ins 266 1 = some (.iload_n 1, 1, 0, 0, 0) := by decide +kernel
theorem i_266_2 : a_ins 266 2 = some (.irem, 1, 0, 0, 0) := by decide +kernel
theorem i_266_3 : a_ins 266 3 = some (.istore_n 2, 1, 0, 0, 0) := by decide +kernel
theorem i_266_4 : a_ins 266 4 = some (.iload_n 0, 1, 0, 0, 0) := by decide +kernel
theorem i_266_5 : a_ins 266 5 = some (.iload_n 1, 1, 0, 0, 0) := by decide +kernel
theorem i_266_6 : a_ins 266 6 = some (.ixor, 1, 0, 0, 0) := by decide +kernel
theorem i_266_7 : a_ins 266 7 = some (.ifCond .ge (11), 3, 18, 0, 0) := by decide +kernel
theorem i_266_10 : a_ins 266 10 = some (.iload_n 2, 1, 0, 0, 0) := by decide +kernel
theorem i_266_11 : a_ins 266 11 = some (.ifCond .eq (7), 3, 18, 0, 0) := by decide +kernel
theorem i_266_14 : a_ins 266 14 = some (.iload_n 2, 1, 0, 0, 0) := by decide +kernel
theorem i_266_15 : a_ins 266 15 = some (.iload_n 1, 1, 0, 0, 0) := by decide +kernel
theorem i_266_16 : a_ins 266 16 = some (.iadd, 1, 0, 0, 0) := by decide +kernel
theorem i_266_17 : a_ins 266 17 = some (.ireturn, 1, 0, 0, 0) := by decide +kernel
theorem i_266_18 : a_ins 266 18 = some (.iload_n 2, 1, 0, 0, 0) := by decide +kernel
theorem i_266_19 : a_ins 266 19 = some (.ireturn, 1, 0, 0, 0) := by decide +kernel
theorem i_267_0 : a_ins 267 0 = some (.aload_n 0, 1, 0, 0, 0) := by decide +kernel
theorem i_267_1 : a_ins 267 1 = some (.getfield 9, 3, 9, 0, 0) := by decide +kernel
theorem i_267_4 : a_ins 267 4 = some (.arraylength, 1, 0, 0, 0) := by decide +kernel
theorem i_267_5 : a_ins 267 5 = some (.aload_n 0, 1, 0, 0, 0) := by decide +kernel
theorem i_267_6 : a_ins 267 6 = some (.invokevirtual 335, 3, 268, 1, 0) := by decide +kernel
theorem i_267_9 : a_ins 267 9 = some (.ishr, 1, 0, 0, 0) := by decide +kernel
theorem i_267_10 : a_ins 267 10 = some (.ireturn, 1, 0, 0, 0) := by decide +kernel
theorem i_268_0 : a_ins 268 0 = some (.getstatic 38, 3, 0, 0, 1) := by decide +kernel
theorem i_268_3 : a_ins 268 3 = some (.ifCond .eq (10), 3, 13, 0, 0) := by decide +kernel
theorem i_268_6 : a_ins 268 6 = some (.aload_n 0, 1, 0, 0, 0) := by decide +kernel
theorem i_268_7 : a_ins 268 7 = some (.getfield 15, 3, 9, 1, 0) := by decide +kernel
theorem i_268_10 : a_ins 268 10 = some (.goto (4), 3, 14, 0, 0) := by decide +kernel
theorem i_268_13 : a_ins 268 13 = some (.iconst (1), 1, 0, 0, 1) := by decide +kernel
theorem i_268_14 : a_ins 268 14 = some (.ireturn, 1, 0, 0, 0) := by decide +kernel
theorem i_269_0 : a_ins 269 0 = some (.aload_n 0, 1, 0, 0, 0) := by decide +kernel
theorem i_269_1 : a_ins 269 1 = some (.invokevirtual 492, 3, 270, 1, 0) := by decide +kernel
theorem i_269_4 : a_ins 269 4 = some (.ifCond .eq (12), 3, 16, 0, 0) := by decide +kernel
theorem i_269_7 : a_ins 269 7 = some (.aload_n 0, 1, 0, 0, 0) := by decide +kernel
theorem i_269_8 : a_ins 269 8 = some (.getfield 9, 3, 9, 0, 0) := by decide +kernel
theorem i_269_11 : a_ins 269 11 = some (.iload_n 1, 1, 0, 0, 0) := by decide +kernel
theorem i_269_12 : a_ins 269 12 = some (.invokestatic 495, 3, 271, 2, 0) := by decide +kernel
theorem i_269_15 : a_ins 269 15 = some (.ireturn, 1, 0, 0, 0) := by decide +kernel
theorem i_269_16 : a_ins 269 16 = some (.aload_n 0, 1, 0, 0, 0) := by decide +kernel
theorem i_269_17 : a_ins 269 17 = some (.getfield 9, 3, 9, 0, 0) := by decide +kernel
theorem i_269_20 : a_ins 269 20 = some (.iload_n 1, 1, 0, 0, 0) := by decide +kernel
theorem i_269_21 : a_ins 269 21 = some (.invokestatic 498, 3, 999, 2, 0) := by decide +kernel
theorem i_269_24 : a_ins 269 24 = some (.ireturn, 1, 0, 0, 0) := by decide +kernel
theorem i_270_0 : a_ins 270 0 = some (.getstatic 38, 3, 0, 0, 1) := by decide +kernel
theorem i_270_3 : a_ins 270 3 = some (.ifCond .eq (14), 3, 17, 0, 0) := by decide +kernel
theorem i_270_6 : a_ins 270 6 = some (.aload_n 0, 1, 0, 0, 0) := by decide +kernel
theorem i_270_7 : a_ins 270 7 = some (.getfield 15, 3, 9, 1, 0) := by decide +kernel
theorem i_270_10 : a_ins 270 10 = some (.ifCond .ne (7), 3, 17, 0, 0) := by decide +kernel
theorem i_270_13 : a_ins 270 13 = some (.iconst (1), 1, 0, 0, 1) := by decide +kernel
theorem i_270_14 : a_ins 270 14 = some (.goto (4), 3, 18, 0, 0) := by decide +kernel
theorem i_270_17 : a_ins 270 17 = some (.iconst (0), 1, 0, 0, 0) := by decide +kernel
theorem i_270_18 : a_ins 270 18 = some (.ireturn, 1, 0, 0, 0) := by decide +kernel
theorem i_271_0 : a_ins 271 0 = some (.iload_n 1, 1, 0, 0, 0) := by decide +kernel
theorem i_271_1 : a_ins 271 1 = some (.aload_n 0, 1, 0, 0, 0) := by decide +kernel
theorem i_271_2 : a_ins 271 2 = some (.arraylength, 1, 0, 0, 0) := by decide +kernel
theorem i_271_3 : a_ins 271 3 = some (.invokestatic 9, 3, 272, 2, 0) := by decide +kernel
theorem i_271_6 : a_ins 271 6 = some (.aload_n 0, 1, 0, 0, 0) := by decide +kernel
theorem i_271_7 : a_ins 271 7 = some (.iload_n 1, 1, 0, 0, 0) := by decide +kernel
theorem i_271_8 : a_ins 271 8 = some (.baload, 1, 0, 0, 0) := by decide +kernel
theorem i_271_9 : a_ins 271 9 = some (.sipush (255), 3, 0, 0, 255) := by decide +kernel
theorem i_271_12 : a_ins 271 12 = some (.iand, 1, 0, 0, 0) := by decide +kernel
theorem i_271_13 : a_ins 271 13 = some (.i2c, 1, 0, 0, 0) := by decide +kernel
theorem i_271_14 : a_ins 271 14 = some (.ireturn, 1, 0, 0, 0) := by decide +kernel
theorem i_272_0 : a_ins 272 0 = some (.iload_n 0, 1, 0, 0, 0) := by decide +kernel
theorem i_272_1 : a_ins 272 1 = some (.iload_n 1, 1, 0, 0, 0) := by decide +kernel
theorem i_272_2 : a_ins 272 2 = some (.getstatic 1053, 3, 1, 0, 0) := by decide +kernel
theorem i_272_5 : a_ins 272 5 = some (.invokestatic 1059, 3, 273, 3, 0) := by decide +kernel
theorem i_272_8 : a_ins 272 8 = some (.pop, 1, 0, 0, 0) := by decide +kernel
theorem i_272_9 : a_ins 272 9 = some (.return_, 1, 0, 0, 0) := by decide +kernel
theorem i_273_0 : a_ins 273 0 = some (.iload_n 0, 1, 0, 0, 0) := by decide +kernel
theorem i_273_1 : a_ins 273 1 = some (.ifCond .lt (8), 3, 9, 0, 0) := by decide +kernel
theorem i_273_4 : a_ins 273 4 = some (.iload_n 0, 1, 0, 0, 0) := by decide +kernel
theorem i_273_5 : a_ins 273 5 = some (.iload_n 1, 1, 0, 0, 0) := by decide +kernel
theorem i_273_6 : a_ins 273 6 = some (.if_icmp .lt (10), 3, 16, 0, 0) := by decide +kernel
theorem i_273_9 : a_ins 273 9 = some (.aload_n 2, 1, 0, 0, 0) := by decide +kernel
theorem i_273_10 : a_ins 273 10 = some (.iload_n 0, 1, 0, 0, 0) := by decide +kernel
theorem i_273_11 : a_ins 273 11 = some (.iload_n 1, 1, 0, 0, 0) := by decide +kernel
theorem i_273_12 : a_ins 273 12 = some (.invokestatic 95, 3, 999, 0, 0) := by decide +kernel
theorem i_273_15 : a_ins 273 15 = some (.athrow, 1, 0, 0, 0) := by decide +kernel
theorem i_273_16 : a_ins 273 16 = some (.iload_n 0, 1, 0, 0, 0) := by decide +kernel
theorem i_273_17 : a_ins 273 17 = some (.ireturn, 1, 0, 0, 0) := by decide +kernel
