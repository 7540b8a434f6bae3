theorem dX10_setPrime_2 : decode cX10_setPrime 2 = .ok (.bipush 31, 2) := by decide +kernel
theorem dX10_setPrime_4 : decode cX10_setPrime 4 = .ok (.invokestatic 80, 3) := by decide +kernel
theorem dX10_setPrime_7 : decode cX10_setPrime 7 = .ok (.istore_n 2, 1) := by decide +kernel
theorem dX10_setPrime_8 : decode cX10_setPrime 8 = .ok (.iconst 2, 1) := by decide +kernel
theorem dX10_setPrime_9 : decode cX10_setPrime 9 = .ok (.istore_n 3, 1) := by decide +kernel
theorem dX10_setPrime_10 : decode cX10_setPrime 10 = .ok (.iload_n 3, 1) := by decide +kernel
theorem dX10_setPrime_11 : decode cX10_setPrime 11 = .ok (.iload_n 1, 1) := by decide +kernel
theorem dX10_setPrime_12 : decode cX10_setPrime 12 = .ok (.if_icmp .ge 25, 3) := by decide +kernel
theorem dX10_setPrime_15 : decode cX10_setPrime 15 = .ok (.iload_n 2, 1) := by decide +kernel
theorem dX10_setPrime_16 : decode cX10_setPrime 16 = .ok (.ifCond .eq 21, 3) := by decide +kernel
theorem dX10_setPrime_19 : decode cX10_setPrime 19 = .ok (.iload_n 1, 1) := by decide +kernel
theorem dX10_setPrime_20 : decode cX10_setPrime 20 = .ok (.iload_n 3, 1) := by decide +kernel
theorem dX10_setPrime_21 : decode cX10_setPrime 21 = .ok (.irem, 1) := by decide +kernel
theorem dX10_setPrime_22 : decode cX10_setPrime 22 = .ok (.ifCond .eq 7, 3) := by decide +kernel
theorem dX10_setPrime_25 : decode cX10_setPrime 25 = .ok (.iconst 1, 1) := by decide +kernel
theorem dX10_setPrime_26 : decode cX10_setPrime 26 = .ok (.goto 4, 3) := by decide +kernel
theorem dX10_setPrime_29 : decode cX10_setPrime 29 = .ok (.iconst 0, 1) := by decide +kernel
theorem dX10_setPrime_30 : decode cX10_setPrime 30 = .ok (.istore_n 2, 1) := by decide +kernel
theorem dX10_setPrime_31 : decode cX10_setPrime 31 = .ok (.iinc 3 1, 3) := by decide +kernel
theorem dX10_setPrime_34 : decode cX10_setPrime 34 = .ok (.goto (-24), 3) := by decide +kernel
theorem dX10_setPrime_37 : decode cX10_setPrime 37 = .ok (.iload_n 2, 1) := by decide +kernel
theorem dX10_setPrime_38 : decode cX10_setPrime 38 = .ok (.ifCond .ne 5, 3) := by decide +kernel
theorem dX10_setPrime_41 : decode cX10_setPrime 41 = .ok (.iconst (-1), 1) := by decide +kernel
theorem dX10_setPrime_42 : decode cX10_setPrime 42 = .ok (.ireturn, 1) := by decide +kernel
theorem dX10_setPrime_43 : decode cX10_setPrime 43 = .ok (.aload_n 0, 1) := by decide +kernel
theorem dX10_setPrime_44 : decode cX10_setPrime 44 = .ok (.invokevirtual 106, 3) := by decide +kernel
theorem dX10_setPrime_47 : decode cX10_setPrime 47 = .ok (.aload_n 0, 1) := by decide +kernel
theorem dX10_setPrime_48 : decode cX10_setPrime 48 = .ok (.invokevirtual 76, 3) := by decide +kernel
theorem dX10_setPrime_51 : decode cX10_setPrime 51 = .ok (.istore_n 3, 1) := by decide +kernel
theorem dX10_setPrime_52 : decode cX10_setPrime 52 = .ok (.iconst 0, 1) := by decide +kernel
theorem dX10_setPrime_53 : decode cX10_setPrime 53 = .ok (.istore 4, 2) := by decide +kernel
theorem dX10_setPrime_55 : decode cX10_setPrime 55 = .ok (.iload 4, 2) := by decide +kernel
theorem dX10_setPrime_57 : decode cX10_setPrime 57 = .ok (.bipush 82, 2) := by decide +kernel
theorem dX10_setPrime_59 : decode cX10_setPrime 59 = .ok (.if_icmp .ge 17, 3) := by decide +kernel
theorem dX10_setPrime_62 : decode cX10_setPrime 62 = .ok (.aload_n 0, 1) := by decide +kernel
theorem dX10_setPrime_63 : decode cX10_setPrime 63 = .ok (.getfield 7, 3) := by decide +kernel
theorem dX10_setPrime_66 : decode cX10_setPrime 66 = .ok (.iload 4, 2) := by decide +kernel
theorem dX10_setPrime_68 : decode cX10_setPrime 68 = .ok (.iconst 0, 1) := by decide +kernel
theorem dX10_setPrime_69 : decode cX10_setPrime 69 = .ok (.iastore, 1) := by decide +kernel
theorem dX10_setPrime_70 : decode cX10_setPrime 70 = .ok (.iinc 4 1, 3) := by decide +kernel
theorem dX10_setPrime_73 : decode cX10_setPrime 73 = .ok (.goto (-18), 3) := by decide +kernel
theorem dX10_setPrime_76 : decode cX10_setPrime 76 = .ok (.aload_n 0, 1) := by decide +kernel
theorem dX10_setPrime_77 : decode cX10_setPrime 77 = .ok (.getfield 7, 3) := by decide +kernel
theorem dX10_setPrime_80 : decode cX10_setPrime 80 = .ok (.iconst 0, 1) := by decide +kernel
theorem dX10_setPrime_81 : decode cX10_setPrime 81 = .ok (.iload_n 1, 1) := by decide +kernel
theorem dX10_setPrime_82 : decode cX10_setPrime 82 = .ok (.iastore, 1) := by decide +kernel
theorem dX10_setPrime_83 : decode cX10_setPrime 83 = .ok (.iload_n 3, 1) := by decide +kernel
theorem dX10_setPrime_84 : decode cX10_setPrime 84 = .ok (.ireturn, 1) := by decide +kernel
theorem dX10_type_0 : decode cX10_type 0 = .ok (.iload_n 1, 1) := by decide +kernel
theorem dX10_type_1 : decode cX10_type 1 = .ok (.bipush 32, 2) := by decide +kernel
theorem dX10_type_3 : decode cX10_type 3 = .ok (.bipush 126, 2) := by decide +kernel
theorem dX10_type_5 : decode cX10_type 5 = .ok (.invokestatic 80, 3) := by decide +kernel
theorem dX10_type_8 : decode cX10_type 8 = .ok (.ifCond .ne 5, 3) := by decide +kernel
theorem dX10_type_11 : decode cX10_type 11 = .ok (.iconst (-1), 1) := by decide +kernel
theorem dX10_type_12 : decode cX10_type 12 = .ok (.ireturn, 1) := by decide +kernel
theorem dX10_type_13 : decode cX10_type 13 = .ok (.aload_n 0, 1) := by decide +kernel
theorem dX10_type_14 : decode cX10_type 14 = .ok (.getfield 109, 3) := by decide +kernel
theorem dX10_type_17 : decode cX10_type 17 = .ok (.bipush 60, 2) := by decide +kernel
theorem dX10_type_19 : decode cX10_type 19 = .ok (.if_icmp .ne 6, 3) := by decide +kernel
theorem dX10_type_22 : decode cX10_type 22 = .ok (.bipush (-3), 2) := by decide +kernel
theorem dX10_type_24 : decode cX10_type 24 = .ok (.ireturn, 1) := by decide +kernel
theorem dX10_type_25 : decode cX10_type 25 = .ok (.aload_n 0, 1) := by decide +kernel
theorem dX10_type_26 : decode cX10_type 26 = .ok (.getfield 16, 3) := by decide +kernel
theorem dX10_type_29 : decode cX10_type 29 = .ok (.aload_n 0, 1) := by decide +kernel
theorem dX10_type_30 : decode cX10_type 30 = .ok (.getfield 109, 3) := by decide +kernel
theorem dX10_type_33 : decode cX10_type 33 = .ok (.iload_n 1, 1) := by decide +kernel
theorem dX10_type_34 : decode cX10_type 34 = .ok (.iastore, 1) := by decide +kernel
theorem dX10_type_35 : decode cX10_type 35 = .ok (.aload_n 0, 1) := by decide +kernel
theorem dX10_type_36 : decode cX10_type 36 = .ok (.dup, 1) := by decide +kernel
theorem dX10_type_37 : decode cX10_type 37 = .ok (.getfield 109, 3) := by decide +kernel
theorem dX10_type_40 : decode cX10_type 40 = .ok (.iconst 1, 1) := by decide +kernel
theorem dX10_type_41 : decode cX10_type 41 = .ok (.iadd, 1) := by decide +kernel
theorem dX10_type_42 : decode cX10_type 42 = .ok (.putfield 109, 3) := by decide +kernel
theorem dX10_type_45 : decode cX10_type 45 = .ok (.aload_n 0, 1) := by decide +kernel
theorem dX10_type_46 : decode cX10_type 46 = .ok (.getfield 109, 3) := by decide +kernel
theorem dX10_type_49 : decode cX10_type 49 = .ok (.ireturn, 1) := by decide +kernel
theorem dX10_clearText_0 : decode cX10_clearText 0 = .ok (.aload_n 0, 1) := by decide +kernel
theorem dX10_clearText_1 : decode cX10_clearText 1 = .ok (.getfield 109, 3) := by decide +kernel
theorem dX10_clearText_4 : decode cX10_clearText 4 = .ok (.istore_n 1, 1) := by decide +kernel
theorem dX10_clearText_5 : decode cX10_clearText 5 = .ok (.aload_n 0, 1) := by decide +kernel
theorem dX10_clearText_6 : decode cX10_clearText 6 = .ok (.iconst 0, 1) := by decide +kernel
theorem dX10_clearText_7 : decode cX10_clearText 7 = .ok (.putfield 109, 3) := by decide +kernel
theorem dX10_clearText_10 : decode cX10_clearText 10 = .ok (.iload_n 1, 1) := by decide +kernel
theorem dX10_clearText_11 : decode cX10_clearText 11 = .ok (.ireturn, 1) := by decide +kernel
theorem dX10_here_0 : decode cX10_here 0 = .ok (.aload_n 0, 1) := by decide +kernel
theorem dX10_here_1 : decode cX10_here 1 = .ok (.getfield 112, 3) := by decide +kernel
theorem dX10_here_4 : decode cX10_here 4 = .ok (.aload_n 0, 1) := by decide +kernel
theorem dX10_here_5 : decode cX10_here 5 = .ok (.getfield 109, 3) := by decide +kernel
theorem dX10_here_8 : decode cX10_here 8 = .ok (.if_icmp .ge 15, 3) := by decide +kernel
theorem dX10_here_11 : decode cX10_here 11 = .ok (.aload_n 0, 1) := by decide +kernel
theorem dX10_here_12 : decode cX10_here 12 = .ok (.getfield 16, 3) := by decide +kernel
theorem dX10_here_15 : decode cX10_here 15 = .ok (.aload_n 0, 1) := by decide +kernel
theorem dX10_here_16 : decode cX10_here 16 = .ok (.getfield 112, 3) := by decide +kernel
theorem dX10_here_19 : decode cX10_here 19 = .ok (.iaload, 1) := by decide +kernel
theorem dX10_here_20 : decode cX10_here 20 = .ok (.goto 5, 3) := by decide +kernel
theorem dX10_here_23 : decode cX10_here 23 = .ok (.bipush (-9), 2) := by decide +kernel
theorem dX10_here_25 : decode cX10_here 25 = .ok (.ireturn, 1) := by decide +kernel
theorem dX10_isDigit_0 : decode cX10_isDigit 0 = .ok (.aload_n 0, 1) := by decide +kernel
theorem dX10_isDigit_1 : decode cX10_isDigit 1 = .ok (.invokevirtual 115, 3) := by decide +kernel
theorem dX10_isDigit_4 : decode cX10_isDigit 4 = .ok (.bipush 48, 2) := by decide +kernel
theorem dX10_isDigit_6 : decode cX10_isDigit 6 = .ok (.bipush 57, 2) := by decide +kernel
theorem dX10_isDigit_8 : decode cX10_isDigit 8 = .ok (.invokestatic 80, 3) := by decide +kernel
theorem dX10_isDigit_11 : decode cX10_isDigit 11 = .ok (.ireturn, 1) := by decide +kernel
theorem dX10_skips_0 : decode cX10_skips 0 = .ok (.aload_n 0, 1) := by decide +kernel
theorem dX10_skips_1 : decode cX10_skips 1 = .ok (.invokevirtual 115, 3) := by decide +kernel
theorem dX10_skips_4 : decode cX10_skips 4 = .ok (.bipush 32, 2) := by decide +kernel
theorem dX10_skips_6 : decode cX10_skips 6 = .ok (.if_icmp .ne 16, 3) := by decide +kernel
theorem dX10_skips_9 : decode cX10_skips 9 = .ok (.aload_n 0, 1) := by decide +kernel
theorem dX10_skips_10 : decode cX10_skips 10 = .ok (.dup, 1) := by decide +kernel
theorem dX10_skips_11 : decode cX10_skips 11 = .ok (.getfield 112, 3) := by decide +kernel
theorem dX10_skips_14 : decode cX10_skips 14 = .ok (.iconst 1, 1) := by decide +kernel
theorem dX10_skips_15 : decode cX10_skips 15 = .ok (.iadd, 1) := by decide +kernel
theorem dX10_skips_16 : decode cX10_skips 16 = .ok (.putfield 112, 3) := by decide +kernel
theorem dX10_skips_19 : decode cX10_skips 19 = .ok (.goto (-19), 3) := by decide +kernel
theorem dX10_skips_22 : decode cX10_skips 22 = .ok (.return_, 1) := by decide +kernel
theorem dX10_readsTerm_0 : decode cX10_readsTerm 0 = .ok (.iconst 1, 1) := by decide +kernel
theorem dX10_readsTerm_1 : decode cX10_readsTerm 1 = .ok (.istore_n 2, 1) := by decide +kernel
theorem dX10_readsTerm_2 : decode cX10_readsTerm 2 = .ok (.aload_n 0, 1) := by decide +kernel
theorem dX10_readsTerm_3 : decode cX10_readsTerm 3 = .ok (.invokevirtual 118, 3) := by decide +kernel
theorem dX10_readsTerm_6 : decode cX10_readsTerm 6 = .ok (.istore_n 3, 1) := by decide +kernel
theorem dX10_readsTerm_7 : decode cX10_readsTerm 7 = .ok (.iload_n 3, 1) := by decide +kernel
theorem dX10_readsTerm_8 : decode cX10_readsTerm 8 = .ok (.ifCond .eq 54, 3) := by decide +kernel
theorem dX10_readsTerm_11 : decode cX10_readsTerm 11 = .ok (.iconst 0, 1) := by decide +kernel
theorem dX10_readsTerm_12 : decode cX10_readsTerm 12 = .ok (.istore_n 2, 1) := by decide +kernel
theorem dX10_readsTerm_13 : decode cX10_readsTerm 13 = .ok (.iconst 0, 1) := by decide +kernel
theorem dX10_readsTerm_14 : decode cX10_readsTerm 14 = .ok (.istore 4, 2) := by decide +kernel
theorem dX10_readsTerm_16 : decode cX10_readsTerm 16 = .ok (.iload 4, 2) := by decide +kernel
theorem dX10_readsTerm_18 : decode cX10_readsTerm 18 = .ok (.iconst 3, 1) := by decide +kernel
theorem dX10_readsTerm_19 : decode cX10_readsTerm 19 = .ok (.if_icmp .ge 39, 3) := by decide +kernel
theorem dX10_readsTerm_22 : decode cX10_readsTerm 22 = .ok (.aload_n 0, 1) := by decide +kernel
theorem dX10_readsTerm_23 : decode cX10_readsTerm 23 = .ok (.invokevirtual 118, 3) := by decide +kernel
theorem dX10_readsTerm_26 : decode cX10_readsTerm 26 = .ok (.ifCond .eq 32, 3) := by decide +kernel
theorem dX10_readsTerm_29 : decode cX10_readsTerm 29 = .ok (.bipush 10, 2) := by decide +kernel
theorem dX10_readsTerm_31 : decode cX10_readsTerm 31 = .ok (.iload_n 2, 1) := by decide +kernel
theorem dX10_readsTerm_32 : decode cX10_readsTerm 32 = .ok (.imul, 1) := by decide +kernel
theorem dX10_readsTerm_33 : decode cX10_readsTerm 33 = .ok (.aload_n 0, 1) := by decide +kernel
theorem dX10_readsTerm_34 : decode cX10_readsTerm 34 = .ok (.invokevirtual 115, 3) := by decide +kernel
theorem dX10_readsTerm_37 : decode cX10_readsTerm 37 = .ok (.iadd, 1) := by decide +kernel
theorem dX10_readsTerm_38 : decode cX10_readsTerm 38 = .ok (.bipush 48, 2) := by decide +kernel
theorem dX10_readsTerm_40 : decode cX10_readsTerm 40 = .ok (.isub, 1) := by decide +kernel
theorem dX10_readsTerm_41 : decode cX10_readsTerm 41 = .ok (.istore_n 2, 1) := by decide +kernel
theorem dX10_readsTerm_42 : decode cX10_readsTerm 42 = .ok (.aload_n 0, 1) := by decide +kernel
theorem dX10_readsTerm_43 : decode cX10_readsTerm 43 = .ok (.dup, 1) := by decide +kernel
theorem dX10_readsTerm_44 : decode cX10_readsTerm 44 = .ok (.getfield 112, 3) := by decide +kernel
theorem dX10_readsTerm_47 : decode cX10_readsTerm 47 = .ok (.iconst 1, 1) := by decide +kernel
theorem dX10_readsTerm_48 : decode cX10_readsTerm 48 = .ok (.iadd, 1) := by decide +kernel
theorem dX10_readsTerm_49 : decode cX10_readsTerm 49 = .ok (.putfield 112, 3) := by decide +kernel
theorem dX10_readsTerm_52 : decode cX10_readsTerm 52 = .ok (.iinc 4 1, 3) := by decide +kernel
theorem dX10_readsTerm_55 : decode cX10_readsTerm 55 = .ok (.goto (-39), 3) := by decide +kernel
theorem dX10_readsTerm_58 : decode cX10_readsTerm 58 = .ok (.aload_n 0, 1) := by decide +kernel
theorem dX10_readsTerm_59 : decode cX10_readsTerm 59 = .ok (.invokevirtual 122, 3) := by decide +kernel
theorem dX10_readsTerm_62 : decode cX10_readsTerm 62 = .ok (.bipush (-9), 2) := by decide +kernel
theorem dX10_readsTerm_64 : decode cX10_readsTerm 64 = .ok (.istore 4, 2) := by decide +kernel
theorem dX10_readsTerm_66 : decode cX10_readsTerm 66 = .ok (.bipush (-9), 2) := by decide +kernel
theorem dX10_readsTerm_68 : decode cX10_readsTerm 68 = .ok (.istore 5, 2) := by decide +kernel
theorem dX10_readsTerm_70 : decode cX10_readsTerm 70 = .ok (.bipush (-9), 2) := by decide +kernel
theorem dX10_readsTerm_72 : decode cX10_readsTerm 72 = .ok (.istore 6, 2) := by decide +kernel
theorem dX10_readsTerm_74 : decode cX10_readsTerm 74 = .ok (.iconst 1, 1) := by decide +kernel
theorem dX10_readsTerm_75 : decode cX10_readsTerm 75 = .ok (.istore 7, 2) := by decide +kernel
theorem dX10_readsTerm_77 : decode cX10_readsTerm 77 = .ok (.iload 7, 2) := by decide +kernel
theorem dX10_readsTerm_79 : decode cX10_readsTerm 79 = .ok (.ifCond .eq 194, 3) := by decide +kernel
theorem dX10_readsTerm_82 : decode cX10_readsTerm 82 = .ok (.aload_n 0, 1) := by decide +kernel
theorem dX10_readsTerm_83 : decode cX10_readsTerm 83 = .ok (.invokevirtual 115, 3) := by decide +kernel
theorem dX10_readsTerm_86 : decode cX10_readsTerm 86 = .ok (.istore 8, 2) := by decide +kernel
theorem dX10_readsTerm_88 : decode cX10_readsTerm 88 = .ok (.iload 8, 2) := by decide +kernel
theorem dX10_readsTerm_90 : decode cX10_readsTerm 90 = .ok (.bipush 120, 2) := by decide +kernel
theorem dX10_readsTerm_92 : decode cX10_readsTerm 92 = .ok (.if_icmp .ne 10, 3) := by decide +kernel
theorem dX10_readsTerm_95 : decode cX10_readsTerm 95 = .ok (.iload 4, 2) := by decide +kernel
theorem dX10_readsTerm_97 : decode cX10_readsTerm 97 = .ok (.bipush (-9), 2) := by decide +kernel
theorem dX10_readsTerm_99 : decode cX10_readsTerm 99 = .ok (.if_icmp .eq 31, 3) := by decide +kernel
theorem dX10_readsTerm_102 : decode cX10_readsTerm 102 = .ok (.iload 8, 2) := by decide +kernel
theorem dX10_readsTerm_104 : decode cX10_readsTerm 104 = .ok (.bipush 121, 2) := by decide +kernel
theorem dX10_readsTerm_106 : decode cX10_readsTerm 106 = .ok (.if_icmp .ne 10, 3) := by decide +kernel
theorem dX10_readsTerm_109 : decode cX10_readsTerm 109 = .ok (.iload 5, 2) := by decide +kernel
theorem dX10_readsTerm_111 : decode cX10_readsTerm 111 = .ok (.bipush (-9), 2) := by decide +kernel
theorem dX10_readsTerm_113 : decode cX10_readsTerm 113 = .ok (.if_icmp .eq 17, 3) := by decide +kernel
theorem dX10_readsTerm_116 : decode cX10_readsTerm 116 = .ok (.iload 8, 2) := by decide +kernel
theorem dX10_readsTerm_118 : decode cX10_readsTerm 118 = .ok (.bipush 116, 2) := by decide +kernel
theorem dX10_readsTerm_120 : decode cX10_readsTerm 120 = .ok (.if_icmp .ne 14, 3) := by decide +kernel
theorem dX10_readsTerm_123 : decode cX10_readsTerm 123 = .ok (.iload 6, 2) := by decide +kernel
theorem dX10_readsTerm_125 : decode cX10_readsTerm 125 = .ok (.bipush (-9), 2) := by decide +kernel
theorem dX10_readsTerm_127 : decode cX10_readsTerm 127 = .ok (.if_icmp .ne 7, 3) := by decide +kernel
theorem dX10_readsTerm_130 : decode cX10_readsTerm 130 = .ok (.iconst 1, 1) := by decide +kernel
theorem dX10_readsTerm_131 : decode cX10_readsTerm 131 = .ok (.goto 4, 3) := by decide +kernel
theorem dX10_readsTerm_134 : decode cX10_readsTerm 134 = .ok (.iconst 0, 1) := by decide +kernel
theorem dX10_readsTerm_135 : decode cX10_readsTerm 135 = .ok (.istore 7, 2) := by decide +kernel
theorem dX10_readsTerm_137 : decode cX10_readsTerm 137 = .ok (.iload 7, 2) := by decide +kernel
theorem dX10_readsTerm_139 : decode cX10_readsTerm 139 = .ok (.ifCond .eq 131, 3) := by decide +kernel
theorem dX10_readsTerm_142 : decode cX10_readsTerm 142 = .ok (.aload_n 0, 1) := by decide +kernel
theorem dX10_readsTerm_143 : decode cX10_readsTerm 143 = .ok (.dup, 1) := by decide +kernel
theorem dX10_readsTerm_144 : decode cX10_readsTerm 144 = .ok (.getfield 112, 3) := by decide +kernel
theorem dX10_readsTerm_147 : decode cX10_readsTerm 147 = .ok (.iconst 1, 1) := by decide +kernel
theorem dX10_readsTerm_148 : decode cX10_readsTerm 148 = .ok (.iadd, 1) := by decide +kernel
theorem dX10_readsTerm_149 : decode cX10_readsTerm 149 = .ok (.putfield 112, 3) := by decide +kernel
theorem dX10_readsTerm_152 : decode cX10_readsTerm 152 = .ok (.aload_n 0, 1) := by decide +kernel
theorem dX10_readsTerm_153 : decode cX10_readsTerm 153 = .ok (.invokevirtual 115, 3) := by decide +kernel
theorem dX10_readsTerm_156 : decode cX10_readsTerm 156 = .ok (.bipush 48, 2) := by decide +kernel
theorem dX10_readsTerm_158 : decode cX10_readsTerm 158 = .ok (.bipush 50, 2) := by decide +kernel
theorem dX10_readsTerm_160 : decode cX10_readsTerm 160 = .ok (.invokestatic 80, 3) := by decide +kernel
theorem dX10_readsTerm_163 : decode cX10_readsTerm 163 = .ok (.ifCond .eq 13, 3) := by decide +kernel
theorem dX10_readsTerm_166 : decode cX10_readsTerm 166 = .ok (.aload_n 0, 1) := by decide +kernel
theorem dX10_readsTerm_167 : decode cX10_readsTerm 167 = .ok (.invokevirtual 115, 3) := by decide +kernel
theorem dX10_readsTerm_170 : decode cX10_readsTerm 170 = .ok (.bipush 48, 2) := by decide +kernel
theorem dX10_readsTerm_172 : decode cX10_readsTerm 172 = .ok (.isub, 1) := by decide +kernel
theorem dX10_readsTerm_173 : decode cX10_readsTerm 173 = .ok (.goto 5, 3) := by decide +kernel
theorem dX10_readsTerm_176 : decode cX10_readsTerm 176 = .ok (.bipush (-9), 2) := by decide +kernel
theorem dX10_readsTerm_178 : decode cX10_readsTerm 178 = .ok (.istore 9, 2) := by decide +kernel
theorem dX10_readsTerm_180 : decode cX10_readsTerm 180 = .ok (.aload_n 0, 1) := by decide +kernel
theorem dX10_readsTerm_181 : decode cX10_readsTerm 181 = .ok (.dup, 1) := by decide +kernel
theorem dX10_readsTerm_182 : decode cX10_readsTerm 182 = .ok (.getfield 112, 3) := by decide +kernel
theorem dX10_readsTerm_185 : decode cX10_readsTerm 185 = .ok (.iload 9, 2) := by decide +kernel
theorem dX10_readsTerm_187 : decode cX10_readsTerm 187 = .ok (.bipush (-9), 2) := by decide +kernel
theorem dX10_readsTerm_189 : decode cX10_readsTerm 189 = .ok (.if_icmp .ne 7, 3) := by decide +kernel
theorem dX10_readsTerm_192 : decode cX10_readsTerm 192 = .ok (.iconst 0, 1) := by decide +kernel
theorem dX10_readsTerm_193 : decode cX10_readsTerm 193 = .ok (.goto 4, 3) := by decide +kernel
theorem dX10_readsTerm_196 : decode cX10_readsTerm 196 = .ok (.iconst 1, 1) := by decide +kernel
theorem dX10_readsTerm_197 : decode cX10_readsTerm 197 = .ok (.iadd, 1) := by decide +kernel
theorem dX10_readsTerm_198 : decode cX10_readsTerm 198 = .ok (.putfield 112, 3) := by decide +kernel
theorem dX10_readsTerm_201 : decode cX10_readsTerm 201 = .ok (.iload 9, 2) := by decide +kernel
theorem dX10_readsTerm_203 : decode cX10_readsTerm 203 = .ok (.bipush (-9), 2) := by decide +kernel
theorem dX10_readsTerm_205 : decode cX10_readsTerm 205 = .ok (.if_icmp .ne 7, 3) := by decide +kernel
theorem dX10_readsTerm_208 : decode cX10_readsTerm 208 = .ok (.iconst 1, 1) := by decide +kernel
theorem dX10_readsTerm_209 : decode cX10_readsTerm 209 = .ok (.goto 5, 3) := by decide +kernel
theorem dX10_readsTerm_212 : decode cX10_readsTerm 212 = .ok (.iload 9, 2) := by decide +kernel
theorem dX10_readsTerm_214 : decode cX10_readsTerm 214 = .ok (.istore 9, 2) := by decide +kernel
theorem dX10_readsTerm_216 : decode cX10_readsTerm 216 = .ok (.iload 8, 2) := by decide +kernel
theorem dX10_readsTerm_218 : decode cX10_readsTerm 218 = .ok (.bipush 120, 2) := by decide +kernel
theorem dX10_readsTerm_220 : decode cX10_readsTerm 220 = .ok (.if_icmp .ne 8, 3) := by decide +kernel
theorem dX10_readsTerm_223 : decode cX10_readsTerm 223 = .ok (.iload 9, 2) := by decide +kernel
theorem dX10_readsTerm_225 : decode cX10_readsTerm 225 = .ok (.goto 5, 3) := by decide +kernel
theorem dX10_readsTerm_228 : decode cX10_readsTerm 228 = .ok (.iload 4, 2) := by decide +kernel
theorem dX10_readsTerm_230 : decode cX10_readsTerm 230 = .ok (.istore 4, 2) := by decide +kernel
theorem dX10_readsTerm_232 : decode cX10_readsTerm 232 = .ok (.iload 8, 2) := by decide +kernel
theorem dX10_readsTerm_234 : decode cX10_readsTerm 234 = .ok (.bipush 121, 2) := by decide +kernel
theorem dX10_readsTerm_236 : decode cX10_readsTerm 236 = .ok (.if_icmp .ne 8, 3) := by decide +kernel
theorem dX10_readsTerm_239 : decode cX10_readsTerm 239 = .ok (.iload 9, 2) := by decide +kernel
theorem dX10_readsTerm_241 : decode cX10_readsTerm 241 = .ok (.goto 5, 3) := by decide +kernel
theorem dX10_readsTerm_244 : decode cX10_readsTerm 244 = .ok (.iload 5, 2) := by decide +kernel
theorem dX10_readsTerm_246 : decode cX10_readsTerm 246 = .ok (.istore 5, 2) := by decide +kernel
theorem dX10_readsTerm_248 : decode cX10_readsTerm 248 = .ok (.iload 8, 2) := by decide +kernel
theorem dX10_readsTerm_250 : decode cX10_readsTerm 250 = .ok (.bipush 116, 2) := by decide +kernel
theorem dX10_readsTerm_252 : decode cX10_readsTerm 252 = .ok (.if_icmp .ne 8, 3) := by decide +kernel
theorem dX10_readsTerm_255 : decode cX10_readsTerm 255 = .ok (.iload 9, 2) := by decide +kernel
theorem dX10_readsTerm_257 : decode cX10_readsTerm 257 = .ok (.goto 5, 3) := by decide +kernel
theorem dX10_readsTerm_260 : decode cX10_readsTerm 260 = .ok (.iload 6, 2) := by decide +kernel
theorem dX10_readsTerm_262 : decode cX10_readsTerm 262 = .ok (.istore 6, 2) := by decide +kernel
theorem dX10_readsTerm_264 : decode cX10_readsTerm 264 = .ok (.iconst 1, 1) := by decide +kernel
theorem dX10_readsTerm_265 : decode cX10_readsTerm 265 = .ok (.istore_n 3, 1) := by decide +kernel
theorem dX10_readsTerm_266 : decode cX10_readsTerm 266 = .ok (.aload_n 0, 1) := by decide +kernel
theorem dX10_readsTerm_267 : decode cX10_readsTerm 267 = .ok (.invokevirtual 122, 3) := by decide +kernel
theorem dX10_readsTerm_270 : decode cX10_readsTerm 270 = .ok (.goto (-193), 3) := by decide +kernel
theorem dX10_readsTerm_273 : decode cX10_readsTerm 273 = .ok (.iload_n 3, 1) := by decide +kernel
theorem dX10_readsTerm_274 : decode cX10_readsTerm 274 = .ok (.ifCond .ne 12, 3) := by decide +kernel
theorem dX10_readsTerm_277 : decode cX10_readsTerm 277 = .ok (.aload_n 0, 1) := by decide +kernel
theorem dX10_readsTerm_278 : decode cX10_readsTerm 278 = .ok (.aload_n 0, 1) := by decide +kernel
theorem dX10_readsTerm_279 : decode cX10_readsTerm 279 = .ok (.getfield 112, 3) := by decide +kernel
theorem dX10_readsTerm_282 : decode cX10_readsTerm 282 = .ok (.putfield 125, 3) := by decide +kernel
theorem dX10_readsTerm_285 : decode cX10_readsTerm 285 = .ok (.return_, 1) := by decide +kernel
theorem dX10_readsTerm_286 : decode cX10_readsTerm 286 = .ok (.bipush 9, 2) := by decide +kernel
theorem dX10_readsTerm_288 : decode cX10_readsTerm 288 = .ok (.iload 4, 2) := by decide +kernel
theorem dX10_readsTerm_290 : decode cX10_readsTerm 290 = .ok (.bipush (-9), 2) := by decide +kernel
theorem dX10_readsTerm_292 : decode cX10_readsTerm 292 = .ok (.if_icmp .ne 7, 3) := by decide +kernel
theorem dX10_readsTerm_295 : decode cX10_readsTerm 295 = .ok (.iconst 0, 1) := by decide +kernel
theorem dX10_readsTerm_296 : decode cX10_readsTerm 296 = .ok (.goto 5, 3) := by decide +kernel
theorem dX10_readsTerm_299 : decode cX10_readsTerm 299 = .ok (.iload 4, 2) := by decide +kernel
theorem dX10_readsTerm_301 : decode cX10_readsTerm 301 = .ok (.imul, 1) := by decide +kernel
theorem dX10_readsTerm_302 : decode cX10_readsTerm 302 = .ok (.iconst 3, 1) := by decide +kernel
theorem dX10_readsTerm_303 : decode cX10_readsTerm 303 = .ok (.iload 5, 2) := by decide +kernel
theorem dX10_readsTerm_305 : decode cX10_readsTerm 305 = .ok (.bipush (-9), 2) := by decide +kernel
theorem dX10_readsTerm_307 : decode cX10_readsTerm 307 = .ok (.if_icmp .ne 7, 3) := by decide +kernel
theorem dX10_readsTerm_310 : decode cX10_readsTerm 310 = .ok (.iconst 0, 1) := by decide +kernel
theorem dX10_readsTerm_311 : decode cX10_readsTerm 311 = .ok (.goto 5, 3) := by decide +kernel
theorem dX10_readsTerm_314 : decode cX10_readsTerm 314 = .ok (.iload 5, 2) := by decide +kernel
theorem dX10_readsTerm_316 : decode cX10_readsTerm 316 = .ok (.imul, 1) := by decide +kernel
theorem dX10_readsTerm_317 : decode cX10_readsTerm 317 = .ok (.iadd, 1) := by decide +kernel
theorem dX10_readsTerm_318 : decode cX10_readsTerm 318 = .ok (.iload 6, 2) := by decide +kernel
theorem dX10_readsTerm_320 : decode cX10_readsTerm 320 = .ok (.bipush (-9), 2) := by decide +kernel
theorem dX10_readsTerm_322 : decode cX10_readsTerm 322 = .ok (.if_icmp .ne 7, 3) := by decide +kernel
theorem dX10_readsTerm_325 : decode cX10_readsTerm 325 = .ok (.iconst 0, 1) := by decide +kernel
theorem dX10_readsTerm_326 : decode cX10_readsTerm 326 = .ok (.goto 5, 3) := by decide +kernel
theorem dX10_readsTerm_329 : decode cX10_readsTerm 329 = .ok (.iload 6, 2) := by decide +kernel
theorem dX10_readsTerm_331 : decode cX10_readsTerm 331 = .ok (.iadd, 1) := by decide +kernel
theorem dX10_readsTerm_332 : decode cX10_readsTerm 332 = .ok (.istore 8, 2) := by decide +kernel
theorem dX10_readsTerm_334 : decode cX10_readsTerm 334 = .ok (.aload_n 0, 1) := by decide +kernel
theorem dX10_readsTerm_335 : decode cX10_readsTerm 335 = .ok (.getfield 19, 3) := by decide +kernel
theorem dX10_readsTerm_338 : decode cX10_readsTerm 338 = .ok (.iload 8, 2) := by decide +kernel
theorem dX10_readsTerm_340 : decode cX10_readsTerm 340 = .ok (.aload_n 0, 1) := by decide +kernel
theorem dX10_readsTerm_341 : decode cX10_readsTerm 341 = .ok (.aload_n 0, 1) := by decide +kernel
theorem dX10_readsTerm_342 : decode cX10_readsTerm 342 = .ok (.getfield 19, 3) := by decide +kernel
theorem dX10_readsTerm_345 : decode cX10_readsTerm 345 = .ok (.iload 8, 2) := by decide +kernel
theorem dX10_readsTerm_347 : decode cX10_readsTerm 347 = .ok (.iaload, 1) := by decide +kernel
theorem dX10_readsTerm_348 : decode cX10_readsTerm 348 = .ok (.iload_n 1, 1) := by decide +kernel
theorem dX10_readsTerm_349 : decode cX10_readsTerm 349 = .ok (.aload_n 0, 1) := by decide +kernel
theorem dX10_readsTerm_350 : decode cX10_readsTerm 350 = .ok (.iload_n 2, 1) := by decide +kernel
theorem dX10_readsTerm_351 : decode cX10_readsTerm 351 = .ok (.invokevirtual 128, 3) := by decide +kernel
theorem dX10_readsTerm_354 : decode cX10_readsTerm 354 = .ok (.imul, 1) := by decide +kernel
theorem dX10_readsTerm_355 : decode cX10_readsTerm 355 = .ok (.iadd, 1) := by decide +kernel
theorem dX10_readsTerm_356 : decode cX10_readsTerm 356 = .ok (.invokevirtual 128, 3) := by decide +kernel
theorem dX10_readsTerm_359 : decode cX10_readsTerm 359 = .ok (.iastore, 1) := by decide +kernel
theorem dX10_readsTerm_360 : decode cX10_readsTerm 360 = .ok (.return_, 1) := by decide +kernel
theorem dX10_reads_0 : decode cX10_reads 0 = .ok (.iconst 0, 1) := by decide +kernel
theorem dX10_reads_1 : decode cX10_reads 1 = .ok (.istore_n 1, 1) := by decide +kernel
theorem dX10_reads_2 : decode cX10_reads 2 = .ok (.iload_n 1, 1) := by decide +kernel
theorem dX10_reads_3 : decode cX10_reads 3 = .ok (.bipush 27, 2) := by decide +kernel
theorem dX10_reads_5 : decode cX10_reads 5 = .ok (.if_icmp .ge 16, 3) := by decide +kernel
theorem dX10_reads_8 : decode cX10_reads 8 = .ok (.aload_n 0, 1) := by decide +kernel
theorem dX10_reads_9 : decode cX10_reads 9 = .ok (.getfield 19, 3) := by decide +kernel
theorem dX10_reads_12 : decode cX10_reads 12 = .ok (.iload_n 1, 1) := by decide +kernel
theorem dX10_reads_13 : decode cX10_reads 13 = .ok (.iconst 0, 1) := by decide +kernel
theorem dX10_reads_14 : decode cX10_reads 14 = .ok (.iastore, 1) := by decide +kernel
theorem dX10_reads_15 : decode cX10_reads 15 = .ok (.iinc 1 1, 3) := by decide +kernel
theorem dX10_reads_18 : decode cX10_reads 18 = .ok (.goto (-16), 3) := by decide +kernel
theorem dX10_reads_21 : decode cX10_reads 21 = .ok (.aload_n 0, 1) := by decide +kernel
theorem dX10_reads_22 : decode cX10_reads 22 = .ok (.iconst 0, 1) := by decide +kernel
theorem dX10_reads_23 : decode cX10_reads 23 = .ok (.putfield 112, 3) := by decide +kernel
theorem dX10_reads_26 : decode cX10_reads 26 = .ok (.aload_n 0, 1) := by decide +kernel
theorem dX10_reads_27 : decode cX10_reads 27 = .ok (.bipush (-9), 2) := by decide +kernel
theorem dX10_reads_29 : decode cX10_reads 29 = .ok (.putfield 125, 3) := by decide +kernel
theorem dX10_reads_32 : decode cX10_reads 32 = .ok (.aload_n 0, 1) := by decide +kernel
theorem dX10_reads_33 : decode cX10_reads 33 = .ok (.invokevirtual 122, 3) := by decide +kernel
theorem dX10_reads_36 : decode cX10_reads 36 = .ok (.iconst 1, 1) := by decide +kernel
theorem dX10_reads_37 : decode cX10_reads 37 = .ok (.istore_n 1, 1) := by decide +kernel
theorem dX10_reads_38 : decode cX10_reads 38 = .ok (.iconst 1, 1) := by decide +kernel
theorem dX10_reads_39 : decode cX10_reads 39 = .ok (.istore_n 2, 1) := by decide +kernel
theorem dX10_reads_40 : decode cX10_reads 40 = .ok (.iload_n 1, 1) := by decide +kernel
theorem dX10_reads_41 : decode cX10_reads 41 = .ok (.ifCond .eq 110, 3) := by decide +kernel
theorem dX10_reads_44 : decode cX10_reads 44 = .ok (.aload_n 0, 1) := by decide +kernel
theorem dX10_reads_45 : decode cX10_reads 45 = .ok (.getfield 125, 3) := by decide +kernel
theorem dX10_reads_48 : decode cX10_reads 48 = .ok (.bipush (-9), 2) := by decide +kernel
theorem dX10_reads_50 : decode cX10_reads 50 = .ok (.if_icmp .ne 101, 3) := by decide +kernel
theorem dX10_reads_53 : decode cX10_reads 53 = .ok (.aload_n 0, 1) := by decide +kernel
theorem dX10_reads_54 : decode cX10_reads 54 = .ok (.invokevirtual 115, 3) := by decide +kernel
theorem dX10_reads_57 : decode cX10_reads 57 = .ok (.bipush 45, 2) := by decide +kernel
theorem dX10_reads_59 : decode cX10_reads 59 = .ok (.if_icmp .ne 7, 3) := by decide +kernel
theorem dX10_reads_62 : decode cX10_reads 62 = .ok (.iconst (-1), 1) := by decide +kernel
theorem dX10_reads_63 : decode cX10_reads 63 = .ok (.goto 4, 3) := by decide +kernel
theorem dX10_reads_66 : decode cX10_reads 66 = .ok (.iconst 1, 1) := by decide +kernel
theorem dX10_reads_67 : decode cX10_reads 67 = .ok (.istore_n 3, 1) := by decide +kernel
theorem dX10_reads_68 : decode cX10_reads 68 = .ok (.aload_n 0, 1) := by decide +kernel
theorem dX10_reads_69 : decode cX10_reads 69 = .ok (.invokevirtual 115, 3) := by decide +kernel
theorem dX10_reads_72 : decode cX10_reads 72 = .ok (.bipush 45, 2) := by decide +kernel
theorem dX10_reads_74 : decode cX10_reads 74 = .ok (.if_icmp .eq 12, 3) := by decide +kernel
theorem dX10_reads_77 : decode cX10_reads 77 = .ok (.aload_n 0, 1) := by decide +kernel
theorem dX10_reads_78 : decode cX10_reads 78 = .ok (.invokevirtual 115, 3) := by decide +kernel
theorem dX10_reads_81 : decode cX10_reads 81 = .ok (.bipush 43, 2) := by decide +kernel
theorem dX10_reads_83 : decode cX10_reads 83 = .ok (.if_icmp .ne 20, 3) := by decide +kernel
theorem dX10_reads_86 : decode cX10_reads 86 = .ok (.aload_n 0, 1) := by decide +kernel
theorem dX10_reads_87 : decode cX10_reads 87 = .ok (.dup, 1) := by decide +kernel
theorem dX10_reads_88 : decode cX10_reads 88 = .ok (.getfield 112, 3) := by decide +kernel
theorem dX10_reads_91 : decode cX10_reads 91 = .ok (.iconst 1, 1) := by decide +kernel
theorem dX10_reads_92 : decode cX10_reads 92 = .ok (.iadd, 1) := by decide +kernel
theorem dX10_reads_93 : decode cX10_reads 93 = .ok (.putfield 112, 3) := by decide +kernel
theorem dX10_reads_96 : decode cX10_reads 96 = .ok (.aload_n 0, 1) := by decide +kernel
theorem dX10_reads_97 : decode cX10_reads 97 = .ok (.invokevirtual 122, 3) := by decide +kernel
theorem dX10_reads_100 : decode cX10_reads 100 = .ok (.goto 15, 3) := by decide +kernel
theorem dX10_reads_103 : decode cX10_reads 103 = .ok (.iload_n 2, 1) := by decide +kernel
theorem dX10_reads_104 : decode cX10_reads 104 = .ok (.ifCond .ne 11, 3) := by decide +kernel
theorem dX10_reads_107 : decode cX10_reads 107 = .ok (.aload_n 0, 1) := by decide +kernel
theorem dX10_reads_108 : decode cX10_reads 108 = .ok (.aload_n 0, 1) := by decide +kernel
theorem dX10_reads_109 : decode cX10_reads 109 = .ok (.getfield 112, 3) := by decide +kernel
theorem dX10_reads_112 : decode cX10_reads 112 = .ok (.putfield 125, 3) := by decide +kernel
theorem dX10_reads_115 : decode cX10_reads 115 = .ok (.aload_n 0, 1) := by decide +kernel
theorem dX10_reads_116 : decode cX10_reads 116 = .ok (.getfield 125, 3) := by decide +kernel
theorem dX10_reads_119 : decode cX10_reads 119 = .ok (.bipush (-9), 2) := by decide +kernel
theorem dX10_reads_121 : decode cX10_reads 121 = .ok (.if_icmp .ne 8, 3) := by decide +kernel
theorem dX10_reads_124 : decode cX10_reads 124 = .ok (.aload_n 0, 1) := by decide +kernel
theorem dX10_reads_125 : decode cX10_reads 125 = .ok (.iload_n 3, 1) := by decide +kernel
theorem dX10_reads_126 : decode cX10_reads 126 = .ok (.invokevirtual 131, 3) := by decide +kernel
theorem dX10_reads_129 : decode cX10_reads 129 = .ok (.iconst 0, 1) := by decide +kernel
theorem dX10_reads_130 : decode cX10_reads 130 = .ok (.istore_n 2, 1) := by decide +kernel
theorem dX10_reads_131 : decode cX10_reads 131 = .ok (.aload_n 0, 1) := by decide +kernel
theorem dX10_reads_132 : decode cX10_reads 132 = .ok (.getfield 112, 3) := by decide +kernel
theorem dX10_reads_135 : decode cX10_reads 135 = .ok (.aload_n 0, 1) := by decide +kernel
theorem dX10_reads_136 : decode cX10_reads 136 = .ok (.getfield 109, 3) := by decide +kernel
theorem dX10_reads_139 : decode cX10_reads 139 = .ok (.if_icmp .ge 7, 3) := by decide +kernel
theorem dX10_reads_142 : decode cX10_reads 142 = .ok (.iconst 1, 1) := by decide +kernel
theorem dX10_reads_143 : decode cX10_reads 143 = .ok (.goto 4, 3) := by decide +kernel
theorem dX10_reads_146 : decode cX10_reads 146 = .ok (.iconst 0, 1) := by decide +kernel
theorem dX10_reads_147 : decode cX10_reads 147 = .ok (.istore_n 1, 1) := by decide +kernel
theorem dX10_reads_148 : decode cX10_reads 148 = .ok (.goto (-108), 3) := by decide +kernel
theorem dX10_reads_151 : decode cX10_reads 151 = .ok (.aload_n 0, 1) := by decide +kernel
theorem dX10_reads_152 : decode cX10_reads 152 = .ok (.getfield 125, 3) := by decide +kernel
theorem dX10_reads_155 : decode cX10_reads 155 = .ok (.ireturn, 1) := by decide +kernel
theorem dX10_read_0 : decode cX10_read 0 = .ok (.iload_n 1, 1) := by decide +kernel
theorem dX10_read_1 : decode cX10_read 1 = .ok (.iconst 0, 1) := by decide +kernel
theorem dX10_read_2 : decode cX10_read 2 = .ok (.iconst 2, 1) := by decide +kernel
theorem dX10_read_3 : decode cX10_read 3 = .ok (.invokestatic 80, 3) := by decide +kernel
theorem dX10_read_6 : decode cX10_read 6 = .ok (.ifCond .ne 5, 3) := by decide +kernel
theorem dX10_read_9 : decode cX10_read 9 = .ok (.iconst (-1), 1) := by decide +kernel
theorem dX10_read_10 : decode cX10_read 10 = .ok (.ireturn, 1) := by decide +kernel
theorem dX10_read_11 : decode cX10_read 11 = .ok (.aload_n 0, 1) := by decide +kernel
theorem dX10_read_12 : decode cX10_read 12 = .ok (.invokevirtual 135, 3) := by decide +kernel
theorem dX10_read_15 : decode cX10_read 15 = .ok (.istore_n 2, 1) := by decide +kernel
theorem dX10_read_16 : decode cX10_read 16 = .ok (.iload_n 2, 1) := by decide +kernel
theorem dX10_read_17 : decode cX10_read 17 = .ok (.bipush (-9), 2) := by decide +kernel
theorem dX10_read_19 : decode cX10_read 19 = .ok (.if_icmp .eq 8, 3) := by decide +kernel
theorem dX10_read_22 : decode cX10_read 22 = .ok (.bipush (-10), 2) := by decide +kernel
theorem dX10_read_24 : decode cX10_read 24 = .ok (.iload_n 2, 1) := by decide +kernel
theorem dX10_read_25 : decode cX10_read 25 = .ok (.isub, 1) := by decide +kernel
theorem dX10_read_26 : decode cX10_read 26 = .ok (.ireturn, 1) := by decide +kernel
theorem dX10_read_27 : decode cX10_read 27 = .ok (.aload_n 0, 1) := by decide +kernel
theorem dX10_read_28 : decode cX10_read 28 = .ok (.invokevirtual 106, 3) := by decide +kernel
theorem dX10_read_31 : decode cX10_read 31 = .ok (.iconst 0, 1) := by decide +kernel
theorem dX10_read_32 : decode cX10_read 32 = .ok (.istore_n 3, 1) := by decide +kernel
theorem dX10_read_33 : decode cX10_read 33 = .ok (.iload_n 3, 1) := by decide +kernel
theorem dX10_read_34 : decode cX10_read 34 = .ok (.bipush 27, 2) := by decide +kernel
theorem dX10_read_36 : decode cX10_read 36 = .ok (.if_icmp .ge 28, 3) := by decide +kernel
theorem dX10_read_39 : decode cX10_read 39 = .ok (.aload_n 0, 1) := by decide +kernel
theorem dX10_read_40 : decode cX10_read 40 = .ok (.getfield 7, 3) := by decide +kernel
theorem dX10_read_43 : decode cX10_read 43 = .ok (.iconst 1, 1) := by decide +kernel
theorem dX10_read_44 : decode cX10_read 44 = .ok (.bipush 27, 2) := by decide +kernel
theorem dX10_read_46 : decode cX10_read 46 = .ok (.iload_n 1, 1) := by decide +kernel
theorem dX10_read_47 : decode cX10_read 47 = .ok (.imul, 1) := by decide +kernel
theorem dX10_read_48 : decode cX10_read 48 = .ok (.iadd, 1) := by decide +kernel
theorem dX10_read_49 : decode cX10_read 49 = .ok (.iload_n 3, 1) := by decide +kernel
theorem dX10_read_50 : decode cX10_read 50 = .ok (.iadd, 1) := by decide +kernel
theorem dX10_read_51 : decode cX10_read 51 = .ok (.aload_n 0, 1) := by decide +kernel
theorem dX10_read_52 : decode cX10_read 52 = .ok (.getfield 19, 3) := by decide +kernel
theorem dX10_read_55 : decode cX10_read 55 = .ok (.iload_n 3, 1) := by decide +kernel
theorem dX10_read_56 : decode cX10_read 56 = .ok (.iaload, 1) := by decide +kernel
theorem dX10_read_57 : decode cX10_read 57 = .ok (.iastore, 1) := by decide +kernel
theorem dX10_read_58 : decode cX10_read 58 = .ok (.iinc 3 1, 3) := by decide +kernel
theorem dX10_read_61 : decode cX10_read 61 = .ok (.goto (-28), 3) := by decide +kernel
theorem dX10_read_64 : decode cX10_read 64 = .ok (.aload_n 0, 1) := by decide +kernel
theorem dX10_read_65 : decode cX10_read 65 = .ok (.iload_n 1, 1) := by decide +kernel
theorem dX10_read_66 : decode cX10_read 66 = .ok (.invokevirtual 102, 3) := by decide +kernel
theorem dX10_read_69 : decode cX10_read 69 = .ok (.ireturn, 1) := by decide +kernel
theorem dX10_isPlace_0 : decode cX10_isPlace 0 = .ok (.iload_n 0, 1) := by decide +kernel
theorem dX10_isPlace_1 : decode cX10_isPlace 1 = .ok (.iconst 0, 1) := by decide +kernel
theorem dX10_isPlace_2 : decode cX10_isPlace 2 = .ok (.iconst 2, 1) := by decide +kernel
theorem dX10_isPlace_3 : decode cX10_isPlace 3 = .ok (.invokestatic 80, 3) := by decide +kernel
theorem dX10_isPlace_6 : decode cX10_isPlace 6 = .ok (.ifCond .eq 34, 3) := by decide +kernel
theorem dX10_isPlace_9 : decode cX10_isPlace 9 = .ok (.iload_n 1, 1) := by decide +kernel
theorem dX10_isPlace_10 : decode cX10_isPlace 10 = .ok (.iconst 0, 1) := by decide +kernel
theorem dX10_isPlace_11 : decode cX10_isPlace 11 = .ok (.iconst 2, 1) := by decide +kernel
theorem dX10_isPlace_12 : decode cX10_isPlace 12 = .ok (.invokestatic 80, 3) := by decide +kernel
theorem dX10_isPlace_15 : decode cX10_isPlace 15 = .ok (.ifCond .eq 25, 3) := by decide +kernel
theorem dX10_isPlace_18 : decode cX10_isPlace 18 = .ok (.iload_n 2, 1) := by decide +kernel
theorem dX10_isPlace_19 : decode cX10_isPlace 19 = .ok (.iconst 0, 1) := by decide +kernel
theorem dX10_isPlace_20 : decode cX10_isPlace 20 = .ok (.iconst 2, 1) := by decide +kernel
theorem dX10_isPlace_21 : decode cX10_isPlace 21 = .ok (.invokestatic 80, 3) := by decide +kernel
theorem dX10_isPlace_24 : decode cX10_isPlace 24 = .ok (.ifCond .eq 16, 3) := by decide +kernel
theorem dX10_isPlace_27 : decode cX10_isPlace 27 = .ok (.iload_n 3, 1) := by decide +kernel
theorem dX10_isPlace_28 : decode cX10_isPlace 28 = .ok (.iconst 0, 1) := by decide +kernel
theorem dX10_isPlace_29 : decode cX10_isPlace 29 = .ok (.iconst 2, 1) := by decide +kernel
theorem dX10_isPlace_30 : decode cX10_isPlace 30 = .ok (.invokestatic 80, 3) := by decide +kernel
theorem dX10_isPlace_33 : decode cX10_isPlace 33 = .ok (.ifCond .eq 7, 3) := by decide +kernel
theorem dX10_isPlace_36 : decode cX10_isPlace 36 = .ok (.iconst 1, 1) := by decide +kernel
theorem dX10_isPlace_37 : decode cX10_isPlace 37 = .ok (.goto 4, 3) := by decide +kernel
theorem dX10_isPlace_40 : decode cX10_isPlace 40 = .ok (.iconst 0, 1) := by decide +kernel
theorem dX10_isPlace_41 : decode cX10_isPlace 41 = .ok (.ireturn, 1) := by decide +kernel
theorem dX10_setCoefficient_0 : decode cX10_setCoefficient 0 = .ok (.iload_n 1, 1) := by decide +kernel
theorem dX10_setCoefficient_1 : decode cX10_setCoefficient 1 = .ok (.iload_n 2, 1) := by decide +kernel
theorem dX10_setCoefficient_2 : decode cX10_setCoefficient 2 = .ok (.iload_n 3, 1) := by decide +kernel
theorem dX10_setCoefficient_3 : decode cX10_setCoefficient 3 = .ok (.iload 4, 2) := by decide +kernel
theorem dX10_setCoefficient_5 : decode cX10_setCoefficient 5 = .ok (.invokestatic 138, 3) := by decide +kernel
theorem dX10_setCoefficient_8 : decode cX10_setCoefficient 8 = .ok (.ifCond .eq 12, 3) := by decide +kernel
theorem dX10_setCoefficient_11 : decode cX10_setCoefficient 11 = .ok (.aload_n 0, 1) := by decide +kernel
theorem dX10_setCoefficient_12 : decode cX10_setCoefficient 12 = .ok (.iload 5, 2) := by decide +kernel
theorem dX10_setCoefficient_14 : decode cX10_setCoefficient 14 = .ok (.invokevirtual 142, 3) := by decide +kernel
theorem dX10_setCoefficient_17 : decode cX10_setCoefficient 17 = .ok (.ifCond .ne 5, 3) := by decide +kernel
theorem dX10_setCoefficient_20 : decode cX10_setCoefficient 20 = .ok (.iconst (-1), 1) := by decide +kernel
theorem dX10_setCoefficient_21 : decode cX10_setCoefficient 21 = .ok (.ireturn, 1) := by decide +kernel
theorem dX10_setCoefficient_22 : decode cX10_setCoefficient 22 = .ok (.aload_n 0, 1) := by decide +kernel
theorem dX10_setCoefficient_23 : decode cX10_setCoefficient 23 = .ok (.invokevirtual 106, 3) := by decide +kernel
theorem dX10_setCoefficient_26 : decode cX10_setCoefficient 26 = .ok (.aload_n 0, 1) := by decide +kernel
theorem dX10_setCoefficient_27 : decode cX10_setCoefficient 27 = .ok (.iload_n 1, 1) := by decide +kernel
theorem dX10_setCoefficient_28 : decode cX10_setCoefficient 28 = .ok (.iload_n 2, 1) := by decide +kernel
theorem dX10_setCoefficient_29 : decode cX10_setCoefficient 29 = .ok (.iload_n 3, 1) := by decide +kernel
theorem dX10_setCoefficient_30 : decode cX10_setCoefficient 30 = .ok (.iload 4, 2) := by decide +kernel
theorem dX10_setCoefficient_32 : decode cX10_setCoefficient 32 = .ok (.invokevirtual 146, 3) := by decide +kernel
theorem dX10_setCoefficient_35 : decode cX10_setCoefficient 35 = .ok (.istore 6, 2) := by decide +kernel
theorem dX10_setCoefficient_37 : decode cX10_setCoefficient 37 = .ok (.aload_n 0, 1) := by decide +kernel
theorem dX10_setCoefficient_38 : decode cX10_setCoefficient 38 = .ok (.getfield 7, 3) := by decide +kernel
theorem dX10_setCoefficient_41 : decode cX10_setCoefficient 41 = .ok (.iload_n 1, 1) := by decide +kernel
theorem dX10_setCoefficient_42 : decode cX10_setCoefficient 42 = .ok (.iload_n 2, 1) := by decide +kernel
theorem dX10_setCoefficient_43 : decode cX10_setCoefficient 43 = .ok (.iload_n 3, 1) := by decide +kernel
theorem dX10_setCoefficient_44 : decode cX10_setCoefficient 44 = .ok (.iload 4, 2) := by decide +kernel
theorem dX10_setCoefficient_46 : decode cX10_setCoefficient 46 = .ok (.invokestatic 84, 3) := by decide +kernel
theorem dX10_setCoefficient_49 : decode cX10_setCoefficient 49 = .ok (.iload 5, 2) := by decide +kernel
theorem dX10_setCoefficient_51 : decode cX10_setCoefficient 51 = .ok (.iastore, 1) := by decide +kernel
theorem dX10_setCoefficient_52 : decode cX10_setCoefficient 52 = .ok (.iload 6, 2) := by decide +kernel
theorem dX10_setCoefficient_54 : decode cX10_setCoefficient 54 = .ok (.ireturn, 1) := by decide +kernel
theorem dX10_coefficient_0 : decode cX10_coefficient 0 = .ok (.iload_n 1, 1) := by decide +kernel
theorem dX10_coefficient_1 : decode cX10_coefficient 1 = .ok (.iload_n 2, 1) := by decide +kernel
theorem dX10_coefficient_2 : decode cX10_coefficient 2 = .ok (.iload_n 3, 1) := by decide +kernel
theorem dX10_coefficient_3 : decode cX10_coefficient 3 = .ok (.iload 4, 2) := by decide +kernel
theorem dX10_coefficient_5 : decode cX10_coefficient 5 = .ok (.invokestatic 138, 3) := by decide +kernel
theorem dX10_coefficient_8 : decode cX10_coefficient 8 = .ok (.ifCond .eq 15, 3) := by decide +kernel
theorem dX10_coefficient_11 : decode cX10_coefficient 11 = .ok (.aload_n 0, 1) := by decide +kernel
theorem dX10_coefficient_12 : decode cX10_coefficient 12 = .ok (.iload_n 1, 1) := by decide +kernel
theorem dX10_coefficient_13 : decode cX10_coefficient 13 = .ok (.iload_n 2, 1) := by decide +kernel
theorem dX10_coefficient_14 : decode cX10_coefficient 14 = .ok (.iload_n 3, 1) := by decide +kernel
theorem dX10_coefficient_15 : decode cX10_coefficient 15 = .ok (.iload 4, 2) := by decide +kernel
theorem dX10_coefficient_17 : decode cX10_coefficient 17 = .ok (.invokevirtual 146, 3) := by decide +kernel
theorem dX10_coefficient_20 : decode cX10_coefficient 20 = .ok (.goto 4, 3) := by decide +kernel
theorem dX10_coefficient_23 : decode cX10_coefficient 23 = .ok (.iconst (-1), 1) := by decide +kernel
theorem dX10_coefficient_24 : decode cX10_coefficient 24 = .ok (.ireturn, 1) := by decide +kernel
theorem dX10_draw_0 : decode cX10_draw 0 = .ok (.iload_n 2, 1) := by decide +kernel
theorem dX10_draw_1 : decode cX10_draw 1 = .ok (.iconst 0, 1) := by decide +kernel
theorem dX10_draw_2 : decode cX10_draw 2 = .ok (.iconst 2, 1) := by decide +kernel
theorem dX10_draw_3 : decode cX10_draw 3 = .ok (.invokestatic 80, 3) := by decide +kernel
theorem dX10_draw_6 : decode cX10_draw 6 = .ok (.ifCond .eq 33, 3) := by decide +kernel
theorem dX10_draw_9 : decode cX10_draw 9 = .ok (.iload_n 3, 1) := by decide +kernel
theorem dX10_draw_10 : decode cX10_draw 10 = .ok (.iconst 0, 1) := by decide +kernel
theorem dX10_draw_11 : decode cX10_draw 11 = .ok (.iconst 2, 1) := by decide +kernel
theorem dX10_draw_12 : decode cX10_draw 12 = .ok (.invokestatic 80, 3) := by decide +kernel
theorem dX10_draw_15 : decode cX10_draw 15 = .ok (.ifCond .eq 24, 3) := by decide +kernel
theorem dX10_draw_18 : decode cX10_draw 18 = .ok (.iload 4, 2) := by decide +kernel
theorem dX10_draw_20 : decode cX10_draw 20 = .ok (.iconst 0, 1) := by decide +kernel
theorem dX10_draw_21 : decode cX10_draw 21 = .ok (.iconst 2, 1) := by decide +kernel
theorem dX10_draw_22 : decode cX10_draw 22 = .ok (.invokestatic 80, 3) := by decide +kernel
theorem dX10_draw_25 : decode cX10_draw 25 = .ok (.ifCond .eq 14, 3) := by decide +kernel
theorem dX10_draw_28 : decode cX10_draw 28 = .ok (.iload 5, 2) := by decide +kernel
theorem dX10_draw_30 : decode cX10_draw 30 = .ok (.iconst 1, 1) := by decide +kernel
theorem dX10_draw_31 : decode cX10_draw 31 = .ok (.bipush 9, 2) := by decide +kernel
theorem dX10_draw_33 : decode cX10_draw 33 = .ok (.invokestatic 80, 3) := by decide +kernel
theorem dX10_draw_36 : decode cX10_draw 36 = .ok (.ifCond .ne 5, 3) := by decide +kernel
theorem dX10_draw_39 : decode cX10_draw 39 = .ok (.iconst (-1), 1) := by decide +kernel
theorem dX10_draw_40 : decode cX10_draw 40 = .ok (.ireturn, 1) := by decide +kernel
theorem dX10_draw_41 : decode cX10_draw 41 = .ok (.aload_n 0, 1) := by decide +kernel
theorem dX10_draw_42 : decode cX10_draw 42 = .ok (.invokevirtual 106, 3) := by decide +kernel
theorem dX10_draw_45 : decode cX10_draw 45 = .ok (.iload_n 1, 1) := by decide +kernel
theorem dX10_draw_46 : decode cX10_draw 46 = .ok (.istore 6, 2) := by decide +kernel
theorem dX10_draw_48 : decode cX10_draw 48 = .ok (.iconst 0, 1) := by decide +kernel
theorem dX10_draw_49 : decode cX10_draw 49 = .ok (.istore 7, 2) := by decide +kernel
theorem dX10_draw_51 : decode cX10_draw 51 = .ok (.iload 7, 2) := by decide +kernel
theorem dX10_draw_53 : decode cX10_draw 53 = .ok (.bipush 81, 2) := by decide +kernel
theorem dX10_draw_55 : decode cX10_draw 55 = .ok (.if_icmp .ge 108, 3) := by decide +kernel
theorem dX10_draw_58 : decode cX10_draw 58 = .ok (.iload 6, 2) := by decide +kernel
theorem dX10_draw_60 : decode cX10_draw 60 = .ok (.ldc 149, 2) := by decide +kernel
theorem dX10_draw_62 : decode cX10_draw 62 = .ok (.imul, 1) := by decide +kernel
theorem dX10_draw_63 : decode cX10_draw 63 = .ok (.sipush 12345, 3) := by decide +kernel
theorem dX10_draw_66 : decode cX10_draw 66 = .ok (.iadd, 1) := by decide +kernel
theorem dX10_draw_67 : decode cX10_draw 67 = .ok (.istore 6, 2) := by decide +kernel
theorem dX10_draw_69 : decode cX10_draw 69 = .ok (.iload 6, 2) := by decide +kernel
theorem dX10_draw_71 : decode cX10_draw 71 = .ok (.bipush 16, 2) := by decide +kernel
theorem dX10_draw_73 : decode cX10_draw 73 = .ok (.iushr, 1) := by decide +kernel
theorem dX10_draw_74 : decode cX10_draw 74 = .ok (.sipush 32767, 3) := by decide +kernel
theorem dX10_draw_77 : decode cX10_draw 77 = .ok (.iand, 1) := by decide +kernel
theorem dX10_draw_78 : decode cX10_draw 78 = .ok (.istore 8, 2) := by decide +kernel
theorem dX10_draw_80 : decode cX10_draw 80 = .ok (.iload 7, 2) := by decide +kernel
theorem dX10_draw_82 : decode cX10_draw 82 = .ok (.bipush 27, 2) := by decide +kernel
theorem dX10_draw_84 : decode cX10_draw 84 = .ok (.irem, 1) := by decide +kernel
theorem dX10_draw_85 : decode cX10_draw 85 = .ok (.bipush 9, 2) := by decide +kernel
theorem dX10_draw_87 : decode cX10_draw 87 = .ok (.idiv, 1) := by decide +kernel
theorem dX10_draw_88 : decode cX10_draw 88 = .ok (.iload_n 2, 1) := by decide +kernel
theorem dX10_draw_89 : decode cX10_draw 89 = .ok (.if_icmp .gt 40, 3) := by decide +kernel
theorem dX10_draw_92 : decode cX10_draw 92 = .ok (.iload 7, 2) := by decide +kernel
theorem dX10_draw_94 : decode cX10_draw 94 = .ok (.bipush 9, 2) := by decide +kernel
theorem dX10_draw_96 : decode cX10_draw 96 = .ok (.irem, 1) := by decide +kernel
theorem dX10_draw_97 : decode cX10_draw 97 = .ok (.iconst 3, 1) := by decide +kernel
theorem dX10_draw_98 : decode cX10_draw 98 = .ok (.idiv, 1) := by decide +kernel
theorem dX10_draw_99 : decode cX10_draw 99 = .ok (.iload_n 3, 1) := by decide +kernel
theorem dX10_draw_100 : decode cX10_draw 100 = .ok (.if_icmp .gt 29, 3) := by decide +kernel
theorem dX10_draw_103 : decode cX10_draw 103 = .ok (.iload 7, 2) := by decide +kernel
theorem dX10_draw_105 : decode cX10_draw 105 = .ok (.iconst 3, 1) := by decide +kernel
theorem dX10_draw_106 : decode cX10_draw 106 = .ok (.irem, 1) := by decide +kernel
theorem dX10_draw_107 : decode cX10_draw 107 = .ok (.iload 4, 2) := by decide +kernel
theorem dX10_draw_109 : decode cX10_draw 109 = .ok (.if_icmp .gt 20, 3) := by decide +kernel
theorem dX10_draw_112 : decode cX10_draw 112 = .ok (.iload 8, 2) := by decide +kernel
theorem dX10_draw_114 : decode cX10_draw 114 = .ok (.aload_n 0, 1) := by decide +kernel
theorem dX10_draw_115 : decode cX10_draw 115 = .ok (.invokevirtual 76, 3) := by decide +kernel
theorem dX10_draw_118 : decode cX10_draw 118 = .ok (.idiv, 1) := by decide +kernel
theorem dX10_draw_119 : decode cX10_draw 119 = .ok (.iload 5, 2) := by decide +kernel
theorem dX10_draw_121 : decode cX10_draw 121 = .ok (.irem, 1) := by decide +kernel
theorem dX10_draw_122 : decode cX10_draw 122 = .ok (.ifCond .ne 7, 3) := by decide +kernel
theorem dX10_draw_125 : decode cX10_draw 125 = .ok (.iconst 1, 1) := by decide +kernel
theorem dX10_draw_126 : decode cX10_draw 126 = .ok (.goto 4, 3) := by decide +kernel
theorem dX10_draw_129 : decode cX10_draw 129 = .ok (.iconst 0, 1) := by decide +kernel
theorem dX10_draw_130 : decode cX10_draw 130 = .ok (.istore 9, 2) := by decide +kernel
theorem dX10_draw_132 : decode cX10_draw 132 = .ok (.aload_n 0, 1) := by decide +kernel
theorem dX10_draw_133 : decode cX10_draw 133 = .ok (.getfield 7, 3) := by decide +kernel
theorem dX10_draw_136 : decode cX10_draw 136 = .ok (.iconst 1, 1) := by decide +kernel
theorem dX10_draw_137 : decode cX10_draw 137 = .ok (.iload 7, 2) := by decide +kernel
theorem dX10_draw_139 : decode cX10_draw 139 = .ok (.iadd, 1) := by decide +kernel
theorem dX10_draw_140 : decode cX10_draw 140 = .ok (.iload 9, 2) := by decide +kernel
theorem dX10_draw_142 : decode cX10_draw 142 = .ok (.ifCond .eq 13, 3) := by decide +kernel
theorem dX10_draw_145 : decode cX10_draw 145 = .ok (.iload 8, 2) := by decide +kernel
theorem dX10_draw_147 : decode cX10_draw 147 = .ok (.aload_n 0, 1) := by decide +kernel
theorem dX10_draw_148 : decode cX10_draw 148 = .ok (.invokevirtual 76, 3) := by decide +kernel
theorem dX10_draw_151 : decode cX10_draw 151 = .ok (.irem, 1) := by decide +kernel
theorem dX10_draw_152 : decode cX10_draw 152 = .ok (.goto 4, 3) := by decide +kernel
theorem dX10_draw_155 : decode cX10_draw 155 = .ok (.iconst 0, 1) := by decide +kernel
theorem dX10_draw_156 : decode cX10_draw 156 = .ok (.iastore, 1) := by decide +kernel
theorem dX10_draw_157 : decode cX10_draw 157 = .ok (.iinc 7 1, 3) := by decide +kernel
theorem dX10_draw_160 : decode cX10_draw 160 = .ok (.goto (-109), 3) := by decide +kernel
theorem dX10_draw_163 : decode cX10_draw 163 = .ok (.aload_n 0, 1) := by decide +kernel
theorem dX10_draw_164 : decode cX10_draw 164 = .ok (.invokevirtual 150, 3) := by decide +kernel
theorem dX10_draw_167 : decode cX10_draw 167 = .ok (.ireturn, 1) := by decide +kernel
theorem dX10_power_0 : decode cX10_power 0 = .ok (.iload_n 2, 1) := by decide +kernel
theorem dX10_power_1 : decode cX10_power 1 = .ok (.ifCond .ne 7, 3) := by decide +kernel
theorem dX10_power_4 : decode cX10_power 4 = .ok (.iconst 1, 1) := by decide +kernel
theorem dX10_power_5 : decode cX10_power 5 = .ok (.goto 20, 3) := by decide +kernel
theorem dX10_power_8 : decode cX10_power 8 = .ok (.iload_n 2, 1) := by decide +kernel
theorem dX10_power_9 : decode cX10_power 9 = .ok (.iconst 1, 1) := by decide +kernel
theorem dX10_power_10 : decode cX10_power 10 = .ok (.if_icmp .ne 7, 3) := by decide +kernel
theorem dX10_power_13 : decode cX10_power 13 = .ok (.iload_n 1, 1) := by decide +kernel
theorem dX10_power_14 : decode cX10_power 14 = .ok (.goto 11, 3) := by decide +kernel
theorem dX10_power_17 : decode cX10_power 17 = .ok (.iload_n 1, 1) := by decide +kernel
theorem dX10_power_18 : decode cX10_power 18 = .ok (.iload_n 1, 1) := by decide +kernel
theorem dX10_power_19 : decode cX10_power 19 = .ok (.imul, 1) := by decide +kernel
theorem dX10_power_20 : decode cX10_power 20 = .ok (.aload_n 0, 1) := by decide +kernel
theorem dX10_power_21 : decode cX10_power 21 = .ok (.invokevirtual 76, 3) := by decide +kernel
theorem dX10_power_24 : decode cX10_power 24 = .ok (.irem, 1) := by decide +kernel
theorem dX10_power_25 : decode cX10_power 25 = .ok (.ireturn, 1) := by decide +kernel
theorem dX10_valueOf_0 : decode cX10_valueOf 0 = .ok (.iconst 0, 1) := by decide +kernel
theorem dX10_valueOf_1 : decode cX10_valueOf 1 = .ok (.istore 5, 2) := by decide +kernel
theorem dX10_valueOf_3 : decode cX10_valueOf 3 = .ok (.iconst 0, 1) := by decide +kernel
theorem dX10_valueOf_4 : decode cX10_valueOf 4 = .ok (.istore 6, 2) := by decide +kernel
theorem dX10_valueOf_6 : decode cX10_valueOf 6 = .ok (.iload 6, 2) := by decide +kernel
theorem dX10_valueOf_8 : decode cX10_valueOf 8 = .ok (.iconst 3, 1) := by decide +kernel
theorem dX10_valueOf_9 : decode cX10_valueOf 9 = .ok (.if_icmp .ge 94, 3) := by decide +kernel
theorem dX10_valueOf_12 : decode cX10_valueOf 12 = .ok (.iconst 0, 1) := by decide +kernel
theorem dX10_valueOf_13 : decode cX10_valueOf 13 = .ok (.istore 7, 2) := by decide +kernel
theorem dX10_valueOf_15 : decode cX10_valueOf 15 = .ok (.iload 7, 2) := by decide +kernel
theorem dX10_valueOf_17 : decode cX10_valueOf 17 = .ok (.iconst 3, 1) := by decide +kernel
theorem dX10_valueOf_18 : decode cX10_valueOf 18 = .ok (.if_icmp .ge 79, 3) := by decide +kernel
theorem dX10_valueOf_21 : decode cX10_valueOf 21 = .ok (.iconst 0, 1) := by decide +kernel
theorem dX10_valueOf_22 : decode cX10_valueOf 22 = .ok (.istore 8, 2) := by decide +kernel
theorem dX10_valueOf_24 : decode cX10_valueOf 24 = .ok (.iload 8, 2) := by decide +kernel
theorem dX10_valueOf_26 : decode cX10_valueOf 26 = .ok (.iconst 3, 1) := by decide +kernel
theorem dX10_valueOf_27 : decode cX10_valueOf 27 = .ok (.if_icmp .ge 64, 3) := by decide +kernel
theorem dX10_valueOf_30 : decode cX10_valueOf 30 = .ok (.aload_n 0, 1) := by decide +kernel
theorem dX10_valueOf_31 : decode cX10_valueOf 31 = .ok (.iload_n 2, 1) := by decide +kernel
theorem dX10_valueOf_32 : decode cX10_valueOf 32 = .ok (.iload 6, 2) := by decide +kernel
theorem dX10_valueOf_34 : decode cX10_valueOf 34 = .ok (.invokevirtual 153, 3) := by decide +kernel
theorem dX10_valueOf_37 : decode cX10_valueOf 37 = .ok (.aload_n 0, 1) := by decide +kernel
theorem dX10_valueOf_38 : decode cX10_valueOf 38 = .ok (.iload_n 3, 1) := by decide +kernel
theorem dX10_valueOf_39 : decode cX10_valueOf 39 = .ok (.iload 7, 2) := by decide +kernel
theorem dX10_valueOf_41 : decode cX10_valueOf 41 = .ok (.invokevirtual 153, 3) := by decide +kernel
theorem dX10_valueOf_44 : decode cX10_valueOf 44 = .ok (.imul, 1) := by decide +kernel
theorem dX10_valueOf_45 : decode cX10_valueOf 45 = .ok (.aload_n 0, 1) := by decide +kernel
theorem dX10_valueOf_46 : decode cX10_valueOf 46 = .ok (.invokevirtual 76, 3) := by decide +kernel
theorem dX10_valueOf_49 : decode cX10_valueOf 49 = .ok (.irem, 1) := by decide +kernel
theorem dX10_valueOf_50 : decode cX10_valueOf 50 = .ok (.istore 9, 2) := by decide +kernel
theorem dX10_valueOf_52 : decode cX10_valueOf 52 = .ok (.iload 5, 2) := by decide +kernel
theorem dX10_valueOf_54 : decode cX10_valueOf 54 = .ok (.aload_n 0, 1) := by decide +kernel
theorem dX10_valueOf_55 : decode cX10_valueOf 55 = .ok (.iload_n 1, 1) := by decide +kernel
theorem dX10_valueOf_56 : decode cX10_valueOf 56 = .ok (.iload 6, 2) := by decide +kernel
theorem dX10_valueOf_58 : decode cX10_valueOf 58 = .ok (.iload 7, 2) := by decide +kernel
theorem dX10_valueOf_60 : decode cX10_valueOf 60 = .ok (.iload 8, 2) := by decide +kernel
theorem dX10_valueOf_62 : decode cX10_valueOf 62 = .ok (.invokevirtual 146, 3) := by decide +kernel
theorem dX10_valueOf_65 : decode cX10_valueOf 65 = .ok (.iload 9, 2) := by decide +kernel
theorem dX10_valueOf_67 : decode cX10_valueOf 67 = .ok (.aload_n 0, 1) := by decide +kernel
theorem dX10_valueOf_68 : decode cX10_valueOf 68 = .ok (.iload 4, 2) := by decide +kernel
theorem dX10_valueOf_70 : decode cX10_valueOf 70 = .ok (.iload 8, 2) := by decide +kernel
theorem dX10_valueOf_72 : decode cX10_valueOf 72 = .ok (.invokevirtual 153, 3) := by decide +kernel
theorem dX10_valueOf_75 : decode cX10_valueOf 75 = .ok (.imul, 1) := by decide +kernel
theorem dX10_valueOf_76 : decode cX10_valueOf 76 = .ok (.aload_n 0, 1) := by decide +kernel
theorem dX10_valueOf_77 : decode cX10_valueOf 77 = .ok (.invokevirtual 76, 3) := by decide +kernel
theorem dX10_valueOf_80 : decode cX10_valueOf 80 = .ok (.irem, 1) := by decide +kernel
theorem dX10_valueOf_81 : decode cX10_valueOf 81 = .ok (.imul, 1) := by decide +kernel
theorem dX10_valueOf_82 : decode cX10_valueOf 82 = .ok (.iadd, 1) := by decide +kernel
theorem dX10_valueOf_83 : decode cX10_valueOf 83 = .ok (.istore 5, 2) := by decide +kernel
theorem dX10_valueOf_85 : decode cX10_valueOf 85 = .ok (.iinc 8 1, 3) := by decide +kernel
theorem dX10_valueOf_88 : decode cX10_valueOf 88 = .ok (.goto (-64), 3) := by decide +kernel
theorem dX10_valueOf_91 : decode cX10_valueOf 91 = .ok (.iinc 7 1, 3) := by decide +kernel
theorem dX10_valueOf_94 : decode cX10_valueOf 94 = .ok (.goto (-79), 3) := by decide +kernel
theorem dX10_valueOf_97 : decode cX10_valueOf 97 = .ok (.iinc 6 1, 3) := by decide +kernel
theorem dX10_valueOf_100 : decode cX10_valueOf 100 = .ok (.goto (-94), 3) := by decide +kernel
theorem dX10_valueOf_103 : decode cX10_valueOf 103 = .ok (.iload 5, 2) := by decide +kernel
theorem dX10_valueOf_105 : decode cX10_valueOf 105 = .ok (.aload_n 0, 1) := by decide +kernel
theorem dX10_valueOf_106 : decode cX10_valueOf 106 = .ok (.invokevirtual 76, 3) := by decide +kernel
theorem dX10_valueOf_109 : decode cX10_valueOf 109 = .ok (.irem, 1) := by decide +kernel
theorem dX10_valueOf_110 : decode cX10_valueOf 110 = .ok (.ireturn, 1) := by decide +kernel
theorem dX10_plant_0 : decode cX10_plant 0 = .ok (.aload_n 0, 1) := by decide +kernel
theorem dX10_plant_1 : decode cX10_plant 1 = .ok (.iload_n 1, 1) := by decide +kernel
theorem dX10_plant_2 : decode cX10_plant 2 = .ok (.invokevirtual 142, 3) := by decide +kernel
theorem dX10_plant_5 : decode cX10_plant 5 = .ok (.ifCond .eq 19, 3) := by decide +kernel
theorem dX10_plant_8 : decode cX10_plant 8 = .ok (.aload_n 0, 1) := by decide +kernel
theorem dX10_plant_9 : decode cX10_plant 9 = .ok (.iload_n 2, 1) := by decide +kernel
theorem dX10_plant_10 : decode cX10_plant 10 = .ok (.invokevirtual 142, 3) := by decide +kernel
theorem dX10_plant_13 : decode cX10_plant 13 = .ok (.ifCond .eq 11, 3) := by decide +kernel
theorem dX10_plant_16 : decode cX10_plant 16 = .ok (.aload_n 0, 1) := by decide +kernel
theorem dX10_plant_17 : decode cX10_plant 17 = .ok (.iload_n 3, 1) := by decide +kernel
theorem dX10_plant_18 : decode cX10_plant 18 = .ok (.invokevirtual 142, 3) := by decide +kernel
theorem dX10_plant_21 : decode cX10_plant 21 = .ok (.ifCond .ne 5, 3) := by decide +kernel
theorem dX10_plant_24 : decode cX10_plant 24 = .ok (.iconst (-1), 1) := by decide +kernel
theorem dX10_plant_25 : decode cX10_plant 25 = .ok (.ireturn, 1) := by decide +kernel
theorem dX10_plant_26 : decode cX10_plant 26 = .ok (.aload_n 0, 1) := by decide +kernel
theorem dX10_plant_27 : decode cX10_plant 27 = .ok (.invokevirtual 106, 3) := by decide +kernel
theorem dX10_plant_30 : decode cX10_plant 30 = .ok (.iconst 0, 1) := by decide +kernel
theorem dX10_plant_31 : decode cX10_plant 31 = .ok (.istore 4, 2) := by decide +kernel
theorem dX10_plant_33 : decode cX10_plant 33 = .ok (.iconst 0, 1) := by decide +kernel
theorem dX10_plant_34 : decode cX10_plant 34 = .ok (.istore 5, 2) := by decide +kernel
theorem dX10_plant_36 : decode cX10_plant 36 = .ok (.iload 5, 2) := by decide +kernel
theorem dX10_plant_38 : decode cX10_plant 38 = .ok (.iconst 3, 1) := by decide +kernel
theorem dX10_plant_39 : decode cX10_plant 39 = .ok (.if_icmp .ge 68, 3) := by decide +kernel
theorem dX10_plant_42 : decode cX10_plant 42 = .ok (.aload_n 0, 1) := by decide +kernel
theorem dX10_plant_43 : decode cX10_plant 43 = .ok (.iload 5, 2) := by decide +kernel
theorem dX10_plant_45 : decode cX10_plant 45 = .ok (.iload_n 1, 1) := by decide +kernel
theorem dX10_plant_46 : decode cX10_plant 46 = .ok (.iload_n 2, 1) := by decide +kernel
theorem dX10_plant_47 : decode cX10_plant 47 = .ok (.iload_n 3, 1) := by decide +kernel
theorem dX10_plant_48 : decode cX10_plant 48 = .ok (.invokevirtual 157, 3) := by decide +kernel
theorem dX10_plant_51 : decode cX10_plant 51 = .ok (.istore 6, 2) := by decide +kernel
theorem dX10_plant_53 : decode cX10_plant 53 = .ok (.iload 4, 2) := by decide +kernel
theorem dX10_plant_55 : decode cX10_plant 55 = .ok (.iload 6, 2) := by decide +kernel
theorem dX10_plant_57 : decode cX10_plant 57 = .ok (.ifCond .eq 7, 3) := by decide +kernel
theorem dX10_plant_60 : decode cX10_plant 60 = .ok (.iconst 1, 1) := by decide +kernel
theorem dX10_plant_61 : decode cX10_plant 61 = .ok (.goto 4, 3) := by decide +kernel
theorem dX10_plant_64 : decode cX10_plant 64 = .ok (.iconst 0, 1) := by decide +kernel
theorem dX10_plant_65 : decode cX10_plant 65 = .ok (.iadd, 1) := by decide +kernel
theorem dX10_plant_66 : decode cX10_plant 66 = .ok (.istore 4, 2) := by decide +kernel
theorem dX10_plant_68 : decode cX10_plant 68 = .ok (.aload_n 0, 1) := by decide +kernel
theorem dX10_plant_69 : decode cX10_plant 69 = .ok (.getfield 7, 3) := by decide +kernel
theorem dX10_plant_72 : decode cX10_plant 72 = .ok (.iload 5, 2) := by decide +kernel
theorem dX10_plant_74 : decode cX10_plant 74 = .ok (.iconst 0, 1) := by decide +kernel
theorem dX10_plant_75 : decode cX10_plant 75 = .ok (.iconst 0, 1) := by decide +kernel
theorem dX10_plant_76 : decode cX10_plant 76 = .ok (.iconst 0, 1) := by decide +kernel
theorem dX10_plant_77 : decode cX10_plant 77 = .ok (.invokestatic 84, 3) := by decide +kernel
theorem dX10_plant_80 : decode cX10_plant 80 = .ok (.aload_n 0, 1) := by decide +kernel
theorem dX10_plant_81 : decode cX10_plant 81 = .ok (.aload_n 0, 1) := by decide +kernel
theorem dX10_plant_82 : decode cX10_plant 82 = .ok (.getfield 7, 3) := by decide +kernel
theorem dX10_plant_85 : decode cX10_plant 85 = .ok (.iload 5, 2) := by decide +kernel
theorem dX10_plant_87 : decode cX10_plant 87 = .ok (.iconst 0, 1) := by decide +kernel
theorem dX10_plant_88 : decode cX10_plant 88 = .ok (.iconst 0, 1) := by decide +kernel
theorem dX10_plant_89 : decode cX10_plant 89 = .ok (.iconst 0, 1) := by decide +kernel
theorem dX10_plant_90 : decode cX10_plant 90 = .ok (.invokestatic 84, 3) := by decide +kernel
theorem dX10_plant_93 : decode cX10_plant 93 = .ok (.iaload, 1) := by decide +kernel
theorem dX10_plant_94 : decode cX10_plant 94 = .ok (.iload 6, 2) := by decide +kernel
theorem dX10_plant_96 : decode cX10_plant 96 = .ok (.isub, 1) := by decide +kernel
theorem dX10_plant_97 : decode cX10_plant 97 = .ok (.invokevirtual 128, 3) := by decide +kernel
theorem dX10_plant_100 : decode cX10_plant 100 = .ok (.iastore, 1) := by decide +kernel
theorem dX10_plant_101 : decode cX10_plant 101 = .ok (.iinc 5 1, 3) := by decide +kernel
theorem dX10_plant_104 : decode cX10_plant 104 = .ok (.goto (-68), 3) := by decide +kernel
theorem dX10_plant_107 : decode cX10_plant 107 = .ok (.iload 4, 2) := by decide +kernel
theorem dX10_plant_109 : decode cX10_plant 109 = .ok (.ireturn, 1) := by decide +kernel
theorem dX10_swap_0 : decode cX10_swap 0 = .ok (.iload_n 1, 1) := by decide +kernel
theorem dX10_swap_1 : decode cX10_swap 1 = .ok (.iconst 0, 1) := by decide +kernel
theorem dX10_swap_2 : decode cX10_swap 2 = .ok (.iconst 2, 1) := by decide +kernel
theorem dX10_swap_3 : decode cX10_swap 3 = .ok (.invokestatic 80, 3) := by decide +kernel
theorem dX10_swap_6 : decode cX10_swap 6 = .ok (.ifCond .eq 12, 3) := by decide +kernel
theorem dX10_swap_9 : decode cX10_swap 9 = .ok (.iload_n 2, 1) := by decide +kernel
theorem dX10_swap_10 : decode cX10_swap 10 = .ok (.iconst 0, 1) := by decide +kernel
theorem dX10_swap_11 : decode cX10_swap 11 = .ok (.iconst 2, 1) := by decide +kernel
theorem dX10_swap_12 : decode cX10_swap 12 = .ok (.invokestatic 80, 3) := by decide +kernel
theorem dX10_swap_15 : decode cX10_swap 15 = .ok (.ifCond .ne 5, 3) := by decide +kernel
theorem dX10_swap_18 : decode cX10_swap 18 = .ok (.iconst (-1), 1) := by decide +kernel
theorem dX10_swap_19 : decode cX10_swap 19 = .ok (.ireturn, 1) := by decide +kernel
theorem dX10_swap_20 : decode cX10_swap 20 = .ok (.aload_n 0, 1) := by decide +kernel
theorem dX10_swap_21 : decode cX10_swap 21 = .ok (.invokevirtual 106, 3) := by decide +kernel
theorem dX10_swap_24 : decode cX10_swap 24 = .ok (.iconst 0, 1) := by decide +kernel
theorem dX10_swap_25 : decode cX10_swap 25 = .ok (.istore_n 3, 1) := by decide +kernel
theorem dX10_swap_26 : decode cX10_swap 26 = .ok (.iconst 0, 1) := by decide +kernel
theorem dX10_swap_27 : decode cX10_swap 27 = .ok (.istore 4, 2) := by decide +kernel
theorem dX10_swap_29 : decode cX10_swap 29 = .ok (.iload 4, 2) := by decide +kernel
theorem dX10_swap_31 : decode cX10_swap 31 = .ok (.bipush 27, 2) := by decide +kernel
theorem dX10_swap_33 : decode cX10_swap 33 = .ok (.if_icmp .ge 86, 3) := by decide +kernel
theorem dX10_swap_36 : decode cX10_swap 36 = .ok (.aload_n 0, 1) := by decide +kernel
theorem dX10_swap_37 : decode cX10_swap 37 = .ok (.getfield 7, 3) := by decide +kernel
theorem dX10_swap_40 : decode cX10_swap 40 = .ok (.iconst 1, 1) := by decide +kernel
theorem dX10_swap_41 : decode cX10_swap 41 = .ok (.bipush 27, 2) := by decide +kernel
theorem dX10_swap_43 : decode cX10_swap 43 = .ok (.iload_n 1, 1) := by decide +kernel
theorem dX10_swap_44 : decode cX10_swap 44 = .ok (.imul, 1) := by decide +kernel
theorem dX10_swap_45 : decode cX10_swap 45 = .ok (.iadd, 1) := by decide +kernel
theorem dX10_swap_46 : decode cX10_swap 46 = .ok (.iload 4, 2) := by decide +kernel
theorem dX10_swap_48 : decode cX10_swap 48 = .ok (.iadd, 1) := by decide +kernel
theorem dX10_swap_49 : decode cX10_swap 49 = .ok (.iaload, 1) := by decide +kernel
theorem dX10_swap_50 : decode cX10_swap 50 = .ok (.istore 5, 2) := by decide +kernel
theorem dX10_swap_52 : decode cX10_swap 52 = .ok (.aload_n 0, 1) := by decide +kernel
theorem dX10_swap_53 : decode cX10_swap 53 = .ok (.getfield 7, 3) := by decide +kernel
theorem dX10_swap_56 : decode cX10_swap 56 = .ok (.iconst 1, 1) := by decide +kernel
theorem dX10_swap_57 : decode cX10_swap 57 = .ok (.bipush 27, 2) := by decide +kernel
theorem dX10_swap_59 : decode cX10_swap 59 = .ok (.iload_n 2, 1) := by decide +kernel
theorem dX10_swap_60 : decode cX10_swap 60 = .ok (.imul, 1) := by decide +kernel
theorem dX10_swap_61 : decode cX10_swap 61 = .ok (.iadd, 1) := by decide +kernel
theorem dX10_swap_62 : decode cX10_swap 62 = .ok (.iload 4, 2) := by decide +kernel
theorem dX10_swap_64 : decode cX10_swap 64 = .ok (.iadd, 1) := by decide +kernel
theorem dX10_swap_65 : decode cX10_swap 65 = .ok (.iaload, 1) := by decide +kernel
theorem dX10_swap_66 : decode cX10_swap 66 = .ok (.istore 6, 2) := by decide +kernel
theorem dX10_swap_68 : decode cX10_swap 68 = .ok (.iload 5, 2) := by decide +kernel
theorem dX10_swap_70 : decode cX10_swap 70 = .ok (.iload 6, 2) := by decide +kernel
theorem dX10_swap_72 : decode cX10_swap 72 = .ok (.if_icmp .eq 7, 3) := by decide +kernel
theorem dX10_swap_75 : decode cX10_swap 75 = .ok (.iconst 1, 1) := by decide +kernel
theorem dX10_swap_76 : decode cX10_swap 76 = .ok (.goto 4, 3) := by decide +kernel
theorem dX10_swap_79 : decode cX10_swap 79 = .ok (.iload_n 3, 1) := by decide +kernel
theorem dX10_swap_80 : decode cX10_swap 80 = .ok (.istore_n 3, 1) := by decide +kernel
theorem dX10_swap_81 : decode cX10_swap 81 = .ok (.aload_n 0, 1) := by decide +kernel
theorem dX10_swap_82 : decode cX10_swap 82 = .ok (.getfield 7, 3) := by decide +kernel
theorem dX10_swap_85 : decode cX10_swap 85 = .ok (.iconst 1, 1) := by decide +kernel
theorem dX10_swap_86 : decode cX10_swap 86 = .ok (.bipush 27, 2) := by decide +kernel
theorem dX10_swap_88 : decode cX10_swap 88 = .ok (.iload_n 1, 1) := by decide +kernel
theorem dX10_swap_89 : decode cX10_swap 89 = .ok (.imul, 1) := by decide +kernel
theorem dX10_swap_90 : decode cX10_swap 90 = .ok (.iadd, 1) := by decide +kernel
theorem dX10_swap_91 : decode cX10_swap 91 = .ok (.iload 4, 2) := by decide +kernel
theorem dX10_swap_93 : decode cX10_swap 93 = .ok (.iadd, 1) := by decide +kernel
theorem dX10_swap_94 : decode cX10_swap 94 = .ok (.iload 6, 2) := by decide +kernel
theorem dX10_swap_96 : decode cX10_swap 96 = .ok (.iastore, 1) := by decide +kernel
theorem dX10_swap_97 : decode cX10_swap 97 = .ok (.aload_n 0, 1) := by decide +kernel
theorem dX10_swap_98 : decode cX10_swap 98 = .ok (.getfield 7, 3) := by decide +kernel
theorem dX10_swap_101 : decode cX10_swap 101 = .ok (.iconst 1, 1) := by decide +kernel
theorem dX10_swap_102 : decode cX10_swap 102 = .ok (.bipush 27, 2) := by decide +kernel
theorem dX10_swap_104 : decode cX10_swap 104 = .ok (.iload_n 2, 1) := by decide +kernel
theorem dX10_swap_105 : decode cX10_swap 105 = .ok (.imul, 1) := by decide +kernel
theorem dX10_swap_106 : decode cX10_swap 106 = .ok (.iadd, 1) := by decide +kernel
theorem dX10_swap_107 : decode cX10_swap 107 = .ok (.iload 4, 2) := by decide +kernel
theorem dX10_swap_109 : decode cX10_swap 109 = .ok (.iadd, 1) := by decide +kernel
theorem dX10_swap_110 : decode cX10_swap 110 = .ok (.iload 5, 2) := by decide +kernel
theorem dX10_swap_112 : decode cX10_swap 112 = .ok (.iastore, 1) := by decide +kernel
theorem dX10_swap_113 : decode cX10_swap 113 = .ok (.iinc 4 1, 3) := by decide +kernel
theorem dX10_swap_116 : decode cX10_swap 116 = .ok (.goto (-87), 3) := by decide +kernel
theorem dX10_swap_119 : decode cX10_swap 119 = .ok (.iload_n 3, 1) := by decide +kernel
theorem dX10_swap_120 : decode cX10_swap 120 = .ok (.ireturn, 1) := by decide +kernel
theorem dX10_combine_0 : decode cX10_combine 0 = .ok (.iload_n 1, 1) := by decide +kernel
theorem dX10_combine_1 : decode cX10_combine 1 = .ok (.iload 4, 2) := by decide +kernel
theorem dX10_combine_3 : decode cX10_combine 3 = .ok (.iload 5, 2) := by decide +kernel
theorem dX10_combine_5 : decode cX10_combine 5 = .ok (.iload 6, 2) := by decide +kernel
theorem dX10_combine_7 : decode cX10_combine 7 = .ok (.invokestatic 138, 3) := by decide +kernel
theorem dX10_combine_10 : decode cX10_combine 10 = .ok (.ifCond .eq 25, 3) := by decide +kernel
theorem dX10_combine_13 : decode cX10_combine 13 = .ok (.iload_n 2, 1) := by decide +kernel
theorem dX10_combine_14 : decode cX10_combine 14 = .ok (.iconst 0, 1) := by decide +kernel
theorem dX10_combine_15 : decode cX10_combine 15 = .ok (.iconst 2, 1) := by decide +kernel
theorem dX10_combine_16 : decode cX10_combine 16 = .ok (.invokestatic 80, 3) := by decide +kernel
theorem dX10_combine_19 : decode cX10_combine 19 = .ok (.ifCond .eq 16, 3) := by decide +kernel
theorem dX10_combine_22 : decode cX10_combine 22 = .ok (.iload_n 1, 1) := by decide +kernel
theorem dX10_combine_23 : decode cX10_combine 23 = .ok (.iload_n 2, 1) := by decide +kernel
theorem dX10_combine_24 : decode cX10_combine 24 = .ok (.if_icmp .eq 11, 3) := by decide +kernel
theorem dX10_combine_27 : decode cX10_combine 27 = .ok (.aload_n 0, 1) := by decide +kernel
theorem dX10_combine_28 : decode cX10_combine 28 = .ok (.iload_n 3, 1) := by decide +kernel
theorem dX10_combine_29 : decode cX10_combine 29 = .ok (.invokevirtual 142, 3) := by decide +kernel
theorem dX10_combine_32 : decode cX10_combine 32 = .ok (.ifCond .ne 5, 3) := by decide +kernel
theorem dX10_combine_35 : decode cX10_combine 35 = .ok (.iconst (-1), 1) := by decide +kernel
theorem dX10_combine_36 : decode cX10_combine 36 = .ok (.ireturn, 1) := by decide +kernel
theorem dX10_combine_37 : decode cX10_combine 37 = .ok (.iconst 0, 1) := by decide +kernel
theorem dX10_combine_38 : decode cX10_combine 38 = .ok (.istore 7, 2) := by decide +kernel
theorem dX10_combine_40 : decode cX10_combine 40 = .ok (.iload 7, 2) := by decide +kernel
theorem dX10_combine_42 : decode cX10_combine 42 = .ok (.bipush 27, 2) := by decide +kernel
theorem dX10_combine_44 : decode cX10_combine 44 = .ok (.if_icmp .ge 82, 3) := by decide +kernel
theorem dX10_combine_47 : decode cX10_combine 47 = .ok (.iload_n 3, 1) := by decide +kernel
theorem dX10_combine_48 : decode cX10_combine 48 = .ok (.ifCond .eq 78, 3) := by decide +kernel
theorem dX10_combine_51 : decode cX10_combine 51 = .ok (.iload 7, 2) := by decide +kernel
theorem dX10_combine_53 : decode cX10_combine 53 = .ok (.bipush 9, 2) := by decide +kernel
theorem dX10_combine_55 : decode cX10_combine 55 = .ok (.idiv, 1) := by decide +kernel
theorem dX10_combine_56 : decode cX10_combine 56 = .ok (.iload 4, 2) := by decide +kernel
theorem dX10_combine_58 : decode cX10_combine 58 = .ok (.iadd, 1) := by decide +kernel
theorem dX10_combine_59 : decode cX10_combine 59 = .ok (.iconst 2, 1) := by decide +kernel
theorem dX10_combine_60 : decode cX10_combine 60 = .ok (.if_icmp .gt 28, 3) := by decide +kernel
theorem dX10_combine_63 : decode cX10_combine 63 = .ok (.iload 7, 2) := by decide +kernel
theorem dX10_combine_65 : decode cX10_combine 65 = .ok (.bipush 9, 2) := by decide +kernel
theorem dX10_combine_67 : decode cX10_combine 67 = .ok (.irem, 1) := by decide +kernel
theorem dX10_combine_68 : decode cX10_combine 68 = .ok (.iconst 3, 1) := by decide +kernel
theorem dX10_combine_69 : decode cX10_combine 69 = .ok (.idiv, 1) := by decide +kernel
theorem dX10_combine_70 : decode cX10_combine 70 = .ok (.iload 5, 2) := by decide +kernel
theorem dX10_combine_72 : decode cX10_combine 72 = .ok (.iadd, 1) := by decide +kernel
theorem dX10_combine_73 : decode cX10_combine 73 = .ok (.iconst 2, 1) := by decide +kernel
theorem dX10_combine_74 : decode cX10_combine 74 = .ok (.if_icmp .gt 14, 3) := by decide +kernel
theorem dX10_combine_77 : decode cX10_combine 77 = .ok (.iload 7, 2) := by decide +kernel
theorem dX10_combine_79 : decode cX10_combine 79 = .ok (.iconst 3, 1) := by decide +kernel
theorem dX10_combine_80 : decode cX10_combine 80 = .ok (.irem, 1) := by decide +kernel
theorem dX10_combine_81 : decode cX10_combine 81 = .ok (.iload 6, 2) := by decide +kernel
theorem dX10_combine_83 : decode cX10_combine 83 = .ok (.iadd, 1) := by decide +kernel
theorem dX10_combine_84 : decode cX10_combine 84 = .ok (.iconst 2, 1) := by decide +kernel
theorem dX10_combine_85 : decode cX10_combine 85 = .ok (.if_icmp .le 7, 3) := by decide +kernel
theorem dX10_combine_88 : decode cX10_combine 88 = .ok (.iconst 1, 1) := by decide +kernel
theorem dX10_combine_89 : decode cX10_combine 89 = .ok (.goto 4, 3) := by decide +kernel
theorem dX10_combine_92 : decode cX10_combine 92 = .ok (.iconst 0, 1) := by decide +kernel
theorem dX10_combine_93 : decode cX10_combine 93 = .ok (.istore 8, 2) := by decide +kernel
theorem dX10_combine_95 : decode cX10_combine 95 = .ok (.iload 8, 2) := by decide +kernel
theorem dX10_combine_97 : decode cX10_combine 97 = .ok (.ifCond .eq 23, 3) := by decide +kernel
theorem dX10_combine_100 : decode cX10_combine 100 = .ok (.aload_n 0, 1) := by decide +kernel
theorem dX10_combine_101 : decode cX10_combine 101 = .ok (.getfield 7, 3) := by decide +kernel
theorem dX10_combine_104 : decode cX10_combine 104 = .ok (.iconst 1, 1) := by decide +kernel
theorem dX10_combine_105 : decode cX10_combine 105 = .ok (.bipush 27, 2) := by decide +kernel
theorem dX10_combine_107 : decode cX10_combine 107 = .ok (.iload_n 2, 1) := by decide +kernel
theorem dX10_combine_108 : decode cX10_combine 108 = .ok (.imul, 1) := by decide +kernel
theorem dX10_combine_109 : decode cX10_combine 109 = .ok (.iadd, 1) := by decide +kernel
theorem dX10_combine_110 : decode cX10_combine 110 = .ok (.iload 7, 2) := by decide +kernel
theorem dX10_combine_112 : decode cX10_combine 112 = .ok (.iadd, 1) := by decide +kernel
theorem dX10_combine_113 : decode cX10_combine 113 = .ok (.iaload, 1) := by decide +kernel
theorem dX10_combine_114 : decode cX10_combine 114 = .ok (.ifCond .eq 6, 3) := by decide +kernel
theorem dX10_combine_117 : decode cX10_combine 117 = .ok (.bipush (-3), 2) := by decide +kernel
theorem dX10_combine_119 : decode cX10_combine 119 = .ok (.ireturn, 1) := by decide +kernel
theorem dX10_combine_120 : decode cX10_combine 120 = .ok (.iinc 7 1, 3) := by decide +kernel
theorem dX10_combine_123 : decode cX10_combine 123 = .ok (.goto (-83), 3) := by decide +kernel
theorem dX10_combine_126 : decode cX10_combine 126 = .ok (.aload_n 0, 1) := by decide +kernel
theorem dX10_combine_127 : decode cX10_combine 127 = .ok (.invokevirtual 106, 3) := by decide +kernel
theorem dX10_combine_130 : decode cX10_combine 130 = .ok (.iconst 0, 1) := by decide +kernel
theorem dX10_combine_131 : decode cX10_combine 131 = .ok (.istore 7, 2) := by decide +kernel
theorem dX10_combine_133 : decode cX10_combine 133 = .ok (.iload 7, 2) := by decide +kernel
theorem dX10_combine_135 : decode cX10_combine 135 = .ok (.bipush 27, 2) := by decide +kernel
theorem dX10_combine_137 : decode cX10_combine 137 = .ok (.if_icmp .ge 89, 3) := by decide +kernel
theorem dX10_combine_140 : decode cX10_combine 140 = .ok (.iload_n 3, 1) := by decide +kernel
theorem dX10_combine_141 : decode cX10_combine 141 = .ok (.ifCond .eq 85, 3) := by decide +kernel
theorem dX10_combine_144 : decode cX10_combine 144 = .ok (.aload_n 0, 1) := by decide +kernel
theorem dX10_combine_145 : decode cX10_combine 145 = .ok (.getfield 7, 3) := by decide +kernel
theorem dX10_combine_148 : decode cX10_combine 148 = .ok (.iconst 1, 1) := by decide +kernel
theorem dX10_combine_149 : decode cX10_combine 149 = .ok (.bipush 27, 2) := by decide +kernel
theorem dX10_combine_151 : decode cX10_combine 151 = .ok (.iload_n 2, 1) := by decide +kernel
theorem dX10_combine_152 : decode cX10_combine 152 = .ok (.imul, 1) := by decide +kernel
theorem dX10_combine_153 : decode cX10_combine 153 = .ok (.iadd, 1) := by decide +kernel
theorem dX10_combine_154 : decode cX10_combine 154 = .ok (.iload 7, 2) := by decide +kernel
theorem dX10_combine_156 : decode cX10_combine 156 = .ok (.iadd, 1) := by decide +kernel
theorem dX10_combine_157 : decode cX10_combine 157 = .ok (.iaload, 1) := by decide +kernel
theorem dX10_combine_158 : decode cX10_combine 158 = .ok (.istore 8, 2) := by decide +kernel
theorem dX10_combine_160 : decode cX10_combine 160 = .ok (.iload 8, 2) := by decide +kernel
theorem dX10_combine_162 : decode cX10_combine 162 = .ok (.ifCond .eq 58, 3) := by decide +kernel
theorem dX10_combine_165 : decode cX10_combine 165 = .ok (.iload_n 1, 1) := by decide +kernel
theorem dX10_combine_166 : decode cX10_combine 166 = .ok (.iload 7, 2) := by decide +kernel
theorem dX10_combine_168 : decode cX10_combine 168 = .ok (.bipush 9, 2) := by decide +kernel
theorem dX10_combine_170 : decode cX10_combine 170 = .ok (.idiv, 1) := by decide +kernel
theorem dX10_combine_171 : decode cX10_combine 171 = .ok (.iload 4, 2) := by decide +kernel
theorem dX10_combine_173 : decode cX10_combine 173 = .ok (.iadd, 1) := by decide +kernel
theorem dX10_combine_174 : decode cX10_combine 174 = .ok (.iload 7, 2) := by decide +kernel
theorem dX10_combine_176 : decode cX10_combine 176 = .ok (.bipush 9, 2) := by decide +kernel
theorem dX10_combine_178 : decode cX10_combine 178 = .ok (.irem, 1) := by decide +kernel
theorem dX10_combine_179 : decode cX10_combine 179 = .ok (.iconst 3, 1) := by decide +kernel
theorem dX10_combine_180 : decode cX10_combine 180 = .ok (.idiv, 1) := by decide +kernel
theorem dX10_combine_181 : decode cX10_combine 181 = .ok (.iload 5, 2) := by decide +kernel
theorem dX10_combine_183 : decode cX10_combine 183 = .ok (.iadd, 1) := by decide +kernel
theorem dX10_combine_184 : decode cX10_combine 184 = .ok (.iload 7, 2) := by decide +kernel
theorem dX10_combine_186 : decode cX10_combine 186 = .ok (.iconst 3, 1) := by decide +kernel
theorem dX10_combine_187 : decode cX10_combine 187 = .ok (.irem, 1) := by decide +kernel
theorem dX10_combine_188 : decode cX10_combine 188 = .ok (.iload 6, 2) := by decide +kernel
theorem dX10_combine_190 : decode cX10_combine 190 = .ok (.iadd, 1) := by decide +kernel
theorem dX10_combine_191 : decode cX10_combine 191 = .ok (.invokestatic 84, 3) := by decide +kernel
theorem dX10_combine_194 : decode cX10_combine 194 = .ok (.istore 9, 2) := by decide +kernel
theorem dX10_combine_196 : decode cX10_combine 196 = .ok (.aload_n 0, 1) := by decide +kernel
theorem dX10_combine_197 : decode cX10_combine 197 = .ok (.getfield 7, 3) := by decide +kernel
theorem dX10_combine_200 : decode cX10_combine 200 = .ok (.iload 9, 2) := by decide +kernel
theorem dX10_combine_202 : decode cX10_combine 202 = .ok (.aload_n 0, 1) := by decide +kernel
theorem dX10_combine_203 : decode cX10_combine 203 = .ok (.getfield 7, 3) := by decide +kernel
theorem dX10_combine_206 : decode cX10_combine 206 = .ok (.iload 9, 2) := by decide +kernel
theorem dX10_combine_208 : decode cX10_combine 208 = .ok (.iaload, 1) := by decide +kernel
theorem dX10_combine_209 : decode cX10_combine 209 = .ok (.iload_n 3, 1) := by decide +kernel
theorem dX10_combine_210 : decode cX10_combine 210 = .ok (.iload 8, 2) := by decide +kernel
theorem dX10_combine_212 : decode cX10_combine 212 = .ok (.imul, 1) := by decide +kernel
theorem dX10_combine_213 : decode cX10_combine 213 = .ok (.iadd, 1) := by decide +kernel
theorem dX10_combine_214 : decode cX10_combine 214 = .ok (.aload_n 0, 1) := by decide +kernel
theorem dX10_combine_215 : decode cX10_combine 215 = .ok (.invokevirtual 76, 3) := by decide +kernel
theorem dX10_combine_218 : decode cX10_combine 218 = .ok (.irem, 1) := by decide +kernel
theorem dX10_combine_219 : decode cX10_combine 219 = .ok (.iastore, 1) := by decide +kernel
theorem dX10_combine_220 : decode cX10_combine 220 = .ok (.iinc 7 1, 3) := by decide +kernel
theorem dX10_combine_223 : decode cX10_combine 223 = .ok (.goto (-90), 3) := by decide +kernel
theorem dX10_combine_226 : decode cX10_combine 226 = .ok (.aload_n 0, 1) := by decide +kernel
theorem dX10_combine_227 : decode cX10_combine 227 = .ok (.iload_n 1, 1) := by decide +kernel
theorem dX10_combine_228 : decode cX10_combine 228 = .ok (.invokevirtual 102, 3) := by decide +kernel
theorem dX10_combine_231 : decode cX10_combine 231 = .ok (.ireturn, 1) := by decide +kernel
theorem dX10_shift_0 : decode cX10_shift 0 = .ok (.aload_n 0, 1) := by decide +kernel
theorem dX10_shift_1 : decode cX10_shift 1 = .ok (.iload_n 1, 1) := by decide +kernel
theorem dX10_shift_2 : decode cX10_shift 2 = .ok (.invokevirtual 142, 3) := by decide +kernel
theorem dX10_shift_5 : decode cX10_shift 5 = .ok (.ifCond .ne 5, 3) := by decide +kernel
theorem dX10_shift_8 : decode cX10_shift 8 = .ok (.iconst (-1), 1) := by decide +kernel
theorem dX10_shift_9 : decode cX10_shift 9 = .ok (.ireturn, 1) := by decide +kernel
theorem dX10_shift_10 : decode cX10_shift 10 = .ok (.aload_n 0, 1) := by decide +kernel
theorem dX10_shift_11 : decode cX10_shift 11 = .ok (.invokevirtual 106, 3) := by decide +kernel
theorem dX10_shift_14 : decode cX10_shift 14 = .ok (.iconst 1, 1) := by decide +kernel
theorem dX10_shift_15 : decode cX10_shift 15 = .ok (.istore_n 2, 1) := by decide +kernel
theorem dX10_shift_16 : decode cX10_shift 16 = .ok (.iload_n 2, 1) := by decide +kernel
theorem dX10_shift_17 : decode cX10_shift 17 = .ok (.bipush 82, 2) := by decide +kernel
theorem dX10_shift_19 : decode cX10_shift 19 = .ok (.if_icmp .ge 82, 3) := by decide +kernel
theorem dX10_shift_22 : decode cX10_shift 22 = .ok (.aload_n 0, 1) := by decide +kernel
theorem dX10_shift_23 : decode cX10_shift 23 = .ok (.getfield 7, 3) := by decide +kernel
theorem dX10_shift_26 : decode cX10_shift 26 = .ok (.iload_n 2, 1) := by decide +kernel
theorem dX10_shift_27 : decode cX10_shift 27 = .ok (.iconst 1, 1) := by decide +kernel
theorem dX10_shift_28 : decode cX10_shift 28 = .ok (.iadd, 1) := by decide +kernel
theorem dX10_shift_29 : decode cX10_shift 29 = .ok (.iaload, 1) := by decide +kernel
theorem dX10_shift_30 : decode cX10_shift 30 = .ok (.istore_n 3, 1) := by decide +kernel
theorem dX10_shift_31 : decode cX10_shift 31 = .ok (.aload_n 0, 1) := by decide +kernel
theorem dX10_shift_32 : decode cX10_shift 32 = .ok (.getfield 7, 3) := by decide +kernel
theorem dX10_shift_35 : decode cX10_shift 35 = .ok (.iload_n 2, 1) := by decide +kernel
theorem dX10_shift_36 : decode cX10_shift 36 = .ok (.iconst 2, 1) := by decide +kernel
theorem dX10_shift_37 : decode cX10_shift 37 = .ok (.iadd, 1) := by decide +kernel
theorem dX10_shift_38 : decode cX10_shift 38 = .ok (.iaload, 1) := by decide +kernel
theorem dX10_shift_39 : decode cX10_shift 39 = .ok (.istore 4, 2) := by decide +kernel
theorem dX10_shift_41 : decode cX10_shift 41 = .ok (.aload_n 0, 1) := by decide +kernel
theorem dX10_shift_42 : decode cX10_shift 42 = .ok (.getfield 7, 3) := by decide +kernel
theorem dX10_shift_45 : decode cX10_shift 45 = .ok (.iload_n 2, 1) := by decide +kernel
theorem dX10_shift_46 : decode cX10_shift 46 = .ok (.aload_n 0, 1) := by decide +kernel
theorem dX10_shift_47 : decode cX10_shift 47 = .ok (.getfield 7, 3) := by decide +kernel
theorem dX10_shift_50 : decode cX10_shift 50 = .ok (.iload_n 2, 1) := by decide +kernel
theorem dX10_shift_51 : decode cX10_shift 51 = .ok (.iaload, 1) := by decide +kernel
theorem dX10_shift_52 : decode cX10_shift 52 = .ok (.iload_n 1, 1) := by decide +kernel
theorem dX10_shift_53 : decode cX10_shift 53 = .ok (.iload_n 3, 1) := by decide +kernel
theorem dX10_shift_54 : decode cX10_shift 54 = .ok (.imul, 1) := by decide +kernel
theorem dX10_shift_55 : decode cX10_shift 55 = .ok (.iadd, 1) := by decide +kernel
theorem dX10_shift_56 : decode cX10_shift 56 = .ok (.iload_n 1, 1) := by decide +kernel
theorem dX10_shift_57 : decode cX10_shift 57 = .ok (.iload_n 1, 1) := by decide +kernel
theorem dX10_shift_58 : decode cX10_shift 58 = .ok (.imul, 1) := by decide +kernel
theorem dX10_shift_59 : decode cX10_shift 59 = .ok (.aload_n 0, 1) := by decide +kernel
theorem dX10_shift_60 : decode cX10_shift 60 = .ok (.invokevirtual 76, 3) := by decide +kernel
theorem dX10_shift_63 : decode cX10_shift 63 = .ok (.irem, 1) := by decide +kernel
theorem dX10_shift_64 : decode cX10_shift 64 = .ok (.iload 4, 2) := by decide +kernel
theorem dX10_shift_66 : decode cX10_shift 66 = .ok (.imul, 1) := by decide +kernel
theorem dX10_shift_67 : decode cX10_shift 67 = .ok (.iadd, 1) := by decide +kernel
theorem dX10_shift_68 : decode cX10_shift 68 = .ok (.aload_n 0, 1) := by decide +kernel
theorem dX10_shift_69 : decode cX10_shift 69 = .ok (.invokevirtual 76, 3) := by decide +kernel
theorem dX10_shift_72 : decode cX10_shift 72 = .ok (.irem, 1) := by decide +kernel
theorem dX10_shift_73 : decode cX10_shift 73 = .ok (.iastore, 1) := by decide +kernel
theorem dX10_shift_74 : decode cX10_shift 74 = .ok (.aload_n 0, 1) := by decide +kernel
theorem dX10_shift_75 : decode cX10_shift 75 = .ok (.getfield 7, 3) := by decide +kernel
theorem dX10_shift_78 : decode cX10_shift 78 = .ok (.iload_n 2, 1) := by decide +kernel
theorem dX10_shift_79 : decode cX10_shift 79 = .ok (.iconst 1, 1) := by decide +kernel
theorem dX10_shift_80 : decode cX10_shift 80 = .ok (.iadd, 1) := by decide +kernel
theorem dX10_shift_81 : decode cX10_shift 81 = .ok (.iload_n 3, 1) := by decide +kernel
theorem dX10_shift_82 : decode cX10_shift 82 = .ok (.iconst 2, 1) := by decide +kernel
theorem dX10_shift_83 : decode cX10_shift 83 = .ok (.iload_n 1, 1) := by decide +kernel
theorem dX10_shift_84 : decode cX10_shift 84 = .ok (.imul, 1) := by decide +kernel
theorem dX10_shift_85 : decode cX10_shift 85 = .ok (.iload 4, 2) := by decide +kernel
theorem dX10_shift_87 : decode cX10_shift 87 = .ok (.imul, 1) := by decide +kernel
theorem dX10_shift_88 : decode cX10_shift 88 = .ok (.iadd, 1) := by decide +kernel
theorem dX10_shift_89 : decode cX10_shift 89 = .ok (.aload_n 0, 1) := by decide +kernel
theorem dX10_shift_90 : decode cX10_shift 90 = .ok (.invokevirtual 76, 3) := by decide +kernel
theorem dX10_shift_93 : decode cX10_shift 93 = .ok (.irem, 1) := by decide +kernel
theorem dX10_shift_94 : decode cX10_shift 94 = .ok (.iastore, 1) := by decide +kernel
theorem dX10_shift_95 : decode cX10_shift 95 = .ok (.iinc 2 3, 3) := by decide +kernel
theorem dX10_shift_98 : decode cX10_shift 98 = .ok (.goto (-82), 3) := by decide +kernel
theorem dX10_shift_101 : decode cX10_shift 101 = .ok (.aload_n 0, 1) := by decide +kernel
theorem dX10_shift_102 : decode cX10_shift 102 = .ok (.invokevirtual 150, 3) := by decide +kernel
theorem dX10_shift_105 : decode cX10_shift 105 = .ok (.ireturn, 1) := by decide +kernel
theorem dX10_value_0 : decode cX10_value 0 = .ok (.iload_n 1, 1) := by decide +kernel
theorem dX10_value_1 : decode cX10_value 1 = .ok (.iconst 0, 1) := by decide +kernel
theorem dX10_value_2 : decode cX10_value 2 = .ok (.iconst 2, 1) := by decide +kernel
theorem dX10_value_3 : decode cX10_value 3 = .ok (.invokestatic 80, 3) := by decide +kernel
theorem dX10_value_6 : decode cX10_value 6 = .ok (.ifCond .eq 40, 3) := by decide +kernel
theorem dX10_value_9 : decode cX10_value 9 = .ok (.aload_n 0, 1) := by decide +kernel
theorem dX10_value_10 : decode cX10_value 10 = .ok (.iload_n 2, 1) := by decide +kernel
theorem dX10_value_11 : decode cX10_value 11 = .ok (.invokevirtual 142, 3) := by decide +kernel
theorem dX10_value_14 : decode cX10_value 14 = .ok (.ifCond .eq 32, 3) := by decide +kernel
theorem dX10_value_17 : decode cX10_value 17 = .ok (.aload_n 0, 1) := by decide +kernel
theorem dX10_value_18 : decode cX10_value 18 = .ok (.iload_n 3, 1) := by decide +kernel
theorem dX10_value_19 : decode cX10_value 19 = .ok (.invokevirtual 142, 3) := by decide +kernel
theorem dX10_value_22 : decode cX10_value 22 = .ok (.ifCond .eq 24, 3) := by decide +kernel
theorem dX10_value_25 : decode cX10_value 25 = .ok (.aload_n 0, 1) := by decide +kernel
theorem dX10_value_26 : decode cX10_value 26 = .ok (.iload 4, 2) := by decide +kernel
theorem dX10_value_28 : decode cX10_value 28 = .ok (.invokevirtual 142, 3) := by decide +kernel
theorem dX10_value_31 : decode cX10_value 31 = .ok (.ifCond .eq 15, 3) := by decide +kernel
theorem dX10_value_34 : decode cX10_value 34 = .ok (.aload_n 0, 1) := by decide +kernel
theorem dX10_value_35 : decode cX10_value 35 = .ok (.iload_n 1, 1) := by decide +kernel
theorem dX10_value_36 : decode cX10_value 36 = .ok (.iload_n 2, 1) := by decide +kernel
theorem dX10_value_37 : decode cX10_value 37 = .ok (.iload_n 3, 1) := by decide +kernel
theorem dX10_value_38 : decode cX10_value 38 = .ok (.iload 4, 2) := by decide +kernel
theorem dX10_value_40 : decode cX10_value 40 = .ok (.invokevirtual 157, 3) := by decide +kernel
theorem dX10_value_43 : decode cX10_value 43 = .ok (.goto 4, 3) := by decide +kernel
theorem dX10_value_46 : decode cX10_value 46 = .ok (.iconst (-1), 1) := by decide +kernel
theorem dX10_value_47 : decode cX10_value 47 = .ok (.ireturn, 1) := by decide +kernel
theorem dX10_degreeOf_0 : decode cX10_degreeOf 0 = .ok (.iconst 0, 1) := by decide +kernel
theorem dX10_degreeOf_1 : decode cX10_degreeOf 1 = .ok (.istore_n 3, 1) := by decide +kernel
theorem dX10_degreeOf_2 : decode cX10_degreeOf 2 = .ok (.iconst 0, 1) := by decide +kernel
theorem dX10_degreeOf_3 : decode cX10_degreeOf 3 = .ok (.istore 4, 2) := by decide +kernel
theorem dX10_degreeOf_5 : decode cX10_degreeOf 5 = .ok (.iload 4, 2) := by decide +kernel
theorem dX10_degreeOf_7 : decode cX10_degreeOf 7 = .ok (.bipush 27, 2) := by decide +kernel
theorem dX10_degreeOf_9 : decode cX10_degreeOf 9 = .ok (.if_icmp .ge 72, 3) := by decide +kernel
theorem dX10_degreeOf_12 : decode cX10_degreeOf 12 = .ok (.iload_n 2, 1) := by decide +kernel
theorem dX10_degreeOf_13 : decode cX10_degreeOf 13 = .ok (.ifCond .ne 11, 3) := by decide +kernel
theorem dX10_degreeOf_16 : decode cX10_degreeOf 16 = .ok (.iload 4, 2) := by decide +kernel
theorem dX10_degreeOf_18 : decode cX10_degreeOf 18 = .ok (.bipush 9, 2) := by decide +kernel
theorem dX10_degreeOf_20 : decode cX10_degreeOf 20 = .ok (.idiv, 1) := by decide +kernel
theorem dX10_degreeOf_21 : decode cX10_degreeOf 21 = .ok (.goto 22, 3) := by decide +kernel
theorem dX10_degreeOf_24 : decode cX10_degreeOf 24 = .ok (.iload_n 2, 1) := by decide +kernel
theorem dX10_degreeOf_25 : decode cX10_degreeOf 25 = .ok (.iconst 1, 1) := by decide +kernel
theorem dX10_degreeOf_26 : decode cX10_degreeOf 26 = .ok (.if_icmp .ne 13, 3) := by decide +kernel
theorem dX10_degreeOf_29 : decode cX10_degreeOf 29 = .ok (.iload 4, 2) := by decide +kernel
theorem dX10_degreeOf_31 : decode cX10_degreeOf 31 = .ok (.bipush 9, 2) := by decide +kernel
theorem dX10_degreeOf_33 : decode cX10_degreeOf 33 = .ok (.irem, 1) := by decide +kernel
theorem dX10_degreeOf_34 : decode cX10_degreeOf 34 = .ok (.iconst 3, 1) := by decide +kernel
theorem dX10_degreeOf_35 : decode cX10_degreeOf 35 = .ok (.idiv, 1) := by decide +kernel
theorem dX10_degreeOf_36 : decode cX10_degreeOf 36 = .ok (.goto 7, 3) := by decide +kernel
theorem dX10_degreeOf_39 : decode cX10_degreeOf 39 = .ok (.iload 4, 2) := by decide +kernel
theorem dX10_degreeOf_41 : decode cX10_degreeOf 41 = .ok (.iconst 3, 1) := by decide +kernel
theorem dX10_degreeOf_42 : decode cX10_degreeOf 42 = .ok (.irem, 1) := by decide +kernel
theorem dX10_degreeOf_43 : decode cX10_degreeOf 43 = .ok (.istore 5, 2) := by decide +kernel
theorem dX10_degreeOf_45 : decode cX10_degreeOf 45 = .ok (.aload_n 0, 1) := by decide +kernel
theorem dX10_degreeOf_46 : decode cX10_degreeOf 46 = .ok (.getfield 7, 3) := by decide +kernel
theorem dX10_degreeOf_49 : decode cX10_degreeOf 49 = .ok (.iconst 1, 1) := by decide +kernel
theorem dX10_degreeOf_50 : decode cX10_degreeOf 50 = .ok (.bipush 27, 2) := by decide +kernel
theorem dX10_degreeOf_52 : decode cX10_degreeOf 52 = .ok (.iload_n 1, 1) := by decide +kernel
theorem dX10_degreeOf_53 : decode cX10_degreeOf 53 = .ok (.imul, 1) := by decide +kernel
theorem dX10_degreeOf_54 : decode cX10_degreeOf 54 = .ok (.iadd, 1) := by decide +kernel
theorem dX10_degreeOf_55 : decode cX10_degreeOf 55 = .ok (.iload 4, 2) := by decide +kernel
theorem dX10_degreeOf_57 : decode cX10_degreeOf 57 = .ok (.iadd, 1) := by decide +kernel
theorem dX10_degreeOf_58 : decode cX10_degreeOf 58 = .ok (.iaload, 1) := by decide +kernel
theorem dX10_degreeOf_59 : decode cX10_degreeOf 59 = .ok (.ifCond .eq 14, 3) := by decide +kernel
theorem dX10_degreeOf_62 : decode cX10_degreeOf 62 = .ok (.iload 5, 2) := by decide +kernel
theorem dX10_degreeOf_64 : decode cX10_degreeOf 64 = .ok (.iload_n 3, 1) := by decide +kernel
theorem dX10_degreeOf_65 : decode cX10_degreeOf 65 = .ok (.if_icmp .le 8, 3) := by decide +kernel
theorem dX10_degreeOf_68 : decode cX10_degreeOf 68 = .ok (.iload 5, 2) := by decide +kernel
theorem dX10_degreeOf_70 : decode cX10_degreeOf 70 = .ok (.goto 4, 3) := by decide +kernel
theorem dX10_degreeOf_73 : decode cX10_degreeOf 73 = .ok (.iload_n 3, 1) := by decide +kernel
theorem dX10_degreeOf_74 : decode cX10_degreeOf 74 = .ok (.istore_n 3, 1) := by decide +kernel
theorem dX10_degreeOf_75 : decode cX10_degreeOf 75 = .ok (.iinc 4 1, 3) := by decide +kernel
theorem dX10_degreeOf_78 : decode cX10_degreeOf 78 = .ok (.goto (-73), 3) := by decide +kernel
theorem dX10_degreeOf_81 : decode cX10_degreeOf 81 = .ok (.iload_n 3, 1) := by decide +kernel
theorem dX10_degreeOf_82 : decode cX10_degreeOf 82 = .ok (.ireturn, 1) := by decide +kernel
theorem dX10_degree_0 : decode cX10_degree 0 = .ok (.iload_n 1, 1) := by decide +kernel
theorem dX10_degree_1 : decode cX10_degree 1 = .ok (.iconst 0, 1) := by decide +kernel
theorem dX10_degree_2 : decode cX10_degree 2 = .ok (.iconst 2, 1) := by decide +kernel
theorem dX10_degree_3 : decode cX10_degree 3 = .ok (.invokestatic 80, 3) := by decide +kernel
theorem dX10_degree_6 : decode cX10_degree 6 = .ok (.ifCond .eq 21, 3) := by decide +kernel
theorem dX10_degree_9 : decode cX10_degree 9 = .ok (.iload_n 2, 1) := by decide +kernel
theorem dX10_degree_10 : decode cX10_degree 10 = .ok (.iconst 0, 1) := by decide +kernel
theorem dX10_degree_11 : decode cX10_degree 11 = .ok (.iconst 2, 1) := by decide +kernel
theorem dX10_degree_12 : decode cX10_degree 12 = .ok (.invokestatic 80, 3) := by decide +kernel
theorem dX10_degree_15 : decode cX10_degree 15 = .ok (.ifCond .eq 12, 3) := by decide +kernel
theorem dX10_degree_18 : decode cX10_degree 18 = .ok (.aload_n 0, 1) := by decide +kernel
theorem dX10_degree_19 : decode cX10_degree 19 = .ok (.iload_n 1, 1) := by decide +kernel
theorem dX10_degree_20 : decode cX10_degree 20 = .ok (.iload_n 2, 1) := by decide +kernel
theorem dX10_degree_21 : decode cX10_degree 21 = .ok (.invokevirtual 160, 3) := by decide +kernel
theorem dX10_degree_24 : decode cX10_degree 24 = .ok (.goto 4, 3) := by decide +kernel
theorem dX10_degree_27 : decode cX10_degree 27 = .ok (.iconst (-1), 1) := by decide +kernel
theorem dX10_degree_28 : decode cX10_degree 28 = .ok (.ireturn, 1) := by decide +kernel
theorem dX10_cut_0 : decode cX10_cut 0 = .ok (.aload_n 0, 1) := by decide +kernel
theorem dX10_cut_1 : decode cX10_cut 1 = .ok (.iload_n 1, 1) := by decide +kernel
theorem dX10_cut_2 : decode cX10_cut 2 = .ok (.iload_n 2, 1) := by decide +kernel
theorem dX10_cut_3 : decode cX10_cut 3 = .ok (.iload_n 3, 1) := by decide +kernel
theorem dX10_cut_4 : decode cX10_cut 4 = .ok (.iconst 0, 1) := by decide +kernel
theorem dX10_cut_5 : decode cX10_cut 5 = .ok (.invokevirtual 146, 3) := by decide +kernel
theorem dX10_cut_8 : decode cX10_cut 8 = .ok (.aload_n 0, 1) := by decide +kernel
theorem dX10_cut_9 : decode cX10_cut 9 = .ok (.iload_n 1, 1) := by decide +kernel
theorem dX10_cut_10 : decode cX10_cut 10 = .ok (.iload_n 2, 1) := by decide +kernel
theorem dX10_cut_11 : decode cX10_cut 11 = .ok (.iload_n 3, 1) := by decide +kernel
theorem dX10_cut_12 : decode cX10_cut 12 = .ok (.iconst 1, 1) := by decide +kernel
theorem dX10_cut_13 : decode cX10_cut 13 = .ok (.invokevirtual 146, 3) := by decide +kernel
theorem dX10_cut_16 : decode cX10_cut 16 = .ok (.iload 4, 2) := by decide +kernel
theorem dX10_cut_18 : decode cX10_cut 18 = .ok (.imul, 1) := by decide +kernel
theorem dX10_cut_19 : decode cX10_cut 19 = .ok (.iadd, 1) := by decide +kernel
theorem dX10_cut_20 : decode cX10_cut 20 = .ok (.aload_n 0, 1) := by decide +kernel
theorem dX10_cut_21 : decode cX10_cut 21 = .ok (.iload_n 1, 1) := by decide +kernel
theorem dX10_cut_22 : decode cX10_cut 22 = .ok (.iload_n 2, 1) := by decide +kernel
theorem dX10_cut_23 : decode cX10_cut 23 = .ok (.iload_n 3, 1) := by decide +kernel
theorem dX10_cut_24 : decode cX10_cut 24 = .ok (.iconst 2, 1) := by decide +kernel
theorem dX10_cut_25 : decode cX10_cut 25 = .ok (.invokevirtual 146, 3) := by decide +kernel
theorem dX10_cut_28 : decode cX10_cut 28 = .ok (.iload 4, 2) := by decide +kernel
theorem dX10_cut_30 : decode cX10_cut 30 = .ok (.iload 4, 2) := by decide +kernel
theorem dX10_cut_32 : decode cX10_cut 32 = .ok (.imul, 1) := by decide +kernel
theorem dX10_cut_33 : decode cX10_cut 33 = .ok (.aload_n 0, 1) := by decide +kernel
theorem dX10_cut_34 : decode cX10_cut 34 = .ok (.invokevirtual 76, 3) := by decide +kernel
theorem dX10_cut_37 : decode cX10_cut 37 = .ok (.irem, 1) := by decide +kernel
theorem dX10_cut_38 : decode cX10_cut 38 = .ok (.imul, 1) := by decide +kernel
theorem dX10_cut_39 : decode cX10_cut 39 = .ok (.iadd, 1) := by decide +kernel
theorem dX10_cut_40 : decode cX10_cut 40 = .ok (.aload_n 0, 1) := by decide +kernel
theorem dX10_cut_41 : decode cX10_cut 41 = .ok (.invokevirtual 76, 3) := by decide +kernel
theorem dX10_cut_44 : decode cX10_cut 44 = .ok (.irem, 1) := by decide +kernel
theorem dX10_cut_45 : decode cX10_cut 45 = .ok (.ireturn, 1) := by decide +kernel
theorem dX10_cutDegree_0 : decode cX10_cutDegree 0 = .ok (.iconst 0, 1) := by decide +kernel
theorem dX10_cutDegree_1 : decode cX10_cutDegree 1 = .ok (.istore 4, 2) := by decide +kernel
theorem dX10_cutDegree_3 : decode cX10_cutDegree 3 = .ok (.iconst 0, 1) := by decide +kernel
theorem dX10_cutDegree_4 : decode cX10_cutDegree 4 = .ok (.istore 5, 2) := by decide +kernel
theorem dX10_cutDegree_6 : decode cX10_cutDegree 6 = .ok (.iload 5, 2) := by decide +kernel
theorem dX10_cutDegree_8 : decode cX10_cutDegree 8 = .ok (.iconst 3, 1) := by decide +kernel
theorem dX10_cutDegree_9 : decode cX10_cutDegree 9 = .ok (.if_icmp .ge 66, 3) := by decide +kernel
theorem dX10_cutDegree_12 : decode cX10_cutDegree 12 = .ok (.iconst 0, 1) := by decide +kernel
theorem dX10_cutDegree_13 : decode cX10_cutDegree 13 = .ok (.istore 6, 2) := by decide +kernel
theorem dX10_cutDegree_15 : decode cX10_cutDegree 15 = .ok (.iload 6, 2) := by decide +kernel
theorem dX10_cutDegree_17 : decode cX10_cutDegree 17 = .ok (.iconst 3, 1) := by decide +kernel
theorem dX10_cutDegree_18 : decode cX10_cutDegree 18 = .ok (.if_icmp .ge 51, 3) := by decide +kernel
theorem dX10_cutDegree_21 : decode cX10_cutDegree 21 = .ok (.iload_n 2, 1) := by decide +kernel
theorem dX10_cutDegree_22 : decode cX10_cutDegree 22 = .ok (.ifCond .ne 8, 3) := by decide +kernel
theorem dX10_cutDegree_25 : decode cX10_cutDegree 25 = .ok (.iload 5, 2) := by decide +kernel
theorem dX10_cutDegree_27 : decode cX10_cutDegree 27 = .ok (.goto 5, 3) := by decide +kernel
theorem dX10_cutDegree_30 : decode cX10_cutDegree 30 = .ok (.iload 6, 2) := by decide +kernel
theorem dX10_cutDegree_32 : decode cX10_cutDegree 32 = .ok (.istore 7, 2) := by decide +kernel
theorem dX10_cutDegree_34 : decode cX10_cutDegree 34 = .ok (.iload 7, 2) := by decide +kernel
theorem dX10_cutDegree_36 : decode cX10_cutDegree 36 = .ok (.iload 4, 2) := by decide +kernel
theorem dX10_cutDegree_38 : decode cX10_cutDegree 38 = .ok (.if_icmp .le 21, 3) := by decide +kernel
theorem dX10_cutDegree_41 : decode cX10_cutDegree 41 = .ok (.aload_n 0, 1) := by decide +kernel
theorem dX10_cutDegree_42 : decode cX10_cutDegree 42 = .ok (.iload_n 1, 1) := by decide +kernel
theorem dX10_cutDegree_43 : decode cX10_cutDegree 43 = .ok (.iload 5, 2) := by decide +kernel
theorem dX10_cutDegree_45 : decode cX10_cutDegree 45 = .ok (.iload 6, 2) := by decide +kernel
theorem dX10_cutDegree_47 : decode cX10_cutDegree 47 = .ok (.iload_n 3, 1) := by decide +kernel
theorem dX10_cutDegree_48 : decode cX10_cutDegree 48 = .ok (.invokevirtual 163, 3) := by decide +kernel
theorem dX10_cutDegree_51 : decode cX10_cutDegree 51 = .ok (.ifCond .eq 8, 3) := by decide +kernel
theorem dX10_cutDegree_54 : decode cX10_cutDegree 54 = .ok (.iload 7, 2) := by decide +kernel
theorem dX10_cutDegree_56 : decode cX10_cutDegree 56 = .ok (.goto 5, 3) := by decide +kernel
theorem dX10_cutDegree_59 : decode cX10_cutDegree 59 = .ok (.iload 4, 2) := by decide +kernel
theorem dX10_cutDegree_61 : decode cX10_cutDegree 61 = .ok (.istore 4, 2) := by decide +kernel
theorem dX10_cutDegree_63 : decode cX10_cutDegree 63 = .ok (.iinc 6 1, 3) := by decide +kernel
theorem dX10_cutDegree_66 : decode cX10_cutDegree 66 = .ok (.goto (-51), 3) := by decide +kernel
theorem dX10_cutDegree_69 : decode cX10_cutDegree 69 = .ok (.iinc 5 1, 3) := by decide +kernel
theorem dX10_cutDegree_72 : decode cX10_cutDegree 72 = .ok (.goto (-66), 3) := by decide +kernel
theorem dX10_cutDegree_75 : decode cX10_cutDegree 75 = .ok (.iload 4, 2) := by decide +kernel
theorem dX10_cutDegree_77 : decode cX10_cutDegree 77 = .ok (.ireturn, 1) := by decide +kernel
theorem dX10_degreeAt_0 : decode cX10_degreeAt 0 = .ok (.iload_n 1, 1) := by decide +kernel
theorem dX10_degreeAt_1 : decode cX10_degreeAt 1 = .ok (.iconst 0, 1) := by decide +kernel
theorem dX10_degreeAt_2 : decode cX10_degreeAt 2 = .ok (.iconst 2, 1) := by decide +kernel
theorem dX10_degreeAt_3 : decode cX10_degreeAt 3 = .ok (.invokestatic 80, 3) := by decide +kernel
theorem dX10_degreeAt_6 : decode cX10_degreeAt 6 = .ok (.ifCond .eq 30, 3) := by decide +kernel
theorem dX10_degreeAt_9 : decode cX10_degreeAt 9 = .ok (.iload_n 2, 1) := by decide +kernel
theorem dX10_degreeAt_10 : decode cX10_degreeAt 10 = .ok (.iconst 0, 1) := by decide +kernel
theorem dX10_degreeAt_11 : decode cX10_degreeAt 11 = .ok (.iconst 1, 1) := by decide +kernel
theorem dX10_degreeAt_12 : decode cX10_degreeAt 12 = .ok (.invokestatic 80, 3) := by decide +kernel
theorem dX10_degreeAt_15 : decode cX10_degreeAt 15 = .ok (.ifCond .eq 21, 3) := by decide +kernel
theorem dX10_degreeAt_18 : decode cX10_degreeAt 18 = .ok (.aload_n 0, 1) := by decide +kernel
theorem dX10_degreeAt_19 : decode cX10_degreeAt 19 = .ok (.iload_n 3, 1) := by decide +kernel
theorem dX10_degreeAt_20 : decode cX10_degreeAt 20 = .ok (.invokevirtual 142, 3) := by decide +kernel
theorem dX10_degreeAt_23 : decode cX10_degreeAt 23 = .ok (.ifCond .eq 13, 3) := by decide +kernel
theorem dX10_degreeAt_26 : decode cX10_degreeAt 26 = .ok (.aload_n 0, 1) := by decide +kernel
theorem dX10_degreeAt_27 : decode cX10_degreeAt 27 = .ok (.iload_n 1, 1) := by decide +kernel
theorem dX10_degreeAt_28 : decode cX10_degreeAt 28 = .ok (.iload_n 2, 1) := by decide +kernel
theorem dX10_degreeAt_29 : decode cX10_degreeAt 29 = .ok (.iload_n 3, 1) := by decide +kernel
theorem dX10_degreeAt_30 : decode cX10_degreeAt 30 = .ok (.invokevirtual 166, 3) := by decide +kernel
theorem dX10_degreeAt_33 : decode cX10_degreeAt 33 = .ok (.goto 4, 3) := by decide +kernel
theorem dX10_degreeAt_36 : decode cX10_degreeAt 36 = .ok (.iconst (-1), 1) := by decide +kernel
theorem dX10_degreeAt_37 : decode cX10_degreeAt 37 = .ok (.ireturn, 1) := by decide +kernel
theorem dX10_degreeDrops_0 : decode cX10_degreeDrops 0 = .ok (.iconst 0, 1) := by decide +kernel
theorem dX10_degreeDrops_1 : decode cX10_degreeDrops 1 = .ok (.istore_n 1, 1) := by decide +kernel
theorem dX10_degreeDrops_2 : decode cX10_degreeDrops 2 = .ok (.iconst 0, 1) := by decide +kernel
theorem dX10_degreeDrops_3 : decode cX10_degreeDrops 3 = .ok (.istore_n 2, 1) := by decide +kernel
theorem dX10_degreeDrops_4 : decode cX10_degreeDrops 4 = .ok (.iload_n 2, 1) := by decide +kernel
theorem dX10_degreeDrops_5 : decode cX10_degreeDrops 5 = .ok (.aload_n 0, 1) := by decide +kernel
theorem dX10_degreeDrops_6 : decode cX10_degreeDrops 6 = .ok (.invokevirtual 76, 3) := by decide +kernel
theorem dX10_degreeDrops_9 : decode cX10_degreeDrops 9 = .ok (.if_icmp .ge 76, 3) := by decide +kernel
theorem dX10_degreeDrops_12 : decode cX10_degreeDrops 12 = .ok (.iconst 0, 1) := by decide +kernel
theorem dX10_degreeDrops_13 : decode cX10_degreeDrops 13 = .ok (.istore_n 3, 1) := by decide +kernel
theorem dX10_degreeDrops_14 : decode cX10_degreeDrops 14 = .ok (.iload_n 3, 1) := by decide +kernel
theorem dX10_degreeDrops_15 : decode cX10_degreeDrops 15 = .ok (.iconst 3, 1) := by decide +kernel
theorem dX10_degreeDrops_16 : decode cX10_degreeDrops 16 = .ok (.if_icmp .ge 63, 3) := by decide +kernel
theorem dX10_degreeDrops_19 : decode cX10_degreeDrops 19 = .ok (.aload_n 0, 1) := by decide +kernel
theorem dX10_degreeDrops_20 : decode cX10_degreeDrops 20 = .ok (.iload_n 3, 1) := by decide +kernel
theorem dX10_degreeDrops_21 : decode cX10_degreeDrops 21 = .ok (.iconst 0, 1) := by decide +kernel
theorem dX10_degreeDrops_22 : decode cX10_degreeDrops 22 = .ok (.iload_n 2, 1) := by decide +kernel
theorem dX10_degreeDrops_23 : decode cX10_degreeDrops 23 = .ok (.invokevirtual 166, 3) := by decide +kernel
theorem dX10_degreeDrops_26 : decode cX10_degreeDrops 26 = .ok (.aload_n 0, 1) := by decide +kernel
theorem dX10_degreeDrops_27 : decode cX10_degreeDrops 27 = .ok (.iload_n 3, 1) := by decide +kernel
theorem dX10_degreeDrops_28 : decode cX10_degreeDrops 28 = .ok (.iconst 0, 1) := by decide +kernel
theorem dX10_degreeDrops_29 : decode cX10_degreeDrops 29 = .ok (.invokevirtual 160, 3) := by decide +kernel
theorem dX10_degreeDrops_32 : decode cX10_degreeDrops 32 = .ok (.if_icmp .lt 19, 3) := by decide +kernel
theorem dX10_degreeDrops_35 : decode cX10_degreeDrops 35 = .ok (.aload_n 0, 1) := by decide +kernel
theorem dX10_degreeDrops_36 : decode cX10_degreeDrops 36 = .ok (.iload_n 3, 1) := by decide +kernel
theorem dX10_degreeDrops_37 : decode cX10_degreeDrops 37 = .ok (.iconst 1, 1) := by decide +kernel
theorem dX10_degreeDrops_38 : decode cX10_degreeDrops 38 = .ok (.iload_n 2, 1) := by decide +kernel
theorem dX10_degreeDrops_39 : decode cX10_degreeDrops 39 = .ok (.invokevirtual 166, 3) := by decide +kernel
theorem dX10_degreeDrops_42 : decode cX10_degreeDrops 42 = .ok (.aload_n 0, 1) := by decide +kernel
theorem dX10_degreeDrops_43 : decode cX10_degreeDrops 43 = .ok (.iload_n 3, 1) := by decide +kernel
theorem dX10_degreeDrops_44 : decode cX10_degreeDrops 44 = .ok (.iconst 1, 1) := by decide +kernel
theorem dX10_degreeDrops_45 : decode cX10_degreeDrops 45 = .ok (.invokevirtual 160, 3) := by decide +kernel
theorem dX10_degreeDrops_48 : decode cX10_degreeDrops 48 = .ok (.if_icmp .ge 7, 3) := by decide +kernel
theorem dX10_degreeDrops_51 : decode cX10_degreeDrops 51 = .ok (.iconst 1, 1) := by decide +kernel
theorem dX10_degreeDrops_52 : decode cX10_degreeDrops 52 = .ok (.goto 4, 3) := by decide +kernel
theorem dX10_degreeDrops_55 : decode cX10_degreeDrops 55 = .ok (.iconst 0, 1) := by decide +kernel
theorem dX10_degreeDrops_56 : decode cX10_degreeDrops 56 = .ok (.istore 4, 2) := by decide +kernel
theorem dX10_degreeDrops_58 : decode cX10_degreeDrops 58 = .ok (.iload_n 1, 1) := by decide +kernel
theorem dX10_degreeDrops_59 : decode cX10_degreeDrops 59 = .ok (.iload 4, 2) := by decide +kernel
theorem dX10_degreeDrops_61 : decode cX10_degreeDrops 61 = .ok (.ifCond .eq 9, 3) := by decide +kernel
theorem dX10_degreeDrops_64 : decode cX10_degreeDrops 64 = .ok (.iconst 1, 1) := by decide +kernel
theorem dX10_degreeDrops_65 : decode cX10_degreeDrops 65 = .ok (.iload_n 2, 1) := by decide +kernel
theorem dX10_degreeDrops_66 : decode cX10_degreeDrops 66 = .ok (.ishl, 1) := by decide +kernel
theorem dX10_degreeDrops_67 : decode cX10_degreeDrops 67 = .ok (.goto 4, 3) := by decide +kernel
theorem dX10_degreeDrops_70 : decode cX10_degreeDrops 70 = .ok (.iconst 0, 1) := by decide +kernel
theorem dX10_degreeDrops_71 : decode cX10_degreeDrops 71 = .ok (.ior, 1) := by decide +kernel
theorem dX10_degreeDrops_72 : decode cX10_degreeDrops 72 = .ok (.istore_n 1, 1) := by decide +kernel
theorem dX10_degreeDrops_73 : decode cX10_degreeDrops 73 = .ok (.iinc 3 1, 3) := by decide +kernel
theorem dX10_degreeDrops_76 : decode cX10_degreeDrops 76 = .ok (.goto (-62), 3) := by decide +kernel
theorem dX10_degreeDrops_79 : decode cX10_degreeDrops 79 = .ok (.iinc 2 1, 3) := by decide +kernel
theorem dX10_degreeDrops_82 : decode cX10_degreeDrops 82 = .ok (.goto (-78), 3) := by decide +kernel
theorem dX10_degreeDrops_85 : decode cX10_degreeDrops 85 = .ok (.iload_n 1, 1) := by decide +kernel
theorem dX10_degreeDrops_86 : decode cX10_degreeDrops 86 = .ok (.ireturn, 1) := by decide +kernel
theorem dX10_greatest_0 : decode cX10_greatest 0 = .ok (.iconst 0, 1) := by decide +kernel
theorem dX10_greatest_1 : decode cX10_greatest 1 = .ok (.istore_n 2, 1) := by decide +kernel
theorem dX10_greatest_2 : decode cX10_greatest 2 = .ok (.iconst 0, 1) := by decide +kernel
theorem dX10_greatest_3 : decode cX10_greatest 3 = .ok (.istore_n 3, 1) := by decide +kernel
theorem dX10_greatest_4 : decode cX10_greatest 4 = .ok (.iload_n 3, 1) := by decide +kernel
theorem dX10_greatest_5 : decode cX10_greatest 5 = .ok (.iconst 3, 1) := by decide +kernel
theorem dX10_greatest_6 : decode cX10_greatest 6 = .ok (.if_icmp .ge 30, 3) := by decide +kernel
theorem dX10_greatest_9 : decode cX10_greatest 9 = .ok (.aload_n 0, 1) := by decide +kernel
theorem dX10_greatest_10 : decode cX10_greatest 10 = .ok (.iload_n 3, 1) := by decide +kernel
theorem dX10_greatest_11 : decode cX10_greatest 11 = .ok (.iload_n 1, 1) := by decide +kernel
theorem dX10_greatest_12 : decode cX10_greatest 12 = .ok (.invokevirtual 160, 3) := by decide +kernel
theorem dX10_greatest_15 : decode cX10_greatest 15 = .ok (.iload_n 2, 1) := by decide +kernel
theorem dX10_greatest_16 : decode cX10_greatest 16 = .ok (.if_icmp .le 12, 3) := by decide +kernel
theorem dX10_greatest_19 : decode cX10_greatest 19 = .ok (.aload_n 0, 1) := by decide +kernel
theorem dX10_greatest_20 : decode cX10_greatest 20 = .ok (.iload_n 3, 1) := by decide +kernel
theorem dX10_greatest_21 : decode cX10_greatest 21 = .ok (.iload_n 1, 1) := by decide +kernel
theorem dX10_greatest_22 : decode cX10_greatest 22 = .ok (.invokevirtual 160, 3) := by decide +kernel
theorem dX10_greatest_25 : decode cX10_greatest 25 = .ok (.goto 4, 3) := by decide +kernel
theorem dX10_greatest_28 : decode cX10_greatest 28 = .ok (.iload_n 2, 1) := by decide +kernel
theorem dX10_greatest_29 : decode cX10_greatest 29 = .ok (.istore_n 2, 1) := by decide +kernel
theorem dX10_greatest_30 : decode cX10_greatest 30 = .ok (.iinc 3 1, 3) := by decide +kernel
theorem dX10_greatest_33 : decode cX10_greatest 33 = .ok (.goto (-29), 3) := by decide +kernel
theorem dX10_greatest_36 : decode cX10_greatest 36 = .ok (.iload_n 2, 1) := by decide +kernel
theorem dX10_greatest_37 : decode cX10_greatest 37 = .ok (.ireturn, 1) := by decide +kernel
theorem dX10_isMatrix_0 : decode cX10_isMatrix 0 = .ok (.aload_n 0, 1) := by decide +kernel
theorem dX10_isMatrix_1 : decode cX10_isMatrix 1 = .ok (.iconst 0, 1) := by decide +kernel
theorem dX10_isMatrix_2 : decode cX10_isMatrix 2 = .ok (.invokevirtual 170, 3) := by decide +kernel
theorem dX10_isMatrix_5 : decode cX10_isMatrix 5 = .ok (.ifCond .le 15, 3) := by decide +kernel
theorem dX10_isMatrix_8 : decode cX10_isMatrix 8 = .ok (.aload_n 0, 1) := by decide +kernel
theorem dX10_isMatrix_9 : decode cX10_isMatrix 9 = .ok (.iconst 1, 1) := by decide +kernel
theorem dX10_isMatrix_10 : decode cX10_isMatrix 10 = .ok (.invokevirtual 170, 3) := by decide +kernel
theorem dX10_isMatrix_13 : decode cX10_isMatrix 13 = .ok (.ifCond .le 7, 3) := by decide +kernel
theorem dX10_isMatrix_16 : decode cX10_isMatrix 16 = .ok (.iconst 1, 1) := by decide +kernel
theorem dX10_isMatrix_17 : decode cX10_isMatrix 17 = .ok (.goto 4, 3) := by decide +kernel
theorem dX10_isMatrix_20 : decode cX10_isMatrix 20 = .ok (.iconst 0, 1) := by decide +kernel
theorem dX10_isMatrix_21 : decode cX10_isMatrix 21 = .ok (.ireturn, 1) := by decide +kernel
theorem dX10_differsInX_0 : decode cX10_differsInX 0 = .ok (.iconst 0, 1) := by decide +kernel
theorem dX10_differsInX_1 : decode cX10_differsInX 1 = .ok (.istore_n 2, 1) := by decide +kernel
theorem dX10_differsInX_2 : decode cX10_differsInX 2 = .ok (.iload_n 2, 1) := by decide +kernel
theorem dX10_differsInX_3 : decode cX10_differsInX 3 = .ok (.bipush 36, 2) := by decide +kernel
theorem dX10_differsInX_5 : decode cX10_differsInX 5 = .ok (.if_icmp .ge 21, 3) := by decide +kernel
theorem dX10_differsInX_8 : decode cX10_differsInX 8 = .ok (.aload_n 0, 1) := by decide +kernel
theorem dX10_differsInX_9 : decode cX10_differsInX 9 = .ok (.getfield 22, 3) := by decide +kernel
theorem dX10_differsInX_12 : decode cX10_differsInX 12 = .ok (.bipush 36, 2) := by decide +kernel
theorem dX10_differsInX_14 : decode cX10_differsInX 14 = .ok (.iload_n 1, 1) := by decide +kernel
theorem dX10_differsInX_15 : decode cX10_differsInX 15 = .ok (.imul, 1) := by decide +kernel
theorem dX10_differsInX_16 : decode cX10_differsInX 16 = .ok (.iload_n 2, 1) := by decide +kernel
theorem dX10_differsInX_17 : decode cX10_differsInX 17 = .ok (.iadd, 1) := by decide +kernel
theorem dX10_differsInX_18 : decode cX10_differsInX 18 = .ok (.iconst 0, 1) := by decide +kernel
theorem dX10_differsInX_19 : decode cX10_differsInX 19 = .ok (.iastore, 1) := by decide +kernel
theorem dX10_differsInX_20 : decode cX10_differsInX 20 = .ok (.iinc 2 1, 3) := by decide +kernel
theorem dX10_differsInX_23 : decode cX10_differsInX 23 = .ok (.goto (-21), 3) := by decide +kernel
theorem dX10_differsInX_26 : decode cX10_differsInX 26 = .ok (.iconst 1, 1) := by decide +kernel
theorem dX10_differsInX_27 : decode cX10_differsInX 27 = .ok (.istore_n 2, 1) := by decide +kernel
theorem dX10_differsInX_28 : decode cX10_differsInX 28 = .ok (.iload_n 2, 1) := by decide +kernel
theorem dX10_differsInX_29 : decode cX10_differsInX 29 = .ok (.iconst 3, 1) := by decide +kernel
theorem dX10_differsInX_30 : decode cX10_differsInX 30 = .ok (.if_icmp .ge 93, 3) := by decide +kernel
theorem dX10_differsInX_33 : decode cX10_differsInX 33 = .ok (.iconst 0, 1) := by decide +kernel
theorem dX10_differsInX_34 : decode cX10_differsInX 34 = .ok (.istore_n 3, 1) := by decide +kernel
theorem dX10_differsInX_35 : decode cX10_differsInX 35 = .ok (.iload_n 3, 1) := by decide +kernel
theorem dX10_differsInX_36 : decode cX10_differsInX 36 = .ok (.iconst 3, 1) := by decide +kernel
theorem dX10_differsInX_37 : decode cX10_differsInX 37 = .ok (.if_icmp .ge 80, 3) := by decide +kernel
theorem dX10_differsInX_40 : decode cX10_differsInX 40 = .ok (.iconst 0, 1) := by decide +kernel
theorem dX10_differsInX_41 : decode cX10_differsInX 41 = .ok (.istore 4, 2) := by decide +kernel
theorem dX10_differsInX_43 : decode cX10_differsInX 43 = .ok (.iload 4, 2) := by decide +kernel
theorem dX10_differsInX_45 : decode cX10_differsInX 45 = .ok (.iconst 3, 1) := by decide +kernel
theorem dX10_differsInX_46 : decode cX10_differsInX 46 = .ok (.if_icmp .ge 65, 3) := by decide +kernel
theorem dX10_differsInX_49 : decode cX10_differsInX 49 = .ok (.iconst 0, 1) := by decide +kernel
theorem dX10_differsInX_50 : decode cX10_differsInX 50 = .ok (.istore 5, 2) := by decide +kernel
theorem dX10_differsInX_52 : decode cX10_differsInX 52 = .ok (.iload 5, 2) := by decide +kernel
theorem dX10_differsInX_54 : decode cX10_differsInX 54 = .ok (.iload_n 2, 1) := by decide +kernel
theorem dX10_differsInX_55 : decode cX10_differsInX 55 = .ok (.if_icmp .ge 50, 3) := by decide +kernel
theorem dX10_differsInX_58 : decode cX10_differsInX 58 = .ok (.aload_n 0, 1) := by decide +kernel
theorem dX10_differsInX_59 : decode cX10_differsInX 59 = .ok (.getfield 22, 3) := by decide +kernel
theorem dX10_differsInX_62 : decode cX10_differsInX 62 = .ok (.bipush 36, 2) := by decide +kernel
theorem dX10_differsInX_64 : decode cX10_differsInX 64 = .ok (.iload_n 1, 1) := by decide +kernel
theorem dX10_differsInX_65 : decode cX10_differsInX 65 = .ok (.imul, 1) := by decide +kernel
theorem dX10_differsInX_66 : decode cX10_differsInX 66 = .ok (.bipush 18, 2) := by decide +kernel
theorem dX10_differsInX_68 : decode cX10_differsInX 68 = .ok (.iload 5, 2) := by decide +kernel
theorem dX10_differsInX_70 : decode cX10_differsInX 70 = .ok (.imul, 1) := by decide +kernel
theorem dX10_differsInX_71 : decode cX10_differsInX 71 = .ok (.iadd, 1) := by decide +kernel
theorem dX10_differsInX_72 : decode cX10_differsInX 72 = .ok (.bipush 6, 2) := by decide +kernel
theorem dX10_differsInX_74 : decode cX10_differsInX 74 = .ok (.iload_n 3, 1) := by decide +kernel
theorem dX10_differsInX_75 : decode cX10_differsInX 75 = .ok (.imul, 1) := by decide +kernel
theorem dX10_differsInX_76 : decode cX10_differsInX 76 = .ok (.iadd, 1) := by decide +kernel
theorem dX10_differsInX_77 : decode cX10_differsInX 77 = .ok (.iconst 3, 1) := by decide +kernel
theorem dX10_differsInX_78 : decode cX10_differsInX 78 = .ok (.iload_n 2, 1) := by decide +kernel
theorem dX10_differsInX_79 : decode cX10_differsInX 79 = .ok (.iconst 1, 1) := by decide +kernel
theorem dX10_differsInX_80 : decode cX10_differsInX 80 = .ok (.isub, 1) := by decide +kernel
theorem dX10_differsInX_81 : decode cX10_differsInX 81 = .ok (.iload 5, 2) := by decide +kernel
theorem dX10_differsInX_83 : decode cX10_differsInX 83 = .ok (.isub, 1) := by decide +kernel
theorem dX10_differsInX_84 : decode cX10_differsInX 84 = .ok (.imul, 1) := by decide +kernel
theorem dX10_differsInX_85 : decode cX10_differsInX 85 = .ok (.iadd, 1) := by decide +kernel
theorem dX10_differsInX_86 : decode cX10_differsInX 86 = .ok (.iload 4, 2) := by decide +kernel
theorem dX10_differsInX_88 : decode cX10_differsInX 88 = .ok (.iadd, 1) := by decide +kernel
theorem dX10_differsInX_89 : decode cX10_differsInX 89 = .ok (.aload_n 0, 1) := by decide +kernel
theorem dX10_differsInX_90 : decode cX10_differsInX 90 = .ok (.iload_n 1, 1) := by decide +kernel
theorem dX10_differsInX_91 : decode cX10_differsInX 91 = .ok (.iload_n 2, 1) := by decide +kernel
theorem dX10_differsInX_92 : decode cX10_differsInX 92 = .ok (.iload_n 3, 1) := by decide +kernel
theorem dX10_differsInX_93 : decode cX10_differsInX 93 = .ok (.iload 4, 2) := by decide +kernel
theorem dX10_differsInX_95 : decode cX10_differsInX 95 = .ok (.invokevirtual 146, 3) := by decide +kernel
theorem dX10_differsInX_98 : decode cX10_differsInX 98 = .ok (.iastore, 1) := by decide +kernel
theorem dX10_differsInX_99 : decode cX10_differsInX 99 = .ok (.iinc 5 1, 3) := by decide +kernel
theorem dX10_differsInX_102 : decode cX10_differsInX 102 = .ok (.goto (-50), 3) := by decide +kernel
theorem dX10_differsInX_105 : decode cX10_differsInX 105 = .ok (.iinc 4 1, 3) := by decide +kernel
theorem dX10_differsInX_108 : decode cX10_differsInX 108 = .ok (.goto (-65), 3) := by decide +kernel
theorem dX10_differsInX_111 : decode cX10_differsInX 111 = .ok (.iinc 3 1, 3) := by decide +kernel
theorem dX10_differsInX_114 : decode cX10_differsInX 114 = .ok (.goto (-79), 3) := by decide +kernel
theorem dX10_differsInX_117 : decode cX10_differsInX 117 = .ok (.iinc 2 1, 3) := by decide +kernel
theorem dX10_differsInX_120 : decode cX10_differsInX 120 = .ok (.goto (-92), 3) := by decide +kernel
theorem dX10_differsInX_123 : decode cX10_differsInX 123 = .ok (.return_, 1) := by decide +kernel
theorem dX10_differsInY_0 : decode cX10_differsInY 0 = .ok (.iconst 0, 1) := by decide +kernel
theorem dX10_differsInY_1 : decode cX10_differsInY 1 = .ok (.istore_n 2, 1) := by decide +kernel
theorem dX10_differsInY_2 : decode cX10_differsInY 2 = .ok (.iload_n 2, 1) := by decide +kernel
theorem dX10_differsInY_3 : decode cX10_differsInY 3 = .ok (.bipush 36, 2) := by decide +kernel
theorem dX10_differsInY_5 : decode cX10_differsInY 5 = .ok (.if_icmp .ge 21, 3) := by decide +kernel
theorem dX10_differsInY_8 : decode cX10_differsInY 8 = .ok (.aload_n 0, 1) := by decide +kernel
theorem dX10_differsInY_9 : decode cX10_differsInY 9 = .ok (.getfield 25, 3) := by decide +kernel
theorem dX10_differsInY_12 : decode cX10_differsInY 12 = .ok (.bipush 36, 2) := by decide +kernel
theorem dX10_differsInY_14 : decode cX10_differsInY 14 = .ok (.iload_n 1, 1) := by decide +kernel
theorem dX10_differsInY_15 : decode cX10_differsInY 15 = .ok (.imul, 1) := by decide +kernel
theorem dX10_differsInY_16 : decode cX10_differsInY 16 = .ok (.iload_n 2, 1) := by decide +kernel
theorem dX10_differsInY_17 : decode cX10_differsInY 17 = .ok (.iadd, 1) := by decide +kernel
theorem dX10_differsInY_18 : decode cX10_differsInY 18 = .ok (.iconst 0, 1) := by decide +kernel
theorem dX10_differsInY_19 : decode cX10_differsInY 19 = .ok (.iastore, 1) := by decide +kernel
theorem dX10_differsInY_20 : decode cX10_differsInY 20 = .ok (.iinc 2 1, 3) := by decide +kernel
theorem dX10_differsInY_23 : decode cX10_differsInY 23 = .ok (.goto (-21), 3) := by decide +kernel
theorem dX10_differsInY_26 : decode cX10_differsInY 26 = .ok (.iconst 0, 1) := by decide +kernel
theorem dX10_differsInY_27 : decode cX10_differsInY 27 = .ok (.istore_n 2, 1) := by decide +kernel
theorem dX10_differsInY_28 : decode cX10_differsInY 28 = .ok (.iload_n 2, 1) := by decide +kernel
theorem dX10_differsInY_29 : decode cX10_differsInY 29 = .ok (.iconst 3, 1) := by decide +kernel
theorem dX10_differsInY_30 : decode cX10_differsInY 30 = .ok (.if_icmp .ge 93, 3) := by decide +kernel
theorem dX10_differsInY_33 : decode cX10_differsInY 33 = .ok (.iconst 1, 1) := by decide +kernel
theorem dX10_differsInY_34 : decode cX10_differsInY 34 = .ok (.istore_n 3, 1) := by decide +kernel
theorem dX10_differsInY_35 : decode cX10_differsInY 35 = .ok (.iload_n 3, 1) := by decide +kernel
theorem dX10_differsInY_36 : decode cX10_differsInY 36 = .ok (.iconst 3, 1) := by decide +kernel
theorem dX10_differsInY_37 : decode cX10_differsInY 37 = .ok (.if_icmp .ge 80, 3) := by decide +kernel
theorem dX10_differsInY_40 : decode cX10_differsInY 40 = .ok (.iconst 0, 1) := by decide +kernel
theorem dX10_differsInY_41 : decode cX10_differsInY 41 = .ok (.istore 4, 2) := by decide +kernel
theorem dX10_differsInY_43 : decode cX10_differsInY 43 = .ok (.iload 4, 2) := by decide +kernel
theorem dX10_differsInY_45 : decode cX10_differsInY 45 = .ok (.iconst 3, 1) := by decide +kernel
theorem dX10_differsInY_46 : decode cX10_differsInY 46 = .ok (.if_icmp .ge 65, 3) := by decide +kernel
theorem dX10_differsInY_49 : decode cX10_differsInY 49 = .ok (.iconst 0, 1) := by decide +kernel
theorem dX10_differsInY_50 : decode cX10_differsInY 50 = .ok (.istore 5, 2) := by decide +kernel
theorem dX10_differsInY_52 : decode cX10_differsInY 52 = .ok (.iload 5, 2) := by decide +kernel
theorem dX10_differsInY_54 : decode cX10_differsInY 54 = .ok (.iload_n 3, 1) := by decide +kernel
theorem dX10_differsInY_55 : decode cX10_differsInY 55 = .ok (.if_icmp .ge 50, 3) := by decide +kernel
theorem dX10_differsInY_58 : decode cX10_differsInY 58 = .ok (.aload_n 0, 1) := by decide +kernel
theorem dX10_differsInY_59 : decode cX10_differsInY 59 = .ok (.getfield 25, 3) := by decide +kernel
theorem dX10_differsInY_62 : decode cX10_differsInY 62 = .ok (.bipush 36, 2) := by decide +kernel
theorem dX10_differsInY_64 : decode cX10_differsInY 64 = .ok (.iload_n 1, 1) := by decide +kernel
theorem dX10_differsInY_65 : decode cX10_differsInY 65 = .ok (.imul, 1) := by decide +kernel
theorem dX10_differsInY_66 : decode cX10_differsInY 66 = .ok (.bipush 18, 2) := by decide +kernel
theorem dX10_differsInY_68 : decode cX10_differsInY 68 = .ok (.iload 5, 2) := by decide +kernel
theorem dX10_differsInY_70 : decode cX10_differsInY 70 = .ok (.imul, 1) := by decide +kernel
theorem dX10_differsInY_71 : decode cX10_differsInY 71 = .ok (.iadd, 1) := by decide +kernel
theorem dX10_differsInY_72 : decode cX10_differsInY 72 = .ok (.bipush 6, 2) := by decide +kernel
theorem dX10_differsInY_74 : decode cX10_differsInY 74 = .ok (.iload_n 2, 1) := by decide +kernel
theorem dX10_differsInY_75 : decode cX10_differsInY 75 = .ok (.imul, 1) := by decide +kernel
theorem dX10_differsInY_76 : decode cX10_differsInY 76 = .ok (.iadd, 1) := by decide +kernel
theorem dX10_differsInY_77 : decode cX10_differsInY 77 = .ok (.iconst 3, 1) := by decide +kernel
theorem dX10_differsInY_78 : decode cX10_differsInY 78 = .ok (.iload_n 3, 1) := by decide +kernel
theorem dX10_differsInY_79 : decode cX10_differsInY 79 = .ok (.iconst 1, 1) := by decide +kernel
theorem dX10_differsInY_80 : decode cX10_differsInY 80 = .ok (.isub, 1) := by decide +kernel
theorem dX10_differsInY_81 : decode cX10_differsInY 81 = .ok (.iload 5, 2) := by decide +kernel
theorem dX10_differsInY_83 : decode cX10_differsInY 83 = .ok (.isub, 1) := by decide +kernel
theorem dX10_differsInY_84 : decode cX10_differsInY 84 = .ok (.imul, 1) := by decide +kernel
theorem dX10_differsInY_85 : decode cX10_differsInY 85 = .ok (.iadd, 1) := by decide +kernel
theorem dX10_differsInY_86 : decode cX10_differsInY 86 = .ok (.iload 4, 2) := by decide +kernel
theorem dX10_differsInY_88 : decode cX10_differsInY 88 = .ok (.iadd, 1) := by decide +kernel
theorem dX10_differsInY_89 : decode cX10_differsInY 89 = .ok (.aload_n 0, 1) := by decide +kernel
theorem dX10_differsInY_90 : decode cX10_differsInY 90 = .ok (.iload_n 1, 1) := by decide +kernel
theorem dX10_differsInY_91 : decode cX10_differsInY 91 = .ok (.iload_n 2, 1) := by decide +kernel
theorem dX10_differsInY_92 : decode cX10_differsInY 92 = .ok (.iload_n 3, 1) := by decide +kernel
theorem dX10_differsInY_93 : decode cX10_differsInY 93 = .ok (.iload 4, 2) := by decide +kernel
theorem dX10_differsInY_95 : decode cX10_differsInY 95 = .ok (.invokevirtual 146, 3) := by decide +kernel
theorem dX10_differsInY_98 : decode cX10_differsInY 98 = .ok (.iastore, 1) := by decide +kernel
theorem dX10_differsInY_99 : decode cX10_differsInY 99 = .ok (.iinc 5 1, 3) := by decide +kernel
theorem dX10_differsInY_102 : decode cX10_differsInY 102 = .ok (.goto (-50), 3) := by decide +kernel
theorem dX10_differsInY_105 : decode cX10_differsInY 105 = .ok (.iinc 4 1, 3) := by decide +kernel
theorem dX10_differsInY_108 : decode cX10_differsInY 108 = .ok (.goto (-65), 3) := by decide +kernel
theorem dX10_differsInY_111 : decode cX10_differsInY 111 = .ok (.iinc 3 1, 3) := by decide +kernel
theorem dX10_differsInY_114 : decode cX10_differsInY 114 = .ok (.goto (-79), 3) := by decide +kernel
theorem dX10_differsInY_117 : decode cX10_differsInY 117 = .ok (.iinc 2 1, 3) := by decide +kernel
theorem dX10_differsInY_120 : decode cX10_differsInY 120 = .ok (.goto (-92), 3) := by decide +kernel
theorem dX10_differsInY_123 : decode cX10_differsInY 123 = .ok (.return_, 1) := by decide +kernel
theorem dX10_multiplies_0 : decode cX10_multiplies 0 = .ok (.iconst 0, 1) := by decide +kernel
theorem dX10_multiplies_1 : decode cX10_multiplies 1 = .ok (.istore 4, 2) := by decide +kernel
theorem dX10_multiplies_3 : decode cX10_multiplies 3 = .ok (.iload 4, 2) := by decide +kernel
theorem dX10_multiplies_5 : decode cX10_multiplies 5 = .ok (.bipush 36, 2) := by decide +kernel
theorem dX10_multiplies_7 : decode cX10_multiplies 7 = .ok (.if_icmp .ge 170, 3) := by decide +kernel
theorem dX10_multiplies_10 : decode cX10_multiplies 10 = .ok (.aload_n 0, 1) := by decide +kernel
theorem dX10_multiplies_11 : decode cX10_multiplies 11 = .ok (.getfield 22, 3) := by decide +kernel
theorem dX10_multiplies_14 : decode cX10_multiplies 14 = .ok (.bipush 36, 2) := by decide +kernel
theorem dX10_multiplies_16 : decode cX10_multiplies 16 = .ok (.iload_n 1, 1) := by decide +kernel
theorem dX10_multiplies_17 : decode cX10_multiplies 17 = .ok (.imul, 1) := by decide +kernel
theorem dX10_multiplies_18 : decode cX10_multiplies 18 = .ok (.iload 4, 2) := by decide +kernel
theorem dX10_multiplies_20 : decode cX10_multiplies 20 = .ok (.iadd, 1) := by decide +kernel
theorem dX10_multiplies_21 : decode cX10_multiplies 21 = .ok (.iaload, 1) := by decide +kernel
theorem dX10_multiplies_22 : decode cX10_multiplies 22 = .ok (.istore 5, 2) := by decide +kernel
theorem dX10_multiplies_24 : decode cX10_multiplies 24 = .ok (.iconst 0, 1) := by decide +kernel
theorem dX10_multiplies_25 : decode cX10_multiplies 25 = .ok (.istore 6, 2) := by decide +kernel
theorem dX10_multiplies_27 : decode cX10_multiplies 27 = .ok (.iload 6, 2) := by decide +kernel
theorem dX10_multiplies_29 : decode cX10_multiplies 29 = .ok (.bipush 36, 2) := by decide +kernel
theorem dX10_multiplies_31 : decode cX10_multiplies 31 = .ok (.if_icmp .ge 140, 3) := by decide +kernel
theorem dX10_multiplies_34 : decode cX10_multiplies 34 = .ok (.iload 5, 2) := by decide +kernel
theorem dX10_multiplies_36 : decode cX10_multiplies 36 = .ok (.ifCond .eq 135, 3) := by decide +kernel
theorem dX10_multiplies_39 : decode cX10_multiplies 39 = .ok (.aload_n 0, 1) := by decide +kernel
theorem dX10_multiplies_40 : decode cX10_multiplies 40 = .ok (.getfield 25, 3) := by decide +kernel
theorem dX10_multiplies_43 : decode cX10_multiplies 43 = .ok (.bipush 36, 2) := by decide +kernel
theorem dX10_multiplies_45 : decode cX10_multiplies 45 = .ok (.iload_n 2, 1) := by decide +kernel
theorem dX10_multiplies_46 : decode cX10_multiplies 46 = .ok (.imul, 1) := by decide +kernel
theorem dX10_multiplies_47 : decode cX10_multiplies 47 = .ok (.iload 6, 2) := by decide +kernel
theorem dX10_multiplies_49 : decode cX10_multiplies 49 = .ok (.iadd, 1) := by decide +kernel
theorem dX10_multiplies_50 : decode cX10_multiplies 50 = .ok (.iaload, 1) := by decide +kernel
theorem dX10_multiplies_51 : decode cX10_multiplies 51 = .ok (.istore 7, 2) := by decide +kernel
theorem dX10_multiplies_53 : decode cX10_multiplies 53 = .ok (.iload 7, 2) := by decide +kernel
theorem dX10_multiplies_55 : decode cX10_multiplies 55 = .ok (.ifCond .eq 110, 3) := by decide +kernel
theorem dX10_multiplies_58 : decode cX10_multiplies 58 = .ok (.iload 4, 2) := by decide +kernel
theorem dX10_multiplies_60 : decode cX10_multiplies 60 = .ok (.bipush 18, 2) := by decide +kernel
theorem dX10_multiplies_62 : decode cX10_multiplies 62 = .ok (.idiv, 1) := by decide +kernel
theorem dX10_multiplies_63 : decode cX10_multiplies 63 = .ok (.istore 8, 2) := by decide +kernel
theorem dX10_multiplies_65 : decode cX10_multiplies 65 = .ok (.iload 4, 2) := by decide +kernel
theorem dX10_multiplies_67 : decode cX10_multiplies 67 = .ok (.bipush 18, 2) := by decide +kernel
theorem dX10_multiplies_69 : decode cX10_multiplies 69 = .ok (.irem, 1) := by decide +kernel
theorem dX10_multiplies_70 : decode cX10_multiplies 70 = .ok (.bipush 6, 2) := by decide +kernel
theorem dX10_multiplies_72 : decode cX10_multiplies 72 = .ok (.idiv, 1) := by decide +kernel
theorem dX10_multiplies_73 : decode cX10_multiplies 73 = .ok (.iload 6, 2) := by decide +kernel
theorem dX10_multiplies_75 : decode cX10_multiplies 75 = .ok (.bipush 18, 2) := by decide +kernel
theorem dX10_multiplies_77 : decode cX10_multiplies 77 = .ok (.idiv, 1) := by decide +kernel
theorem dX10_multiplies_78 : decode cX10_multiplies 78 = .ok (.iadd, 1) := by decide +kernel
theorem dX10_multiplies_79 : decode cX10_multiplies 79 = .ok (.istore 9, 2) := by decide +kernel
theorem dX10_multiplies_81 : decode cX10_multiplies 81 = .ok (.iload 4, 2) := by decide +kernel
theorem dX10_multiplies_83 : decode cX10_multiplies 83 = .ok (.bipush 6, 2) := by decide +kernel
theorem dX10_multiplies_85 : decode cX10_multiplies 85 = .ok (.irem, 1) := by decide +kernel
theorem dX10_multiplies_86 : decode cX10_multiplies 86 = .ok (.iconst 3, 1) := by decide +kernel
theorem dX10_multiplies_87 : decode cX10_multiplies 87 = .ok (.idiv, 1) := by decide +kernel
theorem dX10_multiplies_88 : decode cX10_multiplies 88 = .ok (.iload 6, 2) := by decide +kernel
theorem dX10_multiplies_90 : decode cX10_multiplies 90 = .ok (.bipush 18, 2) := by decide +kernel
theorem dX10_multiplies_92 : decode cX10_multiplies 92 = .ok (.irem, 1) := by decide +kernel
theorem dX10_multiplies_93 : decode cX10_multiplies 93 = .ok (.bipush 6, 2) := by decide +kernel
theorem dX10_multiplies_95 : decode cX10_multiplies 95 = .ok (.idiv, 1) := by decide +kernel
theorem dX10_multiplies_96 : decode cX10_multiplies 96 = .ok (.iadd, 1) := by decide +kernel
theorem dX10_multiplies_97 : decode cX10_multiplies 97 = .ok (.istore 10, 2) := by decide +kernel
theorem dX10_multiplies_99 : decode cX10_multiplies 99 = .ok (.iload 6, 2) := by decide +kernel
theorem dX10_multiplies_101 : decode cX10_multiplies 101 = .ok (.bipush 6, 2) := by decide +kernel
theorem dX10_multiplies_103 : decode cX10_multiplies 103 = .ok (.irem, 1) := by decide +kernel
theorem dX10_multiplies_104 : decode cX10_multiplies 104 = .ok (.iconst 3, 1) := by decide +kernel
theorem dX10_multiplies_105 : decode cX10_multiplies 105 = .ok (.idiv, 1) := by decide +kernel
theorem dX10_multiplies_106 : decode cX10_multiplies 106 = .ok (.istore 11, 2) := by decide +kernel
theorem dX10_multiplies_108 : decode cX10_multiplies 108 = .ok (.iconst 4, 1) := by decide +kernel
theorem dX10_multiplies_109 : decode cX10_multiplies 109 = .ok (.iload 8, 2) := by decide +kernel
theorem dX10_multiplies_111 : decode cX10_multiplies 111 = .ok (.imul, 1) := by decide +kernel
theorem dX10_multiplies_112 : decode cX10_multiplies 112 = .ok (.iload 9, 2) := by decide +kernel
theorem dX10_multiplies_114 : decode cX10_multiplies 114 = .ok (.iadd, 1) := by decide +kernel
theorem dX10_multiplies_115 : decode cX10_multiplies 115 = .ok (.iconst 4, 1) := by decide +kernel
theorem dX10_multiplies_116 : decode cX10_multiplies 116 = .ok (.imul, 1) := by decide +kernel
theorem dX10_multiplies_117 : decode cX10_multiplies 117 = .ok (.iload 10, 2) := by decide +kernel
theorem dX10_multiplies_119 : decode cX10_multiplies 119 = .ok (.iadd, 1) := by decide +kernel
theorem dX10_multiplies_120 : decode cX10_multiplies 120 = .ok (.iconst 2, 1) := by decide +kernel
theorem dX10_multiplies_121 : decode cX10_multiplies 121 = .ok (.imul, 1) := by decide +kernel
theorem dX10_multiplies_122 : decode cX10_multiplies 122 = .ok (.iload 11, 2) := by decide +kernel
theorem dX10_multiplies_124 : decode cX10_multiplies 124 = .ok (.iadd, 1) := by decide +kernel
theorem dX10_multiplies_125 : decode cX10_multiplies 125 = .ok (.iconst 5, 1) := by decide +kernel
theorem dX10_multiplies_126 : decode cX10_multiplies 126 = .ok (.imul, 1) := by decide +kernel
theorem dX10_multiplies_127 : decode cX10_multiplies 127 = .ok (.iload 4, 2) := by decide +kernel
theorem dX10_multiplies_129 : decode cX10_multiplies 129 = .ok (.iconst 3, 1) := by decide +kernel
theorem dX10_multiplies_130 : decode cX10_multiplies 130 = .ok (.irem, 1) := by decide +kernel
theorem dX10_multiplies_131 : decode cX10_multiplies 131 = .ok (.iadd, 1) := by decide +kernel
theorem dX10_multiplies_132 : decode cX10_multiplies 132 = .ok (.iload 6, 2) := by decide +kernel
theorem dX10_multiplies_134 : decode cX10_multiplies 134 = .ok (.iconst 3, 1) := by decide +kernel
theorem dX10_multiplies_135 : decode cX10_multiplies 135 = .ok (.irem, 1) := by decide +kernel
theorem dX10_multiplies_136 : decode cX10_multiplies 136 = .ok (.iadd, 1) := by decide +kernel
theorem dX10_multiplies_137 : decode cX10_multiplies 137 = .ok (.istore 12, 2) := by decide +kernel
theorem dX10_multiplies_139 : decode cX10_multiplies 139 = .ok (.aload_n 0, 1) := by decide +kernel
theorem dX10_multiplies_140 : decode cX10_multiplies 140 = .ok (.getfield 28, 3) := by decide +kernel
theorem dX10_multiplies_143 : decode cX10_multiplies 143 = .ok (.iload 12, 2) := by decide +kernel
theorem dX10_multiplies_145 : decode cX10_multiplies 145 = .ok (.aload_n 0, 1) := by decide +kernel
theorem dX10_multiplies_146 : decode cX10_multiplies 146 = .ok (.aload_n 0, 1) := by decide +kernel
theorem dX10_multiplies_147 : decode cX10_multiplies 147 = .ok (.getfield 28, 3) := by decide +kernel
theorem dX10_multiplies_150 : decode cX10_multiplies 150 = .ok (.iload 12, 2) := by decide +kernel
theorem dX10_multiplies_152 : decode cX10_multiplies 152 = .ok (.iaload, 1) := by decide +kernel
theorem dX10_multiplies_153 : decode cX10_multiplies 153 = .ok (.iload_n 3, 1) := by decide +kernel
theorem dX10_multiplies_154 : decode cX10_multiplies 154 = .ok (.iload 5, 2) := by decide +kernel
theorem dX10_multiplies_156 : decode cX10_multiplies 156 = .ok (.imul, 1) := by decide +kernel
theorem dX10_multiplies_157 : decode cX10_multiplies 157 = .ok (.iload 7, 2) := by decide +kernel
theorem dX10_multiplies_159 : decode cX10_multiplies 159 = .ok (.imul, 1) := by decide +kernel
theorem dX10_multiplies_160 : decode cX10_multiplies 160 = .ok (.iadd, 1) := by decide +kernel
theorem dX10_multiplies_161 : decode cX10_multiplies 161 = .ok (.invokevirtual 128, 3) := by decide +kernel
theorem dX10_multiplies_164 : decode cX10_multiplies 164 = .ok (.iastore, 1) := by decide +kernel
theorem dX10_multiplies_165 : decode cX10_multiplies 165 = .ok (.iinc 6 1, 3) := by decide +kernel
theorem dX10_multiplies_168 : decode cX10_multiplies 168 = .ok (.goto (-141), 3) := by decide +kernel
theorem dX10_multiplies_171 : decode cX10_multiplies 171 = .ok (.iinc 4 1, 3) := by decide +kernel
theorem dX10_multiplies_174 : decode cX10_multiplies 174 = .ok (.goto (-171), 3) := by decide +kernel
theorem dX10_multiplies_177 : decode cX10_multiplies 177 = .ok (.return_, 1) := by decide +kernel
theorem dX10_addsProduct_0 : decode cX10_addsProduct 0 = .ok (.iconst 0, 1) := by decide +kernel
theorem dX10_addsProduct_1 : decode cX10_addsProduct 1 = .ok (.istore_n 2, 1) := by decide +kernel
theorem dX10_addsProduct_2 : decode cX10_addsProduct 2 = .ok (.iload_n 2, 1) := by decide +kernel
theorem dX10_addsProduct_3 : decode cX10_addsProduct 3 = .ok (.sipush 320, 3) := by decide +kernel
theorem dX10_addsProduct_6 : decode cX10_addsProduct 6 = .ok (.if_icmp .ge 145, 3) := by decide +kernel
theorem dX10_addsProduct_9 : decode cX10_addsProduct 9 = .ok (.aload_n 0, 1) := by decide +kernel
theorem dX10_addsProduct_10 : decode cX10_addsProduct 10 = .ok (.getfield 28, 3) := by decide +kernel
theorem dX10_addsProduct_13 : decode cX10_addsProduct 13 = .ok (.iload_n 2, 1) := by decide +kernel
theorem dX10_addsProduct_14 : decode cX10_addsProduct 14 = .ok (.iaload, 1) := by decide +kernel
theorem dX10_addsProduct_15 : decode cX10_addsProduct 15 = .ok (.istore_n 3, 1) := by decide +kernel
theorem dX10_addsProduct_16 : decode cX10_addsProduct 16 = .ok (.iconst 0, 1) := by decide +kernel
theorem dX10_addsProduct_17 : decode cX10_addsProduct 17 = .ok (.istore 4, 2) := by decide +kernel
theorem dX10_addsProduct_19 : decode cX10_addsProduct 19 = .ok (.iload 4, 2) := by decide +kernel
theorem dX10_addsProduct_21 : decode cX10_addsProduct 21 = .ok (.bipush 27, 2) := by decide +kernel
theorem dX10_addsProduct_23 : decode cX10_addsProduct 23 = .ok (.if_icmp .ge 122, 3) := by decide +kernel
theorem dX10_addsProduct_26 : decode cX10_addsProduct 26 = .ok (.iload_n 3, 1) := by decide +kernel
theorem dX10_addsProduct_27 : decode cX10_addsProduct 27 = .ok (.ifCond .eq 118, 3) := by decide +kernel
theorem dX10_addsProduct_30 : decode cX10_addsProduct 30 = .ok (.aload_n 0, 1) := by decide +kernel
theorem dX10_addsProduct_31 : decode cX10_addsProduct 31 = .ok (.getfield 7, 3) := by decide +kernel
theorem dX10_addsProduct_34 : decode cX10_addsProduct 34 = .ok (.iconst 1, 1) := by decide +kernel
theorem dX10_addsProduct_35 : decode cX10_addsProduct 35 = .ok (.bipush 27, 2) := by decide +kernel
theorem dX10_addsProduct_37 : decode cX10_addsProduct 37 = .ok (.iload_n 1, 1) := by decide +kernel
theorem dX10_addsProduct_38 : decode cX10_addsProduct 38 = .ok (.imul, 1) := by decide +kernel
theorem dX10_addsProduct_39 : decode cX10_addsProduct 39 = .ok (.iadd, 1) := by decide +kernel
theorem dX10_addsProduct_40 : decode cX10_addsProduct 40 = .ok (.iload 4, 2) := by decide +kernel
theorem dX10_addsProduct_42 : decode cX10_addsProduct 42 = .ok (.iadd, 1) := by decide +kernel
theorem dX10_addsProduct_43 : decode cX10_addsProduct 43 = .ok (.iaload, 1) := by decide +kernel
theorem dX10_addsProduct_44 : decode cX10_addsProduct 44 = .ok (.istore 5, 2) := by decide +kernel
theorem dX10_addsProduct_46 : decode cX10_addsProduct 46 = .ok (.iload 5, 2) := by decide +kernel
theorem dX10_addsProduct_48 : decode cX10_addsProduct 48 = .ok (.ifCond .eq 91, 3) := by decide +kernel
theorem dX10_addsProduct_51 : decode cX10_addsProduct 51 = .ok (.iload_n 2, 1) := by decide +kernel
theorem dX10_addsProduct_52 : decode cX10_addsProduct 52 = .ok (.bipush 40, 2) := by decide +kernel
theorem dX10_addsProduct_54 : decode cX10_addsProduct 54 = .ok (.idiv, 1) := by decide +kernel
theorem dX10_addsProduct_55 : decode cX10_addsProduct 55 = .ok (.istore 6, 2) := by decide +kernel
theorem dX10_addsProduct_57 : decode cX10_addsProduct 57 = .ok (.iload_n 2, 1) := by decide +kernel
theorem dX10_addsProduct_58 : decode cX10_addsProduct 58 = .ok (.bipush 40, 2) := by decide +kernel
theorem dX10_addsProduct_60 : decode cX10_addsProduct 60 = .ok (.irem, 1) := by decide +kernel
theorem dX10_addsProduct_61 : decode cX10_addsProduct 61 = .ok (.bipush 10, 2) := by decide +kernel
theorem dX10_addsProduct_63 : decode cX10_addsProduct 63 = .ok (.idiv, 1) := by decide +kernel
theorem dX10_addsProduct_64 : decode cX10_addsProduct 64 = .ok (.iload 4, 2) := by decide +kernel
theorem dX10_addsProduct_66 : decode cX10_addsProduct 66 = .ok (.bipush 9, 2) := by decide +kernel
theorem dX10_addsProduct_68 : decode cX10_addsProduct 68 = .ok (.idiv, 1) := by decide +kernel
theorem dX10_addsProduct_69 : decode cX10_addsProduct 69 = .ok (.iadd, 1) := by decide +kernel
theorem dX10_addsProduct_70 : decode cX10_addsProduct 70 = .ok (.istore 7, 2) := by decide +kernel
theorem dX10_addsProduct_72 : decode cX10_addsProduct 72 = .ok (.iload_n 2, 1) := by decide +kernel
theorem dX10_addsProduct_73 : decode cX10_addsProduct 73 = .ok (.bipush 10, 2) := by decide +kernel
theorem dX10_addsProduct_75 : decode cX10_addsProduct 75 = .ok (.irem, 1) := by decide +kernel
theorem dX10_addsProduct_76 : decode cX10_addsProduct 76 = .ok (.iconst 5, 1) := by decide +kernel
theorem dX10_addsProduct_77 : decode cX10_addsProduct 77 = .ok (.idiv, 1) := by decide +kernel
theorem dX10_addsProduct_78 : decode cX10_addsProduct 78 = .ok (.iload 4, 2) := by decide +kernel
theorem dX10_addsProduct_80 : decode cX10_addsProduct 80 = .ok (.bipush 9, 2) := by decide +kernel
theorem dX10_addsProduct_82 : decode cX10_addsProduct 82 = .ok (.irem, 1) := by decide +kernel
theorem dX10_addsProduct_83 : decode cX10_addsProduct 83 = .ok (.iconst 3, 1) := by decide +kernel
theorem dX10_addsProduct_84 : decode cX10_addsProduct 84 = .ok (.idiv, 1) := by decide +kernel
theorem dX10_addsProduct_85 : decode cX10_addsProduct 85 = .ok (.iadd, 1) := by decide +kernel
theorem dX10_addsProduct_86 : decode cX10_addsProduct 86 = .ok (.istore 8, 2) := by decide +kernel
theorem dX10_addsProduct_88 : decode cX10_addsProduct 88 = .ok (.bipush 6, 2) := by decide +kernel
theorem dX10_addsProduct_90 : decode cX10_addsProduct 90 = .ok (.iload 6, 2) := by decide +kernel
