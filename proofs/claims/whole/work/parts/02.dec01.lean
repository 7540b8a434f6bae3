theorem dX4_exchange_62 : decode cX4_exchange 62 = .ok (.aload_n 3, 1) := by decide +kernel
theorem dX4_exchange_63 : decode cX4_exchange 63 = .ok (.iload 6, 2) := by decide +kernel
theorem dX4_exchange_65 : decode cX4_exchange 65 = .ok (.aload 4, 2) := by decide +kernel
theorem dX4_exchange_67 : decode cX4_exchange 67 = .ok (.iload 6, 2) := by decide +kernel
theorem dX4_exchange_69 : decode cX4_exchange 69 = .ok (.iaload, 1) := by decide +kernel
theorem dX4_exchange_70 : decode cX4_exchange 70 = .ok (.iastore, 1) := by decide +kernel
theorem dX4_exchange_71 : decode cX4_exchange 71 = .ok (.aload 4, 2) := by decide +kernel
theorem dX4_exchange_73 : decode cX4_exchange 73 = .ok (.iload 6, 2) := by decide +kernel
theorem dX4_exchange_75 : decode cX4_exchange 75 = .ok (.iload 7, 2) := by decide +kernel
theorem dX4_exchange_77 : decode cX4_exchange 77 = .ok (.iastore, 1) := by decide +kernel
theorem dX4_exchange_78 : decode cX4_exchange 78 = .ok (.iinc 6 1, 3) := by decide +kernel
theorem dX4_exchange_81 : decode cX4_exchange 81 = .ok (.goto (-62), 3) := by decide +kernel
theorem dX4_exchange_84 : decode cX4_exchange 84 = .ok (.iload 5, 2) := by decide +kernel
theorem dX4_exchange_86 : decode cX4_exchange 86 = .ok (.ireturn, 1) := by decide +kernel
theorem dX4_leavesRange_0 : decode cX4_leavesRange 0 = .ok (.aload_n 0, 1) := by decide +kernel
theorem dX4_leavesRange_1 : decode cX4_leavesRange 1 = .ok (.iload_n 1, 1) := by decide +kernel
theorem dX4_leavesRange_2 : decode cX4_leavesRange 2 = .ok (.invokevirtual 20, 3) := by decide +kernel
theorem dX4_leavesRange_5 : decode cX4_leavesRange 5 = .ok (.astore 5, 2) := by decide +kernel
theorem dX4_leavesRange_7 : decode cX4_leavesRange 7 = .ok (.iconst 0, 1) := by decide +kernel
theorem dX4_leavesRange_8 : decode cX4_leavesRange 8 = .ok (.istore 6, 2) := by decide +kernel
theorem dX4_leavesRange_10 : decode cX4_leavesRange 10 = .ok (.iload 6, 2) := by decide +kernel
theorem dX4_leavesRange_12 : decode cX4_leavesRange 12 = .ok (.aload 5, 2) := by decide +kernel
theorem dX4_leavesRange_14 : decode cX4_leavesRange 14 = .ok (.arraylength, 1) := by decide +kernel
theorem dX4_leavesRange_15 : decode cX4_leavesRange 15 = .ok (.if_icmp .ge 65, 3) := by decide +kernel
theorem dX4_leavesRange_18 : decode cX4_leavesRange 18 = .ok (.iload 6, 2) := by decide +kernel
theorem dX4_leavesRange_20 : decode cX4_leavesRange 20 = .ok (.bipush 9, 2) := by decide +kernel
theorem dX4_leavesRange_22 : decode cX4_leavesRange 22 = .ok (.idiv, 1) := by decide +kernel
theorem dX4_leavesRange_23 : decode cX4_leavesRange 23 = .ok (.iload_n 2, 1) := by decide +kernel
theorem dX4_leavesRange_24 : decode cX4_leavesRange 24 = .ok (.iadd, 1) := by decide +kernel
theorem dX4_leavesRange_25 : decode cX4_leavesRange 25 = .ok (.iconst 2, 1) := by decide +kernel
theorem dX4_leavesRange_26 : decode cX4_leavesRange 26 = .ok (.if_icmp .gt 30, 3) := by decide +kernel
theorem dX4_leavesRange_29 : decode cX4_leavesRange 29 = .ok (.iload 6, 2) := by decide +kernel
theorem dX4_leavesRange_31 : decode cX4_leavesRange 31 = .ok (.iconst 3, 1) := by decide +kernel
theorem dX4_leavesRange_32 : decode cX4_leavesRange 32 = .ok (.idiv, 1) := by decide +kernel
theorem dX4_leavesRange_33 : decode cX4_leavesRange 33 = .ok (.iconst 3, 1) := by decide +kernel
theorem dX4_leavesRange_34 : decode cX4_leavesRange 34 = .ok (.irem, 1) := by decide +kernel
theorem dX4_leavesRange_35 : decode cX4_leavesRange 35 = .ok (.iload_n 3, 1) := by decide +kernel
theorem dX4_leavesRange_36 : decode cX4_leavesRange 36 = .ok (.iadd, 1) := by decide +kernel
theorem dX4_leavesRange_37 : decode cX4_leavesRange 37 = .ok (.iconst 2, 1) := by decide +kernel
theorem dX4_leavesRange_38 : decode cX4_leavesRange 38 = .ok (.if_icmp .gt 18, 3) := by decide +kernel
theorem dX4_leavesRange_41 : decode cX4_leavesRange 41 = .ok (.iload 6, 2) := by decide +kernel
theorem dX4_leavesRange_43 : decode cX4_leavesRange 43 = .ok (.iconst 3, 1) := by decide +kernel
theorem dX4_leavesRange_44 : decode cX4_leavesRange 44 = .ok (.irem, 1) := by decide +kernel
theorem dX4_leavesRange_45 : decode cX4_leavesRange 45 = .ok (.iload 4, 2) := by decide +kernel
theorem dX4_leavesRange_47 : decode cX4_leavesRange 47 = .ok (.iadd, 1) := by decide +kernel
theorem dX4_leavesRange_48 : decode cX4_leavesRange 48 = .ok (.iconst 2, 1) := by decide +kernel
theorem dX4_leavesRange_49 : decode cX4_leavesRange 49 = .ok (.if_icmp .gt 7, 3) := by decide +kernel
theorem dX4_leavesRange_52 : decode cX4_leavesRange 52 = .ok (.iconst 1, 1) := by decide +kernel
theorem dX4_leavesRange_53 : decode cX4_leavesRange 53 = .ok (.goto 4, 3) := by decide +kernel
theorem dX4_leavesRange_56 : decode cX4_leavesRange 56 = .ok (.iconst 0, 1) := by decide +kernel
theorem dX4_leavesRange_57 : decode cX4_leavesRange 57 = .ok (.istore 7, 2) := by decide +kernel
theorem dX4_leavesRange_59 : decode cX4_leavesRange 59 = .ok (.aload 5, 2) := by decide +kernel
theorem dX4_leavesRange_61 : decode cX4_leavesRange 61 = .ok (.iload 6, 2) := by decide +kernel
theorem dX4_leavesRange_63 : decode cX4_leavesRange 63 = .ok (.iaload, 1) := by decide +kernel
theorem dX4_leavesRange_64 : decode cX4_leavesRange 64 = .ok (.ifCond .eq 10, 3) := by decide +kernel
theorem dX4_leavesRange_67 : decode cX4_leavesRange 67 = .ok (.iload 7, 2) := by decide +kernel
theorem dX4_leavesRange_69 : decode cX4_leavesRange 69 = .ok (.ifCond .ne 5, 3) := by decide +kernel
theorem dX4_leavesRange_72 : decode cX4_leavesRange 72 = .ok (.iconst 1, 1) := by decide +kernel
theorem dX4_leavesRange_73 : decode cX4_leavesRange 73 = .ok (.ireturn, 1) := by decide +kernel
theorem dX4_leavesRange_74 : decode cX4_leavesRange 74 = .ok (.iinc 6 1, 3) := by decide +kernel
theorem dX4_leavesRange_77 : decode cX4_leavesRange 77 = .ok (.goto (-67), 3) := by decide +kernel
theorem dX4_leavesRange_80 : decode cX4_leavesRange 80 = .ok (.iconst 0, 1) := by decide +kernel
theorem dX4_leavesRange_81 : decode cX4_leavesRange 81 = .ok (.ireturn, 1) := by decide +kernel
theorem dX4_addMultiple_0 : decode cX4_addMultiple 0 = .ok (.aload_n 0, 1) := by decide +kernel
theorem dX4_addMultiple_1 : decode cX4_addMultiple 1 = .ok (.iload_n 1, 1) := by decide +kernel
theorem dX4_addMultiple_2 : decode cX4_addMultiple 2 = .ok (.invokevirtual 20, 3) := by decide +kernel
theorem dX4_addMultiple_5 : decode cX4_addMultiple 5 = .ok (.astore 5, 2) := by decide +kernel
theorem dX4_addMultiple_7 : decode cX4_addMultiple 7 = .ok (.aload_n 0, 1) := by decide +kernel
theorem dX4_addMultiple_8 : decode cX4_addMultiple 8 = .ok (.iload_n 2, 1) := by decide +kernel
theorem dX4_addMultiple_9 : decode cX4_addMultiple 9 = .ok (.invokevirtual 20, 3) := by decide +kernel
theorem dX4_addMultiple_12 : decode cX4_addMultiple 12 = .ok (.astore 6, 2) := by decide +kernel
theorem dX4_addMultiple_14 : decode cX4_addMultiple 14 = .ok (.iconst 0, 1) := by decide +kernel
theorem dX4_addMultiple_15 : decode cX4_addMultiple 15 = .ok (.istore 7, 2) := by decide +kernel
theorem dX4_addMultiple_17 : decode cX4_addMultiple 17 = .ok (.iload 7, 2) := by decide +kernel
theorem dX4_addMultiple_19 : decode cX4_addMultiple 19 = .ok (.aload 6, 2) := by decide +kernel
theorem dX4_addMultiple_21 : decode cX4_addMultiple 21 = .ok (.arraylength, 1) := by decide +kernel
theorem dX4_addMultiple_22 : decode cX4_addMultiple 22 = .ok (.if_icmp .ge 62, 3) := by decide +kernel
theorem dX4_addMultiple_25 : decode cX4_addMultiple 25 = .ok (.iload 7, 2) := by decide +kernel
theorem dX4_addMultiple_27 : decode cX4_addMultiple 27 = .ok (.iload 4, 2) := by decide +kernel
theorem dX4_addMultiple_29 : decode cX4_addMultiple 29 = .ok (.iadd, 1) := by decide +kernel
theorem dX4_addMultiple_30 : decode cX4_addMultiple 30 = .ok (.istore 8, 2) := by decide +kernel
theorem dX4_addMultiple_32 : decode cX4_addMultiple 32 = .ok (.aload 6, 2) := by decide +kernel
theorem dX4_addMultiple_34 : decode cX4_addMultiple 34 = .ok (.iload 7, 2) := by decide +kernel
theorem dX4_addMultiple_36 : decode cX4_addMultiple 36 = .ok (.iaload, 1) := by decide +kernel
theorem dX4_addMultiple_37 : decode cX4_addMultiple 37 = .ok (.ifCond .eq 41, 3) := by decide +kernel
theorem dX4_addMultiple_40 : decode cX4_addMultiple 40 = .ok (.iload 8, 2) := by decide +kernel
theorem dX4_addMultiple_42 : decode cX4_addMultiple 42 = .ok (.ifCond .lt 36, 3) := by decide +kernel
theorem dX4_addMultiple_45 : decode cX4_addMultiple 45 = .ok (.iload 8, 2) := by decide +kernel
theorem dX4_addMultiple_47 : decode cX4_addMultiple 47 = .ok (.aload 5, 2) := by decide +kernel
theorem dX4_addMultiple_49 : decode cX4_addMultiple 49 = .ok (.arraylength, 1) := by decide +kernel
theorem dX4_addMultiple_50 : decode cX4_addMultiple 50 = .ok (.if_icmp .ge 28, 3) := by decide +kernel
theorem dX4_addMultiple_53 : decode cX4_addMultiple 53 = .ok (.aload 5, 2) := by decide +kernel
theorem dX4_addMultiple_55 : decode cX4_addMultiple 55 = .ok (.iload 8, 2) := by decide +kernel
theorem dX4_addMultiple_57 : decode cX4_addMultiple 57 = .ok (.aload 5, 2) := by decide +kernel
theorem dX4_addMultiple_59 : decode cX4_addMultiple 59 = .ok (.iload 8, 2) := by decide +kernel
theorem dX4_addMultiple_61 : decode cX4_addMultiple 61 = .ok (.iaload, 1) := by decide +kernel
theorem dX4_addMultiple_62 : decode cX4_addMultiple 62 = .ok (.iload_n 3, 1) := by decide +kernel
theorem dX4_addMultiple_63 : decode cX4_addMultiple 63 = .ok (.aload 6, 2) := by decide +kernel
theorem dX4_addMultiple_65 : decode cX4_addMultiple 65 = .ok (.iload 7, 2) := by decide +kernel
theorem dX4_addMultiple_67 : decode cX4_addMultiple 67 = .ok (.iaload, 1) := by decide +kernel
theorem dX4_addMultiple_68 : decode cX4_addMultiple 68 = .ok (.imul, 1) := by decide +kernel
theorem dX4_addMultiple_69 : decode cX4_addMultiple 69 = .ok (.iadd, 1) := by decide +kernel
theorem dX4_addMultiple_70 : decode cX4_addMultiple 70 = .ok (.aload_n 0, 1) := by decide +kernel
theorem dX4_addMultiple_71 : decode cX4_addMultiple 71 = .ok (.getfield 9, 3) := by decide +kernel
theorem dX4_addMultiple_74 : decode cX4_addMultiple 74 = .ok (.invokestatic 39, 3) := by decide +kernel
theorem dX4_addMultiple_77 : decode cX4_addMultiple 77 = .ok (.iastore, 1) := by decide +kernel
theorem dX4_addMultiple_78 : decode cX4_addMultiple 78 = .ok (.iinc 7 1, 3) := by decide +kernel
theorem dX4_addMultiple_81 : decode cX4_addMultiple 81 = .ok (.goto (-64), 3) := by decide +kernel
theorem dX4_addMultiple_84 : decode cX4_addMultiple 84 = .ok (.return_, 1) := by decide +kernel
theorem dX4_substitute_0 : decode cX4_substitute 0 = .ok (.iconst 0, 1) := by decide +kernel
theorem dX4_substitute_1 : decode cX4_substitute 1 = .ok (.istore_n 2, 1) := by decide +kernel
theorem dX4_substitute_2 : decode cX4_substitute 2 = .ok (.iload_n 2, 1) := by decide +kernel
theorem dX4_substitute_3 : decode cX4_substitute 3 = .ok (.iconst 3, 1) := by decide +kernel
theorem dX4_substitute_4 : decode cX4_substitute 4 = .ok (.if_icmp .ge 97, 3) := by decide +kernel
theorem dX4_substitute_7 : decode cX4_substitute 7 = .ok (.aload_n 0, 1) := by decide +kernel
theorem dX4_substitute_8 : decode cX4_substitute 8 = .ok (.getfield 17, 3) := by decide +kernel
theorem dX4_substitute_11 : decode cX4_substitute 11 = .ok (.iload_n 2, 1) := by decide +kernel
theorem dX4_substitute_12 : decode cX4_substitute 12 = .ok (.aaload, 1) := by decide +kernel
theorem dX4_substitute_13 : decode cX4_substitute 13 = .ok (.astore_n 3, 1) := by decide +kernel
theorem dX4_substitute_14 : decode cX4_substitute 14 = .ok (.iconst 0, 1) := by decide +kernel
theorem dX4_substitute_15 : decode cX4_substitute 15 = .ok (.istore 4, 2) := by decide +kernel
theorem dX4_substitute_17 : decode cX4_substitute 17 = .ok (.iload 4, 2) := by decide +kernel
theorem dX4_substitute_19 : decode cX4_substitute 19 = .ok (.iconst 2, 1) := by decide +kernel
theorem dX4_substitute_20 : decode cX4_substitute 20 = .ok (.iadd, 1) := by decide +kernel
theorem dX4_substitute_21 : decode cX4_substitute 21 = .ok (.aload_n 3, 1) := by decide +kernel
theorem dX4_substitute_22 : decode cX4_substitute 22 = .ok (.arraylength, 1) := by decide +kernel
theorem dX4_substitute_23 : decode cX4_substitute 23 = .ok (.if_icmp .ge 72, 3) := by decide +kernel
theorem dX4_substitute_26 : decode cX4_substitute 26 = .ok (.aload_n 3, 1) := by decide +kernel
theorem dX4_substitute_27 : decode cX4_substitute 27 = .ok (.iload 4, 2) := by decide +kernel
theorem dX4_substitute_29 : decode cX4_substitute 29 = .ok (.aload_n 3, 1) := by decide +kernel
theorem dX4_substitute_30 : decode cX4_substitute 30 = .ok (.iload 4, 2) := by decide +kernel
theorem dX4_substitute_32 : decode cX4_substitute 32 = .ok (.iaload, 1) := by decide +kernel
theorem dX4_substitute_33 : decode cX4_substitute 33 = .ok (.iload_n 1, 1) := by decide +kernel
theorem dX4_substitute_34 : decode cX4_substitute 34 = .ok (.aload_n 3, 1) := by decide +kernel
theorem dX4_substitute_35 : decode cX4_substitute 35 = .ok (.iload 4, 2) := by decide +kernel
theorem dX4_substitute_37 : decode cX4_substitute 37 = .ok (.iconst 1, 1) := by decide +kernel
theorem dX4_substitute_38 : decode cX4_substitute 38 = .ok (.iadd, 1) := by decide +kernel
theorem dX4_substitute_39 : decode cX4_substitute 39 = .ok (.iaload, 1) := by decide +kernel
theorem dX4_substitute_40 : decode cX4_substitute 40 = .ok (.iload_n 1, 1) := by decide +kernel
theorem dX4_substitute_41 : decode cX4_substitute 41 = .ok (.aload_n 3, 1) := by decide +kernel
theorem dX4_substitute_42 : decode cX4_substitute 42 = .ok (.iload 4, 2) := by decide +kernel
theorem dX4_substitute_44 : decode cX4_substitute 44 = .ok (.iconst 2, 1) := by decide +kernel
theorem dX4_substitute_45 : decode cX4_substitute 45 = .ok (.iadd, 1) := by decide +kernel
theorem dX4_substitute_46 : decode cX4_substitute 46 = .ok (.iaload, 1) := by decide +kernel
theorem dX4_substitute_47 : decode cX4_substitute 47 = .ok (.imul, 1) := by decide +kernel
theorem dX4_substitute_48 : decode cX4_substitute 48 = .ok (.iadd, 1) := by decide +kernel
theorem dX4_substitute_49 : decode cX4_substitute 49 = .ok (.imul, 1) := by decide +kernel
theorem dX4_substitute_50 : decode cX4_substitute 50 = .ok (.iadd, 1) := by decide +kernel
theorem dX4_substitute_51 : decode cX4_substitute 51 = .ok (.aload_n 0, 1) := by decide +kernel
theorem dX4_substitute_52 : decode cX4_substitute 52 = .ok (.getfield 9, 3) := by decide +kernel
theorem dX4_substitute_55 : decode cX4_substitute 55 = .ok (.invokestatic 39, 3) := by decide +kernel
theorem dX4_substitute_58 : decode cX4_substitute 58 = .ok (.iastore, 1) := by decide +kernel
theorem dX4_substitute_59 : decode cX4_substitute 59 = .ok (.aload_n 3, 1) := by decide +kernel
theorem dX4_substitute_60 : decode cX4_substitute 60 = .ok (.iload 4, 2) := by decide +kernel
theorem dX4_substitute_62 : decode cX4_substitute 62 = .ok (.iconst 1, 1) := by decide +kernel
theorem dX4_substitute_63 : decode cX4_substitute 63 = .ok (.iadd, 1) := by decide +kernel
theorem dX4_substitute_64 : decode cX4_substitute 64 = .ok (.aload_n 3, 1) := by decide +kernel
theorem dX4_substitute_65 : decode cX4_substitute 65 = .ok (.iload 4, 2) := by decide +kernel
theorem dX4_substitute_67 : decode cX4_substitute 67 = .ok (.iconst 1, 1) := by decide +kernel
theorem dX4_substitute_68 : decode cX4_substitute 68 = .ok (.iadd, 1) := by decide +kernel
theorem dX4_substitute_69 : decode cX4_substitute 69 = .ok (.iaload, 1) := by decide +kernel
theorem dX4_substitute_70 : decode cX4_substitute 70 = .ok (.iconst 2, 1) := by decide +kernel
theorem dX4_substitute_71 : decode cX4_substitute 71 = .ok (.iload_n 1, 1) := by decide +kernel
theorem dX4_substitute_72 : decode cX4_substitute 72 = .ok (.imul, 1) := by decide +kernel
theorem dX4_substitute_73 : decode cX4_substitute 73 = .ok (.aload_n 3, 1) := by decide +kernel
theorem dX4_substitute_74 : decode cX4_substitute 74 = .ok (.iload 4, 2) := by decide +kernel
theorem dX4_substitute_76 : decode cX4_substitute 76 = .ok (.iconst 2, 1) := by decide +kernel
theorem dX4_substitute_77 : decode cX4_substitute 77 = .ok (.iadd, 1) := by decide +kernel
theorem dX4_substitute_78 : decode cX4_substitute 78 = .ok (.iaload, 1) := by decide +kernel
theorem dX4_substitute_79 : decode cX4_substitute 79 = .ok (.imul, 1) := by decide +kernel
theorem dX4_substitute_80 : decode cX4_substitute 80 = .ok (.iadd, 1) := by decide +kernel
theorem dX4_substitute_81 : decode cX4_substitute 81 = .ok (.aload_n 0, 1) := by decide +kernel
theorem dX4_substitute_82 : decode cX4_substitute 82 = .ok (.getfield 9, 3) := by decide +kernel
theorem dX4_substitute_85 : decode cX4_substitute 85 = .ok (.invokestatic 39, 3) := by decide +kernel
theorem dX4_substitute_88 : decode cX4_substitute 88 = .ok (.iastore, 1) := by decide +kernel
theorem dX4_substitute_89 : decode cX4_substitute 89 = .ok (.iinc 4 3, 3) := by decide +kernel
theorem dX4_substitute_92 : decode cX4_substitute 92 = .ok (.goto (-75), 3) := by decide +kernel
theorem dX4_substitute_95 : decode cX4_substitute 95 = .ok (.iinc 2 1, 3) := by decide +kernel
theorem dX4_substitute_98 : decode cX4_substitute 98 = .ok (.goto (-96), 3) := by decide +kernel
theorem dX4_substitute_101 : decode cX4_substitute 101 = .ok (.return_, 1) := by decide +kernel
theorem dX4_valueOf_0 : decode cX4_valueOf 0 = .ok (.iconst 0, 1) := by decide +kernel
theorem dX4_valueOf_1 : decode cX4_valueOf 1 = .ok (.istore 5, 2) := by decide +kernel
theorem dX4_valueOf_3 : decode cX4_valueOf 3 = .ok (.iconst 2, 1) := by decide +kernel
theorem dX4_valueOf_4 : decode cX4_valueOf 4 = .ok (.istore 6, 2) := by decide +kernel
theorem dX4_valueOf_6 : decode cX4_valueOf 6 = .ok (.iload 6, 2) := by decide +kernel
theorem dX4_valueOf_8 : decode cX4_valueOf 8 = .ok (.ifCond .lt 70, 3) := by decide +kernel
theorem dX4_valueOf_11 : decode cX4_valueOf 11 = .ok (.iconst 0, 1) := by decide +kernel
theorem dX4_valueOf_12 : decode cX4_valueOf 12 = .ok (.istore 7, 2) := by decide +kernel
theorem dX4_valueOf_14 : decode cX4_valueOf 14 = .ok (.iconst 2, 1) := by decide +kernel
theorem dX4_valueOf_15 : decode cX4_valueOf 15 = .ok (.istore 8, 2) := by decide +kernel
theorem dX4_valueOf_17 : decode cX4_valueOf 17 = .ok (.iload 8, 2) := by decide +kernel
theorem dX4_valueOf_19 : decode cX4_valueOf 19 = .ok (.ifCond .lt 37, 3) := by decide +kernel
theorem dX4_valueOf_22 : decode cX4_valueOf 22 = .ok (.iload 7, 2) := by decide +kernel
theorem dX4_valueOf_24 : decode cX4_valueOf 24 = .ok (.iload_n 3, 1) := by decide +kernel
theorem dX4_valueOf_25 : decode cX4_valueOf 25 = .ok (.imul, 1) := by decide +kernel
theorem dX4_valueOf_26 : decode cX4_valueOf 26 = .ok (.aload_n 0, 1) := by decide +kernel
theorem dX4_valueOf_27 : decode cX4_valueOf 27 = .ok (.iload_n 1, 1) := by decide +kernel
theorem dX4_valueOf_28 : decode cX4_valueOf 28 = .ok (.iconst 3, 1) := by decide +kernel
theorem dX4_valueOf_29 : decode cX4_valueOf 29 = .ok (.iload 6, 2) := by decide +kernel
theorem dX4_valueOf_31 : decode cX4_valueOf 31 = .ok (.imul, 1) := by decide +kernel
theorem dX4_valueOf_32 : decode cX4_valueOf 32 = .ok (.iload 8, 2) := by decide +kernel
theorem dX4_valueOf_34 : decode cX4_valueOf 34 = .ok (.iadd, 1) := by decide +kernel
theorem dX4_valueOf_35 : decode cX4_valueOf 35 = .ok (.iload 4, 2) := by decide +kernel
theorem dX4_valueOf_37 : decode cX4_valueOf 37 = .ok (.invokevirtual 45, 3) := by decide +kernel
theorem dX4_valueOf_40 : decode cX4_valueOf 40 = .ok (.iadd, 1) := by decide +kernel
theorem dX4_valueOf_41 : decode cX4_valueOf 41 = .ok (.aload_n 0, 1) := by decide +kernel
theorem dX4_valueOf_42 : decode cX4_valueOf 42 = .ok (.getfield 9, 3) := by decide +kernel
theorem dX4_valueOf_45 : decode cX4_valueOf 45 = .ok (.invokestatic 39, 3) := by decide +kernel
theorem dX4_valueOf_48 : decode cX4_valueOf 48 = .ok (.istore 7, 2) := by decide +kernel
theorem dX4_valueOf_50 : decode cX4_valueOf 50 = .ok (.iinc 8 (-1), 3) := by decide +kernel
theorem dX4_valueOf_53 : decode cX4_valueOf 53 = .ok (.goto (-36), 3) := by decide +kernel
theorem dX4_valueOf_56 : decode cX4_valueOf 56 = .ok (.iload 5, 2) := by decide +kernel
theorem dX4_valueOf_58 : decode cX4_valueOf 58 = .ok (.iload_n 2, 1) := by decide +kernel
theorem dX4_valueOf_59 : decode cX4_valueOf 59 = .ok (.imul, 1) := by decide +kernel
theorem dX4_valueOf_60 : decode cX4_valueOf 60 = .ok (.iload 7, 2) := by decide +kernel
theorem dX4_valueOf_62 : decode cX4_valueOf 62 = .ok (.iadd, 1) := by decide +kernel
theorem dX4_valueOf_63 : decode cX4_valueOf 63 = .ok (.aload_n 0, 1) := by decide +kernel
theorem dX4_valueOf_64 : decode cX4_valueOf 64 = .ok (.getfield 9, 3) := by decide +kernel
theorem dX4_valueOf_67 : decode cX4_valueOf 67 = .ok (.invokestatic 39, 3) := by decide +kernel
theorem dX4_valueOf_70 : decode cX4_valueOf 70 = .ok (.istore 5, 2) := by decide +kernel
theorem dX4_valueOf_72 : decode cX4_valueOf 72 = .ok (.iinc 6 (-1), 3) := by decide +kernel
theorem dX4_valueOf_75 : decode cX4_valueOf 75 = .ok (.goto (-69), 3) := by decide +kernel
theorem dX4_valueOf_78 : decode cX4_valueOf 78 = .ok (.iload 5, 2) := by decide +kernel
theorem dX4_valueOf_80 : decode cX4_valueOf 80 = .ok (.ireturn, 1) := by decide +kernel
theorem dX4_factorAt_0 : decode cX4_factorAt 0 = .ok (.aload_n 0, 1) := by decide +kernel
theorem dX4_factorAt_1 : decode cX4_factorAt 1 = .ok (.iload_n 1, 1) := by decide +kernel
theorem dX4_factorAt_2 : decode cX4_factorAt 2 = .ok (.invokevirtual 20, 3) := by decide +kernel
theorem dX4_factorAt_5 : decode cX4_factorAt 5 = .ok (.astore 4, 2) := by decide +kernel
theorem dX4_factorAt_7 : decode cX4_factorAt 7 = .ok (.iconst 3, 1) := by decide +kernel
theorem dX4_factorAt_8 : decode cX4_factorAt 8 = .ok (.iload_n 2, 1) := by decide +kernel
theorem dX4_factorAt_9 : decode cX4_factorAt 9 = .ok (.imul, 1) := by decide +kernel
theorem dX4_factorAt_10 : decode cX4_factorAt 10 = .ok (.istore 5, 2) := by decide +kernel
theorem dX4_factorAt_12 : decode cX4_factorAt 12 = .ok (.iload 5, 2) := by decide +kernel
theorem dX4_factorAt_14 : decode cX4_factorAt 14 = .ok (.ifCond .lt 13, 3) := by decide +kernel
theorem dX4_factorAt_17 : decode cX4_factorAt 17 = .ok (.iload 5, 2) := by decide +kernel
theorem dX4_factorAt_19 : decode cX4_factorAt 19 = .ok (.iconst 2, 1) := by decide +kernel
theorem dX4_factorAt_20 : decode cX4_factorAt 20 = .ok (.iadd, 1) := by decide +kernel
theorem dX4_factorAt_21 : decode cX4_factorAt 21 = .ok (.aload 4, 2) := by decide +kernel
theorem dX4_factorAt_23 : decode cX4_factorAt 23 = .ok (.arraylength, 1) := by decide +kernel
theorem dX4_factorAt_24 : decode cX4_factorAt 24 = .ok (.if_icmp .lt 5, 3) := by decide +kernel
theorem dX4_factorAt_27 : decode cX4_factorAt 27 = .ok (.iconst 0, 1) := by decide +kernel
theorem dX4_factorAt_28 : decode cX4_factorAt 28 = .ok (.ireturn, 1) := by decide +kernel
theorem dX4_factorAt_29 : decode cX4_factorAt 29 = .ok (.aload 4, 2) := by decide +kernel
theorem dX4_factorAt_31 : decode cX4_factorAt 31 = .ok (.iload 5, 2) := by decide +kernel
theorem dX4_factorAt_33 : decode cX4_factorAt 33 = .ok (.iaload, 1) := by decide +kernel
theorem dX4_factorAt_34 : decode cX4_factorAt 34 = .ok (.iload_n 3, 1) := by decide +kernel
theorem dX4_factorAt_35 : decode cX4_factorAt 35 = .ok (.aload 4, 2) := by decide +kernel
theorem dX4_factorAt_37 : decode cX4_factorAt 37 = .ok (.iload 5, 2) := by decide +kernel
theorem dX4_factorAt_39 : decode cX4_factorAt 39 = .ok (.iconst 1, 1) := by decide +kernel
theorem dX4_factorAt_40 : decode cX4_factorAt 40 = .ok (.iadd, 1) := by decide +kernel
theorem dX4_factorAt_41 : decode cX4_factorAt 41 = .ok (.iaload, 1) := by decide +kernel
theorem dX4_factorAt_42 : decode cX4_factorAt 42 = .ok (.iload_n 3, 1) := by decide +kernel
theorem dX4_factorAt_43 : decode cX4_factorAt 43 = .ok (.aload 4, 2) := by decide +kernel
theorem dX4_factorAt_45 : decode cX4_factorAt 45 = .ok (.iload 5, 2) := by decide +kernel
theorem dX4_factorAt_47 : decode cX4_factorAt 47 = .ok (.iconst 2, 1) := by decide +kernel
theorem dX4_factorAt_48 : decode cX4_factorAt 48 = .ok (.iadd, 1) := by decide +kernel
theorem dX4_factorAt_49 : decode cX4_factorAt 49 = .ok (.iaload, 1) := by decide +kernel
theorem dX4_factorAt_50 : decode cX4_factorAt 50 = .ok (.imul, 1) := by decide +kernel
theorem dX4_factorAt_51 : decode cX4_factorAt 51 = .ok (.iadd, 1) := by decide +kernel
theorem dX4_factorAt_52 : decode cX4_factorAt 52 = .ok (.imul, 1) := by decide +kernel
theorem dX4_factorAt_53 : decode cX4_factorAt 53 = .ok (.iadd, 1) := by decide +kernel
theorem dX4_factorAt_54 : decode cX4_factorAt 54 = .ok (.aload_n 0, 1) := by decide +kernel
theorem dX4_factorAt_55 : decode cX4_factorAt 55 = .ok (.getfield 9, 3) := by decide +kernel
theorem dX4_factorAt_58 : decode cX4_factorAt 58 = .ok (.invokestatic 39, 3) := by decide +kernel
theorem dX4_factorAt_61 : decode cX4_factorAt 61 = .ok (.ireturn, 1) := by decide +kernel
theorem dX4_degreeIn_0 : decode cX4_degreeIn 0 = .ok (.aload_n 0, 1) := by decide +kernel
theorem dX4_degreeIn_1 : decode cX4_degreeIn 1 = .ok (.iload_n 1, 1) := by decide +kernel
theorem dX4_degreeIn_2 : decode cX4_degreeIn 2 = .ok (.invokevirtual 20, 3) := by decide +kernel
theorem dX4_degreeIn_5 : decode cX4_degreeIn 5 = .ok (.astore_n 3, 1) := by decide +kernel
theorem dX4_degreeIn_6 : decode cX4_degreeIn 6 = .ok (.iconst 0, 1) := by decide +kernel
theorem dX4_degreeIn_7 : decode cX4_degreeIn 7 = .ok (.istore 4, 2) := by decide +kernel
theorem dX4_degreeIn_9 : decode cX4_degreeIn 9 = .ok (.iconst 0, 1) := by decide +kernel
theorem dX4_degreeIn_10 : decode cX4_degreeIn 10 = .ok (.istore 5, 2) := by decide +kernel
theorem dX4_degreeIn_12 : decode cX4_degreeIn 12 = .ok (.iload 5, 2) := by decide +kernel
theorem dX4_degreeIn_14 : decode cX4_degreeIn 14 = .ok (.aload_n 3, 1) := by decide +kernel
theorem dX4_degreeIn_15 : decode cX4_degreeIn 15 = .ok (.arraylength, 1) := by decide +kernel
theorem dX4_degreeIn_16 : decode cX4_degreeIn 16 = .ok (.if_icmp .ge 57, 3) := by decide +kernel
theorem dX4_degreeIn_19 : decode cX4_degreeIn 19 = .ok (.aload_n 3, 1) := by decide +kernel
theorem dX4_degreeIn_20 : decode cX4_degreeIn 20 = .ok (.iload 5, 2) := by decide +kernel
theorem dX4_degreeIn_22 : decode cX4_degreeIn 22 = .ok (.iaload, 1) := by decide +kernel
theorem dX4_degreeIn_23 : decode cX4_degreeIn 23 = .ok (.ifCond .eq 44, 3) := by decide +kernel
theorem dX4_degreeIn_26 : decode cX4_degreeIn 26 = .ok (.iload_n 2, 1) := by decide +kernel
theorem dX4_degreeIn_27 : decode cX4_degreeIn 27 = .ok (.ifCond .ne 11, 3) := by decide +kernel
theorem dX4_degreeIn_30 : decode cX4_degreeIn 30 = .ok (.iload 5, 2) := by decide +kernel
theorem dX4_degreeIn_32 : decode cX4_degreeIn 32 = .ok (.bipush 9, 2) := by decide +kernel
theorem dX4_degreeIn_34 : decode cX4_degreeIn 34 = .ok (.idiv, 1) := by decide +kernel
theorem dX4_degreeIn_35 : decode cX4_degreeIn 35 = .ok (.goto 21, 3) := by decide +kernel
theorem dX4_degreeIn_38 : decode cX4_degreeIn 38 = .ok (.iload_n 2, 1) := by decide +kernel
theorem dX4_degreeIn_39 : decode cX4_degreeIn 39 = .ok (.iconst 1, 1) := by decide +kernel
theorem dX4_degreeIn_40 : decode cX4_degreeIn 40 = .ok (.if_icmp .ne 12, 3) := by decide +kernel
theorem dX4_degreeIn_43 : decode cX4_degreeIn 43 = .ok (.iload 5, 2) := by decide +kernel
theorem dX4_degreeIn_45 : decode cX4_degreeIn 45 = .ok (.iconst 3, 1) := by decide +kernel
theorem dX4_degreeIn_46 : decode cX4_degreeIn 46 = .ok (.idiv, 1) := by decide +kernel
theorem dX4_degreeIn_47 : decode cX4_degreeIn 47 = .ok (.iconst 3, 1) := by decide +kernel
theorem dX4_degreeIn_48 : decode cX4_degreeIn 48 = .ok (.irem, 1) := by decide +kernel
theorem dX4_degreeIn_49 : decode cX4_degreeIn 49 = .ok (.goto 7, 3) := by decide +kernel
theorem dX4_degreeIn_52 : decode cX4_degreeIn 52 = .ok (.iload 5, 2) := by decide +kernel
theorem dX4_degreeIn_54 : decode cX4_degreeIn 54 = .ok (.iconst 3, 1) := by decide +kernel
theorem dX4_degreeIn_55 : decode cX4_degreeIn 55 = .ok (.irem, 1) := by decide +kernel
theorem dX4_degreeIn_56 : decode cX4_degreeIn 56 = .ok (.istore 6, 2) := by decide +kernel
theorem dX4_degreeIn_58 : decode cX4_degreeIn 58 = .ok (.iload 4, 2) := by decide +kernel
theorem dX4_degreeIn_60 : decode cX4_degreeIn 60 = .ok (.iload 6, 2) := by decide +kernel
theorem dX4_degreeIn_62 : decode cX4_degreeIn 62 = .ok (.invokestatic 49, 3) := by decide +kernel
theorem dX4_degreeIn_65 : decode cX4_degreeIn 65 = .ok (.istore 4, 2) := by decide +kernel
theorem dX4_degreeIn_67 : decode cX4_degreeIn 67 = .ok (.iinc 5 1, 3) := by decide +kernel
theorem dX4_degreeIn_70 : decode cX4_degreeIn 70 = .ok (.goto (-58), 3) := by decide +kernel
theorem dX4_degreeIn_73 : decode cX4_degreeIn 73 = .ok (.iload 4, 2) := by decide +kernel
theorem dX4_degreeIn_75 : decode cX4_degreeIn 75 = .ok (.ireturn, 1) := by decide +kernel
theorem dX4_degreeInAt_0 : decode cX4_degreeInAt 0 = .ok (.iconst 0, 1) := by decide +kernel
theorem dX4_degreeInAt_1 : decode cX4_degreeInAt 1 = .ok (.istore 4, 2) := by decide +kernel
theorem dX4_degreeInAt_3 : decode cX4_degreeInAt 3 = .ok (.iconst 0, 1) := by decide +kernel
theorem dX4_degreeInAt_4 : decode cX4_degreeInAt 4 = .ok (.istore 5, 2) := by decide +kernel
theorem dX4_degreeInAt_6 : decode cX4_degreeInAt 6 = .ok (.iload 5, 2) := by decide +kernel
theorem dX4_degreeInAt_8 : decode cX4_degreeInAt 8 = .ok (.bipush 9, 2) := by decide +kernel
theorem dX4_degreeInAt_10 : decode cX4_degreeInAt 10 = .ok (.if_icmp .ge 42, 3) := by decide +kernel
theorem dX4_degreeInAt_13 : decode cX4_degreeInAt 13 = .ok (.aload_n 0, 1) := by decide +kernel
theorem dX4_degreeInAt_14 : decode cX4_degreeInAt 14 = .ok (.iload_n 1, 1) := by decide +kernel
theorem dX4_degreeInAt_15 : decode cX4_degreeInAt 15 = .ok (.iload 5, 2) := by decide +kernel
theorem dX4_degreeInAt_17 : decode cX4_degreeInAt 17 = .ok (.iload_n 3, 1) := by decide +kernel
theorem dX4_degreeInAt_18 : decode cX4_degreeInAt 18 = .ok (.invokevirtual 45, 3) := by decide +kernel
theorem dX4_degreeInAt_21 : decode cX4_degreeInAt 21 = .ok (.ifCond .eq 25, 3) := by decide +kernel
theorem dX4_degreeInAt_24 : decode cX4_degreeInAt 24 = .ok (.iload 4, 2) := by decide +kernel
theorem dX4_degreeInAt_26 : decode cX4_degreeInAt 26 = .ok (.iload_n 2, 1) := by decide +kernel
theorem dX4_degreeInAt_27 : decode cX4_degreeInAt 27 = .ok (.ifCond .ne 10, 3) := by decide +kernel
theorem dX4_degreeInAt_30 : decode cX4_degreeInAt 30 = .ok (.iload 5, 2) := by decide +kernel
theorem dX4_degreeInAt_32 : decode cX4_degreeInAt 32 = .ok (.iconst 3, 1) := by decide +kernel
theorem dX4_degreeInAt_33 : decode cX4_degreeInAt 33 = .ok (.idiv, 1) := by decide +kernel
theorem dX4_degreeInAt_34 : decode cX4_degreeInAt 34 = .ok (.goto 7, 3) := by decide +kernel
theorem dX4_degreeInAt_37 : decode cX4_degreeInAt 37 = .ok (.iload 5, 2) := by decide +kernel
theorem dX4_degreeInAt_39 : decode cX4_degreeInAt 39 = .ok (.iconst 3, 1) := by decide +kernel
theorem dX4_degreeInAt_40 : decode cX4_degreeInAt 40 = .ok (.irem, 1) := by decide +kernel
theorem dX4_degreeInAt_41 : decode cX4_degreeInAt 41 = .ok (.invokestatic 49, 3) := by decide +kernel
theorem dX4_degreeInAt_44 : decode cX4_degreeInAt 44 = .ok (.istore 4, 2) := by decide +kernel
theorem dX4_degreeInAt_46 : decode cX4_degreeInAt 46 = .ok (.iinc 5 1, 3) := by decide +kernel
theorem dX4_degreeInAt_49 : decode cX4_degreeInAt 49 = .ok (.goto (-43), 3) := by decide +kernel
theorem dX4_degreeInAt_52 : decode cX4_degreeInAt 52 = .ok (.iload 4, 2) := by decide +kernel
theorem dX4_degreeInAt_54 : decode cX4_degreeInAt 54 = .ok (.ireturn, 1) := by decide +kernel
theorem dX4_greatestDegree_0 : decode cX4_greatestDegree 0 = .ok (.aload_n 0, 1) := by decide +kernel
theorem dX4_greatestDegree_1 : decode cX4_greatestDegree 1 = .ok (.iconst 0, 1) := by decide +kernel
theorem dX4_greatestDegree_2 : decode cX4_greatestDegree 2 = .ok (.iload_n 1, 1) := by decide +kernel
theorem dX4_greatestDegree_3 : decode cX4_greatestDegree 3 = .ok (.invokevirtual 54, 3) := by decide +kernel
theorem dX4_greatestDegree_6 : decode cX4_greatestDegree 6 = .ok (.aload_n 0, 1) := by decide +kernel
theorem dX4_greatestDegree_7 : decode cX4_greatestDegree 7 = .ok (.iconst 1, 1) := by decide +kernel
theorem dX4_greatestDegree_8 : decode cX4_greatestDegree 8 = .ok (.iload_n 1, 1) := by decide +kernel
theorem dX4_greatestDegree_9 : decode cX4_greatestDegree 9 = .ok (.invokevirtual 54, 3) := by decide +kernel
theorem dX4_greatestDegree_12 : decode cX4_greatestDegree 12 = .ok (.aload_n 0, 1) := by decide +kernel
theorem dX4_greatestDegree_13 : decode cX4_greatestDegree 13 = .ok (.iconst 2, 1) := by decide +kernel
theorem dX4_greatestDegree_14 : decode cX4_greatestDegree 14 = .ok (.iload_n 1, 1) := by decide +kernel
theorem dX4_greatestDegree_15 : decode cX4_greatestDegree 15 = .ok (.invokevirtual 54, 3) := by decide +kernel
theorem dX4_greatestDegree_18 : decode cX4_greatestDegree 18 = .ok (.invokestatic 49, 3) := by decide +kernel
theorem dX4_greatestDegree_21 : decode cX4_greatestDegree 21 = .ok (.invokestatic 49, 3) := by decide +kernel
theorem dX4_greatestDegree_24 : decode cX4_greatestDegree 24 = .ok (.ireturn, 1) := by decide +kernel
theorem dX4_dropsAt_0 : decode cX4_dropsAt 0 = .ok (.iconst 0, 1) := by decide +kernel
theorem dX4_dropsAt_1 : decode cX4_dropsAt 1 = .ok (.istore_n 2, 1) := by decide +kernel
theorem dX4_dropsAt_2 : decode cX4_dropsAt 2 = .ok (.iload_n 2, 1) := by decide +kernel
theorem dX4_dropsAt_3 : decode cX4_dropsAt 3 = .ok (.iconst 3, 1) := by decide +kernel
theorem dX4_dropsAt_4 : decode cX4_dropsAt 4 = .ok (.if_icmp .ge 43, 3) := by decide +kernel
theorem dX4_dropsAt_7 : decode cX4_dropsAt 7 = .ok (.aload_n 0, 1) := by decide +kernel
theorem dX4_dropsAt_8 : decode cX4_dropsAt 8 = .ok (.iload_n 2, 1) := by decide +kernel
theorem dX4_dropsAt_9 : decode cX4_dropsAt 9 = .ok (.iconst 0, 1) := by decide +kernel
theorem dX4_dropsAt_10 : decode cX4_dropsAt 10 = .ok (.iload_n 1, 1) := by decide +kernel
theorem dX4_dropsAt_11 : decode cX4_dropsAt 11 = .ok (.invokevirtual 57, 3) := by decide +kernel
theorem dX4_dropsAt_14 : decode cX4_dropsAt 14 = .ok (.aload_n 0, 1) := by decide +kernel
theorem dX4_dropsAt_15 : decode cX4_dropsAt 15 = .ok (.iload_n 2, 1) := by decide +kernel
theorem dX4_dropsAt_16 : decode cX4_dropsAt 16 = .ok (.iconst 0, 1) := by decide +kernel
theorem dX4_dropsAt_17 : decode cX4_dropsAt 17 = .ok (.invokevirtual 54, 3) := by decide +kernel
theorem dX4_dropsAt_20 : decode cX4_dropsAt 20 = .ok (.if_icmp .lt 19, 3) := by decide +kernel
theorem dX4_dropsAt_23 : decode cX4_dropsAt 23 = .ok (.aload_n 0, 1) := by decide +kernel
theorem dX4_dropsAt_24 : decode cX4_dropsAt 24 = .ok (.iload_n 2, 1) := by decide +kernel
theorem dX4_dropsAt_25 : decode cX4_dropsAt 25 = .ok (.iconst 1, 1) := by decide +kernel
theorem dX4_dropsAt_26 : decode cX4_dropsAt 26 = .ok (.iload_n 1, 1) := by decide +kernel
theorem dX4_dropsAt_27 : decode cX4_dropsAt 27 = .ok (.invokevirtual 57, 3) := by decide +kernel
theorem dX4_dropsAt_30 : decode cX4_dropsAt 30 = .ok (.aload_n 0, 1) := by decide +kernel
theorem dX4_dropsAt_31 : decode cX4_dropsAt 31 = .ok (.iload_n 2, 1) := by decide +kernel
theorem dX4_dropsAt_32 : decode cX4_dropsAt 32 = .ok (.iconst 1, 1) := by decide +kernel
theorem dX4_dropsAt_33 : decode cX4_dropsAt 33 = .ok (.invokevirtual 54, 3) := by decide +kernel
theorem dX4_dropsAt_36 : decode cX4_dropsAt 36 = .ok (.if_icmp .ge 5, 3) := by decide +kernel
theorem dX4_dropsAt_39 : decode cX4_dropsAt 39 = .ok (.iconst 1, 1) := by decide +kernel
theorem dX4_dropsAt_40 : decode cX4_dropsAt 40 = .ok (.ireturn, 1) := by decide +kernel
theorem dX4_dropsAt_41 : decode cX4_dropsAt 41 = .ok (.iinc 2 1, 3) := by decide +kernel
theorem dX4_dropsAt_44 : decode cX4_dropsAt 44 = .ok (.goto (-42), 3) := by decide +kernel
theorem dX4_dropsAt_47 : decode cX4_dropsAt 47 = .ok (.iconst 0, 1) := by decide +kernel
theorem dX4_dropsAt_48 : decode cX4_dropsAt 48 = .ok (.ireturn, 1) := by decide +kernel
theorem dX5_init_0 : decode cX5_init 0 = .ok (.aload_n 0, 1) := by decide +kernel
theorem dX5_init_1 : decode cX5_init 1 = .ok (.invokespecial 3, 3) := by decide +kernel
theorem dX5_init_4 : decode cX5_init 4 = .ok (.aload_n 0, 1) := by decide +kernel
theorem dX5_init_5 : decode cX5_init 5 = .ok (.new 9, 3) := by decide +kernel
theorem dX5_init_8 : decode cX5_init 8 = .ok (.dup, 1) := by decide +kernel
theorem dX5_init_9 : decode cX5_init 9 = .ok (.invokespecial 11, 3) := by decide +kernel
theorem dX5_init_12 : decode cX5_init 12 = .ok (.putfield 12, 3) := by decide +kernel
theorem dX5_init_15 : decode cX5_init 15 = .ok (.aload_n 0, 1) := by decide +kernel
theorem dX5_init_16 : decode cX5_init 16 = .ok (.bipush 31, 2) := by decide +kernel
theorem dX5_init_18 : decode cX5_init 18 = .ok (.newarray .int, 2) := by decide +kernel
theorem dX5_init_20 : decode cX5_init 20 = .ok (.putfield 18, 3) := by decide +kernel
theorem dX5_init_23 : decode cX5_init 23 = .ok (.aload_n 0, 1) := by decide +kernel
theorem dX5_init_24 : decode cX5_init 24 = .ok (.bipush 31, 2) := by decide +kernel
theorem dX5_init_26 : decode cX5_init 26 = .ok (.newarray .int, 2) := by decide +kernel
theorem dX5_init_28 : decode cX5_init 28 = .ok (.putfield 22, 3) := by decide +kernel
theorem dX5_init_31 : decode cX5_init 31 = .ok (.aload_n 0, 1) := by decide +kernel
theorem dX5_init_32 : decode cX5_init 32 = .ok (.bipush 31, 2) := by decide +kernel
theorem dX5_init_34 : decode cX5_init 34 = .ok (.newarray .int, 2) := by decide +kernel
theorem dX5_init_36 : decode cX5_init 36 = .ok (.putfield 25, 3) := by decide +kernel
theorem dX5_init_39 : decode cX5_init 39 = .ok (.aload_n 0, 1) := by decide +kernel
theorem dX5_init_40 : decode cX5_init 40 = .ok (.bipush 31, 2) := by decide +kernel
theorem dX5_init_42 : decode cX5_init 42 = .ok (.newarray .int, 2) := by decide +kernel
theorem dX5_init_44 : decode cX5_init 44 = .ok (.putfield 28, 3) := by decide +kernel
theorem dX5_init_47 : decode cX5_init 47 = .ok (.aload_n 0, 1) := by decide +kernel
theorem dX5_init_48 : decode cX5_init 48 = .ok (.aload_n 1, 1) := by decide +kernel
theorem dX5_init_49 : decode cX5_init 49 = .ok (.putfield 31, 3) := by decide +kernel
theorem dX5_init_52 : decode cX5_init 52 = .ok (.aload_n 0, 1) := by decide +kernel
theorem dX5_init_53 : decode cX5_init 53 = .ok (.aload_n 2, 1) := by decide +kernel
theorem dX5_init_54 : decode cX5_init 54 = .ok (.putfield 35, 3) := by decide +kernel
theorem dX5_init_57 : decode cX5_init 57 = .ok (.return_, 1) := by decide +kernel
theorem dX5_forget_0 : decode cX5_forget 0 = .ok (.aload_n 0, 1) := by decide +kernel
theorem dX5_forget_1 : decode cX5_forget 1 = .ok (.iconst 0, 1) := by decide +kernel
theorem dX5_forget_2 : decode cX5_forget 2 = .ok (.putfield 39, 3) := by decide +kernel
theorem dX5_forget_5 : decode cX5_forget 5 = .ok (.aload_n 0, 1) := by decide +kernel
theorem dX5_forget_6 : decode cX5_forget 6 = .ok (.iconst 0, 1) := by decide +kernel
theorem dX5_forget_7 : decode cX5_forget 7 = .ok (.putfield 43, 3) := by decide +kernel
theorem dX5_forget_10 : decode cX5_forget 10 = .ok (.return_, 1) := by decide +kernel
theorem dX5_examine_0 : decode cX5_examine 0 = .ok (.iload_n 1, 1) := by decide +kernel
theorem dX5_examine_1 : decode cX5_examine 1 = .ok (.ifCond .lt 20, 3) := by decide +kernel
theorem dX5_examine_4 : decode cX5_examine 4 = .ok (.iload_n 1, 1) := by decide +kernel
theorem dX5_examine_5 : decode cX5_examine 5 = .ok (.bipush 31, 2) := by decide +kernel
theorem dX5_examine_7 : decode cX5_examine 7 = .ok (.if_icmp .ge 14, 3) := by decide +kernel
theorem dX5_examine_10 : decode cX5_examine 10 = .ok (.aload_n 0, 1) := by decide +kernel
theorem dX5_examine_11 : decode cX5_examine 11 = .ok (.getfield 39, 3) := by decide +kernel
theorem dX5_examine_14 : decode cX5_examine 14 = .ok (.iload_n 1, 1) := by decide +kernel
theorem dX5_examine_15 : decode cX5_examine 15 = .ok (.ishr, 1) := by decide +kernel
theorem dX5_examine_16 : decode cX5_examine 16 = .ok (.iconst 1, 1) := by decide +kernel
theorem dX5_examine_17 : decode cX5_examine 17 = .ok (.iand, 1) := by decide +kernel
theorem dX5_examine_18 : decode cX5_examine 18 = .ok (.ifCond .eq 4, 3) := by decide +kernel
theorem dX5_examine_21 : decode cX5_examine 21 = .ok (.return_, 1) := by decide +kernel
theorem dX5_examine_22 : decode cX5_examine 22 = .ok (.aload_n 0, 1) := by decide +kernel
theorem dX5_examine_23 : decode cX5_examine 23 = .ok (.getfield 12, 3) := by decide +kernel
theorem dX5_examine_26 : decode cX5_examine 26 = .ok (.aload_n 0, 1) := by decide +kernel
theorem dX5_examine_27 : decode cX5_examine 27 = .ok (.getfield 31, 3) := by decide +kernel
theorem dX5_examine_30 : decode cX5_examine 30 = .ok (.getfield 47, 3) := by decide +kernel
theorem dX5_examine_33 : decode cX5_examine 33 = .ok (.invokevirtual 52, 3) := by decide +kernel
theorem dX5_examine_36 : decode cX5_examine 36 = .ok (.iconst 1, 1) := by decide +kernel
theorem dX5_examine_37 : decode cX5_examine 37 = .ok (.istore_n 2, 1) := by decide +kernel
theorem dX5_examine_38 : decode cX5_examine 38 = .ok (.iload_n 2, 1) := by decide +kernel
theorem dX5_examine_39 : decode cX5_examine 39 = .ok (.aload_n 0, 1) := by decide +kernel
theorem dX5_examine_40 : decode cX5_examine 40 = .ok (.getfield 35, 3) := by decide +kernel
theorem dX5_examine_43 : decode cX5_examine 43 = .ok (.getfield 56, 3) := by decide +kernel
theorem dX5_examine_46 : decode cX5_examine 46 = .ok (.if_icmp .ge 33, 3) := by decide +kernel
theorem dX5_examine_49 : decode cX5_examine 49 = .ok (.aload_n 0, 1) := by decide +kernel
theorem dX5_examine_50 : decode cX5_examine 50 = .ok (.getfield 35, 3) := by decide +kernel
theorem dX5_examine_53 : decode cX5_examine 53 = .ok (.iload_n 2, 1) := by decide +kernel
theorem dX5_examine_54 : decode cX5_examine 54 = .ok (.iload_n 1, 1) := by decide +kernel
theorem dX5_examine_55 : decode cX5_examine 55 = .ok (.aload_n 0, 1) := by decide +kernel
theorem dX5_examine_56 : decode cX5_examine 56 = .ok (.getfield 12, 3) := by decide +kernel
theorem dX5_examine_59 : decode cX5_examine 59 = .ok (.getfield 61, 3) := by decide +kernel
theorem dX5_examine_62 : decode cX5_examine 62 = .ok (.invokevirtual 64, 3) := by decide +kernel
theorem dX5_examine_65 : decode cX5_examine 65 = .ok (.aload_n 0, 1) := by decide +kernel
theorem dX5_examine_66 : decode cX5_examine 66 = .ok (.getfield 12, 3) := by decide +kernel
theorem dX5_examine_69 : decode cX5_examine 69 = .ok (.invokevirtual 68, 3) := by decide +kernel
theorem dX5_examine_72 : decode cX5_examine 72 = .ok (.pop, 1) := by decide +kernel
theorem dX5_examine_73 : decode cX5_examine 73 = .ok (.iinc 2 1, 3) := by decide +kernel
theorem dX5_examine_76 : decode cX5_examine 76 = .ok (.goto (-38), 3) := by decide +kernel
theorem dX5_examine_79 : decode cX5_examine 79 = .ok (.aload_n 0, 1) := by decide +kernel
theorem dX5_examine_80 : decode cX5_examine 80 = .ok (.getfield 22, 3) := by decide +kernel
theorem dX5_examine_83 : decode cX5_examine 83 = .ok (.iload_n 1, 1) := by decide +kernel
theorem dX5_examine_84 : decode cX5_examine 84 = .ok (.aload_n 0, 1) := by decide +kernel
theorem dX5_examine_85 : decode cX5_examine 85 = .ok (.getfield 12, 3) := by decide +kernel
theorem dX5_examine_88 : decode cX5_examine 88 = .ok (.getfield 72, 3) := by decide +kernel
theorem dX5_examine_91 : decode cX5_examine 91 = .ok (.iastore, 1) := by decide +kernel
theorem dX5_examine_92 : decode cX5_examine 92 = .ok (.aload_n 0, 1) := by decide +kernel
theorem dX5_examine_93 : decode cX5_examine 93 = .ok (.getfield 35, 3) := by decide +kernel
theorem dX5_examine_96 : decode cX5_examine 96 = .ok (.iconst 0, 1) := by decide +kernel
theorem dX5_examine_97 : decode cX5_examine 97 = .ok (.iload_n 1, 1) := by decide +kernel
theorem dX5_examine_98 : decode cX5_examine 98 = .ok (.aload_n 0, 1) := by decide +kernel
theorem dX5_examine_99 : decode cX5_examine 99 = .ok (.getfield 12, 3) := by decide +kernel
theorem dX5_examine_102 : decode cX5_examine 102 = .ok (.getfield 61, 3) := by decide +kernel
theorem dX5_examine_105 : decode cX5_examine 105 = .ok (.invokevirtual 64, 3) := by decide +kernel
theorem dX5_examine_108 : decode cX5_examine 108 = .ok (.aload_n 0, 1) := by decide +kernel
theorem dX5_examine_109 : decode cX5_examine 109 = .ok (.getfield 12, 3) := by decide +kernel
theorem dX5_examine_112 : decode cX5_examine 112 = .ok (.invokevirtual 68, 3) := by decide +kernel
theorem dX5_examine_115 : decode cX5_examine 115 = .ok (.pop, 1) := by decide +kernel
theorem dX5_examine_116 : decode cX5_examine 116 = .ok (.aload_n 0, 1) := by decide +kernel
theorem dX5_examine_117 : decode cX5_examine 117 = .ok (.getfield 18, 3) := by decide +kernel
theorem dX5_examine_120 : decode cX5_examine 120 = .ok (.iload_n 1, 1) := by decide +kernel
theorem dX5_examine_121 : decode cX5_examine 121 = .ok (.aload_n 0, 1) := by decide +kernel
theorem dX5_examine_122 : decode cX5_examine 122 = .ok (.getfield 12, 3) := by decide +kernel
theorem dX5_examine_125 : decode cX5_examine 125 = .ok (.getfield 72, 3) := by decide +kernel
theorem dX5_examine_128 : decode cX5_examine 128 = .ok (.iastore, 1) := by decide +kernel
theorem dX5_examine_129 : decode cX5_examine 129 = .ok (.aload_n 0, 1) := by decide +kernel
theorem dX5_examine_130 : decode cX5_examine 130 = .ok (.getfield 12, 3) := by decide +kernel
theorem dX5_examine_133 : decode cX5_examine 133 = .ok (.getfield 72, 3) := by decide +kernel
theorem dX5_examine_136 : decode cX5_examine 136 = .ok (.aload_n 0, 1) := by decide +kernel
theorem dX5_examine_137 : decode cX5_examine 137 = .ok (.getfield 35, 3) := by decide +kernel
theorem dX5_examine_140 : decode cX5_examine 140 = .ok (.getfield 56, 3) := by decide +kernel
theorem dX5_examine_143 : decode cX5_examine 143 = .ok (.iconst 1, 1) := by decide +kernel
theorem dX5_examine_144 : decode cX5_examine 144 = .ok (.isub, 1) := by decide +kernel
theorem dX5_examine_145 : decode cX5_examine 145 = .ok (.if_icmp .ne 7, 3) := by decide +kernel
theorem dX5_examine_148 : decode cX5_examine 148 = .ok (.iconst 1, 1) := by decide +kernel
theorem dX5_examine_149 : decode cX5_examine 149 = .ok (.goto 4, 3) := by decide +kernel
theorem dX5_examine_152 : decode cX5_examine 152 = .ok (.iconst 0, 1) := by decide +kernel
theorem dX5_examine_153 : decode cX5_examine 153 = .ok (.istore_n 2, 1) := by decide +kernel
theorem dX5_examine_154 : decode cX5_examine 154 = .ok (.aload_n 0, 1) := by decide +kernel
theorem dX5_examine_155 : decode cX5_examine 155 = .ok (.getfield 25, 3) := by decide +kernel
theorem dX5_examine_158 : decode cX5_examine 158 = .ok (.iload_n 1, 1) := by decide +kernel
theorem dX5_examine_159 : decode cX5_examine 159 = .ok (.iload_n 2, 1) := by decide +kernel
theorem dX5_examine_160 : decode cX5_examine 160 = .ok (.ifCond .eq 25, 3) := by decide +kernel
theorem dX5_examine_163 : decode cX5_examine 163 = .ok (.aload_n 0, 1) := by decide +kernel
theorem dX5_examine_164 : decode cX5_examine 164 = .ok (.getfield 35, 3) := by decide +kernel
theorem dX5_examine_167 : decode cX5_examine 167 = .ok (.getfield 75, 3) := by decide +kernel
theorem dX5_examine_170 : decode cX5_examine 170 = .ok (.iconst 2, 1) := by decide +kernel
theorem dX5_examine_171 : decode cX5_examine 171 = .ok (.if_icmp .ne 14, 3) := by decide +kernel
theorem dX5_examine_174 : decode cX5_examine 174 = .ok (.aload_n 0, 1) := by decide +kernel
theorem dX5_examine_175 : decode cX5_examine 175 = .ok (.getfield 12, 3) := by decide +kernel
theorem dX5_examine_178 : decode cX5_examine 178 = .ok (.iconst 1, 1) := by decide +kernel
theorem dX5_examine_179 : decode cX5_examine 179 = .ok (.invokevirtual 78, 3) := by decide +kernel
theorem dX5_examine_182 : decode cX5_examine 182 = .ok (.goto 5, 3) := by decide +kernel
theorem dX5_examine_185 : decode cX5_examine 185 = .ok (.bipush (-9), 2) := by decide +kernel
theorem dX5_examine_187 : decode cX5_examine 187 = .ok (.iastore, 1) := by decide +kernel
theorem dX5_examine_188 : decode cX5_examine 188 = .ok (.aload_n 0, 1) := by decide +kernel
theorem dX5_examine_189 : decode cX5_examine 189 = .ok (.getfield 28, 3) := by decide +kernel
theorem dX5_examine_192 : decode cX5_examine 192 = .ok (.iload_n 1, 1) := by decide +kernel
theorem dX5_examine_193 : decode cX5_examine 193 = .ok (.iload_n 2, 1) := by decide +kernel
theorem dX5_examine_194 : decode cX5_examine 194 = .ok (.ifCond .eq 20, 3) := by decide +kernel
theorem dX5_examine_197 : decode cX5_examine 197 = .ok (.aload_n 0, 1) := by decide +kernel
theorem dX5_examine_198 : decode cX5_examine 198 = .ok (.getfield 12, 3) := by decide +kernel
theorem dX5_examine_201 : decode cX5_examine 201 = .ok (.aload_n 0, 1) := by decide +kernel
theorem dX5_examine_202 : decode cX5_examine 202 = .ok (.getfield 35, 3) := by decide +kernel
theorem dX5_examine_205 : decode cX5_examine 205 = .ok (.getfield 75, 3) := by decide +kernel
theorem dX5_examine_208 : decode cX5_examine 208 = .ok (.invokevirtual 78, 3) := by decide +kernel
theorem dX5_examine_211 : decode cX5_examine 211 = .ok (.goto 5, 3) := by decide +kernel
theorem dX5_examine_214 : decode cX5_examine 214 = .ok (.bipush (-9), 2) := by decide +kernel
theorem dX5_examine_216 : decode cX5_examine 216 = .ok (.iastore, 1) := by decide +kernel
theorem dX5_examine_217 : decode cX5_examine 217 = .ok (.aload_n 0, 1) := by decide +kernel
theorem dX5_examine_218 : decode cX5_examine 218 = .ok (.dup, 1) := by decide +kernel
theorem dX5_examine_219 : decode cX5_examine 219 = .ok (.getfield 39, 3) := by decide +kernel
theorem dX5_examine_222 : decode cX5_examine 222 = .ok (.iconst 1, 1) := by decide +kernel
theorem dX5_examine_223 : decode cX5_examine 223 = .ok (.iload_n 1, 1) := by decide +kernel
theorem dX5_examine_224 : decode cX5_examine 224 = .ok (.ishl, 1) := by decide +kernel
theorem dX5_examine_225 : decode cX5_examine 225 = .ok (.ior, 1) := by decide +kernel
theorem dX5_examine_226 : decode cX5_examine 226 = .ok (.putfield 39, 3) := by decide +kernel
theorem dX5_examine_229 : decode cX5_examine 229 = .ok (.return_, 1) := by decide +kernel
theorem dX5_rankOf_0 : decode cX5_rankOf 0 = .ok (.iload_n 1, 1) := by decide +kernel
theorem dX5_rankOf_1 : decode cX5_rankOf 1 = .ok (.ifCond .lt 18, 3) := by decide +kernel
theorem dX5_rankOf_4 : decode cX5_rankOf 4 = .ok (.iload_n 1, 1) := by decide +kernel
theorem dX5_rankOf_5 : decode cX5_rankOf 5 = .ok (.bipush 31, 2) := by decide +kernel
theorem dX5_rankOf_7 : decode cX5_rankOf 7 = .ok (.if_icmp .ge 12, 3) := by decide +kernel
theorem dX5_rankOf_10 : decode cX5_rankOf 10 = .ok (.aload_n 0, 1) := by decide +kernel
theorem dX5_rankOf_11 : decode cX5_rankOf 11 = .ok (.getfield 18, 3) := by decide +kernel
theorem dX5_rankOf_14 : decode cX5_rankOf 14 = .ok (.iload_n 1, 1) := by decide +kernel
theorem dX5_rankOf_15 : decode cX5_rankOf 15 = .ok (.iaload, 1) := by decide +kernel
theorem dX5_rankOf_16 : decode cX5_rankOf 16 = .ok (.goto 4, 3) := by decide +kernel
theorem dX5_rankOf_19 : decode cX5_rankOf 19 = .ok (.iconst 0, 1) := by decide +kernel
theorem dX5_rankOf_20 : decode cX5_rankOf 20 = .ok (.ireturn, 1) := by decide +kernel
theorem dX5_coordinate_0 : decode cX5_coordinate 0 = .ok (.iload_n 1, 1) := by decide +kernel
theorem dX5_coordinate_1 : decode cX5_coordinate 1 = .ok (.ifCond .lt 9, 3) := by decide +kernel
theorem dX5_coordinate_4 : decode cX5_coordinate 4 = .ok (.iload_n 1, 1) := by decide +kernel
theorem dX5_coordinate_5 : decode cX5_coordinate 5 = .ok (.bipush 31, 2) := by decide +kernel
theorem dX5_coordinate_7 : decode cX5_coordinate 7 = .ok (.if_icmp .lt 6, 3) := by decide +kernel
theorem dX5_coordinate_10 : decode cX5_coordinate 10 = .ok (.bipush (-9), 2) := by decide +kernel
theorem dX5_coordinate_12 : decode cX5_coordinate 12 = .ok (.ireturn, 1) := by decide +kernel
theorem dX5_coordinate_13 : decode cX5_coordinate 13 = .ok (.iload_n 2, 1) := by decide +kernel
theorem dX5_coordinate_14 : decode cX5_coordinate 14 = .ok (.ifCond .eq 12, 3) := by decide +kernel
theorem dX5_coordinate_17 : decode cX5_coordinate 17 = .ok (.aload_n 0, 1) := by decide +kernel
theorem dX5_coordinate_18 : decode cX5_coordinate 18 = .ok (.getfield 28, 3) := by decide +kernel
theorem dX5_coordinate_21 : decode cX5_coordinate 21 = .ok (.iload_n 1, 1) := by decide +kernel
theorem dX5_coordinate_22 : decode cX5_coordinate 22 = .ok (.iaload, 1) := by decide +kernel
theorem dX5_coordinate_23 : decode cX5_coordinate 23 = .ok (.goto 9, 3) := by decide +kernel
theorem dX5_coordinate_26 : decode cX5_coordinate 26 = .ok (.aload_n 0, 1) := by decide +kernel
theorem dX5_coordinate_27 : decode cX5_coordinate 27 = .ok (.getfield 25, 3) := by decide +kernel
theorem dX5_coordinate_30 : decode cX5_coordinate 30 = .ok (.iload_n 1, 1) := by decide +kernel
theorem dX5_coordinate_31 : decode cX5_coordinate 31 = .ok (.iaload, 1) := by decide +kernel
theorem dX5_coordinate_32 : decode cX5_coordinate 32 = .ok (.ireturn, 1) := by decide +kernel
theorem dX5_survey_0 : decode cX5_survey 0 = .ok (.aload_n 0, 1) := by decide +kernel
theorem dX5_survey_1 : decode cX5_survey 1 = .ok (.getfield 43, 3) := by decide +kernel
theorem dX5_survey_4 : decode cX5_survey 4 = .ok (.ifCond .eq 4, 3) := by decide +kernel
theorem dX5_survey_7 : decode cX5_survey 7 = .ok (.return_, 1) := by decide +kernel
theorem dX5_survey_8 : decode cX5_survey 8 = .ok (.aload_n 0, 1) := by decide +kernel
theorem dX5_survey_9 : decode cX5_survey 9 = .ok (.iconst 1, 1) := by decide +kernel
theorem dX5_survey_10 : decode cX5_survey 10 = .ok (.putfield 43, 3) := by decide +kernel
theorem dX5_survey_13 : decode cX5_survey 13 = .ok (.aload_n 0, 1) := by decide +kernel
theorem dX5_survey_14 : decode cX5_survey 14 = .ok (.iconst 0, 1) := by decide +kernel
theorem dX5_survey_15 : decode cX5_survey 15 = .ok (.putfield 82, 3) := by decide +kernel
theorem dX5_survey_18 : decode cX5_survey 18 = .ok (.aload_n 0, 1) := by decide +kernel
theorem dX5_survey_19 : decode cX5_survey 19 = .ok (.iconst 0, 1) := by decide +kernel
theorem dX5_survey_20 : decode cX5_survey 20 = .ok (.putfield 85, 3) := by decide +kernel
theorem dX5_survey_23 : decode cX5_survey 23 = .ok (.aload_n 0, 1) := by decide +kernel
theorem dX5_survey_24 : decode cX5_survey 24 = .ok (.iconst 0, 1) := by decide +kernel
theorem dX5_survey_25 : decode cX5_survey 25 = .ok (.putfield 88, 3) := by decide +kernel
theorem dX5_survey_28 : decode cX5_survey 28 = .ok (.iconst 0, 1) := by decide +kernel
theorem dX5_survey_29 : decode cX5_survey 29 = .ok (.istore_n 1, 1) := by decide +kernel
theorem dX5_survey_30 : decode cX5_survey 30 = .ok (.iload_n 1, 1) := by decide +kernel
theorem dX5_survey_31 : decode cX5_survey 31 = .ok (.aload_n 0, 1) := by decide +kernel
theorem dX5_survey_32 : decode cX5_survey 32 = .ok (.getfield 31, 3) := by decide +kernel
theorem dX5_survey_35 : decode cX5_survey 35 = .ok (.getfield 47, 3) := by decide +kernel
theorem dX5_survey_38 : decode cX5_survey 38 = .ok (.if_icmp .ge 65, 3) := by decide +kernel
theorem dX5_survey_41 : decode cX5_survey 41 = .ok (.iload_n 1, 1) := by decide +kernel
theorem dX5_survey_42 : decode cX5_survey 42 = .ok (.bipush 31, 2) := by decide +kernel
theorem dX5_survey_44 : decode cX5_survey 44 = .ok (.if_icmp .ge 59, 3) := by decide +kernel
theorem dX5_survey_47 : decode cX5_survey 47 = .ok (.aload_n 0, 1) := by decide +kernel
theorem dX5_survey_48 : decode cX5_survey 48 = .ok (.iload_n 1, 1) := by decide +kernel
theorem dX5_survey_49 : decode cX5_survey 49 = .ok (.invokevirtual 91, 3) := by decide +kernel
theorem dX5_survey_52 : decode cX5_survey 52 = .ok (.aload_n 0, 1) := by decide +kernel
theorem dX5_survey_53 : decode cX5_survey 53 = .ok (.aload_n 0, 1) := by decide +kernel
theorem dX5_survey_54 : decode cX5_survey 54 = .ok (.getfield 85, 3) := by decide +kernel
theorem dX5_survey_57 : decode cX5_survey 57 = .ok (.aload_n 0, 1) := by decide +kernel
theorem dX5_survey_58 : decode cX5_survey 58 = .ok (.getfield 22, 3) := by decide +kernel
theorem dX5_survey_61 : decode cX5_survey 61 = .ok (.iload_n 1, 1) := by decide +kernel
theorem dX5_survey_62 : decode cX5_survey 62 = .ok (.iaload, 1) := by decide +kernel
theorem dX5_survey_63 : decode cX5_survey 63 = .ok (.invokestatic 94, 3) := by decide +kernel
theorem dX5_survey_66 : decode cX5_survey 66 = .ok (.putfield 85, 3) := by decide +kernel
theorem dX5_survey_69 : decode cX5_survey 69 = .ok (.aload_n 0, 1) := by decide +kernel
theorem dX5_survey_70 : decode cX5_survey 70 = .ok (.getfield 18, 3) := by decide +kernel
theorem dX5_survey_73 : decode cX5_survey 73 = .ok (.iload_n 1, 1) := by decide +kernel
theorem dX5_survey_74 : decode cX5_survey 74 = .ok (.iaload, 1) := by decide +kernel
theorem dX5_survey_75 : decode cX5_survey 75 = .ok (.aload_n 0, 1) := by decide +kernel
theorem dX5_survey_76 : decode cX5_survey 76 = .ok (.getfield 82, 3) := by decide +kernel
theorem dX5_survey_79 : decode cX5_survey 79 = .ok (.if_icmp .le 18, 3) := by decide +kernel
theorem dX5_survey_82 : decode cX5_survey 82 = .ok (.aload_n 0, 1) := by decide +kernel
theorem dX5_survey_83 : decode cX5_survey 83 = .ok (.aload_n 0, 1) := by decide +kernel
theorem dX5_survey_84 : decode cX5_survey 84 = .ok (.getfield 18, 3) := by decide +kernel
theorem dX5_survey_87 : decode cX5_survey 87 = .ok (.iload_n 1, 1) := by decide +kernel
theorem dX5_survey_88 : decode cX5_survey 88 = .ok (.iaload, 1) := by decide +kernel
theorem dX5_survey_89 : decode cX5_survey 89 = .ok (.putfield 82, 3) := by decide +kernel
theorem dX5_survey_92 : decode cX5_survey 92 = .ok (.aload_n 0, 1) := by decide +kernel
theorem dX5_survey_93 : decode cX5_survey 93 = .ok (.iload_n 1, 1) := by decide +kernel
theorem dX5_survey_94 : decode cX5_survey 94 = .ok (.putfield 88, 3) := by decide +kernel
theorem dX5_survey_97 : decode cX5_survey 97 = .ok (.iinc 1 1, 3) := by decide +kernel
theorem dX5_survey_100 : decode cX5_survey 100 = .ok (.goto (-70), 3) := by decide +kernel
theorem dX5_survey_103 : decode cX5_survey 103 = .ok (.aload_n 0, 1) := by decide +kernel
theorem dX5_survey_104 : decode cX5_survey 104 = .ok (.invokevirtual 100, 3) := by decide +kernel
theorem dX5_survey_107 : decode cX5_survey 107 = .ok (.aload_n 0, 1) := by decide +kernel
theorem dX5_survey_108 : decode cX5_survey 108 = .ok (.invokevirtual 103, 3) := by decide +kernel
theorem dX5_survey_111 : decode cX5_survey 111 = .ok (.aload_n 0, 1) := by decide +kernel
theorem dX5_survey_112 : decode cX5_survey 112 = .ok (.invokevirtual 106, 3) := by decide +kernel
theorem dX5_survey_115 : decode cX5_survey 115 = .ok (.return_, 1) := by decide +kernel
theorem dX5_findDrops_0 : decode cX5_findDrops 0 = .ok (.aload_n 0, 1) := by decide +kernel
theorem dX5_findDrops_1 : decode cX5_findDrops 1 = .ok (.iconst 0, 1) := by decide +kernel
theorem dX5_findDrops_2 : decode cX5_findDrops 2 = .ok (.putfield 109, 3) := by decide +kernel
theorem dX5_findDrops_5 : decode cX5_findDrops 5 = .ok (.iconst 0, 1) := by decide +kernel
theorem dX5_findDrops_6 : decode cX5_findDrops 6 = .ok (.istore_n 1, 1) := by decide +kernel
theorem dX5_findDrops_7 : decode cX5_findDrops 7 = .ok (.iload_n 1, 1) := by decide +kernel
theorem dX5_findDrops_8 : decode cX5_findDrops 8 = .ok (.aload_n 0, 1) := by decide +kernel
theorem dX5_findDrops_9 : decode cX5_findDrops 9 = .ok (.getfield 31, 3) := by decide +kernel
theorem dX5_findDrops_12 : decode cX5_findDrops 12 = .ok (.getfield 47, 3) := by decide +kernel
theorem dX5_findDrops_15 : decode cX5_findDrops 15 = .ok (.if_icmp .ge 40, 3) := by decide +kernel
theorem dX5_findDrops_18 : decode cX5_findDrops 18 = .ok (.iload_n 1, 1) := by decide +kernel
theorem dX5_findDrops_19 : decode cX5_findDrops 19 = .ok (.bipush 31, 2) := by decide +kernel
theorem dX5_findDrops_21 : decode cX5_findDrops 21 = .ok (.if_icmp .ge 34, 3) := by decide +kernel
theorem dX5_findDrops_24 : decode cX5_findDrops 24 = .ok (.aload_n 0, 1) := by decide +kernel
theorem dX5_findDrops_25 : decode cX5_findDrops 25 = .ok (.getfield 18, 3) := by decide +kernel
theorem dX5_findDrops_28 : decode cX5_findDrops 28 = .ok (.iload_n 1, 1) := by decide +kernel
theorem dX5_findDrops_29 : decode cX5_findDrops 29 = .ok (.iaload, 1) := by decide +kernel
theorem dX5_findDrops_30 : decode cX5_findDrops 30 = .ok (.aload_n 0, 1) := by decide +kernel
theorem dX5_findDrops_31 : decode cX5_findDrops 31 = .ok (.getfield 82, 3) := by decide +kernel
theorem dX5_findDrops_34 : decode cX5_findDrops 34 = .ok (.if_icmp .ge 15, 3) := by decide +kernel
theorem dX5_findDrops_37 : decode cX5_findDrops 37 = .ok (.aload_n 0, 1) := by decide +kernel
theorem dX5_findDrops_38 : decode cX5_findDrops 38 = .ok (.dup, 1) := by decide +kernel
theorem dX5_findDrops_39 : decode cX5_findDrops 39 = .ok (.getfield 109, 3) := by decide +kernel
theorem dX5_findDrops_42 : decode cX5_findDrops 42 = .ok (.iconst 1, 1) := by decide +kernel
theorem dX5_findDrops_43 : decode cX5_findDrops 43 = .ok (.iload_n 1, 1) := by decide +kernel
theorem dX5_findDrops_44 : decode cX5_findDrops 44 = .ok (.ishl, 1) := by decide +kernel
theorem dX5_findDrops_45 : decode cX5_findDrops 45 = .ok (.ior, 1) := by decide +kernel
theorem dX5_findDrops_46 : decode cX5_findDrops 46 = .ok (.putfield 109, 3) := by decide +kernel
theorem dX5_findDrops_49 : decode cX5_findDrops 49 = .ok (.iinc 1 1, 3) := by decide +kernel
theorem dX5_findDrops_52 : decode cX5_findDrops 52 = .ok (.goto (-45), 3) := by decide +kernel
theorem dX5_findDrops_55 : decode cX5_findDrops 55 = .ok (.return_, 1) := by decide +kernel
theorem dX5_selectRows_0 : decode cX5_selectRows 0 = .ok (.aload_n 0, 1) := by decide +kernel
theorem dX5_selectRows_1 : decode cX5_selectRows 1 = .ok (.iconst 0, 1) := by decide +kernel
theorem dX5_selectRows_2 : decode cX5_selectRows 2 = .ok (.putfield 112, 3) := by decide +kernel
theorem dX5_selectRows_5 : decode cX5_selectRows 5 = .ok (.aload_n 0, 1) := by decide +kernel
theorem dX5_selectRows_6 : decode cX5_selectRows 6 = .ok (.getfield 12, 3) := by decide +kernel
theorem dX5_selectRows_9 : decode cX5_selectRows 9 = .ok (.aload_n 0, 1) := by decide +kernel
theorem dX5_selectRows_10 : decode cX5_selectRows 10 = .ok (.getfield 31, 3) := by decide +kernel
theorem dX5_selectRows_13 : decode cX5_selectRows 13 = .ok (.getfield 47, 3) := by decide +kernel
theorem dX5_selectRows_16 : decode cX5_selectRows 16 = .ok (.invokevirtual 52, 3) := by decide +kernel
theorem dX5_selectRows_19 : decode cX5_selectRows 19 = .ok (.iconst 0, 1) := by decide +kernel
theorem dX5_selectRows_20 : decode cX5_selectRows 20 = .ok (.istore_n 1, 1) := by decide +kernel
theorem dX5_selectRows_21 : decode cX5_selectRows 21 = .ok (.iload_n 1, 1) := by decide +kernel
theorem dX5_selectRows_22 : decode cX5_selectRows 22 = .ok (.aload_n 0, 1) := by decide +kernel
theorem dX5_selectRows_23 : decode cX5_selectRows 23 = .ok (.getfield 35, 3) := by decide +kernel
theorem dX5_selectRows_26 : decode cX5_selectRows 26 = .ok (.getfield 56, 3) := by decide +kernel
theorem dX5_selectRows_29 : decode cX5_selectRows 29 = .ok (.if_icmp .ge 50, 3) := by decide +kernel
theorem dX5_selectRows_32 : decode cX5_selectRows 32 = .ok (.aload_n 0, 1) := by decide +kernel
theorem dX5_selectRows_33 : decode cX5_selectRows 33 = .ok (.getfield 35, 3) := by decide +kernel
theorem dX5_selectRows_36 : decode cX5_selectRows 36 = .ok (.iload_n 1, 1) := by decide +kernel
theorem dX5_selectRows_37 : decode cX5_selectRows 37 = .ok (.aload_n 0, 1) := by decide +kernel
theorem dX5_selectRows_38 : decode cX5_selectRows 38 = .ok (.getfield 88, 3) := by decide +kernel
theorem dX5_selectRows_41 : decode cX5_selectRows 41 = .ok (.aload_n 0, 1) := by decide +kernel
theorem dX5_selectRows_42 : decode cX5_selectRows 42 = .ok (.getfield 12, 3) := by decide +kernel
theorem dX5_selectRows_45 : decode cX5_selectRows 45 = .ok (.getfield 61, 3) := by decide +kernel
theorem dX5_selectRows_48 : decode cX5_selectRows 48 = .ok (.invokevirtual 64, 3) := by decide +kernel
theorem dX5_selectRows_51 : decode cX5_selectRows 51 = .ok (.aload_n 0, 1) := by decide +kernel
theorem dX5_selectRows_52 : decode cX5_selectRows 52 = .ok (.getfield 12, 3) := by decide +kernel
theorem dX5_selectRows_55 : decode cX5_selectRows 55 = .ok (.invokevirtual 68, 3) := by decide +kernel
theorem dX5_selectRows_58 : decode cX5_selectRows 58 = .ok (.ifCond .eq 15, 3) := by decide +kernel
theorem dX5_selectRows_61 : decode cX5_selectRows 61 = .ok (.aload_n 0, 1) := by decide +kernel
theorem dX5_selectRows_62 : decode cX5_selectRows 62 = .ok (.dup, 1) := by decide +kernel
theorem dX5_selectRows_63 : decode cX5_selectRows 63 = .ok (.getfield 112, 3) := by decide +kernel
theorem dX5_selectRows_66 : decode cX5_selectRows 66 = .ok (.iconst 1, 1) := by decide +kernel
theorem dX5_selectRows_67 : decode cX5_selectRows 67 = .ok (.iload_n 1, 1) := by decide +kernel
theorem dX5_selectRows_68 : decode cX5_selectRows 68 = .ok (.ishl, 1) := by decide +kernel
theorem dX5_selectRows_69 : decode cX5_selectRows 69 = .ok (.ior, 1) := by decide +kernel
theorem dX5_selectRows_70 : decode cX5_selectRows 70 = .ok (.putfield 112, 3) := by decide +kernel
theorem dX5_selectRows_73 : decode cX5_selectRows 73 = .ok (.iinc 1 1, 3) := by decide +kernel
theorem dX5_selectRows_76 : decode cX5_selectRows 76 = .ok (.goto (-55), 3) := by decide +kernel
theorem dX5_selectRows_79 : decode cX5_selectRows 79 = .ok (.return_, 1) := by decide +kernel
theorem dX5_selectColumns_0 : decode cX5_selectColumns 0 = .ok (.aload_n 0, 1) := by decide +kernel
theorem dX5_selectColumns_1 : decode cX5_selectColumns 1 = .ok (.iconst 0, 1) := by decide +kernel
theorem dX5_selectColumns_2 : decode cX5_selectColumns 2 = .ok (.putfield 115, 3) := by decide +kernel
theorem dX5_selectColumns_5 : decode cX5_selectColumns 5 = .ok (.aload_n 0, 1) := by decide +kernel
theorem dX5_selectColumns_6 : decode cX5_selectColumns 6 = .ok (.getfield 12, 3) := by decide +kernel
theorem dX5_selectColumns_9 : decode cX5_selectColumns 9 = .ok (.aload_n 0, 1) := by decide +kernel
theorem dX5_selectColumns_10 : decode cX5_selectColumns 10 = .ok (.getfield 31, 3) := by decide +kernel
theorem dX5_selectColumns_13 : decode cX5_selectColumns 13 = .ok (.getfield 47, 3) := by decide +kernel
theorem dX5_selectColumns_16 : decode cX5_selectColumns 16 = .ok (.invokevirtual 52, 3) := by decide +kernel
theorem dX5_selectColumns_19 : decode cX5_selectColumns 19 = .ok (.iconst 0, 1) := by decide +kernel
theorem dX5_selectColumns_20 : decode cX5_selectColumns 20 = .ok (.istore_n 1, 1) := by decide +kernel
theorem dX5_selectColumns_21 : decode cX5_selectColumns 21 = .ok (.iload_n 1, 1) := by decide +kernel
theorem dX5_selectColumns_22 : decode cX5_selectColumns 22 = .ok (.aload_n 0, 1) := by decide +kernel
theorem dX5_selectColumns_23 : decode cX5_selectColumns 23 = .ok (.getfield 35, 3) := by decide +kernel
theorem dX5_selectColumns_26 : decode cX5_selectColumns 26 = .ok (.getfield 56, 3) := by decide +kernel
theorem dX5_selectColumns_29 : decode cX5_selectColumns 29 = .ok (.if_icmp .ge 50, 3) := by decide +kernel
theorem dX5_selectColumns_32 : decode cX5_selectColumns 32 = .ok (.aload_n 0, 1) := by decide +kernel
theorem dX5_selectColumns_33 : decode cX5_selectColumns 33 = .ok (.getfield 35, 3) := by decide +kernel
theorem dX5_selectColumns_36 : decode cX5_selectColumns 36 = .ok (.iload_n 1, 1) := by decide +kernel
theorem dX5_selectColumns_37 : decode cX5_selectColumns 37 = .ok (.aload_n 0, 1) := by decide +kernel
theorem dX5_selectColumns_38 : decode cX5_selectColumns 38 = .ok (.getfield 88, 3) := by decide +kernel
theorem dX5_selectColumns_41 : decode cX5_selectColumns 41 = .ok (.aload_n 0, 1) := by decide +kernel
theorem dX5_selectColumns_42 : decode cX5_selectColumns 42 = .ok (.getfield 12, 3) := by decide +kernel
theorem dX5_selectColumns_45 : decode cX5_selectColumns 45 = .ok (.getfield 61, 3) := by decide +kernel
theorem dX5_selectColumns_48 : decode cX5_selectColumns 48 = .ok (.invokevirtual 118, 3) := by decide +kernel
theorem dX5_selectColumns_51 : decode cX5_selectColumns 51 = .ok (.aload_n 0, 1) := by decide +kernel
theorem dX5_selectColumns_52 : decode cX5_selectColumns 52 = .ok (.getfield 12, 3) := by decide +kernel
theorem dX5_selectColumns_55 : decode cX5_selectColumns 55 = .ok (.invokevirtual 68, 3) := by decide +kernel
theorem dX5_selectColumns_58 : decode cX5_selectColumns 58 = .ok (.ifCond .eq 15, 3) := by decide +kernel
theorem dX5_selectColumns_61 : decode cX5_selectColumns 61 = .ok (.aload_n 0, 1) := by decide +kernel
theorem dX5_selectColumns_62 : decode cX5_selectColumns 62 = .ok (.dup, 1) := by decide +kernel
theorem dX5_selectColumns_63 : decode cX5_selectColumns 63 = .ok (.getfield 115, 3) := by decide +kernel
theorem dX5_selectColumns_66 : decode cX5_selectColumns 66 = .ok (.iconst 1, 1) := by decide +kernel
theorem dX5_selectColumns_67 : decode cX5_selectColumns 67 = .ok (.iload_n 1, 1) := by decide +kernel
theorem dX5_selectColumns_68 : decode cX5_selectColumns 68 = .ok (.ishl, 1) := by decide +kernel
theorem dX5_selectColumns_69 : decode cX5_selectColumns 69 = .ok (.ior, 1) := by decide +kernel
theorem dX5_selectColumns_70 : decode cX5_selectColumns 70 = .ok (.putfield 115, 3) := by decide +kernel
theorem dX5_selectColumns_73 : decode cX5_selectColumns 73 = .ok (.iinc 1 1, 3) := by decide +kernel
theorem dX5_selectColumns_76 : decode cX5_selectColumns 76 = .ok (.goto (-55), 3) := by decide +kernel
theorem dX5_selectColumns_79 : decode cX5_selectColumns 79 = .ok (.return_, 1) := by decide +kernel
theorem dX6_init_0 : decode cX6_init 0 = .ok (.aload_n 0, 1) := by decide +kernel
theorem dX6_init_1 : decode cX6_init 1 = .ok (.invokespecial 3, 3) := by decide +kernel
theorem dX6_init_4 : decode cX6_init 4 = .ok (.aload_n 0, 1) := by decide +kernel
theorem dX6_init_5 : decode cX6_init 5 = .ok (.bipush 31, 2) := by decide +kernel
theorem dX6_init_7 : decode cX6_init 7 = .ok (.bipush 31, 2) := by decide +kernel
theorem dX6_init_9 : decode cX6_init 9 = .ok (.multianewarray 9 2, 4) := by decide +kernel
theorem dX6_init_13 : decode cX6_init 13 = .ok (.putfield 11, 3) := by decide +kernel
theorem dX6_init_16 : decode cX6_init 16 = .ok (.aload_n 0, 1) := by decide +kernel
theorem dX6_init_17 : decode cX6_init 17 = .ok (.iconst 3, 1) := by decide +kernel
theorem dX6_init_18 : decode cX6_init 18 = .ok (.bipush 9, 2) := by decide +kernel
theorem dX6_init_20 : decode cX6_init 20 = .ok (.multianewarray 9 2, 4) := by decide +kernel
theorem dX6_init_24 : decode cX6_init 24 = .ok (.putfield 16, 3) := by decide +kernel
theorem dX6_init_27 : decode cX6_init 27 = .ok (.aload_n 0, 1) := by decide +kernel
theorem dX6_init_28 : decode cX6_init 28 = .ok (.iconst 3, 1) := by decide +kernel
theorem dX6_init_29 : decode cX6_init 29 = .ok (.iconst 3, 1) := by decide +kernel
theorem dX6_init_30 : decode cX6_init 30 = .ok (.multianewarray 9 2, 4) := by decide +kernel
theorem dX6_init_34 : decode cX6_init 34 = .ok (.putfield 19, 3) := by decide +kernel
theorem dX6_init_37 : decode cX6_init 37 = .ok (.aload_n 0, 1) := by decide +kernel
theorem dX6_init_38 : decode cX6_init 38 = .ok (.aload_n 1, 1) := by decide +kernel
theorem dX6_init_39 : decode cX6_init 39 = .ok (.putfield 22, 3) := by decide +kernel
theorem dX6_init_42 : decode cX6_init 42 = .ok (.return_, 1) := by decide +kernel
theorem dX6_forget_0 : decode cX6_forget 0 = .ok (.aload_n 0, 1) := by decide +kernel
theorem dX6_forget_1 : decode cX6_forget 1 = .ok (.iconst 0, 1) := by decide +kernel
theorem dX6_forget_2 : decode cX6_forget 2 = .ok (.putfield 26, 3) := by decide +kernel
theorem dX6_forget_5 : decode cX6_forget 5 = .ok (.return_, 1) := by decide +kernel
theorem dX6_search_0 : decode cX6_search 0 = .ok (.iload_n 1, 1) := by decide +kernel
theorem dX6_search_1 : decode cX6_search 1 = .ok (.ifCond .lt 20, 3) := by decide +kernel
theorem dX6_search_4 : decode cX6_search 4 = .ok (.iload_n 1, 1) := by decide +kernel
theorem dX6_search_5 : decode cX6_search 5 = .ok (.bipush 31, 2) := by decide +kernel
theorem dX6_search_7 : decode cX6_search 7 = .ok (.if_icmp .ge 14, 3) := by decide +kernel
theorem dX6_search_10 : decode cX6_search 10 = .ok (.aload_n 0, 1) := by decide +kernel
theorem dX6_search_11 : decode cX6_search 11 = .ok (.getfield 26, 3) := by decide +kernel
theorem dX6_search_14 : decode cX6_search 14 = .ok (.iload_n 1, 1) := by decide +kernel
theorem dX6_search_15 : decode cX6_search 15 = .ok (.ishr, 1) := by decide +kernel
theorem dX6_search_16 : decode cX6_search 16 = .ok (.iconst 1, 1) := by decide +kernel
theorem dX6_search_17 : decode cX6_search 17 = .ok (.iand, 1) := by decide +kernel
theorem dX6_search_18 : decode cX6_search 18 = .ok (.ifCond .eq 4, 3) := by decide +kernel
theorem dX6_search_21 : decode cX6_search 21 = .ok (.return_, 1) := by decide +kernel
theorem dX6_search_22 : decode cX6_search 22 = .ok (.iconst 0, 1) := by decide +kernel
theorem dX6_search_23 : decode cX6_search 23 = .ok (.istore_n 2, 1) := by decide +kernel
theorem dX6_search_24 : decode cX6_search 24 = .ok (.iload_n 2, 1) := by decide +kernel
theorem dX6_search_25 : decode cX6_search 25 = .ok (.iconst 3, 1) := by decide +kernel
theorem dX6_search_26 : decode cX6_search 26 = .ok (.if_icmp .ge 41, 3) := by decide +kernel
theorem dX6_search_29 : decode cX6_search 29 = .ok (.iconst 0, 1) := by decide +kernel
theorem dX6_search_30 : decode cX6_search 30 = .ok (.istore_n 3, 1) := by decide +kernel
theorem dX6_search_31 : decode cX6_search 31 = .ok (.iload_n 3, 1) := by decide +kernel
theorem dX6_search_32 : decode cX6_search 32 = .ok (.bipush 9, 2) := by decide +kernel
theorem dX6_search_34 : decode cX6_search 34 = .ok (.if_icmp .ge 27, 3) := by decide +kernel
theorem dX6_search_37 : decode cX6_search 37 = .ok (.aload_n 0, 1) := by decide +kernel
theorem dX6_search_38 : decode cX6_search 38 = .ok (.getfield 16, 3) := by decide +kernel
theorem dX6_search_41 : decode cX6_search 41 = .ok (.iload_n 2, 1) := by decide +kernel
theorem dX6_search_42 : decode cX6_search 42 = .ok (.aaload, 1) := by decide +kernel
theorem dX6_search_43 : decode cX6_search 43 = .ok (.iload_n 3, 1) := by decide +kernel
theorem dX6_search_44 : decode cX6_search 44 = .ok (.aload_n 0, 1) := by decide +kernel
theorem dX6_search_45 : decode cX6_search 45 = .ok (.getfield 22, 3) := by decide +kernel
theorem dX6_search_48 : decode cX6_search 48 = .ok (.iload_n 2, 1) := by decide +kernel
theorem dX6_search_49 : decode cX6_search 49 = .ok (.iload_n 3, 1) := by decide +kernel
theorem dX6_search_50 : decode cX6_search 50 = .ok (.iload_n 1, 1) := by decide +kernel
theorem dX6_search_51 : decode cX6_search 51 = .ok (.invokevirtual 30, 3) := by decide +kernel
theorem dX6_search_54 : decode cX6_search 54 = .ok (.iastore, 1) := by decide +kernel
theorem dX6_search_55 : decode cX6_search 55 = .ok (.iinc 3 1, 3) := by decide +kernel
theorem dX6_search_58 : decode cX6_search 58 = .ok (.goto (-27), 3) := by decide +kernel
theorem dX6_search_61 : decode cX6_search 61 = .ok (.iinc 2 1, 3) := by decide +kernel
theorem dX6_search_64 : decode cX6_search 64 = .ok (.goto (-40), 3) := by decide +kernel
theorem dX6_search_67 : decode cX6_search 67 = .ok (.aload_n 0, 1) := by decide +kernel
theorem dX6_search_68 : decode cX6_search 68 = .ok (.getfield 11, 3) := by decide +kernel
theorem dX6_search_71 : decode cX6_search 71 = .ok (.iload_n 1, 1) := by decide +kernel
theorem dX6_search_72 : decode cX6_search 72 = .ok (.aaload, 1) := by decide +kernel
theorem dX6_search_73 : decode cX6_search 73 = .ok (.astore_n 2, 1) := by decide +kernel
theorem dX6_search_74 : decode cX6_search 74 = .ok (.iconst 0, 1) := by decide +kernel
theorem dX6_search_75 : decode cX6_search 75 = .ok (.istore_n 3, 1) := by decide +kernel
theorem dX6_search_76 : decode cX6_search 76 = .ok (.iload_n 3, 1) := by decide +kernel
theorem dX6_search_77 : decode cX6_search 77 = .ok (.aload_n 2, 1) := by decide +kernel
theorem dX6_search_78 : decode cX6_search 78 = .ok (.arraylength, 1) := by decide +kernel
theorem dX6_search_79 : decode cX6_search 79 = .ok (.if_icmp .ge 32, 3) := by decide +kernel
theorem dX6_search_82 : decode cX6_search 82 = .ok (.aload_n 2, 1) := by decide +kernel
theorem dX6_search_83 : decode cX6_search 83 = .ok (.iload_n 3, 1) := by decide +kernel
theorem dX6_search_84 : decode cX6_search 84 = .ok (.iload_n 3, 1) := by decide +kernel
theorem dX6_search_85 : decode cX6_search 85 = .ok (.aload_n 0, 1) := by decide +kernel
theorem dX6_search_86 : decode cX6_search 86 = .ok (.getfield 22, 3) := by decide +kernel
theorem dX6_search_89 : decode cX6_search 89 = .ok (.getfield 36, 3) := by decide +kernel
theorem dX6_search_92 : decode cX6_search 92 = .ok (.if_icmp .ge 11, 3) := by decide +kernel
theorem dX6_search_95 : decode cX6_search 95 = .ok (.aload_n 0, 1) := by decide +kernel
theorem dX6_search_96 : decode cX6_search 96 = .ok (.iload_n 3, 1) := by decide +kernel
theorem dX6_search_97 : decode cX6_search 97 = .ok (.invokevirtual 39, 3) := by decide +kernel
theorem dX6_search_100 : decode cX6_search 100 = .ok (.goto 4, 3) := by decide +kernel
theorem dX6_search_103 : decode cX6_search 103 = .ok (.iconst 0, 1) := by decide +kernel
theorem dX6_search_104 : decode cX6_search 104 = .ok (.iastore, 1) := by decide +kernel
theorem dX6_search_105 : decode cX6_search 105 = .ok (.iinc 3 1, 3) := by decide +kernel
theorem dX6_search_108 : decode cX6_search 108 = .ok (.goto (-32), 3) := by decide +kernel
theorem dX6_search_111 : decode cX6_search 111 = .ok (.aload_n 0, 1) := by decide +kernel
theorem dX6_search_112 : decode cX6_search 112 = .ok (.dup, 1) := by decide +kernel
theorem dX6_search_113 : decode cX6_search 113 = .ok (.getfield 26, 3) := by decide +kernel
theorem dX6_search_116 : decode cX6_search 116 = .ok (.iconst 1, 1) := by decide +kernel
theorem dX6_search_117 : decode cX6_search 117 = .ok (.iload_n 1, 1) := by decide +kernel
theorem dX6_search_118 : decode cX6_search 118 = .ok (.ishl, 1) := by decide +kernel
theorem dX6_search_119 : decode cX6_search 119 = .ok (.ior, 1) := by decide +kernel
theorem dX6_search_120 : decode cX6_search 120 = .ok (.putfield 26, 3) := by decide +kernel
theorem dX6_search_123 : decode cX6_search 123 = .ok (.return_, 1) := by decide +kernel
theorem dX6_ordinatesOf_0 : decode cX6_ordinatesOf 0 = .ok (.aload_n 0, 1) := by decide +kernel
theorem dX6_ordinatesOf_1 : decode cX6_ordinatesOf 1 = .ok (.getfield 22, 3) := by decide +kernel
theorem dX6_ordinatesOf_4 : decode cX6_ordinatesOf 4 = .ok (.getfield 36, 3) := by decide +kernel
theorem dX6_ordinatesOf_7 : decode cX6_ordinatesOf 7 = .ok (.istore_n 2, 1) := by decide +kernel
theorem dX6_ordinatesOf_8 : decode cX6_ordinatesOf 8 = .ok (.iconst 0, 1) := by decide +kernel
theorem dX6_ordinatesOf_9 : decode cX6_ordinatesOf 9 = .ok (.istore_n 3, 1) := by decide +kernel
theorem dX6_ordinatesOf_10 : decode cX6_ordinatesOf 10 = .ok (.iload_n 3, 1) := by decide +kernel
theorem dX6_ordinatesOf_11 : decode cX6_ordinatesOf 11 = .ok (.iconst 3, 1) := by decide +kernel
theorem dX6_ordinatesOf_12 : decode cX6_ordinatesOf 12 = .ok (.if_icmp .ge 71, 3) := by decide +kernel
theorem dX6_ordinatesOf_15 : decode cX6_ordinatesOf 15 = .ok (.aload_n 0, 1) := by decide +kernel
theorem dX6_ordinatesOf_16 : decode cX6_ordinatesOf 16 = .ok (.getfield 16, 3) := by decide +kernel
theorem dX6_ordinatesOf_19 : decode cX6_ordinatesOf 19 = .ok (.iload_n 3, 1) := by decide +kernel
theorem dX6_ordinatesOf_20 : decode cX6_ordinatesOf 20 = .ok (.aaload, 1) := by decide +kernel
theorem dX6_ordinatesOf_21 : decode cX6_ordinatesOf 21 = .ok (.astore 4, 2) := by decide +kernel
theorem dX6_ordinatesOf_23 : decode cX6_ordinatesOf 23 = .ok (.iconst 0, 1) := by decide +kernel
theorem dX6_ordinatesOf_24 : decode cX6_ordinatesOf 24 = .ok (.istore 5, 2) := by decide +kernel
theorem dX6_ordinatesOf_26 : decode cX6_ordinatesOf 26 = .ok (.iload 5, 2) := by decide +kernel
theorem dX6_ordinatesOf_28 : decode cX6_ordinatesOf 28 = .ok (.iconst 3, 1) := by decide +kernel
theorem dX6_ordinatesOf_29 : decode cX6_ordinatesOf 29 = .ok (.if_icmp .ge 48, 3) := by decide +kernel
theorem dX6_ordinatesOf_32 : decode cX6_ordinatesOf 32 = .ok (.aload_n 0, 1) := by decide +kernel
theorem dX6_ordinatesOf_33 : decode cX6_ordinatesOf 33 = .ok (.getfield 19, 3) := by decide +kernel
theorem dX6_ordinatesOf_36 : decode cX6_ordinatesOf 36 = .ok (.iload_n 3, 1) := by decide +kernel
theorem dX6_ordinatesOf_37 : decode cX6_ordinatesOf 37 = .ok (.aaload, 1) := by decide +kernel
theorem dX6_ordinatesOf_38 : decode cX6_ordinatesOf 38 = .ok (.iload 5, 2) := by decide +kernel
theorem dX6_ordinatesOf_40 : decode cX6_ordinatesOf 40 = .ok (.aload 4, 2) := by decide +kernel
theorem dX6_ordinatesOf_42 : decode cX6_ordinatesOf 42 = .ok (.iload 5, 2) := by decide +kernel
theorem dX6_ordinatesOf_44 : decode cX6_ordinatesOf 44 = .ok (.iaload, 1) := by decide +kernel
theorem dX6_ordinatesOf_45 : decode cX6_ordinatesOf 45 = .ok (.iload_n 1, 1) := by decide +kernel
theorem dX6_ordinatesOf_46 : decode cX6_ordinatesOf 46 = .ok (.aload 4, 2) := by decide +kernel
theorem dX6_ordinatesOf_48 : decode cX6_ordinatesOf 48 = .ok (.iconst 3, 1) := by decide +kernel
theorem dX6_ordinatesOf_49 : decode cX6_ordinatesOf 49 = .ok (.iload 5, 2) := by decide +kernel
theorem dX6_ordinatesOf_51 : decode cX6_ordinatesOf 51 = .ok (.iadd, 1) := by decide +kernel
theorem dX6_ordinatesOf_52 : decode cX6_ordinatesOf 52 = .ok (.iaload, 1) := by decide +kernel
theorem dX6_ordinatesOf_53 : decode cX6_ordinatesOf 53 = .ok (.iload_n 1, 1) := by decide +kernel
theorem dX6_ordinatesOf_54 : decode cX6_ordinatesOf 54 = .ok (.aload 4, 2) := by decide +kernel
theorem dX6_ordinatesOf_56 : decode cX6_ordinatesOf 56 = .ok (.bipush 6, 2) := by decide +kernel
theorem dX6_ordinatesOf_58 : decode cX6_ordinatesOf 58 = .ok (.iload 5, 2) := by decide +kernel
theorem dX6_ordinatesOf_60 : decode cX6_ordinatesOf 60 = .ok (.iadd, 1) := by decide +kernel
theorem dX6_ordinatesOf_61 : decode cX6_ordinatesOf 61 = .ok (.iaload, 1) := by decide +kernel
theorem dX6_ordinatesOf_62 : decode cX6_ordinatesOf 62 = .ok (.imul, 1) := by decide +kernel
theorem dX6_ordinatesOf_63 : decode cX6_ordinatesOf 63 = .ok (.iadd, 1) := by decide +kernel
theorem dX6_ordinatesOf_64 : decode cX6_ordinatesOf 64 = .ok (.imul, 1) := by decide +kernel
theorem dX6_ordinatesOf_65 : decode cX6_ordinatesOf 65 = .ok (.iadd, 1) := by decide +kernel
theorem dX6_ordinatesOf_66 : decode cX6_ordinatesOf 66 = .ok (.iload_n 2, 1) := by decide +kernel
theorem dX6_ordinatesOf_67 : decode cX6_ordinatesOf 67 = .ok (.invokestatic 43, 3) := by decide +kernel
theorem dX6_ordinatesOf_70 : decode cX6_ordinatesOf 70 = .ok (.iastore, 1) := by decide +kernel
theorem dX6_ordinatesOf_71 : decode cX6_ordinatesOf 71 = .ok (.iinc 5 1, 3) := by decide +kernel
theorem dX6_ordinatesOf_74 : decode cX6_ordinatesOf 74 = .ok (.goto (-48), 3) := by decide +kernel
theorem dX6_ordinatesOf_77 : decode cX6_ordinatesOf 77 = .ok (.iinc 3 1, 3) := by decide +kernel
theorem dX6_ordinatesOf_80 : decode cX6_ordinatesOf 80 = .ok (.goto (-70), 3) := by decide +kernel
theorem dX6_ordinatesOf_83 : decode cX6_ordinatesOf 83 = .ok (.iconst 0, 1) := by decide +kernel
theorem dX6_ordinatesOf_84 : decode cX6_ordinatesOf 84 = .ok (.istore_n 3, 1) := by decide +kernel
theorem dX6_ordinatesOf_85 : decode cX6_ordinatesOf 85 = .ok (.iconst 0, 1) := by decide +kernel
theorem dX6_ordinatesOf_86 : decode cX6_ordinatesOf 86 = .ok (.istore 4, 2) := by decide +kernel
theorem dX6_ordinatesOf_88 : decode cX6_ordinatesOf 88 = .ok (.iload 4, 2) := by decide +kernel
theorem dX6_ordinatesOf_90 : decode cX6_ordinatesOf 90 = .ok (.iload_n 2, 1) := by decide +kernel
theorem dX6_ordinatesOf_91 : decode cX6_ordinatesOf 91 = .ok (.if_icmp .ge 61, 3) := by decide +kernel
theorem dX6_ordinatesOf_94 : decode cX6_ordinatesOf 94 = .ok (.aload_n 0, 1) := by decide +kernel
theorem dX6_ordinatesOf_95 : decode cX6_ordinatesOf 95 = .ok (.getfield 19, 3) := by decide +kernel
theorem dX6_ordinatesOf_98 : decode cX6_ordinatesOf 98 = .ok (.iconst 0, 1) := by decide +kernel
theorem dX6_ordinatesOf_99 : decode cX6_ordinatesOf 99 = .ok (.aaload, 1) := by decide +kernel
theorem dX6_ordinatesOf_100 : decode cX6_ordinatesOf 100 = .ok (.iload 4, 2) := by decide +kernel
theorem dX6_ordinatesOf_102 : decode cX6_ordinatesOf 102 = .ok (.iload_n 2, 1) := by decide +kernel
theorem dX6_ordinatesOf_103 : decode cX6_ordinatesOf 103 = .ok (.invokestatic 49, 3) := by decide +kernel
theorem dX6_ordinatesOf_106 : decode cX6_ordinatesOf 106 = .ok (.ifCond .ne 40, 3) := by decide +kernel
theorem dX6_ordinatesOf_109 : decode cX6_ordinatesOf 109 = .ok (.aload_n 0, 1) := by decide +kernel
theorem dX6_ordinatesOf_110 : decode cX6_ordinatesOf 110 = .ok (.getfield 19, 3) := by decide +kernel
theorem dX6_ordinatesOf_113 : decode cX6_ordinatesOf 113 = .ok (.iconst 1, 1) := by decide +kernel
theorem dX6_ordinatesOf_114 : decode cX6_ordinatesOf 114 = .ok (.aaload, 1) := by decide +kernel
theorem dX6_ordinatesOf_115 : decode cX6_ordinatesOf 115 = .ok (.iload 4, 2) := by decide +kernel
theorem dX6_ordinatesOf_117 : decode cX6_ordinatesOf 117 = .ok (.iload_n 2, 1) := by decide +kernel
theorem dX6_ordinatesOf_118 : decode cX6_ordinatesOf 118 = .ok (.invokestatic 49, 3) := by decide +kernel
theorem dX6_ordinatesOf_121 : decode cX6_ordinatesOf 121 = .ok (.ifCond .ne 25, 3) := by decide +kernel
theorem dX6_ordinatesOf_124 : decode cX6_ordinatesOf 124 = .ok (.aload_n 0, 1) := by decide +kernel
theorem dX6_ordinatesOf_125 : decode cX6_ordinatesOf 125 = .ok (.getfield 19, 3) := by decide +kernel
theorem dX6_ordinatesOf_128 : decode cX6_ordinatesOf 128 = .ok (.iconst 2, 1) := by decide +kernel
theorem dX6_ordinatesOf_129 : decode cX6_ordinatesOf 129 = .ok (.aaload, 1) := by decide +kernel
theorem dX6_ordinatesOf_130 : decode cX6_ordinatesOf 130 = .ok (.iload 4, 2) := by decide +kernel
theorem dX6_ordinatesOf_132 : decode cX6_ordinatesOf 132 = .ok (.iload_n 2, 1) := by decide +kernel
theorem dX6_ordinatesOf_133 : decode cX6_ordinatesOf 133 = .ok (.invokestatic 49, 3) := by decide +kernel
theorem dX6_ordinatesOf_136 : decode cX6_ordinatesOf 136 = .ok (.ifCond .ne 10, 3) := by decide +kernel
theorem dX6_ordinatesOf_139 : decode cX6_ordinatesOf 139 = .ok (.iload_n 3, 1) := by decide +kernel
theorem dX6_ordinatesOf_140 : decode cX6_ordinatesOf 140 = .ok (.iconst 1, 1) := by decide +kernel
theorem dX6_ordinatesOf_141 : decode cX6_ordinatesOf 141 = .ok (.iload 4, 2) := by decide +kernel
theorem dX6_ordinatesOf_143 : decode cX6_ordinatesOf 143 = .ok (.ishl, 1) := by decide +kernel
theorem dX6_ordinatesOf_144 : decode cX6_ordinatesOf 144 = .ok (.ior, 1) := by decide +kernel
theorem dX6_ordinatesOf_145 : decode cX6_ordinatesOf 145 = .ok (.istore_n 3, 1) := by decide +kernel
theorem dX6_ordinatesOf_146 : decode cX6_ordinatesOf 146 = .ok (.iinc 4 1, 3) := by decide +kernel
theorem dX6_ordinatesOf_149 : decode cX6_ordinatesOf 149 = .ok (.goto (-61), 3) := by decide +kernel
theorem dX6_ordinatesOf_152 : decode cX6_ordinatesOf 152 = .ok (.iload_n 3, 1) := by decide +kernel
theorem dX6_ordinatesOf_153 : decode cX6_ordinatesOf 153 = .ok (.ireturn, 1) := by decide +kernel
theorem dX6_countAt_0 : decode cX6_countAt 0 = .ok (.iload_n 1, 1) := by decide +kernel
theorem dX6_countAt_1 : decode cX6_countAt 1 = .ok (.ifCond .lt 9, 3) := by decide +kernel
theorem dX6_countAt_4 : decode cX6_countAt 4 = .ok (.iload_n 1, 1) := by decide +kernel
theorem dX6_countAt_5 : decode cX6_countAt 5 = .ok (.bipush 31, 2) := by decide +kernel
theorem dX6_countAt_7 : decode cX6_countAt 7 = .ok (.if_icmp .lt 5, 3) := by decide +kernel
theorem dX6_countAt_10 : decode cX6_countAt 10 = .ok (.iconst 0, 1) := by decide +kernel
theorem dX6_countAt_11 : decode cX6_countAt 11 = .ok (.ireturn, 1) := by decide +kernel
theorem dX6_countAt_12 : decode cX6_countAt 12 = .ok (.iconst 0, 1) := by decide +kernel
theorem dX6_countAt_13 : decode cX6_countAt 13 = .ok (.istore_n 2, 1) := by decide +kernel
theorem dX6_countAt_14 : decode cX6_countAt 14 = .ok (.aload_n 0, 1) := by decide +kernel
theorem dX6_countAt_15 : decode cX6_countAt 15 = .ok (.getfield 11, 3) := by decide +kernel
theorem dX6_countAt_18 : decode cX6_countAt 18 = .ok (.iload_n 1, 1) := by decide +kernel
theorem dX6_countAt_19 : decode cX6_countAt 19 = .ok (.aaload, 1) := by decide +kernel
theorem dX6_countAt_20 : decode cX6_countAt 20 = .ok (.astore_n 3, 1) := by decide +kernel
theorem dX6_countAt_21 : decode cX6_countAt 21 = .ok (.iconst 0, 1) := by decide +kernel
theorem dX6_countAt_22 : decode cX6_countAt 22 = .ok (.istore 4, 2) := by decide +kernel
theorem dX6_countAt_24 : decode cX6_countAt 24 = .ok (.iload 4, 2) := by decide +kernel
theorem dX6_countAt_26 : decode cX6_countAt 26 = .ok (.aload_n 3, 1) := by decide +kernel
theorem dX6_countAt_27 : decode cX6_countAt 27 = .ok (.arraylength, 1) := by decide +kernel
theorem dX6_countAt_28 : decode cX6_countAt 28 = .ok (.if_icmp .ge 19, 3) := by decide +kernel
theorem dX6_countAt_31 : decode cX6_countAt 31 = .ok (.iload_n 2, 1) := by decide +kernel
theorem dX6_countAt_32 : decode cX6_countAt 32 = .ok (.aload_n 3, 1) := by decide +kernel
theorem dX6_countAt_33 : decode cX6_countAt 33 = .ok (.iload 4, 2) := by decide +kernel
theorem dX6_countAt_35 : decode cX6_countAt 35 = .ok (.iaload, 1) := by decide +kernel
theorem dX6_countAt_36 : decode cX6_countAt 36 = .ok (.invokestatic 53, 3) := by decide +kernel
theorem dX6_countAt_39 : decode cX6_countAt 39 = .ok (.iadd, 1) := by decide +kernel
theorem dX6_countAt_40 : decode cX6_countAt 40 = .ok (.istore_n 2, 1) := by decide +kernel
theorem dX6_countAt_41 : decode cX6_countAt 41 = .ok (.iinc 4 1, 3) := by decide +kernel
theorem dX6_countAt_44 : decode cX6_countAt 44 = .ok (.goto (-20), 3) := by decide +kernel
theorem dX6_countAt_47 : decode cX6_countAt 47 = .ok (.iload_n 2, 1) := by decide +kernel
theorem dX6_countAt_48 : decode cX6_countAt 48 = .ok (.ireturn, 1) := by decide +kernel
theorem dX6_rootAt_0 : decode cX6_rootAt 0 = .ok (.iload_n 1, 1) := by decide +kernel
theorem dX6_rootAt_1 : decode cX6_rootAt 1 = .ok (.ifCond .lt 9, 3) := by decide +kernel
theorem dX6_rootAt_4 : decode cX6_rootAt 4 = .ok (.iload_n 1, 1) := by decide +kernel
theorem dX6_rootAt_5 : decode cX6_rootAt 5 = .ok (.bipush 31, 2) := by decide +kernel
theorem dX6_rootAt_7 : decode cX6_rootAt 7 = .ok (.if_icmp .lt 6, 3) := by decide +kernel
theorem dX6_rootAt_10 : decode cX6_rootAt 10 = .ok (.bipush (-9), 2) := by decide +kernel
theorem dX6_rootAt_12 : decode cX6_rootAt 12 = .ok (.ireturn, 1) := by decide +kernel
theorem dX6_rootAt_13 : decode cX6_rootAt 13 = .ok (.aload_n 0, 1) := by decide +kernel
theorem dX6_rootAt_14 : decode cX6_rootAt 14 = .ok (.getfield 11, 3) := by decide +kernel
theorem dX6_rootAt_17 : decode cX6_rootAt 17 = .ok (.iload_n 1, 1) := by decide +kernel
theorem dX6_rootAt_18 : decode cX6_rootAt 18 = .ok (.aaload, 1) := by decide +kernel
theorem dX6_rootAt_19 : decode cX6_rootAt 19 = .ok (.astore_n 3, 1) := by decide +kernel
theorem dX6_rootAt_20 : decode cX6_rootAt 20 = .ok (.iload_n 2, 1) := by decide +kernel
theorem dX6_rootAt_21 : decode cX6_rootAt 21 = .ok (.istore 4, 2) := by decide +kernel
theorem dX6_rootAt_23 : decode cX6_rootAt 23 = .ok (.iconst 0, 1) := by decide +kernel
theorem dX6_rootAt_24 : decode cX6_rootAt 24 = .ok (.istore 5, 2) := by decide +kernel
theorem dX6_rootAt_26 : decode cX6_rootAt 26 = .ok (.iload 5, 2) := by decide +kernel
theorem dX6_rootAt_28 : decode cX6_rootAt 28 = .ok (.aload_n 3, 1) := by decide +kernel
theorem dX6_rootAt_29 : decode cX6_rootAt 29 = .ok (.arraylength, 1) := by decide +kernel
theorem dX6_rootAt_30 : decode cX6_rootAt 30 = .ok (.if_icmp .ge 48, 3) := by decide +kernel
theorem dX6_rootAt_33 : decode cX6_rootAt 33 = .ok (.aload_n 3, 1) := by decide +kernel
theorem dX6_rootAt_34 : decode cX6_rootAt 34 = .ok (.iload 5, 2) := by decide +kernel
theorem dX6_rootAt_36 : decode cX6_rootAt 36 = .ok (.iaload, 1) := by decide +kernel
theorem dX6_rootAt_37 : decode cX6_rootAt 37 = .ok (.invokestatic 53, 3) := by decide +kernel
theorem dX6_rootAt_40 : decode cX6_rootAt 40 = .ok (.istore 6, 2) := by decide +kernel
theorem dX6_rootAt_42 : decode cX6_rootAt 42 = .ok (.iload 4, 2) := by decide +kernel
theorem dX6_rootAt_44 : decode cX6_rootAt 44 = .ok (.iload 6, 2) := by decide +kernel
theorem dX6_rootAt_46 : decode cX6_rootAt 46 = .ok (.if_icmp .ge 19, 3) := by decide +kernel
theorem dX6_rootAt_49 : decode cX6_rootAt 49 = .ok (.bipush 100, 2) := by decide +kernel
theorem dX6_rootAt_51 : decode cX6_rootAt 51 = .ok (.iload 5, 2) := by decide +kernel
theorem dX6_rootAt_53 : decode cX6_rootAt 53 = .ok (.imul, 1) := by decide +kernel
theorem dX6_rootAt_54 : decode cX6_rootAt 54 = .ok (.aload_n 3, 1) := by decide +kernel
theorem dX6_rootAt_55 : decode cX6_rootAt 55 = .ok (.iload 5, 2) := by decide +kernel
theorem dX6_rootAt_57 : decode cX6_rootAt 57 = .ok (.iaload, 1) := by decide +kernel
theorem dX6_rootAt_58 : decode cX6_rootAt 58 = .ok (.iload 4, 2) := by decide +kernel
theorem dX6_rootAt_60 : decode cX6_rootAt 60 = .ok (.invokestatic 58, 3) := by decide +kernel
theorem dX6_rootAt_63 : decode cX6_rootAt 63 = .ok (.iadd, 1) := by decide +kernel
theorem dX6_rootAt_64 : decode cX6_rootAt 64 = .ok (.ireturn, 1) := by decide +kernel
theorem dX6_rootAt_65 : decode cX6_rootAt 65 = .ok (.iload 4, 2) := by decide +kernel
theorem dX6_rootAt_67 : decode cX6_rootAt 67 = .ok (.iload 6, 2) := by decide +kernel
theorem dX6_rootAt_69 : decode cX6_rootAt 69 = .ok (.isub, 1) := by decide +kernel
theorem dX6_rootAt_70 : decode cX6_rootAt 70 = .ok (.istore 4, 2) := by decide +kernel
theorem dX6_rootAt_72 : decode cX6_rootAt 72 = .ok (.iinc 5 1, 3) := by decide +kernel
theorem dX6_rootAt_75 : decode cX6_rootAt 75 = .ok (.goto (-49), 3) := by decide +kernel
theorem dX6_rootAt_78 : decode cX6_rootAt 78 = .ok (.bipush (-9), 2) := by decide +kernel
theorem dX6_rootAt_80 : decode cX6_rootAt 80 = .ok (.ireturn, 1) := by decide +kernel
theorem dX6_memberOf_0 : decode cX6_memberOf 0 = .ok (.iload_n 1, 1) := by decide +kernel
theorem dX6_memberOf_1 : decode cX6_memberOf 1 = .ok (.istore_n 2, 1) := by decide +kernel
theorem dX6_memberOf_2 : decode cX6_memberOf 2 = .ok (.iconst 0, 1) := by decide +kernel
theorem dX6_memberOf_3 : decode cX6_memberOf 3 = .ok (.istore_n 3, 1) := by decide +kernel
theorem dX6_memberOf_4 : decode cX6_memberOf 4 = .ok (.iload_n 3, 1) := by decide +kernel
theorem dX6_memberOf_5 : decode cX6_memberOf 5 = .ok (.bipush 31, 2) := by decide +kernel
theorem dX6_memberOf_7 : decode cX6_memberOf 7 = .ok (.if_icmp .ge 26, 3) := by decide +kernel
theorem dX6_memberOf_10 : decode cX6_memberOf 10 = .ok (.iload_n 0, 1) := by decide +kernel
theorem dX6_memberOf_11 : decode cX6_memberOf 11 = .ok (.iload_n 3, 1) := by decide +kernel
theorem dX6_memberOf_12 : decode cX6_memberOf 12 = .ok (.ishr, 1) := by decide +kernel
theorem dX6_memberOf_13 : decode cX6_memberOf 13 = .ok (.iconst 1, 1) := by decide +kernel
theorem dX6_memberOf_14 : decode cX6_memberOf 14 = .ok (.iand, 1) := by decide +kernel
theorem dX6_memberOf_15 : decode cX6_memberOf 15 = .ok (.ifCond .eq 12, 3) := by decide +kernel
theorem dX6_memberOf_18 : decode cX6_memberOf 18 = .ok (.iload_n 2, 1) := by decide +kernel
theorem dX6_memberOf_19 : decode cX6_memberOf 19 = .ok (.ifCond .ne 5, 3) := by decide +kernel
theorem dX6_memberOf_22 : decode cX6_memberOf 22 = .ok (.iload_n 3, 1) := by decide +kernel
theorem dX6_memberOf_23 : decode cX6_memberOf 23 = .ok (.ireturn, 1) := by decide +kernel
theorem dX6_memberOf_24 : decode cX6_memberOf 24 = .ok (.iinc 2 (-1), 3) := by decide +kernel
theorem dX6_memberOf_27 : decode cX6_memberOf 27 = .ok (.iinc 3 1, 3) := by decide +kernel
theorem dX6_memberOf_30 : decode cX6_memberOf 30 = .ok (.goto (-26), 3) := by decide +kernel
theorem dX6_memberOf_33 : decode cX6_memberOf 33 = .ok (.iconst 0, 1) := by decide +kernel
theorem dX6_memberOf_34 : decode cX6_memberOf 34 = .ok (.ireturn, 1) := by decide +kernel
theorem dX7_init_0 : decode cX7_init 0 = .ok (.aload_n 0, 1) := by decide +kernel
theorem dX7_init_1 : decode cX7_init 1 = .ok (.invokespecial 3, 3) := by decide +kernel
theorem dX7_init_4 : decode cX7_init 4 = .ok (.aload_n 0, 1) := by decide +kernel
theorem dX7_init_5 : decode cX7_init 5 = .ok (.bipush 16, 2) := by decide +kernel
theorem dX7_init_7 : decode cX7_init 7 = .ok (.newarray .int, 2) := by decide +kernel
theorem dX7_init_9 : decode cX7_init 9 = .ok (.putfield 9, 3) := by decide +kernel
theorem dX7_init_12 : decode cX7_init 12 = .ok (.aload_n 0, 1) := by decide +kernel
theorem dX7_init_13 : decode cX7_init 13 = .ok (.bipush 8, 2) := by decide +kernel
theorem dX7_init_15 : decode cX7_init 15 = .ok (.newarray .int, 2) := by decide +kernel
theorem dX7_init_17 : decode cX7_init 17 = .ok (.putfield 15, 3) := by decide +kernel
theorem dX7_init_20 : decode cX7_init 20 = .ok (.aload_n 0, 1) := by decide +kernel
theorem dX7_init_21 : decode cX7_init 21 = .ok (.bipush 8, 2) := by decide +kernel
theorem dX7_init_23 : decode cX7_init 23 = .ok (.bipush 16, 2) := by decide +kernel
theorem dX7_init_25 : decode cX7_init 25 = .ok (.multianewarray 18 2, 4) := by decide +kernel
theorem dX7_init_29 : decode cX7_init 29 = .ok (.putfield 20, 3) := by decide +kernel
theorem dX7_init_32 : decode cX7_init 32 = .ok (.aload_n 0, 1) := by decide +kernel
theorem dX7_init_33 : decode cX7_init 33 = .ok (.bipush 8, 2) := by decide +kernel
theorem dX7_init_35 : decode cX7_init 35 = .ok (.newarray .int, 2) := by decide +kernel
theorem dX7_init_37 : decode cX7_init 37 = .ok (.putfield 23, 3) := by decide +kernel
theorem dX7_init_40 : decode cX7_init 40 = .ok (.return_, 1) := by decide +kernel
theorem dX7_begin_0 : decode cX7_begin 0 = .ok (.aload_n 0, 1) := by decide +kernel
theorem dX7_begin_1 : decode cX7_begin 1 = .ok (.iconst 0, 1) := by decide +kernel
theorem dX7_begin_2 : decode cX7_begin 2 = .ok (.putfield 26, 3) := by decide +kernel
theorem dX7_begin_5 : decode cX7_begin 5 = .ok (.aload_n 0, 1) := by decide +kernel
theorem dX7_begin_6 : decode cX7_begin 6 = .ok (.iload_n 1, 1) := by decide +kernel
theorem dX7_begin_7 : decode cX7_begin 7 = .ok (.putfield 30, 3) := by decide +kernel
theorem dX7_begin_10 : decode cX7_begin 10 = .ok (.aload_n 0, 1) := by decide +kernel
theorem dX7_begin_11 : decode cX7_begin 11 = .ok (.getfield 15, 3) := by decide +kernel
theorem dX7_begin_14 : decode cX7_begin 14 = .ok (.iconst 0, 1) := by decide +kernel
theorem dX7_begin_15 : decode cX7_begin 15 = .ok (.invokestatic 33, 3) := by decide +kernel
theorem dX7_begin_18 : decode cX7_begin 18 = .ok (.return_, 1) := by decide +kernel
theorem dX7_take_0 : decode cX7_take 0 = .ok (.iconst 0, 1) := by decide +kernel
theorem dX7_take_1 : decode cX7_take 1 = .ok (.istore_n 1, 1) := by decide +kernel
theorem dX7_take_2 : decode cX7_take 2 = .ok (.iload_n 1, 1) := by decide +kernel
theorem dX7_take_3 : decode cX7_take 3 = .ok (.aload_n 0, 1) := by decide +kernel
theorem dX7_take_4 : decode cX7_take 4 = .ok (.getfield 26, 3) := by decide +kernel
theorem dX7_take_7 : decode cX7_take 7 = .ok (.if_icmp .ge 114, 3) := by decide +kernel
theorem dX7_take_10 : decode cX7_take 10 = .ok (.iload_n 1, 1) := by decide +kernel
theorem dX7_take_11 : decode cX7_take 11 = .ok (.bipush 8, 2) := by decide +kernel
theorem dX7_take_13 : decode cX7_take 13 = .ok (.if_icmp .ge 108, 3) := by decide +kernel
theorem dX7_take_16 : decode cX7_take 16 = .ok (.aload_n 0, 1) := by decide +kernel
theorem dX7_take_17 : decode cX7_take 17 = .ok (.getfield 20, 3) := by decide +kernel
theorem dX7_take_20 : decode cX7_take 20 = .ok (.iload_n 1, 1) := by decide +kernel
theorem dX7_take_21 : decode cX7_take 21 = .ok (.aaload, 1) := by decide +kernel
theorem dX7_take_22 : decode cX7_take 22 = .ok (.astore_n 2, 1) := by decide +kernel
theorem dX7_take_23 : decode cX7_take 23 = .ok (.aload_n 0, 1) := by decide +kernel
theorem dX7_take_24 : decode cX7_take 24 = .ok (.getfield 23, 3) := by decide +kernel
theorem dX7_take_27 : decode cX7_take 27 = .ok (.iload_n 1, 1) := by decide +kernel
theorem dX7_take_28 : decode cX7_take 28 = .ok (.iaload, 1) := by decide +kernel
theorem dX7_take_29 : decode cX7_take 29 = .ok (.iconst 0, 1) := by decide +kernel
theorem dX7_take_30 : decode cX7_take 30 = .ok (.invokestatic 39, 3) := by decide +kernel
theorem dX7_take_33 : decode cX7_take 33 = .ok (.bipush 7, 2) := by decide +kernel
theorem dX7_take_35 : decode cX7_take 35 = .ok (.invokestatic 45, 3) := by decide +kernel
theorem dX7_take_38 : decode cX7_take 38 = .ok (.istore_n 3, 1) := by decide +kernel
theorem dX7_take_39 : decode cX7_take 39 = .ok (.aload_n 0, 1) := by decide +kernel
theorem dX7_take_40 : decode cX7_take 40 = .ok (.getfield 9, 3) := by decide +kernel
theorem dX7_take_43 : decode cX7_take 43 = .ok (.iload_n 3, 1) := by decide +kernel
theorem dX7_take_44 : decode cX7_take 44 = .ok (.iaload, 1) := by decide +kernel
theorem dX7_take_45 : decode cX7_take 45 = .ok (.istore 4, 2) := by decide +kernel
theorem dX7_take_47 : decode cX7_take 47 = .ok (.aload_n 2, 1) := by decide +kernel
theorem dX7_take_48 : decode cX7_take 48 = .ok (.iload_n 3, 1) := by decide +kernel
theorem dX7_take_49 : decode cX7_take 49 = .ok (.iaload, 1) := by decide +kernel
theorem dX7_take_50 : decode cX7_take 50 = .ok (.istore 5, 2) := by decide +kernel
theorem dX7_take_52 : decode cX7_take 52 = .ok (.iconst 0, 1) := by decide +kernel
theorem dX7_take_53 : decode cX7_take 53 = .ok (.istore 6, 2) := by decide +kernel
theorem dX7_take_55 : decode cX7_take 55 = .ok (.iload 4, 2) := by decide +kernel
theorem dX7_take_57 : decode cX7_take 57 = .ok (.ifCond .eq 58, 3) := by decide +kernel
theorem dX7_take_60 : decode cX7_take 60 = .ok (.iload 6, 2) := by decide +kernel
theorem dX7_take_62 : decode cX7_take 62 = .ok (.aload_n 0, 1) := by decide +kernel
theorem dX7_take_63 : decode cX7_take 63 = .ok (.getfield 9, 3) := by decide +kernel
theorem dX7_take_66 : decode cX7_take 66 = .ok (.arraylength, 1) := by decide +kernel
theorem dX7_take_67 : decode cX7_take 67 = .ok (.if_icmp .ge 48, 3) := by decide +kernel
theorem dX7_take_70 : decode cX7_take 70 = .ok (.iload 6, 2) := by decide +kernel
theorem dX7_take_72 : decode cX7_take 72 = .ok (.aload_n 2, 1) := by decide +kernel
theorem dX7_take_73 : decode cX7_take 73 = .ok (.arraylength, 1) := by decide +kernel
theorem dX7_take_74 : decode cX7_take 74 = .ok (.if_icmp .ge 41, 3) := by decide +kernel
theorem dX7_take_77 : decode cX7_take 77 = .ok (.aload_n 0, 1) := by decide +kernel
theorem dX7_take_78 : decode cX7_take 78 = .ok (.getfield 9, 3) := by decide +kernel
theorem dX7_take_81 : decode cX7_take 81 = .ok (.iload 6, 2) := by decide +kernel
theorem dX7_take_83 : decode cX7_take 83 = .ok (.iload 5, 2) := by decide +kernel
theorem dX7_take_85 : decode cX7_take 85 = .ok (.aload_n 0, 1) := by decide +kernel
theorem dX7_take_86 : decode cX7_take 86 = .ok (.getfield 9, 3) := by decide +kernel
theorem dX7_take_89 : decode cX7_take 89 = .ok (.iload 6, 2) := by decide +kernel
theorem dX7_take_91 : decode cX7_take 91 = .ok (.iaload, 1) := by decide +kernel
theorem dX7_take_92 : decode cX7_take 92 = .ok (.imul, 1) := by decide +kernel
theorem dX7_take_93 : decode cX7_take 93 = .ok (.iload 4, 2) := by decide +kernel
theorem dX7_take_95 : decode cX7_take 95 = .ok (.aload_n 2, 1) := by decide +kernel
theorem dX7_take_96 : decode cX7_take 96 = .ok (.iload 6, 2) := by decide +kernel
theorem dX7_take_98 : decode cX7_take 98 = .ok (.iaload, 1) := by decide +kernel
theorem dX7_take_99 : decode cX7_take 99 = .ok (.imul, 1) := by decide +kernel
theorem dX7_take_100 : decode cX7_take 100 = .ok (.isub, 1) := by decide +kernel
theorem dX7_take_101 : decode cX7_take 101 = .ok (.aload_n 0, 1) := by decide +kernel
theorem dX7_take_102 : decode cX7_take 102 = .ok (.getfield 30, 3) := by decide +kernel
theorem dX7_take_105 : decode cX7_take 105 = .ok (.invokestatic 48, 3) := by decide +kernel
theorem dX7_take_108 : decode cX7_take 108 = .ok (.iastore, 1) := by decide +kernel
theorem dX7_take_109 : decode cX7_take 109 = .ok (.iinc 6 1, 3) := by decide +kernel
theorem dX7_take_112 : decode cX7_take 112 = .ok (.goto (-57), 3) := by decide +kernel
theorem dX7_take_115 : decode cX7_take 115 = .ok (.iinc 1 1, 3) := by decide +kernel
theorem dX7_take_118 : decode cX7_take 118 = .ok (.goto (-116), 3) := by decide +kernel
theorem dX7_take_121 : decode cX7_take 121 = .ok (.aload_n 0, 1) := by decide +kernel
theorem dX7_take_122 : decode cX7_take 122 = .ok (.invokevirtual 53, 3) := by decide +kernel
theorem dX7_take_125 : decode cX7_take 125 = .ok (.istore_n 1, 1) := by decide +kernel
theorem dX7_take_126 : decode cX7_take 126 = .ok (.iload_n 1, 1) := by decide +kernel
theorem dX7_take_127 : decode cX7_take 127 = .ok (.ifCond .lt 19, 3) := by decide +kernel
theorem dX7_take_130 : decode cX7_take 130 = .ok (.aload_n 0, 1) := by decide +kernel
theorem dX7_take_131 : decode cX7_take 131 = .ok (.getfield 26, 3) := by decide +kernel
theorem dX7_take_134 : decode cX7_take 134 = .ok (.ifCond .lt 12, 3) := by decide +kernel
theorem dX7_take_137 : decode cX7_take 137 = .ok (.aload_n 0, 1) := by decide +kernel
theorem dX7_take_138 : decode cX7_take 138 = .ok (.getfield 26, 3) := by decide +kernel
theorem dX7_take_141 : decode cX7_take 141 = .ok (.bipush 8, 2) := by decide +kernel
theorem dX7_take_143 : decode cX7_take 143 = .ok (.if_icmp .lt 21, 3) := by decide +kernel
theorem dX7_take_146 : decode cX7_take 146 = .ok (.aload_n 0, 1) := by decide +kernel
theorem dX7_take_147 : decode cX7_take 147 = .ok (.getfield 9, 3) := by decide +kernel
theorem dX7_take_150 : decode cX7_take 150 = .ok (.bipush 8, 2) := by decide +kernel
theorem dX7_take_152 : decode cX7_take 152 = .ok (.aload_n 0, 1) := by decide +kernel
theorem dX7_take_153 : decode cX7_take 153 = .ok (.getfield 15, 3) := by decide +kernel
theorem dX7_take_156 : decode cX7_take 156 = .ok (.iconst 0, 1) := by decide +kernel
theorem dX7_take_157 : decode cX7_take 157 = .ok (.bipush 8, 2) := by decide +kernel
theorem dX7_take_159 : decode cX7_take 159 = .ok (.invokestatic 57, 3) := by decide +kernel
theorem dX7_take_162 : decode cX7_take 162 = .ok (.iconst 0, 1) := by decide +kernel
theorem dX7_take_163 : decode cX7_take 163 = .ok (.ireturn, 1) := by decide +kernel
theorem dX7_take_164 : decode cX7_take 164 = .ok (.aload_n 0, 1) := by decide +kernel
theorem dX7_take_165 : decode cX7_take 165 = .ok (.getfield 9, 3) := by decide +kernel
theorem dX7_take_168 : decode cX7_take 168 = .ok (.iconst 0, 1) := by decide +kernel
theorem dX7_take_169 : decode cX7_take 169 = .ok (.aload_n 0, 1) := by decide +kernel
theorem dX7_take_170 : decode cX7_take 170 = .ok (.getfield 20, 3) := by decide +kernel
theorem dX7_take_173 : decode cX7_take 173 = .ok (.aload_n 0, 1) := by decide +kernel
theorem dX7_take_174 : decode cX7_take 174 = .ok (.getfield 26, 3) := by decide +kernel
theorem dX7_take_177 : decode cX7_take 177 = .ok (.aaload, 1) := by decide +kernel
theorem dX7_take_178 : decode cX7_take 178 = .ok (.iconst 0, 1) := by decide +kernel
theorem dX7_take_179 : decode cX7_take 179 = .ok (.bipush 16, 2) := by decide +kernel
theorem dX7_take_181 : decode cX7_take 181 = .ok (.invokestatic 57, 3) := by decide +kernel
theorem dX7_take_184 : decode cX7_take 184 = .ok (.aload_n 0, 1) := by decide +kernel
theorem dX7_take_185 : decode cX7_take 185 = .ok (.getfield 23, 3) := by decide +kernel
theorem dX7_take_188 : decode cX7_take 188 = .ok (.aload_n 0, 1) := by decide +kernel
theorem dX7_take_189 : decode cX7_take 189 = .ok (.getfield 26, 3) := by decide +kernel
theorem dX7_take_192 : decode cX7_take 192 = .ok (.iload_n 1, 1) := by decide +kernel
theorem dX7_take_193 : decode cX7_take 193 = .ok (.iastore, 1) := by decide +kernel
theorem dX7_take_194 : decode cX7_take 194 = .ok (.aload_n 0, 1) := by decide +kernel
theorem dX7_take_195 : decode cX7_take 195 = .ok (.dup, 1) := by decide +kernel
theorem dX7_take_196 : decode cX7_take 196 = .ok (.getfield 26, 3) := by decide +kernel
theorem dX7_take_199 : decode cX7_take 199 = .ok (.iconst 1, 1) := by decide +kernel
theorem dX7_take_200 : decode cX7_take 200 = .ok (.iadd, 1) := by decide +kernel
theorem dX7_take_201 : decode cX7_take 201 = .ok (.putfield 26, 3) := by decide +kernel
theorem dX7_take_204 : decode cX7_take 204 = .ok (.iconst 1, 1) := by decide +kernel
theorem dX7_take_205 : decode cX7_take 205 = .ok (.ireturn, 1) := by decide +kernel
theorem dX7_leadOf_0 : decode cX7_leadOf 0 = .ok (.iconst 0, 1) := by decide +kernel
theorem dX7_leadOf_1 : decode cX7_leadOf 1 = .ok (.istore_n 1, 1) := by decide +kernel
theorem dX7_leadOf_2 : decode cX7_leadOf 2 = .ok (.iload_n 1, 1) := by decide +kernel
theorem dX7_leadOf_3 : decode cX7_leadOf 3 = .ok (.bipush 8, 2) := by decide +kernel
theorem dX7_leadOf_5 : decode cX7_leadOf 5 = .ok (.if_icmp .ge 20, 3) := by decide +kernel
theorem dX7_leadOf_8 : decode cX7_leadOf 8 = .ok (.aload_n 0, 1) := by decide +kernel
theorem dX7_leadOf_9 : decode cX7_leadOf 9 = .ok (.getfield 9, 3) := by decide +kernel
theorem dX7_leadOf_12 : decode cX7_leadOf 12 = .ok (.iload_n 1, 1) := by decide +kernel
theorem dX7_leadOf_13 : decode cX7_leadOf 13 = .ok (.iaload, 1) := by decide +kernel
theorem dX7_leadOf_14 : decode cX7_leadOf 14 = .ok (.ifCond .eq 5, 3) := by decide +kernel
theorem dX7_leadOf_17 : decode cX7_leadOf 17 = .ok (.iload_n 1, 1) := by decide +kernel
theorem dX7_leadOf_18 : decode cX7_leadOf 18 = .ok (.ireturn, 1) := by decide +kernel
theorem dX7_leadOf_19 : decode cX7_leadOf 19 = .ok (.iinc 1 1, 3) := by decide +kernel
theorem dX7_leadOf_22 : decode cX7_leadOf 22 = .ok (.goto (-20), 3) := by decide +kernel
theorem dX7_leadOf_25 : decode cX7_leadOf 25 = .ok (.iconst (-1), 1) := by decide +kernel
theorem dX7_leadOf_26 : decode cX7_leadOf 26 = .ok (.ireturn, 1) := by decide +kernel
theorem dX7_ratio_0 : decode cX7_ratio 0 = .ok (.iload_n 1, 1) := by decide +kernel
theorem dX7_ratio_1 : decode cX7_ratio 1 = .ok (.ifCond .lt 21, 3) := by decide +kernel
theorem dX7_ratio_4 : decode cX7_ratio 4 = .ok (.iload_n 1, 1) := by decide +kernel
theorem dX7_ratio_5 : decode cX7_ratio 5 = .ok (.aload_n 0, 1) := by decide +kernel
theorem dX7_ratio_6 : decode cX7_ratio 6 = .ok (.getfield 15, 3) := by decide +kernel
theorem dX7_ratio_9 : decode cX7_ratio 9 = .ok (.arraylength, 1) := by decide +kernel
theorem dX7_ratio_10 : decode cX7_ratio 10 = .ok (.if_icmp .ge 12, 3) := by decide +kernel
theorem dX7_ratio_13 : decode cX7_ratio 13 = .ok (.aload_n 0, 1) := by decide +kernel
theorem dX7_ratio_14 : decode cX7_ratio 14 = .ok (.getfield 15, 3) := by decide +kernel
theorem dX7_ratio_17 : decode cX7_ratio 17 = .ok (.iconst 0, 1) := by decide +kernel
theorem dX7_ratio_18 : decode cX7_ratio 18 = .ok (.iaload, 1) := by decide +kernel
theorem dX7_ratio_19 : decode cX7_ratio 19 = .ok (.ifCond .ne 6, 3) := by decide +kernel
theorem dX7_ratio_22 : decode cX7_ratio 22 = .ok (.bipush (-9), 2) := by decide +kernel
theorem dX7_ratio_24 : decode cX7_ratio 24 = .ok (.ireturn, 1) := by decide +kernel
theorem dX7_ratio_25 : decode cX7_ratio 25 = .ok (.aload_n 0, 1) := by decide +kernel
theorem dX7_ratio_26 : decode cX7_ratio 26 = .ok (.getfield 15, 3) := by decide +kernel
theorem dX7_ratio_29 : decode cX7_ratio 29 = .ok (.iload_n 1, 1) := by decide +kernel
theorem dX7_ratio_30 : decode cX7_ratio 30 = .ok (.iaload, 1) := by decide +kernel
theorem dX7_ratio_31 : decode cX7_ratio 31 = .ok (.aload_n 0, 1) := by decide +kernel
theorem dX7_ratio_32 : decode cX7_ratio 32 = .ok (.getfield 15, 3) := by decide +kernel
theorem dX7_ratio_35 : decode cX7_ratio 35 = .ok (.iconst 0, 1) := by decide +kernel
theorem dX7_ratio_36 : decode cX7_ratio 36 = .ok (.iaload, 1) := by decide +kernel
theorem dX7_ratio_37 : decode cX7_ratio 37 = .ok (.aload_n 0, 1) := by decide +kernel
theorem dX7_ratio_38 : decode cX7_ratio 38 = .ok (.getfield 30, 3) := by decide +kernel
theorem dX7_ratio_41 : decode cX7_ratio 41 = .ok (.invokestatic 63, 3) := by decide +kernel
theorem dX7_ratio_44 : decode cX7_ratio 44 = .ok (.imul, 1) := by decide +kernel
theorem dX7_ratio_45 : decode cX7_ratio 45 = .ok (.aload_n 0, 1) := by decide +kernel
theorem dX7_ratio_46 : decode cX7_ratio 46 = .ok (.getfield 30, 3) := by decide +kernel
theorem dX7_ratio_49 : decode cX7_ratio 49 = .ok (.invokestatic 48, 3) := by decide +kernel
theorem dX7_ratio_52 : decode cX7_ratio 52 = .ok (.ireturn, 1) := by decide +kernel
theorem dX8_init_0 : decode cX8_init 0 = .ok (.aload_n 0, 1) := by decide +kernel
theorem dX8_init_1 : decode cX8_init 1 = .ok (.invokespecial 3, 3) := by decide +kernel
theorem dX8_init_4 : decode cX8_init 4 = .ok (.aload_n 0, 1) := by decide +kernel
theorem dX8_init_5 : decode cX8_init 5 = .ok (.bipush 27, 2) := by decide +kernel
theorem dX8_init_7 : decode cX8_init 7 = .ok (.newarray .int, 2) := by decide +kernel
theorem dX8_init_9 : decode cX8_init 9 = .ok (.putfield 9, 3) := by decide +kernel
theorem dX8_init_12 : decode cX8_init 12 = .ok (.aload_n 0, 1) := by decide +kernel
theorem dX8_init_13 : decode cX8_init 13 = .ok (.bipush 60, 2) := by decide +kernel
theorem dX8_init_15 : decode cX8_init 15 = .ok (.newarray .int, 2) := by decide +kernel
theorem dX8_init_17 : decode cX8_init 17 = .ok (.putfield 15, 3) := by decide +kernel
theorem dX8_init_20 : decode cX8_init 20 = .ok (.return_, 1) := by decide +kernel
theorem dX8_append_0 : decode cX8_append 0 = .ok (.aload_n 0, 1) := by decide +kernel
theorem dX8_append_1 : decode cX8_append 1 = .ok (.getfield 18, 3) := by decide +kernel
theorem dX8_append_4 : decode cX8_append 4 = .ok (.ifCond .lt 12, 3) := by decide +kernel
theorem dX8_append_7 : decode cX8_append 7 = .ok (.aload_n 0, 1) := by decide +kernel
theorem dX8_append_8 : decode cX8_append 8 = .ok (.getfield 18, 3) := by decide +kernel
theorem dX8_append_11 : decode cX8_append 11 = .ok (.bipush 60, 2) := by decide +kernel
theorem dX8_append_13 : decode cX8_append 13 = .ok (.if_icmp .lt 5, 3) := by decide +kernel
theorem dX8_append_16 : decode cX8_append 16 = .ok (.iconst 0, 1) := by decide +kernel
theorem dX8_append_17 : decode cX8_append 17 = .ok (.ireturn, 1) := by decide +kernel
theorem dX8_append_18 : decode cX8_append 18 = .ok (.aload_n 0, 1) := by decide +kernel
theorem dX8_append_19 : decode cX8_append 19 = .ok (.getfield 15, 3) := by decide +kernel
theorem dX8_append_22 : decode cX8_append 22 = .ok (.aload_n 0, 1) := by decide +kernel
theorem dX8_append_23 : decode cX8_append 23 = .ok (.getfield 18, 3) := by decide +kernel
theorem dX8_append_26 : decode cX8_append 26 = .ok (.iload_n 1, 1) := by decide +kernel
theorem dX8_append_27 : decode cX8_append 27 = .ok (.iastore, 1) := by decide +kernel
theorem dX8_append_28 : decode cX8_append 28 = .ok (.aload_n 0, 1) := by decide +kernel
theorem dX8_append_29 : decode cX8_append 29 = .ok (.dup, 1) := by decide +kernel
theorem dX8_append_30 : decode cX8_append 30 = .ok (.getfield 18, 3) := by decide +kernel
theorem dX8_append_33 : decode cX8_append 33 = .ok (.iconst 1, 1) := by decide +kernel
theorem dX8_append_34 : decode cX8_append 34 = .ok (.iadd, 1) := by decide +kernel
theorem dX8_append_35 : decode cX8_append 35 = .ok (.putfield 18, 3) := by decide +kernel
theorem dX8_append_38 : decode cX8_append 38 = .ok (.iconst 1, 1) := by decide +kernel
theorem dX8_append_39 : decode cX8_append 39 = .ok (.ireturn, 1) := by decide +kernel
theorem dX8_parse_0 : decode cX8_parse 0 = .ok (.aload_n 0, 1) := by decide +kernel
theorem dX8_parse_1 : decode cX8_parse 1 = .ok (.iconst 0, 1) := by decide +kernel
theorem dX8_parse_2 : decode cX8_parse 2 = .ok (.putfield 22, 3) := by decide +kernel
theorem dX8_parse_5 : decode cX8_parse 5 = .ok (.aload_n 0, 1) := by decide +kernel
theorem dX8_parse_6 : decode cX8_parse 6 = .ok (.getfield 9, 3) := by decide +kernel
theorem dX8_parse_9 : decode cX8_parse 9 = .ok (.iconst 0, 1) := by decide +kernel
theorem dX8_parse_10 : decode cX8_parse 10 = .ok (.invokestatic 25, 3) := by decide +kernel
theorem dX8_parse_13 : decode cX8_parse 13 = .ok (.aload_n 0, 1) := by decide +kernel
theorem dX8_parse_14 : decode cX8_parse 14 = .ok (.invokevirtual 31, 3) := by decide +kernel
theorem dX8_parse_17 : decode cX8_parse 17 = .ok (.aload_n 0, 1) := by decide +kernel
theorem dX8_parse_18 : decode cX8_parse 18 = .ok (.invokevirtual 34, 3) := by decide +kernel
theorem dX8_parse_21 : decode cX8_parse 21 = .ok (.istore_n 2, 1) := by decide +kernel
theorem dX8_parse_22 : decode cX8_parse 22 = .ok (.iconst 0, 1) := by decide +kernel
theorem dX8_parse_23 : decode cX8_parse 23 = .ok (.istore_n 3, 1) := by decide +kernel
theorem dX8_parse_24 : decode cX8_parse 24 = .ok (.iload_n 3, 1) := by decide +kernel
theorem dX8_parse_25 : decode cX8_parse 25 = .ok (.bipush 60, 2) := by decide +kernel
theorem dX8_parse_27 : decode cX8_parse 27 = .ok (.if_icmp .gt 66, 3) := by decide +kernel
theorem dX8_parse_30 : decode cX8_parse 30 = .ok (.aload_n 0, 1) := by decide +kernel
theorem dX8_parse_31 : decode cX8_parse 31 = .ok (.invokevirtual 31, 3) := by decide +kernel
theorem dX8_parse_34 : decode cX8_parse 34 = .ok (.aload_n 0, 1) := by decide +kernel
theorem dX8_parse_35 : decode cX8_parse 35 = .ok (.iload_n 2, 1) := by decide +kernel
theorem dX8_parse_36 : decode cX8_parse 36 = .ok (.ifCond .ge 7, 3) := by decide +kernel
theorem dX8_parse_39 : decode cX8_parse 39 = .ok (.iconst 1, 1) := by decide +kernel
theorem dX8_parse_40 : decode cX8_parse 40 = .ok (.goto 4, 3) := by decide +kernel
theorem dX8_parse_43 : decode cX8_parse 43 = .ok (.iconst 0, 1) := by decide +kernel
theorem dX8_parse_44 : decode cX8_parse 44 = .ok (.iload_n 1, 1) := by decide +kernel
theorem dX8_parse_45 : decode cX8_parse 45 = .ok (.invokevirtual 38, 3) := by decide +kernel
theorem dX8_parse_48 : decode cX8_parse 48 = .ok (.ifCond .ne 8, 3) := by decide +kernel
theorem dX8_parse_51 : decode cX8_parse 51 = .ok (.aload_n 0, 1) := by decide +kernel
theorem dX8_parse_52 : decode cX8_parse 52 = .ok (.getfield 22, 3) := by decide +kernel
theorem dX8_parse_55 : decode cX8_parse 55 = .ok (.ireturn, 1) := by decide +kernel
theorem dX8_parse_56 : decode cX8_parse 56 = .ok (.aload_n 0, 1) := by decide +kernel
theorem dX8_parse_57 : decode cX8_parse 57 = .ok (.invokevirtual 31, 3) := by decide +kernel
theorem dX8_parse_60 : decode cX8_parse 60 = .ok (.aload_n 0, 1) := by decide +kernel
theorem dX8_parse_61 : decode cX8_parse 61 = .ok (.getfield 22, 3) := by decide +kernel
theorem dX8_parse_64 : decode cX8_parse 64 = .ok (.aload_n 0, 1) := by decide +kernel
theorem dX8_parse_65 : decode cX8_parse 65 = .ok (.getfield 18, 3) := by decide +kernel
theorem dX8_parse_68 : decode cX8_parse 68 = .ok (.if_icmp .lt 5, 3) := by decide +kernel
theorem dX8_parse_71 : decode cX8_parse 71 = .ok (.iconst (-1), 1) := by decide +kernel
theorem dX8_parse_72 : decode cX8_parse 72 = .ok (.ireturn, 1) := by decide +kernel
theorem dX8_parse_73 : decode cX8_parse 73 = .ok (.aload_n 0, 1) := by decide +kernel
theorem dX8_parse_74 : decode cX8_parse 74 = .ok (.invokevirtual 34, 3) := by decide +kernel
theorem dX8_parse_77 : decode cX8_parse 77 = .ok (.istore_n 2, 1) := by decide +kernel
theorem dX8_parse_78 : decode cX8_parse 78 = .ok (.iload_n 2, 1) := by decide +kernel
theorem dX8_parse_79 : decode cX8_parse 79 = .ok (.ifCond .ne 8, 3) := by decide +kernel
theorem dX8_parse_82 : decode cX8_parse 82 = .ok (.aload_n 0, 1) := by decide +kernel
theorem dX8_parse_83 : decode cX8_parse 83 = .ok (.getfield 22, 3) := by decide +kernel
theorem dX8_parse_86 : decode cX8_parse 86 = .ok (.ireturn, 1) := by decide +kernel
theorem dX8_parse_87 : decode cX8_parse 87 = .ok (.iinc 3 1, 3) := by decide +kernel
theorem dX8_parse_90 : decode cX8_parse 90 = .ok (.goto (-66), 3) := by decide +kernel
theorem dX8_parse_93 : decode cX8_parse 93 = .ok (.aload_n 0, 1) := by decide +kernel
theorem dX8_parse_94 : decode cX8_parse 94 = .ok (.getfield 22, 3) := by decide +kernel
theorem dX8_parse_97 : decode cX8_parse 97 = .ok (.ireturn, 1) := by decide +kernel
theorem dX8_peek_0 : decode cX8_peek 0 = .ok (.aload_n 0, 1) := by decide +kernel
theorem dX8_peek_1 : decode cX8_peek 1 = .ok (.getfield 22, 3) := by decide +kernel
theorem dX8_peek_4 : decode cX8_peek 4 = .ok (.ifCond .lt 35, 3) := by decide +kernel
theorem dX8_peek_7 : decode cX8_peek 7 = .ok (.aload_n 0, 1) := by decide +kernel
theorem dX8_peek_8 : decode cX8_peek 8 = .ok (.getfield 22, 3) := by decide +kernel
theorem dX8_peek_11 : decode cX8_peek 11 = .ok (.aload_n 0, 1) := by decide +kernel
theorem dX8_peek_12 : decode cX8_peek 12 = .ok (.getfield 18, 3) := by decide +kernel
theorem dX8_peek_15 : decode cX8_peek 15 = .ok (.if_icmp .ge 24, 3) := by decide +kernel
theorem dX8_peek_18 : decode cX8_peek 18 = .ok (.aload_n 0, 1) := by decide +kernel
theorem dX8_peek_19 : decode cX8_peek 19 = .ok (.getfield 22, 3) := by decide +kernel
theorem dX8_peek_22 : decode cX8_peek 22 = .ok (.bipush 60, 2) := by decide +kernel
theorem dX8_peek_24 : decode cX8_peek 24 = .ok (.if_icmp .ge 15, 3) := by decide +kernel
theorem dX8_peek_27 : decode cX8_peek 27 = .ok (.aload_n 0, 1) := by decide +kernel
theorem dX8_peek_28 : decode cX8_peek 28 = .ok (.getfield 15, 3) := by decide +kernel
theorem dX8_peek_31 : decode cX8_peek 31 = .ok (.aload_n 0, 1) := by decide +kernel
theorem dX8_peek_32 : decode cX8_peek 32 = .ok (.getfield 22, 3) := by decide +kernel
theorem dX8_peek_35 : decode cX8_peek 35 = .ok (.iaload, 1) := by decide +kernel
theorem dX8_peek_36 : decode cX8_peek 36 = .ok (.goto 4, 3) := by decide +kernel
theorem dX8_peek_39 : decode cX8_peek 39 = .ok (.iconst (-1), 1) := by decide +kernel
theorem dX8_peek_40 : decode cX8_peek 40 = .ok (.ireturn, 1) := by decide +kernel
theorem dX8_skipSpaces_0 : decode cX8_skipSpaces 0 = .ok (.aload_n 0, 1) := by decide +kernel
theorem dX8_skipSpaces_1 : decode cX8_skipSpaces 1 = .ok (.getfield 22, 3) := by decide +kernel
theorem dX8_skipSpaces_4 : decode cX8_skipSpaces 4 = .ok (.aload_n 0, 1) := by decide +kernel
theorem dX8_skipSpaces_5 : decode cX8_skipSpaces 5 = .ok (.getfield 18, 3) := by decide +kernel
theorem dX8_skipSpaces_8 : decode cX8_skipSpaces 8 = .ok (.if_icmp .ge 25, 3) := by decide +kernel
theorem dX8_skipSpaces_11 : decode cX8_skipSpaces 11 = .ok (.aload_n 0, 1) := by decide +kernel
theorem dX8_skipSpaces_12 : decode cX8_skipSpaces 12 = .ok (.invokevirtual 42, 3) := by decide +kernel
theorem dX8_skipSpaces_15 : decode cX8_skipSpaces 15 = .ok (.bipush 32, 2) := by decide +kernel
theorem dX8_skipSpaces_17 : decode cX8_skipSpaces 17 = .ok (.if_icmp .ne 16, 3) := by decide +kernel
theorem dX8_skipSpaces_20 : decode cX8_skipSpaces 20 = .ok (.aload_n 0, 1) := by decide +kernel
theorem dX8_skipSpaces_21 : decode cX8_skipSpaces 21 = .ok (.dup, 1) := by decide +kernel
theorem dX8_skipSpaces_22 : decode cX8_skipSpaces 22 = .ok (.getfield 22, 3) := by decide +kernel
theorem dX8_skipSpaces_25 : decode cX8_skipSpaces 25 = .ok (.iconst 1, 1) := by decide +kernel
theorem dX8_skipSpaces_26 : decode cX8_skipSpaces 26 = .ok (.iadd, 1) := by decide +kernel
theorem dX8_skipSpaces_27 : decode cX8_skipSpaces 27 = .ok (.putfield 22, 3) := by decide +kernel
theorem dX8_skipSpaces_30 : decode cX8_skipSpaces 30 = .ok (.goto (-30), 3) := by decide +kernel
theorem dX8_skipSpaces_33 : decode cX8_skipSpaces 33 = .ok (.return_, 1) := by decide +kernel
theorem dX8_takeSign_0 : decode cX8_takeSign 0 = .ok (.aload_n 0, 1) := by decide +kernel
theorem dX8_takeSign_1 : decode cX8_takeSign 1 = .ok (.invokevirtual 42, 3) := by decide +kernel
theorem dX8_takeSign_4 : decode cX8_takeSign 4 = .ok (.istore_n 1, 1) := by decide +kernel
theorem dX8_takeSign_5 : decode cX8_takeSign 5 = .ok (.iload_n 1, 1) := by decide +kernel
theorem dX8_takeSign_6 : decode cX8_takeSign 6 = .ok (.bipush 43, 2) := by decide +kernel
theorem dX8_takeSign_8 : decode cX8_takeSign 8 = .ok (.if_icmp .eq 11, 3) := by decide +kernel
theorem dX8_takeSign_11 : decode cX8_takeSign 11 = .ok (.iload_n 1, 1) := by decide +kernel
theorem dX8_takeSign_12 : decode cX8_takeSign 12 = .ok (.bipush 45, 2) := by decide +kernel
theorem dX8_takeSign_14 : decode cX8_takeSign 14 = .ok (.if_icmp .eq 5, 3) := by decide +kernel
theorem dX8_takeSign_17 : decode cX8_takeSign 17 = .ok (.iconst 0, 1) := by decide +kernel
theorem dX8_takeSign_18 : decode cX8_takeSign 18 = .ok (.ireturn, 1) := by decide +kernel
theorem dX8_takeSign_19 : decode cX8_takeSign 19 = .ok (.aload_n 0, 1) := by decide +kernel
theorem dX8_takeSign_20 : decode cX8_takeSign 20 = .ok (.dup, 1) := by decide +kernel
theorem dX8_takeSign_21 : decode cX8_takeSign 21 = .ok (.getfield 22, 3) := by decide +kernel
theorem dX8_takeSign_24 : decode cX8_takeSign 24 = .ok (.iconst 1, 1) := by decide +kernel
theorem dX8_takeSign_25 : decode cX8_takeSign 25 = .ok (.iadd, 1) := by decide +kernel
theorem dX8_takeSign_26 : decode cX8_takeSign 26 = .ok (.putfield 22, 3) := by decide +kernel
theorem dX8_takeSign_29 : decode cX8_takeSign 29 = .ok (.iload_n 1, 1) := by decide +kernel
theorem dX8_takeSign_30 : decode cX8_takeSign 30 = .ok (.bipush 43, 2) := by decide +kernel
theorem dX8_takeSign_32 : decode cX8_takeSign 32 = .ok (.if_icmp .ne 7, 3) := by decide +kernel
theorem dX8_takeSign_35 : decode cX8_takeSign 35 = .ok (.iconst 1, 1) := by decide +kernel
theorem dX8_takeSign_36 : decode cX8_takeSign 36 = .ok (.goto 4, 3) := by decide +kernel
theorem dX8_takeSign_39 : decode cX8_takeSign 39 = .ok (.iconst (-1), 1) := by decide +kernel
theorem dX8_takeSign_40 : decode cX8_takeSign 40 = .ok (.ireturn, 1) := by decide +kernel
theorem dX8_takeTerm_0 : decode cX8_takeTerm 0 = .ok (.aload_n 0, 1) := by decide +kernel
theorem dX8_takeTerm_1 : decode cX8_takeTerm 1 = .ok (.invokevirtual 45, 3) := by decide +kernel
theorem dX8_takeTerm_4 : decode cX8_takeTerm 4 = .ok (.istore_n 3, 1) := by decide +kernel
theorem dX8_takeTerm_5 : decode cX8_takeTerm 5 = .ok (.aload_n 0, 1) := by decide +kernel
theorem dX8_takeTerm_6 : decode cX8_takeTerm 6 = .ok (.invokevirtual 48, 3) := by decide +kernel
theorem dX8_takeTerm_9 : decode cX8_takeTerm 9 = .ok (.istore 4, 2) := by decide +kernel
theorem dX8_takeTerm_11 : decode cX8_takeTerm 11 = .ok (.iload_n 3, 1) := by decide +kernel
theorem dX8_takeTerm_12 : decode cX8_takeTerm 12 = .ok (.ifCond .ge 10, 3) := by decide +kernel
theorem dX8_takeTerm_15 : decode cX8_takeTerm 15 = .ok (.iload 4, 2) := by decide +kernel
theorem dX8_takeTerm_17 : decode cX8_takeTerm 17 = .ok (.ifCond .ge 5, 3) := by decide +kernel
theorem dX8_takeTerm_20 : decode cX8_takeTerm 20 = .ok (.iconst 0, 1) := by decide +kernel
theorem dX8_takeTerm_21 : decode cX8_takeTerm 21 = .ok (.ireturn, 1) := by decide +kernel
theorem dX8_takeTerm_22 : decode cX8_takeTerm 22 = .ok (.iload_n 3, 1) := by decide +kernel
theorem dX8_takeTerm_23 : decode cX8_takeTerm 23 = .ok (.ifCond .ge 7, 3) := by decide +kernel
theorem dX8_takeTerm_26 : decode cX8_takeTerm 26 = .ok (.iconst 1, 1) := by decide +kernel
theorem dX8_takeTerm_27 : decode cX8_takeTerm 27 = .ok (.goto 4, 3) := by decide +kernel
theorem dX8_takeTerm_30 : decode cX8_takeTerm 30 = .ok (.iload_n 3, 1) := by decide +kernel
theorem dX8_takeTerm_31 : decode cX8_takeTerm 31 = .ok (.istore 5, 2) := by decide +kernel
theorem dX8_takeTerm_33 : decode cX8_takeTerm 33 = .ok (.iload 4, 2) := by decide +kernel
theorem dX8_takeTerm_35 : decode cX8_takeTerm 35 = .ok (.iconst 0, 1) := by decide +kernel
theorem dX8_takeTerm_36 : decode cX8_takeTerm 36 = .ok (.invokestatic 51, 3) := by decide +kernel
theorem dX8_takeTerm_39 : decode cX8_takeTerm 39 = .ok (.istore 6, 2) := by decide +kernel
theorem dX8_takeTerm_41 : decode cX8_takeTerm 41 = .ok (.iload 6, 2) := by decide +kernel
theorem dX8_takeTerm_43 : decode cX8_takeTerm 43 = .ok (.aload_n 0, 1) := by decide +kernel
theorem dX8_takeTerm_44 : decode cX8_takeTerm 44 = .ok (.getfield 9, 3) := by decide +kernel
theorem dX8_takeTerm_47 : decode cX8_takeTerm 47 = .ok (.arraylength, 1) := by decide +kernel
theorem dX8_takeTerm_48 : decode cX8_takeTerm 48 = .ok (.if_icmp .ge 34, 3) := by decide +kernel
theorem dX8_takeTerm_51 : decode cX8_takeTerm 51 = .ok (.aload_n 0, 1) := by decide +kernel
theorem dX8_takeTerm_52 : decode cX8_takeTerm 52 = .ok (.getfield 9, 3) := by decide +kernel
theorem dX8_takeTerm_55 : decode cX8_takeTerm 55 = .ok (.iload 6, 2) := by decide +kernel
theorem dX8_takeTerm_57 : decode cX8_takeTerm 57 = .ok (.aload_n 0, 1) := by decide +kernel
theorem dX8_takeTerm_58 : decode cX8_takeTerm 58 = .ok (.getfield 9, 3) := by decide +kernel
theorem dX8_takeTerm_61 : decode cX8_takeTerm 61 = .ok (.iload 6, 2) := by decide +kernel
theorem dX8_takeTerm_63 : decode cX8_takeTerm 63 = .ok (.iaload, 1) := by decide +kernel
theorem dX8_takeTerm_64 : decode cX8_takeTerm 64 = .ok (.iload_n 1, 1) := by decide +kernel
theorem dX8_takeTerm_65 : decode cX8_takeTerm 65 = .ok (.ifCond .eq 9, 3) := by decide +kernel
theorem dX8_takeTerm_68 : decode cX8_takeTerm 68 = .ok (.iload 5, 2) := by decide +kernel
theorem dX8_takeTerm_70 : decode cX8_takeTerm 70 = .ok (.ineg, 1) := by decide +kernel
theorem dX8_takeTerm_71 : decode cX8_takeTerm 71 = .ok (.goto 5, 3) := by decide +kernel
theorem dX8_takeTerm_74 : decode cX8_takeTerm 74 = .ok (.iload 5, 2) := by decide +kernel
theorem dX8_takeTerm_76 : decode cX8_takeTerm 76 = .ok (.iadd, 1) := by decide +kernel
theorem dX8_takeTerm_77 : decode cX8_takeTerm 77 = .ok (.iload_n 2, 1) := by decide +kernel
theorem dX8_takeTerm_78 : decode cX8_takeTerm 78 = .ok (.invokestatic 57, 3) := by decide +kernel
theorem dX8_takeTerm_81 : decode cX8_takeTerm 81 = .ok (.iastore, 1) := by decide +kernel
theorem dX8_takeTerm_82 : decode cX8_takeTerm 82 = .ok (.iconst 1, 1) := by decide +kernel
theorem dX8_takeTerm_83 : decode cX8_takeTerm 83 = .ok (.ireturn, 1) := by decide +kernel
theorem dX8_takeNumber_0 : decode cX8_takeNumber 0 = .ok (.iconst (-1), 1) := by decide +kernel
theorem dX8_takeNumber_1 : decode cX8_takeNumber 1 = .ok (.istore_n 1, 1) := by decide +kernel
theorem dX8_takeNumber_2 : decode cX8_takeNumber 2 = .ok (.iconst 0, 1) := by decide +kernel
theorem dX8_takeNumber_3 : decode cX8_takeNumber 3 = .ok (.istore_n 2, 1) := by decide +kernel
theorem dX8_takeNumber_4 : decode cX8_takeNumber 4 = .ok (.iload_n 2, 1) := by decide +kernel
theorem dX8_takeNumber_5 : decode cX8_takeNumber 5 = .ok (.iconst 3, 1) := by decide +kernel
theorem dX8_takeNumber_6 : decode cX8_takeNumber 6 = .ok (.if_icmp .ge 52, 3) := by decide +kernel
theorem dX8_takeNumber_9 : decode cX8_takeNumber 9 = .ok (.aload_n 0, 1) := by decide +kernel
theorem dX8_takeNumber_10 : decode cX8_takeNumber 10 = .ok (.invokevirtual 42, 3) := by decide +kernel
theorem dX8_takeNumber_13 : decode cX8_takeNumber 13 = .ok (.istore_n 3, 1) := by decide +kernel
theorem dX8_takeNumber_14 : decode cX8_takeNumber 14 = .ok (.iload_n 3, 1) := by decide +kernel
theorem dX8_takeNumber_15 : decode cX8_takeNumber 15 = .ok (.bipush 48, 2) := by decide +kernel
theorem dX8_takeNumber_17 : decode cX8_takeNumber 17 = .ok (.if_icmp .lt 9, 3) := by decide +kernel
theorem dX8_takeNumber_20 : decode cX8_takeNumber 20 = .ok (.iload_n 3, 1) := by decide +kernel
theorem dX8_takeNumber_21 : decode cX8_takeNumber 21 = .ok (.bipush 57, 2) := by decide +kernel
theorem dX8_takeNumber_23 : decode cX8_takeNumber 23 = .ok (.if_icmp .le 5, 3) := by decide +kernel
theorem dX8_takeNumber_26 : decode cX8_takeNumber 26 = .ok (.iload_n 1, 1) := by decide +kernel
theorem dX8_takeNumber_27 : decode cX8_takeNumber 27 = .ok (.ireturn, 1) := by decide +kernel
theorem dX8_takeNumber_28 : decode cX8_takeNumber 28 = .ok (.iload_n 1, 1) := by decide +kernel
theorem dX8_takeNumber_29 : decode cX8_takeNumber 29 = .ok (.iconst 0, 1) := by decide +kernel
theorem dX8_takeNumber_30 : decode cX8_takeNumber 30 = .ok (.invokestatic 51, 3) := by decide +kernel
theorem dX8_takeNumber_33 : decode cX8_takeNumber 33 = .ok (.bipush 10, 2) := by decide +kernel
theorem dX8_takeNumber_35 : decode cX8_takeNumber 35 = .ok (.imul, 1) := by decide +kernel
theorem dX8_takeNumber_36 : decode cX8_takeNumber 36 = .ok (.iload_n 3, 1) := by decide +kernel
theorem dX8_takeNumber_37 : decode cX8_takeNumber 37 = .ok (.iadd, 1) := by decide +kernel
theorem dX8_takeNumber_38 : decode cX8_takeNumber 38 = .ok (.bipush 48, 2) := by decide +kernel
theorem dX8_takeNumber_40 : decode cX8_takeNumber 40 = .ok (.isub, 1) := by decide +kernel
theorem dX8_takeNumber_41 : decode cX8_takeNumber 41 = .ok (.istore_n 1, 1) := by decide +kernel
theorem dX8_takeNumber_42 : decode cX8_takeNumber 42 = .ok (.aload_n 0, 1) := by decide +kernel
theorem dX8_takeNumber_43 : decode cX8_takeNumber 43 = .ok (.dup, 1) := by decide +kernel
theorem dX8_takeNumber_44 : decode cX8_takeNumber 44 = .ok (.getfield 22, 3) := by decide +kernel
theorem dX8_takeNumber_47 : decode cX8_takeNumber 47 = .ok (.iconst 1, 1) := by decide +kernel
theorem dX8_takeNumber_48 : decode cX8_takeNumber 48 = .ok (.iadd, 1) := by decide +kernel
theorem dX8_takeNumber_49 : decode cX8_takeNumber 49 = .ok (.putfield 22, 3) := by decide +kernel
theorem dX8_takeNumber_52 : decode cX8_takeNumber 52 = .ok (.iinc 2 1, 3) := by decide +kernel
theorem dX8_takeNumber_55 : decode cX8_takeNumber 55 = .ok (.goto (-51), 3) := by decide +kernel
theorem dX8_takeNumber_58 : decode cX8_takeNumber 58 = .ok (.iload_n 1, 1) := by decide +kernel
theorem dX8_takeNumber_59 : decode cX8_takeNumber 59 = .ok (.ireturn, 1) := by decide +kernel
theorem dX8_takeFactors_0 : decode cX8_takeFactors 0 = .ok (.iconst 0, 1) := by decide +kernel
theorem dX8_takeFactors_1 : decode cX8_takeFactors 1 = .ok (.istore_n 1, 1) := by decide +kernel
theorem dX8_takeFactors_2 : decode cX8_takeFactors 2 = .ok (.iconst 0, 1) := by decide +kernel
theorem dX8_takeFactors_3 : decode cX8_takeFactors 3 = .ok (.istore_n 2, 1) := by decide +kernel
theorem dX8_takeFactors_4 : decode cX8_takeFactors 4 = .ok (.iconst 0, 1) := by decide +kernel
theorem dX8_takeFactors_5 : decode cX8_takeFactors 5 = .ok (.istore_n 3, 1) := by decide +kernel
theorem dX8_takeFactors_6 : decode cX8_takeFactors 6 = .ok (.iload_n 3, 1) := by decide +kernel
theorem dX8_takeFactors_7 : decode cX8_takeFactors 7 = .ok (.iconst 3, 1) := by decide +kernel
theorem dX8_takeFactors_8 : decode cX8_takeFactors 8 = .ok (.if_icmp .ge 93, 3) := by decide +kernel
theorem dX8_takeFactors_11 : decode cX8_takeFactors 11 = .ok (.aload_n 0, 1) := by decide +kernel
theorem dX8_takeFactors_12 : decode cX8_takeFactors 12 = .ok (.invokevirtual 31, 3) := by decide +kernel
theorem dX8_takeFactors_15 : decode cX8_takeFactors 15 = .ok (.aload_n 0, 1) := by decide +kernel
theorem dX8_takeFactors_16 : decode cX8_takeFactors 16 = .ok (.invokevirtual 42, 3) := by decide +kernel
theorem dX8_takeFactors_19 : decode cX8_takeFactors 19 = .ok (.invokestatic 62, 3) := by decide +kernel
theorem dX8_takeFactors_22 : decode cX8_takeFactors 22 = .ok (.istore 4, 2) := by decide +kernel
theorem dX8_takeFactors_24 : decode cX8_takeFactors 24 = .ok (.iload 4, 2) := by decide +kernel
theorem dX8_takeFactors_26 : decode cX8_takeFactors 26 = .ok (.ifCond .lt 75, 3) := by decide +kernel
theorem dX8_takeFactors_29 : decode cX8_takeFactors 29 = .ok (.iload_n 1, 1) := by decide +kernel
theorem dX8_takeFactors_30 : decode cX8_takeFactors 30 = .ok (.iload 4, 2) := by decide +kernel
theorem dX8_takeFactors_32 : decode cX8_takeFactors 32 = .ok (.ishr, 1) := by decide +kernel
theorem dX8_takeFactors_33 : decode cX8_takeFactors 33 = .ok (.iconst 1, 1) := by decide +kernel
theorem dX8_takeFactors_34 : decode cX8_takeFactors 34 = .ok (.iand, 1) := by decide +kernel
theorem dX8_takeFactors_35 : decode cX8_takeFactors 35 = .ok (.ifCond .eq 6, 3) := by decide +kernel
theorem dX8_takeFactors_38 : decode cX8_takeFactors 38 = .ok (.goto 63, 3) := by decide +kernel
theorem dX8_takeFactors_41 : decode cX8_takeFactors 41 = .ok (.iload_n 1, 1) := by decide +kernel
theorem dX8_takeFactors_42 : decode cX8_takeFactors 42 = .ok (.iconst 1, 1) := by decide +kernel
theorem dX8_takeFactors_43 : decode cX8_takeFactors 43 = .ok (.iload 4, 2) := by decide +kernel
theorem dX8_takeFactors_45 : decode cX8_takeFactors 45 = .ok (.ishl, 1) := by decide +kernel
theorem dX8_takeFactors_46 : decode cX8_takeFactors 46 = .ok (.ior, 1) := by decide +kernel
theorem dX8_takeFactors_47 : decode cX8_takeFactors 47 = .ok (.istore_n 1, 1) := by decide +kernel
theorem dX8_takeFactors_48 : decode cX8_takeFactors 48 = .ok (.aload_n 0, 1) := by decide +kernel
theorem dX8_takeFactors_49 : decode cX8_takeFactors 49 = .ok (.dup, 1) := by decide +kernel
theorem dX8_takeFactors_50 : decode cX8_takeFactors 50 = .ok (.getfield 22, 3) := by decide +kernel
theorem dX8_takeFactors_53 : decode cX8_takeFactors 53 = .ok (.iconst 1, 1) := by decide +kernel
theorem dX8_takeFactors_54 : decode cX8_takeFactors 54 = .ok (.iadd, 1) := by decide +kernel
theorem dX8_takeFactors_55 : decode cX8_takeFactors 55 = .ok (.putfield 22, 3) := by decide +kernel
theorem dX8_takeFactors_58 : decode cX8_takeFactors 58 = .ok (.aload_n 0, 1) := by decide +kernel
theorem dX8_takeFactors_59 : decode cX8_takeFactors 59 = .ok (.invokevirtual 66, 3) := by decide +kernel
theorem dX8_takeFactors_62 : decode cX8_takeFactors 62 = .ok (.istore 5, 2) := by decide +kernel
theorem dX8_takeFactors_64 : decode cX8_takeFactors 64 = .ok (.iload_n 2, 1) := by decide +kernel
theorem dX8_takeFactors_65 : decode cX8_takeFactors 65 = .ok (.iload 4, 2) := by decide +kernel
theorem dX8_takeFactors_67 : decode cX8_takeFactors 67 = .ok (.ifCond .ne 11, 3) := by decide +kernel
theorem dX8_takeFactors_70 : decode cX8_takeFactors 70 = .ok (.bipush 9, 2) := by decide +kernel
theorem dX8_takeFactors_72 : decode cX8_takeFactors 72 = .ok (.iload 5, 2) := by decide +kernel
theorem dX8_takeFactors_74 : decode cX8_takeFactors 74 = .ok (.imul, 1) := by decide +kernel
theorem dX8_takeFactors_75 : decode cX8_takeFactors 75 = .ok (.goto 18, 3) := by decide +kernel
theorem dX8_takeFactors_78 : decode cX8_takeFactors 78 = .ok (.iload 4, 2) := by decide +kernel
theorem dX8_takeFactors_80 : decode cX8_takeFactors 80 = .ok (.iconst 1, 1) := by decide +kernel
theorem dX8_takeFactors_81 : decode cX8_takeFactors 81 = .ok (.if_icmp .ne 10, 3) := by decide +kernel
theorem dX8_takeFactors_84 : decode cX8_takeFactors 84 = .ok (.iconst 3, 1) := by decide +kernel
theorem dX8_takeFactors_85 : decode cX8_takeFactors 85 = .ok (.iload 5, 2) := by decide +kernel
theorem dX8_takeFactors_87 : decode cX8_takeFactors 87 = .ok (.imul, 1) := by decide +kernel
theorem dX8_takeFactors_88 : decode cX8_takeFactors 88 = .ok (.goto 5, 3) := by decide +kernel
theorem dX8_takeFactors_91 : decode cX8_takeFactors 91 = .ok (.iload 5, 2) := by decide +kernel
theorem dX8_takeFactors_93 : decode cX8_takeFactors 93 = .ok (.iadd, 1) := by decide +kernel
theorem dX8_takeFactors_94 : decode cX8_takeFactors 94 = .ok (.istore_n 2, 1) := by decide +kernel
theorem dX8_takeFactors_95 : decode cX8_takeFactors 95 = .ok (.iinc 3 1, 3) := by decide +kernel
theorem dX8_takeFactors_98 : decode cX8_takeFactors 98 = .ok (.goto (-92), 3) := by decide +kernel
theorem dX8_takeFactors_101 : decode cX8_takeFactors 101 = .ok (.iload_n 1, 1) := by decide +kernel
theorem dX8_takeFactors_102 : decode cX8_takeFactors 102 = .ok (.ifCond .ne 7, 3) := by decide +kernel
theorem dX8_takeFactors_105 : decode cX8_takeFactors 105 = .ok (.iconst (-1), 1) := by decide +kernel
theorem dX8_takeFactors_106 : decode cX8_takeFactors 106 = .ok (.goto 4, 3) := by decide +kernel
theorem dX8_takeFactors_109 : decode cX8_takeFactors 109 = .ok (.iload_n 2, 1) := by decide +kernel
theorem dX8_takeFactors_110 : decode cX8_takeFactors 110 = .ok (.ireturn, 1) := by decide +kernel
theorem dX8_letterOf_0 : decode cX8_letterOf 0 = .ok (.iload_n 0, 1) := by decide +kernel
theorem dX8_letterOf_1 : decode cX8_letterOf 1 = .ok (.bipush 120, 2) := by decide +kernel
theorem dX8_letterOf_3 : decode cX8_letterOf 3 = .ok (.if_icmp .ne 7, 3) := by decide +kernel
theorem dX8_letterOf_6 : decode cX8_letterOf 6 = .ok (.iconst 0, 1) := by decide +kernel
theorem dX8_letterOf_7 : decode cX8_letterOf 7 = .ok (.goto 24, 3) := by decide +kernel
theorem dX8_letterOf_10 : decode cX8_letterOf 10 = .ok (.iload_n 0, 1) := by decide +kernel
theorem dX8_letterOf_11 : decode cX8_letterOf 11 = .ok (.bipush 121, 2) := by decide +kernel
theorem dX8_letterOf_13 : decode cX8_letterOf 13 = .ok (.if_icmp .ne 7, 3) := by decide +kernel
theorem dX8_letterOf_16 : decode cX8_letterOf 16 = .ok (.iconst 1, 1) := by decide +kernel
theorem dX8_letterOf_17 : decode cX8_letterOf 17 = .ok (.goto 14, 3) := by decide +kernel
theorem dX8_letterOf_20 : decode cX8_letterOf 20 = .ok (.iload_n 0, 1) := by decide +kernel
theorem dX8_letterOf_21 : decode cX8_letterOf 21 = .ok (.bipush 116, 2) := by decide +kernel
theorem dX8_letterOf_23 : decode cX8_letterOf 23 = .ok (.if_icmp .ne 7, 3) := by decide +kernel
theorem dX8_letterOf_26 : decode cX8_letterOf 26 = .ok (.iconst 2, 1) := by decide +kernel
theorem dX8_letterOf_27 : decode cX8_letterOf 27 = .ok (.goto 4, 3) := by decide +kernel
theorem dX8_letterOf_30 : decode cX8_letterOf 30 = .ok (.iconst (-1), 1) := by decide +kernel
theorem dX8_letterOf_31 : decode cX8_letterOf 31 = .ok (.ireturn, 1) := by decide +kernel
theorem dX8_takeExponent_0 : decode cX8_takeExponent 0 = .ok (.aload_n 0, 1) := by decide +kernel
theorem dX8_takeExponent_1 : decode cX8_takeExponent 1 = .ok (.invokevirtual 42, 3) := by decide +kernel
theorem dX8_takeExponent_4 : decode cX8_takeExponent 4 = .ok (.istore_n 1, 1) := by decide +kernel
theorem dX8_takeExponent_5 : decode cX8_takeExponent 5 = .ok (.iload_n 1, 1) := by decide +kernel
theorem dX8_takeExponent_6 : decode cX8_takeExponent 6 = .ok (.bipush 48, 2) := by decide +kernel
theorem dX8_takeExponent_8 : decode cX8_takeExponent 8 = .ok (.if_icmp .lt 9, 3) := by decide +kernel
theorem dX8_takeExponent_11 : decode cX8_takeExponent 11 = .ok (.iload_n 1, 1) := by decide +kernel
theorem dX8_takeExponent_12 : decode cX8_takeExponent 12 = .ok (.bipush 50, 2) := by decide +kernel
theorem dX8_takeExponent_14 : decode cX8_takeExponent 14 = .ok (.if_icmp .le 5, 3) := by decide +kernel
theorem dX8_takeExponent_17 : decode cX8_takeExponent 17 = .ok (.iconst 1, 1) := by decide +kernel
theorem dX8_takeExponent_18 : decode cX8_takeExponent 18 = .ok (.ireturn, 1) := by decide +kernel
theorem dX8_takeExponent_19 : decode cX8_takeExponent 19 = .ok (.aload_n 0, 1) := by decide +kernel
theorem dX8_takeExponent_20 : decode cX8_takeExponent 20 = .ok (.dup, 1) := by decide +kernel
theorem dX8_takeExponent_21 : decode cX8_takeExponent 21 = .ok (.getfield 22, 3) := by decide +kernel
theorem dX8_takeExponent_24 : decode cX8_takeExponent 24 = .ok (.iconst 1, 1) := by decide +kernel
theorem dX8_takeExponent_25 : decode cX8_takeExponent 25 = .ok (.iadd, 1) := by decide +kernel
theorem dX8_takeExponent_26 : decode cX8_takeExponent 26 = .ok (.putfield 22, 3) := by decide +kernel
theorem dX8_takeExponent_29 : decode cX8_takeExponent 29 = .ok (.iload_n 1, 1) := by decide +kernel
theorem dX8_takeExponent_30 : decode cX8_takeExponent 30 = .ok (.bipush 48, 2) := by decide +kernel
theorem dX8_takeExponent_32 : decode cX8_takeExponent 32 = .ok (.isub, 1) := by decide +kernel
theorem dX8_takeExponent_33 : decode cX8_takeExponent 33 = .ok (.ireturn, 1) := by decide +kernel
theorem dX9_init_0 : decode cX9_init 0 = .ok (.aload_n 0, 1) := by decide +kernel
theorem dX9_init_1 : decode cX9_init 1 = .ok (.invokespecial 1, 3) := by decide +kernel
theorem dX9_init_4 : decode cX9_init 4 = .ok (.new 7, 3) := by decide +kernel
theorem dX9_init_7 : decode cX9_init 7 = .ok (.dup, 1) := by decide +kernel
theorem dX9_init_8 : decode cX9_init 8 = .ok (.invokespecial 9, 3) := by decide +kernel
theorem dX9_init_11 : decode cX9_init 11 = .ok (.astore_n 1, 1) := by decide +kernel
theorem dX9_init_12 : decode cX9_init 12 = .ok (.new 10, 3) := by decide +kernel
theorem dX9_init_15 : decode cX9_init 15 = .ok (.dup, 1) := by decide +kernel
theorem dX9_init_16 : decode cX9_init 16 = .ok (.aload_n 1, 1) := by decide +kernel
theorem dX9_init_17 : decode cX9_init 17 = .ok (.invokespecial 12, 3) := by decide +kernel
theorem dX9_init_20 : decode cX9_init 20 = .ok (.astore_n 2, 1) := by decide +kernel
theorem dX9_init_21 : decode cX9_init 21 = .ok (.new 15, 3) := by decide +kernel
theorem dX9_init_24 : decode cX9_init 24 = .ok (.dup, 1) := by decide +kernel
theorem dX9_init_25 : decode cX9_init 25 = .ok (.aload_n 1, 1) := by decide +kernel
theorem dX9_init_26 : decode cX9_init 26 = .ok (.aload_n 2, 1) := by decide +kernel
theorem dX9_init_27 : decode cX9_init 27 = .ok (.invokespecial 17, 3) := by decide +kernel
theorem dX9_init_30 : decode cX9_init 30 = .ok (.astore_n 3, 1) := by decide +kernel
theorem dX9_init_31 : decode cX9_init 31 = .ok (.aload_n 0, 1) := by decide +kernel
theorem dX9_init_32 : decode cX9_init 32 = .ok (.aload_n 1, 1) := by decide +kernel
theorem dX9_init_33 : decode cX9_init 33 = .ok (.putfield 20, 3) := by decide +kernel
theorem dX9_init_36 : decode cX9_init 36 = .ok (.aload_n 0, 1) := by decide +kernel
theorem dX9_init_37 : decode cX9_init 37 = .ok (.new 26, 3) := by decide +kernel
theorem dX9_init_40 : decode cX9_init 40 = .ok (.dup, 1) := by decide +kernel
theorem dX9_init_41 : decode cX9_init 41 = .ok (.invokespecial 28, 3) := by decide +kernel
theorem dX9_init_44 : decode cX9_init 44 = .ok (.putfield 29, 3) := by decide +kernel
theorem dX9_init_47 : decode cX9_init 47 = .ok (.aload_n 0, 1) := by decide +kernel
theorem dX9_init_48 : decode cX9_init 48 = .ok (.new 33, 3) := by decide +kernel
theorem dX9_init_51 : decode cX9_init 51 = .ok (.dup, 1) := by decide +kernel
theorem dX9_init_52 : decode cX9_init 52 = .ok (.invokespecial 35, 3) := by decide +kernel
theorem dX9_init_55 : decode cX9_init 55 = .ok (.putfield 36, 3) := by decide +kernel
theorem dX9_init_58 : decode cX9_init 58 = .ok (.aload_n 0, 1) := by decide +kernel
theorem dX9_init_59 : decode cX9_init 59 = .ok (.new 40, 3) := by decide +kernel
theorem dX9_init_62 : decode cX9_init 62 = .ok (.dup, 1) := by decide +kernel
theorem dX9_init_63 : decode cX9_init 63 = .ok (.aload_n 1, 1) := by decide +kernel
theorem dX9_init_64 : decode cX9_init 64 = .ok (.invokespecial 42, 3) := by decide +kernel
theorem dX9_init_67 : decode cX9_init 67 = .ok (.putfield 43, 3) := by decide +kernel
theorem dX9_init_70 : decode cX9_init 70 = .ok (.aload_n 0, 1) := by decide +kernel
theorem dX9_init_71 : decode cX9_init 71 = .ok (.aload_n 2, 1) := by decide +kernel
theorem dX9_init_72 : decode cX9_init 72 = .ok (.putfield 47, 3) := by decide +kernel
theorem dX9_init_75 : decode cX9_init 75 = .ok (.aload_n 0, 1) := by decide +kernel
theorem dX9_init_76 : decode cX9_init 76 = .ok (.aload_n 3, 1) := by decide +kernel
