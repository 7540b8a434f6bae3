theorem dJ6_bitCount_0f7a4_0 : decode cJ6_bitCount_0f7a4 0 = .ok (.iload_n 0, 1) := by decide +kernel
theorem dJ6_bitCount_0f7a4_1 : decode cJ6_bitCount_0f7a4 1 = .ok (.iload_n 0, 1) := by decide +kernel
theorem dJ6_bitCount_0f7a4_2 : decode cJ6_bitCount_0f7a4 2 = .ok (.iconst 1, 1) := by decide +kernel
theorem dJ6_bitCount_0f7a4_3 : decode cJ6_bitCount_0f7a4 3 = .ok (.iushr, 1) := by decide +kernel
theorem dJ6_bitCount_0f7a4_4 : decode cJ6_bitCount_0f7a4 4 = .ok (.ldc_w 265, 3) := by decide +kernel
theorem dJ6_bitCount_0f7a4_7 : decode cJ6_bitCount_0f7a4 7 = .ok (.iand, 1) := by decide +kernel
theorem dJ6_bitCount_0f7a4_8 : decode cJ6_bitCount_0f7a4 8 = .ok (.isub, 1) := by decide +kernel
theorem dJ6_bitCount_0f7a4_9 : decode cJ6_bitCount_0f7a4 9 = .ok (.istore_n 0, 1) := by decide +kernel
theorem dJ6_bitCount_0f7a4_10 : decode cJ6_bitCount_0f7a4 10 = .ok (.iload_n 0, 1) := by decide +kernel
theorem dJ6_bitCount_0f7a4_11 : decode cJ6_bitCount_0f7a4 11 = .ok (.ldc_w 266, 3) := by decide +kernel
theorem dJ6_bitCount_0f7a4_14 : decode cJ6_bitCount_0f7a4 14 = .ok (.iand, 1) := by decide +kernel
theorem dJ6_bitCount_0f7a4_15 : decode cJ6_bitCount_0f7a4 15 = .ok (.iload_n 0, 1) := by decide +kernel
theorem dJ6_bitCount_0f7a4_16 : decode cJ6_bitCount_0f7a4 16 = .ok (.iconst 2, 1) := by decide +kernel
theorem dJ6_bitCount_0f7a4_17 : decode cJ6_bitCount_0f7a4 17 = .ok (.iushr, 1) := by decide +kernel
theorem dJ6_bitCount_0f7a4_18 : decode cJ6_bitCount_0f7a4 18 = .ok (.ldc_w 266, 3) := by decide +kernel
theorem dJ6_bitCount_0f7a4_21 : decode cJ6_bitCount_0f7a4 21 = .ok (.iand, 1) := by decide +kernel
theorem dJ6_bitCount_0f7a4_22 : decode cJ6_bitCount_0f7a4 22 = .ok (.iadd, 1) := by decide +kernel
theorem dJ6_bitCount_0f7a4_23 : decode cJ6_bitCount_0f7a4 23 = .ok (.istore_n 0, 1) := by decide +kernel
theorem dJ6_bitCount_0f7a4_24 : decode cJ6_bitCount_0f7a4 24 = .ok (.iload_n 0, 1) := by decide +kernel
theorem dJ6_bitCount_0f7a4_25 : decode cJ6_bitCount_0f7a4 25 = .ok (.iload_n 0, 1) := by decide +kernel
theorem dJ6_bitCount_0f7a4_26 : decode cJ6_bitCount_0f7a4 26 = .ok (.iconst 4, 1) := by decide +kernel
theorem dJ6_bitCount_0f7a4_27 : decode cJ6_bitCount_0f7a4 27 = .ok (.iushr, 1) := by decide +kernel
theorem dJ6_bitCount_0f7a4_28 : decode cJ6_bitCount_0f7a4 28 = .ok (.iadd, 1) := by decide +kernel
theorem dJ6_bitCount_0f7a4_29 : decode cJ6_bitCount_0f7a4 29 = .ok (.ldc_w 267, 3) := by decide +kernel
theorem dJ6_bitCount_0f7a4_32 : decode cJ6_bitCount_0f7a4 32 = .ok (.iand, 1) := by decide +kernel
theorem dJ6_bitCount_0f7a4_33 : decode cJ6_bitCount_0f7a4 33 = .ok (.istore_n 0, 1) := by decide +kernel
theorem dJ6_bitCount_0f7a4_34 : decode cJ6_bitCount_0f7a4 34 = .ok (.iload_n 0, 1) := by decide +kernel
theorem dJ6_bitCount_0f7a4_35 : decode cJ6_bitCount_0f7a4 35 = .ok (.iload_n 0, 1) := by decide +kernel
theorem dJ6_bitCount_0f7a4_36 : decode cJ6_bitCount_0f7a4 36 = .ok (.bipush 8, 2) := by decide +kernel
theorem dJ6_bitCount_0f7a4_38 : decode cJ6_bitCount_0f7a4 38 = .ok (.iushr, 1) := by decide +kernel
theorem dJ6_bitCount_0f7a4_39 : decode cJ6_bitCount_0f7a4 39 = .ok (.iadd, 1) := by decide +kernel
theorem dJ6_bitCount_0f7a4_40 : decode cJ6_bitCount_0f7a4 40 = .ok (.istore_n 0, 1) := by decide +kernel
theorem dJ6_bitCount_0f7a4_41 : decode cJ6_bitCount_0f7a4 41 = .ok (.iload_n 0, 1) := by decide +kernel
theorem dJ6_bitCount_0f7a4_42 : decode cJ6_bitCount_0f7a4 42 = .ok (.iload_n 0, 1) := by decide +kernel
theorem dJ6_bitCount_0f7a4_43 : decode cJ6_bitCount_0f7a4 43 = .ok (.bipush 16, 2) := by decide +kernel
theorem dJ6_bitCount_0f7a4_45 : decode cJ6_bitCount_0f7a4 45 = .ok (.iushr, 1) := by decide +kernel
theorem dJ6_bitCount_0f7a4_46 : decode cJ6_bitCount_0f7a4 46 = .ok (.iadd, 1) := by decide +kernel
theorem dJ6_bitCount_0f7a4_47 : decode cJ6_bitCount_0f7a4 47 = .ok (.istore_n 0, 1) := by decide +kernel
theorem dJ6_bitCount_0f7a4_48 : decode cJ6_bitCount_0f7a4 48 = .ok (.iload_n 0, 1) := by decide +kernel
theorem dJ6_bitCount_0f7a4_49 : decode cJ6_bitCount_0f7a4 49 = .ok (.bipush 63, 2) := by decide +kernel
theorem dJ6_bitCount_0f7a4_51 : decode cJ6_bitCount_0f7a4 51 = .ok (.iand, 1) := by decide +kernel
theorem dJ6_bitCount_0f7a4_52 : decode cJ6_bitCount_0f7a4 52 = .ok (.ireturn, 1) := by decide +kernel
theorem dJ7_fill_53178_0 : decode cJ7_fill_53178 0 = .ok (.iconst 0, 1) := by decide +kernel
theorem dJ7_fill_53178_1 : decode cJ7_fill_53178 1 = .ok (.istore_n 2, 1) := by decide +kernel
theorem dJ7_fill_53178_2 : decode cJ7_fill_53178 2 = .ok (.aload_n 0, 1) := by decide +kernel
theorem dJ7_fill_53178_3 : decode cJ7_fill_53178 3 = .ok (.arraylength, 1) := by decide +kernel
theorem dJ7_fill_53178_4 : decode cJ7_fill_53178 4 = .ok (.istore_n 3, 1) := by decide +kernel
theorem dJ7_fill_53178_5 : decode cJ7_fill_53178 5 = .ok (.iload_n 2, 1) := by decide +kernel
theorem dJ7_fill_53178_6 : decode cJ7_fill_53178 6 = .ok (.iload_n 3, 1) := by decide +kernel
theorem dJ7_fill_53178_7 : decode cJ7_fill_53178 7 = .ok (.if_icmp .ge 13, 3) := by decide +kernel
theorem dJ7_fill_53178_10 : decode cJ7_fill_53178 10 = .ok (.aload_n 0, 1) := by decide +kernel
theorem dJ7_fill_53178_11 : decode cJ7_fill_53178 11 = .ok (.iload_n 2, 1) := by decide +kernel
theorem dJ7_fill_53178_12 : decode cJ7_fill_53178 12 = .ok (.iload_n 1, 1) := by decide +kernel
theorem dJ7_fill_53178_13 : decode cJ7_fill_53178 13 = .ok (.iastore, 1) := by decide +kernel
theorem dJ7_fill_53178_14 : decode cJ7_fill_53178 14 = .ok (.iinc 2 1, 3) := by decide +kernel
theorem dJ7_fill_53178_17 : decode cJ7_fill_53178 17 = .ok (.goto (-12), 3) := by decide +kernel
theorem dJ7_fill_53178_20 : decode cJ7_fill_53178 20 = .ok (.return_, 1) := by decide +kernel
theorem dJ9_max_7cf53_0 : decode cJ9_max_7cf53 0 = .ok (.iload_n 0, 1) := by decide +kernel
theorem dJ9_max_7cf53_1 : decode cJ9_max_7cf53 1 = .ok (.iload_n 1, 1) := by decide +kernel
theorem dJ9_max_7cf53_2 : decode cJ9_max_7cf53 2 = .ok (.if_icmp .lt 7, 3) := by decide +kernel
theorem dJ9_max_7cf53_5 : decode cJ9_max_7cf53 5 = .ok (.iload_n 0, 1) := by decide +kernel
theorem dJ9_max_7cf53_6 : decode cJ9_max_7cf53 6 = .ok (.goto 4, 3) := by decide +kernel
theorem dJ9_max_7cf53_9 : decode cJ9_max_7cf53 9 = .ok (.iload_n 1, 1) := by decide +kernel
theorem dJ9_max_7cf53_10 : decode cJ9_max_7cf53 10 = .ok (.ireturn, 1) := by decide +kernel
theorem dJ9_min_7cf53_0 : decode cJ9_min_7cf53 0 = .ok (.iload_n 0, 1) := by decide +kernel
theorem dJ9_min_7cf53_1 : decode cJ9_min_7cf53 1 = .ok (.iload_n 1, 1) := by decide +kernel
theorem dJ9_min_7cf53_2 : decode cJ9_min_7cf53 2 = .ok (.if_icmp .gt 7, 3) := by decide +kernel
theorem dJ9_min_7cf53_5 : decode cJ9_min_7cf53 5 = .ok (.iload_n 0, 1) := by decide +kernel
theorem dJ9_min_7cf53_6 : decode cJ9_min_7cf53 6 = .ok (.goto 4, 3) := by decide +kernel
theorem dJ9_min_7cf53_9 : decode cJ9_min_7cf53 9 = .ok (.iload_n 1, 1) := by decide +kernel
theorem dJ9_min_7cf53_10 : decode cJ9_min_7cf53 10 = .ok (.ireturn, 1) := by decide +kernel
theorem dX0_init_0 : decode cX0_init 0 = .ok (.aload_n 0, 1) := by decide +kernel
theorem dX0_init_1 : decode cX0_init 1 = .ok (.invokespecial 3, 3) := by decide +kernel
theorem dX0_init_4 : decode cX0_init 4 = .ok (.aload_n 0, 1) := by decide +kernel
theorem dX0_init_5 : decode cX0_init 5 = .ok (.bipush 64, 2) := by decide +kernel
theorem dX0_init_7 : decode cX0_init 7 = .ok (.bipush 7, 2) := by decide +kernel
theorem dX0_init_9 : decode cX0_init 9 = .ok (.multianewarray 9 2, 4) := by decide +kernel
theorem dX0_init_13 : decode cX0_init 13 = .ok (.putfield 11, 3) := by decide +kernel
theorem dX0_init_16 : decode cX0_init 16 = .ok (.aload_n 0, 1) := by decide +kernel
theorem dX0_init_17 : decode cX0_init 17 = .ok (.iconst 3, 1) := by decide +kernel
theorem dX0_init_18 : decode cX0_init 18 = .ok (.iconst 5, 1) := by decide +kernel
theorem dX0_init_19 : decode cX0_init 19 = .ok (.multianewarray 9 2, 4) := by decide +kernel
theorem dX0_init_23 : decode cX0_init 23 = .ok (.putfield 16, 3) := by decide +kernel
theorem dX0_init_26 : decode cX0_init 26 = .ok (.aload_n 0, 1) := by decide +kernel
theorem dX0_init_27 : decode cX0_init 27 = .ok (.bipush 7, 2) := by decide +kernel
theorem dX0_init_29 : decode cX0_init 29 = .ok (.newarray .int, 2) := by decide +kernel
theorem dX0_init_31 : decode cX0_init 31 = .ok (.putfield 19, 3) := by decide +kernel
theorem dX0_init_34 : decode cX0_init 34 = .ok (.aload_n 0, 1) := by decide +kernel
theorem dX0_init_35 : decode cX0_init 35 = .ok (.aload_n 1, 1) := by decide +kernel
theorem dX0_init_36 : decode cX0_init 36 = .ok (.putfield 23, 3) := by decide +kernel
theorem dX0_init_39 : decode cX0_init 39 = .ok (.return_, 1) := by decide +kernel
theorem dX0_forget_0 : decode cX0_forget 0 = .ok (.aload_n 0, 1) := by decide +kernel
theorem dX0_forget_1 : decode cX0_forget 1 = .ok (.iconst 0, 1) := by decide +kernel
theorem dX0_forget_2 : decode cX0_forget 2 = .ok (.putfield 27, 3) := by decide +kernel
theorem dX0_forget_5 : decode cX0_forget 5 = .ok (.return_, 1) := by decide +kernel
theorem dX0_at_0 : decode cX0_at 0 = .ok (.bipush 8, 2) := by decide +kernel
theorem dX0_at_2 : decode cX0_at 2 = .ok (.iload_n 1, 1) := by decide +kernel
theorem dX0_at_3 : decode cX0_at 3 = .ok (.imul, 1) := by decide +kernel
theorem dX0_at_4 : decode cX0_at 4 = .ok (.iload_n 2, 1) := by decide +kernel
theorem dX0_at_5 : decode cX0_at 5 = .ok (.iadd, 1) := by decide +kernel
theorem dX0_at_6 : decode cX0_at 6 = .ok (.istore_n 3, 1) := by decide +kernel
theorem dX0_at_7 : decode cX0_at 7 = .ok (.iload_n 3, 1) := by decide +kernel
theorem dX0_at_8 : decode cX0_at 8 = .ok (.ifCond .lt 21, 3) := by decide +kernel
theorem dX0_at_11 : decode cX0_at 11 = .ok (.iload_n 3, 1) := by decide +kernel
theorem dX0_at_12 : decode cX0_at 12 = .ok (.aload_n 0, 1) := by decide +kernel
theorem dX0_at_13 : decode cX0_at 13 = .ok (.getfield 11, 3) := by decide +kernel
theorem dX0_at_16 : decode cX0_at 16 = .ok (.arraylength, 1) := by decide +kernel
theorem dX0_at_17 : decode cX0_at 17 = .ok (.if_icmp .ge 12, 3) := by decide +kernel
theorem dX0_at_20 : decode cX0_at 20 = .ok (.aload_n 0, 1) := by decide +kernel
theorem dX0_at_21 : decode cX0_at 21 = .ok (.getfield 11, 3) := by decide +kernel
theorem dX0_at_24 : decode cX0_at 24 = .ok (.iload_n 3, 1) := by decide +kernel
theorem dX0_at_25 : decode cX0_at 25 = .ok (.aaload, 1) := by decide +kernel
theorem dX0_at_26 : decode cX0_at 26 = .ok (.goto 9, 3) := by decide +kernel
theorem dX0_at_29 : decode cX0_at 29 = .ok (.aload_n 0, 1) := by decide +kernel
theorem dX0_at_30 : decode cX0_at 30 = .ok (.getfield 11, 3) := by decide +kernel
theorem dX0_at_33 : decode cX0_at 33 = .ok (.iconst 0, 1) := by decide +kernel
theorem dX0_at_34 : decode cX0_at 34 = .ok (.aaload, 1) := by decide +kernel
theorem dX0_at_35 : decode cX0_at 35 = .ok (.areturn, 1) := by decide +kernel
theorem dX0_termAt_0 : decode cX0_termAt 0 = .ok (.aload_n 0, 1) := by decide +kernel
theorem dX0_termAt_1 : decode cX0_termAt 1 = .ok (.iload_n 1, 1) := by decide +kernel
theorem dX0_termAt_2 : decode cX0_termAt 2 = .ok (.iload_n 2, 1) := by decide +kernel
theorem dX0_termAt_3 : decode cX0_termAt 3 = .ok (.invokevirtual 31, 3) := by decide +kernel
theorem dX0_termAt_6 : decode cX0_termAt 6 = .ok (.astore 4, 2) := by decide +kernel
theorem dX0_termAt_8 : decode cX0_termAt 8 = .ok (.iload_n 3, 1) := by decide +kernel
theorem dX0_termAt_9 : decode cX0_termAt 9 = .ok (.ifCond .lt 17, 3) := by decide +kernel
theorem dX0_termAt_12 : decode cX0_termAt 12 = .ok (.iload_n 3, 1) := by decide +kernel
theorem dX0_termAt_13 : decode cX0_termAt 13 = .ok (.aload 4, 2) := by decide +kernel
theorem dX0_termAt_15 : decode cX0_termAt 15 = .ok (.arraylength, 1) := by decide +kernel
theorem dX0_termAt_16 : decode cX0_termAt 16 = .ok (.if_icmp .ge 10, 3) := by decide +kernel
theorem dX0_termAt_19 : decode cX0_termAt 19 = .ok (.aload 4, 2) := by decide +kernel
theorem dX0_termAt_21 : decode cX0_termAt 21 = .ok (.iload_n 3, 1) := by decide +kernel
theorem dX0_termAt_22 : decode cX0_termAt 22 = .ok (.iaload, 1) := by decide +kernel
theorem dX0_termAt_23 : decode cX0_termAt 23 = .ok (.goto 4, 3) := by decide +kernel
theorem dX0_termAt_26 : decode cX0_termAt 26 = .ok (.iconst 0, 1) := by decide +kernel
theorem dX0_termAt_27 : decode cX0_termAt 27 = .ok (.ireturn, 1) := by decide +kernel
theorem dX0_measure_0 : decode cX0_measure 0 = .ok (.aload_n 0, 1) := by decide +kernel
theorem dX0_measure_1 : decode cX0_measure 1 = .ok (.aload_n 0, 1) := by decide +kernel
theorem dX0_measure_2 : decode cX0_measure 2 = .ok (.getfield 23, 3) := by decide +kernel
theorem dX0_measure_5 : decode cX0_measure 5 = .ok (.iconst 0, 1) := by decide +kernel
theorem dX0_measure_6 : decode cX0_measure 6 = .ok (.invokevirtual 35, 3) := by decide +kernel
theorem dX0_measure_9 : decode cX0_measure 9 = .ok (.putfield 41, 3) := by decide +kernel
theorem dX0_measure_12 : decode cX0_measure 12 = .ok (.aload_n 0, 1) := by decide +kernel
theorem dX0_measure_13 : decode cX0_measure 13 = .ok (.aload_n 0, 1) := by decide +kernel
theorem dX0_measure_14 : decode cX0_measure 14 = .ok (.getfield 23, 3) := by decide +kernel
theorem dX0_measure_17 : decode cX0_measure 17 = .ok (.iconst 1, 1) := by decide +kernel
theorem dX0_measure_18 : decode cX0_measure 18 = .ok (.invokevirtual 35, 3) := by decide +kernel
theorem dX0_measure_21 : decode cX0_measure 21 = .ok (.putfield 45, 3) := by decide +kernel
theorem dX0_measure_24 : decode cX0_measure 24 = .ok (.aload_n 0, 1) := by decide +kernel
theorem dX0_measure_25 : decode cX0_measure 25 = .ok (.aload_n 0, 1) := by decide +kernel
theorem dX0_measure_26 : decode cX0_measure 26 = .ok (.getfield 41, 3) := by decide +kernel
theorem dX0_measure_29 : decode cX0_measure 29 = .ok (.iconst 1, 1) := by decide +kernel
theorem dX0_measure_30 : decode cX0_measure 30 = .ok (.if_icmp .lt 25, 3) := by decide +kernel
theorem dX0_measure_33 : decode cX0_measure 33 = .ok (.aload_n 0, 1) := by decide +kernel
theorem dX0_measure_34 : decode cX0_measure 34 = .ok (.getfield 45, 3) := by decide +kernel
theorem dX0_measure_37 : decode cX0_measure 37 = .ok (.iconst 1, 1) := by decide +kernel
theorem dX0_measure_38 : decode cX0_measure 38 = .ok (.if_icmp .lt 17, 3) := by decide +kernel
theorem dX0_measure_41 : decode cX0_measure 41 = .ok (.iconst 2, 1) := by decide +kernel
theorem dX0_measure_42 : decode cX0_measure 42 = .ok (.aload_n 0, 1) := by decide +kernel
theorem dX0_measure_43 : decode cX0_measure 43 = .ok (.getfield 41, 3) := by decide +kernel
theorem dX0_measure_46 : decode cX0_measure 46 = .ok (.imul, 1) := by decide +kernel
theorem dX0_measure_47 : decode cX0_measure 47 = .ok (.aload_n 0, 1) := by decide +kernel
theorem dX0_measure_48 : decode cX0_measure 48 = .ok (.getfield 45, 3) := by decide +kernel
theorem dX0_measure_51 : decode cX0_measure 51 = .ok (.imul, 1) := by decide +kernel
theorem dX0_measure_52 : decode cX0_measure 52 = .ok (.goto 4, 3) := by decide +kernel
theorem dX0_measure_55 : decode cX0_measure 55 = .ok (.iconst 0, 1) := by decide +kernel
theorem dX0_measure_56 : decode cX0_measure 56 = .ok (.putfield 48, 3) := by decide +kernel
theorem dX0_measure_59 : decode cX0_measure 59 = .ok (.return_, 1) := by decide +kernel
theorem dX0_fill_0 : decode cX0_fill 0 = .ok (.aload_n 0, 1) := by decide +kernel
theorem dX0_fill_1 : decode cX0_fill 1 = .ok (.iconst 1, 1) := by decide +kernel
theorem dX0_fill_2 : decode cX0_fill 2 = .ok (.putfield 27, 3) := by decide +kernel
theorem dX0_fill_5 : decode cX0_fill 5 = .ok (.iconst 0, 1) := by decide +kernel
theorem dX0_fill_6 : decode cX0_fill 6 = .ok (.istore_n 1, 1) := by decide +kernel
theorem dX0_fill_7 : decode cX0_fill 7 = .ok (.iload_n 1, 1) := by decide +kernel
theorem dX0_fill_8 : decode cX0_fill 8 = .ok (.aload_n 0, 1) := by decide +kernel
theorem dX0_fill_9 : decode cX0_fill 9 = .ok (.getfield 11, 3) := by decide +kernel
theorem dX0_fill_12 : decode cX0_fill 12 = .ok (.arraylength, 1) := by decide +kernel
theorem dX0_fill_13 : decode cX0_fill 13 = .ok (.if_icmp .ge 19, 3) := by decide +kernel
theorem dX0_fill_16 : decode cX0_fill 16 = .ok (.aload_n 0, 1) := by decide +kernel
theorem dX0_fill_17 : decode cX0_fill 17 = .ok (.getfield 11, 3) := by decide +kernel
theorem dX0_fill_20 : decode cX0_fill 20 = .ok (.iload_n 1, 1) := by decide +kernel
theorem dX0_fill_21 : decode cX0_fill 21 = .ok (.aaload, 1) := by decide +kernel
theorem dX0_fill_22 : decode cX0_fill 22 = .ok (.iconst 0, 1) := by decide +kernel
theorem dX0_fill_23 : decode cX0_fill 23 = .ok (.invokestatic 51, 3) := by decide +kernel
theorem dX0_fill_26 : decode cX0_fill 26 = .ok (.iinc 1 1, 3) := by decide +kernel
theorem dX0_fill_29 : decode cX0_fill 29 = .ok (.goto (-22), 3) := by decide +kernel
theorem dX0_fill_32 : decode cX0_fill 32 = .ok (.iconst 3, 1) := by decide +kernel
theorem dX0_fill_33 : decode cX0_fill 33 = .ok (.istore_n 1, 1) := by decide +kernel
theorem dX0_fill_34 : decode cX0_fill 34 = .ok (.aload_n 0, 1) := by decide +kernel
theorem dX0_fill_35 : decode cX0_fill 35 = .ok (.getfield 48, 3) := by decide +kernel
theorem dX0_fill_38 : decode cX0_fill 38 = .ok (.ifCond .le 70, 3) := by decide +kernel
theorem dX0_fill_41 : decode cX0_fill 41 = .ok (.iload_n 1, 1) := by decide +kernel
theorem dX0_fill_42 : decode cX0_fill 42 = .ok (.bipush 9, 2) := by decide +kernel
theorem dX0_fill_44 : decode cX0_fill 44 = .ok (.if_icmp .ge 64, 3) := by decide +kernel
theorem dX0_fill_47 : decode cX0_fill 47 = .ok (.iconst 0, 1) := by decide +kernel
theorem dX0_fill_48 : decode cX0_fill 48 = .ok (.istore_n 2, 1) := by decide +kernel
theorem dX0_fill_49 : decode cX0_fill 49 = .ok (.iload_n 2, 1) := by decide +kernel
theorem dX0_fill_50 : decode cX0_fill 50 = .ok (.bipush 9, 2) := by decide +kernel
theorem dX0_fill_52 : decode cX0_fill 52 = .ok (.if_icmp .ge 50, 3) := by decide +kernel
theorem dX0_fill_55 : decode cX0_fill 55 = .ok (.iload_n 2, 1) := by decide +kernel
theorem dX0_fill_56 : decode cX0_fill 56 = .ok (.iconst 3, 1) := by decide +kernel
theorem dX0_fill_57 : decode cX0_fill 57 = .ok (.irem, 1) := by decide +kernel
theorem dX0_fill_58 : decode cX0_fill 58 = .ok (.ifCond .le 38, 3) := by decide +kernel
theorem dX0_fill_61 : decode cX0_fill 61 = .ok (.aload_n 0, 1) := by decide +kernel
theorem dX0_fill_62 : decode cX0_fill 62 = .ok (.iload_n 1, 1) := by decide +kernel
theorem dX0_fill_63 : decode cX0_fill 63 = .ok (.iload_n 2, 1) := by decide +kernel
theorem dX0_fill_64 : decode cX0_fill 64 = .ok (.invokevirtual 57, 3) := by decide +kernel
theorem dX0_fill_67 : decode cX0_fill 67 = .ok (.ifCond .eq 29, 3) := by decide +kernel
theorem dX0_fill_70 : decode cX0_fill 70 = .ok (.iconst 0, 1) := by decide +kernel
theorem dX0_fill_71 : decode cX0_fill 71 = .ok (.istore_n 3, 1) := by decide +kernel
theorem dX0_fill_72 : decode cX0_fill 72 = .ok (.iload_n 3, 1) := by decide +kernel
theorem dX0_fill_73 : decode cX0_fill 73 = .ok (.bipush 9, 2) := by decide +kernel
theorem dX0_fill_75 : decode cX0_fill 75 = .ok (.if_icmp .ge 21, 3) := by decide +kernel
theorem dX0_fill_78 : decode cX0_fill 78 = .ok (.aload_n 0, 1) := by decide +kernel
theorem dX0_fill_79 : decode cX0_fill 79 = .ok (.iload_n 3, 1) := by decide +kernel
theorem dX0_fill_80 : decode cX0_fill 80 = .ok (.invokevirtual 61, 3) := by decide +kernel
theorem dX0_fill_83 : decode cX0_fill 83 = .ok (.aload_n 0, 1) := by decide +kernel
theorem dX0_fill_84 : decode cX0_fill 84 = .ok (.iload_n 1, 1) := by decide +kernel
theorem dX0_fill_85 : decode cX0_fill 85 = .ok (.iload_n 2, 1) := by decide +kernel
theorem dX0_fill_86 : decode cX0_fill 86 = .ok (.iload_n 3, 1) := by decide +kernel
theorem dX0_fill_87 : decode cX0_fill 87 = .ok (.invokevirtual 65, 3) := by decide +kernel
theorem dX0_fill_90 : decode cX0_fill 90 = .ok (.iinc 3 1, 3) := by decide +kernel
theorem dX0_fill_93 : decode cX0_fill 93 = .ok (.goto (-21), 3) := by decide +kernel
theorem dX0_fill_96 : decode cX0_fill 96 = .ok (.iinc 2 1, 3) := by decide +kernel
theorem dX0_fill_99 : decode cX0_fill 99 = .ok (.goto (-50), 3) := by decide +kernel
theorem dX0_fill_102 : decode cX0_fill 102 = .ok (.iinc 1 1, 3) := by decide +kernel
theorem dX0_fill_105 : decode cX0_fill 105 = .ok (.goto (-71), 3) := by decide +kernel
theorem dX0_fill_108 : decode cX0_fill 108 = .ok (.return_, 1) := by decide +kernel
theorem dX0_multiplyAcross_0 : decode cX0_multiplyAcross 0 = .ok (.iconst 0, 1) := by decide +kernel
theorem dX0_multiplyAcross_1 : decode cX0_multiplyAcross 1 = .ok (.istore_n 3, 1) := by decide +kernel
theorem dX0_multiplyAcross_2 : decode cX0_multiplyAcross 2 = .ok (.iconst 0, 1) := by decide +kernel
theorem dX0_multiplyAcross_3 : decode cX0_multiplyAcross 3 = .ok (.istore 4, 2) := by decide +kernel
theorem dX0_multiplyAcross_5 : decode cX0_multiplyAcross 5 = .ok (.iload 4, 2) := by decide +kernel
theorem dX0_multiplyAcross_7 : decode cX0_multiplyAcross 7 = .ok (.iconst 3, 1) := by decide +kernel
theorem dX0_multiplyAcross_8 : decode cX0_multiplyAcross 8 = .ok (.if_icmp .ge 125, 3) := by decide +kernel
theorem dX0_multiplyAcross_11 : decode cX0_multiplyAcross 11 = .ok (.aload_n 0, 1) := by decide +kernel
theorem dX0_multiplyAcross_12 : decode cX0_multiplyAcross 12 = .ok (.getfield 23, 3) := by decide +kernel
theorem dX0_multiplyAcross_15 : decode cX0_multiplyAcross 15 = .ok (.iload 4, 2) := by decide +kernel
theorem dX0_multiplyAcross_17 : decode cX0_multiplyAcross 17 = .ok (.iconst 1, 1) := by decide +kernel
theorem dX0_multiplyAcross_18 : decode cX0_multiplyAcross 18 = .ok (.iadd, 1) := by decide +kernel
theorem dX0_multiplyAcross_19 : decode cX0_multiplyAcross 19 = .ok (.iconst 3, 1) := by decide +kernel
theorem dX0_multiplyAcross_20 : decode cX0_multiplyAcross 20 = .ok (.irem, 1) := by decide +kernel
theorem dX0_multiplyAcross_21 : decode cX0_multiplyAcross 21 = .ok (.invokevirtual 69, 3) := by decide +kernel
theorem dX0_multiplyAcross_24 : decode cX0_multiplyAcross 24 = .ok (.astore 5, 2) := by decide +kernel
theorem dX0_multiplyAcross_26 : decode cX0_multiplyAcross 26 = .ok (.aload_n 0, 1) := by decide +kernel
theorem dX0_multiplyAcross_27 : decode cX0_multiplyAcross 27 = .ok (.getfield 23, 3) := by decide +kernel
theorem dX0_multiplyAcross_30 : decode cX0_multiplyAcross 30 = .ok (.iload 4, 2) := by decide +kernel
theorem dX0_multiplyAcross_32 : decode cX0_multiplyAcross 32 = .ok (.iconst 2, 1) := by decide +kernel
theorem dX0_multiplyAcross_33 : decode cX0_multiplyAcross 33 = .ok (.iadd, 1) := by decide +kernel
theorem dX0_multiplyAcross_34 : decode cX0_multiplyAcross 34 = .ok (.iconst 3, 1) := by decide +kernel
theorem dX0_multiplyAcross_35 : decode cX0_multiplyAcross 35 = .ok (.irem, 1) := by decide +kernel
theorem dX0_multiplyAcross_36 : decode cX0_multiplyAcross 36 = .ok (.invokevirtual 69, 3) := by decide +kernel
theorem dX0_multiplyAcross_39 : decode cX0_multiplyAcross 39 = .ok (.astore 6, 2) := by decide +kernel
theorem dX0_multiplyAcross_41 : decode cX0_multiplyAcross 41 = .ok (.aload_n 0, 1) := by decide +kernel
theorem dX0_multiplyAcross_42 : decode cX0_multiplyAcross 42 = .ok (.getfield 16, 3) := by decide +kernel
theorem dX0_multiplyAcross_45 : decode cX0_multiplyAcross 45 = .ok (.iload 4, 2) := by decide +kernel
theorem dX0_multiplyAcross_47 : decode cX0_multiplyAcross 47 = .ok (.aaload, 1) := by decide +kernel
theorem dX0_multiplyAcross_48 : decode cX0_multiplyAcross 48 = .ok (.astore 7, 2) := by decide +kernel
theorem dX0_multiplyAcross_50 : decode cX0_multiplyAcross 50 = .ok (.aload 7, 2) := by decide +kernel
theorem dX0_multiplyAcross_52 : decode cX0_multiplyAcross 52 = .ok (.iconst 0, 1) := by decide +kernel
theorem dX0_multiplyAcross_53 : decode cX0_multiplyAcross 53 = .ok (.invokestatic 51, 3) := by decide +kernel
theorem dX0_multiplyAcross_56 : decode cX0_multiplyAcross 56 = .ok (.aload 7, 2) := by decide +kernel
theorem dX0_multiplyAcross_58 : decode cX0_multiplyAcross 58 = .ok (.aload 5, 2) := by decide +kernel
theorem dX0_multiplyAcross_60 : decode cX0_multiplyAcross 60 = .ok (.iload_n 1, 1) := by decide +kernel
theorem dX0_multiplyAcross_61 : decode cX0_multiplyAcross 61 = .ok (.aload 6, 2) := by decide +kernel
theorem dX0_multiplyAcross_63 : decode cX0_multiplyAcross 63 = .ok (.iload_n 2, 1) := by decide +kernel
theorem dX0_multiplyAcross_64 : decode cX0_multiplyAcross 64 = .ok (.iconst 1, 1) := by decide +kernel
theorem dX0_multiplyAcross_65 : decode cX0_multiplyAcross 65 = .ok (.invokestatic 73, 3) := by decide +kernel
theorem dX0_multiplyAcross_68 : decode cX0_multiplyAcross 68 = .ok (.aload 7, 2) := by decide +kernel
theorem dX0_multiplyAcross_70 : decode cX0_multiplyAcross 70 = .ok (.aload 6, 2) := by decide +kernel
theorem dX0_multiplyAcross_72 : decode cX0_multiplyAcross 72 = .ok (.iload_n 1, 1) := by decide +kernel
theorem dX0_multiplyAcross_73 : decode cX0_multiplyAcross 73 = .ok (.aload 5, 2) := by decide +kernel
theorem dX0_multiplyAcross_75 : decode cX0_multiplyAcross 75 = .ok (.iload_n 2, 1) := by decide +kernel
theorem dX0_multiplyAcross_76 : decode cX0_multiplyAcross 76 = .ok (.iconst (-1), 1) := by decide +kernel
theorem dX0_multiplyAcross_77 : decode cX0_multiplyAcross 77 = .ok (.invokestatic 73, 3) := by decide +kernel
theorem dX0_multiplyAcross_80 : decode cX0_multiplyAcross 80 = .ok (.aload 7, 2) := by decide +kernel
theorem dX0_multiplyAcross_82 : decode cX0_multiplyAcross 82 = .ok (.aload_n 0, 1) := by decide +kernel
theorem dX0_multiplyAcross_83 : decode cX0_multiplyAcross 83 = .ok (.getfield 23, 3) := by decide +kernel
theorem dX0_multiplyAcross_86 : decode cX0_multiplyAcross 86 = .ok (.getfield 77, 3) := by decide +kernel
theorem dX0_multiplyAcross_89 : decode cX0_multiplyAcross 89 = .ok (.invokestatic 80, 3) := by decide +kernel
theorem dX0_multiplyAcross_92 : decode cX0_multiplyAcross 92 = .ok (.iconst 0, 1) := by decide +kernel
theorem dX0_multiplyAcross_93 : decode cX0_multiplyAcross 93 = .ok (.istore 8, 2) := by decide +kernel
theorem dX0_multiplyAcross_95 : decode cX0_multiplyAcross 95 = .ok (.iload 8, 2) := by decide +kernel
theorem dX0_multiplyAcross_97 : decode cX0_multiplyAcross 97 = .ok (.aload 7, 2) := by decide +kernel
theorem dX0_multiplyAcross_99 : decode cX0_multiplyAcross 99 = .ok (.arraylength, 1) := by decide +kernel
theorem dX0_multiplyAcross_100 : decode cX0_multiplyAcross 100 = .ok (.if_icmp .ge 27, 3) := by decide +kernel
theorem dX0_multiplyAcross_103 : decode cX0_multiplyAcross 103 = .ok (.iload_n 3, 1) := by decide +kernel
theorem dX0_multiplyAcross_104 : decode cX0_multiplyAcross 104 = .ok (.ifCond .ne 11, 3) := by decide +kernel
theorem dX0_multiplyAcross_107 : decode cX0_multiplyAcross 107 = .ok (.aload 7, 2) := by decide +kernel
theorem dX0_multiplyAcross_109 : decode cX0_multiplyAcross 109 = .ok (.iload 8, 2) := by decide +kernel
theorem dX0_multiplyAcross_111 : decode cX0_multiplyAcross 111 = .ok (.iaload, 1) := by decide +kernel
theorem dX0_multiplyAcross_112 : decode cX0_multiplyAcross 112 = .ok (.ifCond .eq 7, 3) := by decide +kernel
theorem dX0_multiplyAcross_115 : decode cX0_multiplyAcross 115 = .ok (.iconst 1, 1) := by decide +kernel
theorem dX0_multiplyAcross_116 : decode cX0_multiplyAcross 116 = .ok (.goto 4, 3) := by decide +kernel
theorem dX0_multiplyAcross_119 : decode cX0_multiplyAcross 119 = .ok (.iconst 0, 1) := by decide +kernel
theorem dX0_multiplyAcross_120 : decode cX0_multiplyAcross 120 = .ok (.istore_n 3, 1) := by decide +kernel
theorem dX0_multiplyAcross_121 : decode cX0_multiplyAcross 121 = .ok (.iinc 8 1, 3) := by decide +kernel
theorem dX0_multiplyAcross_124 : decode cX0_multiplyAcross 124 = .ok (.goto (-29), 3) := by decide +kernel
theorem dX0_multiplyAcross_127 : decode cX0_multiplyAcross 127 = .ok (.iinc 4 1, 3) := by decide +kernel
theorem dX0_multiplyAcross_130 : decode cX0_multiplyAcross 130 = .ok (.goto (-125), 3) := by decide +kernel
theorem dX0_multiplyAcross_133 : decode cX0_multiplyAcross 133 = .ok (.iload_n 3, 1) := by decide +kernel
theorem dX0_multiplyAcross_134 : decode cX0_multiplyAcross 134 = .ok (.ireturn, 1) := by decide +kernel
theorem dX0_addCrossTerms_0 : decode cX0_addCrossTerms 0 = .ok (.iconst 3, 1) := by decide +kernel
theorem dX0_addCrossTerms_1 : decode cX0_addCrossTerms 1 = .ok (.iload_n 2, 1) := by decide +kernel
theorem dX0_addCrossTerms_2 : decode cX0_addCrossTerms 2 = .ok (.imul, 1) := by decide +kernel
theorem dX0_addCrossTerms_3 : decode cX0_addCrossTerms 3 = .ok (.istore 6, 2) := by decide +kernel
theorem dX0_addCrossTerms_5 : decode cX0_addCrossTerms 5 = .ok (.iconst 3, 1) := by decide +kernel
theorem dX0_addCrossTerms_6 : decode cX0_addCrossTerms 6 = .ok (.iload 4, 2) := by decide +kernel
theorem dX0_addCrossTerms_8 : decode cX0_addCrossTerms 8 = .ok (.imul, 1) := by decide +kernel
theorem dX0_addCrossTerms_9 : decode cX0_addCrossTerms 9 = .ok (.istore 7, 2) := by decide +kernel
theorem dX0_addCrossTerms_11 : decode cX0_addCrossTerms 11 = .ok (.iload 6, 2) := by decide +kernel
theorem dX0_addCrossTerms_13 : decode cX0_addCrossTerms 13 = .ok (.ifCond .lt 32, 3) := by decide +kernel
theorem dX0_addCrossTerms_16 : decode cX0_addCrossTerms 16 = .ok (.iload 6, 2) := by decide +kernel
theorem dX0_addCrossTerms_18 : decode cX0_addCrossTerms 18 = .ok (.iconst 2, 1) := by decide +kernel
theorem dX0_addCrossTerms_19 : decode cX0_addCrossTerms 19 = .ok (.iadd, 1) := by decide +kernel
theorem dX0_addCrossTerms_20 : decode cX0_addCrossTerms 20 = .ok (.aload_n 1, 1) := by decide +kernel
theorem dX0_addCrossTerms_21 : decode cX0_addCrossTerms 21 = .ok (.arraylength, 1) := by decide +kernel
theorem dX0_addCrossTerms_22 : decode cX0_addCrossTerms 22 = .ok (.if_icmp .ge 23, 3) := by decide +kernel
theorem dX0_addCrossTerms_25 : decode cX0_addCrossTerms 25 = .ok (.iload 7, 2) := by decide +kernel
theorem dX0_addCrossTerms_27 : decode cX0_addCrossTerms 27 = .ok (.ifCond .lt 18, 3) := by decide +kernel
theorem dX0_addCrossTerms_30 : decode cX0_addCrossTerms 30 = .ok (.iload 7, 2) := by decide +kernel
theorem dX0_addCrossTerms_32 : decode cX0_addCrossTerms 32 = .ok (.iconst 2, 1) := by decide +kernel
theorem dX0_addCrossTerms_33 : decode cX0_addCrossTerms 33 = .ok (.iadd, 1) := by decide +kernel
theorem dX0_addCrossTerms_34 : decode cX0_addCrossTerms 34 = .ok (.aload_n 3, 1) := by decide +kernel
theorem dX0_addCrossTerms_35 : decode cX0_addCrossTerms 35 = .ok (.arraylength, 1) := by decide +kernel
theorem dX0_addCrossTerms_36 : decode cX0_addCrossTerms 36 = .ok (.if_icmp .ge 9, 3) := by decide +kernel
theorem dX0_addCrossTerms_39 : decode cX0_addCrossTerms 39 = .ok (.aload_n 0, 1) := by decide +kernel
theorem dX0_addCrossTerms_40 : decode cX0_addCrossTerms 40 = .ok (.arraylength, 1) := by decide +kernel
theorem dX0_addCrossTerms_41 : decode cX0_addCrossTerms 41 = .ok (.iconst 5, 1) := by decide +kernel
theorem dX0_addCrossTerms_42 : decode cX0_addCrossTerms 42 = .ok (.if_icmp .ge 4, 3) := by decide +kernel
theorem dX0_addCrossTerms_45 : decode cX0_addCrossTerms 45 = .ok (.return_, 1) := by decide +kernel
theorem dX0_addCrossTerms_46 : decode cX0_addCrossTerms 46 = .ok (.iconst 0, 1) := by decide +kernel
theorem dX0_addCrossTerms_47 : decode cX0_addCrossTerms 47 = .ok (.istore 8, 2) := by decide +kernel
theorem dX0_addCrossTerms_49 : decode cX0_addCrossTerms 49 = .ok (.iload 8, 2) := by decide +kernel
theorem dX0_addCrossTerms_51 : decode cX0_addCrossTerms 51 = .ok (.iconst 3, 1) := by decide +kernel
theorem dX0_addCrossTerms_52 : decode cX0_addCrossTerms 52 = .ok (.if_icmp .ge 52, 3) := by decide +kernel
theorem dX0_addCrossTerms_55 : decode cX0_addCrossTerms 55 = .ok (.iconst 0, 1) := by decide +kernel
theorem dX0_addCrossTerms_56 : decode cX0_addCrossTerms 56 = .ok (.istore 9, 2) := by decide +kernel
theorem dX0_addCrossTerms_58 : decode cX0_addCrossTerms 58 = .ok (.iload 9, 2) := by decide +kernel
theorem dX0_addCrossTerms_60 : decode cX0_addCrossTerms 60 = .ok (.iconst 3, 1) := by decide +kernel
theorem dX0_addCrossTerms_61 : decode cX0_addCrossTerms 61 = .ok (.if_icmp .ge 37, 3) := by decide +kernel
theorem dX0_addCrossTerms_64 : decode cX0_addCrossTerms 64 = .ok (.aload_n 0, 1) := by decide +kernel
theorem dX0_addCrossTerms_65 : decode cX0_addCrossTerms 65 = .ok (.iload 8, 2) := by decide +kernel
theorem dX0_addCrossTerms_67 : decode cX0_addCrossTerms 67 = .ok (.iload 9, 2) := by decide +kernel
theorem dX0_addCrossTerms_69 : decode cX0_addCrossTerms 69 = .ok (.iadd, 1) := by decide +kernel
theorem dX0_addCrossTerms_70 : decode cX0_addCrossTerms 70 = .ok (.dup2, 1) := by decide +kernel
theorem dX0_addCrossTerms_71 : decode cX0_addCrossTerms 71 = .ok (.iaload, 1) := by decide +kernel
theorem dX0_addCrossTerms_72 : decode cX0_addCrossTerms 72 = .ok (.iload 5, 2) := by decide +kernel
theorem dX0_addCrossTerms_74 : decode cX0_addCrossTerms 74 = .ok (.aload_n 1, 1) := by decide +kernel
theorem dX0_addCrossTerms_75 : decode cX0_addCrossTerms 75 = .ok (.iload 6, 2) := by decide +kernel
theorem dX0_addCrossTerms_77 : decode cX0_addCrossTerms 77 = .ok (.iload 8, 2) := by decide +kernel
theorem dX0_addCrossTerms_79 : decode cX0_addCrossTerms 79 = .ok (.iadd, 1) := by decide +kernel
theorem dX0_addCrossTerms_80 : decode cX0_addCrossTerms 80 = .ok (.iaload, 1) := by decide +kernel
theorem dX0_addCrossTerms_81 : decode cX0_addCrossTerms 81 = .ok (.imul, 1) := by decide +kernel
theorem dX0_addCrossTerms_82 : decode cX0_addCrossTerms 82 = .ok (.aload_n 3, 1) := by decide +kernel
theorem dX0_addCrossTerms_83 : decode cX0_addCrossTerms 83 = .ok (.iload 7, 2) := by decide +kernel
theorem dX0_addCrossTerms_85 : decode cX0_addCrossTerms 85 = .ok (.iload 9, 2) := by decide +kernel
theorem dX0_addCrossTerms_87 : decode cX0_addCrossTerms 87 = .ok (.iadd, 1) := by decide +kernel
theorem dX0_addCrossTerms_88 : decode cX0_addCrossTerms 88 = .ok (.iaload, 1) := by decide +kernel
theorem dX0_addCrossTerms_89 : decode cX0_addCrossTerms 89 = .ok (.imul, 1) := by decide +kernel
theorem dX0_addCrossTerms_90 : decode cX0_addCrossTerms 90 = .ok (.iadd, 1) := by decide +kernel
theorem dX0_addCrossTerms_91 : decode cX0_addCrossTerms 91 = .ok (.iastore, 1) := by decide +kernel
theorem dX0_addCrossTerms_92 : decode cX0_addCrossTerms 92 = .ok (.iinc 9 1, 3) := by decide +kernel
theorem dX0_addCrossTerms_95 : decode cX0_addCrossTerms 95 = .ok (.goto (-37), 3) := by decide +kernel
theorem dX0_addCrossTerms_98 : decode cX0_addCrossTerms 98 = .ok (.iinc 8 1, 3) := by decide +kernel
theorem dX0_addCrossTerms_101 : decode cX0_addCrossTerms 101 = .ok (.goto (-52), 3) := by decide +kernel
theorem dX0_addCrossTerms_104 : decode cX0_addCrossTerms 104 = .ok (.return_, 1) := by decide +kernel
theorem dX0_closeBracket_0 : decode cX0_closeBracket 0 = .ok (.aload_n 0, 1) := by decide +kernel
theorem dX0_closeBracket_1 : decode cX0_closeBracket 1 = .ok (.getfield 19, 3) := by decide +kernel
theorem dX0_closeBracket_4 : decode cX0_closeBracket 4 = .ok (.iconst 0, 1) := by decide +kernel
theorem dX0_closeBracket_5 : decode cX0_closeBracket 5 = .ok (.invokestatic 51, 3) := by decide +kernel
theorem dX0_closeBracket_8 : decode cX0_closeBracket 8 = .ok (.iconst 0, 1) := by decide +kernel
theorem dX0_closeBracket_9 : decode cX0_closeBracket 9 = .ok (.istore_n 2, 1) := by decide +kernel
theorem dX0_closeBracket_10 : decode cX0_closeBracket 10 = .ok (.iload_n 2, 1) := by decide +kernel
theorem dX0_closeBracket_11 : decode cX0_closeBracket 11 = .ok (.iconst 3, 1) := by decide +kernel
theorem dX0_closeBracket_12 : decode cX0_closeBracket 12 = .ok (.if_icmp .ge 127, 3) := by decide +kernel
theorem dX0_closeBracket_15 : decode cX0_closeBracket 15 = .ok (.aload_n 0, 1) := by decide +kernel
theorem dX0_closeBracket_16 : decode cX0_closeBracket 16 = .ok (.getfield 23, 3) := by decide +kernel
theorem dX0_closeBracket_19 : decode cX0_closeBracket 19 = .ok (.iload_n 2, 1) := by decide +kernel
theorem dX0_closeBracket_20 : decode cX0_closeBracket 20 = .ok (.invokevirtual 69, 3) := by decide +kernel
theorem dX0_closeBracket_23 : decode cX0_closeBracket 23 = .ok (.astore_n 3, 1) := by decide +kernel
theorem dX0_closeBracket_24 : decode cX0_closeBracket 24 = .ok (.aload_n 0, 1) := by decide +kernel
theorem dX0_closeBracket_25 : decode cX0_closeBracket 25 = .ok (.getfield 16, 3) := by decide +kernel
theorem dX0_closeBracket_28 : decode cX0_closeBracket 28 = .ok (.iload_n 2, 1) := by decide +kernel
theorem dX0_closeBracket_29 : decode cX0_closeBracket 29 = .ok (.aaload, 1) := by decide +kernel
theorem dX0_closeBracket_30 : decode cX0_closeBracket 30 = .ok (.astore 4, 2) := by decide +kernel
theorem dX0_closeBracket_32 : decode cX0_closeBracket 32 = .ok (.iconst 0, 1) := by decide +kernel
theorem dX0_closeBracket_33 : decode cX0_closeBracket 33 = .ok (.istore 5, 2) := by decide +kernel
theorem dX0_closeBracket_35 : decode cX0_closeBracket 35 = .ok (.iload 5, 2) := by decide +kernel
theorem dX0_closeBracket_37 : decode cX0_closeBracket 37 = .ok (.iconst 3, 1) := by decide +kernel
theorem dX0_closeBracket_38 : decode cX0_closeBracket 38 = .ok (.if_icmp .ge 95, 3) := by decide +kernel
theorem dX0_closeBracket_41 : decode cX0_closeBracket 41 = .ok (.iconst 3, 1) := by decide +kernel
theorem dX0_closeBracket_42 : decode cX0_closeBracket 42 = .ok (.iload_n 1, 1) := by decide +kernel
theorem dX0_closeBracket_43 : decode cX0_closeBracket 43 = .ok (.imul, 1) := by decide +kernel
theorem dX0_closeBracket_44 : decode cX0_closeBracket 44 = .ok (.iload 5, 2) := by decide +kernel
theorem dX0_closeBracket_46 : decode cX0_closeBracket 46 = .ok (.iadd, 1) := by decide +kernel
theorem dX0_closeBracket_47 : decode cX0_closeBracket 47 = .ok (.istore 6, 2) := by decide +kernel
theorem dX0_closeBracket_49 : decode cX0_closeBracket 49 = .ok (.iload 6, 2) := by decide +kernel
theorem dX0_closeBracket_51 : decode cX0_closeBracket 51 = .ok (.ifCond .lt 17, 3) := by decide +kernel
theorem dX0_closeBracket_54 : decode cX0_closeBracket 54 = .ok (.iload 6, 2) := by decide +kernel
theorem dX0_closeBracket_56 : decode cX0_closeBracket 56 = .ok (.aload_n 3, 1) := by decide +kernel
theorem dX0_closeBracket_57 : decode cX0_closeBracket 57 = .ok (.arraylength, 1) := by decide +kernel
theorem dX0_closeBracket_58 : decode cX0_closeBracket 58 = .ok (.if_icmp .ge 10, 3) := by decide +kernel
theorem dX0_closeBracket_61 : decode cX0_closeBracket 61 = .ok (.aload_n 3, 1) := by decide +kernel
theorem dX0_closeBracket_62 : decode cX0_closeBracket 62 = .ok (.iload 6, 2) := by decide +kernel
theorem dX0_closeBracket_64 : decode cX0_closeBracket 64 = .ok (.iaload, 1) := by decide +kernel
theorem dX0_closeBracket_65 : decode cX0_closeBracket 65 = .ok (.goto 4, 3) := by decide +kernel
theorem dX0_closeBracket_68 : decode cX0_closeBracket 68 = .ok (.iconst 0, 1) := by decide +kernel
theorem dX0_closeBracket_69 : decode cX0_closeBracket 69 = .ok (.istore 7, 2) := by decide +kernel
theorem dX0_closeBracket_71 : decode cX0_closeBracket 71 = .ok (.iconst 0, 1) := by decide +kernel
theorem dX0_closeBracket_72 : decode cX0_closeBracket 72 = .ok (.istore 8, 2) := by decide +kernel
theorem dX0_closeBracket_74 : decode cX0_closeBracket 74 = .ok (.iload 7, 2) := by decide +kernel
theorem dX0_closeBracket_76 : decode cX0_closeBracket 76 = .ok (.ifCond .eq 51, 3) := by decide +kernel
theorem dX0_closeBracket_79 : decode cX0_closeBracket 79 = .ok (.iload 8, 2) := by decide +kernel
theorem dX0_closeBracket_81 : decode cX0_closeBracket 81 = .ok (.aload 4, 2) := by decide +kernel
theorem dX0_closeBracket_83 : decode cX0_closeBracket 83 = .ok (.arraylength, 1) := by decide +kernel
theorem dX0_closeBracket_84 : decode cX0_closeBracket 84 = .ok (.if_icmp .ge 43, 3) := by decide +kernel
theorem dX0_closeBracket_87 : decode cX0_closeBracket 87 = .ok (.iload 8, 2) := by decide +kernel
theorem dX0_closeBracket_89 : decode cX0_closeBracket 89 = .ok (.iload 5, 2) := by decide +kernel
theorem dX0_closeBracket_91 : decode cX0_closeBracket 91 = .ok (.iadd, 1) := by decide +kernel
theorem dX0_closeBracket_92 : decode cX0_closeBracket 92 = .ok (.aload_n 0, 1) := by decide +kernel
theorem dX0_closeBracket_93 : decode cX0_closeBracket 93 = .ok (.getfield 19, 3) := by decide +kernel
theorem dX0_closeBracket_96 : decode cX0_closeBracket 96 = .ok (.arraylength, 1) := by decide +kernel
theorem dX0_closeBracket_97 : decode cX0_closeBracket 97 = .ok (.if_icmp .ge 30, 3) := by decide +kernel
theorem dX0_closeBracket_100 : decode cX0_closeBracket 100 = .ok (.aload_n 0, 1) := by decide +kernel
theorem dX0_closeBracket_101 : decode cX0_closeBracket 101 = .ok (.getfield 19, 3) := by decide +kernel
theorem dX0_closeBracket_104 : decode cX0_closeBracket 104 = .ok (.iload 8, 2) := by decide +kernel
theorem dX0_closeBracket_106 : decode cX0_closeBracket 106 = .ok (.iload 5, 2) := by decide +kernel
theorem dX0_closeBracket_108 : decode cX0_closeBracket 108 = .ok (.iadd, 1) := by decide +kernel
theorem dX0_closeBracket_109 : decode cX0_closeBracket 109 = .ok (.dup2, 1) := by decide +kernel
theorem dX0_closeBracket_110 : decode cX0_closeBracket 110 = .ok (.iaload, 1) := by decide +kernel
theorem dX0_closeBracket_111 : decode cX0_closeBracket 111 = .ok (.iload 7, 2) := by decide +kernel
theorem dX0_closeBracket_113 : decode cX0_closeBracket 113 = .ok (.aload 4, 2) := by decide +kernel
theorem dX0_closeBracket_115 : decode cX0_closeBracket 115 = .ok (.iload 8, 2) := by decide +kernel
theorem dX0_closeBracket_117 : decode cX0_closeBracket 117 = .ok (.iaload, 1) := by decide +kernel
theorem dX0_closeBracket_118 : decode cX0_closeBracket 118 = .ok (.imul, 1) := by decide +kernel
theorem dX0_closeBracket_119 : decode cX0_closeBracket 119 = .ok (.iadd, 1) := by decide +kernel
theorem dX0_closeBracket_120 : decode cX0_closeBracket 120 = .ok (.iastore, 1) := by decide +kernel
theorem dX0_closeBracket_121 : decode cX0_closeBracket 121 = .ok (.iinc 8 1, 3) := by decide +kernel
theorem dX0_closeBracket_124 : decode cX0_closeBracket 124 = .ok (.goto (-50), 3) := by decide +kernel
theorem dX0_closeBracket_127 : decode cX0_closeBracket 127 = .ok (.iinc 5 1, 3) := by decide +kernel
theorem dX0_closeBracket_130 : decode cX0_closeBracket 130 = .ok (.goto (-95), 3) := by decide +kernel
theorem dX0_closeBracket_133 : decode cX0_closeBracket 133 = .ok (.iinc 2 1, 3) := by decide +kernel
theorem dX0_closeBracket_136 : decode cX0_closeBracket 136 = .ok (.goto (-126), 3) := by decide +kernel
theorem dX0_closeBracket_139 : decode cX0_closeBracket 139 = .ok (.aload_n 0, 1) := by decide +kernel
theorem dX0_closeBracket_140 : decode cX0_closeBracket 140 = .ok (.getfield 19, 3) := by decide +kernel
theorem dX0_closeBracket_143 : decode cX0_closeBracket 143 = .ok (.aload_n 0, 1) := by decide +kernel
theorem dX0_closeBracket_144 : decode cX0_closeBracket 144 = .ok (.getfield 23, 3) := by decide +kernel
theorem dX0_closeBracket_147 : decode cX0_closeBracket 147 = .ok (.getfield 77, 3) := by decide +kernel
theorem dX0_closeBracket_150 : decode cX0_closeBracket 150 = .ok (.invokestatic 80, 3) := by decide +kernel
theorem dX0_closeBracket_153 : decode cX0_closeBracket 153 = .ok (.return_, 1) := by decide +kernel
theorem dX0_addBracket_0 : decode cX0_addBracket 0 = .ok (.iconst 0, 1) := by decide +kernel
theorem dX0_addBracket_1 : decode cX0_addBracket 1 = .ok (.istore 4, 2) := by decide +kernel
theorem dX0_addBracket_3 : decode cX0_addBracket 3 = .ok (.iload 4, 2) := by decide +kernel
theorem dX0_addBracket_5 : decode cX0_addBracket 5 = .ok (.iload_n 1, 1) := by decide +kernel
theorem dX0_addBracket_6 : decode cX0_addBracket 6 = .ok (.iconst 3, 1) := by decide +kernel
theorem dX0_addBracket_7 : decode cX0_addBracket 7 = .ok (.idiv, 1) := by decide +kernel
theorem dX0_addBracket_8 : decode cX0_addBracket 8 = .ok (.if_icmp .ge 140, 3) := by decide +kernel
theorem dX0_addBracket_11 : decode cX0_addBracket 11 = .ok (.iconst 0, 1) := by decide +kernel
theorem dX0_addBracket_12 : decode cX0_addBracket 12 = .ok (.istore 5, 2) := by decide +kernel
theorem dX0_addBracket_14 : decode cX0_addBracket 14 = .ok (.iload 5, 2) := by decide +kernel
theorem dX0_addBracket_16 : decode cX0_addBracket 16 = .ok (.iload_n 2, 1) := by decide +kernel
theorem dX0_addBracket_17 : decode cX0_addBracket 17 = .ok (.iconst 3, 1) := by decide +kernel
theorem dX0_addBracket_18 : decode cX0_addBracket 18 = .ok (.irem, 1) := by decide +kernel
theorem dX0_addBracket_19 : decode cX0_addBracket 19 = .ok (.if_icmp .ge 123, 3) := by decide +kernel
theorem dX0_addBracket_22 : decode cX0_addBracket 22 = .ok (.iload_n 1, 1) := by decide +kernel
theorem dX0_addBracket_23 : decode cX0_addBracket 23 = .ok (.iconst 3, 1) := by decide +kernel
theorem dX0_addBracket_24 : decode cX0_addBracket 24 = .ok (.idiv, 1) := by decide +kernel
theorem dX0_addBracket_25 : decode cX0_addBracket 25 = .ok (.iconst 1, 1) := by decide +kernel
theorem dX0_addBracket_26 : decode cX0_addBracket 26 = .ok (.isub, 1) := by decide +kernel
theorem dX0_addBracket_27 : decode cX0_addBracket 27 = .ok (.iload 4, 2) := by decide +kernel
theorem dX0_addBracket_29 : decode cX0_addBracket 29 = .ok (.isub, 1) := by decide +kernel
theorem dX0_addBracket_30 : decode cX0_addBracket 30 = .ok (.istore 6, 2) := by decide +kernel
theorem dX0_addBracket_32 : decode cX0_addBracket 32 = .ok (.iload_n 1, 1) := by decide +kernel
theorem dX0_addBracket_33 : decode cX0_addBracket 33 = .ok (.iconst 3, 1) := by decide +kernel
theorem dX0_addBracket_34 : decode cX0_addBracket 34 = .ok (.irem, 1) := by decide +kernel
theorem dX0_addBracket_35 : decode cX0_addBracket 35 = .ok (.iload_n 2, 1) := by decide +kernel
theorem dX0_addBracket_36 : decode cX0_addBracket 36 = .ok (.iconst 3, 1) := by decide +kernel
theorem dX0_addBracket_37 : decode cX0_addBracket 37 = .ok (.irem, 1) := by decide +kernel
theorem dX0_addBracket_38 : decode cX0_addBracket 38 = .ok (.iadd, 1) := by decide +kernel
theorem dX0_addBracket_39 : decode cX0_addBracket 39 = .ok (.iconst 1, 1) := by decide +kernel
theorem dX0_addBracket_40 : decode cX0_addBracket 40 = .ok (.isub, 1) := by decide +kernel
theorem dX0_addBracket_41 : decode cX0_addBracket 41 = .ok (.iload 5, 2) := by decide +kernel
theorem dX0_addBracket_43 : decode cX0_addBracket 43 = .ok (.isub, 1) := by decide +kernel
theorem dX0_addBracket_44 : decode cX0_addBracket 44 = .ok (.istore 7, 2) := by decide +kernel
theorem dX0_addBracket_46 : decode cX0_addBracket 46 = .ok (.iload 4, 2) := by decide +kernel
theorem dX0_addBracket_48 : decode cX0_addBracket 48 = .ok (.iload_n 2, 1) := by decide +kernel
theorem dX0_addBracket_49 : decode cX0_addBracket 49 = .ok (.iconst 3, 1) := by decide +kernel
theorem dX0_addBracket_50 : decode cX0_addBracket 50 = .ok (.idiv, 1) := by decide +kernel
theorem dX0_addBracket_51 : decode cX0_addBracket 51 = .ok (.iadd, 1) := by decide +kernel
theorem dX0_addBracket_52 : decode cX0_addBracket 52 = .ok (.iload_n 3, 1) := by decide +kernel
theorem dX0_addBracket_53 : decode cX0_addBracket 53 = .ok (.iconst 3, 1) := by decide +kernel
theorem dX0_addBracket_54 : decode cX0_addBracket 54 = .ok (.idiv, 1) := by decide +kernel
theorem dX0_addBracket_55 : decode cX0_addBracket 55 = .ok (.iadd, 1) := by decide +kernel
theorem dX0_addBracket_56 : decode cX0_addBracket 56 = .ok (.istore 8, 2) := by decide +kernel
theorem dX0_addBracket_58 : decode cX0_addBracket 58 = .ok (.iload 5, 2) := by decide +kernel
theorem dX0_addBracket_60 : decode cX0_addBracket 60 = .ok (.iload_n 3, 1) := by decide +kernel
theorem dX0_addBracket_61 : decode cX0_addBracket 61 = .ok (.iconst 3, 1) := by decide +kernel
theorem dX0_addBracket_62 : decode cX0_addBracket 62 = .ok (.irem, 1) := by decide +kernel
theorem dX0_addBracket_63 : decode cX0_addBracket 63 = .ok (.iadd, 1) := by decide +kernel
theorem dX0_addBracket_64 : decode cX0_addBracket 64 = .ok (.istore 9, 2) := by decide +kernel
theorem dX0_addBracket_66 : decode cX0_addBracket 66 = .ok (.iload 6, 2) := by decide +kernel
theorem dX0_addBracket_68 : decode cX0_addBracket 68 = .ok (.aload_n 0, 1) := by decide +kernel
theorem dX0_addBracket_69 : decode cX0_addBracket 69 = .ok (.getfield 41, 3) := by decide +kernel
theorem dX0_addBracket_72 : decode cX0_addBracket 72 = .ok (.if_icmp .ge 64, 3) := by decide +kernel
theorem dX0_addBracket_75 : decode cX0_addBracket 75 = .ok (.iload 7, 2) := by decide +kernel
theorem dX0_addBracket_77 : decode cX0_addBracket 77 = .ok (.iconst 2, 1) := by decide +kernel
theorem dX0_addBracket_78 : decode cX0_addBracket 78 = .ok (.aload_n 0, 1) := by decide +kernel
theorem dX0_addBracket_79 : decode cX0_addBracket 79 = .ok (.getfield 45, 3) := by decide +kernel
theorem dX0_addBracket_82 : decode cX0_addBracket 82 = .ok (.imul, 1) := by decide +kernel
theorem dX0_addBracket_83 : decode cX0_addBracket 83 = .ok (.if_icmp .ge 53, 3) := by decide +kernel
theorem dX0_addBracket_86 : decode cX0_addBracket 86 = .ok (.iload 8, 2) := by decide +kernel
theorem dX0_addBracket_88 : decode cX0_addBracket 88 = .ok (.iconst 2, 1) := by decide +kernel
theorem dX0_addBracket_89 : decode cX0_addBracket 89 = .ok (.aload_n 0, 1) := by decide +kernel
theorem dX0_addBracket_90 : decode cX0_addBracket 90 = .ok (.getfield 41, 3) := by decide +kernel
theorem dX0_addBracket_93 : decode cX0_addBracket 93 = .ok (.imul, 1) := by decide +kernel
theorem dX0_addBracket_94 : decode cX0_addBracket 94 = .ok (.if_icmp .ge 42, 3) := by decide +kernel
theorem dX0_addBracket_97 : decode cX0_addBracket 97 = .ok (.iload 9, 2) := by decide +kernel
theorem dX0_addBracket_99 : decode cX0_addBracket 99 = .ok (.aload_n 0, 1) := by decide +kernel
theorem dX0_addBracket_100 : decode cX0_addBracket 100 = .ok (.getfield 45, 3) := by decide +kernel
theorem dX0_addBracket_103 : decode cX0_addBracket 103 = .ok (.if_icmp .ge 33, 3) := by decide +kernel
theorem dX0_addBracket_106 : decode cX0_addBracket 106 = .ok (.aload_n 0, 1) := by decide +kernel
theorem dX0_addBracket_107 : decode cX0_addBracket 107 = .ok (.aload_n 0, 1) := by decide +kernel
theorem dX0_addBracket_108 : decode cX0_addBracket 108 = .ok (.aload_n 0, 1) := by decide +kernel
theorem dX0_addBracket_109 : decode cX0_addBracket 109 = .ok (.getfield 41, 3) := by decide +kernel
theorem dX0_addBracket_112 : decode cX0_addBracket 112 = .ok (.iload 7, 2) := by decide +kernel
theorem dX0_addBracket_114 : decode cX0_addBracket 114 = .ok (.imul, 1) := by decide +kernel
theorem dX0_addBracket_115 : decode cX0_addBracket 115 = .ok (.iload 6, 2) := by decide +kernel
theorem dX0_addBracket_117 : decode cX0_addBracket 117 = .ok (.iadd, 1) := by decide +kernel
theorem dX0_addBracket_118 : decode cX0_addBracket 118 = .ok (.iconst 2, 1) := by decide +kernel
theorem dX0_addBracket_119 : decode cX0_addBracket 119 = .ok (.aload_n 0, 1) := by decide +kernel
theorem dX0_addBracket_120 : decode cX0_addBracket 120 = .ok (.getfield 41, 3) := by decide +kernel
theorem dX0_addBracket_123 : decode cX0_addBracket 123 = .ok (.imul, 1) := by decide +kernel
theorem dX0_addBracket_124 : decode cX0_addBracket 124 = .ok (.iload 9, 2) := by decide +kernel
theorem dX0_addBracket_126 : decode cX0_addBracket 126 = .ok (.imul, 1) := by decide +kernel
theorem dX0_addBracket_127 : decode cX0_addBracket 127 = .ok (.iload 8, 2) := by decide +kernel
theorem dX0_addBracket_129 : decode cX0_addBracket 129 = .ok (.iadd, 1) := by decide +kernel
theorem dX0_addBracket_130 : decode cX0_addBracket 130 = .ok (.invokevirtual 31, 3) := by decide +kernel
theorem dX0_addBracket_133 : decode cX0_addBracket 133 = .ok (.invokevirtual 85, 3) := by decide +kernel
theorem dX0_addBracket_136 : decode cX0_addBracket 136 = .ok (.iinc 5 1, 3) := by decide +kernel
theorem dX0_addBracket_139 : decode cX0_addBracket 139 = .ok (.goto (-125), 3) := by decide +kernel
theorem dX0_addBracket_142 : decode cX0_addBracket 142 = .ok (.iinc 4 1, 3) := by decide +kernel
theorem dX0_addBracket_145 : decode cX0_addBracket 145 = .ok (.goto (-142), 3) := by decide +kernel
theorem dX0_addBracket_148 : decode cX0_addBracket 148 = .ok (.return_, 1) := by decide +kernel
theorem dX0_addTo_0 : decode cX0_addTo 0 = .ok (.iconst 0, 1) := by decide +kernel
theorem dX0_addTo_1 : decode cX0_addTo 1 = .ok (.istore_n 2, 1) := by decide +kernel
theorem dX0_addTo_2 : decode cX0_addTo 2 = .ok (.iload_n 2, 1) := by decide +kernel
theorem dX0_addTo_3 : decode cX0_addTo 3 = .ok (.aload_n 1, 1) := by decide +kernel
theorem dX0_addTo_4 : decode cX0_addTo 4 = .ok (.arraylength, 1) := by decide +kernel
theorem dX0_addTo_5 : decode cX0_addTo 5 = .ok (.if_icmp .ge 41, 3) := by decide +kernel
theorem dX0_addTo_8 : decode cX0_addTo 8 = .ok (.iload_n 2, 1) := by decide +kernel
theorem dX0_addTo_9 : decode cX0_addTo 9 = .ok (.aload_n 0, 1) := by decide +kernel
theorem dX0_addTo_10 : decode cX0_addTo 10 = .ok (.getfield 19, 3) := by decide +kernel
theorem dX0_addTo_13 : decode cX0_addTo 13 = .ok (.arraylength, 1) := by decide +kernel
theorem dX0_addTo_14 : decode cX0_addTo 14 = .ok (.if_icmp .ge 32, 3) := by decide +kernel
theorem dX0_addTo_17 : decode cX0_addTo 17 = .ok (.aload_n 1, 1) := by decide +kernel
theorem dX0_addTo_18 : decode cX0_addTo 18 = .ok (.iload_n 2, 1) := by decide +kernel
theorem dX0_addTo_19 : decode cX0_addTo 19 = .ok (.aload_n 1, 1) := by decide +kernel
theorem dX0_addTo_20 : decode cX0_addTo 20 = .ok (.iload_n 2, 1) := by decide +kernel
theorem dX0_addTo_21 : decode cX0_addTo 21 = .ok (.iaload, 1) := by decide +kernel
theorem dX0_addTo_22 : decode cX0_addTo 22 = .ok (.aload_n 0, 1) := by decide +kernel
theorem dX0_addTo_23 : decode cX0_addTo 23 = .ok (.getfield 19, 3) := by decide +kernel
theorem dX0_addTo_26 : decode cX0_addTo 26 = .ok (.iload_n 2, 1) := by decide +kernel
theorem dX0_addTo_27 : decode cX0_addTo 27 = .ok (.iaload, 1) := by decide +kernel
theorem dX0_addTo_28 : decode cX0_addTo 28 = .ok (.iadd, 1) := by decide +kernel
theorem dX0_addTo_29 : decode cX0_addTo 29 = .ok (.aload_n 0, 1) := by decide +kernel
theorem dX0_addTo_30 : decode cX0_addTo 30 = .ok (.getfield 23, 3) := by decide +kernel
theorem dX0_addTo_33 : decode cX0_addTo 33 = .ok (.getfield 77, 3) := by decide +kernel
theorem dX0_addTo_36 : decode cX0_addTo 36 = .ok (.invokestatic 89, 3) := by decide +kernel
theorem dX0_addTo_39 : decode cX0_addTo 39 = .ok (.iastore, 1) := by decide +kernel
theorem dX0_addTo_40 : decode cX0_addTo 40 = .ok (.iinc 2 1, 3) := by decide +kernel
theorem dX0_addTo_43 : decode cX0_addTo 43 = .ok (.goto (-41), 3) := by decide +kernel
theorem dX0_addTo_46 : decode cX0_addTo 46 = .ok (.return_, 1) := by decide +kernel
theorem dX0_writeRow_0 : decode cX0_writeRow 0 = .ok (.aload_n 3, 1) := by decide +kernel
theorem dX0_writeRow_1 : decode cX0_writeRow 1 = .ok (.iconst 0, 1) := by decide +kernel
theorem dX0_writeRow_2 : decode cX0_writeRow 2 = .ok (.invokestatic 51, 3) := by decide +kernel
theorem dX0_writeRow_5 : decode cX0_writeRow 5 = .ok (.iconst 0, 1) := by decide +kernel
theorem dX0_writeRow_6 : decode cX0_writeRow 6 = .ok (.istore 4, 2) := by decide +kernel
theorem dX0_writeRow_8 : decode cX0_writeRow 8 = .ok (.iload 4, 2) := by decide +kernel
theorem dX0_writeRow_10 : decode cX0_writeRow 10 = .ok (.aload_n 0, 1) := by decide +kernel
theorem dX0_writeRow_11 : decode cX0_writeRow 11 = .ok (.getfield 48, 3) := by decide +kernel
theorem dX0_writeRow_14 : decode cX0_writeRow 14 = .ok (.if_icmp .ge 38, 3) := by decide +kernel
theorem dX0_writeRow_17 : decode cX0_writeRow 17 = .ok (.iload 4, 2) := by decide +kernel
theorem dX0_writeRow_19 : decode cX0_writeRow 19 = .ok (.aload_n 3, 1) := by decide +kernel
theorem dX0_writeRow_20 : decode cX0_writeRow 20 = .ok (.arraylength, 1) := by decide +kernel
theorem dX0_writeRow_21 : decode cX0_writeRow 21 = .ok (.if_icmp .ge 31, 3) := by decide +kernel
theorem dX0_writeRow_24 : decode cX0_writeRow 24 = .ok (.aload_n 3, 1) := by decide +kernel
theorem dX0_writeRow_25 : decode cX0_writeRow 25 = .ok (.iload 4, 2) := by decide +kernel
theorem dX0_writeRow_27 : decode cX0_writeRow 27 = .ok (.aload_n 0, 1) := by decide +kernel
theorem dX0_writeRow_28 : decode cX0_writeRow 28 = .ok (.iload_n 1, 1) := by decide +kernel
theorem dX0_writeRow_29 : decode cX0_writeRow 29 = .ok (.iload 4, 2) := by decide +kernel
theorem dX0_writeRow_31 : decode cX0_writeRow 31 = .ok (.invokevirtual 31, 3) := by decide +kernel
theorem dX0_writeRow_34 : decode cX0_writeRow 34 = .ok (.iload_n 2, 1) := by decide +kernel
theorem dX0_writeRow_35 : decode cX0_writeRow 35 = .ok (.aload_n 0, 1) := by decide +kernel
theorem dX0_writeRow_36 : decode cX0_writeRow 36 = .ok (.getfield 23, 3) := by decide +kernel
theorem dX0_writeRow_39 : decode cX0_writeRow 39 = .ok (.getfield 77, 3) := by decide +kernel
theorem dX0_writeRow_42 : decode cX0_writeRow 42 = .ok (.invokestatic 93, 3) := by decide +kernel
theorem dX0_writeRow_45 : decode cX0_writeRow 45 = .ok (.iastore, 1) := by decide +kernel
theorem dX0_writeRow_46 : decode cX0_writeRow 46 = .ok (.iinc 4 1, 3) := by decide +kernel
theorem dX0_writeRow_49 : decode cX0_writeRow 49 = .ok (.goto (-41), 3) := by decide +kernel
theorem dX0_writeRow_52 : decode cX0_writeRow 52 = .ok (.bipush 8, 2) := by decide +kernel
theorem dX0_writeRow_54 : decode cX0_writeRow 54 = .ok (.iload_n 1, 1) := by decide +kernel
theorem dX0_writeRow_55 : decode cX0_writeRow 55 = .ok (.iadd, 1) := by decide +kernel
theorem dX0_writeRow_56 : decode cX0_writeRow 56 = .ok (.istore 4, 2) := by decide +kernel
theorem dX0_writeRow_58 : decode cX0_writeRow 58 = .ok (.iload 4, 2) := by decide +kernel
theorem dX0_writeRow_60 : decode cX0_writeRow 60 = .ok (.ifCond .lt 15, 3) := by decide +kernel
theorem dX0_writeRow_63 : decode cX0_writeRow 63 = .ok (.iload 4, 2) := by decide +kernel
theorem dX0_writeRow_65 : decode cX0_writeRow 65 = .ok (.aload_n 3, 1) := by decide +kernel
theorem dX0_writeRow_66 : decode cX0_writeRow 66 = .ok (.arraylength, 1) := by decide +kernel
theorem dX0_writeRow_67 : decode cX0_writeRow 67 = .ok (.if_icmp .ge 8, 3) := by decide +kernel
theorem dX0_writeRow_70 : decode cX0_writeRow 70 = .ok (.aload_n 3, 1) := by decide +kernel
theorem dX0_writeRow_71 : decode cX0_writeRow 71 = .ok (.iload 4, 2) := by decide +kernel
theorem dX0_writeRow_73 : decode cX0_writeRow 73 = .ok (.iconst 1, 1) := by decide +kernel
theorem dX0_writeRow_74 : decode cX0_writeRow 74 = .ok (.iastore, 1) := by decide +kernel
theorem dX0_writeRow_75 : decode cX0_writeRow 75 = .ok (.return_, 1) := by decide +kernel
theorem dX0_writeColumn_0 : decode cX0_writeColumn 0 = .ok (.aload_n 3, 1) := by decide +kernel
theorem dX0_writeColumn_1 : decode cX0_writeColumn 1 = .ok (.iconst 0, 1) := by decide +kernel
theorem dX0_writeColumn_2 : decode cX0_writeColumn 2 = .ok (.invokestatic 51, 3) := by decide +kernel
theorem dX0_writeColumn_5 : decode cX0_writeColumn 5 = .ok (.iconst 0, 1) := by decide +kernel
theorem dX0_writeColumn_6 : decode cX0_writeColumn 6 = .ok (.istore 4, 2) := by decide +kernel
theorem dX0_writeColumn_8 : decode cX0_writeColumn 8 = .ok (.iload 4, 2) := by decide +kernel
theorem dX0_writeColumn_10 : decode cX0_writeColumn 10 = .ok (.aload_n 0, 1) := by decide +kernel
theorem dX0_writeColumn_11 : decode cX0_writeColumn 11 = .ok (.getfield 48, 3) := by decide +kernel
theorem dX0_writeColumn_14 : decode cX0_writeColumn 14 = .ok (.if_icmp .ge 38, 3) := by decide +kernel
theorem dX0_writeColumn_17 : decode cX0_writeColumn 17 = .ok (.iload 4, 2) := by decide +kernel
theorem dX0_writeColumn_19 : decode cX0_writeColumn 19 = .ok (.aload_n 3, 1) := by decide +kernel
theorem dX0_writeColumn_20 : decode cX0_writeColumn 20 = .ok (.arraylength, 1) := by decide +kernel
theorem dX0_writeColumn_21 : decode cX0_writeColumn 21 = .ok (.if_icmp .ge 31, 3) := by decide +kernel
theorem dX0_writeColumn_24 : decode cX0_writeColumn 24 = .ok (.aload_n 3, 1) := by decide +kernel
theorem dX0_writeColumn_25 : decode cX0_writeColumn 25 = .ok (.iload 4, 2) := by decide +kernel
theorem dX0_writeColumn_27 : decode cX0_writeColumn 27 = .ok (.aload_n 0, 1) := by decide +kernel
theorem dX0_writeColumn_28 : decode cX0_writeColumn 28 = .ok (.iload 4, 2) := by decide +kernel
theorem dX0_writeColumn_30 : decode cX0_writeColumn 30 = .ok (.iload_n 1, 1) := by decide +kernel
theorem dX0_writeColumn_31 : decode cX0_writeColumn 31 = .ok (.invokevirtual 31, 3) := by decide +kernel
theorem dX0_writeColumn_34 : decode cX0_writeColumn 34 = .ok (.iload_n 2, 1) := by decide +kernel
theorem dX0_writeColumn_35 : decode cX0_writeColumn 35 = .ok (.aload_n 0, 1) := by decide +kernel
theorem dX0_writeColumn_36 : decode cX0_writeColumn 36 = .ok (.getfield 23, 3) := by decide +kernel
theorem dX0_writeColumn_39 : decode cX0_writeColumn 39 = .ok (.getfield 77, 3) := by decide +kernel
theorem dX0_writeColumn_42 : decode cX0_writeColumn 42 = .ok (.invokestatic 93, 3) := by decide +kernel
theorem dX0_writeColumn_45 : decode cX0_writeColumn 45 = .ok (.iastore, 1) := by decide +kernel
theorem dX0_writeColumn_46 : decode cX0_writeColumn 46 = .ok (.iinc 4 1, 3) := by decide +kernel
theorem dX0_writeColumn_49 : decode cX0_writeColumn 49 = .ok (.goto (-41), 3) := by decide +kernel
theorem dX0_writeColumn_52 : decode cX0_writeColumn 52 = .ok (.return_, 1) := by decide +kernel
theorem dX1_init_0 : decode cX1_init 0 = .ok (.aload_n 0, 1) := by decide +kernel
theorem dX1_init_1 : decode cX1_init 1 = .ok (.invokespecial 3, 3) := by decide +kernel
theorem dX1_init_4 : decode cX1_init 4 = .ok (.aload_n 0, 1) := by decide +kernel
theorem dX1_init_5 : decode cX1_init 5 = .ok (.bipush 49, 2) := by decide +kernel
theorem dX1_init_7 : decode cX1_init 7 = .ok (.newarray .int, 2) := by decide +kernel
theorem dX1_init_9 : decode cX1_init 9 = .ok (.putfield 9, 3) := by decide +kernel
theorem dX1_init_12 : decode cX1_init 12 = .ok (.aload_n 0, 1) := by decide +kernel
theorem dX1_init_13 : decode cX1_init 13 = .ok (.bipush 49, 2) := by decide +kernel
theorem dX1_init_15 : decode cX1_init 15 = .ok (.newarray .int, 2) := by decide +kernel
theorem dX1_init_17 : decode cX1_init 17 = .ok (.putfield 15, 3) := by decide +kernel
theorem dX1_init_20 : decode cX1_init 20 = .ok (.aload_n 0, 1) := by decide +kernel
theorem dX1_init_21 : decode cX1_init 21 = .ok (.bipush 49, 2) := by decide +kernel
theorem dX1_init_23 : decode cX1_init 23 = .ok (.newarray .int, 2) := by decide +kernel
theorem dX1_init_25 : decode cX1_init 25 = .ok (.putfield 18, 3) := by decide +kernel
theorem dX1_init_28 : decode cX1_init 28 = .ok (.aload_n 0, 1) := by decide +kernel
theorem dX1_init_29 : decode cX1_init 29 = .ok (.bipush 8, 2) := by decide +kernel
theorem dX1_init_31 : decode cX1_init 31 = .ok (.newarray .int, 2) := by decide +kernel
theorem dX1_init_33 : decode cX1_init 33 = .ok (.putfield 21, 3) := by decide +kernel
theorem dX1_init_36 : decode cX1_init 36 = .ok (.aload_n 0, 1) := by decide +kernel
theorem dX1_init_37 : decode cX1_init 37 = .ok (.bipush 8, 2) := by decide +kernel
theorem dX1_init_39 : decode cX1_init 39 = .ok (.newarray .int, 2) := by decide +kernel
theorem dX1_init_41 : decode cX1_init 41 = .ok (.putfield 24, 3) := by decide +kernel
theorem dX1_init_44 : decode cX1_init 44 = .ok (.aload_n 0, 1) := by decide +kernel
theorem dX1_init_45 : decode cX1_init 45 = .ok (.sipush 256, 3) := by decide +kernel
theorem dX1_init_48 : decode cX1_init 48 = .ok (.anewarray 27, 3) := by decide +kernel
theorem dX1_init_51 : decode cX1_init 51 = .ok (.putfield 28, 3) := by decide +kernel
theorem dX1_init_54 : decode cX1_init 54 = .ok (.aload_n 0, 1) := by decide +kernel
theorem dX1_init_55 : decode cX1_init 55 = .ok (.aload_n 1, 1) := by decide +kernel
theorem dX1_init_56 : decode cX1_init 56 = .ok (.putfield 32, 3) := by decide +kernel
theorem dX1_init_59 : decode cX1_init 59 = .ok (.aload_n 0, 1) := by decide +kernel
theorem dX1_init_60 : decode cX1_init 60 = .ok (.aload_n 2, 1) := by decide +kernel
theorem dX1_init_61 : decode cX1_init 61 = .ok (.putfield 36, 3) := by decide +kernel
theorem dX1_init_64 : decode cX1_init 64 = .ok (.aload_n 0, 1) := by decide +kernel
theorem dX1_init_65 : decode cX1_init 65 = .ok (.aload_n 3, 1) := by decide +kernel
theorem dX1_init_66 : decode cX1_init 66 = .ok (.putfield 40, 3) := by decide +kernel
theorem dX1_init_69 : decode cX1_init 69 = .ok (.iconst 0, 1) := by decide +kernel
theorem dX1_init_70 : decode cX1_init 70 = .ok (.istore 4, 2) := by decide +kernel
theorem dX1_init_72 : decode cX1_init 72 = .ok (.iload 4, 2) := by decide +kernel
theorem dX1_init_74 : decode cX1_init 74 = .ok (.aload_n 0, 1) := by decide +kernel
theorem dX1_init_75 : decode cX1_init 75 = .ok (.getfield 28, 3) := by decide +kernel
theorem dX1_init_78 : decode cX1_init 78 = .ok (.arraylength, 1) := by decide +kernel
theorem dX1_init_79 : decode cX1_init 79 = .ok (.if_icmp .ge 28, 3) := by decide +kernel
theorem dX1_init_82 : decode cX1_init 82 = .ok (.aload_n 0, 1) := by decide +kernel
theorem dX1_init_83 : decode cX1_init 83 = .ok (.getfield 28, 3) := by decide +kernel
theorem dX1_init_86 : decode cX1_init 86 = .ok (.iload 4, 2) := by decide +kernel
theorem dX1_init_88 : decode cX1_init 88 = .ok (.bipush 6, 2) := by decide +kernel
theorem dX1_init_90 : decode cX1_init 90 = .ok (.iload 4, 2) := by decide +kernel
theorem dX1_init_92 : decode cX1_init 92 = .ok (.invokestatic 44, 3) := by decide +kernel
theorem dX1_init_95 : decode cX1_init 95 = .ok (.imul, 1) := by decide +kernel
theorem dX1_init_96 : decode cX1_init 96 = .ok (.iconst 1, 1) := by decide +kernel
theorem dX1_init_97 : decode cX1_init 97 = .ok (.iadd, 1) := by decide +kernel
theorem dX1_init_98 : decode cX1_init 98 = .ok (.newarray .int, 2) := by decide +kernel
theorem dX1_init_100 : decode cX1_init 100 = .ok (.aastore, 1) := by decide +kernel
theorem dX1_init_101 : decode cX1_init 101 = .ok (.iinc 4 1, 3) := by decide +kernel
theorem dX1_init_104 : decode cX1_init 104 = .ok (.goto (-32), 3) := by decide +kernel
theorem dX1_init_107 : decode cX1_init 107 = .ok (.return_, 1) := by decide +kernel
theorem dX1_forget_0 : decode cX1_forget 0 = .ok (.aload_n 0, 1) := by decide +kernel
theorem dX1_forget_1 : decode cX1_forget 1 = .ok (.iconst 0, 1) := by decide +kernel
theorem dX1_forget_2 : decode cX1_forget 2 = .ok (.putfield 50, 3) := by decide +kernel
theorem dX1_forget_5 : decode cX1_forget 5 = .ok (.aload_n 0, 1) := by decide +kernel
theorem dX1_forget_6 : decode cX1_forget 6 = .ok (.iconst 0, 1) := by decide +kernel
theorem dX1_forget_7 : decode cX1_forget 7 = .ok (.putfield 54, 3) := by decide +kernel
theorem dX1_forget_10 : decode cX1_forget 10 = .ok (.return_, 1) := by decide +kernel
theorem dX1_compute_0 : decode cX1_compute 0 = .ok (.aload_n 0, 1) := by decide +kernel
theorem dX1_compute_1 : decode cX1_compute 1 = .ok (.getfield 50, 3) := by decide +kernel
theorem dX1_compute_4 : decode cX1_compute 4 = .ok (.ifCond .eq 4, 3) := by decide +kernel
theorem dX1_compute_7 : decode cX1_compute 7 = .ok (.return_, 1) := by decide +kernel
theorem dX1_compute_8 : decode cX1_compute 8 = .ok (.aload_n 0, 1) := by decide +kernel
theorem dX1_compute_9 : decode cX1_compute 9 = .ok (.iconst 1, 1) := by decide +kernel
theorem dX1_compute_10 : decode cX1_compute 10 = .ok (.putfield 50, 3) := by decide +kernel
theorem dX1_compute_13 : decode cX1_compute 13 = .ok (.aload_n 0, 1) := by decide +kernel
theorem dX1_compute_14 : decode cX1_compute 14 = .ok (.getfield 40, 3) := by decide +kernel
theorem dX1_compute_17 : decode cX1_compute 17 = .ok (.getfield 57, 3) := by decide +kernel
theorem dX1_compute_20 : decode cX1_compute 20 = .ok (.aload_n 0, 1) := by decide +kernel
theorem dX1_compute_21 : decode cX1_compute 21 = .ok (.getfield 21, 3) := by decide +kernel
theorem dX1_compute_24 : decode cX1_compute 24 = .ok (.invokestatic 63, 3) := by decide +kernel
theorem dX1_compute_27 : decode cX1_compute 27 = .ok (.aload_n 0, 1) := by decide +kernel
theorem dX1_compute_28 : decode cX1_compute 28 = .ok (.getfield 40, 3) := by decide +kernel
theorem dX1_compute_31 : decode cX1_compute 31 = .ok (.getfield 67, 3) := by decide +kernel
theorem dX1_compute_34 : decode cX1_compute 34 = .ok (.aload_n 0, 1) := by decide +kernel
theorem dX1_compute_35 : decode cX1_compute 35 = .ok (.getfield 24, 3) := by decide +kernel
theorem dX1_compute_38 : decode cX1_compute 38 = .ok (.invokestatic 63, 3) := by decide +kernel
theorem dX1_compute_41 : decode cX1_compute 41 = .ok (.invokestatic 70, 3) := by decide +kernel
theorem dX1_compute_44 : decode cX1_compute 44 = .ok (.istore_n 1, 1) := by decide +kernel
theorem dX1_compute_45 : decode cX1_compute 45 = .ok (.aload_n 0, 1) := by decide +kernel
theorem dX1_compute_46 : decode cX1_compute 46 = .ok (.getfield 9, 3) := by decide +kernel
theorem dX1_compute_49 : decode cX1_compute 49 = .ok (.iconst 0, 1) := by decide +kernel
theorem dX1_compute_50 : decode cX1_compute 50 = .ok (.invokestatic 76, 3) := by decide +kernel
theorem dX1_compute_53 : decode cX1_compute 53 = .ok (.iconst 0, 1) := by decide +kernel
theorem dX1_compute_54 : decode cX1_compute 54 = .ok (.istore_n 2, 1) := by decide +kernel
theorem dX1_compute_55 : decode cX1_compute 55 = .ok (.iload_n 2, 1) := by decide +kernel
theorem dX1_compute_56 : decode cX1_compute 56 = .ok (.aload_n 0, 1) := by decide +kernel
theorem dX1_compute_57 : decode cX1_compute 57 = .ok (.getfield 28, 3) := by decide +kernel
theorem dX1_compute_60 : decode cX1_compute 60 = .ok (.arraylength, 1) := by decide +kernel
theorem dX1_compute_61 : decode cX1_compute 61 = .ok (.if_icmp .ge 21, 3) := by decide +kernel
theorem dX1_compute_64 : decode cX1_compute 64 = .ok (.iload_n 2, 1) := by decide +kernel
theorem dX1_compute_65 : decode cX1_compute 65 = .ok (.iconst 1, 1) := by decide +kernel
theorem dX1_compute_66 : decode cX1_compute 66 = .ok (.iload_n 1, 1) := by decide +kernel
theorem dX1_compute_67 : decode cX1_compute 67 = .ok (.ishl, 1) := by decide +kernel
theorem dX1_compute_68 : decode cX1_compute 68 = .ok (.if_icmp .ge 14, 3) := by decide +kernel
theorem dX1_compute_71 : decode cX1_compute 71 = .ok (.aload_n 0, 1) := by decide +kernel
theorem dX1_compute_72 : decode cX1_compute 72 = .ok (.iload_n 2, 1) := by decide +kernel
theorem dX1_compute_73 : decode cX1_compute 73 = .ok (.invokevirtual 82, 3) := by decide +kernel
theorem dX1_compute_76 : decode cX1_compute 76 = .ok (.iinc 2 1, 3) := by decide +kernel
theorem dX1_compute_79 : decode cX1_compute 79 = .ok (.goto (-24), 3) := by decide +kernel
theorem dX1_compute_82 : decode cX1_compute 82 = .ok (.aload_n 0, 1) := by decide +kernel
theorem dX1_compute_83 : decode cX1_compute 83 = .ok (.getfield 28, 3) := by decide +kernel
theorem dX1_compute_86 : decode cX1_compute 86 = .ok (.iconst 1, 1) := by decide +kernel
theorem dX1_compute_87 : decode cX1_compute 87 = .ok (.iload_n 1, 1) := by decide +kernel
theorem dX1_compute_88 : decode cX1_compute 88 = .ok (.ishl, 1) := by decide +kernel
theorem dX1_compute_89 : decode cX1_compute 89 = .ok (.iconst 1, 1) := by decide +kernel
theorem dX1_compute_90 : decode cX1_compute 90 = .ok (.isub, 1) := by decide +kernel
theorem dX1_compute_91 : decode cX1_compute 91 = .ok (.aload_n 0, 1) := by decide +kernel
theorem dX1_compute_92 : decode cX1_compute 92 = .ok (.getfield 28, 3) := by decide +kernel
theorem dX1_compute_95 : decode cX1_compute 95 = .ok (.arraylength, 1) := by decide +kernel
theorem dX1_compute_96 : decode cX1_compute 96 = .ok (.iconst 1, 1) := by decide +kernel
theorem dX1_compute_97 : decode cX1_compute 97 = .ok (.isub, 1) := by decide +kernel
theorem dX1_compute_98 : decode cX1_compute 98 = .ok (.iand, 1) := by decide +kernel
theorem dX1_compute_99 : decode cX1_compute 99 = .ok (.aaload, 1) := by decide +kernel
theorem dX1_compute_100 : decode cX1_compute 100 = .ok (.astore_n 2, 1) := by decide +kernel
theorem dX1_compute_101 : decode cX1_compute 101 = .ok (.iconst 0, 1) := by decide +kernel
theorem dX1_compute_102 : decode cX1_compute 102 = .ok (.istore_n 3, 1) := by decide +kernel
theorem dX1_compute_103 : decode cX1_compute 103 = .ok (.aload_n 2, 1) := by decide +kernel
theorem dX1_compute_104 : decode cX1_compute 104 = .ok (.ifnull 33, 3) := by decide +kernel
theorem dX1_compute_107 : decode cX1_compute 107 = .ok (.iload_n 3, 1) := by decide +kernel
theorem dX1_compute_108 : decode cX1_compute 108 = .ok (.aload_n 2, 1) := by decide +kernel
theorem dX1_compute_109 : decode cX1_compute 109 = .ok (.arraylength, 1) := by decide +kernel
theorem dX1_compute_110 : decode cX1_compute 110 = .ok (.if_icmp .ge 27, 3) := by decide +kernel
theorem dX1_compute_113 : decode cX1_compute 113 = .ok (.iload_n 3, 1) := by decide +kernel
theorem dX1_compute_114 : decode cX1_compute 114 = .ok (.aload_n 0, 1) := by decide +kernel
theorem dX1_compute_115 : decode cX1_compute 115 = .ok (.getfield 9, 3) := by decide +kernel
theorem dX1_compute_118 : decode cX1_compute 118 = .ok (.arraylength, 1) := by decide +kernel
theorem dX1_compute_119 : decode cX1_compute 119 = .ok (.if_icmp .ge 18, 3) := by decide +kernel
theorem dX1_compute_122 : decode cX1_compute 122 = .ok (.aload_n 0, 1) := by decide +kernel
theorem dX1_compute_123 : decode cX1_compute 123 = .ok (.getfield 9, 3) := by decide +kernel
theorem dX1_compute_126 : decode cX1_compute 126 = .ok (.iload_n 3, 1) := by decide +kernel
theorem dX1_compute_127 : decode cX1_compute 127 = .ok (.aload_n 2, 1) := by decide +kernel
theorem dX1_compute_128 : decode cX1_compute 128 = .ok (.iload_n 3, 1) := by decide +kernel
theorem dX1_compute_129 : decode cX1_compute 129 = .ok (.iaload, 1) := by decide +kernel
theorem dX1_compute_130 : decode cX1_compute 130 = .ok (.iastore, 1) := by decide +kernel
theorem dX1_compute_131 : decode cX1_compute 131 = .ok (.iinc 3 1, 3) := by decide +kernel
theorem dX1_compute_134 : decode cX1_compute 134 = .ok (.goto (-31), 3) := by decide +kernel
theorem dX1_compute_137 : decode cX1_compute 137 = .ok (.return_, 1) := by decide +kernel
theorem dX1_listMembers_0 : decode cX1_listMembers 0 = .ok (.iconst 0, 1) := by decide +kernel
theorem dX1_listMembers_1 : decode cX1_listMembers 1 = .ok (.istore_n 2, 1) := by decide +kernel
theorem dX1_listMembers_2 : decode cX1_listMembers 2 = .ok (.iconst 0, 1) := by decide +kernel
theorem dX1_listMembers_3 : decode cX1_listMembers 3 = .ok (.istore_n 3, 1) := by decide +kernel
theorem dX1_listMembers_4 : decode cX1_listMembers 4 = .ok (.iload_n 3, 1) := by decide +kernel
theorem dX1_listMembers_5 : decode cX1_listMembers 5 = .ok (.bipush 8, 2) := by decide +kernel
theorem dX1_listMembers_7 : decode cX1_listMembers 7 = .ok (.if_icmp .ge 30, 3) := by decide +kernel
theorem dX1_listMembers_10 : decode cX1_listMembers 10 = .ok (.iload_n 0, 1) := by decide +kernel
theorem dX1_listMembers_11 : decode cX1_listMembers 11 = .ok (.iload_n 3, 1) := by decide +kernel
theorem dX1_listMembers_12 : decode cX1_listMembers 12 = .ok (.ishr, 1) := by decide +kernel
theorem dX1_listMembers_13 : decode cX1_listMembers 13 = .ok (.iconst 1, 1) := by decide +kernel
theorem dX1_listMembers_14 : decode cX1_listMembers 14 = .ok (.iand, 1) := by decide +kernel
theorem dX1_listMembers_15 : decode cX1_listMembers 15 = .ok (.ifCond .eq 16, 3) := by decide +kernel
theorem dX1_listMembers_18 : decode cX1_listMembers 18 = .ok (.iload_n 2, 1) := by decide +kernel
theorem dX1_listMembers_19 : decode cX1_listMembers 19 = .ok (.aload_n 1, 1) := by decide +kernel
theorem dX1_listMembers_20 : decode cX1_listMembers 20 = .ok (.arraylength, 1) := by decide +kernel
theorem dX1_listMembers_21 : decode cX1_listMembers 21 = .ok (.if_icmp .ge 10, 3) := by decide +kernel
theorem dX1_listMembers_24 : decode cX1_listMembers 24 = .ok (.aload_n 1, 1) := by decide +kernel
theorem dX1_listMembers_25 : decode cX1_listMembers 25 = .ok (.iload_n 2, 1) := by decide +kernel
theorem dX1_listMembers_26 : decode cX1_listMembers 26 = .ok (.iload_n 3, 1) := by decide +kernel
theorem dX1_listMembers_27 : decode cX1_listMembers 27 = .ok (.iastore, 1) := by decide +kernel
theorem dX1_listMembers_28 : decode cX1_listMembers 28 = .ok (.iinc 2 1, 3) := by decide +kernel
theorem dX1_listMembers_31 : decode cX1_listMembers 31 = .ok (.iinc 3 1, 3) := by decide +kernel
theorem dX1_listMembers_34 : decode cX1_listMembers 34 = .ok (.goto (-30), 3) := by decide +kernel
theorem dX1_listMembers_37 : decode cX1_listMembers 37 = .ok (.iload_n 2, 1) := by decide +kernel
theorem dX1_listMembers_38 : decode cX1_listMembers 38 = .ok (.ireturn, 1) := by decide +kernel
theorem dX1_expand_0 : decode cX1_expand 0 = .ok (.aload_n 0, 1) := by decide +kernel
theorem dX1_expand_1 : decode cX1_expand 1 = .ok (.getfield 28, 3) := by decide +kernel
theorem dX1_expand_4 : decode cX1_expand 4 = .ok (.iload_n 1, 1) := by decide +kernel
theorem dX1_expand_5 : decode cX1_expand 5 = .ok (.aload_n 0, 1) := by decide +kernel
theorem dX1_expand_6 : decode cX1_expand 6 = .ok (.getfield 28, 3) := by decide +kernel
theorem dX1_expand_9 : decode cX1_expand 9 = .ok (.arraylength, 1) := by decide +kernel
theorem dX1_expand_10 : decode cX1_expand 10 = .ok (.iconst 1, 1) := by decide +kernel
theorem dX1_expand_11 : decode cX1_expand 11 = .ok (.isub, 1) := by decide +kernel
theorem dX1_expand_12 : decode cX1_expand 12 = .ok (.iand, 1) := by decide +kernel
theorem dX1_expand_13 : decode cX1_expand 13 = .ok (.aaload, 1) := by decide +kernel
theorem dX1_expand_14 : decode cX1_expand 14 = .ok (.astore_n 2, 1) := by decide +kernel
theorem dX1_expand_15 : decode cX1_expand 15 = .ok (.aload_n 2, 1) := by decide +kernel
theorem dX1_expand_16 : decode cX1_expand 16 = .ok (.ifnull 8, 3) := by decide +kernel
theorem dX1_expand_19 : decode cX1_expand 19 = .ok (.aload_n 2, 1) := by decide +kernel
theorem dX1_expand_20 : decode cX1_expand 20 = .ok (.arraylength, 1) := by decide +kernel
theorem dX1_expand_21 : decode cX1_expand 21 = .ok (.ifCond .ne 4, 3) := by decide +kernel
theorem dX1_expand_24 : decode cX1_expand 24 = .ok (.return_, 1) := by decide +kernel
theorem dX1_expand_25 : decode cX1_expand 25 = .ok (.aload_n 2, 1) := by decide +kernel
theorem dX1_expand_26 : decode cX1_expand 26 = .ok (.iconst 0, 1) := by decide +kernel
theorem dX1_expand_27 : decode cX1_expand 27 = .ok (.invokestatic 76, 3) := by decide +kernel
theorem dX1_expand_30 : decode cX1_expand 30 = .ok (.iload_n 1, 1) := by decide +kernel
theorem dX1_expand_31 : decode cX1_expand 31 = .ok (.invokestatic 44, 3) := by decide +kernel
theorem dX1_expand_34 : decode cX1_expand 34 = .ok (.iconst 1, 1) := by decide +kernel
theorem dX1_expand_35 : decode cX1_expand 35 = .ok (.isub, 1) := by decide +kernel
theorem dX1_expand_36 : decode cX1_expand 36 = .ok (.istore_n 3, 1) := by decide +kernel
theorem dX1_expand_37 : decode cX1_expand 37 = .ok (.iload_n 3, 1) := by decide +kernel
theorem dX1_expand_38 : decode cX1_expand 38 = .ok (.ifCond .lt 12, 3) := by decide +kernel
theorem dX1_expand_41 : decode cX1_expand 41 = .ok (.iload_n 3, 1) := by decide +kernel
theorem dX1_expand_42 : decode cX1_expand 42 = .ok (.aload_n 0, 1) := by decide +kernel
theorem dX1_expand_43 : decode cX1_expand 43 = .ok (.getfield 21, 3) := by decide +kernel
theorem dX1_expand_46 : decode cX1_expand 46 = .ok (.arraylength, 1) := by decide +kernel
theorem dX1_expand_47 : decode cX1_expand 47 = .ok (.if_icmp .lt 8, 3) := by decide +kernel
theorem dX1_expand_50 : decode cX1_expand 50 = .ok (.aload_n 2, 1) := by decide +kernel
theorem dX1_expand_51 : decode cX1_expand 51 = .ok (.iconst 0, 1) := by decide +kernel
theorem dX1_expand_52 : decode cX1_expand 52 = .ok (.iconst 1, 1) := by decide +kernel
theorem dX1_expand_53 : decode cX1_expand 53 = .ok (.iastore, 1) := by decide +kernel
theorem dX1_expand_54 : decode cX1_expand 54 = .ok (.return_, 1) := by decide +kernel
theorem dX1_expand_55 : decode cX1_expand 55 = .ok (.iconst 0, 1) := by decide +kernel
theorem dX1_expand_56 : decode cX1_expand 56 = .ok (.istore 4, 2) := by decide +kernel
theorem dX1_expand_58 : decode cX1_expand 58 = .ok (.iload 4, 2) := by decide +kernel
theorem dX1_expand_60 : decode cX1_expand 60 = .ok (.aload_n 0, 1) := by decide +kernel
theorem dX1_expand_61 : decode cX1_expand 61 = .ok (.getfield 24, 3) := by decide +kernel
theorem dX1_expand_64 : decode cX1_expand 64 = .ok (.arraylength, 1) := by decide +kernel
theorem dX1_expand_65 : decode cX1_expand 65 = .ok (.if_icmp .ge 88, 3) := by decide +kernel
theorem dX1_expand_68 : decode cX1_expand 68 = .ok (.iload_n 1, 1) := by decide +kernel
theorem dX1_expand_69 : decode cX1_expand 69 = .ok (.iload 4, 2) := by decide +kernel
theorem dX1_expand_71 : decode cX1_expand 71 = .ok (.ishr, 1) := by decide +kernel
theorem dX1_expand_72 : decode cX1_expand 72 = .ok (.iconst 1, 1) := by decide +kernel
theorem dX1_expand_73 : decode cX1_expand 73 = .ok (.iand, 1) := by decide +kernel
theorem dX1_expand_74 : decode cX1_expand 74 = .ok (.ifCond .eq 73, 3) := by decide +kernel
theorem dX1_expand_77 : decode cX1_expand 77 = .ok (.iload_n 1, 1) := by decide +kernel
theorem dX1_expand_78 : decode cX1_expand 78 = .ok (.iload 4, 2) := by decide +kernel
theorem dX1_expand_80 : decode cX1_expand 80 = .ok (.iconst 1, 1) := by decide +kernel
theorem dX1_expand_81 : decode cX1_expand 81 = .ok (.iadd, 1) := by decide +kernel
theorem dX1_expand_82 : decode cX1_expand 82 = .ok (.ishr, 1) := by decide +kernel
theorem dX1_expand_83 : decode cX1_expand 83 = .ok (.invokestatic 44, 3) := by decide +kernel
theorem dX1_expand_86 : decode cX1_expand 86 = .ok (.istore 5, 2) := by decide +kernel
theorem dX1_expand_88 : decode cX1_expand 88 = .ok (.aload_n 0, 1) := by decide +kernel
theorem dX1_expand_89 : decode cX1_expand 89 = .ok (.getfield 28, 3) := by decide +kernel
theorem dX1_expand_92 : decode cX1_expand 92 = .ok (.iload_n 1, 1) := by decide +kernel
theorem dX1_expand_93 : decode cX1_expand 93 = .ok (.iconst 1, 1) := by decide +kernel
theorem dX1_expand_94 : decode cX1_expand 94 = .ok (.iload 4, 2) := by decide +kernel
theorem dX1_expand_96 : decode cX1_expand 96 = .ok (.ishl, 1) := by decide +kernel
theorem dX1_expand_97 : decode cX1_expand 97 = .ok (.ixor, 1) := by decide +kernel
theorem dX1_expand_98 : decode cX1_expand 98 = .ok (.aload_n 0, 1) := by decide +kernel
theorem dX1_expand_99 : decode cX1_expand 99 = .ok (.getfield 28, 3) := by decide +kernel
theorem dX1_expand_102 : decode cX1_expand 102 = .ok (.arraylength, 1) := by decide +kernel
theorem dX1_expand_103 : decode cX1_expand 103 = .ok (.iconst 1, 1) := by decide +kernel
theorem dX1_expand_104 : decode cX1_expand 104 = .ok (.isub, 1) := by decide +kernel
theorem dX1_expand_105 : decode cX1_expand 105 = .ok (.iand, 1) := by decide +kernel
theorem dX1_expand_106 : decode cX1_expand 106 = .ok (.aaload, 1) := by decide +kernel
theorem dX1_expand_107 : decode cX1_expand 107 = .ok (.astore 6, 2) := by decide +kernel
theorem dX1_expand_109 : decode cX1_expand 109 = .ok (.aload_n 2, 1) := by decide +kernel
theorem dX1_expand_110 : decode cX1_expand 110 = .ok (.aload_n 0, 1) := by decide +kernel
theorem dX1_expand_111 : decode cX1_expand 111 = .ok (.getfield 36, 3) := by decide +kernel
theorem dX1_expand_114 : decode cX1_expand 114 = .ok (.aload_n 0, 1) := by decide +kernel
theorem dX1_expand_115 : decode cX1_expand 115 = .ok (.getfield 21, 3) := by decide +kernel
theorem dX1_expand_118 : decode cX1_expand 118 = .ok (.iload_n 3, 1) := by decide +kernel
theorem dX1_expand_119 : decode cX1_expand 119 = .ok (.iaload, 1) := by decide +kernel
theorem dX1_expand_120 : decode cX1_expand 120 = .ok (.aload_n 0, 1) := by decide +kernel
theorem dX1_expand_121 : decode cX1_expand 121 = .ok (.getfield 24, 3) := by decide +kernel
theorem dX1_expand_124 : decode cX1_expand 124 = .ok (.iload 4, 2) := by decide +kernel
theorem dX1_expand_126 : decode cX1_expand 126 = .ok (.iaload, 1) := by decide +kernel
theorem dX1_expand_127 : decode cX1_expand 127 = .ok (.invokevirtual 86, 3) := by decide +kernel
theorem dX1_expand_130 : decode cX1_expand 130 = .ok (.aload 6, 2) := by decide +kernel
theorem dX1_expand_132 : decode cX1_expand 132 = .ok (.iload 5, 2) := by decide +kernel
theorem dX1_expand_134 : decode cX1_expand 134 = .ok (.iconst 2, 1) := by decide +kernel
theorem dX1_expand_135 : decode cX1_expand 135 = .ok (.irem, 1) := by decide +kernel
theorem dX1_expand_136 : decode cX1_expand 136 = .ok (.ifCond .ne 7, 3) := by decide +kernel
theorem dX1_expand_139 : decode cX1_expand 139 = .ok (.iconst 1, 1) := by decide +kernel
theorem dX1_expand_140 : decode cX1_expand 140 = .ok (.goto 4, 3) := by decide +kernel
theorem dX1_expand_143 : decode cX1_expand 143 = .ok (.iconst (-1), 1) := by decide +kernel
theorem dX1_expand_144 : decode cX1_expand 144 = .ok (.invokestatic 92, 3) := by decide +kernel
theorem dX1_expand_147 : decode cX1_expand 147 = .ok (.iinc 4 1, 3) := by decide +kernel
theorem dX1_expand_150 : decode cX1_expand 150 = .ok (.goto (-92), 3) := by decide +kernel
theorem dX1_expand_153 : decode cX1_expand 153 = .ok (.aload_n 2, 1) := by decide +kernel
theorem dX1_expand_154 : decode cX1_expand 154 = .ok (.aload_n 0, 1) := by decide +kernel
theorem dX1_expand_155 : decode cX1_expand 155 = .ok (.getfield 32, 3) := by decide +kernel
theorem dX1_expand_158 : decode cX1_expand 158 = .ok (.getfield 98, 3) := by decide +kernel
theorem dX1_expand_161 : decode cX1_expand 161 = .ok (.invokestatic 103, 3) := by decide +kernel
theorem dX1_expand_164 : decode cX1_expand 164 = .ok (.return_, 1) := by decide +kernel
theorem dX1_multiplicityOf_0 : decode cX1_multiplicityOf 0 = .ok (.aload_n 0, 1) := by decide +kernel
theorem dX1_multiplicityOf_1 : decode cX1_multiplicityOf 1 = .ok (.getfield 9, 3) := by decide +kernel
theorem dX1_multiplicityOf_4 : decode cX1_multiplicityOf 4 = .ok (.iconst 0, 1) := by decide +kernel
theorem dX1_multiplicityOf_5 : decode cX1_multiplicityOf 5 = .ok (.aload_n 0, 1) := by decide +kernel
theorem dX1_multiplicityOf_6 : decode cX1_multiplicityOf 6 = .ok (.getfield 18, 3) := by decide +kernel
theorem dX1_multiplicityOf_9 : decode cX1_multiplicityOf 9 = .ok (.iconst 0, 1) := by decide +kernel
theorem dX1_multiplicityOf_10 : decode cX1_multiplicityOf 10 = .ok (.bipush 49, 2) := by decide +kernel
theorem dX1_multiplicityOf_12 : decode cX1_multiplicityOf 12 = .ok (.invokestatic 106, 3) := by decide +kernel
theorem dX1_multiplicityOf_15 : decode cX1_multiplicityOf 15 = .ok (.aload_n 0, 1) := by decide +kernel
theorem dX1_multiplicityOf_16 : decode cX1_multiplicityOf 16 = .ok (.getfield 18, 3) := by decide +kernel
theorem dX1_multiplicityOf_19 : decode cX1_multiplicityOf 19 = .ok (.iload_n 1, 1) := by decide +kernel
theorem dX1_multiplicityOf_20 : decode cX1_multiplicityOf 20 = .ok (.aload_n 0, 1) := by decide +kernel
theorem dX1_multiplicityOf_21 : decode cX1_multiplicityOf 21 = .ok (.getfield 32, 3) := by decide +kernel
theorem dX1_multiplicityOf_24 : decode cX1_multiplicityOf 24 = .ok (.getfield 98, 3) := by decide +kernel
theorem dX1_multiplicityOf_27 : decode cX1_multiplicityOf 27 = .ok (.invokestatic 112, 3) := by decide +kernel
theorem dX1_multiplicityOf_30 : decode cX1_multiplicityOf 30 = .ok (.ireturn, 1) := by decide +kernel
theorem dX1_reduce_0 : decode cX1_reduce 0 = .ok (.aload_n 0, 1) := by decide +kernel
theorem dX1_reduce_1 : decode cX1_reduce 1 = .ok (.getfield 54, 3) := by decide +kernel
theorem dX1_reduce_4 : decode cX1_reduce 4 = .ok (.ifCond .eq 4, 3) := by decide +kernel
theorem dX1_reduce_7 : decode cX1_reduce 7 = .ok (.return_, 1) := by decide +kernel
theorem dX1_reduce_8 : decode cX1_reduce 8 = .ok (.aload_n 0, 1) := by decide +kernel
theorem dX1_reduce_9 : decode cX1_reduce 9 = .ok (.iconst 1, 1) := by decide +kernel
theorem dX1_reduce_10 : decode cX1_reduce 10 = .ok (.putfield 54, 3) := by decide +kernel
theorem dX1_reduce_13 : decode cX1_reduce 13 = .ok (.aload_n 0, 1) := by decide +kernel
theorem dX1_reduce_14 : decode cX1_reduce 14 = .ok (.iconst 0, 1) := by decide +kernel
theorem dX1_reduce_15 : decode cX1_reduce 15 = .ok (.putfield 116, 3) := by decide +kernel
theorem dX1_reduce_18 : decode cX1_reduce 18 = .ok (.aload_n 0, 1) := by decide +kernel
theorem dX1_reduce_19 : decode cX1_reduce 19 = .ok (.getfield 32, 3) := by decide +kernel
theorem dX1_reduce_22 : decode cX1_reduce 22 = .ok (.getfield 98, 3) := by decide +kernel
theorem dX1_reduce_25 : decode cX1_reduce 25 = .ok (.istore_n 2, 1) := by decide +kernel
theorem dX1_reduce_26 : decode cX1_reduce 26 = .ok (.aload_n 0, 1) := by decide +kernel
theorem dX1_reduce_27 : decode cX1_reduce 27 = .ok (.getfield 9, 3) := by decide +kernel
theorem dX1_reduce_30 : decode cX1_reduce 30 = .ok (.iconst 0, 1) := by decide +kernel
theorem dX1_reduce_31 : decode cX1_reduce 31 = .ok (.aload_n 0, 1) := by decide +kernel
theorem dX1_reduce_32 : decode cX1_reduce 32 = .ok (.getfield 15, 3) := by decide +kernel
theorem dX1_reduce_35 : decode cX1_reduce 35 = .ok (.iconst 0, 1) := by decide +kernel
theorem dX1_reduce_36 : decode cX1_reduce 36 = .ok (.bipush 49, 2) := by decide +kernel
theorem dX1_reduce_38 : decode cX1_reduce 38 = .ok (.invokestatic 106, 3) := by decide +kernel
theorem dX1_reduce_41 : decode cX1_reduce 41 = .ok (.iconst 0, 1) := by decide +kernel
theorem dX1_reduce_42 : decode cX1_reduce 42 = .ok (.istore_n 3, 1) := by decide +kernel
theorem dX1_reduce_43 : decode cX1_reduce 43 = .ok (.iload_n 3, 1) := by decide +kernel
theorem dX1_reduce_44 : decode cX1_reduce 44 = .ok (.iload_n 2, 1) := by decide +kernel
theorem dX1_reduce_45 : decode cX1_reduce 45 = .ok (.if_icmp .ge 56, 3) := by decide +kernel
theorem dX1_reduce_48 : decode cX1_reduce 48 = .ok (.aload_n 0, 1) := by decide +kernel
theorem dX1_reduce_49 : decode cX1_reduce 49 = .ok (.getfield 9, 3) := by decide +kernel
theorem dX1_reduce_52 : decode cX1_reduce 52 = .ok (.iload_n 3, 1) := by decide +kernel
theorem dX1_reduce_53 : decode cX1_reduce 53 = .ok (.iload_n 2, 1) := by decide +kernel
theorem dX1_reduce_54 : decode cX1_reduce 54 = .ok (.invokestatic 119, 3) := by decide +kernel
theorem dX1_reduce_57 : decode cX1_reduce 57 = .ok (.ifCond .ne 38, 3) := by decide +kernel
theorem dX1_reduce_60 : decode cX1_reduce 60 = .ok (.aload_n 1, 1) := by decide +kernel
theorem dX1_reduce_61 : decode cX1_reduce 61 = .ok (.iload_n 3, 1) := by decide +kernel
theorem dX1_reduce_62 : decode cX1_reduce 62 = .ok (.invokevirtual 122, 3) := by decide +kernel
theorem dX1_reduce_65 : decode cX1_reduce 65 = .ok (.aload_n 1, 1) := by decide +kernel
theorem dX1_reduce_66 : decode cX1_reduce 66 = .ok (.iload_n 3, 1) := by decide +kernel
theorem dX1_reduce_67 : decode cX1_reduce 67 = .ok (.invokevirtual 127, 3) := by decide +kernel
theorem dX1_reduce_70 : decode cX1_reduce 70 = .ok (.ifCond .ne 25, 3) := by decide +kernel
theorem dX1_reduce_73 : decode cX1_reduce 73 = .ok (.aload_n 0, 1) := by decide +kernel
theorem dX1_reduce_74 : decode cX1_reduce 74 = .ok (.dup, 1) := by decide +kernel
theorem dX1_reduce_75 : decode cX1_reduce 75 = .ok (.getfield 116, 3) := by decide +kernel
theorem dX1_reduce_78 : decode cX1_reduce 78 = .ok (.iconst 1, 1) := by decide +kernel
theorem dX1_reduce_79 : decode cX1_reduce 79 = .ok (.iload_n 3, 1) := by decide +kernel
theorem dX1_reduce_80 : decode cX1_reduce 80 = .ok (.ishl, 1) := by decide +kernel
theorem dX1_reduce_81 : decode cX1_reduce 81 = .ok (.ior, 1) := by decide +kernel
theorem dX1_reduce_82 : decode cX1_reduce 82 = .ok (.putfield 116, 3) := by decide +kernel
theorem dX1_reduce_85 : decode cX1_reduce 85 = .ok (.aload_n 0, 1) := by decide +kernel
theorem dX1_reduce_86 : decode cX1_reduce 86 = .ok (.getfield 15, 3) := by decide +kernel
theorem dX1_reduce_89 : decode cX1_reduce 89 = .ok (.iload_n 3, 1) := by decide +kernel
theorem dX1_reduce_90 : decode cX1_reduce 90 = .ok (.iload_n 2, 1) := by decide +kernel
theorem dX1_reduce_91 : decode cX1_reduce 91 = .ok (.invokestatic 112, 3) := by decide +kernel
theorem dX1_reduce_94 : decode cX1_reduce 94 = .ok (.pop, 1) := by decide +kernel
theorem dX1_reduce_95 : decode cX1_reduce 95 = .ok (.iinc 3 1, 3) := by decide +kernel
theorem dX1_reduce_98 : decode cX1_reduce 98 = .ok (.goto (-55), 3) := by decide +kernel
theorem dX1_reduce_101 : decode cX1_reduce 101 = .ok (.aload_n 0, 1) := by decide +kernel
theorem dX1_reduce_102 : decode cX1_reduce 102 = .ok (.iload_n 2, 1) := by decide +kernel
theorem dX1_reduce_103 : decode cX1_reduce 103 = .ok (.invokevirtual 130, 3) := by decide +kernel
theorem dX1_reduce_106 : decode cX1_reduce 106 = .ok (.return_, 1) := by decide +kernel
theorem dX1_divideByLeading_0 : decode cX1_divideByLeading 0 = .ok (.aload_n 0, 1) := by decide +kernel
theorem dX1_divideByLeading_1 : decode cX1_divideByLeading 1 = .ok (.getfield 15, 3) := by decide +kernel
theorem dX1_divideByLeading_4 : decode cX1_divideByLeading 4 = .ok (.invokestatic 133, 3) := by decide +kernel
theorem dX1_divideByLeading_7 : decode cX1_divideByLeading 7 = .ok (.istore_n 2, 1) := by decide +kernel
theorem dX1_divideByLeading_8 : decode cX1_divideByLeading 8 = .ok (.iload_n 2, 1) := by decide +kernel
theorem dX1_divideByLeading_9 : decode cX1_divideByLeading 9 = .ok (.ifCond .lt 22, 3) := by decide +kernel
theorem dX1_divideByLeading_12 : decode cX1_divideByLeading 12 = .ok (.iload_n 2, 1) := by decide +kernel
theorem dX1_divideByLeading_13 : decode cX1_divideByLeading 13 = .ok (.bipush 49, 2) := by decide +kernel
theorem dX1_divideByLeading_15 : decode cX1_divideByLeading 15 = .ok (.if_icmp .ge 16, 3) := by decide +kernel
theorem dX1_divideByLeading_18 : decode cX1_divideByLeading 18 = .ok (.aload_n 0, 1) := by decide +kernel
theorem dX1_divideByLeading_19 : decode cX1_divideByLeading 19 = .ok (.getfield 15, 3) := by decide +kernel
theorem dX1_divideByLeading_22 : decode cX1_divideByLeading 22 = .ok (.iload_n 2, 1) := by decide +kernel
theorem dX1_divideByLeading_23 : decode cX1_divideByLeading 23 = .ok (.iaload, 1) := by decide +kernel
theorem dX1_divideByLeading_24 : decode cX1_divideByLeading 24 = .ok (.iload_n 1, 1) := by decide +kernel
theorem dX1_divideByLeading_25 : decode cX1_divideByLeading 25 = .ok (.invokestatic 137, 3) := by decide +kernel
theorem dX1_divideByLeading_28 : decode cX1_divideByLeading 28 = .ok (.goto 4, 3) := by decide +kernel
theorem dX1_divideByLeading_31 : decode cX1_divideByLeading 31 = .ok (.iconst 0, 1) := by decide +kernel
theorem dX1_divideByLeading_32 : decode cX1_divideByLeading 32 = .ok (.istore_n 3, 1) := by decide +kernel
theorem dX1_divideByLeading_33 : decode cX1_divideByLeading 33 = .ok (.iconst 0, 1) := by decide +kernel
theorem dX1_divideByLeading_34 : decode cX1_divideByLeading 34 = .ok (.istore 4, 2) := by decide +kernel
theorem dX1_divideByLeading_36 : decode cX1_divideByLeading 36 = .ok (.iload 4, 2) := by decide +kernel
theorem dX1_divideByLeading_38 : decode cX1_divideByLeading 38 = .ok (.bipush 49, 2) := by decide +kernel
theorem dX1_divideByLeading_40 : decode cX1_divideByLeading 40 = .ok (.if_icmp .ge 29, 3) := by decide +kernel
theorem dX1_divideByLeading_43 : decode cX1_divideByLeading 43 = .ok (.aload_n 0, 1) := by decide +kernel
theorem dX1_divideByLeading_44 : decode cX1_divideByLeading 44 = .ok (.getfield 15, 3) := by decide +kernel
theorem dX1_divideByLeading_47 : decode cX1_divideByLeading 47 = .ok (.iload 4, 2) := by decide +kernel
theorem dX1_divideByLeading_49 : decode cX1_divideByLeading 49 = .ok (.aload_n 0, 1) := by decide +kernel
theorem dX1_divideByLeading_50 : decode cX1_divideByLeading 50 = .ok (.getfield 15, 3) := by decide +kernel
theorem dX1_divideByLeading_53 : decode cX1_divideByLeading 53 = .ok (.iload 4, 2) := by decide +kernel
theorem dX1_divideByLeading_55 : decode cX1_divideByLeading 55 = .ok (.iaload, 1) := by decide +kernel
theorem dX1_divideByLeading_56 : decode cX1_divideByLeading 56 = .ok (.iload_n 3, 1) := by decide +kernel
theorem dX1_divideByLeading_57 : decode cX1_divideByLeading 57 = .ok (.imul, 1) := by decide +kernel
theorem dX1_divideByLeading_58 : decode cX1_divideByLeading 58 = .ok (.iload_n 1, 1) := by decide +kernel
theorem dX1_divideByLeading_59 : decode cX1_divideByLeading 59 = .ok (.invokestatic 140, 3) := by decide +kernel
theorem dX1_divideByLeading_62 : decode cX1_divideByLeading 62 = .ok (.iastore, 1) := by decide +kernel
theorem dX1_divideByLeading_63 : decode cX1_divideByLeading 63 = .ok (.iinc 4 1, 3) := by decide +kernel
theorem dX1_divideByLeading_66 : decode cX1_divideByLeading 66 = .ok (.goto (-30), 3) := by decide +kernel
theorem dX1_divideByLeading_69 : decode cX1_divideByLeading 69 = .ok (.return_, 1) := by decide +kernel
theorem dX2_init_0 : decode cX2_init 0 = .ok (.aload_n 0, 1) := by decide +kernel
theorem dX2_init_1 : decode cX2_init 1 = .ok (.invokespecial 3, 3) := by decide +kernel
theorem dX2_init_4 : decode cX2_init 4 = .ok (.aload_n 0, 1) := by decide +kernel
theorem dX2_init_5 : decode cX2_init 5 = .ok (.bipush 8, 2) := by decide +kernel
theorem dX2_init_7 : decode cX2_init 7 = .ok (.anewarray 9, 3) := by decide +kernel
theorem dX2_init_10 : decode cX2_init 10 = .ok (.putfield 11, 3) := by decide +kernel
theorem dX2_init_13 : decode cX2_init 13 = .ok (.iconst 0, 1) := by decide +kernel
theorem dX2_init_14 : decode cX2_init 14 = .ok (.istore_n 1, 1) := by decide +kernel
theorem dX2_init_15 : decode cX2_init 15 = .ok (.iload_n 1, 1) := by decide +kernel
theorem dX2_init_16 : decode cX2_init 16 = .ok (.bipush 8, 2) := by decide +kernel
theorem dX2_init_18 : decode cX2_init 18 = .ok (.if_icmp .ge 22, 3) := by decide +kernel
theorem dX2_init_21 : decode cX2_init 21 = .ok (.aload_n 0, 1) := by decide +kernel
theorem dX2_init_22 : decode cX2_init 22 = .ok (.getfield 11, 3) := by decide +kernel
theorem dX2_init_25 : decode cX2_init 25 = .ok (.iload_n 1, 1) := by decide +kernel
theorem dX2_init_26 : decode cX2_init 26 = .ok (.new 9, 3) := by decide +kernel
theorem dX2_init_29 : decode cX2_init 29 = .ok (.dup, 1) := by decide +kernel
theorem dX2_init_30 : decode cX2_init 30 = .ok (.invokespecial 17, 3) := by decide +kernel
theorem dX2_init_33 : decode cX2_init 33 = .ok (.aastore, 1) := by decide +kernel
theorem dX2_init_34 : decode cX2_init 34 = .ok (.iinc 1 1, 3) := by decide +kernel
theorem dX2_init_37 : decode cX2_init 37 = .ok (.goto (-22), 3) := by decide +kernel
theorem dX2_init_40 : decode cX2_init 40 = .ok (.return_, 1) := by decide +kernel
theorem dX2_stateIn_0 : decode cX2_stateIn 0 = .ok (.iload_n 1, 1) := by decide +kernel
theorem dX2_stateIn_1 : decode cX2_stateIn 1 = .ok (.ifCond .lt 18, 3) := by decide +kernel
theorem dX2_stateIn_4 : decode cX2_stateIn 4 = .ok (.iload_n 1, 1) := by decide +kernel
theorem dX2_stateIn_5 : decode cX2_stateIn 5 = .ok (.bipush 8, 2) := by decide +kernel
theorem dX2_stateIn_7 : decode cX2_stateIn 7 = .ok (.if_icmp .ge 12, 3) := by decide +kernel
theorem dX2_stateIn_10 : decode cX2_stateIn 10 = .ok (.aload_n 0, 1) := by decide +kernel
theorem dX2_stateIn_11 : decode cX2_stateIn 11 = .ok (.getfield 11, 3) := by decide +kernel
theorem dX2_stateIn_14 : decode cX2_stateIn 14 = .ok (.iload_n 1, 1) := by decide +kernel
theorem dX2_stateIn_15 : decode cX2_stateIn 15 = .ok (.aaload, 1) := by decide +kernel
theorem dX2_stateIn_16 : decode cX2_stateIn 16 = .ok (.goto 4, 3) := by decide +kernel
theorem dX2_stateIn_19 : decode cX2_stateIn 19 = .ok (.aconst_null, 1) := by decide +kernel
theorem dX2_stateIn_20 : decode cX2_stateIn 20 = .ok (.areturn, 1) := by decide +kernel
theorem dX2_remember_0 : decode cX2_remember 0 = .ok (.aload_n 0, 1) := by decide +kernel
theorem dX2_remember_1 : decode cX2_remember 1 = .ok (.aload_n 0, 1) := by decide +kernel
theorem dX2_remember_2 : decode cX2_remember 2 = .ok (.getfield 18, 3) := by decide +kernel
theorem dX2_remember_5 : decode cX2_remember 5 = .ok (.invokevirtual 22, 3) := by decide +kernel
theorem dX2_remember_8 : decode cX2_remember 8 = .ok (.astore_n 2, 1) := by decide +kernel
theorem dX2_remember_9 : decode cX2_remember 9 = .ok (.aload_n 2, 1) := by decide +kernel
theorem dX2_remember_10 : decode cX2_remember 10 = .ok (.ifnull 8, 3) := by decide +kernel
theorem dX2_remember_13 : decode cX2_remember 13 = .ok (.aload_n 2, 1) := by decide +kernel
theorem dX2_remember_14 : decode cX2_remember 14 = .ok (.aload_n 1, 1) := by decide +kernel
theorem dX2_remember_15 : decode cX2_remember 15 = .ok (.invokevirtual 26, 3) := by decide +kernel
theorem dX2_remember_18 : decode cX2_remember 18 = .ok (.aload_n 0, 1) := by decide +kernel
theorem dX2_remember_19 : decode cX2_remember 19 = .ok (.aload_n 0, 1) := by decide +kernel
theorem dX2_remember_20 : decode cX2_remember 20 = .ok (.getfield 18, 3) := by decide +kernel
theorem dX2_remember_23 : decode cX2_remember 23 = .ok (.iconst 1, 1) := by decide +kernel
theorem dX2_remember_24 : decode cX2_remember 24 = .ok (.iadd, 1) := by decide +kernel
theorem dX2_remember_25 : decode cX2_remember 25 = .ok (.bipush 8, 2) := by decide +kernel
theorem dX2_remember_27 : decode cX2_remember 27 = .ok (.if_icmp .ge 12, 3) := by decide +kernel
theorem dX2_remember_30 : decode cX2_remember 30 = .ok (.aload_n 0, 1) := by decide +kernel
theorem dX2_remember_31 : decode cX2_remember 31 = .ok (.getfield 18, 3) := by decide +kernel
theorem dX2_remember_34 : decode cX2_remember 34 = .ok (.iconst 1, 1) := by decide +kernel
theorem dX2_remember_35 : decode cX2_remember 35 = .ok (.iadd, 1) := by decide +kernel
theorem dX2_remember_36 : decode cX2_remember 36 = .ok (.goto 4, 3) := by decide +kernel
theorem dX2_remember_39 : decode cX2_remember 39 = .ok (.iconst 0, 1) := by decide +kernel
theorem dX2_remember_40 : decode cX2_remember 40 = .ok (.putfield 18, 3) := by decide +kernel
theorem dX2_remember_43 : decode cX2_remember 43 = .ok (.aload_n 0, 1) := by decide +kernel
theorem dX2_remember_44 : decode cX2_remember 44 = .ok (.aload_n 0, 1) := by decide +kernel
theorem dX2_remember_45 : decode cX2_remember 45 = .ok (.getfield 30, 3) := by decide +kernel
theorem dX2_remember_48 : decode cX2_remember 48 = .ok (.iconst 1, 1) := by decide +kernel
theorem dX2_remember_49 : decode cX2_remember 49 = .ok (.iadd, 1) := by decide +kernel
theorem dX2_remember_50 : decode cX2_remember 50 = .ok (.bipush 8, 2) := by decide +kernel
theorem dX2_remember_52 : decode cX2_remember 52 = .ok (.invokestatic 33, 3) := by decide +kernel
theorem dX2_remember_55 : decode cX2_remember 55 = .ok (.putfield 30, 3) := by decide +kernel
theorem dX2_remember_58 : decode cX2_remember 58 = .ok (.return_, 1) := by decide +kernel
theorem dX2_restore_0 : decode cX2_restore 0 = .ok (.aload_n 0, 1) := by decide +kernel
theorem dX2_restore_1 : decode cX2_restore 1 = .ok (.getfield 30, 3) := by decide +kernel
theorem dX2_restore_4 : decode cX2_restore 4 = .ok (.ifCond .ne 4, 3) := by decide +kernel
theorem dX2_restore_7 : decode cX2_restore 7 = .ok (.return_, 1) := by decide +kernel
theorem dX2_restore_8 : decode cX2_restore 8 = .ok (.aload_n 0, 1) := by decide +kernel
theorem dX2_restore_9 : decode cX2_restore 9 = .ok (.aload_n 0, 1) := by decide +kernel
theorem dX2_restore_10 : decode cX2_restore 10 = .ok (.getfield 18, 3) := by decide +kernel
theorem dX2_restore_13 : decode cX2_restore 13 = .ok (.ifCond .le 12, 3) := by decide +kernel
theorem dX2_restore_16 : decode cX2_restore 16 = .ok (.aload_n 0, 1) := by decide +kernel
theorem dX2_restore_17 : decode cX2_restore 17 = .ok (.getfield 18, 3) := by decide +kernel
theorem dX2_restore_20 : decode cX2_restore 20 = .ok (.iconst 1, 1) := by decide +kernel
theorem dX2_restore_21 : decode cX2_restore 21 = .ok (.isub, 1) := by decide +kernel
theorem dX2_restore_22 : decode cX2_restore 22 = .ok (.goto 5, 3) := by decide +kernel
theorem dX2_restore_25 : decode cX2_restore 25 = .ok (.bipush 7, 2) := by decide +kernel
theorem dX2_restore_27 : decode cX2_restore 27 = .ok (.putfield 18, 3) := by decide +kernel
theorem dX2_restore_30 : decode cX2_restore 30 = .ok (.aload_n 0, 1) := by decide +kernel
theorem dX2_restore_31 : decode cX2_restore 31 = .ok (.dup, 1) := by decide +kernel
theorem dX2_restore_32 : decode cX2_restore 32 = .ok (.getfield 30, 3) := by decide +kernel
theorem dX2_restore_35 : decode cX2_restore 35 = .ok (.iconst 1, 1) := by decide +kernel
theorem dX2_restore_36 : decode cX2_restore 36 = .ok (.isub, 1) := by decide +kernel
theorem dX2_restore_37 : decode cX2_restore 37 = .ok (.putfield 30, 3) := by decide +kernel
theorem dX2_restore_40 : decode cX2_restore 40 = .ok (.aload_n 0, 1) := by decide +kernel
theorem dX2_restore_41 : decode cX2_restore 41 = .ok (.aload_n 0, 1) := by decide +kernel
theorem dX2_restore_42 : decode cX2_restore 42 = .ok (.getfield 18, 3) := by decide +kernel
theorem dX2_restore_45 : decode cX2_restore 45 = .ok (.invokevirtual 22, 3) := by decide +kernel
theorem dX2_restore_48 : decode cX2_restore 48 = .ok (.astore_n 2, 1) := by decide +kernel
theorem dX2_restore_49 : decode cX2_restore 49 = .ok (.aload_n 2, 1) := by decide +kernel
theorem dX2_restore_50 : decode cX2_restore 50 = .ok (.ifnull 8, 3) := by decide +kernel
theorem dX2_restore_53 : decode cX2_restore 53 = .ok (.aload_n 1, 1) := by decide +kernel
theorem dX2_restore_54 : decode cX2_restore 54 = .ok (.aload_n 2, 1) := by decide +kernel
theorem dX2_restore_55 : decode cX2_restore 55 = .ok (.invokevirtual 26, 3) := by decide +kernel
theorem dX2_restore_58 : decode cX2_restore 58 = .ok (.return_, 1) := by decide +kernel
theorem dX3_residue_0 : decode cX3_residue 0 = .ok (.iload_n 1, 1) := by decide +kernel
theorem dX3_residue_1 : decode cX3_residue 1 = .ok (.iconst 1, 1) := by decide +kernel
theorem dX3_residue_2 : decode cX3_residue 2 = .ok (.if_icmp .ge 5, 3) := by decide +kernel
theorem dX3_residue_5 : decode cX3_residue 5 = .ok (.iconst 0, 1) := by decide +kernel
theorem dX3_residue_6 : decode cX3_residue 6 = .ok (.ireturn, 1) := by decide +kernel
theorem dX3_residue_7 : decode cX3_residue 7 = .ok (.iload_n 0, 1) := by decide +kernel
theorem dX3_residue_8 : decode cX3_residue 8 = .ok (.iload_n 1, 1) := by decide +kernel
theorem dX3_residue_9 : decode cX3_residue 9 = .ok (.irem, 1) := by decide +kernel
theorem dX3_residue_10 : decode cX3_residue 10 = .ok (.istore_n 2, 1) := by decide +kernel
theorem dX3_residue_11 : decode cX3_residue 11 = .ok (.iload_n 2, 1) := by decide +kernel
theorem dX3_residue_12 : decode cX3_residue 12 = .ok (.ifCond .ge 9, 3) := by decide +kernel
theorem dX3_residue_15 : decode cX3_residue 15 = .ok (.iload_n 2, 1) := by decide +kernel
theorem dX3_residue_16 : decode cX3_residue 16 = .ok (.iload_n 1, 1) := by decide +kernel
theorem dX3_residue_17 : decode cX3_residue 17 = .ok (.iadd, 1) := by decide +kernel
theorem dX3_residue_18 : decode cX3_residue 18 = .ok (.goto 4, 3) := by decide +kernel
theorem dX3_residue_21 : decode cX3_residue 21 = .ok (.iload_n 2, 1) := by decide +kernel
theorem dX3_residue_22 : decode cX3_residue 22 = .ok (.ireturn, 1) := by decide +kernel
theorem dX3_inverse_0 : decode cX3_inverse 0 = .ok (.iconst 1, 1) := by decide +kernel
theorem dX3_inverse_1 : decode cX3_inverse 1 = .ok (.istore_n 2, 1) := by decide +kernel
theorem dX3_inverse_2 : decode cX3_inverse 2 = .ok (.iload_n 2, 1) := by decide +kernel
theorem dX3_inverse_3 : decode cX3_inverse 3 = .ok (.iload_n 1, 1) := by decide +kernel
theorem dX3_inverse_4 : decode cX3_inverse 4 = .ok (.if_icmp .ge 20, 3) := by decide +kernel
theorem dX3_inverse_7 : decode cX3_inverse 7 = .ok (.iload_n 0, 1) := by decide +kernel
theorem dX3_inverse_8 : decode cX3_inverse 8 = .ok (.iload_n 2, 1) := by decide +kernel
theorem dX3_inverse_9 : decode cX3_inverse 9 = .ok (.imul, 1) := by decide +kernel
theorem dX3_inverse_10 : decode cX3_inverse 10 = .ok (.iload_n 1, 1) := by decide +kernel
theorem dX3_inverse_11 : decode cX3_inverse 11 = .ok (.irem, 1) := by decide +kernel
theorem dX3_inverse_12 : decode cX3_inverse 12 = .ok (.iconst 1, 1) := by decide +kernel
theorem dX3_inverse_13 : decode cX3_inverse 13 = .ok (.if_icmp .ne 5, 3) := by decide +kernel
theorem dX3_inverse_16 : decode cX3_inverse 16 = .ok (.iload_n 2, 1) := by decide +kernel
theorem dX3_inverse_17 : decode cX3_inverse 17 = .ok (.ireturn, 1) := by decide +kernel
theorem dX3_inverse_18 : decode cX3_inverse 18 = .ok (.iinc 2 1, 3) := by decide +kernel
theorem dX3_inverse_21 : decode cX3_inverse 21 = .ok (.goto (-19), 3) := by decide +kernel
theorem dX3_inverse_24 : decode cX3_inverse 24 = .ok (.iconst 0, 1) := by decide +kernel
theorem dX3_inverse_25 : decode cX3_inverse 25 = .ok (.ireturn, 1) := by decide +kernel
theorem dX3_horner_0 : decode cX3_horner 0 = .ok (.aload_n 0, 1) := by decide +kernel
theorem dX3_horner_1 : decode cX3_horner 1 = .ok (.ifnull 8, 3) := by decide +kernel
theorem dX3_horner_4 : decode cX3_horner 4 = .ok (.iload_n 2, 1) := by decide +kernel
theorem dX3_horner_5 : decode cX3_horner 5 = .ok (.iconst 1, 1) := by decide +kernel
theorem dX3_horner_6 : decode cX3_horner 6 = .ok (.if_icmp .ge 5, 3) := by decide +kernel
theorem dX3_horner_9 : decode cX3_horner 9 = .ok (.iconst 0, 1) := by decide +kernel
theorem dX3_horner_10 : decode cX3_horner 10 = .ok (.ireturn, 1) := by decide +kernel
theorem dX3_horner_11 : decode cX3_horner 11 = .ok (.iconst 0, 1) := by decide +kernel
theorem dX3_horner_12 : decode cX3_horner 12 = .ok (.istore_n 3, 1) := by decide +kernel
theorem dX3_horner_13 : decode cX3_horner 13 = .ok (.aload_n 0, 1) := by decide +kernel
theorem dX3_horner_14 : decode cX3_horner 14 = .ok (.arraylength, 1) := by decide +kernel
theorem dX3_horner_15 : decode cX3_horner 15 = .ok (.iconst 1, 1) := by decide +kernel
theorem dX3_horner_16 : decode cX3_horner 16 = .ok (.isub, 1) := by decide +kernel
theorem dX3_horner_17 : decode cX3_horner 17 = .ok (.istore 4, 2) := by decide +kernel
theorem dX3_horner_19 : decode cX3_horner 19 = .ok (.iload 4, 2) := by decide +kernel
theorem dX3_horner_21 : decode cX3_horner 21 = .ok (.ifCond .lt 20, 3) := by decide +kernel
theorem dX3_horner_24 : decode cX3_horner 24 = .ok (.iload_n 3, 1) := by decide +kernel
theorem dX3_horner_25 : decode cX3_horner 25 = .ok (.iload_n 1, 1) := by decide +kernel
theorem dX3_horner_26 : decode cX3_horner 26 = .ok (.imul, 1) := by decide +kernel
theorem dX3_horner_27 : decode cX3_horner 27 = .ok (.aload_n 0, 1) := by decide +kernel
theorem dX3_horner_28 : decode cX3_horner 28 = .ok (.iload 4, 2) := by decide +kernel
theorem dX3_horner_30 : decode cX3_horner 30 = .ok (.iaload, 1) := by decide +kernel
theorem dX3_horner_31 : decode cX3_horner 31 = .ok (.iadd, 1) := by decide +kernel
theorem dX3_horner_32 : decode cX3_horner 32 = .ok (.iload_n 2, 1) := by decide +kernel
theorem dX3_horner_33 : decode cX3_horner 33 = .ok (.irem, 1) := by decide +kernel
theorem dX3_horner_34 : decode cX3_horner 34 = .ok (.istore_n 3, 1) := by decide +kernel
theorem dX3_horner_35 : decode cX3_horner 35 = .ok (.iinc 4 (-1), 3) := by decide +kernel
theorem dX3_horner_38 : decode cX3_horner 38 = .ok (.goto (-19), 3) := by decide +kernel
theorem dX3_horner_41 : decode cX3_horner 41 = .ok (.iload_n 3, 1) := by decide +kernel
theorem dX3_horner_42 : decode cX3_horner 42 = .ok (.ireturn, 1) := by decide +kernel
theorem dX3_topOf_0 : decode cX3_topOf 0 = .ok (.aload_n 0, 1) := by decide +kernel
theorem dX3_topOf_1 : decode cX3_topOf 1 = .ok (.ifnonnull 5, 3) := by decide +kernel
theorem dX3_topOf_4 : decode cX3_topOf 4 = .ok (.iconst 0, 1) := by decide +kernel
theorem dX3_topOf_5 : decode cX3_topOf 5 = .ok (.ireturn, 1) := by decide +kernel
theorem dX3_topOf_6 : decode cX3_topOf 6 = .ok (.aload_n 0, 1) := by decide +kernel
theorem dX3_topOf_7 : decode cX3_topOf 7 = .ok (.arraylength, 1) := by decide +kernel
theorem dX3_topOf_8 : decode cX3_topOf 8 = .ok (.iconst 1, 1) := by decide +kernel
theorem dX3_topOf_9 : decode cX3_topOf 9 = .ok (.isub, 1) := by decide +kernel
theorem dX3_topOf_10 : decode cX3_topOf 10 = .ok (.istore_n 1, 1) := by decide +kernel
theorem dX3_topOf_11 : decode cX3_topOf 11 = .ok (.iload_n 1, 1) := by decide +kernel
theorem dX3_topOf_12 : decode cX3_topOf 12 = .ok (.ifCond .le 17, 3) := by decide +kernel
theorem dX3_topOf_15 : decode cX3_topOf 15 = .ok (.aload_n 0, 1) := by decide +kernel
theorem dX3_topOf_16 : decode cX3_topOf 16 = .ok (.iload_n 1, 1) := by decide +kernel
theorem dX3_topOf_17 : decode cX3_topOf 17 = .ok (.iaload, 1) := by decide +kernel
theorem dX3_topOf_18 : decode cX3_topOf 18 = .ok (.ifCond .eq 5, 3) := by decide +kernel
theorem dX3_topOf_21 : decode cX3_topOf 21 = .ok (.iload_n 1, 1) := by decide +kernel
theorem dX3_topOf_22 : decode cX3_topOf 22 = .ok (.ireturn, 1) := by decide +kernel
theorem dX3_topOf_23 : decode cX3_topOf 23 = .ok (.iinc 1 (-1), 3) := by decide +kernel
theorem dX3_topOf_26 : decode cX3_topOf 26 = .ok (.goto (-15), 3) := by decide +kernel
theorem dX3_topOf_29 : decode cX3_topOf 29 = .ok (.iconst 0, 1) := by decide +kernel
theorem dX3_topOf_30 : decode cX3_topOf 30 = .ok (.ireturn, 1) := by decide +kernel
theorem dX3_addProduct_0 : decode cX3_addProduct 0 = .ok (.aload_n 0, 1) := by decide +kernel
theorem dX3_addProduct_1 : decode cX3_addProduct 1 = .ok (.ifnull 23, 3) := by decide +kernel
theorem dX3_addProduct_4 : decode cX3_addProduct 4 = .ok (.aload_n 1, 1) := by decide +kernel
theorem dX3_addProduct_5 : decode cX3_addProduct 5 = .ok (.ifnull 19, 3) := by decide +kernel
theorem dX3_addProduct_8 : decode cX3_addProduct 8 = .ok (.aload_n 2, 1) := by decide +kernel
theorem dX3_addProduct_9 : decode cX3_addProduct 9 = .ok (.ifnull 15, 3) := by decide +kernel
theorem dX3_addProduct_12 : decode cX3_addProduct 12 = .ok (.aload_n 0, 1) := by decide +kernel
theorem dX3_addProduct_13 : decode cX3_addProduct 13 = .ok (.arraylength, 1) := by decide +kernel
theorem dX3_addProduct_14 : decode cX3_addProduct 14 = .ok (.aload_n 1, 1) := by decide +kernel
theorem dX3_addProduct_15 : decode cX3_addProduct 15 = .ok (.arraylength, 1) := by decide +kernel
theorem dX3_addProduct_16 : decode cX3_addProduct 16 = .ok (.aload_n 2, 1) := by decide +kernel
theorem dX3_addProduct_17 : decode cX3_addProduct 17 = .ok (.arraylength, 1) := by decide +kernel
theorem dX3_addProduct_18 : decode cX3_addProduct 18 = .ok (.iadd, 1) := by decide +kernel
theorem dX3_addProduct_19 : decode cX3_addProduct 19 = .ok (.iconst 1, 1) := by decide +kernel
theorem dX3_addProduct_20 : decode cX3_addProduct 20 = .ok (.isub, 1) := by decide +kernel
theorem dX3_addProduct_21 : decode cX3_addProduct 21 = .ok (.if_icmp .ge 4, 3) := by decide +kernel
theorem dX3_addProduct_24 : decode cX3_addProduct 24 = .ok (.return_, 1) := by decide +kernel
theorem dX3_addProduct_25 : decode cX3_addProduct 25 = .ok (.iconst 0, 1) := by decide +kernel
theorem dX3_addProduct_26 : decode cX3_addProduct 26 = .ok (.istore 4, 2) := by decide +kernel
theorem dX3_addProduct_28 : decode cX3_addProduct 28 = .ok (.iload 4, 2) := by decide +kernel
theorem dX3_addProduct_30 : decode cX3_addProduct 30 = .ok (.aload_n 1, 1) := by decide +kernel
theorem dX3_addProduct_31 : decode cX3_addProduct 31 = .ok (.arraylength, 1) := by decide +kernel
theorem dX3_addProduct_32 : decode cX3_addProduct 32 = .ok (.if_icmp .ge 55, 3) := by decide +kernel
theorem dX3_addProduct_35 : decode cX3_addProduct 35 = .ok (.iload_n 3, 1) := by decide +kernel
theorem dX3_addProduct_36 : decode cX3_addProduct 36 = .ok (.aload_n 1, 1) := by decide +kernel
theorem dX3_addProduct_37 : decode cX3_addProduct 37 = .ok (.iload 4, 2) := by decide +kernel
theorem dX3_addProduct_39 : decode cX3_addProduct 39 = .ok (.iaload, 1) := by decide +kernel
theorem dX3_addProduct_40 : decode cX3_addProduct 40 = .ok (.imul, 1) := by decide +kernel
theorem dX3_addProduct_41 : decode cX3_addProduct 41 = .ok (.istore 5, 2) := by decide +kernel
theorem dX3_addProduct_43 : decode cX3_addProduct 43 = .ok (.iload 5, 2) := by decide +kernel
theorem dX3_addProduct_45 : decode cX3_addProduct 45 = .ok (.ifCond .eq 36, 3) := by decide +kernel
theorem dX3_addProduct_48 : decode cX3_addProduct 48 = .ok (.iconst 0, 1) := by decide +kernel
theorem dX3_addProduct_49 : decode cX3_addProduct 49 = .ok (.istore 6, 2) := by decide +kernel
theorem dX3_addProduct_51 : decode cX3_addProduct 51 = .ok (.iload 6, 2) := by decide +kernel
theorem dX3_addProduct_53 : decode cX3_addProduct 53 = .ok (.aload_n 2, 1) := by decide +kernel
theorem dX3_addProduct_54 : decode cX3_addProduct 54 = .ok (.arraylength, 1) := by decide +kernel
theorem dX3_addProduct_55 : decode cX3_addProduct 55 = .ok (.if_icmp .ge 26, 3) := by decide +kernel
theorem dX3_addProduct_58 : decode cX3_addProduct 58 = .ok (.aload_n 0, 1) := by decide +kernel
theorem dX3_addProduct_59 : decode cX3_addProduct 59 = .ok (.iload 4, 2) := by decide +kernel
theorem dX3_addProduct_61 : decode cX3_addProduct 61 = .ok (.iload 6, 2) := by decide +kernel
theorem dX3_addProduct_63 : decode cX3_addProduct 63 = .ok (.iadd, 1) := by decide +kernel
theorem dX3_addProduct_64 : decode cX3_addProduct 64 = .ok (.dup2, 1) := by decide +kernel
theorem dX3_addProduct_65 : decode cX3_addProduct 65 = .ok (.iaload, 1) := by decide +kernel
theorem dX3_addProduct_66 : decode cX3_addProduct 66 = .ok (.iload 5, 2) := by decide +kernel
theorem dX3_addProduct_68 : decode cX3_addProduct 68 = .ok (.aload_n 2, 1) := by decide +kernel
theorem dX3_addProduct_69 : decode cX3_addProduct 69 = .ok (.iload 6, 2) := by decide +kernel
theorem dX3_addProduct_71 : decode cX3_addProduct 71 = .ok (.iaload, 1) := by decide +kernel
theorem dX3_addProduct_72 : decode cX3_addProduct 72 = .ok (.imul, 1) := by decide +kernel
theorem dX3_addProduct_73 : decode cX3_addProduct 73 = .ok (.iadd, 1) := by decide +kernel
theorem dX3_addProduct_74 : decode cX3_addProduct 74 = .ok (.iastore, 1) := by decide +kernel
theorem dX3_addProduct_75 : decode cX3_addProduct 75 = .ok (.iinc 6 1, 3) := by decide +kernel
theorem dX3_addProduct_78 : decode cX3_addProduct 78 = .ok (.goto (-27), 3) := by decide +kernel
theorem dX3_addProduct_81 : decode cX3_addProduct 81 = .ok (.iinc 4 1, 3) := by decide +kernel
theorem dX3_addProduct_84 : decode cX3_addProduct 84 = .ok (.goto (-56), 3) := by decide +kernel
theorem dX3_addProduct_87 : decode cX3_addProduct 87 = .ok (.return_, 1) := by decide +kernel
theorem dX3_reduceAll_0 : decode cX3_reduceAll 0 = .ok (.aload_n 0, 1) := by decide +kernel
theorem dX3_reduceAll_1 : decode cX3_reduceAll 1 = .ok (.ifnonnull 4, 3) := by decide +kernel
theorem dX3_reduceAll_4 : decode cX3_reduceAll 4 = .ok (.return_, 1) := by decide +kernel
theorem dX3_reduceAll_5 : decode cX3_reduceAll 5 = .ok (.iconst 0, 1) := by decide +kernel
theorem dX3_reduceAll_6 : decode cX3_reduceAll 6 = .ok (.istore_n 2, 1) := by decide +kernel
theorem dX3_reduceAll_7 : decode cX3_reduceAll 7 = .ok (.iload_n 2, 1) := by decide +kernel
theorem dX3_reduceAll_8 : decode cX3_reduceAll 8 = .ok (.aload_n 0, 1) := by decide +kernel
theorem dX3_reduceAll_9 : decode cX3_reduceAll 9 = .ok (.arraylength, 1) := by decide +kernel
theorem dX3_reduceAll_10 : decode cX3_reduceAll 10 = .ok (.if_icmp .ge 19, 3) := by decide +kernel
theorem dX3_reduceAll_13 : decode cX3_reduceAll 13 = .ok (.aload_n 0, 1) := by decide +kernel
theorem dX3_reduceAll_14 : decode cX3_reduceAll 14 = .ok (.iload_n 2, 1) := by decide +kernel
theorem dX3_reduceAll_15 : decode cX3_reduceAll 15 = .ok (.aload_n 0, 1) := by decide +kernel
theorem dX3_reduceAll_16 : decode cX3_reduceAll 16 = .ok (.iload_n 2, 1) := by decide +kernel
theorem dX3_reduceAll_17 : decode cX3_reduceAll 17 = .ok (.iaload, 1) := by decide +kernel
theorem dX3_reduceAll_18 : decode cX3_reduceAll 18 = .ok (.iload_n 1, 1) := by decide +kernel
theorem dX3_reduceAll_19 : decode cX3_reduceAll 19 = .ok (.invokestatic 7, 3) := by decide +kernel
theorem dX3_reduceAll_22 : decode cX3_reduceAll 22 = .ok (.iastore, 1) := by decide +kernel
theorem dX3_reduceAll_23 : decode cX3_reduceAll 23 = .ok (.iinc 2 1, 3) := by decide +kernel
theorem dX3_reduceAll_26 : decode cX3_reduceAll 26 = .ok (.goto (-19), 3) := by decide +kernel
theorem dX3_reduceAll_29 : decode cX3_reduceAll 29 = .ok (.return_, 1) := by decide +kernel
theorem dX3_strip_0 : decode cX3_strip 0 = .ok (.aload_n 0, 1) := by decide +kernel
theorem dX3_strip_1 : decode cX3_strip 1 = .ok (.ifnonnull 5, 3) := by decide +kernel
theorem dX3_strip_4 : decode cX3_strip 4 = .ok (.iconst 0, 1) := by decide +kernel
theorem dX3_strip_5 : decode cX3_strip 5 = .ok (.ireturn, 1) := by decide +kernel
theorem dX3_strip_6 : decode cX3_strip 6 = .ok (.iconst 0, 1) := by decide +kernel
theorem dX3_strip_7 : decode cX3_strip 7 = .ok (.istore_n 3, 1) := by decide +kernel
theorem dX3_strip_8 : decode cX3_strip 8 = .ok (.iload_n 3, 1) := by decide +kernel
theorem dX3_strip_9 : decode cX3_strip 9 = .ok (.aload_n 0, 1) := by decide +kernel
theorem dX3_strip_10 : decode cX3_strip 10 = .ok (.arraylength, 1) := by decide +kernel
theorem dX3_strip_11 : decode cX3_strip 11 = .ok (.if_icmp .ge 24, 3) := by decide +kernel
theorem dX3_strip_14 : decode cX3_strip 14 = .ok (.aload_n 0, 1) := by decide +kernel
theorem dX3_strip_15 : decode cX3_strip 15 = .ok (.iload_n 1, 1) := by decide +kernel
theorem dX3_strip_16 : decode cX3_strip 16 = .ok (.iload_n 2, 1) := by decide +kernel
theorem dX3_strip_17 : decode cX3_strip 17 = .ok (.invokestatic 13, 3) := by decide +kernel
theorem dX3_strip_20 : decode cX3_strip 20 = .ok (.ifCond .ne 15, 3) := by decide +kernel
theorem dX3_strip_23 : decode cX3_strip 23 = .ok (.aload_n 0, 1) := by decide +kernel
theorem dX3_strip_24 : decode cX3_strip 24 = .ok (.iload_n 1, 1) := by decide +kernel
theorem dX3_strip_25 : decode cX3_strip 25 = .ok (.iload_n 2, 1) := by decide +kernel
theorem dX3_strip_26 : decode cX3_strip 26 = .ok (.invokestatic 17, 3) := by decide +kernel
theorem dX3_strip_29 : decode cX3_strip 29 = .ok (.iinc 3 1, 3) := by decide +kernel
theorem dX3_strip_32 : decode cX3_strip 32 = .ok (.goto (-24), 3) := by decide +kernel
theorem dX3_strip_35 : decode cX3_strip 35 = .ok (.iload_n 3, 1) := by decide +kernel
theorem dX3_strip_36 : decode cX3_strip 36 = .ok (.ireturn, 1) := by decide +kernel
theorem dX3_divideByRoot_0 : decode cX3_divideByRoot 0 = .ok (.iconst 0, 1) := by decide +kernel
theorem dX3_divideByRoot_1 : decode cX3_divideByRoot 1 = .ok (.istore_n 3, 1) := by decide +kernel
theorem dX3_divideByRoot_2 : decode cX3_divideByRoot 2 = .ok (.aload_n 0, 1) := by decide +kernel
theorem dX3_divideByRoot_3 : decode cX3_divideByRoot 3 = .ok (.arraylength, 1) := by decide +kernel
theorem dX3_divideByRoot_4 : decode cX3_divideByRoot 4 = .ok (.iconst 1, 1) := by decide +kernel
theorem dX3_divideByRoot_5 : decode cX3_divideByRoot 5 = .ok (.isub, 1) := by decide +kernel
theorem dX3_divideByRoot_6 : decode cX3_divideByRoot 6 = .ok (.istore 4, 2) := by decide +kernel
theorem dX3_divideByRoot_8 : decode cX3_divideByRoot 8 = .ok (.iload 4, 2) := by decide +kernel
theorem dX3_divideByRoot_10 : decode cX3_divideByRoot 10 = .ok (.ifCond .lt 31, 3) := by decide +kernel
theorem dX3_divideByRoot_13 : decode cX3_divideByRoot 13 = .ok (.aload_n 0, 1) := by decide +kernel
theorem dX3_divideByRoot_14 : decode cX3_divideByRoot 14 = .ok (.iload 4, 2) := by decide +kernel
theorem dX3_divideByRoot_16 : decode cX3_divideByRoot 16 = .ok (.iaload, 1) := by decide +kernel
theorem dX3_divideByRoot_17 : decode cX3_divideByRoot 17 = .ok (.iload_n 1, 1) := by decide +kernel
theorem dX3_divideByRoot_18 : decode cX3_divideByRoot 18 = .ok (.iload_n 3, 1) := by decide +kernel
theorem dX3_divideByRoot_19 : decode cX3_divideByRoot 19 = .ok (.imul, 1) := by decide +kernel
theorem dX3_divideByRoot_20 : decode cX3_divideByRoot 20 = .ok (.iadd, 1) := by decide +kernel
theorem dX3_divideByRoot_21 : decode cX3_divideByRoot 21 = .ok (.iload_n 2, 1) := by decide +kernel
theorem dX3_divideByRoot_22 : decode cX3_divideByRoot 22 = .ok (.invokestatic 7, 3) := by decide +kernel
theorem dX3_divideByRoot_25 : decode cX3_divideByRoot 25 = .ok (.istore 5, 2) := by decide +kernel
theorem dX3_divideByRoot_27 : decode cX3_divideByRoot 27 = .ok (.aload_n 0, 1) := by decide +kernel
theorem dX3_divideByRoot_28 : decode cX3_divideByRoot 28 = .ok (.iload 4, 2) := by decide +kernel
theorem dX3_divideByRoot_30 : decode cX3_divideByRoot 30 = .ok (.iload_n 3, 1) := by decide +kernel
theorem dX3_divideByRoot_31 : decode cX3_divideByRoot 31 = .ok (.iastore, 1) := by decide +kernel
theorem dX3_divideByRoot_32 : decode cX3_divideByRoot 32 = .ok (.iload 5, 2) := by decide +kernel
theorem dX3_divideByRoot_34 : decode cX3_divideByRoot 34 = .ok (.istore_n 3, 1) := by decide +kernel
theorem dX3_divideByRoot_35 : decode cX3_divideByRoot 35 = .ok (.iinc 4 (-1), 3) := by decide +kernel
theorem dX3_divideByRoot_38 : decode cX3_divideByRoot 38 = .ok (.goto (-30), 3) := by decide +kernel
theorem dX3_divideByRoot_41 : decode cX3_divideByRoot 41 = .ok (.return_, 1) := by decide +kernel
theorem dX4_init_0 : decode cX4_init 0 = .ok (.aload_n 0, 1) := by decide +kernel
theorem dX4_init_1 : decode cX4_init 1 = .ok (.invokespecial 3, 3) := by decide +kernel
theorem dX4_init_4 : decode cX4_init 4 = .ok (.aload_n 0, 1) := by decide +kernel
theorem dX4_init_5 : decode cX4_init 5 = .ok (.bipush 31, 2) := by decide +kernel
theorem dX4_init_7 : decode cX4_init 7 = .ok (.putfield 9, 3) := by decide +kernel
theorem dX4_init_10 : decode cX4_init 10 = .ok (.aload_n 0, 1) := by decide +kernel
theorem dX4_init_11 : decode cX4_init 11 = .ok (.iconst 3, 1) := by decide +kernel
theorem dX4_init_12 : decode cX4_init 12 = .ok (.bipush 27, 2) := by decide +kernel
theorem dX4_init_14 : decode cX4_init 14 = .ok (.multianewarray 15 2, 4) := by decide +kernel
theorem dX4_init_18 : decode cX4_init 18 = .ok (.putfield 17, 3) := by decide +kernel
theorem dX4_init_21 : decode cX4_init 21 = .ok (.return_, 1) := by decide +kernel
theorem dX4_termsOf_0 : decode cX4_termsOf 0 = .ok (.iload_n 1, 1) := by decide +kernel
theorem dX4_termsOf_1 : decode cX4_termsOf 1 = .ok (.iconst 1, 1) := by decide +kernel
theorem dX4_termsOf_2 : decode cX4_termsOf 2 = .ok (.if_icmp .ge 12, 3) := by decide +kernel
theorem dX4_termsOf_5 : decode cX4_termsOf 5 = .ok (.aload_n 0, 1) := by decide +kernel
theorem dX4_termsOf_6 : decode cX4_termsOf 6 = .ok (.getfield 17, 3) := by decide +kernel
theorem dX4_termsOf_9 : decode cX4_termsOf 9 = .ok (.iconst 0, 1) := by decide +kernel
theorem dX4_termsOf_10 : decode cX4_termsOf 10 = .ok (.aaload, 1) := by decide +kernel
theorem dX4_termsOf_11 : decode cX4_termsOf 11 = .ok (.goto 23, 3) := by decide +kernel
theorem dX4_termsOf_14 : decode cX4_termsOf 14 = .ok (.iload_n 1, 1) := by decide +kernel
theorem dX4_termsOf_15 : decode cX4_termsOf 15 = .ok (.iconst 2, 1) := by decide +kernel
theorem dX4_termsOf_16 : decode cX4_termsOf 16 = .ok (.if_icmp .ge 12, 3) := by decide +kernel
theorem dX4_termsOf_19 : decode cX4_termsOf 19 = .ok (.aload_n 0, 1) := by decide +kernel
theorem dX4_termsOf_20 : decode cX4_termsOf 20 = .ok (.getfield 17, 3) := by decide +kernel
theorem dX4_termsOf_23 : decode cX4_termsOf 23 = .ok (.iconst 1, 1) := by decide +kernel
theorem dX4_termsOf_24 : decode cX4_termsOf 24 = .ok (.aaload, 1) := by decide +kernel
theorem dX4_termsOf_25 : decode cX4_termsOf 25 = .ok (.goto 9, 3) := by decide +kernel
theorem dX4_termsOf_28 : decode cX4_termsOf 28 = .ok (.aload_n 0, 1) := by decide +kernel
theorem dX4_termsOf_29 : decode cX4_termsOf 29 = .ok (.getfield 17, 3) := by decide +kernel
theorem dX4_termsOf_32 : decode cX4_termsOf 32 = .ok (.iconst 2, 1) := by decide +kernel
theorem dX4_termsOf_33 : decode cX4_termsOf 33 = .ok (.aaload, 1) := by decide +kernel
theorem dX4_termsOf_34 : decode cX4_termsOf 34 = .ok (.areturn, 1) := by decide +kernel
theorem dX4_term_0 : decode cX4_term 0 = .ok (.iload_n 2, 1) := by decide +kernel
theorem dX4_term_1 : decode cX4_term 1 = .ok (.ifCond .lt 19, 3) := by decide +kernel
theorem dX4_term_4 : decode cX4_term 4 = .ok (.iload_n 2, 1) := by decide +kernel
theorem dX4_term_5 : decode cX4_term 5 = .ok (.bipush 27, 2) := by decide +kernel
theorem dX4_term_7 : decode cX4_term 7 = .ok (.if_icmp .ge 13, 3) := by decide +kernel
theorem dX4_term_10 : decode cX4_term 10 = .ok (.aload_n 0, 1) := by decide +kernel
theorem dX4_term_11 : decode cX4_term 11 = .ok (.iload_n 1, 1) := by decide +kernel
theorem dX4_term_12 : decode cX4_term 12 = .ok (.invokevirtual 20, 3) := by decide +kernel
theorem dX4_term_15 : decode cX4_term 15 = .ok (.iload_n 2, 1) := by decide +kernel
theorem dX4_term_16 : decode cX4_term 16 = .ok (.iaload, 1) := by decide +kernel
theorem dX4_term_17 : decode cX4_term 17 = .ok (.goto 4, 3) := by decide +kernel
theorem dX4_term_20 : decode cX4_term 20 = .ok (.iconst 0, 1) := by decide +kernel
theorem dX4_term_21 : decode cX4_term 21 = .ok (.ireturn, 1) := by decide +kernel
theorem dX4_setTerm_0 : decode cX4_setTerm 0 = .ok (.iload_n 2, 1) := by decide +kernel
theorem dX4_setTerm_1 : decode cX4_setTerm 1 = .ok (.ifCond .lt 17, 3) := by decide +kernel
theorem dX4_setTerm_4 : decode cX4_setTerm 4 = .ok (.iload_n 2, 1) := by decide +kernel
theorem dX4_setTerm_5 : decode cX4_setTerm 5 = .ok (.bipush 27, 2) := by decide +kernel
theorem dX4_setTerm_7 : decode cX4_setTerm 7 = .ok (.if_icmp .ge 11, 3) := by decide +kernel
theorem dX4_setTerm_10 : decode cX4_setTerm 10 = .ok (.aload_n 0, 1) := by decide +kernel
theorem dX4_setTerm_11 : decode cX4_setTerm 11 = .ok (.iload_n 1, 1) := by decide +kernel
theorem dX4_setTerm_12 : decode cX4_setTerm 12 = .ok (.invokevirtual 20, 3) := by decide +kernel
theorem dX4_setTerm_15 : decode cX4_setTerm 15 = .ok (.iload_n 2, 1) := by decide +kernel
theorem dX4_setTerm_16 : decode cX4_setTerm 16 = .ok (.iload_n 3, 1) := by decide +kernel
theorem dX4_setTerm_17 : decode cX4_setTerm 17 = .ok (.iastore, 1) := by decide +kernel
theorem dX4_setTerm_18 : decode cX4_setTerm 18 = .ok (.return_, 1) := by decide +kernel
theorem dX4_erase_0 : decode cX4_erase 0 = .ok (.iconst 0, 1) := by decide +kernel
theorem dX4_erase_1 : decode cX4_erase 1 = .ok (.istore_n 1, 1) := by decide +kernel
theorem dX4_erase_2 : decode cX4_erase 2 = .ok (.iload_n 1, 1) := by decide +kernel
theorem dX4_erase_3 : decode cX4_erase 3 = .ok (.iconst 3, 1) := by decide +kernel
theorem dX4_erase_4 : decode cX4_erase 4 = .ok (.if_icmp .ge 19, 3) := by decide +kernel
theorem dX4_erase_7 : decode cX4_erase 7 = .ok (.aload_n 0, 1) := by decide +kernel
theorem dX4_erase_8 : decode cX4_erase 8 = .ok (.getfield 17, 3) := by decide +kernel
theorem dX4_erase_11 : decode cX4_erase 11 = .ok (.iload_n 1, 1) := by decide +kernel
theorem dX4_erase_12 : decode cX4_erase 12 = .ok (.aaload, 1) := by decide +kernel
theorem dX4_erase_13 : decode cX4_erase 13 = .ok (.iconst 0, 1) := by decide +kernel
theorem dX4_erase_14 : decode cX4_erase 14 = .ok (.invokestatic 24, 3) := by decide +kernel
theorem dX4_erase_17 : decode cX4_erase 17 = .ok (.iinc 1 1, 3) := by decide +kernel
theorem dX4_erase_20 : decode cX4_erase 20 = .ok (.goto (-18), 3) := by decide +kernel
theorem dX4_erase_23 : decode cX4_erase 23 = .ok (.return_, 1) := by decide +kernel
theorem dX4_replace_0 : decode cX4_replace 0 = .ok (.aload_n 0, 1) := by decide +kernel
theorem dX4_replace_1 : decode cX4_replace 1 = .ok (.iload_n 1, 1) := by decide +kernel
theorem dX4_replace_2 : decode cX4_replace 2 = .ok (.invokevirtual 20, 3) := by decide +kernel
theorem dX4_replace_5 : decode cX4_replace 5 = .ok (.astore_n 3, 1) := by decide +kernel
theorem dX4_replace_6 : decode cX4_replace 6 = .ok (.iconst 0, 1) := by decide +kernel
theorem dX4_replace_7 : decode cX4_replace 7 = .ok (.istore 4, 2) := by decide +kernel
theorem dX4_replace_9 : decode cX4_replace 9 = .ok (.aload_n 2, 1) := by decide +kernel
theorem dX4_replace_10 : decode cX4_replace 10 = .ok (.ifnull 31, 3) := by decide +kernel
theorem dX4_replace_13 : decode cX4_replace 13 = .ok (.iload 4, 2) := by decide +kernel
theorem dX4_replace_15 : decode cX4_replace 15 = .ok (.aload_n 3, 1) := by decide +kernel
theorem dX4_replace_16 : decode cX4_replace 16 = .ok (.arraylength, 1) := by decide +kernel
theorem dX4_replace_17 : decode cX4_replace 17 = .ok (.if_icmp .ge 24, 3) := by decide +kernel
theorem dX4_replace_20 : decode cX4_replace 20 = .ok (.iload 4, 2) := by decide +kernel
theorem dX4_replace_22 : decode cX4_replace 22 = .ok (.aload_n 2, 1) := by decide +kernel
theorem dX4_replace_23 : decode cX4_replace 23 = .ok (.arraylength, 1) := by decide +kernel
theorem dX4_replace_24 : decode cX4_replace 24 = .ok (.if_icmp .ge 17, 3) := by decide +kernel
theorem dX4_replace_27 : decode cX4_replace 27 = .ok (.aload_n 3, 1) := by decide +kernel
theorem dX4_replace_28 : decode cX4_replace 28 = .ok (.iload 4, 2) := by decide +kernel
theorem dX4_replace_30 : decode cX4_replace 30 = .ok (.aload_n 2, 1) := by decide +kernel
theorem dX4_replace_31 : decode cX4_replace 31 = .ok (.iload 4, 2) := by decide +kernel
theorem dX4_replace_33 : decode cX4_replace 33 = .ok (.iaload, 1) := by decide +kernel
theorem dX4_replace_34 : decode cX4_replace 34 = .ok (.iastore, 1) := by decide +kernel
theorem dX4_replace_35 : decode cX4_replace 35 = .ok (.iinc 4 1, 3) := by decide +kernel
theorem dX4_replace_38 : decode cX4_replace 38 = .ok (.goto (-29), 3) := by decide +kernel
theorem dX4_replace_41 : decode cX4_replace 41 = .ok (.return_, 1) := by decide +kernel
theorem dX4_copyFrom_0 : decode cX4_copyFrom 0 = .ok (.aload_n 0, 1) := by decide +kernel
theorem dX4_copyFrom_1 : decode cX4_copyFrom 1 = .ok (.aload_n 1, 1) := by decide +kernel
theorem dX4_copyFrom_2 : decode cX4_copyFrom 2 = .ok (.getfield 9, 3) := by decide +kernel
theorem dX4_copyFrom_5 : decode cX4_copyFrom 5 = .ok (.putfield 9, 3) := by decide +kernel
theorem dX4_copyFrom_8 : decode cX4_copyFrom 8 = .ok (.iconst 0, 1) := by decide +kernel
theorem dX4_copyFrom_9 : decode cX4_copyFrom 9 = .ok (.istore_n 2, 1) := by decide +kernel
theorem dX4_copyFrom_10 : decode cX4_copyFrom 10 = .ok (.iload_n 2, 1) := by decide +kernel
theorem dX4_copyFrom_11 : decode cX4_copyFrom 11 = .ok (.iconst 3, 1) := by decide +kernel
theorem dX4_copyFrom_12 : decode cX4_copyFrom 12 = .ok (.if_icmp .ge 19, 3) := by decide +kernel
theorem dX4_copyFrom_15 : decode cX4_copyFrom 15 = .ok (.aload_n 0, 1) := by decide +kernel
theorem dX4_copyFrom_16 : decode cX4_copyFrom 16 = .ok (.iload_n 2, 1) := by decide +kernel
theorem dX4_copyFrom_17 : decode cX4_copyFrom 17 = .ok (.aload_n 1, 1) := by decide +kernel
theorem dX4_copyFrom_18 : decode cX4_copyFrom 18 = .ok (.iload_n 2, 1) := by decide +kernel
theorem dX4_copyFrom_19 : decode cX4_copyFrom 19 = .ok (.invokevirtual 20, 3) := by decide +kernel
theorem dX4_copyFrom_22 : decode cX4_copyFrom 22 = .ok (.invokevirtual 30, 3) := by decide +kernel
theorem dX4_copyFrom_25 : decode cX4_copyFrom 25 = .ok (.iinc 2 1, 3) := by decide +kernel
theorem dX4_copyFrom_28 : decode cX4_copyFrom 28 = .ok (.goto (-18), 3) := by decide +kernel
theorem dX4_copyFrom_31 : decode cX4_copyFrom 31 = .ok (.return_, 1) := by decide +kernel
theorem dX4_termCount_0 : decode cX4_termCount 0 = .ok (.aload_n 0, 1) := by decide +kernel
theorem dX4_termCount_1 : decode cX4_termCount 1 = .ok (.iload_n 1, 1) := by decide +kernel
theorem dX4_termCount_2 : decode cX4_termCount 2 = .ok (.invokevirtual 20, 3) := by decide +kernel
theorem dX4_termCount_5 : decode cX4_termCount 5 = .ok (.astore_n 2, 1) := by decide +kernel
theorem dX4_termCount_6 : decode cX4_termCount 6 = .ok (.iconst 0, 1) := by decide +kernel
theorem dX4_termCount_7 : decode cX4_termCount 7 = .ok (.istore_n 3, 1) := by decide +kernel
theorem dX4_termCount_8 : decode cX4_termCount 8 = .ok (.iconst 0, 1) := by decide +kernel
theorem dX4_termCount_9 : decode cX4_termCount 9 = .ok (.istore 4, 2) := by decide +kernel
theorem dX4_termCount_11 : decode cX4_termCount 11 = .ok (.iload 4, 2) := by decide +kernel
theorem dX4_termCount_13 : decode cX4_termCount 13 = .ok (.aload_n 2, 1) := by decide +kernel
theorem dX4_termCount_14 : decode cX4_termCount 14 = .ok (.arraylength, 1) := by decide +kernel
theorem dX4_termCount_15 : decode cX4_termCount 15 = .ok (.if_icmp .ge 19, 3) := by decide +kernel
theorem dX4_termCount_18 : decode cX4_termCount 18 = .ok (.aload_n 2, 1) := by decide +kernel
theorem dX4_termCount_19 : decode cX4_termCount 19 = .ok (.iload 4, 2) := by decide +kernel
theorem dX4_termCount_21 : decode cX4_termCount 21 = .ok (.iaload, 1) := by decide +kernel
theorem dX4_termCount_22 : decode cX4_termCount 22 = .ok (.ifCond .eq 6, 3) := by decide +kernel
theorem dX4_termCount_25 : decode cX4_termCount 25 = .ok (.iinc 3 1, 3) := by decide +kernel
theorem dX4_termCount_28 : decode cX4_termCount 28 = .ok (.iinc 4 1, 3) := by decide +kernel
theorem dX4_termCount_31 : decode cX4_termCount 31 = .ok (.goto (-20), 3) := by decide +kernel
theorem dX4_termCount_34 : decode cX4_termCount 34 = .ok (.iload_n 3, 1) := by decide +kernel
theorem dX4_termCount_35 : decode cX4_termCount 35 = .ok (.ireturn, 1) := by decide +kernel
theorem dX4_termCountOfAll_0 : decode cX4_termCountOfAll 0 = .ok (.aload_n 0, 1) := by decide +kernel
theorem dX4_termCountOfAll_1 : decode cX4_termCountOfAll 1 = .ok (.iconst 0, 1) := by decide +kernel
theorem dX4_termCountOfAll_2 : decode cX4_termCountOfAll 2 = .ok (.invokevirtual 34, 3) := by decide +kernel
theorem dX4_termCountOfAll_5 : decode cX4_termCountOfAll 5 = .ok (.aload_n 0, 1) := by decide +kernel
theorem dX4_termCountOfAll_6 : decode cX4_termCountOfAll 6 = .ok (.iconst 1, 1) := by decide +kernel
theorem dX4_termCountOfAll_7 : decode cX4_termCountOfAll 7 = .ok (.invokevirtual 34, 3) := by decide +kernel
theorem dX4_termCountOfAll_10 : decode cX4_termCountOfAll 10 = .ok (.iadd, 1) := by decide +kernel
theorem dX4_termCountOfAll_11 : decode cX4_termCountOfAll 11 = .ok (.aload_n 0, 1) := by decide +kernel
theorem dX4_termCountOfAll_12 : decode cX4_termCountOfAll 12 = .ok (.iconst 2, 1) := by decide +kernel
theorem dX4_termCountOfAll_13 : decode cX4_termCountOfAll 13 = .ok (.invokevirtual 34, 3) := by decide +kernel
theorem dX4_termCountOfAll_16 : decode cX4_termCountOfAll 16 = .ok (.iadd, 1) := by decide +kernel
theorem dX4_termCountOfAll_17 : decode cX4_termCountOfAll 17 = .ok (.ireturn, 1) := by decide +kernel
theorem dX4_scatter_0 : decode cX4_scatter 0 = .ok (.aload_n 0, 1) := by decide +kernel
theorem dX4_scatter_1 : decode cX4_scatter 1 = .ok (.getfield 9, 3) := by decide +kernel
theorem dX4_scatter_4 : decode cX4_scatter 4 = .ok (.iconst 1, 1) := by decide +kernel
theorem dX4_scatter_5 : decode cX4_scatter 5 = .ok (.if_icmp .ge 4, 3) := by decide +kernel
theorem dX4_scatter_8 : decode cX4_scatter 8 = .ok (.return_, 1) := by decide +kernel
theorem dX4_scatter_9 : decode cX4_scatter 9 = .ok (.iload_n 1, 1) := by decide +kernel
theorem dX4_scatter_10 : decode cX4_scatter 10 = .ok (.istore 6, 2) := by decide +kernel
theorem dX4_scatter_12 : decode cX4_scatter 12 = .ok (.iconst 0, 1) := by decide +kernel
theorem dX4_scatter_13 : decode cX4_scatter 13 = .ok (.istore 7, 2) := by decide +kernel
theorem dX4_scatter_15 : decode cX4_scatter 15 = .ok (.iload 7, 2) := by decide +kernel
theorem dX4_scatter_17 : decode cX4_scatter 17 = .ok (.iconst 3, 1) := by decide +kernel
theorem dX4_scatter_18 : decode cX4_scatter 18 = .ok (.if_icmp .ge 135, 3) := by decide +kernel
theorem dX4_scatter_21 : decode cX4_scatter 21 = .ok (.iconst 0, 1) := by decide +kernel
theorem dX4_scatter_22 : decode cX4_scatter 22 = .ok (.istore 8, 2) := by decide +kernel
theorem dX4_scatter_24 : decode cX4_scatter 24 = .ok (.iload 8, 2) := by decide +kernel
theorem dX4_scatter_26 : decode cX4_scatter 26 = .ok (.bipush 27, 2) := by decide +kernel
theorem dX4_scatter_28 : decode cX4_scatter 28 = .ok (.if_icmp .ge 119, 3) := by decide +kernel
theorem dX4_scatter_31 : decode cX4_scatter 31 = .ok (.iload 6, 2) := by decide +kernel
theorem dX4_scatter_33 : decode cX4_scatter 33 = .ok (.ldc 38, 2) := by decide +kernel
theorem dX4_scatter_35 : decode cX4_scatter 35 = .ok (.imul, 1) := by decide +kernel
theorem dX4_scatter_36 : decode cX4_scatter 36 = .ok (.sipush 12345, 3) := by decide +kernel
theorem dX4_scatter_39 : decode cX4_scatter 39 = .ok (.iadd, 1) := by decide +kernel
theorem dX4_scatter_40 : decode cX4_scatter 40 = .ok (.istore 6, 2) := by decide +kernel
theorem dX4_scatter_42 : decode cX4_scatter 42 = .ok (.iload 6, 2) := by decide +kernel
theorem dX4_scatter_44 : decode cX4_scatter 44 = .ok (.bipush 16, 2) := by decide +kernel
theorem dX4_scatter_46 : decode cX4_scatter 46 = .ok (.iushr, 1) := by decide +kernel
theorem dX4_scatter_47 : decode cX4_scatter 47 = .ok (.sipush 32767, 3) := by decide +kernel
theorem dX4_scatter_50 : decode cX4_scatter 50 = .ok (.iand, 1) := by decide +kernel
theorem dX4_scatter_51 : decode cX4_scatter 51 = .ok (.istore 9, 2) := by decide +kernel
theorem dX4_scatter_53 : decode cX4_scatter 53 = .ok (.iload 8, 2) := by decide +kernel
theorem dX4_scatter_55 : decode cX4_scatter 55 = .ok (.bipush 9, 2) := by decide +kernel
theorem dX4_scatter_57 : decode cX4_scatter 57 = .ok (.idiv, 1) := by decide +kernel
theorem dX4_scatter_58 : decode cX4_scatter 58 = .ok (.iload_n 2, 1) := by decide +kernel
theorem dX4_scatter_59 : decode cX4_scatter 59 = .ok (.if_icmp .gt 26, 3) := by decide +kernel
theorem dX4_scatter_62 : decode cX4_scatter 62 = .ok (.iload 8, 2) := by decide +kernel
theorem dX4_scatter_64 : decode cX4_scatter 64 = .ok (.iconst 3, 1) := by decide +kernel
theorem dX4_scatter_65 : decode cX4_scatter 65 = .ok (.idiv, 1) := by decide +kernel
theorem dX4_scatter_66 : decode cX4_scatter 66 = .ok (.iconst 3, 1) := by decide +kernel
theorem dX4_scatter_67 : decode cX4_scatter 67 = .ok (.irem, 1) := by decide +kernel
theorem dX4_scatter_68 : decode cX4_scatter 68 = .ok (.iload_n 3, 1) := by decide +kernel
theorem dX4_scatter_69 : decode cX4_scatter 69 = .ok (.if_icmp .gt 16, 3) := by decide +kernel
theorem dX4_scatter_72 : decode cX4_scatter 72 = .ok (.iload 8, 2) := by decide +kernel
theorem dX4_scatter_74 : decode cX4_scatter 74 = .ok (.iconst 3, 1) := by decide +kernel
theorem dX4_scatter_75 : decode cX4_scatter 75 = .ok (.irem, 1) := by decide +kernel
theorem dX4_scatter_76 : decode cX4_scatter 76 = .ok (.iload 4, 2) := by decide +kernel
theorem dX4_scatter_78 : decode cX4_scatter 78 = .ok (.if_icmp .gt 7, 3) := by decide +kernel
theorem dX4_scatter_81 : decode cX4_scatter 81 = .ok (.iconst 1, 1) := by decide +kernel
theorem dX4_scatter_82 : decode cX4_scatter 82 = .ok (.goto 4, 3) := by decide +kernel
theorem dX4_scatter_85 : decode cX4_scatter 85 = .ok (.iconst 0, 1) := by decide +kernel
theorem dX4_scatter_86 : decode cX4_scatter 86 = .ok (.istore 10, 2) := by decide +kernel
theorem dX4_scatter_88 : decode cX4_scatter 88 = .ok (.iload 10, 2) := by decide +kernel
theorem dX4_scatter_90 : decode cX4_scatter 90 = .ok (.ifCond .eq 22, 3) := by decide +kernel
theorem dX4_scatter_93 : decode cX4_scatter 93 = .ok (.iload 9, 2) := by decide +kernel
theorem dX4_scatter_95 : decode cX4_scatter 95 = .ok (.aload_n 0, 1) := by decide +kernel
theorem dX4_scatter_96 : decode cX4_scatter 96 = .ok (.getfield 9, 3) := by decide +kernel
theorem dX4_scatter_99 : decode cX4_scatter 99 = .ok (.idiv, 1) := by decide +kernel
theorem dX4_scatter_100 : decode cX4_scatter 100 = .ok (.iload 5, 2) := by decide +kernel
theorem dX4_scatter_102 : decode cX4_scatter 102 = .ok (.invokestatic 39, 3) := by decide +kernel
theorem dX4_scatter_105 : decode cX4_scatter 105 = .ok (.ifCond .ne 7, 3) := by decide +kernel
theorem dX4_scatter_108 : decode cX4_scatter 108 = .ok (.iconst 1, 1) := by decide +kernel
theorem dX4_scatter_109 : decode cX4_scatter 109 = .ok (.goto 4, 3) := by decide +kernel
theorem dX4_scatter_112 : decode cX4_scatter 112 = .ok (.iconst 0, 1) := by decide +kernel
theorem dX4_scatter_113 : decode cX4_scatter 113 = .ok (.istore 11, 2) := by decide +kernel
theorem dX4_scatter_115 : decode cX4_scatter 115 = .ok (.aload_n 0, 1) := by decide +kernel
theorem dX4_scatter_116 : decode cX4_scatter 116 = .ok (.getfield 17, 3) := by decide +kernel
theorem dX4_scatter_119 : decode cX4_scatter 119 = .ok (.iload 7, 2) := by decide +kernel
theorem dX4_scatter_121 : decode cX4_scatter 121 = .ok (.aaload, 1) := by decide +kernel
theorem dX4_scatter_122 : decode cX4_scatter 122 = .ok (.iload 8, 2) := by decide +kernel
theorem dX4_scatter_124 : decode cX4_scatter 124 = .ok (.iload 11, 2) := by decide +kernel
theorem dX4_scatter_126 : decode cX4_scatter 126 = .ok (.ifCond .eq 13, 3) := by decide +kernel
theorem dX4_scatter_129 : decode cX4_scatter 129 = .ok (.iload 9, 2) := by decide +kernel
theorem dX4_scatter_131 : decode cX4_scatter 131 = .ok (.aload_n 0, 1) := by decide +kernel
theorem dX4_scatter_132 : decode cX4_scatter 132 = .ok (.getfield 9, 3) := by decide +kernel
theorem dX4_scatter_135 : decode cX4_scatter 135 = .ok (.irem, 1) := by decide +kernel
theorem dX4_scatter_136 : decode cX4_scatter 136 = .ok (.goto 4, 3) := by decide +kernel
theorem dX4_scatter_139 : decode cX4_scatter 139 = .ok (.iconst 0, 1) := by decide +kernel
theorem dX4_scatter_140 : decode cX4_scatter 140 = .ok (.iastore, 1) := by decide +kernel
theorem dX4_scatter_141 : decode cX4_scatter 141 = .ok (.iinc 8 1, 3) := by decide +kernel
theorem dX4_scatter_144 : decode cX4_scatter 144 = .ok (.goto (-120), 3) := by decide +kernel
theorem dX4_scatter_147 : decode cX4_scatter 147 = .ok (.iinc 7 1, 3) := by decide +kernel
theorem dX4_scatter_150 : decode cX4_scatter 150 = .ok (.goto (-135), 3) := by decide +kernel
theorem dX4_scatter_153 : decode cX4_scatter 153 = .ok (.return_, 1) := by decide +kernel
theorem dX4_exchange_0 : decode cX4_exchange 0 = .ok (.aload_n 0, 1) := by decide +kernel
theorem dX4_exchange_1 : decode cX4_exchange 1 = .ok (.iload_n 1, 1) := by decide +kernel
theorem dX4_exchange_2 : decode cX4_exchange 2 = .ok (.invokevirtual 20, 3) := by decide +kernel
theorem dX4_exchange_5 : decode cX4_exchange 5 = .ok (.astore_n 3, 1) := by decide +kernel
theorem dX4_exchange_6 : decode cX4_exchange 6 = .ok (.aload_n 0, 1) := by decide +kernel
theorem dX4_exchange_7 : decode cX4_exchange 7 = .ok (.iload_n 2, 1) := by decide +kernel
theorem dX4_exchange_8 : decode cX4_exchange 8 = .ok (.invokevirtual 20, 3) := by decide +kernel
theorem dX4_exchange_11 : decode cX4_exchange 11 = .ok (.astore 4, 2) := by decide +kernel
theorem dX4_exchange_13 : decode cX4_exchange 13 = .ok (.iconst 0, 1) := by decide +kernel
theorem dX4_exchange_14 : decode cX4_exchange 14 = .ok (.istore 5, 2) := by decide +kernel
theorem dX4_exchange_16 : decode cX4_exchange 16 = .ok (.iconst 0, 1) := by decide +kernel
theorem dX4_exchange_17 : decode cX4_exchange 17 = .ok (.istore 6, 2) := by decide +kernel
theorem dX4_exchange_19 : decode cX4_exchange 19 = .ok (.iload 6, 2) := by decide +kernel
theorem dX4_exchange_21 : decode cX4_exchange 21 = .ok (.aload_n 3, 1) := by decide +kernel
theorem dX4_exchange_22 : decode cX4_exchange 22 = .ok (.arraylength, 1) := by decide +kernel
theorem dX4_exchange_23 : decode cX4_exchange 23 = .ok (.if_icmp .ge 61, 3) := by decide +kernel
theorem dX4_exchange_26 : decode cX4_exchange 26 = .ok (.iload 6, 2) := by decide +kernel
theorem dX4_exchange_28 : decode cX4_exchange 28 = .ok (.aload 4, 2) := by decide +kernel
theorem dX4_exchange_30 : decode cX4_exchange 30 = .ok (.arraylength, 1) := by decide +kernel
theorem dX4_exchange_31 : decode cX4_exchange 31 = .ok (.if_icmp .ge 53, 3) := by decide +kernel
theorem dX4_exchange_34 : decode cX4_exchange 34 = .ok (.aload_n 3, 1) := by decide +kernel
theorem dX4_exchange_35 : decode cX4_exchange 35 = .ok (.iload 6, 2) := by decide +kernel
theorem dX4_exchange_37 : decode cX4_exchange 37 = .ok (.iaload, 1) := by decide +kernel
theorem dX4_exchange_38 : decode cX4_exchange 38 = .ok (.istore 7, 2) := by decide +kernel
theorem dX4_exchange_40 : decode cX4_exchange 40 = .ok (.iload 5, 2) := by decide +kernel
theorem dX4_exchange_42 : decode cX4_exchange 42 = .ok (.ifCond .ne 13, 3) := by decide +kernel
theorem dX4_exchange_45 : decode cX4_exchange 45 = .ok (.iload 7, 2) := by decide +kernel
theorem dX4_exchange_47 : decode cX4_exchange 47 = .ok (.aload 4, 2) := by decide +kernel
theorem dX4_exchange_49 : decode cX4_exchange 49 = .ok (.iload 6, 2) := by decide +kernel
theorem dX4_exchange_51 : decode cX4_exchange 51 = .ok (.iaload, 1) := by decide +kernel
theorem dX4_exchange_52 : decode cX4_exchange 52 = .ok (.if_icmp .eq 7, 3) := by decide +kernel
theorem dX4_exchange_55 : decode cX4_exchange 55 = .ok (.iconst 1, 1) := by decide +kernel
theorem dX4_exchange_56 : decode cX4_exchange 56 = .ok (.goto 4, 3) := by decide +kernel
theorem dX4_exchange_59 : decode cX4_exchange 59 = .ok (.iconst 0, 1) := by decide +kernel
theorem dX4_exchange_60 : decode cX4_exchange 60 = .ok (.istore 5, 2) := by decide +kernel
