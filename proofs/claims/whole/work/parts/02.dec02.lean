theorem dX9_init_77 : decode cX9_init 77 = .ok (.putfield 51, 3) := by decide +kernel
theorem dX9_init_80 : decode cX9_init 80 = .ok (.aload_n 0, 1) := by decide +kernel
theorem dX9_init_81 : decode cX9_init 81 = .ok (.new 55, 3) := by decide +kernel
theorem dX9_init_84 : decode cX9_init 84 = .ok (.dup, 1) := by decide +kernel
theorem dX9_init_85 : decode cX9_init 85 = .ok (.aload_n 1, 1) := by decide +kernel
theorem dX9_init_86 : decode cX9_init 86 = .ok (.aload_n 2, 1) := by decide +kernel
theorem dX9_init_87 : decode cX9_init 87 = .ok (.aload_n 3, 1) := by decide +kernel
theorem dX9_init_88 : decode cX9_init 88 = .ok (.invokespecial 57, 3) := by decide +kernel
theorem dX9_init_91 : decode cX9_init 91 = .ok (.putfield 60, 3) := by decide +kernel
theorem dX9_init_94 : decode cX9_init 94 = .ok (.return_, 1) := by decide +kernel
theorem dX9_setPrime_0 : decode cX9_setPrime 0 = .ok (.iload_n 1, 1) := by decide +kernel
theorem dX9_setPrime_1 : decode cX9_setPrime 1 = .ok (.invokestatic 64, 3) := by decide +kernel
theorem dX9_setPrime_4 : decode cX9_setPrime 4 = .ok (.ifCond .ne 5, 3) := by decide +kernel
theorem dX9_setPrime_7 : decode cX9_setPrime 7 = .ok (.iconst (-1), 1) := by decide +kernel
theorem dX9_setPrime_8 : decode cX9_setPrime 8 = .ok (.ireturn, 1) := by decide +kernel
theorem dX9_setPrime_9 : decode cX9_setPrime 9 = .ok (.aload_n 0, 1) := by decide +kernel
theorem dX9_setPrime_10 : decode cX9_setPrime 10 = .ok (.getfield 20, 3) := by decide +kernel
theorem dX9_setPrime_13 : decode cX9_setPrime 13 = .ok (.getfield 68, 3) := by decide +kernel
theorem dX9_setPrime_16 : decode cX9_setPrime 16 = .ok (.istore_n 2, 1) := by decide +kernel
theorem dX9_setPrime_17 : decode cX9_setPrime 17 = .ok (.aload_n 0, 1) := by decide +kernel
theorem dX9_setPrime_18 : decode cX9_setPrime 18 = .ok (.invokevirtual 72, 3) := by decide +kernel
theorem dX9_setPrime_21 : decode cX9_setPrime 21 = .ok (.aload_n 0, 1) := by decide +kernel
theorem dX9_setPrime_22 : decode cX9_setPrime 22 = .ok (.getfield 20, 3) := by decide +kernel
theorem dX9_setPrime_25 : decode cX9_setPrime 25 = .ok (.iload_n 1, 1) := by decide +kernel
theorem dX9_setPrime_26 : decode cX9_setPrime 26 = .ok (.putfield 68, 3) := by decide +kernel
theorem dX9_setPrime_29 : decode cX9_setPrime 29 = .ok (.aload_n 0, 1) := by decide +kernel
theorem dX9_setPrime_30 : decode cX9_setPrime 30 = .ok (.getfield 20, 3) := by decide +kernel
theorem dX9_setPrime_33 : decode cX9_setPrime 33 = .ok (.invokevirtual 75, 3) := by decide +kernel
theorem dX9_setPrime_36 : decode cX9_setPrime 36 = .ok (.iload_n 2, 1) := by decide +kernel
theorem dX9_setPrime_37 : decode cX9_setPrime 37 = .ok (.ireturn, 1) := by decide +kernel
theorem dX9_type_0 : decode cX9_type 0 = .ok (.iload_n 1, 1) := by decide +kernel
theorem dX9_type_1 : decode cX9_type 1 = .ok (.bipush 32, 2) := by decide +kernel
theorem dX9_type_3 : decode cX9_type 3 = .ok (.if_icmp .lt 9, 3) := by decide +kernel
theorem dX9_type_6 : decode cX9_type 6 = .ok (.iload_n 1, 1) := by decide +kernel
theorem dX9_type_7 : decode cX9_type 7 = .ok (.bipush 126, 2) := by decide +kernel
theorem dX9_type_9 : decode cX9_type 9 = .ok (.if_icmp .le 5, 3) := by decide +kernel
theorem dX9_type_12 : decode cX9_type 12 = .ok (.iconst (-1), 1) := by decide +kernel
theorem dX9_type_13 : decode cX9_type 13 = .ok (.ireturn, 1) := by decide +kernel
theorem dX9_type_14 : decode cX9_type 14 = .ok (.aload_n 0, 1) := by decide +kernel
theorem dX9_type_15 : decode cX9_type 15 = .ok (.getfield 36, 3) := by decide +kernel
theorem dX9_type_18 : decode cX9_type 18 = .ok (.iload_n 1, 1) := by decide +kernel
theorem dX9_type_19 : decode cX9_type 19 = .ok (.invokevirtual 78, 3) := by decide +kernel
theorem dX9_type_22 : decode cX9_type 22 = .ok (.ifCond .eq 13, 3) := by decide +kernel
theorem dX9_type_25 : decode cX9_type 25 = .ok (.aload_n 0, 1) := by decide +kernel
theorem dX9_type_26 : decode cX9_type 26 = .ok (.getfield 36, 3) := by decide +kernel
theorem dX9_type_29 : decode cX9_type 29 = .ok (.getfield 81, 3) := by decide +kernel
theorem dX9_type_32 : decode cX9_type 32 = .ok (.goto 5, 3) := by decide +kernel
theorem dX9_type_35 : decode cX9_type 35 = .ok (.bipush (-3), 2) := by decide +kernel
theorem dX9_type_37 : decode cX9_type 37 = .ok (.ireturn, 1) := by decide +kernel
theorem dX9_clearText_0 : decode cX9_clearText 0 = .ok (.aload_n 0, 1) := by decide +kernel
theorem dX9_clearText_1 : decode cX9_clearText 1 = .ok (.getfield 36, 3) := by decide +kernel
theorem dX9_clearText_4 : decode cX9_clearText 4 = .ok (.getfield 81, 3) := by decide +kernel
theorem dX9_clearText_7 : decode cX9_clearText 7 = .ok (.istore_n 1, 1) := by decide +kernel
theorem dX9_clearText_8 : decode cX9_clearText 8 = .ok (.aload_n 0, 1) := by decide +kernel
theorem dX9_clearText_9 : decode cX9_clearText 9 = .ok (.getfield 36, 3) := by decide +kernel
theorem dX9_clearText_12 : decode cX9_clearText 12 = .ok (.iconst 0, 1) := by decide +kernel
theorem dX9_clearText_13 : decode cX9_clearText 13 = .ok (.putfield 81, 3) := by decide +kernel
theorem dX9_clearText_16 : decode cX9_clearText 16 = .ok (.iload_n 1, 1) := by decide +kernel
theorem dX9_clearText_17 : decode cX9_clearText 17 = .ok (.ireturn, 1) := by decide +kernel
theorem dX9_read_0 : decode cX9_read 0 = .ok (.iload_n 1, 1) := by decide +kernel
theorem dX9_read_1 : decode cX9_read 1 = .ok (.iconst 2, 1) := by decide +kernel
theorem dX9_read_2 : decode cX9_read 2 = .ok (.invokestatic 84, 3) := by decide +kernel
theorem dX9_read_5 : decode cX9_read 5 = .ok (.ifCond .eq 5, 3) := by decide +kernel
theorem dX9_read_8 : decode cX9_read 8 = .ok (.iconst (-1), 1) := by decide +kernel
theorem dX9_read_9 : decode cX9_read 9 = .ok (.ireturn, 1) := by decide +kernel
theorem dX9_read_10 : decode cX9_read 10 = .ok (.aload_n 0, 1) := by decide +kernel
theorem dX9_read_11 : decode cX9_read 11 = .ok (.getfield 36, 3) := by decide +kernel
theorem dX9_read_14 : decode cX9_read 14 = .ok (.aload_n 0, 1) := by decide +kernel
theorem dX9_read_15 : decode cX9_read 15 = .ok (.getfield 20, 3) := by decide +kernel
theorem dX9_read_18 : decode cX9_read 18 = .ok (.getfield 68, 3) := by decide +kernel
theorem dX9_read_21 : decode cX9_read 21 = .ok (.invokevirtual 88, 3) := by decide +kernel
theorem dX9_read_24 : decode cX9_read 24 = .ok (.istore_n 2, 1) := by decide +kernel
theorem dX9_read_25 : decode cX9_read 25 = .ok (.iload_n 2, 1) := by decide +kernel
theorem dX9_read_26 : decode cX9_read 26 = .ok (.ifCond .lt 8, 3) := by decide +kernel
theorem dX9_read_29 : decode cX9_read 29 = .ok (.bipush (-10), 2) := by decide +kernel
theorem dX9_read_31 : decode cX9_read 31 = .ok (.iload_n 2, 1) := by decide +kernel
theorem dX9_read_32 : decode cX9_read 32 = .ok (.isub, 1) := by decide +kernel
theorem dX9_read_33 : decode cX9_read 33 = .ok (.ireturn, 1) := by decide +kernel
theorem dX9_read_34 : decode cX9_read 34 = .ok (.aload_n 0, 1) := by decide +kernel
theorem dX9_read_35 : decode cX9_read 35 = .ok (.invokevirtual 72, 3) := by decide +kernel
theorem dX9_read_38 : decode cX9_read 38 = .ok (.aload_n 0, 1) := by decide +kernel
theorem dX9_read_39 : decode cX9_read 39 = .ok (.getfield 20, 3) := by decide +kernel
theorem dX9_read_42 : decode cX9_read 42 = .ok (.iload_n 1, 1) := by decide +kernel
theorem dX9_read_43 : decode cX9_read 43 = .ok (.aload_n 0, 1) := by decide +kernel
theorem dX9_read_44 : decode cX9_read 44 = .ok (.getfield 36, 3) := by decide +kernel
theorem dX9_read_47 : decode cX9_read 47 = .ok (.getfield 92, 3) := by decide +kernel
theorem dX9_read_50 : decode cX9_read 50 = .ok (.invokevirtual 96, 3) := by decide +kernel
theorem dX9_read_53 : decode cX9_read 53 = .ok (.aload_n 0, 1) := by decide +kernel
theorem dX9_read_54 : decode cX9_read 54 = .ok (.getfield 20, 3) := by decide +kernel
theorem dX9_read_57 : decode cX9_read 57 = .ok (.iload_n 1, 1) := by decide +kernel
theorem dX9_read_58 : decode cX9_read 58 = .ok (.invokevirtual 100, 3) := by decide +kernel
theorem dX9_read_61 : decode cX9_read 61 = .ok (.ireturn, 1) := by decide +kernel
theorem dX9_setCoefficient_0 : decode cX9_setCoefficient 0 = .ok (.iload_n 1, 1) := by decide +kernel
theorem dX9_setCoefficient_1 : decode cX9_setCoefficient 1 = .ok (.iload_n 2, 1) := by decide +kernel
theorem dX9_setCoefficient_2 : decode cX9_setCoefficient 2 = .ok (.iload_n 3, 1) := by decide +kernel
theorem dX9_setCoefficient_3 : decode cX9_setCoefficient 3 = .ok (.iload 4, 2) := by decide +kernel
theorem dX9_setCoefficient_5 : decode cX9_setCoefficient 5 = .ok (.invokestatic 103, 3) := by decide +kernel
theorem dX9_setCoefficient_8 : decode cX9_setCoefficient 8 = .ok (.ifCond .ne 20, 3) := by decide +kernel
theorem dX9_setCoefficient_11 : decode cX9_setCoefficient 11 = .ok (.iload 5, 2) := by decide +kernel
theorem dX9_setCoefficient_13 : decode cX9_setCoefficient 13 = .ok (.aload_n 0, 1) := by decide +kernel
theorem dX9_setCoefficient_14 : decode cX9_setCoefficient 14 = .ok (.getfield 20, 3) := by decide +kernel
theorem dX9_setCoefficient_17 : decode cX9_setCoefficient 17 = .ok (.getfield 68, 3) := by decide +kernel
theorem dX9_setCoefficient_20 : decode cX9_setCoefficient 20 = .ok (.iconst 1, 1) := by decide +kernel
theorem dX9_setCoefficient_21 : decode cX9_setCoefficient 21 = .ok (.isub, 1) := by decide +kernel
theorem dX9_setCoefficient_22 : decode cX9_setCoefficient 22 = .ok (.invokestatic 84, 3) := by decide +kernel
theorem dX9_setCoefficient_25 : decode cX9_setCoefficient 25 = .ok (.ifCond .eq 5, 3) := by decide +kernel
theorem dX9_setCoefficient_28 : decode cX9_setCoefficient 28 = .ok (.iconst (-1), 1) := by decide +kernel
theorem dX9_setCoefficient_29 : decode cX9_setCoefficient 29 = .ok (.ireturn, 1) := by decide +kernel
theorem dX9_setCoefficient_30 : decode cX9_setCoefficient 30 = .ok (.aload_n 0, 1) := by decide +kernel
theorem dX9_setCoefficient_31 : decode cX9_setCoefficient 31 = .ok (.getfield 20, 3) := by decide +kernel
theorem dX9_setCoefficient_34 : decode cX9_setCoefficient 34 = .ok (.iload_n 1, 1) := by decide +kernel
theorem dX9_setCoefficient_35 : decode cX9_setCoefficient 35 = .ok (.iload_n 2, 1) := by decide +kernel
theorem dX9_setCoefficient_36 : decode cX9_setCoefficient 36 = .ok (.iload_n 3, 1) := by decide +kernel
theorem dX9_setCoefficient_37 : decode cX9_setCoefficient 37 = .ok (.iload 4, 2) := by decide +kernel
theorem dX9_setCoefficient_39 : decode cX9_setCoefficient 39 = .ok (.invokestatic 107, 3) := by decide +kernel
theorem dX9_setCoefficient_42 : decode cX9_setCoefficient 42 = .ok (.invokevirtual 111, 3) := by decide +kernel
theorem dX9_setCoefficient_45 : decode cX9_setCoefficient 45 = .ok (.istore 6, 2) := by decide +kernel
theorem dX9_setCoefficient_47 : decode cX9_setCoefficient 47 = .ok (.aload_n 0, 1) := by decide +kernel
theorem dX9_setCoefficient_48 : decode cX9_setCoefficient 48 = .ok (.invokevirtual 72, 3) := by decide +kernel
theorem dX9_setCoefficient_51 : decode cX9_setCoefficient 51 = .ok (.aload_n 0, 1) := by decide +kernel
theorem dX9_setCoefficient_52 : decode cX9_setCoefficient 52 = .ok (.getfield 20, 3) := by decide +kernel
theorem dX9_setCoefficient_55 : decode cX9_setCoefficient 55 = .ok (.iload_n 1, 1) := by decide +kernel
theorem dX9_setCoefficient_56 : decode cX9_setCoefficient 56 = .ok (.iload_n 2, 1) := by decide +kernel
theorem dX9_setCoefficient_57 : decode cX9_setCoefficient 57 = .ok (.iload_n 3, 1) := by decide +kernel
theorem dX9_setCoefficient_58 : decode cX9_setCoefficient 58 = .ok (.iload 4, 2) := by decide +kernel
theorem dX9_setCoefficient_60 : decode cX9_setCoefficient 60 = .ok (.invokestatic 107, 3) := by decide +kernel
theorem dX9_setCoefficient_63 : decode cX9_setCoefficient 63 = .ok (.iload 5, 2) := by decide +kernel
theorem dX9_setCoefficient_65 : decode cX9_setCoefficient 65 = .ok (.invokevirtual 115, 3) := by decide +kernel
theorem dX9_setCoefficient_68 : decode cX9_setCoefficient 68 = .ok (.iload 6, 2) := by decide +kernel
theorem dX9_setCoefficient_70 : decode cX9_setCoefficient 70 = .ok (.ireturn, 1) := by decide +kernel
theorem dX9_coefficient_0 : decode cX9_coefficient 0 = .ok (.iload_n 1, 1) := by decide +kernel
theorem dX9_coefficient_1 : decode cX9_coefficient 1 = .ok (.iload_n 2, 1) := by decide +kernel
theorem dX9_coefficient_2 : decode cX9_coefficient 2 = .ok (.iload_n 3, 1) := by decide +kernel
theorem dX9_coefficient_3 : decode cX9_coefficient 3 = .ok (.iload 4, 2) := by decide +kernel
theorem dX9_coefficient_5 : decode cX9_coefficient 5 = .ok (.invokestatic 103, 3) := by decide +kernel
theorem dX9_coefficient_8 : decode cX9_coefficient 8 = .ok (.ifCond .eq 5, 3) := by decide +kernel
theorem dX9_coefficient_11 : decode cX9_coefficient 11 = .ok (.iconst (-1), 1) := by decide +kernel
theorem dX9_coefficient_12 : decode cX9_coefficient 12 = .ok (.ireturn, 1) := by decide +kernel
theorem dX9_coefficient_13 : decode cX9_coefficient 13 = .ok (.aload_n 0, 1) := by decide +kernel
theorem dX9_coefficient_14 : decode cX9_coefficient 14 = .ok (.getfield 20, 3) := by decide +kernel
theorem dX9_coefficient_17 : decode cX9_coefficient 17 = .ok (.iload_n 1, 1) := by decide +kernel
theorem dX9_coefficient_18 : decode cX9_coefficient 18 = .ok (.iload_n 2, 1) := by decide +kernel
theorem dX9_coefficient_19 : decode cX9_coefficient 19 = .ok (.iload_n 3, 1) := by decide +kernel
theorem dX9_coefficient_20 : decode cX9_coefficient 20 = .ok (.iload 4, 2) := by decide +kernel
theorem dX9_coefficient_22 : decode cX9_coefficient 22 = .ok (.invokestatic 107, 3) := by decide +kernel
theorem dX9_coefficient_25 : decode cX9_coefficient 25 = .ok (.invokevirtual 111, 3) := by decide +kernel
theorem dX9_coefficient_28 : decode cX9_coefficient 28 = .ok (.ireturn, 1) := by decide +kernel
theorem dX9_draw_0 : decode cX9_draw 0 = .ok (.iload_n 2, 1) := by decide +kernel
theorem dX9_draw_1 : decode cX9_draw 1 = .ok (.iconst 2, 1) := by decide +kernel
theorem dX9_draw_2 : decode cX9_draw 2 = .ok (.invokestatic 84, 3) := by decide +kernel
theorem dX9_draw_5 : decode cX9_draw 5 = .ok (.ifCond .ne 33, 3) := by decide +kernel
theorem dX9_draw_8 : decode cX9_draw 8 = .ok (.iload_n 3, 1) := by decide +kernel
theorem dX9_draw_9 : decode cX9_draw 9 = .ok (.iconst 2, 1) := by decide +kernel
theorem dX9_draw_10 : decode cX9_draw 10 = .ok (.invokestatic 84, 3) := by decide +kernel
theorem dX9_draw_13 : decode cX9_draw 13 = .ok (.ifCond .ne 25, 3) := by decide +kernel
theorem dX9_draw_16 : decode cX9_draw 16 = .ok (.iload 4, 2) := by decide +kernel
theorem dX9_draw_18 : decode cX9_draw 18 = .ok (.iconst 2, 1) := by decide +kernel
theorem dX9_draw_19 : decode cX9_draw 19 = .ok (.invokestatic 84, 3) := by decide +kernel
theorem dX9_draw_22 : decode cX9_draw 22 = .ok (.ifCond .ne 16, 3) := by decide +kernel
theorem dX9_draw_25 : decode cX9_draw 25 = .ok (.iload 5, 2) := by decide +kernel
theorem dX9_draw_27 : decode cX9_draw 27 = .ok (.iconst 1, 1) := by decide +kernel
theorem dX9_draw_28 : decode cX9_draw 28 = .ok (.if_icmp .lt 10, 3) := by decide +kernel
theorem dX9_draw_31 : decode cX9_draw 31 = .ok (.iload 5, 2) := by decide +kernel
theorem dX9_draw_33 : decode cX9_draw 33 = .ok (.bipush 9, 2) := by decide +kernel
theorem dX9_draw_35 : decode cX9_draw 35 = .ok (.if_icmp .le 5, 3) := by decide +kernel
theorem dX9_draw_38 : decode cX9_draw 38 = .ok (.iconst (-1), 1) := by decide +kernel
theorem dX9_draw_39 : decode cX9_draw 39 = .ok (.ireturn, 1) := by decide +kernel
theorem dX9_draw_40 : decode cX9_draw 40 = .ok (.aload_n 0, 1) := by decide +kernel
theorem dX9_draw_41 : decode cX9_draw 41 = .ok (.invokevirtual 72, 3) := by decide +kernel
theorem dX9_draw_44 : decode cX9_draw 44 = .ok (.aload_n 0, 1) := by decide +kernel
theorem dX9_draw_45 : decode cX9_draw 45 = .ok (.getfield 20, 3) := by decide +kernel
theorem dX9_draw_48 : decode cX9_draw 48 = .ok (.iload_n 1, 1) := by decide +kernel
theorem dX9_draw_49 : decode cX9_draw 49 = .ok (.iload_n 2, 1) := by decide +kernel
theorem dX9_draw_50 : decode cX9_draw 50 = .ok (.iload_n 3, 1) := by decide +kernel
theorem dX9_draw_51 : decode cX9_draw 51 = .ok (.iload 4, 2) := by decide +kernel
theorem dX9_draw_53 : decode cX9_draw 53 = .ok (.iload 5, 2) := by decide +kernel
theorem dX9_draw_55 : decode cX9_draw 55 = .ok (.invokevirtual 119, 3) := by decide +kernel
theorem dX9_draw_58 : decode cX9_draw 58 = .ok (.aload_n 0, 1) := by decide +kernel
theorem dX9_draw_59 : decode cX9_draw 59 = .ok (.getfield 20, 3) := by decide +kernel
theorem dX9_draw_62 : decode cX9_draw 62 = .ok (.invokevirtual 123, 3) := by decide +kernel
theorem dX9_draw_65 : decode cX9_draw 65 = .ok (.ireturn, 1) := by decide +kernel
theorem dX9_plant_0 : decode cX9_plant 0 = .ok (.iload_n 1, 1) := by decide +kernel
theorem dX9_plant_1 : decode cX9_plant 1 = .ok (.aload_n 0, 1) := by decide +kernel
theorem dX9_plant_2 : decode cX9_plant 2 = .ok (.getfield 20, 3) := by decide +kernel
theorem dX9_plant_5 : decode cX9_plant 5 = .ok (.getfield 68, 3) := by decide +kernel
theorem dX9_plant_8 : decode cX9_plant 8 = .ok (.iconst 1, 1) := by decide +kernel
theorem dX9_plant_9 : decode cX9_plant 9 = .ok (.isub, 1) := by decide +kernel
theorem dX9_plant_10 : decode cX9_plant 10 = .ok (.invokestatic 84, 3) := by decide +kernel
theorem dX9_plant_13 : decode cX9_plant 13 = .ok (.ifCond .ne 35, 3) := by decide +kernel
theorem dX9_plant_16 : decode cX9_plant 16 = .ok (.iload_n 2, 1) := by decide +kernel
theorem dX9_plant_17 : decode cX9_plant 17 = .ok (.aload_n 0, 1) := by decide +kernel
theorem dX9_plant_18 : decode cX9_plant 18 = .ok (.getfield 20, 3) := by decide +kernel
theorem dX9_plant_21 : decode cX9_plant 21 = .ok (.getfield 68, 3) := by decide +kernel
theorem dX9_plant_24 : decode cX9_plant 24 = .ok (.iconst 1, 1) := by decide +kernel
theorem dX9_plant_25 : decode cX9_plant 25 = .ok (.isub, 1) := by decide +kernel
theorem dX9_plant_26 : decode cX9_plant 26 = .ok (.invokestatic 84, 3) := by decide +kernel
theorem dX9_plant_29 : decode cX9_plant 29 = .ok (.ifCond .ne 19, 3) := by decide +kernel
theorem dX9_plant_32 : decode cX9_plant 32 = .ok (.iload_n 3, 1) := by decide +kernel
theorem dX9_plant_33 : decode cX9_plant 33 = .ok (.aload_n 0, 1) := by decide +kernel
theorem dX9_plant_34 : decode cX9_plant 34 = .ok (.getfield 20, 3) := by decide +kernel
theorem dX9_plant_37 : decode cX9_plant 37 = .ok (.getfield 68, 3) := by decide +kernel
theorem dX9_plant_40 : decode cX9_plant 40 = .ok (.iconst 1, 1) := by decide +kernel
theorem dX9_plant_41 : decode cX9_plant 41 = .ok (.isub, 1) := by decide +kernel
theorem dX9_plant_42 : decode cX9_plant 42 = .ok (.invokestatic 84, 3) := by decide +kernel
theorem dX9_plant_45 : decode cX9_plant 45 = .ok (.ifCond .eq 5, 3) := by decide +kernel
theorem dX9_plant_48 : decode cX9_plant 48 = .ok (.iconst (-1), 1) := by decide +kernel
theorem dX9_plant_49 : decode cX9_plant 49 = .ok (.ireturn, 1) := by decide +kernel
theorem dX9_plant_50 : decode cX9_plant 50 = .ok (.aload_n 0, 1) := by decide +kernel
theorem dX9_plant_51 : decode cX9_plant 51 = .ok (.invokevirtual 72, 3) := by decide +kernel
theorem dX9_plant_54 : decode cX9_plant 54 = .ok (.iconst 0, 1) := by decide +kernel
theorem dX9_plant_55 : decode cX9_plant 55 = .ok (.istore 4, 2) := by decide +kernel
theorem dX9_plant_57 : decode cX9_plant 57 = .ok (.iconst 0, 1) := by decide +kernel
theorem dX9_plant_58 : decode cX9_plant 58 = .ok (.istore 5, 2) := by decide +kernel
theorem dX9_plant_60 : decode cX9_plant 60 = .ok (.iload 5, 2) := by decide +kernel
theorem dX9_plant_62 : decode cX9_plant 62 = .ok (.iconst 3, 1) := by decide +kernel
theorem dX9_plant_63 : decode cX9_plant 63 = .ok (.if_icmp .ge 64, 3) := by decide +kernel
theorem dX9_plant_66 : decode cX9_plant 66 = .ok (.aload_n 0, 1) := by decide +kernel
theorem dX9_plant_67 : decode cX9_plant 67 = .ok (.getfield 20, 3) := by decide +kernel
theorem dX9_plant_70 : decode cX9_plant 70 = .ok (.iload 5, 2) := by decide +kernel
theorem dX9_plant_72 : decode cX9_plant 72 = .ok (.iload_n 1, 1) := by decide +kernel
theorem dX9_plant_73 : decode cX9_plant 73 = .ok (.iload_n 2, 1) := by decide +kernel
theorem dX9_plant_74 : decode cX9_plant 74 = .ok (.iload_n 3, 1) := by decide +kernel
theorem dX9_plant_75 : decode cX9_plant 75 = .ok (.invokevirtual 127, 3) := by decide +kernel
theorem dX9_plant_78 : decode cX9_plant 78 = .ok (.istore 6, 2) := by decide +kernel
theorem dX9_plant_80 : decode cX9_plant 80 = .ok (.iload 6, 2) := by decide +kernel
theorem dX9_plant_82 : decode cX9_plant 82 = .ok (.ifCond .eq 39, 3) := by decide +kernel
theorem dX9_plant_85 : decode cX9_plant 85 = .ok (.iinc 4 1, 3) := by decide +kernel
theorem dX9_plant_88 : decode cX9_plant 88 = .ok (.aload_n 0, 1) := by decide +kernel
theorem dX9_plant_89 : decode cX9_plant 89 = .ok (.getfield 20, 3) := by decide +kernel
theorem dX9_plant_92 : decode cX9_plant 92 = .ok (.iload 5, 2) := by decide +kernel
theorem dX9_plant_94 : decode cX9_plant 94 = .ok (.iconst 0, 1) := by decide +kernel
theorem dX9_plant_95 : decode cX9_plant 95 = .ok (.aload_n 0, 1) := by decide +kernel
theorem dX9_plant_96 : decode cX9_plant 96 = .ok (.getfield 20, 3) := by decide +kernel
theorem dX9_plant_99 : decode cX9_plant 99 = .ok (.iload 5, 2) := by decide +kernel
theorem dX9_plant_101 : decode cX9_plant 101 = .ok (.iconst 0, 1) := by decide +kernel
theorem dX9_plant_102 : decode cX9_plant 102 = .ok (.invokevirtual 111, 3) := by decide +kernel
theorem dX9_plant_105 : decode cX9_plant 105 = .ok (.iload 6, 2) := by decide +kernel
theorem dX9_plant_107 : decode cX9_plant 107 = .ok (.isub, 1) := by decide +kernel
theorem dX9_plant_108 : decode cX9_plant 108 = .ok (.aload_n 0, 1) := by decide +kernel
theorem dX9_plant_109 : decode cX9_plant 109 = .ok (.getfield 20, 3) := by decide +kernel
theorem dX9_plant_112 : decode cX9_plant 112 = .ok (.getfield 68, 3) := by decide +kernel
theorem dX9_plant_115 : decode cX9_plant 115 = .ok (.invokestatic 131, 3) := by decide +kernel
theorem dX9_plant_118 : decode cX9_plant 118 = .ok (.invokevirtual 115, 3) := by decide +kernel
theorem dX9_plant_121 : decode cX9_plant 121 = .ok (.iinc 5 1, 3) := by decide +kernel
theorem dX9_plant_124 : decode cX9_plant 124 = .ok (.goto (-64), 3) := by decide +kernel
theorem dX9_plant_127 : decode cX9_plant 127 = .ok (.iload 4, 2) := by decide +kernel
theorem dX9_plant_129 : decode cX9_plant 129 = .ok (.ireturn, 1) := by decide +kernel
theorem dX9_swap_0 : decode cX9_swap 0 = .ok (.iload_n 1, 1) := by decide +kernel
theorem dX9_swap_1 : decode cX9_swap 1 = .ok (.iconst 2, 1) := by decide +kernel
theorem dX9_swap_2 : decode cX9_swap 2 = .ok (.invokestatic 84, 3) := by decide +kernel
theorem dX9_swap_5 : decode cX9_swap 5 = .ok (.ifCond .ne 11, 3) := by decide +kernel
theorem dX9_swap_8 : decode cX9_swap 8 = .ok (.iload_n 2, 1) := by decide +kernel
theorem dX9_swap_9 : decode cX9_swap 9 = .ok (.iconst 2, 1) := by decide +kernel
theorem dX9_swap_10 : decode cX9_swap 10 = .ok (.invokestatic 84, 3) := by decide +kernel
theorem dX9_swap_13 : decode cX9_swap 13 = .ok (.ifCond .eq 5, 3) := by decide +kernel
theorem dX9_swap_16 : decode cX9_swap 16 = .ok (.iconst (-1), 1) := by decide +kernel
theorem dX9_swap_17 : decode cX9_swap 17 = .ok (.ireturn, 1) := by decide +kernel
theorem dX9_swap_18 : decode cX9_swap 18 = .ok (.aload_n 0, 1) := by decide +kernel
theorem dX9_swap_19 : decode cX9_swap 19 = .ok (.invokevirtual 72, 3) := by decide +kernel
theorem dX9_swap_22 : decode cX9_swap 22 = .ok (.aload_n 0, 1) := by decide +kernel
theorem dX9_swap_23 : decode cX9_swap 23 = .ok (.getfield 20, 3) := by decide +kernel
theorem dX9_swap_26 : decode cX9_swap 26 = .ok (.iload_n 1, 1) := by decide +kernel
theorem dX9_swap_27 : decode cX9_swap 27 = .ok (.iload_n 2, 1) := by decide +kernel
theorem dX9_swap_28 : decode cX9_swap 28 = .ok (.invokevirtual 136, 3) := by decide +kernel
theorem dX9_swap_31 : decode cX9_swap 31 = .ok (.ifCond .eq 7, 3) := by decide +kernel
theorem dX9_swap_34 : decode cX9_swap 34 = .ok (.iconst 1, 1) := by decide +kernel
theorem dX9_swap_35 : decode cX9_swap 35 = .ok (.goto 4, 3) := by decide +kernel
theorem dX9_swap_38 : decode cX9_swap 38 = .ok (.iconst 0, 1) := by decide +kernel
theorem dX9_swap_39 : decode cX9_swap 39 = .ok (.ireturn, 1) := by decide +kernel
theorem dX9_combine_0 : decode cX9_combine 0 = .ok (.iload_n 1, 1) := by decide +kernel
theorem dX9_combine_1 : decode cX9_combine 1 = .ok (.iload 4, 2) := by decide +kernel
theorem dX9_combine_3 : decode cX9_combine 3 = .ok (.iload 5, 2) := by decide +kernel
theorem dX9_combine_5 : decode cX9_combine 5 = .ok (.iload 6, 2) := by decide +kernel
theorem dX9_combine_7 : decode cX9_combine 7 = .ok (.invokestatic 103, 3) := by decide +kernel
theorem dX9_combine_10 : decode cX9_combine 10 = .ok (.ifCond .ne 32, 3) := by decide +kernel
theorem dX9_combine_13 : decode cX9_combine 13 = .ok (.iload_n 2, 1) := by decide +kernel
theorem dX9_combine_14 : decode cX9_combine 14 = .ok (.iconst 2, 1) := by decide +kernel
theorem dX9_combine_15 : decode cX9_combine 15 = .ok (.invokestatic 84, 3) := by decide +kernel
theorem dX9_combine_18 : decode cX9_combine 18 = .ok (.ifCond .ne 24, 3) := by decide +kernel
theorem dX9_combine_21 : decode cX9_combine 21 = .ok (.iload_n 1, 1) := by decide +kernel
theorem dX9_combine_22 : decode cX9_combine 22 = .ok (.iload_n 2, 1) := by decide +kernel
theorem dX9_combine_23 : decode cX9_combine 23 = .ok (.if_icmp .eq 19, 3) := by decide +kernel
theorem dX9_combine_26 : decode cX9_combine 26 = .ok (.iload_n 3, 1) := by decide +kernel
theorem dX9_combine_27 : decode cX9_combine 27 = .ok (.aload_n 0, 1) := by decide +kernel
theorem dX9_combine_28 : decode cX9_combine 28 = .ok (.getfield 20, 3) := by decide +kernel
theorem dX9_combine_31 : decode cX9_combine 31 = .ok (.getfield 68, 3) := by decide +kernel
theorem dX9_combine_34 : decode cX9_combine 34 = .ok (.iconst 1, 1) := by decide +kernel
theorem dX9_combine_35 : decode cX9_combine 35 = .ok (.isub, 1) := by decide +kernel
theorem dX9_combine_36 : decode cX9_combine 36 = .ok (.invokestatic 84, 3) := by decide +kernel
theorem dX9_combine_39 : decode cX9_combine 39 = .ok (.ifCond .eq 5, 3) := by decide +kernel
theorem dX9_combine_42 : decode cX9_combine 42 = .ok (.iconst (-1), 1) := by decide +kernel
theorem dX9_combine_43 : decode cX9_combine 43 = .ok (.ireturn, 1) := by decide +kernel
theorem dX9_combine_44 : decode cX9_combine 44 = .ok (.iload_n 3, 1) := by decide +kernel
theorem dX9_combine_45 : decode cX9_combine 45 = .ok (.ifCond .eq 23, 3) := by decide +kernel
theorem dX9_combine_48 : decode cX9_combine 48 = .ok (.aload_n 0, 1) := by decide +kernel
theorem dX9_combine_49 : decode cX9_combine 49 = .ok (.getfield 20, 3) := by decide +kernel
theorem dX9_combine_52 : decode cX9_combine 52 = .ok (.iload_n 2, 1) := by decide +kernel
theorem dX9_combine_53 : decode cX9_combine 53 = .ok (.iload 4, 2) := by decide +kernel
theorem dX9_combine_55 : decode cX9_combine 55 = .ok (.iload 5, 2) := by decide +kernel
theorem dX9_combine_57 : decode cX9_combine 57 = .ok (.iload 6, 2) := by decide +kernel
theorem dX9_combine_59 : decode cX9_combine 59 = .ok (.invokevirtual 139, 3) := by decide +kernel
theorem dX9_combine_62 : decode cX9_combine 62 = .ok (.ifCond .eq 6, 3) := by decide +kernel
theorem dX9_combine_65 : decode cX9_combine 65 = .ok (.bipush (-3), 2) := by decide +kernel
theorem dX9_combine_67 : decode cX9_combine 67 = .ok (.ireturn, 1) := by decide +kernel
theorem dX9_combine_68 : decode cX9_combine 68 = .ok (.aload_n 0, 1) := by decide +kernel
theorem dX9_combine_69 : decode cX9_combine 69 = .ok (.invokevirtual 72, 3) := by decide +kernel
theorem dX9_combine_72 : decode cX9_combine 72 = .ok (.aload_n 0, 1) := by decide +kernel
theorem dX9_combine_73 : decode cX9_combine 73 = .ok (.getfield 20, 3) := by decide +kernel
theorem dX9_combine_76 : decode cX9_combine 76 = .ok (.iload_n 1, 1) := by decide +kernel
theorem dX9_combine_77 : decode cX9_combine 77 = .ok (.iload_n 2, 1) := by decide +kernel
theorem dX9_combine_78 : decode cX9_combine 78 = .ok (.iload_n 3, 1) := by decide +kernel
theorem dX9_combine_79 : decode cX9_combine 79 = .ok (.iload 4, 2) := by decide +kernel
theorem dX9_combine_81 : decode cX9_combine 81 = .ok (.iload 5, 2) := by decide +kernel
theorem dX9_combine_83 : decode cX9_combine 83 = .ok (.iload 6, 2) := by decide +kernel
theorem dX9_combine_85 : decode cX9_combine 85 = .ok (.invokestatic 107, 3) := by decide +kernel
theorem dX9_combine_88 : decode cX9_combine 88 = .ok (.invokevirtual 142, 3) := by decide +kernel
theorem dX9_combine_91 : decode cX9_combine 91 = .ok (.aload_n 0, 1) := by decide +kernel
theorem dX9_combine_92 : decode cX9_combine 92 = .ok (.getfield 20, 3) := by decide +kernel
theorem dX9_combine_95 : decode cX9_combine 95 = .ok (.iload_n 1, 1) := by decide +kernel
theorem dX9_combine_96 : decode cX9_combine 96 = .ok (.invokevirtual 100, 3) := by decide +kernel
theorem dX9_combine_99 : decode cX9_combine 99 = .ok (.ireturn, 1) := by decide +kernel
theorem dX9_shift_0 : decode cX9_shift 0 = .ok (.iload_n 1, 1) := by decide +kernel
theorem dX9_shift_1 : decode cX9_shift 1 = .ok (.aload_n 0, 1) := by decide +kernel
theorem dX9_shift_2 : decode cX9_shift 2 = .ok (.getfield 20, 3) := by decide +kernel
theorem dX9_shift_5 : decode cX9_shift 5 = .ok (.getfield 68, 3) := by decide +kernel
theorem dX9_shift_8 : decode cX9_shift 8 = .ok (.iconst 1, 1) := by decide +kernel
theorem dX9_shift_9 : decode cX9_shift 9 = .ok (.isub, 1) := by decide +kernel
theorem dX9_shift_10 : decode cX9_shift 10 = .ok (.invokestatic 84, 3) := by decide +kernel
theorem dX9_shift_13 : decode cX9_shift 13 = .ok (.ifCond .eq 5, 3) := by decide +kernel
theorem dX9_shift_16 : decode cX9_shift 16 = .ok (.iconst (-1), 1) := by decide +kernel
theorem dX9_shift_17 : decode cX9_shift 17 = .ok (.ireturn, 1) := by decide +kernel
theorem dX9_shift_18 : decode cX9_shift 18 = .ok (.aload_n 0, 1) := by decide +kernel
theorem dX9_shift_19 : decode cX9_shift 19 = .ok (.invokevirtual 72, 3) := by decide +kernel
theorem dX9_shift_22 : decode cX9_shift 22 = .ok (.aload_n 0, 1) := by decide +kernel
theorem dX9_shift_23 : decode cX9_shift 23 = .ok (.getfield 20, 3) := by decide +kernel
theorem dX9_shift_26 : decode cX9_shift 26 = .ok (.iload_n 1, 1) := by decide +kernel
theorem dX9_shift_27 : decode cX9_shift 27 = .ok (.invokevirtual 146, 3) := by decide +kernel
theorem dX9_shift_30 : decode cX9_shift 30 = .ok (.aload_n 0, 1) := by decide +kernel
theorem dX9_shift_31 : decode cX9_shift 31 = .ok (.getfield 20, 3) := by decide +kernel
theorem dX9_shift_34 : decode cX9_shift 34 = .ok (.invokevirtual 123, 3) := by decide +kernel
theorem dX9_shift_37 : decode cX9_shift 37 = .ok (.ireturn, 1) := by decide +kernel
theorem dX9_value_0 : decode cX9_value 0 = .ok (.iload_n 1, 1) := by decide +kernel
theorem dX9_value_1 : decode cX9_value 1 = .ok (.iconst 2, 1) := by decide +kernel
theorem dX9_value_2 : decode cX9_value 2 = .ok (.invokestatic 84, 3) := by decide +kernel
theorem dX9_value_5 : decode cX9_value 5 = .ok (.ifCond .ne 52, 3) := by decide +kernel
theorem dX9_value_8 : decode cX9_value 8 = .ok (.iload_n 2, 1) := by decide +kernel
theorem dX9_value_9 : decode cX9_value 9 = .ok (.aload_n 0, 1) := by decide +kernel
theorem dX9_value_10 : decode cX9_value 10 = .ok (.getfield 20, 3) := by decide +kernel
theorem dX9_value_13 : decode cX9_value 13 = .ok (.getfield 68, 3) := by decide +kernel
theorem dX9_value_16 : decode cX9_value 16 = .ok (.iconst 1, 1) := by decide +kernel
theorem dX9_value_17 : decode cX9_value 17 = .ok (.isub, 1) := by decide +kernel
theorem dX9_value_18 : decode cX9_value 18 = .ok (.invokestatic 84, 3) := by decide +kernel
theorem dX9_value_21 : decode cX9_value 21 = .ok (.ifCond .ne 36, 3) := by decide +kernel
theorem dX9_value_24 : decode cX9_value 24 = .ok (.iload_n 3, 1) := by decide +kernel
theorem dX9_value_25 : decode cX9_value 25 = .ok (.aload_n 0, 1) := by decide +kernel
theorem dX9_value_26 : decode cX9_value 26 = .ok (.getfield 20, 3) := by decide +kernel
theorem dX9_value_29 : decode cX9_value 29 = .ok (.getfield 68, 3) := by decide +kernel
theorem dX9_value_32 : decode cX9_value 32 = .ok (.iconst 1, 1) := by decide +kernel
theorem dX9_value_33 : decode cX9_value 33 = .ok (.isub, 1) := by decide +kernel
theorem dX9_value_34 : decode cX9_value 34 = .ok (.invokestatic 84, 3) := by decide +kernel
theorem dX9_value_37 : decode cX9_value 37 = .ok (.ifCond .ne 20, 3) := by decide +kernel
theorem dX9_value_40 : decode cX9_value 40 = .ok (.iload 4, 2) := by decide +kernel
theorem dX9_value_42 : decode cX9_value 42 = .ok (.aload_n 0, 1) := by decide +kernel
theorem dX9_value_43 : decode cX9_value 43 = .ok (.getfield 20, 3) := by decide +kernel
theorem dX9_value_46 : decode cX9_value 46 = .ok (.getfield 68, 3) := by decide +kernel
theorem dX9_value_49 : decode cX9_value 49 = .ok (.iconst 1, 1) := by decide +kernel
theorem dX9_value_50 : decode cX9_value 50 = .ok (.isub, 1) := by decide +kernel
theorem dX9_value_51 : decode cX9_value 51 = .ok (.invokestatic 84, 3) := by decide +kernel
theorem dX9_value_54 : decode cX9_value 54 = .ok (.ifCond .eq 5, 3) := by decide +kernel
theorem dX9_value_57 : decode cX9_value 57 = .ok (.iconst (-1), 1) := by decide +kernel
theorem dX9_value_58 : decode cX9_value 58 = .ok (.ireturn, 1) := by decide +kernel
theorem dX9_value_59 : decode cX9_value 59 = .ok (.aload_n 0, 1) := by decide +kernel
theorem dX9_value_60 : decode cX9_value 60 = .ok (.getfield 20, 3) := by decide +kernel
theorem dX9_value_63 : decode cX9_value 63 = .ok (.iload_n 1, 1) := by decide +kernel
theorem dX9_value_64 : decode cX9_value 64 = .ok (.iload_n 2, 1) := by decide +kernel
theorem dX9_value_65 : decode cX9_value 65 = .ok (.iload_n 3, 1) := by decide +kernel
theorem dX9_value_66 : decode cX9_value 66 = .ok (.iload 4, 2) := by decide +kernel
theorem dX9_value_68 : decode cX9_value 68 = .ok (.invokevirtual 127, 3) := by decide +kernel
theorem dX9_value_71 : decode cX9_value 71 = .ok (.ireturn, 1) := by decide +kernel
theorem dX9_degree_0 : decode cX9_degree 0 = .ok (.iload_n 1, 1) := by decide +kernel
theorem dX9_degree_1 : decode cX9_degree 1 = .ok (.iconst 2, 1) := by decide +kernel
theorem dX9_degree_2 : decode cX9_degree 2 = .ok (.invokestatic 84, 3) := by decide +kernel
theorem dX9_degree_5 : decode cX9_degree 5 = .ok (.ifCond .ne 11, 3) := by decide +kernel
theorem dX9_degree_8 : decode cX9_degree 8 = .ok (.iload_n 2, 1) := by decide +kernel
theorem dX9_degree_9 : decode cX9_degree 9 = .ok (.iconst 2, 1) := by decide +kernel
theorem dX9_degree_10 : decode cX9_degree 10 = .ok (.invokestatic 84, 3) := by decide +kernel
theorem dX9_degree_13 : decode cX9_degree 13 = .ok (.ifCond .eq 5, 3) := by decide +kernel
theorem dX9_degree_16 : decode cX9_degree 16 = .ok (.iconst (-1), 1) := by decide +kernel
theorem dX9_degree_17 : decode cX9_degree 17 = .ok (.ireturn, 1) := by decide +kernel
theorem dX9_degree_18 : decode cX9_degree 18 = .ok (.aload_n 0, 1) := by decide +kernel
theorem dX9_degree_19 : decode cX9_degree 19 = .ok (.getfield 20, 3) := by decide +kernel
theorem dX9_degree_22 : decode cX9_degree 22 = .ok (.iload_n 1, 1) := by decide +kernel
theorem dX9_degree_23 : decode cX9_degree 23 = .ok (.iload_n 2, 1) := by decide +kernel
theorem dX9_degree_24 : decode cX9_degree 24 = .ok (.invokevirtual 150, 3) := by decide +kernel
theorem dX9_degree_27 : decode cX9_degree 27 = .ok (.ireturn, 1) := by decide +kernel
theorem dX9_degreeAt_0 : decode cX9_degreeAt 0 = .ok (.iload_n 1, 1) := by decide +kernel
theorem dX9_degreeAt_1 : decode cX9_degreeAt 1 = .ok (.iconst 2, 1) := by decide +kernel
theorem dX9_degreeAt_2 : decode cX9_degreeAt 2 = .ok (.invokestatic 84, 3) := by decide +kernel
theorem dX9_degreeAt_5 : decode cX9_degreeAt 5 = .ok (.ifCond .ne 27, 3) := by decide +kernel
theorem dX9_degreeAt_8 : decode cX9_degreeAt 8 = .ok (.iload_n 2, 1) := by decide +kernel
theorem dX9_degreeAt_9 : decode cX9_degreeAt 9 = .ok (.iconst 1, 1) := by decide +kernel
theorem dX9_degreeAt_10 : decode cX9_degreeAt 10 = .ok (.invokestatic 84, 3) := by decide +kernel
theorem dX9_degreeAt_13 : decode cX9_degreeAt 13 = .ok (.ifCond .ne 19, 3) := by decide +kernel
theorem dX9_degreeAt_16 : decode cX9_degreeAt 16 = .ok (.iload_n 3, 1) := by decide +kernel
theorem dX9_degreeAt_17 : decode cX9_degreeAt 17 = .ok (.aload_n 0, 1) := by decide +kernel
theorem dX9_degreeAt_18 : decode cX9_degreeAt 18 = .ok (.getfield 20, 3) := by decide +kernel
theorem dX9_degreeAt_21 : decode cX9_degreeAt 21 = .ok (.getfield 68, 3) := by decide +kernel
theorem dX9_degreeAt_24 : decode cX9_degreeAt 24 = .ok (.iconst 1, 1) := by decide +kernel
theorem dX9_degreeAt_25 : decode cX9_degreeAt 25 = .ok (.isub, 1) := by decide +kernel
theorem dX9_degreeAt_26 : decode cX9_degreeAt 26 = .ok (.invokestatic 84, 3) := by decide +kernel
theorem dX9_degreeAt_29 : decode cX9_degreeAt 29 = .ok (.ifCond .eq 5, 3) := by decide +kernel
theorem dX9_degreeAt_32 : decode cX9_degreeAt 32 = .ok (.iconst (-1), 1) := by decide +kernel
theorem dX9_degreeAt_33 : decode cX9_degreeAt 33 = .ok (.ireturn, 1) := by decide +kernel
theorem dX9_degreeAt_34 : decode cX9_degreeAt 34 = .ok (.aload_n 0, 1) := by decide +kernel
theorem dX9_degreeAt_35 : decode cX9_degreeAt 35 = .ok (.getfield 20, 3) := by decide +kernel
theorem dX9_degreeAt_38 : decode cX9_degreeAt 38 = .ok (.iload_n 1, 1) := by decide +kernel
theorem dX9_degreeAt_39 : decode cX9_degreeAt 39 = .ok (.iload_n 2, 1) := by decide +kernel
theorem dX9_degreeAt_40 : decode cX9_degreeAt 40 = .ok (.iload_n 3, 1) := by decide +kernel
theorem dX9_degreeAt_41 : decode cX9_degreeAt 41 = .ok (.invokevirtual 153, 3) := by decide +kernel
theorem dX9_degreeAt_44 : decode cX9_degreeAt 44 = .ok (.ireturn, 1) := by decide +kernel
theorem dX9_degreeDrops_0 : decode cX9_degreeDrops 0 = .ok (.iconst 0, 1) := by decide +kernel
theorem dX9_degreeDrops_1 : decode cX9_degreeDrops 1 = .ok (.istore_n 1, 1) := by decide +kernel
theorem dX9_degreeDrops_2 : decode cX9_degreeDrops 2 = .ok (.iconst 0, 1) := by decide +kernel
theorem dX9_degreeDrops_3 : decode cX9_degreeDrops 3 = .ok (.istore_n 2, 1) := by decide +kernel
theorem dX9_degreeDrops_4 : decode cX9_degreeDrops 4 = .ok (.iload_n 2, 1) := by decide +kernel
theorem dX9_degreeDrops_5 : decode cX9_degreeDrops 5 = .ok (.aload_n 0, 1) := by decide +kernel
theorem dX9_degreeDrops_6 : decode cX9_degreeDrops 6 = .ok (.getfield 20, 3) := by decide +kernel
theorem dX9_degreeDrops_9 : decode cX9_degreeDrops 9 = .ok (.getfield 68, 3) := by decide +kernel
theorem dX9_degreeDrops_12 : decode cX9_degreeDrops 12 = .ok (.if_icmp .ge 26, 3) := by decide +kernel
theorem dX9_degreeDrops_15 : decode cX9_degreeDrops 15 = .ok (.aload_n 0, 1) := by decide +kernel
theorem dX9_degreeDrops_16 : decode cX9_degreeDrops 16 = .ok (.getfield 20, 3) := by decide +kernel
theorem dX9_degreeDrops_19 : decode cX9_degreeDrops 19 = .ok (.iload_n 2, 1) := by decide +kernel
theorem dX9_degreeDrops_20 : decode cX9_degreeDrops 20 = .ok (.invokevirtual 156, 3) := by decide +kernel
theorem dX9_degreeDrops_23 : decode cX9_degreeDrops 23 = .ok (.ifCond .eq 9, 3) := by decide +kernel
theorem dX9_degreeDrops_26 : decode cX9_degreeDrops 26 = .ok (.iload_n 1, 1) := by decide +kernel
theorem dX9_degreeDrops_27 : decode cX9_degreeDrops 27 = .ok (.iconst 1, 1) := by decide +kernel
theorem dX9_degreeDrops_28 : decode cX9_degreeDrops 28 = .ok (.iload_n 2, 1) := by decide +kernel
theorem dX9_degreeDrops_29 : decode cX9_degreeDrops 29 = .ok (.ishl, 1) := by decide +kernel
theorem dX9_degreeDrops_30 : decode cX9_degreeDrops 30 = .ok (.ior, 1) := by decide +kernel
theorem dX9_degreeDrops_31 : decode cX9_degreeDrops 31 = .ok (.istore_n 1, 1) := by decide +kernel
theorem dX9_degreeDrops_32 : decode cX9_degreeDrops 32 = .ok (.iinc 2 1, 3) := by decide +kernel
theorem dX9_degreeDrops_35 : decode cX9_degreeDrops 35 = .ok (.goto (-31), 3) := by decide +kernel
theorem dX9_degreeDrops_38 : decode cX9_degreeDrops 38 = .ok (.iload_n 1, 1) := by decide +kernel
theorem dX9_degreeDrops_39 : decode cX9_degreeDrops 39 = .ok (.ireturn, 1) := by decide +kernel
theorem dX9_size_0 : decode cX9_size 0 = .ok (.aload_n 0, 1) := by decide +kernel
theorem dX9_size_1 : decode cX9_size 1 = .ok (.invokevirtual 159, 3) := by decide +kernel
theorem dX9_size_4 : decode cX9_size 4 = .ok (.ifCond .eq 8, 3) := by decide +kernel
theorem dX9_size_7 : decode cX9_size 7 = .ok (.bipush (-2), 2) := by decide +kernel
theorem dX9_size_9 : decode cX9_size 9 = .ok (.goto 10, 3) := by decide +kernel
theorem dX9_size_12 : decode cX9_size 12 = .ok (.aload_n 0, 1) := by decide +kernel
theorem dX9_size_13 : decode cX9_size 13 = .ok (.getfield 47, 3) := by decide +kernel
theorem dX9_size_16 : decode cX9_size 16 = .ok (.getfield 163, 3) := by decide +kernel
theorem dX9_size_19 : decode cX9_size 19 = .ok (.ireturn, 1) := by decide +kernel
theorem dX9_entry_0 : decode cX9_entry 0 = .ok (.iload_n 3, 1) := by decide +kernel
theorem dX9_entry_1 : decode cX9_entry 1 = .ok (.bipush 6, 2) := by decide +kernel
theorem dX9_entry_3 : decode cX9_entry 3 = .ok (.invokestatic 84, 3) := by decide +kernel
theorem dX9_entry_6 : decode cX9_entry 6 = .ok (.ifCond .eq 5, 3) := by decide +kernel
theorem dX9_entry_9 : decode cX9_entry 9 = .ok (.iconst (-1), 1) := by decide +kernel
theorem dX9_entry_10 : decode cX9_entry 10 = .ok (.ireturn, 1) := by decide +kernel
theorem dX9_entry_11 : decode cX9_entry 11 = .ok (.aload_n 0, 1) := by decide +kernel
theorem dX9_entry_12 : decode cX9_entry 12 = .ok (.invokevirtual 159, 3) := by decide +kernel
theorem dX9_entry_15 : decode cX9_entry 15 = .ok (.ifCond .eq 6, 3) := by decide +kernel
theorem dX9_entry_18 : decode cX9_entry 18 = .ok (.bipush (-2), 2) := by decide +kernel
theorem dX9_entry_20 : decode cX9_entry 20 = .ok (.ireturn, 1) := by decide +kernel
theorem dX9_entry_21 : decode cX9_entry 21 = .ok (.iload_n 1, 1) := by decide +kernel
theorem dX9_entry_22 : decode cX9_entry 22 = .ok (.aload_n 0, 1) := by decide +kernel
theorem dX9_entry_23 : decode cX9_entry 23 = .ok (.getfield 47, 3) := by decide +kernel
theorem dX9_entry_26 : decode cX9_entry 26 = .ok (.getfield 163, 3) := by decide +kernel
theorem dX9_entry_29 : decode cX9_entry 29 = .ok (.iconst 1, 1) := by decide +kernel
theorem dX9_entry_30 : decode cX9_entry 30 = .ok (.isub, 1) := by decide +kernel
theorem dX9_entry_31 : decode cX9_entry 31 = .ok (.invokestatic 84, 3) := by decide +kernel
theorem dX9_entry_34 : decode cX9_entry 34 = .ok (.ifCond .ne 19, 3) := by decide +kernel
theorem dX9_entry_37 : decode cX9_entry 37 = .ok (.iload_n 2, 1) := by decide +kernel
theorem dX9_entry_38 : decode cX9_entry 38 = .ok (.aload_n 0, 1) := by decide +kernel
theorem dX9_entry_39 : decode cX9_entry 39 = .ok (.getfield 47, 3) := by decide +kernel
theorem dX9_entry_42 : decode cX9_entry 42 = .ok (.getfield 163, 3) := by decide +kernel
theorem dX9_entry_45 : decode cX9_entry 45 = .ok (.iconst 1, 1) := by decide +kernel
theorem dX9_entry_46 : decode cX9_entry 46 = .ok (.isub, 1) := by decide +kernel
theorem dX9_entry_47 : decode cX9_entry 47 = .ok (.invokestatic 84, 3) := by decide +kernel
theorem dX9_entry_50 : decode cX9_entry 50 = .ok (.ifCond .eq 5, 3) := by decide +kernel
theorem dX9_entry_53 : decode cX9_entry 53 = .ok (.iconst (-1), 1) := by decide +kernel
theorem dX9_entry_54 : decode cX9_entry 54 = .ok (.ireturn, 1) := by decide +kernel
theorem dX9_entry_55 : decode cX9_entry 55 = .ok (.aload_n 0, 1) := by decide +kernel
theorem dX9_entry_56 : decode cX9_entry 56 = .ok (.getfield 47, 3) := by decide +kernel
theorem dX9_entry_59 : decode cX9_entry 59 = .ok (.iload_n 1, 1) := by decide +kernel
theorem dX9_entry_60 : decode cX9_entry 60 = .ok (.iload_n 2, 1) := by decide +kernel
theorem dX9_entry_61 : decode cX9_entry 61 = .ok (.iload_n 3, 1) := by decide +kernel
theorem dX9_entry_62 : decode cX9_entry 62 = .ok (.invokevirtual 166, 3) := by decide +kernel
theorem dX9_entry_65 : decode cX9_entry 65 = .ok (.ireturn, 1) := by decide +kernel
theorem dX9_entryAt_0 : decode cX9_entryAt 0 = .ok (.iload_n 3, 1) := by decide +kernel
theorem dX9_entryAt_1 : decode cX9_entryAt 1 = .ok (.aload_n 0, 1) := by decide +kernel
theorem dX9_entryAt_2 : decode cX9_entryAt 2 = .ok (.getfield 20, 3) := by decide +kernel
theorem dX9_entryAt_5 : decode cX9_entryAt 5 = .ok (.getfield 68, 3) := by decide +kernel
theorem dX9_entryAt_8 : decode cX9_entryAt 8 = .ok (.iconst 1, 1) := by decide +kernel
theorem dX9_entryAt_9 : decode cX9_entryAt 9 = .ok (.isub, 1) := by decide +kernel
theorem dX9_entryAt_10 : decode cX9_entryAt 10 = .ok (.invokestatic 84, 3) := by decide +kernel
theorem dX9_entryAt_13 : decode cX9_entryAt 13 = .ok (.ifCond .eq 5, 3) := by decide +kernel
theorem dX9_entryAt_16 : decode cX9_entryAt 16 = .ok (.iconst (-1), 1) := by decide +kernel
theorem dX9_entryAt_17 : decode cX9_entryAt 17 = .ok (.ireturn, 1) := by decide +kernel
theorem dX9_entryAt_18 : decode cX9_entryAt 18 = .ok (.aload_n 0, 1) := by decide +kernel
theorem dX9_entryAt_19 : decode cX9_entryAt 19 = .ok (.invokevirtual 159, 3) := by decide +kernel
theorem dX9_entryAt_22 : decode cX9_entryAt 22 = .ok (.ifCond .eq 6, 3) := by decide +kernel
theorem dX9_entryAt_25 : decode cX9_entryAt 25 = .ok (.bipush (-2), 2) := by decide +kernel
theorem dX9_entryAt_27 : decode cX9_entryAt 27 = .ok (.ireturn, 1) := by decide +kernel
theorem dX9_entryAt_28 : decode cX9_entryAt 28 = .ok (.iload_n 1, 1) := by decide +kernel
theorem dX9_entryAt_29 : decode cX9_entryAt 29 = .ok (.aload_n 0, 1) := by decide +kernel
theorem dX9_entryAt_30 : decode cX9_entryAt 30 = .ok (.getfield 47, 3) := by decide +kernel
theorem dX9_entryAt_33 : decode cX9_entryAt 33 = .ok (.getfield 163, 3) := by decide +kernel
theorem dX9_entryAt_36 : decode cX9_entryAt 36 = .ok (.iconst 1, 1) := by decide +kernel
theorem dX9_entryAt_37 : decode cX9_entryAt 37 = .ok (.isub, 1) := by decide +kernel
theorem dX9_entryAt_38 : decode cX9_entryAt 38 = .ok (.invokestatic 84, 3) := by decide +kernel
theorem dX9_entryAt_41 : decode cX9_entryAt 41 = .ok (.ifCond .ne 19, 3) := by decide +kernel
theorem dX9_entryAt_44 : decode cX9_entryAt 44 = .ok (.iload_n 2, 1) := by decide +kernel
theorem dX9_entryAt_45 : decode cX9_entryAt 45 = .ok (.aload_n 0, 1) := by decide +kernel
theorem dX9_entryAt_46 : decode cX9_entryAt 46 = .ok (.getfield 47, 3) := by decide +kernel
theorem dX9_entryAt_49 : decode cX9_entryAt 49 = .ok (.getfield 163, 3) := by decide +kernel
theorem dX9_entryAt_52 : decode cX9_entryAt 52 = .ok (.iconst 1, 1) := by decide +kernel
theorem dX9_entryAt_53 : decode cX9_entryAt 53 = .ok (.isub, 1) := by decide +kernel
theorem dX9_entryAt_54 : decode cX9_entryAt 54 = .ok (.invokestatic 84, 3) := by decide +kernel
theorem dX9_entryAt_57 : decode cX9_entryAt 57 = .ok (.ifCond .eq 5, 3) := by decide +kernel
theorem dX9_entryAt_60 : decode cX9_entryAt 60 = .ok (.iconst (-1), 1) := by decide +kernel
theorem dX9_entryAt_61 : decode cX9_entryAt 61 = .ok (.ireturn, 1) := by decide +kernel
theorem dX9_entryAt_62 : decode cX9_entryAt 62 = .ok (.aload_n 0, 1) := by decide +kernel
theorem dX9_entryAt_63 : decode cX9_entryAt 63 = .ok (.getfield 47, 3) := by decide +kernel
theorem dX9_entryAt_66 : decode cX9_entryAt 66 = .ok (.iload_n 1, 1) := by decide +kernel
theorem dX9_entryAt_67 : decode cX9_entryAt 67 = .ok (.iload_n 2, 1) := by decide +kernel
theorem dX9_entryAt_68 : decode cX9_entryAt 68 = .ok (.invokevirtual 169, 3) := by decide +kernel
theorem dX9_entryAt_71 : decode cX9_entryAt 71 = .ok (.iload_n 3, 1) := by decide +kernel
theorem dX9_entryAt_72 : decode cX9_entryAt 72 = .ok (.aload_n 0, 1) := by decide +kernel
theorem dX9_entryAt_73 : decode cX9_entryAt 73 = .ok (.getfield 20, 3) := by decide +kernel
theorem dX9_entryAt_76 : decode cX9_entryAt 76 = .ok (.getfield 68, 3) := by decide +kernel
theorem dX9_entryAt_79 : decode cX9_entryAt 79 = .ok (.invokestatic 173, 3) := by decide +kernel
theorem dX9_entryAt_82 : decode cX9_entryAt 82 = .ok (.ireturn, 1) := by decide +kernel
theorem dX9_rankAt_0 : decode cX9_rankAt 0 = .ok (.iload_n 1, 1) := by decide +kernel
theorem dX9_rankAt_1 : decode cX9_rankAt 1 = .ok (.aload_n 0, 1) := by decide +kernel
theorem dX9_rankAt_2 : decode cX9_rankAt 2 = .ok (.getfield 20, 3) := by decide +kernel
theorem dX9_rankAt_5 : decode cX9_rankAt 5 = .ok (.getfield 68, 3) := by decide +kernel
theorem dX9_rankAt_8 : decode cX9_rankAt 8 = .ok (.iconst 1, 1) := by decide +kernel
theorem dX9_rankAt_9 : decode cX9_rankAt 9 = .ok (.isub, 1) := by decide +kernel
theorem dX9_rankAt_10 : decode cX9_rankAt 10 = .ok (.invokestatic 84, 3) := by decide +kernel
theorem dX9_rankAt_13 : decode cX9_rankAt 13 = .ok (.ifCond .eq 5, 3) := by decide +kernel
theorem dX9_rankAt_16 : decode cX9_rankAt 16 = .ok (.iconst (-1), 1) := by decide +kernel
theorem dX9_rankAt_17 : decode cX9_rankAt 17 = .ok (.ireturn, 1) := by decide +kernel
theorem dX9_rankAt_18 : decode cX9_rankAt 18 = .ok (.aload_n 0, 1) := by decide +kernel
theorem dX9_rankAt_19 : decode cX9_rankAt 19 = .ok (.invokevirtual 159, 3) := by decide +kernel
theorem dX9_rankAt_22 : decode cX9_rankAt 22 = .ok (.ifCond .eq 6, 3) := by decide +kernel
theorem dX9_rankAt_25 : decode cX9_rankAt 25 = .ok (.bipush (-2), 2) := by decide +kernel
theorem dX9_rankAt_27 : decode cX9_rankAt 27 = .ok (.ireturn, 1) := by decide +kernel
theorem dX9_rankAt_28 : decode cX9_rankAt 28 = .ok (.aload_n 0, 1) := by decide +kernel
theorem dX9_rankAt_29 : decode cX9_rankAt 29 = .ok (.getfield 51, 3) := by decide +kernel
theorem dX9_rankAt_32 : decode cX9_rankAt 32 = .ok (.iload_n 1, 1) := by decide +kernel
theorem dX9_rankAt_33 : decode cX9_rankAt 33 = .ok (.invokevirtual 177, 3) := by decide +kernel
theorem dX9_rankAt_36 : decode cX9_rankAt 36 = .ok (.aload_n 0, 1) := by decide +kernel
theorem dX9_rankAt_37 : decode cX9_rankAt 37 = .ok (.getfield 51, 3) := by decide +kernel
theorem dX9_rankAt_40 : decode cX9_rankAt 40 = .ok (.iload_n 1, 1) := by decide +kernel
theorem dX9_rankAt_41 : decode cX9_rankAt 41 = .ok (.invokevirtual 180, 3) := by decide +kernel
theorem dX9_rankAt_44 : decode cX9_rankAt 44 = .ok (.ireturn, 1) := by decide +kernel
theorem dX9_rank_0 : decode cX9_rank 0 = .ok (.aload_n 0, 1) := by decide +kernel
theorem dX9_rank_1 : decode cX9_rank 1 = .ok (.invokevirtual 159, 3) := by decide +kernel
theorem dX9_rank_4 : decode cX9_rank 4 = .ok (.ifCond .eq 6, 3) := by decide +kernel
theorem dX9_rank_7 : decode cX9_rank 7 = .ok (.bipush (-2), 2) := by decide +kernel
theorem dX9_rank_9 : decode cX9_rank 9 = .ok (.ireturn, 1) := by decide +kernel
theorem dX9_rank_10 : decode cX9_rank 10 = .ok (.aload_n 0, 1) := by decide +kernel
theorem dX9_rank_11 : decode cX9_rank 11 = .ok (.getfield 51, 3) := by decide +kernel
theorem dX9_rank_14 : decode cX9_rank 14 = .ok (.invokevirtual 183, 3) := by decide +kernel
theorem dX9_rank_17 : decode cX9_rank 17 = .ok (.aload_n 0, 1) := by decide +kernel
theorem dX9_rank_18 : decode cX9_rank 18 = .ok (.getfield 51, 3) := by decide +kernel
theorem dX9_rank_21 : decode cX9_rank 21 = .ok (.getfield 186, 3) := by decide +kernel
theorem dX9_rank_24 : decode cX9_rank 24 = .ok (.ireturn, 1) := by decide +kernel
theorem dX9_pivotPoint_0 : decode cX9_pivotPoint 0 = .ok (.aload_n 0, 1) := by decide +kernel
theorem dX9_pivotPoint_1 : decode cX9_pivotPoint 1 = .ok (.invokevirtual 159, 3) := by decide +kernel
theorem dX9_pivotPoint_4 : decode cX9_pivotPoint 4 = .ok (.ifCond .eq 6, 3) := by decide +kernel
theorem dX9_pivotPoint_7 : decode cX9_pivotPoint 7 = .ok (.bipush (-2), 2) := by decide +kernel
theorem dX9_pivotPoint_9 : decode cX9_pivotPoint 9 = .ok (.ireturn, 1) := by decide +kernel
theorem dX9_pivotPoint_10 : decode cX9_pivotPoint 10 = .ok (.aload_n 0, 1) := by decide +kernel
theorem dX9_pivotPoint_11 : decode cX9_pivotPoint 11 = .ok (.getfield 51, 3) := by decide +kernel
theorem dX9_pivotPoint_14 : decode cX9_pivotPoint 14 = .ok (.invokevirtual 183, 3) := by decide +kernel
theorem dX9_pivotPoint_17 : decode cX9_pivotPoint 17 = .ok (.aload_n 0, 1) := by decide +kernel
theorem dX9_pivotPoint_18 : decode cX9_pivotPoint 18 = .ok (.getfield 51, 3) := by decide +kernel
theorem dX9_pivotPoint_21 : decode cX9_pivotPoint 21 = .ok (.getfield 189, 3) := by decide +kernel
theorem dX9_pivotPoint_24 : decode cX9_pivotPoint 24 = .ok (.ireturn, 1) := by decide +kernel
theorem dX9_selected_0 : decode cX9_selected 0 = .ok (.aload_n 0, 1) := by decide +kernel
theorem dX9_selected_1 : decode cX9_selected 1 = .ok (.invokevirtual 159, 3) := by decide +kernel
theorem dX9_selected_4 : decode cX9_selected 4 = .ok (.ifCond .eq 6, 3) := by decide +kernel
theorem dX9_selected_7 : decode cX9_selected 7 = .ok (.bipush (-2), 2) := by decide +kernel
theorem dX9_selected_9 : decode cX9_selected 9 = .ok (.ireturn, 1) := by decide +kernel
theorem dX9_selected_10 : decode cX9_selected 10 = .ok (.aload_n 0, 1) := by decide +kernel
theorem dX9_selected_11 : decode cX9_selected 11 = .ok (.getfield 51, 3) := by decide +kernel
theorem dX9_selected_14 : decode cX9_selected 14 = .ok (.invokevirtual 183, 3) := by decide +kernel
theorem dX9_selected_17 : decode cX9_selected 17 = .ok (.iload_n 1, 1) := by decide +kernel
theorem dX9_selected_18 : decode cX9_selected 18 = .ok (.ifCond .eq 13, 3) := by decide +kernel
theorem dX9_selected_21 : decode cX9_selected 21 = .ok (.aload_n 0, 1) := by decide +kernel
theorem dX9_selected_22 : decode cX9_selected 22 = .ok (.getfield 51, 3) := by decide +kernel
theorem dX9_selected_25 : decode cX9_selected 25 = .ok (.getfield 192, 3) := by decide +kernel
theorem dX9_selected_28 : decode cX9_selected 28 = .ok (.goto 10, 3) := by decide +kernel
theorem dX9_selected_31 : decode cX9_selected 31 = .ok (.aload_n 0, 1) := by decide +kernel
theorem dX9_selected_32 : decode cX9_selected 32 = .ok (.getfield 51, 3) := by decide +kernel
theorem dX9_selected_35 : decode cX9_selected 35 = .ok (.getfield 195, 3) := by decide +kernel
theorem dX9_selected_38 : decode cX9_selected 38 = .ok (.ireturn, 1) := by decide +kernel
theorem dX9_rankDrops_0 : decode cX9_rankDrops 0 = .ok (.aload_n 0, 1) := by decide +kernel
theorem dX9_rankDrops_1 : decode cX9_rankDrops 1 = .ok (.invokevirtual 159, 3) := by decide +kernel
theorem dX9_rankDrops_4 : decode cX9_rankDrops 4 = .ok (.ifCond .eq 6, 3) := by decide +kernel
theorem dX9_rankDrops_7 : decode cX9_rankDrops 7 = .ok (.bipush (-2), 2) := by decide +kernel
theorem dX9_rankDrops_9 : decode cX9_rankDrops 9 = .ok (.ireturn, 1) := by decide +kernel
theorem dX9_rankDrops_10 : decode cX9_rankDrops 10 = .ok (.aload_n 0, 1) := by decide +kernel
theorem dX9_rankDrops_11 : decode cX9_rankDrops 11 = .ok (.getfield 51, 3) := by decide +kernel
theorem dX9_rankDrops_14 : decode cX9_rankDrops 14 = .ok (.invokevirtual 183, 3) := by decide +kernel
theorem dX9_rankDrops_17 : decode cX9_rankDrops 17 = .ok (.aload_n 0, 1) := by decide +kernel
theorem dX9_rankDrops_18 : decode cX9_rankDrops 18 = .ok (.getfield 51, 3) := by decide +kernel
theorem dX9_rankDrops_21 : decode cX9_rankDrops 21 = .ok (.getfield 198, 3) := by decide +kernel
theorem dX9_rankDrops_24 : decode cX9_rankDrops 24 = .ok (.ireturn, 1) := by decide +kernel
theorem dX9_condition_0 : decode cX9_condition 0 = .ok (.aload_n 0, 1) := by decide +kernel
theorem dX9_condition_1 : decode cX9_condition 1 = .ok (.invokevirtual 159, 3) := by decide +kernel
theorem dX9_condition_4 : decode cX9_condition 4 = .ok (.ifCond .eq 6, 3) := by decide +kernel
theorem dX9_condition_7 : decode cX9_condition 7 = .ok (.bipush (-2), 2) := by decide +kernel
theorem dX9_condition_9 : decode cX9_condition 9 = .ok (.ireturn, 1) := by decide +kernel
theorem dX9_condition_10 : decode cX9_condition 10 = .ok (.aload_n 0, 1) := by decide +kernel
theorem dX9_condition_11 : decode cX9_condition 11 = .ok (.getfield 51, 3) := by decide +kernel
theorem dX9_condition_14 : decode cX9_condition 14 = .ok (.invokevirtual 183, 3) := by decide +kernel
theorem dX9_condition_17 : decode cX9_condition 17 = .ok (.aload_n 0, 1) := by decide +kernel
theorem dX9_condition_18 : decode cX9_condition 18 = .ok (.getfield 51, 3) := by decide +kernel
theorem dX9_condition_21 : decode cX9_condition 21 = .ok (.getfield 201, 3) := by decide +kernel
theorem dX9_condition_24 : decode cX9_condition 24 = .ok (.aload_n 0, 1) := by decide +kernel
theorem dX9_condition_25 : decode cX9_condition 25 = .ok (.getfield 51, 3) := by decide +kernel
theorem dX9_condition_28 : decode cX9_condition 28 = .ok (.getfield 186, 3) := by decide +kernel
theorem dX9_condition_31 : decode cX9_condition 31 = .ok (.if_icmp .ge 7, 3) := by decide +kernel
theorem dX9_condition_34 : decode cX9_condition 34 = .ok (.iconst 1, 1) := by decide +kernel
theorem dX9_condition_35 : decode cX9_condition 35 = .ok (.goto 4, 3) := by decide +kernel
theorem dX9_condition_38 : decode cX9_condition 38 = .ok (.iconst 0, 1) := by decide +kernel
theorem dX9_condition_39 : decode cX9_condition 39 = .ok (.ireturn, 1) := by decide +kernel
theorem dX9_eliminantDegree_0 : decode cX9_eliminantDegree 0 = .ok (.aload_n 0, 1) := by decide +kernel
theorem dX9_eliminantDegree_1 : decode cX9_eliminantDegree 1 = .ok (.invokevirtual 159, 3) := by decide +kernel
theorem dX9_eliminantDegree_4 : decode cX9_eliminantDegree 4 = .ok (.ifCond .eq 6, 3) := by decide +kernel
theorem dX9_eliminantDegree_7 : decode cX9_eliminantDegree 7 = .ok (.bipush (-2), 2) := by decide +kernel
theorem dX9_eliminantDegree_9 : decode cX9_eliminantDegree 9 = .ok (.ireturn, 1) := by decide +kernel
theorem dX9_eliminantDegree_10 : decode cX9_eliminantDegree 10 = .ok (.aload_n 0, 1) := by decide +kernel
theorem dX9_eliminantDegree_11 : decode cX9_eliminantDegree 11 = .ok (.iload_n 1, 1) := by decide +kernel
theorem dX9_eliminantDegree_12 : decode cX9_eliminantDegree 12 = .ok (.invokevirtual 204, 3) := by decide +kernel
theorem dX9_eliminantDegree_15 : decode cX9_eliminantDegree 15 = .ok (.invokestatic 208, 3) := by decide +kernel
theorem dX9_eliminantDegree_18 : decode cX9_eliminantDegree 18 = .ok (.ireturn, 1) := by decide +kernel
theorem dX9_eliminant_0 : decode cX9_eliminant 0 = .ok (.iload_n 2, 1) := by decide +kernel
theorem dX9_eliminant_1 : decode cX9_eliminant 1 = .ok (.bipush 48, 2) := by decide +kernel
theorem dX9_eliminant_3 : decode cX9_eliminant 3 = .ok (.invokestatic 84, 3) := by decide +kernel
theorem dX9_eliminant_6 : decode cX9_eliminant 6 = .ok (.ifCond .eq 5, 3) := by decide +kernel
theorem dX9_eliminant_9 : decode cX9_eliminant 9 = .ok (.iconst (-1), 1) := by decide +kernel
theorem dX9_eliminant_10 : decode cX9_eliminant 10 = .ok (.ireturn, 1) := by decide +kernel
theorem dX9_eliminant_11 : decode cX9_eliminant 11 = .ok (.aload_n 0, 1) := by decide +kernel
theorem dX9_eliminant_12 : decode cX9_eliminant 12 = .ok (.invokevirtual 159, 3) := by decide +kernel
theorem dX9_eliminant_15 : decode cX9_eliminant 15 = .ok (.ifCond .eq 6, 3) := by decide +kernel
theorem dX9_eliminant_18 : decode cX9_eliminant 18 = .ok (.bipush (-2), 2) := by decide +kernel
theorem dX9_eliminant_20 : decode cX9_eliminant 20 = .ok (.ireturn, 1) := by decide +kernel
theorem dX9_eliminant_21 : decode cX9_eliminant 21 = .ok (.aload_n 0, 1) := by decide +kernel
theorem dX9_eliminant_22 : decode cX9_eliminant 22 = .ok (.iload_n 1, 1) := by decide +kernel
theorem dX9_eliminant_23 : decode cX9_eliminant 23 = .ok (.invokevirtual 204, 3) := by decide +kernel
theorem dX9_eliminant_26 : decode cX9_eliminant 26 = .ok (.astore_n 3, 1) := by decide +kernel
theorem dX9_eliminant_27 : decode cX9_eliminant 27 = .ok (.iload_n 2, 1) := by decide +kernel
theorem dX9_eliminant_28 : decode cX9_eliminant 28 = .ok (.aload_n 3, 1) := by decide +kernel
theorem dX9_eliminant_29 : decode cX9_eliminant 29 = .ok (.arraylength, 1) := by decide +kernel
theorem dX9_eliminant_30 : decode cX9_eliminant 30 = .ok (.if_icmp .ge 9, 3) := by decide +kernel
theorem dX9_eliminant_33 : decode cX9_eliminant 33 = .ok (.aload_n 3, 1) := by decide +kernel
theorem dX9_eliminant_34 : decode cX9_eliminant 34 = .ok (.iload_n 2, 1) := by decide +kernel
theorem dX9_eliminant_35 : decode cX9_eliminant 35 = .ok (.iaload, 1) := by decide +kernel
theorem dX9_eliminant_36 : decode cX9_eliminant 36 = .ok (.goto 4, 3) := by decide +kernel
theorem dX9_eliminant_39 : decode cX9_eliminant 39 = .ok (.iconst 0, 1) := by decide +kernel
theorem dX9_eliminant_40 : decode cX9_eliminant 40 = .ok (.ireturn, 1) := by decide +kernel
theorem dX9_eliminantAt_0 : decode cX9_eliminantAt 0 = .ok (.iload_n 2, 1) := by decide +kernel
theorem dX9_eliminantAt_1 : decode cX9_eliminantAt 1 = .ok (.aload_n 0, 1) := by decide +kernel
theorem dX9_eliminantAt_2 : decode cX9_eliminantAt 2 = .ok (.getfield 20, 3) := by decide +kernel
theorem dX9_eliminantAt_5 : decode cX9_eliminantAt 5 = .ok (.getfield 68, 3) := by decide +kernel
theorem dX9_eliminantAt_8 : decode cX9_eliminantAt 8 = .ok (.iconst 1, 1) := by decide +kernel
theorem dX9_eliminantAt_9 : decode cX9_eliminantAt 9 = .ok (.isub, 1) := by decide +kernel
theorem dX9_eliminantAt_10 : decode cX9_eliminantAt 10 = .ok (.invokestatic 84, 3) := by decide +kernel
theorem dX9_eliminantAt_13 : decode cX9_eliminantAt 13 = .ok (.ifCond .eq 5, 3) := by decide +kernel
theorem dX9_eliminantAt_16 : decode cX9_eliminantAt 16 = .ok (.iconst (-1), 1) := by decide +kernel
theorem dX9_eliminantAt_17 : decode cX9_eliminantAt 17 = .ok (.ireturn, 1) := by decide +kernel
theorem dX9_eliminantAt_18 : decode cX9_eliminantAt 18 = .ok (.aload_n 0, 1) := by decide +kernel
theorem dX9_eliminantAt_19 : decode cX9_eliminantAt 19 = .ok (.invokevirtual 159, 3) := by decide +kernel
theorem dX9_eliminantAt_22 : decode cX9_eliminantAt 22 = .ok (.ifCond .eq 6, 3) := by decide +kernel
theorem dX9_eliminantAt_25 : decode cX9_eliminantAt 25 = .ok (.bipush (-2), 2) := by decide +kernel
theorem dX9_eliminantAt_27 : decode cX9_eliminantAt 27 = .ok (.ireturn, 1) := by decide +kernel
theorem dX9_eliminantAt_28 : decode cX9_eliminantAt 28 = .ok (.aload_n 0, 1) := by decide +kernel
theorem dX9_eliminantAt_29 : decode cX9_eliminantAt 29 = .ok (.iload_n 1, 1) := by decide +kernel
theorem dX9_eliminantAt_30 : decode cX9_eliminantAt 30 = .ok (.invokevirtual 204, 3) := by decide +kernel
theorem dX9_eliminantAt_33 : decode cX9_eliminantAt 33 = .ok (.iload_n 2, 1) := by decide +kernel
theorem dX9_eliminantAt_34 : decode cX9_eliminantAt 34 = .ok (.aload_n 0, 1) := by decide +kernel
theorem dX9_eliminantAt_35 : decode cX9_eliminantAt 35 = .ok (.getfield 20, 3) := by decide +kernel
theorem dX9_eliminantAt_38 : decode cX9_eliminantAt 38 = .ok (.getfield 68, 3) := by decide +kernel
theorem dX9_eliminantAt_41 : decode cX9_eliminantAt 41 = .ok (.invokestatic 173, 3) := by decide +kernel
theorem dX9_eliminantAt_44 : decode cX9_eliminantAt 44 = .ok (.ireturn, 1) := by decide +kernel
theorem dX9_multiplicity_0 : decode cX9_multiplicity 0 = .ok (.iload_n 1, 1) := by decide +kernel
theorem dX9_multiplicity_1 : decode cX9_multiplicity 1 = .ok (.aload_n 0, 1) := by decide +kernel
theorem dX9_multiplicity_2 : decode cX9_multiplicity 2 = .ok (.getfield 20, 3) := by decide +kernel
theorem dX9_multiplicity_5 : decode cX9_multiplicity 5 = .ok (.getfield 68, 3) := by decide +kernel
theorem dX9_multiplicity_8 : decode cX9_multiplicity 8 = .ok (.iconst 1, 1) := by decide +kernel
theorem dX9_multiplicity_9 : decode cX9_multiplicity 9 = .ok (.isub, 1) := by decide +kernel
theorem dX9_multiplicity_10 : decode cX9_multiplicity 10 = .ok (.invokestatic 84, 3) := by decide +kernel
theorem dX9_multiplicity_13 : decode cX9_multiplicity 13 = .ok (.ifCond .eq 5, 3) := by decide +kernel
theorem dX9_multiplicity_16 : decode cX9_multiplicity 16 = .ok (.iconst (-1), 1) := by decide +kernel
theorem dX9_multiplicity_17 : decode cX9_multiplicity 17 = .ok (.ireturn, 1) := by decide +kernel
theorem dX9_multiplicity_18 : decode cX9_multiplicity 18 = .ok (.aload_n 0, 1) := by decide +kernel
theorem dX9_multiplicity_19 : decode cX9_multiplicity 19 = .ok (.invokevirtual 159, 3) := by decide +kernel
theorem dX9_multiplicity_22 : decode cX9_multiplicity 22 = .ok (.ifCond .eq 6, 3) := by decide +kernel
theorem dX9_multiplicity_25 : decode cX9_multiplicity 25 = .ok (.bipush (-2), 2) := by decide +kernel
theorem dX9_multiplicity_27 : decode cX9_multiplicity 27 = .ok (.ireturn, 1) := by decide +kernel
theorem dX9_multiplicity_28 : decode cX9_multiplicity 28 = .ok (.aload_n 0, 1) := by decide +kernel
theorem dX9_multiplicity_29 : decode cX9_multiplicity 29 = .ok (.iconst 0, 1) := by decide +kernel
theorem dX9_multiplicity_30 : decode cX9_multiplicity 30 = .ok (.invokevirtual 204, 3) := by decide +kernel
theorem dX9_multiplicity_33 : decode cX9_multiplicity 33 = .ok (.pop, 1) := by decide +kernel
theorem dX9_multiplicity_34 : decode cX9_multiplicity 34 = .ok (.aload_n 0, 1) := by decide +kernel
theorem dX9_multiplicity_35 : decode cX9_multiplicity 35 = .ok (.getfield 60, 3) := by decide +kernel
theorem dX9_multiplicity_38 : decode cX9_multiplicity 38 = .ok (.iload_n 1, 1) := by decide +kernel
theorem dX9_multiplicity_39 : decode cX9_multiplicity 39 = .ok (.invokevirtual 212, 3) := by decide +kernel
theorem dX9_multiplicity_42 : decode cX9_multiplicity 42 = .ok (.ireturn, 1) := by decide +kernel
theorem dX9_extraneous_0 : decode cX9_extraneous 0 = .ok (.aload_n 0, 1) := by decide +kernel
theorem dX9_extraneous_1 : decode cX9_extraneous 1 = .ok (.invokevirtual 159, 3) := by decide +kernel
theorem dX9_extraneous_4 : decode cX9_extraneous 4 = .ok (.ifCond .eq 6, 3) := by decide +kernel
theorem dX9_extraneous_7 : decode cX9_extraneous 7 = .ok (.bipush (-2), 2) := by decide +kernel
theorem dX9_extraneous_9 : decode cX9_extraneous 9 = .ok (.ireturn, 1) := by decide +kernel
theorem dX9_extraneous_10 : decode cX9_extraneous 10 = .ok (.aload_n 0, 1) := by decide +kernel
theorem dX9_extraneous_11 : decode cX9_extraneous 11 = .ok (.iconst 1, 1) := by decide +kernel
theorem dX9_extraneous_12 : decode cX9_extraneous 12 = .ok (.invokevirtual 204, 3) := by decide +kernel
theorem dX9_extraneous_15 : decode cX9_extraneous 15 = .ok (.pop, 1) := by decide +kernel
theorem dX9_extraneous_16 : decode cX9_extraneous 16 = .ok (.aload_n 0, 1) := by decide +kernel
theorem dX9_extraneous_17 : decode cX9_extraneous 17 = .ok (.getfield 60, 3) := by decide +kernel
theorem dX9_extraneous_20 : decode cX9_extraneous 20 = .ok (.getfield 215, 3) := by decide +kernel
theorem dX9_extraneous_23 : decode cX9_extraneous 23 = .ok (.ireturn, 1) := by decide +kernel
theorem dX9_commonRoots_0 : decode cX9_commonRoots 0 = .ok (.iload_n 1, 1) := by decide +kernel
theorem dX9_commonRoots_1 : decode cX9_commonRoots 1 = .ok (.aload_n 0, 1) := by decide +kernel
theorem dX9_commonRoots_2 : decode cX9_commonRoots 2 = .ok (.getfield 20, 3) := by decide +kernel
theorem dX9_commonRoots_5 : decode cX9_commonRoots 5 = .ok (.getfield 68, 3) := by decide +kernel
theorem dX9_commonRoots_8 : decode cX9_commonRoots 8 = .ok (.iconst 1, 1) := by decide +kernel
theorem dX9_commonRoots_9 : decode cX9_commonRoots 9 = .ok (.isub, 1) := by decide +kernel
theorem dX9_commonRoots_10 : decode cX9_commonRoots 10 = .ok (.invokestatic 84, 3) := by decide +kernel
theorem dX9_commonRoots_13 : decode cX9_commonRoots 13 = .ok (.ifCond .eq 5, 3) := by decide +kernel
theorem dX9_commonRoots_16 : decode cX9_commonRoots 16 = .ok (.iconst (-1), 1) := by decide +kernel
theorem dX9_commonRoots_17 : decode cX9_commonRoots 17 = .ok (.ireturn, 1) := by decide +kernel
theorem dX9_commonRoots_18 : decode cX9_commonRoots 18 = .ok (.aload_n 0, 1) := by decide +kernel
theorem dX9_commonRoots_19 : decode cX9_commonRoots 19 = .ok (.getfield 43, 3) := by decide +kernel
theorem dX9_commonRoots_22 : decode cX9_commonRoots 22 = .ok (.iload_n 1, 1) := by decide +kernel
theorem dX9_commonRoots_23 : decode cX9_commonRoots 23 = .ok (.invokevirtual 218, 3) := by decide +kernel
theorem dX9_commonRoots_26 : decode cX9_commonRoots 26 = .ok (.aload_n 0, 1) := by decide +kernel
theorem dX9_commonRoots_27 : decode cX9_commonRoots 27 = .ok (.getfield 43, 3) := by decide +kernel
theorem dX9_commonRoots_30 : decode cX9_commonRoots 30 = .ok (.iload_n 1, 1) := by decide +kernel
theorem dX9_commonRoots_31 : decode cX9_commonRoots 31 = .ok (.invokevirtual 221, 3) := by decide +kernel
theorem dX9_commonRoots_34 : decode cX9_commonRoots 34 = .ok (.ireturn, 1) := by decide +kernel
theorem dX9_commonRoot_0 : decode cX9_commonRoot 0 = .ok (.iload_n 1, 1) := by decide +kernel
theorem dX9_commonRoot_1 : decode cX9_commonRoot 1 = .ok (.aload_n 0, 1) := by decide +kernel
theorem dX9_commonRoot_2 : decode cX9_commonRoot 2 = .ok (.getfield 20, 3) := by decide +kernel
theorem dX9_commonRoot_5 : decode cX9_commonRoot 5 = .ok (.getfield 68, 3) := by decide +kernel
theorem dX9_commonRoot_8 : decode cX9_commonRoot 8 = .ok (.iconst 1, 1) := by decide +kernel
theorem dX9_commonRoot_9 : decode cX9_commonRoot 9 = .ok (.isub, 1) := by decide +kernel
theorem dX9_commonRoot_10 : decode cX9_commonRoot 10 = .ok (.invokestatic 84, 3) := by decide +kernel
theorem dX9_commonRoot_13 : decode cX9_commonRoot 13 = .ok (.ifCond .ne 7, 3) := by decide +kernel
theorem dX9_commonRoot_16 : decode cX9_commonRoot 16 = .ok (.iload_n 2, 1) := by decide +kernel
theorem dX9_commonRoot_17 : decode cX9_commonRoot 17 = .ok (.ifCond .ge 5, 3) := by decide +kernel
theorem dX9_commonRoot_20 : decode cX9_commonRoot 20 = .ok (.iconst (-1), 1) := by decide +kernel
theorem dX9_commonRoot_21 : decode cX9_commonRoot 21 = .ok (.ireturn, 1) := by decide +kernel
theorem dX9_commonRoot_22 : decode cX9_commonRoot 22 = .ok (.aload_n 0, 1) := by decide +kernel
theorem dX9_commonRoot_23 : decode cX9_commonRoot 23 = .ok (.getfield 43, 3) := by decide +kernel
theorem dX9_commonRoot_26 : decode cX9_commonRoot 26 = .ok (.iload_n 1, 1) := by decide +kernel
theorem dX9_commonRoot_27 : decode cX9_commonRoot 27 = .ok (.invokevirtual 218, 3) := by decide +kernel
theorem dX9_commonRoot_30 : decode cX9_commonRoot 30 = .ok (.aload_n 0, 1) := by decide +kernel
theorem dX9_commonRoot_31 : decode cX9_commonRoot 31 = .ok (.getfield 43, 3) := by decide +kernel
theorem dX9_commonRoot_34 : decode cX9_commonRoot 34 = .ok (.iload_n 1, 1) := by decide +kernel
theorem dX9_commonRoot_35 : decode cX9_commonRoot 35 = .ok (.iload_n 2, 1) := by decide +kernel
theorem dX9_commonRoot_36 : decode cX9_commonRoot 36 = .ok (.invokevirtual 224, 3) := by decide +kernel
theorem dX9_commonRoot_39 : decode cX9_commonRoot 39 = .ok (.ireturn, 1) := by decide +kernel
theorem dX9_solvable_0 : decode cX9_solvable 0 = .ok (.iconst 0, 1) := by decide +kernel
theorem dX9_solvable_1 : decode cX9_solvable 1 = .ok (.istore_n 1, 1) := by decide +kernel
theorem dX9_solvable_2 : decode cX9_solvable 2 = .ok (.iconst 0, 1) := by decide +kernel
theorem dX9_solvable_3 : decode cX9_solvable 3 = .ok (.istore_n 2, 1) := by decide +kernel
theorem dX9_solvable_4 : decode cX9_solvable 4 = .ok (.iload_n 2, 1) := by decide +kernel
theorem dX9_solvable_5 : decode cX9_solvable 5 = .ok (.aload_n 0, 1) := by decide +kernel
theorem dX9_solvable_6 : decode cX9_solvable 6 = .ok (.getfield 20, 3) := by decide +kernel
theorem dX9_solvable_9 : decode cX9_solvable 9 = .ok (.getfield 68, 3) := by decide +kernel
theorem dX9_solvable_12 : decode cX9_solvable 12 = .ok (.if_icmp .ge 34, 3) := by decide +kernel
theorem dX9_solvable_15 : decode cX9_solvable 15 = .ok (.aload_n 0, 1) := by decide +kernel
theorem dX9_solvable_16 : decode cX9_solvable 16 = .ok (.getfield 43, 3) := by decide +kernel
theorem dX9_solvable_19 : decode cX9_solvable 19 = .ok (.iload_n 2, 1) := by decide +kernel
theorem dX9_solvable_20 : decode cX9_solvable 20 = .ok (.invokevirtual 218, 3) := by decide +kernel
theorem dX9_solvable_23 : decode cX9_solvable 23 = .ok (.aload_n 0, 1) := by decide +kernel
theorem dX9_solvable_24 : decode cX9_solvable 24 = .ok (.getfield 43, 3) := by decide +kernel
theorem dX9_solvable_27 : decode cX9_solvable 27 = .ok (.iload_n 2, 1) := by decide +kernel
theorem dX9_solvable_28 : decode cX9_solvable 28 = .ok (.invokevirtual 221, 3) := by decide +kernel
theorem dX9_solvable_31 : decode cX9_solvable 31 = .ok (.ifCond .le 9, 3) := by decide +kernel
theorem dX9_solvable_34 : decode cX9_solvable 34 = .ok (.iload_n 1, 1) := by decide +kernel
theorem dX9_solvable_35 : decode cX9_solvable 35 = .ok (.iconst 1, 1) := by decide +kernel
theorem dX9_solvable_36 : decode cX9_solvable 36 = .ok (.iload_n 2, 1) := by decide +kernel
theorem dX9_solvable_37 : decode cX9_solvable 37 = .ok (.ishl, 1) := by decide +kernel
theorem dX9_solvable_38 : decode cX9_solvable 38 = .ok (.ior, 1) := by decide +kernel
theorem dX9_solvable_39 : decode cX9_solvable 39 = .ok (.istore_n 1, 1) := by decide +kernel
theorem dX9_solvable_40 : decode cX9_solvable 40 = .ok (.iinc 2 1, 3) := by decide +kernel
theorem dX9_solvable_43 : decode cX9_solvable 43 = .ok (.goto (-39), 3) := by decide +kernel
theorem dX9_solvable_46 : decode cX9_solvable 46 = .ok (.iload_n 1, 1) := by decide +kernel
theorem dX9_solvable_47 : decode cX9_solvable 47 = .ok (.ireturn, 1) := by decide +kernel
theorem dX9_kernel_0 : decode cX9_kernel 0 = .ok (.iload_n 1, 1) := by decide +kernel
theorem dX9_kernel_1 : decode cX9_kernel 1 = .ok (.aload_n 0, 1) := by decide +kernel
theorem dX9_kernel_2 : decode cX9_kernel 2 = .ok (.getfield 20, 3) := by decide +kernel
theorem dX9_kernel_5 : decode cX9_kernel 5 = .ok (.getfield 68, 3) := by decide +kernel
theorem dX9_kernel_8 : decode cX9_kernel 8 = .ok (.iconst 1, 1) := by decide +kernel
theorem dX9_kernel_9 : decode cX9_kernel 9 = .ok (.isub, 1) := by decide +kernel
theorem dX9_kernel_10 : decode cX9_kernel 10 = .ok (.invokestatic 84, 3) := by decide +kernel
theorem dX9_kernel_13 : decode cX9_kernel 13 = .ok (.ifCond .eq 5, 3) := by decide +kernel
theorem dX9_kernel_16 : decode cX9_kernel 16 = .ok (.iconst (-1), 1) := by decide +kernel
theorem dX9_kernel_17 : decode cX9_kernel 17 = .ok (.ireturn, 1) := by decide +kernel
theorem dX9_kernel_18 : decode cX9_kernel 18 = .ok (.aload_n 0, 1) := by decide +kernel
theorem dX9_kernel_19 : decode cX9_kernel 19 = .ok (.invokevirtual 159, 3) := by decide +kernel
theorem dX9_kernel_22 : decode cX9_kernel 22 = .ok (.ifCond .eq 6, 3) := by decide +kernel
theorem dX9_kernel_25 : decode cX9_kernel 25 = .ok (.bipush (-2), 2) := by decide +kernel
theorem dX9_kernel_27 : decode cX9_kernel 27 = .ok (.ireturn, 1) := by decide +kernel
theorem dX9_kernel_28 : decode cX9_kernel 28 = .ok (.aload_n 0, 1) := by decide +kernel
theorem dX9_kernel_29 : decode cX9_kernel 29 = .ok (.getfield 51, 3) := by decide +kernel
theorem dX9_kernel_32 : decode cX9_kernel 32 = .ok (.iload_n 1, 1) := by decide +kernel
theorem dX9_kernel_33 : decode cX9_kernel 33 = .ok (.invokevirtual 177, 3) := by decide +kernel
theorem dX9_kernel_36 : decode cX9_kernel 36 = .ok (.aload_n 0, 1) := by decide +kernel
theorem dX9_kernel_37 : decode cX9_kernel 37 = .ok (.getfield 47, 3) := by decide +kernel
theorem dX9_kernel_40 : decode cX9_kernel 40 = .ok (.getfield 163, 3) := by decide +kernel
theorem dX9_kernel_43 : decode cX9_kernel 43 = .ok (.aload_n 0, 1) := by decide +kernel
theorem dX9_kernel_44 : decode cX9_kernel 44 = .ok (.getfield 51, 3) := by decide +kernel
theorem dX9_kernel_47 : decode cX9_kernel 47 = .ok (.iload_n 1, 1) := by decide +kernel
theorem dX9_kernel_48 : decode cX9_kernel 48 = .ok (.invokevirtual 180, 3) := by decide +kernel
theorem dX9_kernel_51 : decode cX9_kernel 51 = .ok (.isub, 1) := by decide +kernel
theorem dX9_kernel_52 : decode cX9_kernel 52 = .ok (.ireturn, 1) := by decide +kernel
theorem dX9_recovered_0 : decode cX9_recovered 0 = .ok (.iload_n 1, 1) := by decide +kernel
theorem dX9_recovered_1 : decode cX9_recovered 1 = .ok (.aload_n 0, 1) := by decide +kernel
theorem dX9_recovered_2 : decode cX9_recovered 2 = .ok (.getfield 20, 3) := by decide +kernel
theorem dX9_recovered_5 : decode cX9_recovered 5 = .ok (.getfield 68, 3) := by decide +kernel
theorem dX9_recovered_8 : decode cX9_recovered 8 = .ok (.iconst 1, 1) := by decide +kernel
theorem dX9_recovered_9 : decode cX9_recovered 9 = .ok (.isub, 1) := by decide +kernel
theorem dX9_recovered_10 : decode cX9_recovered 10 = .ok (.invokestatic 84, 3) := by decide +kernel
theorem dX9_recovered_13 : decode cX9_recovered 13 = .ok (.ifCond .eq 5, 3) := by decide +kernel
theorem dX9_recovered_16 : decode cX9_recovered 16 = .ok (.iconst (-1), 1) := by decide +kernel
theorem dX9_recovered_17 : decode cX9_recovered 17 = .ok (.ireturn, 1) := by decide +kernel
theorem dX9_recovered_18 : decode cX9_recovered 18 = .ok (.aload_n 0, 1) := by decide +kernel
theorem dX9_recovered_19 : decode cX9_recovered 19 = .ok (.invokevirtual 159, 3) := by decide +kernel
theorem dX9_recovered_22 : decode cX9_recovered 22 = .ok (.ifCond .eq 6, 3) := by decide +kernel
theorem dX9_recovered_25 : decode cX9_recovered 25 = .ok (.bipush (-2), 2) := by decide +kernel
theorem dX9_recovered_27 : decode cX9_recovered 27 = .ok (.ireturn, 1) := by decide +kernel
theorem dX9_recovered_28 : decode cX9_recovered 28 = .ok (.aload_n 0, 1) := by decide +kernel
theorem dX9_recovered_29 : decode cX9_recovered 29 = .ok (.getfield 51, 3) := by decide +kernel
theorem dX9_recovered_32 : decode cX9_recovered 32 = .ok (.iload_n 1, 1) := by decide +kernel
theorem dX9_recovered_33 : decode cX9_recovered 33 = .ok (.invokevirtual 177, 3) := by decide +kernel
theorem dX9_recovered_36 : decode cX9_recovered 36 = .ok (.aload_n 0, 1) := by decide +kernel
theorem dX9_recovered_37 : decode cX9_recovered 37 = .ok (.getfield 51, 3) := by decide +kernel
theorem dX9_recovered_40 : decode cX9_recovered 40 = .ok (.iload_n 1, 1) := by decide +kernel
theorem dX9_recovered_41 : decode cX9_recovered 41 = .ok (.iload_n 2, 1) := by decide +kernel
theorem dX9_recovered_42 : decode cX9_recovered 42 = .ok (.invokevirtual 227, 3) := by decide +kernel
theorem dX9_recovered_45 : decode cX9_recovered 45 = .ok (.ireturn, 1) := by decide +kernel
theorem dX9_confirmed_0 : decode cX9_confirmed 0 = .ok (.iload_n 1, 1) := by decide +kernel
theorem dX9_confirmed_1 : decode cX9_confirmed 1 = .ok (.aload_n 0, 1) := by decide +kernel
theorem dX9_confirmed_2 : decode cX9_confirmed 2 = .ok (.getfield 20, 3) := by decide +kernel
theorem dX9_confirmed_5 : decode cX9_confirmed 5 = .ok (.getfield 68, 3) := by decide +kernel
theorem dX9_confirmed_8 : decode cX9_confirmed 8 = .ok (.iconst 1, 1) := by decide +kernel
theorem dX9_confirmed_9 : decode cX9_confirmed 9 = .ok (.isub, 1) := by decide +kernel
theorem dX9_confirmed_10 : decode cX9_confirmed 10 = .ok (.invokestatic 84, 3) := by decide +kernel
theorem dX9_confirmed_13 : decode cX9_confirmed 13 = .ok (.ifCond .eq 5, 3) := by decide +kernel
theorem dX9_confirmed_16 : decode cX9_confirmed 16 = .ok (.iconst (-1), 1) := by decide +kernel
theorem dX9_confirmed_17 : decode cX9_confirmed 17 = .ok (.ireturn, 1) := by decide +kernel
theorem dX9_confirmed_18 : decode cX9_confirmed 18 = .ok (.aload_n 0, 1) := by decide +kernel
theorem dX9_confirmed_19 : decode cX9_confirmed 19 = .ok (.invokevirtual 159, 3) := by decide +kernel
theorem dX9_confirmed_22 : decode cX9_confirmed 22 = .ok (.ifCond .eq 6, 3) := by decide +kernel
theorem dX9_confirmed_25 : decode cX9_confirmed 25 = .ok (.bipush (-2), 2) := by decide +kernel
theorem dX9_confirmed_27 : decode cX9_confirmed 27 = .ok (.ireturn, 1) := by decide +kernel
theorem dX9_confirmed_28 : decode cX9_confirmed 28 = .ok (.aload_n 0, 1) := by decide +kernel
theorem dX9_confirmed_29 : decode cX9_confirmed 29 = .ok (.getfield 51, 3) := by decide +kernel
theorem dX9_confirmed_32 : decode cX9_confirmed 32 = .ok (.iload_n 1, 1) := by decide +kernel
theorem dX9_confirmed_33 : decode cX9_confirmed 33 = .ok (.invokevirtual 177, 3) := by decide +kernel
theorem dX9_confirmed_36 : decode cX9_confirmed 36 = .ok (.aload_n 0, 1) := by decide +kernel
theorem dX9_confirmed_37 : decode cX9_confirmed 37 = .ok (.getfield 51, 3) := by decide +kernel
theorem dX9_confirmed_40 : decode cX9_confirmed 40 = .ok (.iload_n 1, 1) := by decide +kernel
theorem dX9_confirmed_41 : decode cX9_confirmed 41 = .ok (.iconst 0, 1) := by decide +kernel
theorem dX9_confirmed_42 : decode cX9_confirmed 42 = .ok (.invokevirtual 227, 3) := by decide +kernel
theorem dX9_confirmed_45 : decode cX9_confirmed 45 = .ok (.istore_n 2, 1) := by decide +kernel
theorem dX9_confirmed_46 : decode cX9_confirmed 46 = .ok (.aload_n 0, 1) := by decide +kernel
theorem dX9_confirmed_47 : decode cX9_confirmed 47 = .ok (.getfield 51, 3) := by decide +kernel
theorem dX9_confirmed_50 : decode cX9_confirmed 50 = .ok (.iload_n 1, 1) := by decide +kernel
theorem dX9_confirmed_51 : decode cX9_confirmed 51 = .ok (.iconst 1, 1) := by decide +kernel
theorem dX9_confirmed_52 : decode cX9_confirmed 52 = .ok (.invokevirtual 227, 3) := by decide +kernel
theorem dX9_confirmed_55 : decode cX9_confirmed 55 = .ok (.istore_n 3, 1) := by decide +kernel
theorem dX9_confirmed_56 : decode cX9_confirmed 56 = .ok (.iload_n 2, 1) := by decide +kernel
theorem dX9_confirmed_57 : decode cX9_confirmed 57 = .ok (.bipush (-9), 2) := by decide +kernel
theorem dX9_confirmed_59 : decode cX9_confirmed 59 = .ok (.if_icmp .eq 9, 3) := by decide +kernel
theorem dX9_confirmed_62 : decode cX9_confirmed 62 = .ok (.iload_n 3, 1) := by decide +kernel
theorem dX9_confirmed_63 : decode cX9_confirmed 63 = .ok (.bipush (-9), 2) := by decide +kernel
theorem dX9_confirmed_65 : decode cX9_confirmed 65 = .ok (.if_icmp .ne 5, 3) := by decide +kernel
theorem dX9_confirmed_68 : decode cX9_confirmed 68 = .ok (.iconst 0, 1) := by decide +kernel
theorem dX9_confirmed_69 : decode cX9_confirmed 69 = .ok (.ireturn, 1) := by decide +kernel
theorem dX9_confirmed_70 : decode cX9_confirmed 70 = .ok (.aload_n 0, 1) := by decide +kernel
theorem dX9_confirmed_71 : decode cX9_confirmed 71 = .ok (.getfield 20, 3) := by decide +kernel
theorem dX9_confirmed_74 : decode cX9_confirmed 74 = .ok (.iconst 0, 1) := by decide +kernel
theorem dX9_confirmed_75 : decode cX9_confirmed 75 = .ok (.iload_n 2, 1) := by decide +kernel
theorem dX9_confirmed_76 : decode cX9_confirmed 76 = .ok (.iload_n 3, 1) := by decide +kernel
theorem dX9_confirmed_77 : decode cX9_confirmed 77 = .ok (.iload_n 1, 1) := by decide +kernel
theorem dX9_confirmed_78 : decode cX9_confirmed 78 = .ok (.invokevirtual 127, 3) := by decide +kernel
theorem dX9_confirmed_81 : decode cX9_confirmed 81 = .ok (.ifCond .ne 35, 3) := by decide +kernel
theorem dX9_confirmed_84 : decode cX9_confirmed 84 = .ok (.aload_n 0, 1) := by decide +kernel
theorem dX9_confirmed_85 : decode cX9_confirmed 85 = .ok (.getfield 20, 3) := by decide +kernel
theorem dX9_confirmed_88 : decode cX9_confirmed 88 = .ok (.iconst 1, 1) := by decide +kernel
theorem dX9_confirmed_89 : decode cX9_confirmed 89 = .ok (.iload_n 2, 1) := by decide +kernel
theorem dX9_confirmed_90 : decode cX9_confirmed 90 = .ok (.iload_n 3, 1) := by decide +kernel
theorem dX9_confirmed_91 : decode cX9_confirmed 91 = .ok (.iload_n 1, 1) := by decide +kernel
theorem dX9_confirmed_92 : decode cX9_confirmed 92 = .ok (.invokevirtual 127, 3) := by decide +kernel
theorem dX9_confirmed_95 : decode cX9_confirmed 95 = .ok (.ifCond .ne 21, 3) := by decide +kernel
theorem dX9_confirmed_98 : decode cX9_confirmed 98 = .ok (.aload_n 0, 1) := by decide +kernel
theorem dX9_confirmed_99 : decode cX9_confirmed 99 = .ok (.getfield 20, 3) := by decide +kernel
theorem dX9_confirmed_102 : decode cX9_confirmed 102 = .ok (.iconst 2, 1) := by decide +kernel
theorem dX9_confirmed_103 : decode cX9_confirmed 103 = .ok (.iload_n 2, 1) := by decide +kernel
theorem dX9_confirmed_104 : decode cX9_confirmed 104 = .ok (.iload_n 3, 1) := by decide +kernel
theorem dX9_confirmed_105 : decode cX9_confirmed 105 = .ok (.iload_n 1, 1) := by decide +kernel
theorem dX9_confirmed_106 : decode cX9_confirmed 106 = .ok (.invokevirtual 127, 3) := by decide +kernel
theorem dX9_confirmed_109 : decode cX9_confirmed 109 = .ok (.ifCond .ne 7, 3) := by decide +kernel
theorem dX9_confirmed_112 : decode cX9_confirmed 112 = .ok (.iconst 1, 1) := by decide +kernel
theorem dX9_confirmed_113 : decode cX9_confirmed 113 = .ok (.goto 4, 3) := by decide +kernel
theorem dX9_confirmed_116 : decode cX9_confirmed 116 = .ok (.iconst 0, 1) := by decide +kernel
theorem dX9_confirmed_117 : decode cX9_confirmed 117 = .ok (.istore 4, 2) := by decide +kernel
theorem dX9_confirmed_119 : decode cX9_confirmed 119 = .ok (.iload 4, 2) := by decide +kernel
theorem dX9_confirmed_121 : decode cX9_confirmed 121 = .ok (.ifCond .eq 7, 3) := by decide +kernel
theorem dX9_confirmed_124 : decode cX9_confirmed 124 = .ok (.iconst 1, 1) := by decide +kernel
theorem dX9_confirmed_125 : decode cX9_confirmed 125 = .ok (.goto 4, 3) := by decide +kernel
theorem dX9_confirmed_128 : decode cX9_confirmed 128 = .ok (.iconst 0, 1) := by decide +kernel
theorem dX9_confirmed_129 : decode cX9_confirmed 129 = .ok (.ireturn, 1) := by decide +kernel
theorem dX9_undo_0 : decode cX9_undo 0 = .ok (.aload_n 0, 1) := by decide +kernel
theorem dX9_undo_1 : decode cX9_undo 1 = .ok (.getfield 29, 3) := by decide +kernel
theorem dX9_undo_4 : decode cX9_undo 4 = .ok (.getfield 231, 3) := by decide +kernel
theorem dX9_undo_7 : decode cX9_undo 7 = .ok (.ifCond .ne 6, 3) := by decide +kernel
theorem dX9_undo_10 : decode cX9_undo 10 = .ok (.bipush (-2), 2) := by decide +kernel
theorem dX9_undo_12 : decode cX9_undo 12 = .ok (.ireturn, 1) := by decide +kernel
theorem dX9_undo_13 : decode cX9_undo 13 = .ok (.aload_n 0, 1) := by decide +kernel
theorem dX9_undo_14 : decode cX9_undo 14 = .ok (.getfield 29, 3) := by decide +kernel
theorem dX9_undo_17 : decode cX9_undo 17 = .ok (.aload_n 0, 1) := by decide +kernel
theorem dX9_undo_18 : decode cX9_undo 18 = .ok (.getfield 20, 3) := by decide +kernel
theorem dX9_undo_21 : decode cX9_undo 21 = .ok (.invokevirtual 234, 3) := by decide +kernel
theorem dX9_undo_24 : decode cX9_undo 24 = .ok (.aload_n 0, 1) := by decide +kernel
theorem dX9_undo_25 : decode cX9_undo 25 = .ok (.invokevirtual 237, 3) := by decide +kernel
theorem dX9_undo_28 : decode cX9_undo 28 = .ok (.aload_n 0, 1) := by decide +kernel
theorem dX9_undo_29 : decode cX9_undo 29 = .ok (.getfield 29, 3) := by decide +kernel
theorem dX9_undo_32 : decode cX9_undo 32 = .ok (.getfield 231, 3) := by decide +kernel
theorem dX9_undo_35 : decode cX9_undo 35 = .ok (.ireturn, 1) := by decide +kernel
theorem dX9_count_0 : decode cX9_count 0 = .ok (.iload_n 1, 1) := by decide +kernel
theorem dX9_count_1 : decode cX9_count 1 = .ok (.tableswitch 98 0 6 #[43, 51, 60, 69, 77, 85, 93], 43) := by decide +kernel
theorem dX9_count_44 : decode cX9_count 44 = .ok (.aload_n 0, 1) := by decide +kernel
theorem dX9_count_45 : decode cX9_count 45 = .ok (.getfield 20, 3) := by decide +kernel
theorem dX9_count_48 : decode cX9_count 48 = .ok (.getfield 68, 3) := by decide +kernel
theorem dX9_count_51 : decode cX9_count 51 = .ok (.ireturn, 1) := by decide +kernel
theorem dX9_count_52 : decode cX9_count 52 = .ok (.aload_n 0, 1) := by decide +kernel
theorem dX9_count_53 : decode cX9_count 53 = .ok (.getfield 20, 3) := by decide +kernel
theorem dX9_count_56 : decode cX9_count 56 = .ok (.iconst 0, 1) := by decide +kernel
theorem dX9_count_57 : decode cX9_count 57 = .ok (.invokevirtual 240, 3) := by decide +kernel
theorem dX9_count_60 : decode cX9_count 60 = .ok (.ireturn, 1) := by decide +kernel
theorem dX9_count_61 : decode cX9_count 61 = .ok (.aload_n 0, 1) := by decide +kernel
theorem dX9_count_62 : decode cX9_count 62 = .ok (.getfield 20, 3) := by decide +kernel
theorem dX9_count_65 : decode cX9_count 65 = .ok (.iconst 1, 1) := by decide +kernel
theorem dX9_count_66 : decode cX9_count 66 = .ok (.invokevirtual 240, 3) := by decide +kernel
theorem dX9_count_69 : decode cX9_count 69 = .ok (.ireturn, 1) := by decide +kernel
theorem dX9_count_70 : decode cX9_count 70 = .ok (.aload_n 0, 1) := by decide +kernel
theorem dX9_count_71 : decode cX9_count 71 = .ok (.getfield 36, 3) := by decide +kernel
theorem dX9_count_74 : decode cX9_count 74 = .ok (.getfield 81, 3) := by decide +kernel
theorem dX9_count_77 : decode cX9_count 77 = .ok (.ireturn, 1) := by decide +kernel
theorem dX9_count_78 : decode cX9_count 78 = .ok (.aload_n 0, 1) := by decide +kernel
theorem dX9_count_79 : decode cX9_count 79 = .ok (.getfield 29, 3) := by decide +kernel
theorem dX9_count_82 : decode cX9_count 82 = .ok (.getfield 231, 3) := by decide +kernel
theorem dX9_count_85 : decode cX9_count 85 = .ok (.ireturn, 1) := by decide +kernel
theorem dX9_count_86 : decode cX9_count 86 = .ok (.aload_n 0, 1) := by decide +kernel
theorem dX9_count_87 : decode cX9_count 87 = .ok (.getfield 20, 3) := by decide +kernel
theorem dX9_count_90 : decode cX9_count 90 = .ok (.invokevirtual 123, 3) := by decide +kernel
theorem dX9_count_93 : decode cX9_count 93 = .ok (.ireturn, 1) := by decide +kernel
theorem dX9_count_94 : decode cX9_count 94 = .ok (.aload_n 0, 1) := by decide +kernel
theorem dX9_count_95 : decode cX9_count 95 = .ok (.invokevirtual 243, 3) := by decide +kernel
theorem dX9_count_98 : decode cX9_count 98 = .ok (.ireturn, 1) := by decide +kernel
theorem dX9_count_99 : decode cX9_count 99 = .ok (.iconst (-1), 1) := by decide +kernel
theorem dX9_count_100 : decode cX9_count 100 = .ok (.ireturn, 1) := by decide +kernel
theorem dX9_digest_0 : decode cX9_digest 0 = .ok (.ldc2_w 246, 3) := by decide +kernel
theorem dX9_digest_3 : decode cX9_digest 3 = .ok (.lstore_n 1, 1) := by decide +kernel
theorem dX9_digest_4 : decode cX9_digest 4 = .ok (.iconst 0, 1) := by decide +kernel
theorem dX9_digest_5 : decode cX9_digest 5 = .ok (.istore_n 3, 1) := by decide +kernel
theorem dX9_digest_6 : decode cX9_digest 6 = .ok (.iload_n 3, 1) := by decide +kernel
theorem dX9_digest_7 : decode cX9_digest 7 = .ok (.bipush 6, 2) := by decide +kernel
theorem dX9_digest_9 : decode cX9_digest 9 = .ok (.if_icmp .gt 22, 3) := by decide +kernel
theorem dX9_digest_12 : decode cX9_digest 12 = .ok (.ldc2_w 248, 3) := by decide +kernel
theorem dX9_digest_15 : decode cX9_digest 15 = .ok (.lload_n 1, 1) := by decide +kernel
theorem dX9_digest_16 : decode cX9_digest 16 = .ok (.lmul, 1) := by decide +kernel
theorem dX9_digest_17 : decode cX9_digest 17 = .ok (.aload_n 0, 1) := by decide +kernel
theorem dX9_digest_18 : decode cX9_digest 18 = .ok (.iload_n 3, 1) := by decide +kernel
theorem dX9_digest_19 : decode cX9_digest 19 = .ok (.invokevirtual 250, 3) := by decide +kernel
theorem dX9_digest_22 : decode cX9_digest 22 = .ok (.i2l, 1) := by decide +kernel
theorem dX9_digest_23 : decode cX9_digest 23 = .ok (.ladd, 1) := by decide +kernel
theorem dX9_digest_24 : decode cX9_digest 24 = .ok (.lstore_n 1, 1) := by decide +kernel
theorem dX9_digest_25 : decode cX9_digest 25 = .ok (.iinc 3 1, 3) := by decide +kernel
theorem dX9_digest_28 : decode cX9_digest 28 = .ok (.goto (-22), 3) := by decide +kernel
theorem dX9_digest_31 : decode cX9_digest 31 = .ok (.ldc2_w 248, 3) := by decide +kernel
theorem dX9_digest_34 : decode cX9_digest 34 = .ok (.lload_n 1, 1) := by decide +kernel
theorem dX9_digest_35 : decode cX9_digest 35 = .ok (.lmul, 1) := by decide +kernel
theorem dX9_digest_36 : decode cX9_digest 36 = .ok (.aload_n 0, 1) := by decide +kernel
theorem dX9_digest_37 : decode cX9_digest 37 = .ok (.invokevirtual 253, 3) := by decide +kernel
theorem dX9_digest_40 : decode cX9_digest 40 = .ok (.i2l, 1) := by decide +kernel
theorem dX9_digest_41 : decode cX9_digest 41 = .ok (.ladd, 1) := by decide +kernel
theorem dX9_digest_42 : decode cX9_digest 42 = .ok (.lstore_n 1, 1) := by decide +kernel
theorem dX9_digest_43 : decode cX9_digest 43 = .ok (.ldc2_w 248, 3) := by decide +kernel
theorem dX9_digest_46 : decode cX9_digest 46 = .ok (.lload_n 1, 1) := by decide +kernel
theorem dX9_digest_47 : decode cX9_digest 47 = .ok (.lmul, 1) := by decide +kernel
theorem dX9_digest_48 : decode cX9_digest 48 = .ok (.aload_n 0, 1) := by decide +kernel
theorem dX9_digest_49 : decode cX9_digest 49 = .ok (.invokevirtual 256, 3) := by decide +kernel
theorem dX9_digest_52 : decode cX9_digest 52 = .ok (.i2l, 1) := by decide +kernel
theorem dX9_digest_53 : decode cX9_digest 53 = .ok (.ladd, 1) := by decide +kernel
theorem dX9_digest_54 : decode cX9_digest 54 = .ok (.lstore_n 1, 1) := by decide +kernel
theorem dX9_digest_55 : decode cX9_digest 55 = .ok (.ldc2_w 248, 3) := by decide +kernel
theorem dX9_digest_58 : decode cX9_digest 58 = .ok (.lload_n 1, 1) := by decide +kernel
theorem dX9_digest_59 : decode cX9_digest 59 = .ok (.lmul, 1) := by decide +kernel
theorem dX9_digest_60 : decode cX9_digest 60 = .ok (.aload_n 0, 1) := by decide +kernel
theorem dX9_digest_61 : decode cX9_digest 61 = .ok (.invokevirtual 259, 3) := by decide +kernel
theorem dX9_digest_64 : decode cX9_digest 64 = .ok (.i2l, 1) := by decide +kernel
theorem dX9_digest_65 : decode cX9_digest 65 = .ok (.ladd, 1) := by decide +kernel
theorem dX9_digest_66 : decode cX9_digest 66 = .ok (.lstore_n 1, 1) := by decide +kernel
theorem dX9_digest_67 : decode cX9_digest 67 = .ok (.aload_n 0, 1) := by decide +kernel
theorem dX9_digest_68 : decode cX9_digest 68 = .ok (.invokevirtual 159, 3) := by decide +kernel
theorem dX9_digest_71 : decode cX9_digest 71 = .ok (.ifCond .eq 5, 3) := by decide +kernel
theorem dX9_digest_74 : decode cX9_digest 74 = .ok (.lload_n 1, 1) := by decide +kernel
theorem dX9_digest_75 : decode cX9_digest 75 = .ok (.lreturn, 1) := by decide +kernel
theorem dX9_digest_76 : decode cX9_digest 76 = .ok (.ldc2_w 248, 3) := by decide +kernel
theorem dX9_digest_79 : decode cX9_digest 79 = .ok (.lload_n 1, 1) := by decide +kernel
theorem dX9_digest_80 : decode cX9_digest 80 = .ok (.lmul, 1) := by decide +kernel
theorem dX9_digest_81 : decode cX9_digest 81 = .ok (.aload_n 0, 1) := by decide +kernel
theorem dX9_digest_82 : decode cX9_digest 82 = .ok (.invokevirtual 262, 3) := by decide +kernel
theorem dX9_digest_85 : decode cX9_digest 85 = .ok (.i2l, 1) := by decide +kernel
theorem dX9_digest_86 : decode cX9_digest 86 = .ok (.ladd, 1) := by decide +kernel
theorem dX9_digest_87 : decode cX9_digest 87 = .ok (.lstore_n 1, 1) := by decide +kernel
theorem dX9_digest_88 : decode cX9_digest 88 = .ok (.ldc2_w 248, 3) := by decide +kernel
theorem dX9_digest_91 : decode cX9_digest 91 = .ok (.lload_n 1, 1) := by decide +kernel
theorem dX9_digest_92 : decode cX9_digest 92 = .ok (.lmul, 1) := by decide +kernel
theorem dX9_digest_93 : decode cX9_digest 93 = .ok (.aload_n 0, 1) := by decide +kernel
theorem dX9_digest_94 : decode cX9_digest 94 = .ok (.invokevirtual 265, 3) := by decide +kernel
theorem dX9_digest_97 : decode cX9_digest 97 = .ok (.i2l, 1) := by decide +kernel
theorem dX9_digest_98 : decode cX9_digest 98 = .ok (.ladd, 1) := by decide +kernel
theorem dX9_digest_99 : decode cX9_digest 99 = .ok (.lstore_n 1, 1) := by decide +kernel
theorem dX9_digest_100 : decode cX9_digest 100 = .ok (.ldc2_w 248, 3) := by decide +kernel
theorem dX9_digest_103 : decode cX9_digest 103 = .ok (.lload_n 1, 1) := by decide +kernel
theorem dX9_digest_104 : decode cX9_digest 104 = .ok (.lmul, 1) := by decide +kernel
theorem dX9_digest_105 : decode cX9_digest 105 = .ok (.aload_n 0, 1) := by decide +kernel
theorem dX9_digest_106 : decode cX9_digest 106 = .ok (.iconst 1, 1) := by decide +kernel
theorem dX9_digest_107 : decode cX9_digest 107 = .ok (.invokevirtual 268, 3) := by decide +kernel
theorem dX9_digest_110 : decode cX9_digest 110 = .ok (.i2l, 1) := by decide +kernel
theorem dX9_digest_111 : decode cX9_digest 111 = .ok (.ladd, 1) := by decide +kernel
theorem dX9_digest_112 : decode cX9_digest 112 = .ok (.lstore_n 1, 1) := by decide +kernel
theorem dX9_digest_113 : decode cX9_digest 113 = .ok (.ldc2_w 248, 3) := by decide +kernel
theorem dX9_digest_116 : decode cX9_digest 116 = .ok (.lload_n 1, 1) := by decide +kernel
theorem dX9_digest_117 : decode cX9_digest 117 = .ok (.lmul, 1) := by decide +kernel
theorem dX9_digest_118 : decode cX9_digest 118 = .ok (.aload_n 0, 1) := by decide +kernel
theorem dX9_digest_119 : decode cX9_digest 119 = .ok (.iconst 0, 1) := by decide +kernel
theorem dX9_digest_120 : decode cX9_digest 120 = .ok (.invokevirtual 268, 3) := by decide +kernel
theorem dX9_digest_123 : decode cX9_digest 123 = .ok (.i2l, 1) := by decide +kernel
theorem dX9_digest_124 : decode cX9_digest 124 = .ok (.ladd, 1) := by decide +kernel
theorem dX9_digest_125 : decode cX9_digest 125 = .ok (.lstore_n 1, 1) := by decide +kernel
theorem dX9_digest_126 : decode cX9_digest 126 = .ok (.ldc2_w 248, 3) := by decide +kernel
theorem dX9_digest_129 : decode cX9_digest 129 = .ok (.lload_n 1, 1) := by decide +kernel
theorem dX9_digest_130 : decode cX9_digest 130 = .ok (.lmul, 1) := by decide +kernel
theorem dX9_digest_131 : decode cX9_digest 131 = .ok (.aload_n 0, 1) := by decide +kernel
theorem dX9_digest_132 : decode cX9_digest 132 = .ok (.invokevirtual 272, 3) := by decide +kernel
theorem dX9_digest_135 : decode cX9_digest 135 = .ok (.i2l, 1) := by decide +kernel
theorem dX9_digest_136 : decode cX9_digest 136 = .ok (.ladd, 1) := by decide +kernel
theorem dX9_digest_137 : decode cX9_digest 137 = .ok (.lstore_n 1, 1) := by decide +kernel
theorem dX9_digest_138 : decode cX9_digest 138 = .ok (.ldc2_w 248, 3) := by decide +kernel
theorem dX9_digest_141 : decode cX9_digest 141 = .ok (.lload_n 1, 1) := by decide +kernel
theorem dX9_digest_142 : decode cX9_digest 142 = .ok (.lmul, 1) := by decide +kernel
theorem dX9_digest_143 : decode cX9_digest 143 = .ok (.aload_n 0, 1) := by decide +kernel
theorem dX9_digest_144 : decode cX9_digest 144 = .ok (.invokevirtual 275, 3) := by decide +kernel
theorem dX9_digest_147 : decode cX9_digest 147 = .ok (.i2l, 1) := by decide +kernel
theorem dX9_digest_148 : decode cX9_digest 148 = .ok (.ladd, 1) := by decide +kernel
theorem dX9_digest_149 : decode cX9_digest 149 = .ok (.lstore_n 1, 1) := by decide +kernel
theorem dX9_digest_150 : decode cX9_digest 150 = .ok (.ldc2_w 248, 3) := by decide +kernel
theorem dX9_digest_153 : decode cX9_digest 153 = .ok (.lload_n 1, 1) := by decide +kernel
theorem dX9_digest_154 : decode cX9_digest 154 = .ok (.lmul, 1) := by decide +kernel
theorem dX9_digest_155 : decode cX9_digest 155 = .ok (.aload_n 0, 1) := by decide +kernel
theorem dX9_digest_156 : decode cX9_digest 156 = .ok (.invokevirtual 278, 3) := by decide +kernel
theorem dX9_digest_159 : decode cX9_digest 159 = .ok (.i2l, 1) := by decide +kernel
theorem dX9_digest_160 : decode cX9_digest 160 = .ok (.ladd, 1) := by decide +kernel
theorem dX9_digest_161 : decode cX9_digest 161 = .ok (.lstore_n 1, 1) := by decide +kernel
theorem dX9_digest_162 : decode cX9_digest 162 = .ok (.ldc2_w 248, 3) := by decide +kernel
theorem dX9_digest_165 : decode cX9_digest 165 = .ok (.lload_n 1, 1) := by decide +kernel
theorem dX9_digest_166 : decode cX9_digest 166 = .ok (.lmul, 1) := by decide +kernel
theorem dX9_digest_167 : decode cX9_digest 167 = .ok (.aload_n 0, 1) := by decide +kernel
theorem dX9_digest_168 : decode cX9_digest 168 = .ok (.iconst 0, 1) := by decide +kernel
theorem dX9_digest_169 : decode cX9_digest 169 = .ok (.invokevirtual 281, 3) := by decide +kernel
theorem dX9_digest_172 : decode cX9_digest 172 = .ok (.i2l, 1) := by decide +kernel
theorem dX9_digest_173 : decode cX9_digest 173 = .ok (.ladd, 1) := by decide +kernel
theorem dX9_digest_174 : decode cX9_digest 174 = .ok (.lstore_n 1, 1) := by decide +kernel
theorem dX9_digest_175 : decode cX9_digest 175 = .ok (.iconst 0, 1) := by decide +kernel
theorem dX9_digest_176 : decode cX9_digest 176 = .ok (.istore_n 3, 1) := by decide +kernel
theorem dX9_digest_177 : decode cX9_digest 177 = .ok (.iload_n 3, 1) := by decide +kernel
theorem dX9_digest_178 : decode cX9_digest 178 = .ok (.bipush 49, 2) := by decide +kernel
theorem dX9_digest_180 : decode cX9_digest 180 = .ok (.if_icmp .ge 23, 3) := by decide +kernel
theorem dX9_digest_183 : decode cX9_digest 183 = .ok (.ldc2_w 248, 3) := by decide +kernel
theorem dX9_digest_186 : decode cX9_digest 186 = .ok (.lload_n 1, 1) := by decide +kernel
theorem dX9_digest_187 : decode cX9_digest 187 = .ok (.lmul, 1) := by decide +kernel
theorem dX9_digest_188 : decode cX9_digest 188 = .ok (.aload_n 0, 1) := by decide +kernel
theorem dX9_digest_189 : decode cX9_digest 189 = .ok (.iconst 0, 1) := by decide +kernel
theorem dX9_digest_190 : decode cX9_digest 190 = .ok (.iload_n 3, 1) := by decide +kernel
theorem dX9_digest_191 : decode cX9_digest 191 = .ok (.invokevirtual 284, 3) := by decide +kernel
theorem dX9_digest_194 : decode cX9_digest 194 = .ok (.i2l, 1) := by decide +kernel
theorem dX9_digest_195 : decode cX9_digest 195 = .ok (.ladd, 1) := by decide +kernel
theorem dX9_digest_196 : decode cX9_digest 196 = .ok (.lstore_n 1, 1) := by decide +kernel
theorem dX9_digest_197 : decode cX9_digest 197 = .ok (.iinc 3 1, 3) := by decide +kernel
theorem dX9_digest_200 : decode cX9_digest 200 = .ok (.goto (-23), 3) := by decide +kernel
theorem dX9_digest_203 : decode cX9_digest 203 = .ok (.ldc2_w 248, 3) := by decide +kernel
theorem dX9_digest_206 : decode cX9_digest 206 = .ok (.lload_n 1, 1) := by decide +kernel
theorem dX9_digest_207 : decode cX9_digest 207 = .ok (.lmul, 1) := by decide +kernel
theorem dX9_digest_208 : decode cX9_digest 208 = .ok (.aload_n 0, 1) := by decide +kernel
theorem dX9_digest_209 : decode cX9_digest 209 = .ok (.iconst 1, 1) := by decide +kernel
theorem dX9_digest_210 : decode cX9_digest 210 = .ok (.invokevirtual 281, 3) := by decide +kernel
theorem dX9_digest_213 : decode cX9_digest 213 = .ok (.i2l, 1) := by decide +kernel
theorem dX9_digest_214 : decode cX9_digest 214 = .ok (.ladd, 1) := by decide +kernel
theorem dX9_digest_215 : decode cX9_digest 215 = .ok (.lstore_n 1, 1) := by decide +kernel
theorem dX9_digest_216 : decode cX9_digest 216 = .ok (.iconst 0, 1) := by decide +kernel
theorem dX9_digest_217 : decode cX9_digest 217 = .ok (.istore_n 3, 1) := by decide +kernel
theorem dX9_digest_218 : decode cX9_digest 218 = .ok (.iload_n 3, 1) := by decide +kernel
theorem dX9_digest_219 : decode cX9_digest 219 = .ok (.bipush 49, 2) := by decide +kernel
theorem dX9_digest_221 : decode cX9_digest 221 = .ok (.if_icmp .ge 23, 3) := by decide +kernel
theorem dX9_digest_224 : decode cX9_digest 224 = .ok (.ldc2_w 248, 3) := by decide +kernel
theorem dX9_digest_227 : decode cX9_digest 227 = .ok (.lload_n 1, 1) := by decide +kernel
theorem dX9_digest_228 : decode cX9_digest 228 = .ok (.lmul, 1) := by decide +kernel
theorem dX9_digest_229 : decode cX9_digest 229 = .ok (.aload_n 0, 1) := by decide +kernel
theorem dX9_digest_230 : decode cX9_digest 230 = .ok (.iconst 1, 1) := by decide +kernel
theorem dX9_digest_231 : decode cX9_digest 231 = .ok (.iload_n 3, 1) := by decide +kernel
theorem dX9_digest_232 : decode cX9_digest 232 = .ok (.invokevirtual 284, 3) := by decide +kernel
theorem dX9_digest_235 : decode cX9_digest 235 = .ok (.i2l, 1) := by decide +kernel
theorem dX9_digest_236 : decode cX9_digest 236 = .ok (.ladd, 1) := by decide +kernel
theorem dX9_digest_237 : decode cX9_digest 237 = .ok (.lstore_n 1, 1) := by decide +kernel
theorem dX9_digest_238 : decode cX9_digest 238 = .ok (.iinc 3 1, 3) := by decide +kernel
theorem dX9_digest_241 : decode cX9_digest 241 = .ok (.goto (-23), 3) := by decide +kernel
theorem dX9_digest_244 : decode cX9_digest 244 = .ok (.iconst 0, 1) := by decide +kernel
theorem dX9_digest_245 : decode cX9_digest 245 = .ok (.istore_n 3, 1) := by decide +kernel
theorem dX9_digest_246 : decode cX9_digest 246 = .ok (.iload_n 3, 1) := by decide +kernel
theorem dX9_digest_247 : decode cX9_digest 247 = .ok (.aload_n 0, 1) := by decide +kernel
theorem dX9_digest_248 : decode cX9_digest 248 = .ok (.getfield 20, 3) := by decide +kernel
theorem dX9_digest_251 : decode cX9_digest 251 = .ok (.getfield 68, 3) := by decide +kernel
theorem dX9_digest_254 : decode cX9_digest 254 = .ok (.if_icmp .ge 22, 3) := by decide +kernel
theorem dX9_digest_257 : decode cX9_digest 257 = .ok (.ldc2_w 248, 3) := by decide +kernel
theorem dX9_digest_260 : decode cX9_digest 260 = .ok (.lload_n 1, 1) := by decide +kernel
theorem dX9_digest_261 : decode cX9_digest 261 = .ok (.lmul, 1) := by decide +kernel
theorem dX9_digest_262 : decode cX9_digest 262 = .ok (.aload_n 0, 1) := by decide +kernel
theorem dX9_digest_263 : decode cX9_digest 263 = .ok (.iload_n 3, 1) := by decide +kernel
theorem dX9_digest_264 : decode cX9_digest 264 = .ok (.invokevirtual 288, 3) := by decide +kernel
theorem dX9_digest_267 : decode cX9_digest 267 = .ok (.i2l, 1) := by decide +kernel
theorem dX9_digest_268 : decode cX9_digest 268 = .ok (.ladd, 1) := by decide +kernel
theorem dX9_digest_269 : decode cX9_digest 269 = .ok (.lstore_n 1, 1) := by decide +kernel
theorem dX9_digest_270 : decode cX9_digest 270 = .ok (.iinc 3 1, 3) := by decide +kernel
theorem dX9_digest_273 : decode cX9_digest 273 = .ok (.goto (-27), 3) := by decide +kernel
theorem dX9_digest_276 : decode cX9_digest 276 = .ok (.lload_n 1, 1) := by decide +kernel
theorem dX9_digest_277 : decode cX9_digest 277 = .ok (.lreturn, 1) := by decide +kernel
theorem dX9_outside_0 : decode cX9_outside 0 = .ok (.iload_n 0, 1) := by decide +kernel
theorem dX9_outside_1 : decode cX9_outside 1 = .ok (.ifCond .lt 8, 3) := by decide +kernel
theorem dX9_outside_4 : decode cX9_outside 4 = .ok (.iload_n 0, 1) := by decide +kernel
theorem dX9_outside_5 : decode cX9_outside 5 = .ok (.iload_n 1, 1) := by decide +kernel
theorem dX9_outside_6 : decode cX9_outside 6 = .ok (.if_icmp .le 7, 3) := by decide +kernel
theorem dX9_outside_9 : decode cX9_outside 9 = .ok (.iconst 1, 1) := by decide +kernel
theorem dX9_outside_10 : decode cX9_outside 10 = .ok (.goto 4, 3) := by decide +kernel
theorem dX9_outside_13 : decode cX9_outside 13 = .ok (.iconst 0, 1) := by decide +kernel
theorem dX9_outside_14 : decode cX9_outside 14 = .ok (.ireturn, 1) := by decide +kernel
theorem dX9_noTerm_0 : decode cX9_noTerm 0 = .ok (.iload_n 0, 1) := by decide +kernel
theorem dX9_noTerm_1 : decode cX9_noTerm 1 = .ok (.iconst 2, 1) := by decide +kernel
theorem dX9_noTerm_2 : decode cX9_noTerm 2 = .ok (.invokestatic 84, 3) := by decide +kernel
theorem dX9_noTerm_5 : decode cX9_noTerm 5 = .ok (.ifCond .ne 27, 3) := by decide +kernel
theorem dX9_noTerm_8 : decode cX9_noTerm 8 = .ok (.iload_n 1, 1) := by decide +kernel
theorem dX9_noTerm_9 : decode cX9_noTerm 9 = .ok (.iconst 2, 1) := by decide +kernel
theorem dX9_noTerm_10 : decode cX9_noTerm 10 = .ok (.invokestatic 84, 3) := by decide +kernel
theorem dX9_noTerm_13 : decode cX9_noTerm 13 = .ok (.ifCond .ne 19, 3) := by decide +kernel
theorem dX9_noTerm_16 : decode cX9_noTerm 16 = .ok (.iload_n 2, 1) := by decide +kernel
theorem dX9_noTerm_17 : decode cX9_noTerm 17 = .ok (.iconst 2, 1) := by decide +kernel
theorem dX9_noTerm_18 : decode cX9_noTerm 18 = .ok (.invokestatic 84, 3) := by decide +kernel
theorem dX9_noTerm_21 : decode cX9_noTerm 21 = .ok (.ifCond .ne 11, 3) := by decide +kernel
theorem dX9_noTerm_24 : decode cX9_noTerm 24 = .ok (.iload_n 3, 1) := by decide +kernel
theorem dX9_noTerm_25 : decode cX9_noTerm 25 = .ok (.iconst 2, 1) := by decide +kernel
theorem dX9_noTerm_26 : decode cX9_noTerm 26 = .ok (.invokestatic 84, 3) := by decide +kernel
theorem dX9_noTerm_29 : decode cX9_noTerm 29 = .ok (.ifCond .eq 7, 3) := by decide +kernel
theorem dX9_noTerm_32 : decode cX9_noTerm 32 = .ok (.iconst 1, 1) := by decide +kernel
theorem dX9_noTerm_33 : decode cX9_noTerm 33 = .ok (.goto 4, 3) := by decide +kernel
theorem dX9_noTerm_36 : decode cX9_noTerm 36 = .ok (.iconst 0, 1) := by decide +kernel
theorem dX9_noTerm_37 : decode cX9_noTerm 37 = .ok (.ireturn, 1) := by decide +kernel
theorem dX9_place_0 : decode cX9_place 0 = .ok (.bipush 9, 2) := by decide +kernel
theorem dX9_place_2 : decode cX9_place 2 = .ok (.iload_n 0, 1) := by decide +kernel
theorem dX9_place_3 : decode cX9_place 3 = .ok (.imul, 1) := by decide +kernel
theorem dX9_place_4 : decode cX9_place 4 = .ok (.iconst 3, 1) := by decide +kernel
theorem dX9_place_5 : decode cX9_place 5 = .ok (.iload_n 1, 1) := by decide +kernel
theorem dX9_place_6 : decode cX9_place 6 = .ok (.imul, 1) := by decide +kernel
theorem dX9_place_7 : decode cX9_place 7 = .ok (.iadd, 1) := by decide +kernel
theorem dX9_place_8 : decode cX9_place 8 = .ok (.iload_n 2, 1) := by decide +kernel
theorem dX9_place_9 : decode cX9_place 9 = .ok (.iadd, 1) := by decide +kernel
theorem dX9_place_10 : decode cX9_place 10 = .ok (.ireturn, 1) := by decide +kernel
theorem dX9_isPrime_0 : decode cX9_isPrime 0 = .ok (.iload_n 0, 1) := by decide +kernel
theorem dX9_isPrime_1 : decode cX9_isPrime 1 = .ok (.tableswitch 125 5 31 #[123, 125, 123, 125, 125, 125, 123, 125, 123, 125, 125, 125, 123, 125, 123, 125, 125, 125, 123, 125, 125, 125, 125, 125, 123, 125, 123], 123) := by decide +kernel
theorem dX9_isPrime_124 : decode cX9_isPrime 124 = .ok (.iconst 1, 1) := by decide +kernel
theorem dX9_isPrime_125 : decode cX9_isPrime 125 = .ok (.ireturn, 1) := by decide +kernel
theorem dX9_isPrime_126 : decode cX9_isPrime 126 = .ok (.iconst 0, 1) := by decide +kernel
theorem dX9_isPrime_127 : decode cX9_isPrime 127 = .ok (.ireturn, 1) := by decide +kernel
theorem dX9_beginChange_0 : decode cX9_beginChange 0 = .ok (.aload_n 0, 1) := by decide +kernel
theorem dX9_beginChange_1 : decode cX9_beginChange 1 = .ok (.getfield 29, 3) := by decide +kernel
theorem dX9_beginChange_4 : decode cX9_beginChange 4 = .ok (.aload_n 0, 1) := by decide +kernel
theorem dX9_beginChange_5 : decode cX9_beginChange 5 = .ok (.getfield 20, 3) := by decide +kernel
theorem dX9_beginChange_8 : decode cX9_beginChange 8 = .ok (.invokevirtual 291, 3) := by decide +kernel
theorem dX9_beginChange_11 : decode cX9_beginChange 11 = .ok (.aload_n 0, 1) := by decide +kernel
theorem dX9_beginChange_12 : decode cX9_beginChange 12 = .ok (.invokevirtual 237, 3) := by decide +kernel
theorem dX9_beginChange_15 : decode cX9_beginChange 15 = .ok (.return_, 1) := by decide +kernel
theorem dX9_forgetResults_0 : decode cX9_forgetResults 0 = .ok (.aload_n 0, 1) := by decide +kernel
theorem dX9_forgetResults_1 : decode cX9_forgetResults 1 = .ok (.getfield 43, 3) := by decide +kernel
theorem dX9_forgetResults_4 : decode cX9_forgetResults 4 = .ok (.invokevirtual 294, 3) := by decide +kernel
theorem dX9_forgetResults_7 : decode cX9_forgetResults 7 = .ok (.aload_n 0, 1) := by decide +kernel
theorem dX9_forgetResults_8 : decode cX9_forgetResults 8 = .ok (.getfield 47, 3) := by decide +kernel
theorem dX9_forgetResults_11 : decode cX9_forgetResults 11 = .ok (.invokevirtual 297, 3) := by decide +kernel
theorem dX9_forgetResults_14 : decode cX9_forgetResults 14 = .ok (.aload_n 0, 1) := by decide +kernel
theorem dX9_forgetResults_15 : decode cX9_forgetResults 15 = .ok (.getfield 51, 3) := by decide +kernel
theorem dX9_forgetResults_18 : decode cX9_forgetResults 18 = .ok (.invokevirtual 298, 3) := by decide +kernel
theorem dX9_forgetResults_21 : decode cX9_forgetResults 21 = .ok (.aload_n 0, 1) := by decide +kernel
theorem dX9_forgetResults_22 : decode cX9_forgetResults 22 = .ok (.getfield 60, 3) := by decide +kernel
theorem dX9_forgetResults_25 : decode cX9_forgetResults 25 = .ok (.invokevirtual 299, 3) := by decide +kernel
theorem dX9_forgetResults_28 : decode cX9_forgetResults 28 = .ok (.return_, 1) := by decide +kernel
theorem dX9_noMatrix_0 : decode cX9_noMatrix 0 = .ok (.aload_n 0, 1) := by decide +kernel
theorem dX9_noMatrix_1 : decode cX9_noMatrix 1 = .ok (.getfield 47, 3) := by decide +kernel
theorem dX9_noMatrix_4 : decode cX9_noMatrix 4 = .ok (.getfield 300, 3) := by decide +kernel
theorem dX9_noMatrix_7 : decode cX9_noMatrix 7 = .ok (.ifCond .ne 17, 3) := by decide +kernel
theorem dX9_noMatrix_10 : decode cX9_noMatrix 10 = .ok (.aload_n 0, 1) := by decide +kernel
theorem dX9_noMatrix_11 : decode cX9_noMatrix 11 = .ok (.getfield 47, 3) := by decide +kernel
theorem dX9_noMatrix_14 : decode cX9_noMatrix 14 = .ok (.invokevirtual 304, 3) := by decide +kernel
theorem dX9_noMatrix_17 : decode cX9_noMatrix 17 = .ok (.aload_n 0, 1) := by decide +kernel
theorem dX9_noMatrix_18 : decode cX9_noMatrix 18 = .ok (.getfield 47, 3) := by decide +kernel
theorem dX9_noMatrix_21 : decode cX9_noMatrix 21 = .ok (.invokevirtual 307, 3) := by decide +kernel
theorem dX9_noMatrix_24 : decode cX9_noMatrix 24 = .ok (.aload_n 0, 1) := by decide +kernel
theorem dX9_noMatrix_25 : decode cX9_noMatrix 25 = .ok (.getfield 47, 3) := by decide +kernel
theorem dX9_noMatrix_28 : decode cX9_noMatrix 28 = .ok (.getfield 163, 3) := by decide +kernel
theorem dX9_noMatrix_31 : decode cX9_noMatrix 31 = .ok (.ifCond .ne 7, 3) := by decide +kernel
theorem dX9_noMatrix_34 : decode cX9_noMatrix 34 = .ok (.iconst 1, 1) := by decide +kernel
theorem dX9_noMatrix_35 : decode cX9_noMatrix 35 = .ok (.goto 4, 3) := by decide +kernel
theorem dX9_noMatrix_38 : decode cX9_noMatrix 38 = .ok (.iconst 0, 1) := by decide +kernel
theorem dX9_noMatrix_39 : decode cX9_noMatrix 39 = .ok (.ireturn, 1) := by decide +kernel
theorem dX9_form_0 : decode cX9_form 0 = .ok (.aload_n 0, 1) := by decide +kernel
theorem dX9_form_1 : decode cX9_form 1 = .ok (.getfield 51, 3) := by decide +kernel
theorem dX9_form_4 : decode cX9_form 4 = .ok (.invokevirtual 183, 3) := by decide +kernel
theorem dX9_form_7 : decode cX9_form 7 = .ok (.aload_n 0, 1) := by decide +kernel
theorem dX9_form_8 : decode cX9_form 8 = .ok (.getfield 60, 3) := by decide +kernel
theorem dX9_form_11 : decode cX9_form 11 = .ok (.invokevirtual 310, 3) := by decide +kernel
theorem dX9_form_14 : decode cX9_form 14 = .ok (.iload_n 1, 1) := by decide +kernel
theorem dX9_form_15 : decode cX9_form 15 = .ok (.ifCond .ne 11, 3) := by decide +kernel
theorem dX9_form_18 : decode cX9_form 18 = .ok (.aload_n 0, 1) := by decide +kernel
theorem dX9_form_19 : decode cX9_form 19 = .ok (.getfield 60, 3) := by decide +kernel
theorem dX9_form_22 : decode cX9_form 22 = .ok (.getfield 313, 3) := by decide +kernel
theorem dX9_form_25 : decode cX9_form 25 = .ok (.areturn, 1) := by decide +kernel
theorem dX9_form_26 : decode cX9_form 26 = .ok (.aload_n 0, 1) := by decide +kernel
theorem dX9_form_27 : decode cX9_form 27 = .ok (.getfield 60, 3) := by decide +kernel
theorem dX9_form_30 : decode cX9_form 30 = .ok (.aload_n 0, 1) := by decide +kernel
theorem dX9_form_31 : decode cX9_form 31 = .ok (.getfield 43, 3) := by decide +kernel
theorem dX9_form_34 : decode cX9_form 34 = .ok (.invokevirtual 316, 3) := by decide +kernel
theorem dX9_form_37 : decode cX9_form 37 = .ok (.aload_n 0, 1) := by decide +kernel
theorem dX9_form_38 : decode cX9_form 38 = .ok (.getfield 60, 3) := by decide +kernel
theorem dX9_form_41 : decode cX9_form 41 = .ok (.getfield 320, 3) := by decide +kernel
theorem dX9_form_44 : decode cX9_form 44 = .ok (.areturn, 1) := by decide +kernel
theorem dX9_countPairs_0 : decode cX9_countPairs 0 = .ok (.iconst 0, 1) := by decide +kernel
theorem dX9_countPairs_1 : decode cX9_countPairs 1 = .ok (.istore_n 1, 1) := by decide +kernel
theorem dX9_countPairs_2 : decode cX9_countPairs 2 = .ok (.iconst 0, 1) := by decide +kernel
theorem dX9_countPairs_3 : decode cX9_countPairs 3 = .ok (.istore_n 2, 1) := by decide +kernel
theorem dX9_countPairs_4 : decode cX9_countPairs 4 = .ok (.iload_n 2, 1) := by decide +kernel
theorem dX9_countPairs_5 : decode cX9_countPairs 5 = .ok (.aload_n 0, 1) := by decide +kernel
theorem dX9_countPairs_6 : decode cX9_countPairs 6 = .ok (.getfield 20, 3) := by decide +kernel
theorem dX9_countPairs_9 : decode cX9_countPairs 9 = .ok (.getfield 68, 3) := by decide +kernel
theorem dX9_countPairs_12 : decode cX9_countPairs 12 = .ok (.if_icmp .ge 28, 3) := by decide +kernel
theorem dX9_countPairs_15 : decode cX9_countPairs 15 = .ok (.aload_n 0, 1) := by decide +kernel
theorem dX9_countPairs_16 : decode cX9_countPairs 16 = .ok (.getfield 43, 3) := by decide +kernel
theorem dX9_countPairs_19 : decode cX9_countPairs 19 = .ok (.iload_n 2, 1) := by decide +kernel
theorem dX9_countPairs_20 : decode cX9_countPairs 20 = .ok (.invokevirtual 218, 3) := by decide +kernel
theorem dX9_countPairs_23 : decode cX9_countPairs 23 = .ok (.iload_n 1, 1) := by decide +kernel
theorem dX9_countPairs_24 : decode cX9_countPairs 24 = .ok (.aload_n 0, 1) := by decide +kernel
theorem dX9_countPairs_25 : decode cX9_countPairs 25 = .ok (.getfield 43, 3) := by decide +kernel
theorem dX9_countPairs_28 : decode cX9_countPairs 28 = .ok (.iload_n 2, 1) := by decide +kernel
theorem dX9_countPairs_29 : decode cX9_countPairs 29 = .ok (.invokevirtual 221, 3) := by decide +kernel
theorem dX9_countPairs_32 : decode cX9_countPairs 32 = .ok (.iadd, 1) := by decide +kernel
theorem dX9_countPairs_33 : decode cX9_countPairs 33 = .ok (.istore_n 1, 1) := by decide +kernel
theorem dX9_countPairs_34 : decode cX9_countPairs 34 = .ok (.iinc 2 1, 3) := by decide +kernel
theorem dX9_countPairs_37 : decode cX9_countPairs 37 = .ok (.goto (-33), 3) := by decide +kernel
theorem dX9_countPairs_40 : decode cX9_countPairs 40 = .ok (.iload_n 1, 1) := by decide +kernel
theorem dX9_countPairs_41 : decode cX9_countPairs 41 = .ok (.ireturn, 1) := by decide +kernel
theorem dX10_init_0 : decode cX10_init 0 = .ok (.aload_n 0, 1) := by decide +kernel
theorem dX10_init_1 : decode cX10_init 1 = .ok (.invokespecial 1, 3) := by decide +kernel
theorem dX10_init_4 : decode cX10_init 4 = .ok (.aload_n 0, 1) := by decide +kernel
theorem dX10_init_5 : decode cX10_init 5 = .ok (.bipush 82, 2) := by decide +kernel
theorem dX10_init_7 : decode cX10_init 7 = .ok (.newarray .int, 2) := by decide +kernel
theorem dX10_init_9 : decode cX10_init 9 = .ok (.putfield 7, 3) := by decide +kernel
theorem dX10_init_12 : decode cX10_init 12 = .ok (.aload_n 0, 1) := by decide +kernel
theorem dX10_init_13 : decode cX10_init 13 = .ok (.sipush 656, 3) := by decide +kernel
theorem dX10_init_16 : decode cX10_init 16 = .ok (.newarray .int, 2) := by decide +kernel
theorem dX10_init_18 : decode cX10_init 18 = .ok (.putfield 13, 3) := by decide +kernel
theorem dX10_init_21 : decode cX10_init 21 = .ok (.aload_n 0, 1) := by decide +kernel
theorem dX10_init_22 : decode cX10_init 22 = .ok (.bipush 60, 2) := by decide +kernel
theorem dX10_init_24 : decode cX10_init 24 = .ok (.newarray .int, 2) := by decide +kernel
theorem dX10_init_26 : decode cX10_init 26 = .ok (.putfield 16, 3) := by decide +kernel
theorem dX10_init_29 : decode cX10_init 29 = .ok (.aload_n 0, 1) := by decide +kernel
theorem dX10_init_30 : decode cX10_init 30 = .ok (.bipush 27, 2) := by decide +kernel
theorem dX10_init_32 : decode cX10_init 32 = .ok (.newarray .int, 2) := by decide +kernel
theorem dX10_init_34 : decode cX10_init 34 = .ok (.putfield 19, 3) := by decide +kernel
theorem dX10_init_37 : decode cX10_init 37 = .ok (.aload_n 0, 1) := by decide +kernel
theorem dX10_init_38 : decode cX10_init 38 = .ok (.bipush 108, 2) := by decide +kernel
theorem dX10_init_40 : decode cX10_init 40 = .ok (.newarray .int, 2) := by decide +kernel
theorem dX10_init_42 : decode cX10_init 42 = .ok (.putfield 22, 3) := by decide +kernel
theorem dX10_init_45 : decode cX10_init 45 = .ok (.aload_n 0, 1) := by decide +kernel
theorem dX10_init_46 : decode cX10_init 46 = .ok (.bipush 108, 2) := by decide +kernel
theorem dX10_init_48 : decode cX10_init 48 = .ok (.newarray .int, 2) := by decide +kernel
theorem dX10_init_50 : decode cX10_init 50 = .ok (.putfield 25, 3) := by decide +kernel
theorem dX10_init_53 : decode cX10_init 53 = .ok (.aload_n 0, 1) := by decide +kernel
theorem dX10_init_54 : decode cX10_init 54 = .ok (.sipush 640, 3) := by decide +kernel
theorem dX10_init_57 : decode cX10_init 57 = .ok (.newarray .int, 2) := by decide +kernel
theorem dX10_init_59 : decode cX10_init 59 = .ok (.putfield 28, 3) := by decide +kernel
theorem dX10_init_62 : decode cX10_init 62 = .ok (.aload_n 0, 1) := by decide +kernel
theorem dX10_init_63 : decode cX10_init 63 = .ok (.sipush 1344, 3) := by decide +kernel
theorem dX10_init_66 : decode cX10_init 66 = .ok (.newarray .int, 2) := by decide +kernel
theorem dX10_init_68 : decode cX10_init 68 = .ok (.putfield 31, 3) := by decide +kernel
theorem dX10_init_71 : decode cX10_init 71 = .ok (.aload_n 0, 1) := by decide +kernel
theorem dX10_init_72 : decode cX10_init 72 = .ok (.sipush 448, 3) := by decide +kernel
theorem dX10_init_75 : decode cX10_init 75 = .ok (.newarray .int, 2) := by decide +kernel
theorem dX10_init_77 : decode cX10_init 77 = .ok (.putfield 34, 3) := by decide +kernel
theorem dX10_init_80 : decode cX10_init 80 = .ok (.aload_n 0, 1) := by decide +kernel
theorem dX10_init_81 : decode cX10_init 81 = .ok (.bipush 31, 2) := by decide +kernel
theorem dX10_init_83 : decode cX10_init 83 = .ok (.newarray .int, 2) := by decide +kernel
theorem dX10_init_85 : decode cX10_init 85 = .ok (.putfield 37, 3) := by decide +kernel
theorem dX10_init_88 : decode cX10_init 88 = .ok (.aload_n 0, 1) := by decide +kernel
theorem dX10_init_89 : decode cX10_init 89 = .ok (.bipush 49, 2) := by decide +kernel
theorem dX10_init_91 : decode cX10_init 91 = .ok (.newarray .int, 2) := by decide +kernel
theorem dX10_init_93 : decode cX10_init 93 = .ok (.putfield 40, 3) := by decide +kernel
theorem dX10_init_96 : decode cX10_init 96 = .ok (.aload_n 0, 1) := by decide +kernel
theorem dX10_init_97 : decode cX10_init 97 = .ok (.bipush 49, 2) := by decide +kernel
theorem dX10_init_99 : decode cX10_init 99 = .ok (.newarray .int, 2) := by decide +kernel
theorem dX10_init_101 : decode cX10_init 101 = .ok (.putfield 43, 3) := by decide +kernel
theorem dX10_init_104 : decode cX10_init 104 = .ok (.aload_n 0, 1) := by decide +kernel
theorem dX10_init_105 : decode cX10_init 105 = .ok (.bipush 72, 2) := by decide +kernel
theorem dX10_init_107 : decode cX10_init 107 = .ok (.newarray .int, 2) := by decide +kernel
theorem dX10_init_109 : decode cX10_init 109 = .ok (.putfield 46, 3) := by decide +kernel
theorem dX10_init_112 : decode cX10_init 112 = .ok (.aload_n 0, 1) := by decide +kernel
theorem dX10_init_113 : decode cX10_init 113 = .ok (.bipush 64, 2) := by decide +kernel
theorem dX10_init_115 : decode cX10_init 115 = .ok (.newarray .int, 2) := by decide +kernel
theorem dX10_init_117 : decode cX10_init 117 = .ok (.putfield 49, 3) := by decide +kernel
theorem dX10_init_120 : decode cX10_init 120 = .ok (.aload_n 0, 1) := by decide +kernel
theorem dX10_init_121 : decode cX10_init 121 = .ok (.bipush 8, 2) := by decide +kernel
theorem dX10_init_123 : decode cX10_init 123 = .ok (.newarray .int, 2) := by decide +kernel
theorem dX10_init_125 : decode cX10_init 125 = .ok (.putfield 52, 3) := by decide +kernel
theorem dX10_init_128 : decode cX10_init 128 = .ok (.aload_n 0, 1) := by decide +kernel
theorem dX10_init_129 : decode cX10_init 129 = .ok (.sipush 12544, 3) := by decide +kernel
theorem dX10_init_132 : decode cX10_init 132 = .ok (.newarray .int, 2) := by decide +kernel
theorem dX10_init_134 : decode cX10_init 134 = .ok (.putfield 55, 3) := by decide +kernel
theorem dX10_init_137 : decode cX10_init 137 = .ok (.aload_n 0, 1) := by decide +kernel
theorem dX10_init_138 : decode cX10_init 138 = .ok (.bipush 49, 2) := by decide +kernel
theorem dX10_init_140 : decode cX10_init 140 = .ok (.newarray .int, 2) := by decide +kernel
theorem dX10_init_142 : decode cX10_init 142 = .ok (.putfield 58, 3) := by decide +kernel
theorem dX10_init_145 : decode cX10_init 145 = .ok (.aload_n 0, 1) := by decide +kernel
theorem dX10_init_146 : decode cX10_init 146 = .ok (.bipush 31, 2) := by decide +kernel
theorem dX10_init_148 : decode cX10_init 148 = .ok (.newarray .int, 2) := by decide +kernel
theorem dX10_init_150 : decode cX10_init 150 = .ok (.putfield 61, 3) := by decide +kernel
theorem dX10_init_153 : decode cX10_init 153 = .ok (.aload_n 0, 1) := by decide +kernel
theorem dX10_init_154 : decode cX10_init 154 = .ok (.bipush 27, 2) := by decide +kernel
theorem dX10_init_156 : decode cX10_init 156 = .ok (.newarray .int, 2) := by decide +kernel
theorem dX10_init_158 : decode cX10_init 158 = .ok (.putfield 64, 3) := by decide +kernel
theorem dX10_init_161 : decode cX10_init 161 = .ok (.aload_n 0, 1) := by decide +kernel
theorem dX10_init_162 : decode cX10_init 162 = .ok (.bipush 9, 2) := by decide +kernel
theorem dX10_init_164 : decode cX10_init 164 = .ok (.newarray .int, 2) := by decide +kernel
theorem dX10_init_166 : decode cX10_init 166 = .ok (.putfield 67, 3) := by decide +kernel
theorem dX10_init_169 : decode cX10_init 169 = .ok (.aload_n 0, 1) := by decide +kernel
theorem dX10_init_170 : decode cX10_init 170 = .ok (.bipush 8, 2) := by decide +kernel
theorem dX10_init_172 : decode cX10_init 172 = .ok (.newarray .int, 2) := by decide +kernel
theorem dX10_init_174 : decode cX10_init 174 = .ok (.putfield 70, 3) := by decide +kernel
theorem dX10_init_177 : decode cX10_init 177 = .ok (.aload_n 0, 1) := by decide +kernel
theorem dX10_init_178 : decode cX10_init 178 = .ok (.bipush 64, 2) := by decide +kernel
theorem dX10_init_180 : decode cX10_init 180 = .ok (.newarray .int, 2) := by decide +kernel
theorem dX10_init_182 : decode cX10_init 182 = .ok (.putfield 73, 3) := by decide +kernel
theorem dX10_init_185 : decode cX10_init 185 = .ok (.aload_n 0, 1) := by decide +kernel
theorem dX10_init_186 : decode cX10_init 186 = .ok (.getfield 7, 3) := by decide +kernel
theorem dX10_init_189 : decode cX10_init 189 = .ok (.iconst 0, 1) := by decide +kernel
theorem dX10_init_190 : decode cX10_init 190 = .ok (.bipush 31, 2) := by decide +kernel
theorem dX10_init_192 : decode cX10_init 192 = .ok (.iastore, 1) := by decide +kernel
theorem dX10_init_193 : decode cX10_init 193 = .ok (.return_, 1) := by decide +kernel
theorem dX10_in_0 : decode cX10_in 0 = .ok (.iload_n 0, 1) := by decide +kernel
theorem dX10_in_1 : decode cX10_in 1 = .ok (.iload_n 1, 1) := by decide +kernel
theorem dX10_in_2 : decode cX10_in 2 = .ok (.if_icmp .lt 12, 3) := by decide +kernel
theorem dX10_in_5 : decode cX10_in 5 = .ok (.iload_n 0, 1) := by decide +kernel
theorem dX10_in_6 : decode cX10_in 6 = .ok (.iload_n 2, 1) := by decide +kernel
theorem dX10_in_7 : decode cX10_in 7 = .ok (.if_icmp .gt 7, 3) := by decide +kernel
theorem dX10_in_10 : decode cX10_in 10 = .ok (.iconst 1, 1) := by decide +kernel
theorem dX10_in_11 : decode cX10_in 11 = .ok (.goto 4, 3) := by decide +kernel
theorem dX10_in_14 : decode cX10_in 14 = .ok (.iconst 0, 1) := by decide +kernel
theorem dX10_in_15 : decode cX10_in 15 = .ok (.ireturn, 1) := by decide +kernel
theorem dX10_p_0 : decode cX10_p 0 = .ok (.aload_n 0, 1) := by decide +kernel
theorem dX10_p_1 : decode cX10_p 1 = .ok (.getfield 7, 3) := by decide +kernel
theorem dX10_p_4 : decode cX10_p 4 = .ok (.iconst 0, 1) := by decide +kernel
theorem dX10_p_5 : decode cX10_p 5 = .ok (.iaload, 1) := by decide +kernel
theorem dX10_p_6 : decode cX10_p 6 = .ok (.ireturn, 1) := by decide +kernel
theorem dX10_mod_0 : decode cX10_mod 0 = .ok (.iload_n 1, 1) := by decide +kernel
theorem dX10_mod_1 : decode cX10_mod 1 = .ok (.aload_n 0, 1) := by decide +kernel
theorem dX10_mod_2 : decode cX10_mod 2 = .ok (.invokevirtual 76, 3) := by decide +kernel
theorem dX10_mod_5 : decode cX10_mod 5 = .ok (.irem, 1) := by decide +kernel
theorem dX10_mod_6 : decode cX10_mod 6 = .ok (.istore_n 2, 1) := by decide +kernel
theorem dX10_mod_7 : decode cX10_mod 7 = .ok (.iload_n 2, 1) := by decide +kernel
theorem dX10_mod_8 : decode cX10_mod 8 = .ok (.ifCond .ge 12, 3) := by decide +kernel
theorem dX10_mod_11 : decode cX10_mod 11 = .ok (.iload_n 2, 1) := by decide +kernel
theorem dX10_mod_12 : decode cX10_mod 12 = .ok (.aload_n 0, 1) := by decide +kernel
theorem dX10_mod_13 : decode cX10_mod 13 = .ok (.invokevirtual 76, 3) := by decide +kernel
theorem dX10_mod_16 : decode cX10_mod 16 = .ok (.iadd, 1) := by decide +kernel
theorem dX10_mod_17 : decode cX10_mod 17 = .ok (.goto 4, 3) := by decide +kernel
theorem dX10_mod_20 : decode cX10_mod 20 = .ok (.iload_n 2, 1) := by decide +kernel
theorem dX10_mod_21 : decode cX10_mod 21 = .ok (.ireturn, 1) := by decide +kernel
theorem dX10_isNumber_0 : decode cX10_isNumber 0 = .ok (.iload_n 1, 1) := by decide +kernel
theorem dX10_isNumber_1 : decode cX10_isNumber 1 = .ok (.iconst 0, 1) := by decide +kernel
theorem dX10_isNumber_2 : decode cX10_isNumber 2 = .ok (.aload_n 0, 1) := by decide +kernel
theorem dX10_isNumber_3 : decode cX10_isNumber 3 = .ok (.invokevirtual 76, 3) := by decide +kernel
theorem dX10_isNumber_6 : decode cX10_isNumber 6 = .ok (.iconst 1, 1) := by decide +kernel
theorem dX10_isNumber_7 : decode cX10_isNumber 7 = .ok (.isub, 1) := by decide +kernel
theorem dX10_isNumber_8 : decode cX10_isNumber 8 = .ok (.invokestatic 80, 3) := by decide +kernel
theorem dX10_isNumber_11 : decode cX10_isNumber 11 = .ok (.ireturn, 1) := by decide +kernel
theorem dX10_at_0 : decode cX10_at 0 = .ok (.iconst 1, 1) := by decide +kernel
theorem dX10_at_1 : decode cX10_at 1 = .ok (.bipush 27, 2) := by decide +kernel
theorem dX10_at_3 : decode cX10_at 3 = .ok (.iload_n 0, 1) := by decide +kernel
theorem dX10_at_4 : decode cX10_at 4 = .ok (.imul, 1) := by decide +kernel
theorem dX10_at_5 : decode cX10_at 5 = .ok (.iadd, 1) := by decide +kernel
theorem dX10_at_6 : decode cX10_at 6 = .ok (.bipush 9, 2) := by decide +kernel
theorem dX10_at_8 : decode cX10_at 8 = .ok (.iload_n 1, 1) := by decide +kernel
theorem dX10_at_9 : decode cX10_at 9 = .ok (.imul, 1) := by decide +kernel
theorem dX10_at_10 : decode cX10_at 10 = .ok (.iadd, 1) := by decide +kernel
theorem dX10_at_11 : decode cX10_at 11 = .ok (.iconst 3, 1) := by decide +kernel
theorem dX10_at_12 : decode cX10_at 12 = .ok (.iload_n 2, 1) := by decide +kernel
theorem dX10_at_13 : decode cX10_at 13 = .ok (.imul, 1) := by decide +kernel
theorem dX10_at_14 : decode cX10_at 14 = .ok (.iadd, 1) := by decide +kernel
theorem dX10_at_15 : decode cX10_at 15 = .ok (.iload_n 3, 1) := by decide +kernel
theorem dX10_at_16 : decode cX10_at 16 = .ok (.iadd, 1) := by decide +kernel
theorem dX10_at_17 : decode cX10_at 17 = .ok (.ireturn, 1) := by decide +kernel
theorem dX10_of_0 : decode cX10_of 0 = .ok (.aload_n 0, 1) := by decide +kernel
theorem dX10_of_1 : decode cX10_of 1 = .ok (.getfield 7, 3) := by decide +kernel
theorem dX10_of_4 : decode cX10_of 4 = .ok (.iload_n 1, 1) := by decide +kernel
theorem dX10_of_5 : decode cX10_of 5 = .ok (.iload_n 2, 1) := by decide +kernel
theorem dX10_of_6 : decode cX10_of 6 = .ok (.iload_n 3, 1) := by decide +kernel
theorem dX10_of_7 : decode cX10_of 7 = .ok (.iload 4, 2) := by decide +kernel
theorem dX10_of_9 : decode cX10_of 9 = .ok (.invokestatic 84, 3) := by decide +kernel
theorem dX10_of_12 : decode cX10_of 12 = .ok (.iaload, 1) := by decide +kernel
theorem dX10_of_13 : decode cX10_of 13 = .ok (.ireturn, 1) := by decide +kernel
theorem dX10_inverse_0 : decode cX10_inverse 0 = .ok (.iconst 0, 1) := by decide +kernel
theorem dX10_inverse_1 : decode cX10_inverse 1 = .ok (.istore_n 2, 1) := by decide +kernel
theorem dX10_inverse_2 : decode cX10_inverse 2 = .ok (.iconst 1, 1) := by decide +kernel
theorem dX10_inverse_3 : decode cX10_inverse 3 = .ok (.istore_n 3, 1) := by decide +kernel
theorem dX10_inverse_4 : decode cX10_inverse 4 = .ok (.iload_n 3, 1) := by decide +kernel
theorem dX10_inverse_5 : decode cX10_inverse 5 = .ok (.aload_n 0, 1) := by decide +kernel
theorem dX10_inverse_6 : decode cX10_inverse 6 = .ok (.invokevirtual 76, 3) := by decide +kernel
theorem dX10_inverse_9 : decode cX10_inverse 9 = .ok (.if_icmp .ge 27, 3) := by decide +kernel
theorem dX10_inverse_12 : decode cX10_inverse 12 = .ok (.iload_n 1, 1) := by decide +kernel
theorem dX10_inverse_13 : decode cX10_inverse 13 = .ok (.iload_n 3, 1) := by decide +kernel
theorem dX10_inverse_14 : decode cX10_inverse 14 = .ok (.imul, 1) := by decide +kernel
theorem dX10_inverse_15 : decode cX10_inverse 15 = .ok (.aload_n 0, 1) := by decide +kernel
theorem dX10_inverse_16 : decode cX10_inverse 16 = .ok (.invokevirtual 76, 3) := by decide +kernel
theorem dX10_inverse_19 : decode cX10_inverse 19 = .ok (.irem, 1) := by decide +kernel
theorem dX10_inverse_20 : decode cX10_inverse 20 = .ok (.iconst 1, 1) := by decide +kernel
theorem dX10_inverse_21 : decode cX10_inverse 21 = .ok (.if_icmp .ne 7, 3) := by decide +kernel
theorem dX10_inverse_24 : decode cX10_inverse 24 = .ok (.iload_n 3, 1) := by decide +kernel
theorem dX10_inverse_25 : decode cX10_inverse 25 = .ok (.goto 4, 3) := by decide +kernel
theorem dX10_inverse_28 : decode cX10_inverse 28 = .ok (.iload_n 2, 1) := by decide +kernel
theorem dX10_inverse_29 : decode cX10_inverse 29 = .ok (.istore_n 2, 1) := by decide +kernel
theorem dX10_inverse_30 : decode cX10_inverse 30 = .ok (.iinc 3 1, 3) := by decide +kernel
theorem dX10_inverse_33 : decode cX10_inverse 33 = .ok (.goto (-29), 3) := by decide +kernel
theorem dX10_inverse_36 : decode cX10_inverse 36 = .ok (.iload_n 2, 1) := by decide +kernel
theorem dX10_inverse_37 : decode cX10_inverse 37 = .ok (.ireturn, 1) := by decide +kernel
theorem dX10_begins_0 : decode cX10_begins 0 = .ok (.aload_n 0, 1) := by decide +kernel
theorem dX10_begins_1 : decode cX10_begins 1 = .ok (.getfield 88, 3) := by decide +kernel
theorem dX10_begins_4 : decode cX10_begins 4 = .ok (.bipush 8, 2) := by decide +kernel
theorem dX10_begins_6 : decode cX10_begins 6 = .ok (.if_icmp .ne 43, 3) := by decide +kernel
theorem dX10_begins_9 : decode cX10_begins 9 = .ok (.iconst 0, 1) := by decide +kernel
theorem dX10_begins_10 : decode cX10_begins 10 = .ok (.istore_n 1, 1) := by decide +kernel
theorem dX10_begins_11 : decode cX10_begins 11 = .ok (.iload_n 1, 1) := by decide +kernel
theorem dX10_begins_12 : decode cX10_begins 12 = .ok (.sipush 574, 3) := by decide +kernel
theorem dX10_begins_15 : decode cX10_begins 15 = .ok (.if_icmp .ge 24, 3) := by decide +kernel
theorem dX10_begins_18 : decode cX10_begins 18 = .ok (.aload_n 0, 1) := by decide +kernel
theorem dX10_begins_19 : decode cX10_begins 19 = .ok (.getfield 13, 3) := by decide +kernel
theorem dX10_begins_22 : decode cX10_begins 22 = .ok (.iload_n 1, 1) := by decide +kernel
theorem dX10_begins_23 : decode cX10_begins 23 = .ok (.aload_n 0, 1) := by decide +kernel
theorem dX10_begins_24 : decode cX10_begins 24 = .ok (.getfield 13, 3) := by decide +kernel
theorem dX10_begins_27 : decode cX10_begins 27 = .ok (.iload_n 1, 1) := by decide +kernel
theorem dX10_begins_28 : decode cX10_begins 28 = .ok (.bipush 82, 2) := by decide +kernel
theorem dX10_begins_30 : decode cX10_begins 30 = .ok (.iadd, 1) := by decide +kernel
theorem dX10_begins_31 : decode cX10_begins 31 = .ok (.iaload, 1) := by decide +kernel
theorem dX10_begins_32 : decode cX10_begins 32 = .ok (.iastore, 1) := by decide +kernel
theorem dX10_begins_33 : decode cX10_begins 33 = .ok (.iinc 1 1, 3) := by decide +kernel
theorem dX10_begins_36 : decode cX10_begins 36 = .ok (.goto (-25), 3) := by decide +kernel
theorem dX10_begins_39 : decode cX10_begins 39 = .ok (.aload_n 0, 1) := by decide +kernel
theorem dX10_begins_40 : decode cX10_begins 40 = .ok (.dup, 1) := by decide +kernel
theorem dX10_begins_41 : decode cX10_begins 41 = .ok (.getfield 88, 3) := by decide +kernel
theorem dX10_begins_44 : decode cX10_begins 44 = .ok (.iconst 1, 1) := by decide +kernel
theorem dX10_begins_45 : decode cX10_begins 45 = .ok (.isub, 1) := by decide +kernel
theorem dX10_begins_46 : decode cX10_begins 46 = .ok (.putfield 88, 3) := by decide +kernel
theorem dX10_begins_49 : decode cX10_begins 49 = .ok (.iconst 0, 1) := by decide +kernel
theorem dX10_begins_50 : decode cX10_begins 50 = .ok (.istore_n 1, 1) := by decide +kernel
theorem dX10_begins_51 : decode cX10_begins 51 = .ok (.iload_n 1, 1) := by decide +kernel
theorem dX10_begins_52 : decode cX10_begins 52 = .ok (.bipush 82, 2) := by decide +kernel
theorem dX10_begins_54 : decode cX10_begins 54 = .ok (.if_icmp .ge 29, 3) := by decide +kernel
theorem dX10_begins_57 : decode cX10_begins 57 = .ok (.aload_n 0, 1) := by decide +kernel
theorem dX10_begins_58 : decode cX10_begins 58 = .ok (.getfield 13, 3) := by decide +kernel
theorem dX10_begins_61 : decode cX10_begins 61 = .ok (.bipush 82, 2) := by decide +kernel
theorem dX10_begins_63 : decode cX10_begins 63 = .ok (.aload_n 0, 1) := by decide +kernel
theorem dX10_begins_64 : decode cX10_begins 64 = .ok (.getfield 88, 3) := by decide +kernel
theorem dX10_begins_67 : decode cX10_begins 67 = .ok (.imul, 1) := by decide +kernel
theorem dX10_begins_68 : decode cX10_begins 68 = .ok (.iload_n 1, 1) := by decide +kernel
theorem dX10_begins_69 : decode cX10_begins 69 = .ok (.iadd, 1) := by decide +kernel
theorem dX10_begins_70 : decode cX10_begins 70 = .ok (.aload_n 0, 1) := by decide +kernel
theorem dX10_begins_71 : decode cX10_begins 71 = .ok (.getfield 7, 3) := by decide +kernel
theorem dX10_begins_74 : decode cX10_begins 74 = .ok (.iload_n 1, 1) := by decide +kernel
theorem dX10_begins_75 : decode cX10_begins 75 = .ok (.iaload, 1) := by decide +kernel
theorem dX10_begins_76 : decode cX10_begins 76 = .ok (.iastore, 1) := by decide +kernel
theorem dX10_begins_77 : decode cX10_begins 77 = .ok (.iinc 1 1, 3) := by decide +kernel
theorem dX10_begins_80 : decode cX10_begins 80 = .ok (.goto (-29), 3) := by decide +kernel
theorem dX10_begins_83 : decode cX10_begins 83 = .ok (.aload_n 0, 1) := by decide +kernel
theorem dX10_begins_84 : decode cX10_begins 84 = .ok (.dup, 1) := by decide +kernel
theorem dX10_begins_85 : decode cX10_begins 85 = .ok (.getfield 88, 3) := by decide +kernel
theorem dX10_begins_88 : decode cX10_begins 88 = .ok (.iconst 1, 1) := by decide +kernel
theorem dX10_begins_89 : decode cX10_begins 89 = .ok (.iadd, 1) := by decide +kernel
theorem dX10_begins_90 : decode cX10_begins 90 = .ok (.putfield 88, 3) := by decide +kernel
theorem dX10_begins_93 : decode cX10_begins 93 = .ok (.aload_n 0, 1) := by decide +kernel
theorem dX10_begins_94 : decode cX10_begins 94 = .ok (.invokevirtual 92, 3) := by decide +kernel
theorem dX10_begins_97 : decode cX10_begins 97 = .ok (.return_, 1) := by decide +kernel
theorem dX10_forgets_0 : decode cX10_forgets 0 = .ok (.aload_n 0, 1) := by decide +kernel
theorem dX10_forgets_1 : decode cX10_forgets 1 = .ok (.iconst 0, 1) := by decide +kernel
theorem dX10_forgets_2 : decode cX10_forgets 2 = .ok (.putfield 95, 3) := by decide +kernel
theorem dX10_forgets_5 : decode cX10_forgets 5 = .ok (.aload_n 0, 1) := by decide +kernel
theorem dX10_forgets_6 : decode cX10_forgets 6 = .ok (.iconst 0, 1) := by decide +kernel
theorem dX10_forgets_7 : decode cX10_forgets 7 = .ok (.putfield 99, 3) := by decide +kernel
theorem dX10_forgets_10 : decode cX10_forgets 10 = .ok (.return_, 1) := by decide +kernel
theorem dX10_undo_0 : decode cX10_undo 0 = .ok (.aload_n 0, 1) := by decide +kernel
theorem dX10_undo_1 : decode cX10_undo 1 = .ok (.getfield 88, 3) := by decide +kernel
theorem dX10_undo_4 : decode cX10_undo 4 = .ok (.ifCond .ne 6, 3) := by decide +kernel
theorem dX10_undo_7 : decode cX10_undo 7 = .ok (.bipush (-2), 2) := by decide +kernel
theorem dX10_undo_9 : decode cX10_undo 9 = .ok (.ireturn, 1) := by decide +kernel
theorem dX10_undo_10 : decode cX10_undo 10 = .ok (.aload_n 0, 1) := by decide +kernel
theorem dX10_undo_11 : decode cX10_undo 11 = .ok (.dup, 1) := by decide +kernel
theorem dX10_undo_12 : decode cX10_undo 12 = .ok (.getfield 88, 3) := by decide +kernel
theorem dX10_undo_15 : decode cX10_undo 15 = .ok (.iconst 1, 1) := by decide +kernel
theorem dX10_undo_16 : decode cX10_undo 16 = .ok (.isub, 1) := by decide +kernel
theorem dX10_undo_17 : decode cX10_undo 17 = .ok (.putfield 88, 3) := by decide +kernel
theorem dX10_undo_20 : decode cX10_undo 20 = .ok (.iconst 0, 1) := by decide +kernel
theorem dX10_undo_21 : decode cX10_undo 21 = .ok (.istore_n 1, 1) := by decide +kernel
theorem dX10_undo_22 : decode cX10_undo 22 = .ok (.iload_n 1, 1) := by decide +kernel
theorem dX10_undo_23 : decode cX10_undo 23 = .ok (.bipush 82, 2) := by decide +kernel
theorem dX10_undo_25 : decode cX10_undo 25 = .ok (.if_icmp .ge 29, 3) := by decide +kernel
theorem dX10_undo_28 : decode cX10_undo 28 = .ok (.aload_n 0, 1) := by decide +kernel
theorem dX10_undo_29 : decode cX10_undo 29 = .ok (.getfield 7, 3) := by decide +kernel
theorem dX10_undo_32 : decode cX10_undo 32 = .ok (.iload_n 1, 1) := by decide +kernel
theorem dX10_undo_33 : decode cX10_undo 33 = .ok (.aload_n 0, 1) := by decide +kernel
theorem dX10_undo_34 : decode cX10_undo 34 = .ok (.getfield 13, 3) := by decide +kernel
theorem dX10_undo_37 : decode cX10_undo 37 = .ok (.bipush 82, 2) := by decide +kernel
theorem dX10_undo_39 : decode cX10_undo 39 = .ok (.aload_n 0, 1) := by decide +kernel
theorem dX10_undo_40 : decode cX10_undo 40 = .ok (.getfield 88, 3) := by decide +kernel
theorem dX10_undo_43 : decode cX10_undo 43 = .ok (.imul, 1) := by decide +kernel
theorem dX10_undo_44 : decode cX10_undo 44 = .ok (.iload_n 1, 1) := by decide +kernel
theorem dX10_undo_45 : decode cX10_undo 45 = .ok (.iadd, 1) := by decide +kernel
theorem dX10_undo_46 : decode cX10_undo 46 = .ok (.iaload, 1) := by decide +kernel
theorem dX10_undo_47 : decode cX10_undo 47 = .ok (.iastore, 1) := by decide +kernel
theorem dX10_undo_48 : decode cX10_undo 48 = .ok (.iinc 1 1, 3) := by decide +kernel
theorem dX10_undo_51 : decode cX10_undo 51 = .ok (.goto (-29), 3) := by decide +kernel
theorem dX10_undo_54 : decode cX10_undo 54 = .ok (.aload_n 0, 1) := by decide +kernel
theorem dX10_undo_55 : decode cX10_undo 55 = .ok (.invokevirtual 92, 3) := by decide +kernel
theorem dX10_undo_58 : decode cX10_undo 58 = .ok (.aload_n 0, 1) := by decide +kernel
theorem dX10_undo_59 : decode cX10_undo 59 = .ok (.getfield 88, 3) := by decide +kernel
theorem dX10_undo_62 : decode cX10_undo 62 = .ok (.ireturn, 1) := by decide +kernel
theorem dX10_termsOf_0 : decode cX10_termsOf 0 = .ok (.iconst 0, 1) := by decide +kernel
theorem dX10_termsOf_1 : decode cX10_termsOf 1 = .ok (.istore_n 2, 1) := by decide +kernel
theorem dX10_termsOf_2 : decode cX10_termsOf 2 = .ok (.iconst 0, 1) := by decide +kernel
theorem dX10_termsOf_3 : decode cX10_termsOf 3 = .ok (.istore_n 3, 1) := by decide +kernel
theorem dX10_termsOf_4 : decode cX10_termsOf 4 = .ok (.iload_n 3, 1) := by decide +kernel
theorem dX10_termsOf_5 : decode cX10_termsOf 5 = .ok (.bipush 27, 2) := by decide +kernel
theorem dX10_termsOf_7 : decode cX10_termsOf 7 = .ok (.if_icmp .ge 33, 3) := by decide +kernel
theorem dX10_termsOf_10 : decode cX10_termsOf 10 = .ok (.iload_n 2, 1) := by decide +kernel
theorem dX10_termsOf_11 : decode cX10_termsOf 11 = .ok (.aload_n 0, 1) := by decide +kernel
theorem dX10_termsOf_12 : decode cX10_termsOf 12 = .ok (.getfield 7, 3) := by decide +kernel
theorem dX10_termsOf_15 : decode cX10_termsOf 15 = .ok (.iconst 1, 1) := by decide +kernel
theorem dX10_termsOf_16 : decode cX10_termsOf 16 = .ok (.bipush 27, 2) := by decide +kernel
theorem dX10_termsOf_18 : decode cX10_termsOf 18 = .ok (.iload_n 1, 1) := by decide +kernel
theorem dX10_termsOf_19 : decode cX10_termsOf 19 = .ok (.imul, 1) := by decide +kernel
theorem dX10_termsOf_20 : decode cX10_termsOf 20 = .ok (.iadd, 1) := by decide +kernel
theorem dX10_termsOf_21 : decode cX10_termsOf 21 = .ok (.iload_n 3, 1) := by decide +kernel
theorem dX10_termsOf_22 : decode cX10_termsOf 22 = .ok (.iadd, 1) := by decide +kernel
theorem dX10_termsOf_23 : decode cX10_termsOf 23 = .ok (.iaload, 1) := by decide +kernel
theorem dX10_termsOf_24 : decode cX10_termsOf 24 = .ok (.ifCond .eq 7, 3) := by decide +kernel
theorem dX10_termsOf_27 : decode cX10_termsOf 27 = .ok (.iconst 1, 1) := by decide +kernel
theorem dX10_termsOf_28 : decode cX10_termsOf 28 = .ok (.goto 4, 3) := by decide +kernel
theorem dX10_termsOf_31 : decode cX10_termsOf 31 = .ok (.iconst 0, 1) := by decide +kernel
theorem dX10_termsOf_32 : decode cX10_termsOf 32 = .ok (.iadd, 1) := by decide +kernel
theorem dX10_termsOf_33 : decode cX10_termsOf 33 = .ok (.istore_n 2, 1) := by decide +kernel
theorem dX10_termsOf_34 : decode cX10_termsOf 34 = .ok (.iinc 3 1, 3) := by decide +kernel
theorem dX10_termsOf_37 : decode cX10_termsOf 37 = .ok (.goto (-33), 3) := by decide +kernel
theorem dX10_termsOf_40 : decode cX10_termsOf 40 = .ok (.iload_n 2, 1) := by decide +kernel
theorem dX10_termsOf_41 : decode cX10_termsOf 41 = .ok (.ireturn, 1) := by decide +kernel
theorem dX10_terms_0 : decode cX10_terms 0 = .ok (.aload_n 0, 1) := by decide +kernel
theorem dX10_terms_1 : decode cX10_terms 1 = .ok (.iconst 0, 1) := by decide +kernel
theorem dX10_terms_2 : decode cX10_terms 2 = .ok (.invokevirtual 102, 3) := by decide +kernel
theorem dX10_terms_5 : decode cX10_terms 5 = .ok (.aload_n 0, 1) := by decide +kernel
theorem dX10_terms_6 : decode cX10_terms 6 = .ok (.iconst 1, 1) := by decide +kernel
theorem dX10_terms_7 : decode cX10_terms 7 = .ok (.invokevirtual 102, 3) := by decide +kernel
theorem dX10_terms_10 : decode cX10_terms 10 = .ok (.iadd, 1) := by decide +kernel
theorem dX10_terms_11 : decode cX10_terms 11 = .ok (.aload_n 0, 1) := by decide +kernel
theorem dX10_terms_12 : decode cX10_terms 12 = .ok (.iconst 2, 1) := by decide +kernel
theorem dX10_terms_13 : decode cX10_terms 13 = .ok (.invokevirtual 102, 3) := by decide +kernel
theorem dX10_terms_16 : decode cX10_terms 16 = .ok (.iadd, 1) := by decide +kernel
theorem dX10_terms_17 : decode cX10_terms 17 = .ok (.ireturn, 1) := by decide +kernel
theorem dX10_setPrime_0 : decode cX10_setPrime 0 = .ok (.iload_n 1, 1) := by decide +kernel
theorem dX10_setPrime_1 : decode cX10_setPrime 1 = .ok (.iconst 5, 1) := by decide +kernel
