theorem dX0_init_0 : decode cX0_init 0 = .ok (.aload_n 0, 1) := by decide +kernel
theorem dX0_init_1 : decode cX0_init 1 = .ok (.invokespecial 7, 3) := by decide +kernel
theorem dX0_init_4 : decode cX0_init 4 = .ok (.aload_n 0, 1) := by decide +kernel
theorem dX0_init_5 : decode cX0_init 5 = .ok (.aload_n 1, 1) := by decide +kernel
theorem dX0_init_6 : decode cX0_init 6 = .ok (.putfield 13, 3) := by decide +kernel
theorem dX0_init_9 : decode cX0_init 9 = .ok (.aload_n 0, 1) := by decide +kernel
theorem dX0_init_10 : decode cX0_init 10 = .ok (.bipush 18, 2) := by decide +kernel
theorem dX0_init_12 : decode cX0_init 12 = .ok (.newarray .int, 2) := by decide +kernel
theorem dX0_init_14 : decode cX0_init 14 = .ok (.putfield 19, 3) := by decide +kernel
theorem dX0_init_17 : decode cX0_init 17 = .ok (.aload_n 0, 1) := by decide +kernel
theorem dX0_init_18 : decode cX0_init 18 = .ok (.bipush 18, 2) := by decide +kernel
theorem dX0_init_20 : decode cX0_init 20 = .ok (.newarray .int, 2) := by decide +kernel
theorem dX0_init_22 : decode cX0_init 22 = .ok (.putfield 23, 3) := by decide +kernel
theorem dX0_init_25 : decode cX0_init 25 = .ok (.aload_n 0, 1) := by decide +kernel
theorem dX0_init_26 : decode cX0_init 26 = .ok (.bipush 19, 2) := by decide +kernel
theorem dX0_init_28 : decode cX0_init 28 = .ok (.newarray .int, 2) := by decide +kernel
theorem dX0_init_30 : decode cX0_init 30 = .ok (.putfield 26, 3) := by decide +kernel
theorem dX0_init_33 : decode cX0_init 33 = .ok (.aload_n 0, 1) := by decide +kernel
theorem dX0_init_34 : decode cX0_init 34 = .ok (.bipush 96, 2) := by decide +kernel
theorem dX0_init_36 : decode cX0_init 36 = .ok (.newarray .boolean, 2) := by decide +kernel
theorem dX0_init_38 : decode cX0_init 38 = .ok (.putfield 29, 3) := by decide +kernel
theorem dX0_init_41 : decode cX0_init 41 = .ok (.aload_n 0, 1) := by decide +kernel
theorem dX0_init_42 : decode cX0_init 42 = .ok (.bipush 8, 2) := by decide +kernel
theorem dX0_init_44 : decode cX0_init 44 = .ok (.newarray .int, 2) := by decide +kernel
theorem dX0_init_46 : decode cX0_init 46 = .ok (.putfield 33, 3) := by decide +kernel
theorem dX0_init_49 : decode cX0_init 49 = .ok (.aload_n 0, 1) := by decide +kernel
theorem dX0_init_50 : decode cX0_init 50 = .ok (.iconst 1, 1) := by decide +kernel
theorem dX0_init_51 : decode cX0_init 51 = .ok (.putfield 36, 3) := by decide +kernel
theorem dX0_init_54 : decode cX0_init 54 = .ok (.return_, 1) := by decide +kernel
theorem dX0_limitNow_0 : decode cX0_limitNow 0 = .ok (.aload_n 0, 1) := by decide +kernel
theorem dX0_limitNow_1 : decode cX0_limitNow 1 = .ok (.getfield 36, 3) := by decide +kernel
theorem dX0_limitNow_4 : decode cX0_limitNow 4 = .ok (.ireturn, 1) := by decide +kernel
theorem dX0_setLimit_0 : decode cX0_setLimit 0 = .ok (.iload_n 1, 1) := by decide +kernel
theorem dX0_setLimit_1 : decode cX0_setLimit 1 = .ok (.ifCond .lt 9, 3) := by decide +kernel
theorem dX0_setLimit_4 : decode cX0_setLimit 4 = .ok (.iload_n 1, 1) := by decide +kernel
theorem dX0_setLimit_5 : decode cX0_setLimit 5 = .ok (.bipush 8, 2) := by decide +kernel
theorem dX0_setLimit_7 : decode cX0_setLimit 7 = .ok (.if_icmp .le 5, 3) := by decide +kernel
theorem dX0_setLimit_10 : decode cX0_setLimit 10 = .ok (.iconst 0, 1) := by decide +kernel
theorem dX0_setLimit_11 : decode cX0_setLimit 11 = .ok (.ireturn, 1) := by decide +kernel
theorem dX0_setLimit_12 : decode cX0_setLimit 12 = .ok (.aload_n 0, 1) := by decide +kernel
theorem dX0_setLimit_13 : decode cX0_setLimit 13 = .ok (.iload_n 1, 1) := by decide +kernel
theorem dX0_setLimit_14 : decode cX0_setLimit 14 = .ok (.putfield 36, 3) := by decide +kernel
theorem dX0_setLimit_17 : decode cX0_setLimit 17 = .ok (.iconst 1, 1) := by decide +kernel
theorem dX0_setLimit_18 : decode cX0_setLimit 18 = .ok (.ireturn, 1) := by decide +kernel
theorem dX0_closes_0 : decode cX0_closes 0 = .ok (.aload_n 0, 1) := by decide +kernel
theorem dX0_closes_1 : decode cX0_closes 1 = .ok (.getfield 13, 3) := by decide +kernel
theorem dX0_closes_4 : decode cX0_closes 4 = .ok (.iload_n 1, 1) := by decide +kernel
theorem dX0_closes_5 : decode cX0_closes 5 = .ok (.invokevirtual 40, 3) := by decide +kernel
theorem dX0_closes_8 : decode cX0_closes 8 = .ok (.istore_n 3, 1) := by decide +kernel
theorem dX0_closes_9 : decode cX0_closes 9 = .ok (.aload_n 0, 1) := by decide +kernel
theorem dX0_closes_10 : decode cX0_closes 10 = .ok (.getfield 13, 3) := by decide +kernel
theorem dX0_closes_13 : decode cX0_closes 13 = .ok (.iload_n 2, 1) := by decide +kernel
theorem dX0_closes_14 : decode cX0_closes 14 = .ok (.invokevirtual 44, 3) := by decide +kernel
theorem dX0_closes_17 : decode cX0_closes 17 = .ok (.iload_n 3, 1) := by decide +kernel
theorem dX0_closes_18 : decode cX0_closes 18 = .ok (.isub, 1) := by decide +kernel
theorem dX0_closes_19 : decode cX0_closes 19 = .ok (.istore 4, 2) := by decide +kernel
theorem dX0_closes_21 : decode cX0_closes 21 = .ok (.iload_n 3, 1) := by decide +kernel
theorem dX0_closes_22 : decode cX0_closes 22 = .ok (.ifCond .eq 8, 3) := by decide +kernel
theorem dX0_closes_25 : decode cX0_closes 25 = .ok (.iload 4, 2) := by decide +kernel
theorem dX0_closes_27 : decode cX0_closes 27 = .ok (.ifCond .ge 5, 3) := by decide +kernel
theorem dX0_closes_30 : decode cX0_closes 30 = .ok (.iconst 0, 1) := by decide +kernel
theorem dX0_closes_31 : decode cX0_closes 31 = .ok (.ireturn, 1) := by decide +kernel
theorem dX0_closes_32 : decode cX0_closes 32 = .ok (.iconst 0, 1) := by decide +kernel
theorem dX0_closes_33 : decode cX0_closes 33 = .ok (.istore 5, 2) := by decide +kernel
theorem dX0_closes_35 : decode cX0_closes 35 = .ok (.iload 5, 2) := by decide +kernel
theorem dX0_closes_37 : decode cX0_closes 37 = .ok (.iload_n 3, 1) := by decide +kernel
theorem dX0_closes_38 : decode cX0_closes 38 = .ok (.if_icmp .ge 38, 3) := by decide +kernel
theorem dX0_closes_41 : decode cX0_closes 41 = .ok (.aload_n 0, 1) := by decide +kernel
theorem dX0_closes_42 : decode cX0_closes 42 = .ok (.getfield 13, 3) := by decide +kernel
theorem dX0_closes_45 : decode cX0_closes 45 = .ok (.iload_n 1, 1) := by decide +kernel
theorem dX0_closes_46 : decode cX0_closes 46 = .ok (.iload 5, 2) := by decide +kernel
theorem dX0_closes_48 : decode cX0_closes 48 = .ok (.invokevirtual 47, 3) := by decide +kernel
theorem dX0_closes_51 : decode cX0_closes 51 = .ok (.aload_n 0, 1) := by decide +kernel
theorem dX0_closes_52 : decode cX0_closes 52 = .ok (.getfield 13, 3) := by decide +kernel
theorem dX0_closes_55 : decode cX0_closes 55 = .ok (.iload_n 2, 1) := by decide +kernel
theorem dX0_closes_56 : decode cX0_closes 56 = .ok (.iload 4, 2) := by decide +kernel
theorem dX0_closes_58 : decode cX0_closes 58 = .ok (.iload 5, 2) := by decide +kernel
theorem dX0_closes_60 : decode cX0_closes 60 = .ok (.iadd, 1) := by decide +kernel
theorem dX0_closes_61 : decode cX0_closes 61 = .ok (.invokevirtual 51, 3) := by decide +kernel
theorem dX0_closes_64 : decode cX0_closes 64 = .ok (.lcmp, 1) := by decide +kernel
theorem dX0_closes_65 : decode cX0_closes 65 = .ok (.ifCond .eq 5, 3) := by decide +kernel
theorem dX0_closes_68 : decode cX0_closes 68 = .ok (.iconst 0, 1) := by decide +kernel
theorem dX0_closes_69 : decode cX0_closes 69 = .ok (.ireturn, 1) := by decide +kernel
theorem dX0_closes_70 : decode cX0_closes 70 = .ok (.iinc 5 1, 3) := by decide +kernel
theorem dX0_closes_73 : decode cX0_closes 73 = .ok (.goto (-38), 3) := by decide +kernel
theorem dX0_closes_76 : decode cX0_closes 76 = .ok (.iconst 1, 1) := by decide +kernel
theorem dX0_closes_77 : decode cX0_closes 77 = .ok (.ireturn, 1) := by decide +kernel
theorem dX0_distance_0 : decode cX0_distance 0 = .ok (.aload_n 0, 1) := by decide +kernel
theorem dX0_distance_1 : decode cX0_distance 1 = .ok (.getfield 13, 3) := by decide +kernel
theorem dX0_distance_4 : decode cX0_distance 4 = .ok (.iload_n 1, 1) := by decide +kernel
theorem dX0_distance_5 : decode cX0_distance 5 = .ok (.invokevirtual 40, 3) := by decide +kernel
theorem dX0_distance_8 : decode cX0_distance 8 = .ok (.istore_n 3, 1) := by decide +kernel
theorem dX0_distance_9 : decode cX0_distance 9 = .ok (.iconst 0, 1) := by decide +kernel
theorem dX0_distance_10 : decode cX0_distance 10 = .ok (.istore 4, 2) := by decide +kernel
theorem dX0_distance_12 : decode cX0_distance 12 = .ok (.iconst 0, 1) := by decide +kernel
theorem dX0_distance_13 : decode cX0_distance 13 = .ok (.istore 5, 2) := by decide +kernel
theorem dX0_distance_15 : decode cX0_distance 15 = .ok (.iload 5, 2) := by decide +kernel
theorem dX0_distance_17 : decode cX0_distance 17 = .ok (.iload_n 3, 1) := by decide +kernel
theorem dX0_distance_18 : decode cX0_distance 18 = .ok (.if_icmp .ge 30, 3) := by decide +kernel
theorem dX0_distance_21 : decode cX0_distance 21 = .ok (.aload_n 0, 1) := by decide +kernel
theorem dX0_distance_22 : decode cX0_distance 22 = .ok (.getfield 19, 3) := by decide +kernel
theorem dX0_distance_25 : decode cX0_distance 25 = .ok (.iload 4, 2) := by decide +kernel
theorem dX0_distance_27 : decode cX0_distance 27 = .ok (.aload_n 0, 1) := by decide +kernel
theorem dX0_distance_28 : decode cX0_distance 28 = .ok (.getfield 13, 3) := by decide +kernel
theorem dX0_distance_31 : decode cX0_distance 31 = .ok (.iload_n 1, 1) := by decide +kernel
theorem dX0_distance_32 : decode cX0_distance 32 = .ok (.iload 5, 2) := by decide +kernel
theorem dX0_distance_34 : decode cX0_distance 34 = .ok (.invokevirtual 47, 3) := by decide +kernel
theorem dX0_distance_37 : decode cX0_distance 37 = .ok (.invokestatic 54, 3) := by decide +kernel
theorem dX0_distance_40 : decode cX0_distance 40 = .ok (.istore 4, 2) := by decide +kernel
theorem dX0_distance_42 : decode cX0_distance 42 = .ok (.iinc 5 1, 3) := by decide +kernel
theorem dX0_distance_45 : decode cX0_distance 45 = .ok (.goto (-30), 3) := by decide +kernel
theorem dX0_distance_48 : decode cX0_distance 48 = .ok (.iconst 0, 1) := by decide +kernel
theorem dX0_distance_49 : decode cX0_distance 49 = .ok (.istore 5, 2) := by decide +kernel
theorem dX0_distance_51 : decode cX0_distance 51 = .ok (.aload_n 0, 1) := by decide +kernel
theorem dX0_distance_52 : decode cX0_distance 52 = .ok (.getfield 13, 3) := by decide +kernel
theorem dX0_distance_55 : decode cX0_distance 55 = .ok (.iload_n 2, 1) := by decide +kernel
theorem dX0_distance_56 : decode cX0_distance 56 = .ok (.invokevirtual 44, 3) := by decide +kernel
theorem dX0_distance_59 : decode cX0_distance 59 = .ok (.istore 6, 2) := by decide +kernel
theorem dX0_distance_61 : decode cX0_distance 61 = .ok (.iconst 0, 1) := by decide +kernel
theorem dX0_distance_62 : decode cX0_distance 62 = .ok (.iload 6, 2) := by decide +kernel
theorem dX0_distance_64 : decode cX0_distance 64 = .ok (.iload_n 3, 1) := by decide +kernel
theorem dX0_distance_65 : decode cX0_distance 65 = .ok (.isub, 1) := by decide +kernel
theorem dX0_distance_66 : decode cX0_distance 66 = .ok (.invokestatic 58, 3) := by decide +kernel
theorem dX0_distance_69 : decode cX0_distance 69 = .ok (.istore 7, 2) := by decide +kernel
theorem dX0_distance_71 : decode cX0_distance 71 = .ok (.iload 7, 2) := by decide +kernel
theorem dX0_distance_73 : decode cX0_distance 73 = .ok (.iload 6, 2) := by decide +kernel
theorem dX0_distance_75 : decode cX0_distance 75 = .ok (.if_icmp .ge 30, 3) := by decide +kernel
theorem dX0_distance_78 : decode cX0_distance 78 = .ok (.aload_n 0, 1) := by decide +kernel
theorem dX0_distance_79 : decode cX0_distance 79 = .ok (.getfield 23, 3) := by decide +kernel
theorem dX0_distance_82 : decode cX0_distance 82 = .ok (.iload 5, 2) := by decide +kernel
theorem dX0_distance_84 : decode cX0_distance 84 = .ok (.aload_n 0, 1) := by decide +kernel
theorem dX0_distance_85 : decode cX0_distance 85 = .ok (.getfield 13, 3) := by decide +kernel
theorem dX0_distance_88 : decode cX0_distance 88 = .ok (.iload_n 2, 1) := by decide +kernel
theorem dX0_distance_89 : decode cX0_distance 89 = .ok (.iload 7, 2) := by decide +kernel
theorem dX0_distance_91 : decode cX0_distance 91 = .ok (.invokevirtual 51, 3) := by decide +kernel
theorem dX0_distance_94 : decode cX0_distance 94 = .ok (.invokestatic 54, 3) := by decide +kernel
theorem dX0_distance_97 : decode cX0_distance 97 = .ok (.istore 5, 2) := by decide +kernel
theorem dX0_distance_99 : decode cX0_distance 99 = .ok (.iinc 7 1, 3) := by decide +kernel
theorem dX0_distance_102 : decode cX0_distance 102 = .ok (.goto (-31), 3) := by decide +kernel
theorem dX0_distance_105 : decode cX0_distance 105 = .ok (.aload_n 0, 1) := by decide +kernel
theorem dX0_distance_106 : decode cX0_distance 106 = .ok (.iload 4, 2) := by decide +kernel
theorem dX0_distance_108 : decode cX0_distance 108 = .ok (.iload 5, 2) := by decide +kernel
theorem dX0_distance_110 : decode cX0_distance 110 = .ok (.invokevirtual 64, 3) := by decide +kernel
theorem dX0_distance_113 : decode cX0_distance 113 = .ok (.ireturn, 1) := by decide +kernel
theorem dX0_laid_0 : decode cX0_laid 0 = .ok (.iload_n 1, 1) := by decide +kernel
theorem dX0_laid_1 : decode cX0_laid 1 = .ok (.istore 4, 2) := by decide +kernel
theorem dX0_laid_3 : decode cX0_laid 3 = .ok (.iload_n 1, 1) := by decide +kernel
theorem dX0_laid_4 : decode cX0_laid 4 = .ok (.ifCond .le 17, 3) := by decide +kernel
theorem dX0_laid_7 : decode cX0_laid 7 = .ok (.iload_n 1, 1) := by decide +kernel
theorem dX0_laid_8 : decode cX0_laid 8 = .ok (.aload_n 0, 1) := by decide +kernel
theorem dX0_laid_9 : decode cX0_laid 9 = .ok (.arraylength, 1) := by decide +kernel
theorem dX0_laid_10 : decode cX0_laid 10 = .ok (.if_icmp .ge 11, 3) := by decide +kernel
theorem dX0_laid_13 : decode cX0_laid 13 = .ok (.aload_n 0, 1) := by decide +kernel
theorem dX0_laid_14 : decode cX0_laid 14 = .ok (.iload 4, 2) := by decide +kernel
theorem dX0_laid_16 : decode cX0_laid 16 = .ok (.iconst 0, 1) := by decide +kernel
theorem dX0_laid_17 : decode cX0_laid 17 = .ok (.iastore, 1) := by decide +kernel
theorem dX0_laid_18 : decode cX0_laid 18 = .ok (.iinc 4 1, 3) := by decide +kernel
theorem dX0_laid_21 : decode cX0_laid 21 = .ok (.lload_n 2, 1) := by decide +kernel
theorem dX0_laid_22 : decode cX0_laid 22 = .ok (.invokestatic 67, 3) := by decide +kernel
theorem dX0_laid_25 : decode cX0_laid 25 = .ok (.iconst 1, 1) := by decide +kernel
theorem dX0_laid_26 : decode cX0_laid 26 = .ok (.isub, 1) := by decide +kernel
theorem dX0_laid_27 : decode cX0_laid 27 = .ok (.istore 5, 2) := by decide +kernel
theorem dX0_laid_29 : decode cX0_laid 29 = .ok (.iload 5, 2) := by decide +kernel
theorem dX0_laid_31 : decode cX0_laid 31 = .ok (.ifCond .lt 34, 3) := by decide +kernel
theorem dX0_laid_34 : decode cX0_laid 34 = .ok (.iload 4, 2) := by decide +kernel
theorem dX0_laid_36 : decode cX0_laid 36 = .ok (.ifCond .lt 23, 3) := by decide +kernel
theorem dX0_laid_39 : decode cX0_laid 39 = .ok (.iload 4, 2) := by decide +kernel
theorem dX0_laid_41 : decode cX0_laid 41 = .ok (.aload_n 0, 1) := by decide +kernel
theorem dX0_laid_42 : decode cX0_laid 42 = .ok (.arraylength, 1) := by decide +kernel
theorem dX0_laid_43 : decode cX0_laid 43 = .ok (.if_icmp .ge 16, 3) := by decide +kernel
theorem dX0_laid_46 : decode cX0_laid 46 = .ok (.aload_n 0, 1) := by decide +kernel
theorem dX0_laid_47 : decode cX0_laid 47 = .ok (.iload 4, 2) := by decide +kernel
theorem dX0_laid_49 : decode cX0_laid 49 = .ok (.lload_n 2, 1) := by decide +kernel
theorem dX0_laid_50 : decode cX0_laid 50 = .ok (.iload 5, 2) := by decide +kernel
theorem dX0_laid_52 : decode cX0_laid 52 = .ok (.invokestatic 71, 3) := by decide +kernel
theorem dX0_laid_55 : decode cX0_laid 55 = .ok (.iastore, 1) := by decide +kernel
theorem dX0_laid_56 : decode cX0_laid 56 = .ok (.iinc 4 1, 3) := by decide +kernel
theorem dX0_laid_59 : decode cX0_laid 59 = .ok (.iinc 5 (-1), 3) := by decide +kernel
theorem dX0_laid_62 : decode cX0_laid 62 = .ok (.goto (-33), 3) := by decide +kernel
theorem dX0_laid_65 : decode cX0_laid 65 = .ok (.iload 4, 2) := by decide +kernel
theorem dX0_laid_67 : decode cX0_laid 67 = .ok (.ireturn, 1) := by decide +kernel
theorem dX0_changesBetween_0 : decode cX0_changesBetween 0 = .ok (.iload_n 1, 1) := by decide +kernel
theorem dX0_changesBetween_1 : decode cX0_changesBetween 1 = .ok (.aload_n 0, 1) := by decide +kernel
theorem dX0_changesBetween_2 : decode cX0_changesBetween 2 = .ok (.getfield 19, 3) := by decide +kernel
theorem dX0_changesBetween_5 : decode cX0_changesBetween 5 = .ok (.arraylength, 1) := by decide +kernel
theorem dX0_changesBetween_6 : decode cX0_changesBetween 6 = .ok (.if_icmp .gt 25, 3) := by decide +kernel
theorem dX0_changesBetween_9 : decode cX0_changesBetween 9 = .ok (.iload_n 2, 1) := by decide +kernel
theorem dX0_changesBetween_10 : decode cX0_changesBetween 10 = .ok (.aload_n 0, 1) := by decide +kernel
theorem dX0_changesBetween_11 : decode cX0_changesBetween 11 = .ok (.getfield 26, 3) := by decide +kernel
theorem dX0_changesBetween_14 : decode cX0_changesBetween 14 = .ok (.arraylength, 1) := by decide +kernel
theorem dX0_changesBetween_15 : decode cX0_changesBetween 15 = .ok (.if_icmp .ge 16, 3) := by decide +kernel
theorem dX0_changesBetween_18 : decode cX0_changesBetween 18 = .ok (.iload_n 2, 1) := by decide +kernel
theorem dX0_changesBetween_19 : decode cX0_changesBetween 19 = .ok (.aload_n 0, 1) := by decide +kernel
theorem dX0_changesBetween_20 : decode cX0_changesBetween 20 = .ok (.getfield 23, 3) := by decide +kernel
theorem dX0_changesBetween_23 : decode cX0_changesBetween 23 = .ok (.arraylength, 1) := by decide +kernel
theorem dX0_changesBetween_24 : decode cX0_changesBetween 24 = .ok (.if_icmp .gt 7, 3) := by decide +kernel
theorem dX0_changesBetween_27 : decode cX0_changesBetween 27 = .ok (.iload_n 2, 1) := by decide +kernel
theorem dX0_changesBetween_28 : decode cX0_changesBetween 28 = .ok (.ifCond .ge 5, 3) := by decide +kernel
theorem dX0_changesBetween_31 : decode cX0_changesBetween 31 = .ok (.iconst 0, 1) := by decide +kernel
theorem dX0_changesBetween_32 : decode cX0_changesBetween 32 = .ok (.ireturn, 1) := by decide +kernel
theorem dX0_changesBetween_33 : decode cX0_changesBetween 33 = .ok (.iconst 0, 1) := by decide +kernel
theorem dX0_changesBetween_34 : decode cX0_changesBetween 34 = .ok (.istore_n 3, 1) := by decide +kernel
theorem dX0_changesBetween_35 : decode cX0_changesBetween 35 = .ok (.iload_n 3, 1) := by decide +kernel
theorem dX0_changesBetween_36 : decode cX0_changesBetween 36 = .ok (.iload_n 2, 1) := by decide +kernel
theorem dX0_changesBetween_37 : decode cX0_changesBetween 37 = .ok (.if_icmp .gt 16, 3) := by decide +kernel
theorem dX0_changesBetween_40 : decode cX0_changesBetween 40 = .ok (.aload_n 0, 1) := by decide +kernel
theorem dX0_changesBetween_41 : decode cX0_changesBetween 41 = .ok (.getfield 26, 3) := by decide +kernel
theorem dX0_changesBetween_44 : decode cX0_changesBetween 44 = .ok (.iload_n 3, 1) := by decide +kernel
theorem dX0_changesBetween_45 : decode cX0_changesBetween 45 = .ok (.iload_n 3, 1) := by decide +kernel
theorem dX0_changesBetween_46 : decode cX0_changesBetween 46 = .ok (.iastore, 1) := by decide +kernel
theorem dX0_changesBetween_47 : decode cX0_changesBetween 47 = .ok (.iinc 3 1, 3) := by decide +kernel
theorem dX0_changesBetween_50 : decode cX0_changesBetween 50 = .ok (.goto (-15), 3) := by decide +kernel
theorem dX0_changesBetween_53 : decode cX0_changesBetween 53 = .ok (.iconst 0, 1) := by decide +kernel
theorem dX0_changesBetween_54 : decode cX0_changesBetween 54 = .ok (.istore_n 3, 1) := by decide +kernel
theorem dX0_changesBetween_55 : decode cX0_changesBetween 55 = .ok (.iload_n 3, 1) := by decide +kernel
theorem dX0_changesBetween_56 : decode cX0_changesBetween 56 = .ok (.iload_n 1, 1) := by decide +kernel
theorem dX0_changesBetween_57 : decode cX0_changesBetween 57 = .ok (.if_icmp .ge 113, 3) := by decide +kernel
theorem dX0_changesBetween_60 : decode cX0_changesBetween 60 = .ok (.aload_n 0, 1) := by decide +kernel
theorem dX0_changesBetween_61 : decode cX0_changesBetween 61 = .ok (.getfield 26, 3) := by decide +kernel
theorem dX0_changesBetween_64 : decode cX0_changesBetween 64 = .ok (.iconst 0, 1) := by decide +kernel
theorem dX0_changesBetween_65 : decode cX0_changesBetween 65 = .ok (.iaload, 1) := by decide +kernel
theorem dX0_changesBetween_66 : decode cX0_changesBetween 66 = .ok (.istore 4, 2) := by decide +kernel
theorem dX0_changesBetween_68 : decode cX0_changesBetween 68 = .ok (.aload_n 0, 1) := by decide +kernel
theorem dX0_changesBetween_69 : decode cX0_changesBetween 69 = .ok (.getfield 26, 3) := by decide +kernel
theorem dX0_changesBetween_72 : decode cX0_changesBetween 72 = .ok (.iconst 0, 1) := by decide +kernel
theorem dX0_changesBetween_73 : decode cX0_changesBetween 73 = .ok (.iload_n 3, 1) := by decide +kernel
theorem dX0_changesBetween_74 : decode cX0_changesBetween 74 = .ok (.iconst 1, 1) := by decide +kernel
theorem dX0_changesBetween_75 : decode cX0_changesBetween 75 = .ok (.iadd, 1) := by decide +kernel
theorem dX0_changesBetween_76 : decode cX0_changesBetween 76 = .ok (.iastore, 1) := by decide +kernel
theorem dX0_changesBetween_77 : decode cX0_changesBetween 77 = .ok (.iconst 0, 1) := by decide +kernel
theorem dX0_changesBetween_78 : decode cX0_changesBetween 78 = .ok (.istore 5, 2) := by decide +kernel
theorem dX0_changesBetween_80 : decode cX0_changesBetween 80 = .ok (.iload 5, 2) := by decide +kernel
theorem dX0_changesBetween_82 : decode cX0_changesBetween 82 = .ok (.iload_n 2, 1) := by decide +kernel
theorem dX0_changesBetween_83 : decode cX0_changesBetween 83 = .ok (.if_icmp .ge 81, 3) := by decide +kernel
theorem dX0_changesBetween_86 : decode cX0_changesBetween 86 = .ok (.iload 4, 2) := by decide +kernel
theorem dX0_changesBetween_88 : decode cX0_changesBetween 88 = .ok (.aload_n 0, 1) := by decide +kernel
theorem dX0_changesBetween_89 : decode cX0_changesBetween 89 = .ok (.getfield 19, 3) := by decide +kernel
theorem dX0_changesBetween_92 : decode cX0_changesBetween 92 = .ok (.iload_n 3, 1) := by decide +kernel
theorem dX0_changesBetween_93 : decode cX0_changesBetween 93 = .ok (.iaload, 1) := by decide +kernel
theorem dX0_changesBetween_94 : decode cX0_changesBetween 94 = .ok (.aload_n 0, 1) := by decide +kernel
theorem dX0_changesBetween_95 : decode cX0_changesBetween 95 = .ok (.getfield 23, 3) := by decide +kernel
theorem dX0_changesBetween_98 : decode cX0_changesBetween 98 = .ok (.iload 5, 2) := by decide +kernel
theorem dX0_changesBetween_100 : decode cX0_changesBetween 100 = .ok (.iaload, 1) := by decide +kernel
theorem dX0_changesBetween_101 : decode cX0_changesBetween 101 = .ok (.if_icmp .ne 7, 3) := by decide +kernel
theorem dX0_changesBetween_104 : decode cX0_changesBetween 104 = .ok (.iconst 0, 1) := by decide +kernel
theorem dX0_changesBetween_105 : decode cX0_changesBetween 105 = .ok (.goto 4, 3) := by decide +kernel
theorem dX0_changesBetween_108 : decode cX0_changesBetween 108 = .ok (.iconst 1, 1) := by decide +kernel
theorem dX0_changesBetween_109 : decode cX0_changesBetween 109 = .ok (.iadd, 1) := by decide +kernel
theorem dX0_changesBetween_110 : decode cX0_changesBetween 110 = .ok (.istore 6, 2) := by decide +kernel
theorem dX0_changesBetween_112 : decode cX0_changesBetween 112 = .ok (.aload_n 0, 1) := by decide +kernel
theorem dX0_changesBetween_113 : decode cX0_changesBetween 113 = .ok (.getfield 26, 3) := by decide +kernel
theorem dX0_changesBetween_116 : decode cX0_changesBetween 116 = .ok (.iload 5, 2) := by decide +kernel
theorem dX0_changesBetween_118 : decode cX0_changesBetween 118 = .ok (.iconst 1, 1) := by decide +kernel
theorem dX0_changesBetween_119 : decode cX0_changesBetween 119 = .ok (.iadd, 1) := by decide +kernel
theorem dX0_changesBetween_120 : decode cX0_changesBetween 120 = .ok (.iaload, 1) := by decide +kernel
theorem dX0_changesBetween_121 : decode cX0_changesBetween 121 = .ok (.istore 4, 2) := by decide +kernel
theorem dX0_changesBetween_123 : decode cX0_changesBetween 123 = .ok (.aload_n 0, 1) := by decide +kernel
theorem dX0_changesBetween_124 : decode cX0_changesBetween 124 = .ok (.getfield 26, 3) := by decide +kernel
theorem dX0_changesBetween_127 : decode cX0_changesBetween 127 = .ok (.iload 5, 2) := by decide +kernel
theorem dX0_changesBetween_129 : decode cX0_changesBetween 129 = .ok (.iconst 1, 1) := by decide +kernel
theorem dX0_changesBetween_130 : decode cX0_changesBetween 130 = .ok (.iadd, 1) := by decide +kernel
theorem dX0_changesBetween_131 : decode cX0_changesBetween 131 = .ok (.iload 6, 2) := by decide +kernel
theorem dX0_changesBetween_133 : decode cX0_changesBetween 133 = .ok (.iconst 1, 1) := by decide +kernel
theorem dX0_changesBetween_134 : decode cX0_changesBetween 134 = .ok (.aload_n 0, 1) := by decide +kernel
theorem dX0_changesBetween_135 : decode cX0_changesBetween 135 = .ok (.getfield 26, 3) := by decide +kernel
theorem dX0_changesBetween_138 : decode cX0_changesBetween 138 = .ok (.iload 5, 2) := by decide +kernel
theorem dX0_changesBetween_140 : decode cX0_changesBetween 140 = .ok (.iaload, 1) := by decide +kernel
theorem dX0_changesBetween_141 : decode cX0_changesBetween 141 = .ok (.aload_n 0, 1) := by decide +kernel
theorem dX0_changesBetween_142 : decode cX0_changesBetween 142 = .ok (.getfield 26, 3) := by decide +kernel
theorem dX0_changesBetween_145 : decode cX0_changesBetween 145 = .ok (.iload 5, 2) := by decide +kernel
theorem dX0_changesBetween_147 : decode cX0_changesBetween 147 = .ok (.iconst 1, 1) := by decide +kernel
theorem dX0_changesBetween_148 : decode cX0_changesBetween 148 = .ok (.iadd, 1) := by decide +kernel
theorem dX0_changesBetween_149 : decode cX0_changesBetween 149 = .ok (.iaload, 1) := by decide +kernel
theorem dX0_changesBetween_150 : decode cX0_changesBetween 150 = .ok (.invokestatic 75, 3) := by decide +kernel
theorem dX0_changesBetween_153 : decode cX0_changesBetween 153 = .ok (.iadd, 1) := by decide +kernel
theorem dX0_changesBetween_154 : decode cX0_changesBetween 154 = .ok (.invokestatic 75, 3) := by decide +kernel
theorem dX0_changesBetween_157 : decode cX0_changesBetween 157 = .ok (.iastore, 1) := by decide +kernel
theorem dX0_changesBetween_158 : decode cX0_changesBetween 158 = .ok (.iinc 5 1, 3) := by decide +kernel
theorem dX0_changesBetween_161 : decode cX0_changesBetween 161 = .ok (.goto (-81), 3) := by decide +kernel
theorem dX0_changesBetween_164 : decode cX0_changesBetween 164 = .ok (.iinc 3 1, 3) := by decide +kernel
theorem dX0_changesBetween_167 : decode cX0_changesBetween 167 = .ok (.goto (-112), 3) := by decide +kernel
theorem dX0_changesBetween_170 : decode cX0_changesBetween 170 = .ok (.aload_n 0, 1) := by decide +kernel
theorem dX0_changesBetween_171 : decode cX0_changesBetween 171 = .ok (.getfield 26, 3) := by decide +kernel
theorem dX0_changesBetween_174 : decode cX0_changesBetween 174 = .ok (.iload_n 2, 1) := by decide +kernel
theorem dX0_changesBetween_175 : decode cX0_changesBetween 175 = .ok (.iaload, 1) := by decide +kernel
theorem dX0_changesBetween_176 : decode cX0_changesBetween 176 = .ok (.ireturn, 1) := by decide +kernel
theorem dX0_kindOf_0 : decode cX0_kindOf 0 = .ok (.aload_n 0, 1) := by decide +kernel
theorem dX0_kindOf_1 : decode cX0_kindOf 1 = .ok (.getfield 13, 3) := by decide +kernel
theorem dX0_kindOf_4 : decode cX0_kindOf 4 = .ok (.iload_n 1, 1) := by decide +kernel
theorem dX0_kindOf_5 : decode cX0_kindOf 5 = .ok (.invokevirtual 40, 3) := by decide +kernel
theorem dX0_kindOf_8 : decode cX0_kindOf 8 = .ok (.ifCond .ne 5, 3) := by decide +kernel
theorem dX0_kindOf_11 : decode cX0_kindOf 11 = .ok (.iconst 0, 1) := by decide +kernel
theorem dX0_kindOf_12 : decode cX0_kindOf 12 = .ok (.ireturn, 1) := by decide +kernel
theorem dX0_kindOf_13 : decode cX0_kindOf 13 = .ok (.aload_n 0, 1) := by decide +kernel
theorem dX0_kindOf_14 : decode cX0_kindOf 14 = .ok (.iload_n 1, 1) := by decide +kernel
theorem dX0_kindOf_15 : decode cX0_kindOf 15 = .ok (.iload_n 2, 1) := by decide +kernel
theorem dX0_kindOf_16 : decode cX0_kindOf 16 = .ok (.invokevirtual 78, 3) := by decide +kernel
theorem dX0_kindOf_19 : decode cX0_kindOf 19 = .ok (.istore_n 3, 1) := by decide +kernel
theorem dX0_kindOf_20 : decode cX0_kindOf 20 = .ok (.iload_n 3, 1) := by decide +kernel
theorem dX0_kindOf_21 : decode cX0_kindOf 21 = .ok (.ifCond .le 14, 3) := by decide +kernel
theorem dX0_kindOf_24 : decode cX0_kindOf 24 = .ok (.iload_n 3, 1) := by decide +kernel
theorem dX0_kindOf_25 : decode cX0_kindOf 25 = .ok (.iconst 1, 1) := by decide +kernel
theorem dX0_kindOf_26 : decode cX0_kindOf 26 = .ok (.if_icmp .ne 7, 3) := by decide +kernel
theorem dX0_kindOf_29 : decode cX0_kindOf 29 = .ok (.iconst 1, 1) := by decide +kernel
theorem dX0_kindOf_30 : decode cX0_kindOf 30 = .ok (.goto 4, 3) := by decide +kernel
theorem dX0_kindOf_33 : decode cX0_kindOf 33 = .ok (.iconst 2, 1) := by decide +kernel
theorem dX0_kindOf_34 : decode cX0_kindOf 34 = .ok (.ireturn, 1) := by decide +kernel
theorem dX0_kindOf_35 : decode cX0_kindOf 35 = .ok (.aload_n 0, 1) := by decide +kernel
theorem dX0_kindOf_36 : decode cX0_kindOf 36 = .ok (.iload_n 1, 1) := by decide +kernel
theorem dX0_kindOf_37 : decode cX0_kindOf 37 = .ok (.invokevirtual 81, 3) := by decide +kernel
theorem dX0_kindOf_40 : decode cX0_kindOf 40 = .ok (.ifCond .eq 5, 3) := by decide +kernel
theorem dX0_kindOf_43 : decode cX0_kindOf 43 = .ok (.iconst 3, 1) := by decide +kernel
theorem dX0_kindOf_44 : decode cX0_kindOf 44 = .ok (.ireturn, 1) := by decide +kernel
theorem dX0_kindOf_45 : decode cX0_kindOf 45 = .ok (.aload_n 0, 1) := by decide +kernel
theorem dX0_kindOf_46 : decode cX0_kindOf 46 = .ok (.iload_n 1, 1) := by decide +kernel
theorem dX0_kindOf_47 : decode cX0_kindOf 47 = .ok (.iload_n 2, 1) := by decide +kernel
theorem dX0_kindOf_48 : decode cX0_kindOf 48 = .ok (.invokevirtual 85, 3) := by decide +kernel
theorem dX0_kindOf_51 : decode cX0_kindOf 51 = .ok (.ifCond .eq 7, 3) := by decide +kernel
theorem dX0_kindOf_54 : decode cX0_kindOf 54 = .ok (.iconst 4, 1) := by decide +kernel
theorem dX0_kindOf_55 : decode cX0_kindOf 55 = .ok (.goto 4, 3) := by decide +kernel
theorem dX0_kindOf_58 : decode cX0_kindOf 58 = .ok (.iconst 5, 1) := by decide +kernel
theorem dX0_kindOf_59 : decode cX0_kindOf 59 = .ok (.ireturn, 1) := by decide +kernel
theorem dX0_metBy_0 : decode cX0_metBy 0 = .ok (.iload_n 2, 1) := by decide +kernel
theorem dX0_metBy_1 : decode cX0_metBy 1 = .ok (.iconst 1, 1) := by decide +kernel
theorem dX0_metBy_2 : decode cX0_metBy 2 = .ok (.iload_n 1, 1) := by decide +kernel
theorem dX0_metBy_3 : decode cX0_metBy 3 = .ok (.invokestatic 89, 3) := by decide +kernel
theorem dX0_metBy_6 : decode cX0_metBy 6 = .ok (.ishl, 1) := by decide +kernel
theorem dX0_metBy_7 : decode cX0_metBy 7 = .ok (.iconst (-1), 1) := by decide +kernel
theorem dX0_metBy_8 : decode cX0_metBy 8 = .ok (.ixor, 1) := by decide +kernel
theorem dX0_metBy_9 : decode cX0_metBy 9 = .ok (.iand, 1) := by decide +kernel
theorem dX0_metBy_10 : decode cX0_metBy 10 = .ok (.istore_n 3, 1) := by decide +kernel
theorem dX0_metBy_11 : decode cX0_metBy 11 = .ok (.iconst 0, 1) := by decide +kernel
theorem dX0_metBy_12 : decode cX0_metBy 12 = .ok (.istore 4, 2) := by decide +kernel
theorem dX0_metBy_14 : decode cX0_metBy 14 = .ok (.iconst 0, 1) := by decide +kernel
theorem dX0_metBy_15 : decode cX0_metBy 15 = .ok (.istore 5, 2) := by decide +kernel
theorem dX0_metBy_17 : decode cX0_metBy 17 = .ok (.iload 5, 2) := by decide +kernel
theorem dX0_metBy_19 : decode cX0_metBy 19 = .ok (.aload_n 0, 1) := by decide +kernel
theorem dX0_metBy_20 : decode cX0_metBy 20 = .ok (.getfield 13, 3) := by decide +kernel
theorem dX0_metBy_23 : decode cX0_metBy 23 = .ok (.invokevirtual 92, 3) := by decide +kernel
theorem dX0_metBy_26 : decode cX0_metBy 26 = .ok (.if_icmp .ge 42, 3) := by decide +kernel
theorem dX0_metBy_29 : decode cX0_metBy 29 = .ok (.aload_n 0, 1) := by decide +kernel
theorem dX0_metBy_30 : decode cX0_metBy 30 = .ok (.getfield 13, 3) := by decide +kernel
theorem dX0_metBy_33 : decode cX0_metBy 33 = .ok (.iload 5, 2) := by decide +kernel
theorem dX0_metBy_35 : decode cX0_metBy 35 = .ok (.invokevirtual 96, 3) := by decide +kernel
theorem dX0_metBy_38 : decode cX0_metBy 38 = .ok (.istore 6, 2) := by decide +kernel
theorem dX0_metBy_40 : decode cX0_metBy 40 = .ok (.iload 6, 2) := by decide +kernel
theorem dX0_metBy_42 : decode cX0_metBy 42 = .ok (.iload_n 3, 1) := by decide +kernel
theorem dX0_metBy_43 : decode cX0_metBy 43 = .ok (.invokestatic 99, 3) := by decide +kernel
theorem dX0_metBy_46 : decode cX0_metBy 46 = .ok (.ifCond .eq 16, 3) := by decide +kernel
theorem dX0_metBy_49 : decode cX0_metBy 49 = .ok (.aload_n 0, 1) := by decide +kernel
theorem dX0_metBy_50 : decode cX0_metBy 50 = .ok (.iload_n 1, 1) := by decide +kernel
theorem dX0_metBy_51 : decode cX0_metBy 51 = .ok (.iload 6, 2) := by decide +kernel
theorem dX0_metBy_53 : decode cX0_metBy 53 = .ok (.invokevirtual 102, 3) := by decide +kernel
theorem dX0_metBy_56 : decode cX0_metBy 56 = .ok (.ifCond .eq 6, 3) := by decide +kernel
theorem dX0_metBy_59 : decode cX0_metBy 59 = .ok (.iinc 4 1, 3) := by decide +kernel
theorem dX0_metBy_62 : decode cX0_metBy 62 = .ok (.iinc 5 1, 3) := by decide +kernel
theorem dX0_metBy_65 : decode cX0_metBy 65 = .ok (.goto (-48), 3) := by decide +kernel
theorem dX0_metBy_68 : decode cX0_metBy 68 = .ok (.iload 4, 2) := by decide +kernel
theorem dX0_metBy_70 : decode cX0_metBy 70 = .ok (.ireturn, 1) := by decide +kernel
theorem dX0_isOwn_0 : decode cX0_isOwn 0 = .ok (.iload_n 1, 1) := by decide +kernel
theorem dX0_isOwn_1 : decode cX0_isOwn 1 = .ok (.iload_n 1, 1) := by decide +kernel
theorem dX0_isOwn_2 : decode cX0_isOwn 2 = .ok (.bipush 16, 2) := by decide +kernel
theorem dX0_isOwn_4 : decode cX0_isOwn 4 = .ok (.irem, 1) := by decide +kernel
theorem dX0_isOwn_5 : decode cX0_isOwn 5 = .ok (.isub, 1) := by decide +kernel
theorem dX0_isOwn_6 : decode cX0_isOwn 6 = .ok (.istore_n 2, 1) := by decide +kernel
theorem dX0_isOwn_7 : decode cX0_isOwn 7 = .ok (.iload_n 2, 1) := by decide +kernel
theorem dX0_isOwn_8 : decode cX0_isOwn 8 = .ok (.iload_n 1, 1) := by decide +kernel
theorem dX0_isOwn_9 : decode cX0_isOwn 9 = .ok (.if_icmp .ge 20, 3) := by decide +kernel
theorem dX0_isOwn_12 : decode cX0_isOwn 12 = .ok (.aload_n 0, 1) := by decide +kernel
theorem dX0_isOwn_13 : decode cX0_isOwn 13 = .ok (.iload_n 1, 1) := by decide +kernel
theorem dX0_isOwn_14 : decode cX0_isOwn 14 = .ok (.iload_n 2, 1) := by decide +kernel
theorem dX0_isOwn_15 : decode cX0_isOwn 15 = .ok (.invokevirtual 102, 3) := by decide +kernel
theorem dX0_isOwn_18 : decode cX0_isOwn 18 = .ok (.ifCond .eq 5, 3) := by decide +kernel
theorem dX0_isOwn_21 : decode cX0_isOwn 21 = .ok (.iconst 1, 1) := by decide +kernel
theorem dX0_isOwn_22 : decode cX0_isOwn 22 = .ok (.ireturn, 1) := by decide +kernel
theorem dX0_isOwn_23 : decode cX0_isOwn 23 = .ok (.iinc 2 1, 3) := by decide +kernel
theorem dX0_isOwn_26 : decode cX0_isOwn 26 = .ok (.goto (-19), 3) := by decide +kernel
theorem dX0_isOwn_29 : decode cX0_isOwn 29 = .ok (.iconst 0, 1) := by decide +kernel
theorem dX0_isOwn_30 : decode cX0_isOwn 30 = .ok (.ireturn, 1) := by decide +kernel
theorem dX0_slips_0 : decode cX0_slips 0 = .ok (.iload_n 2, 1) := by decide +kernel
theorem dX0_slips_1 : decode cX0_slips 1 = .ok (.iconst 1, 1) := by decide +kernel
theorem dX0_slips_2 : decode cX0_slips 2 = .ok (.iload_n 1, 1) := by decide +kernel
theorem dX0_slips_3 : decode cX0_slips 3 = .ok (.invokestatic 89, 3) := by decide +kernel
theorem dX0_slips_6 : decode cX0_slips 6 = .ok (.ishl, 1) := by decide +kernel
theorem dX0_slips_7 : decode cX0_slips 7 = .ok (.iconst (-1), 1) := by decide +kernel
theorem dX0_slips_8 : decode cX0_slips 8 = .ok (.ixor, 1) := by decide +kernel
theorem dX0_slips_9 : decode cX0_slips 9 = .ok (.iand, 1) := by decide +kernel
theorem dX0_slips_10 : decode cX0_slips 10 = .ok (.istore_n 3, 1) := by decide +kernel
theorem dX0_slips_11 : decode cX0_slips 11 = .ok (.iconst 0, 1) := by decide +kernel
theorem dX0_slips_12 : decode cX0_slips 12 = .ok (.istore 4, 2) := by decide +kernel
theorem dX0_slips_14 : decode cX0_slips 14 = .ok (.iload 4, 2) := by decide +kernel
theorem dX0_slips_16 : decode cX0_slips 16 = .ok (.aload_n 0, 1) := by decide +kernel
theorem dX0_slips_17 : decode cX0_slips 17 = .ok (.getfield 13, 3) := by decide +kernel
theorem dX0_slips_20 : decode cX0_slips 20 = .ok (.invokevirtual 92, 3) := by decide +kernel
theorem dX0_slips_23 : decode cX0_slips 23 = .ok (.if_icmp .ge 45, 3) := by decide +kernel
theorem dX0_slips_26 : decode cX0_slips 26 = .ok (.aload_n 0, 1) := by decide +kernel
theorem dX0_slips_27 : decode cX0_slips 27 = .ok (.getfield 13, 3) := by decide +kernel
theorem dX0_slips_30 : decode cX0_slips 30 = .ok (.iload 4, 2) := by decide +kernel
theorem dX0_slips_32 : decode cX0_slips 32 = .ok (.invokevirtual 96, 3) := by decide +kernel
theorem dX0_slips_35 : decode cX0_slips 35 = .ok (.istore 5, 2) := by decide +kernel
theorem dX0_slips_37 : decode cX0_slips 37 = .ok (.iload 5, 2) := by decide +kernel
theorem dX0_slips_39 : decode cX0_slips 39 = .ok (.iload_n 3, 1) := by decide +kernel
theorem dX0_slips_40 : decode cX0_slips 40 = .ok (.invokestatic 99, 3) := by decide +kernel
theorem dX0_slips_43 : decode cX0_slips 43 = .ok (.ifCond .eq 19, 3) := by decide +kernel
theorem dX0_slips_46 : decode cX0_slips 46 = .ok (.aload_n 0, 1) := by decide +kernel
theorem dX0_slips_47 : decode cX0_slips 47 = .ok (.iload_n 1, 1) := by decide +kernel
theorem dX0_slips_48 : decode cX0_slips 48 = .ok (.iload 5, 2) := by decide +kernel
theorem dX0_slips_50 : decode cX0_slips 50 = .ok (.invokevirtual 105, 3) := by decide +kernel
theorem dX0_slips_53 : decode cX0_slips 53 = .ok (.aload_n 0, 1) := by decide +kernel
theorem dX0_slips_54 : decode cX0_slips 54 = .ok (.getfield 36, 3) := by decide +kernel
theorem dX0_slips_57 : decode cX0_slips 57 = .ok (.if_icmp .gt 5, 3) := by decide +kernel
theorem dX0_slips_60 : decode cX0_slips 60 = .ok (.iconst 1, 1) := by decide +kernel
theorem dX0_slips_61 : decode cX0_slips 61 = .ok (.ireturn, 1) := by decide +kernel
theorem dX0_slips_62 : decode cX0_slips 62 = .ok (.iinc 4 1, 3) := by decide +kernel
theorem dX0_slips_65 : decode cX0_slips 65 = .ok (.goto (-51), 3) := by decide +kernel
theorem dX0_slips_68 : decode cX0_slips 68 = .ok (.iconst 0, 1) := by decide +kernel
theorem dX0_slips_69 : decode cX0_slips 69 = .ok (.ireturn, 1) := by decide +kernel
theorem dX0_howManyOfKind_0 : decode cX0_howManyOfKind 0 = .ok (.iconst 0, 1) := by decide +kernel
theorem dX0_howManyOfKind_1 : decode cX0_howManyOfKind 1 = .ok (.istore_n 3, 1) := by decide +kernel
theorem dX0_howManyOfKind_2 : decode cX0_howManyOfKind 2 = .ok (.iconst 0, 1) := by decide +kernel
theorem dX0_howManyOfKind_3 : decode cX0_howManyOfKind 3 = .ok (.istore 4, 2) := by decide +kernel
theorem dX0_howManyOfKind_5 : decode cX0_howManyOfKind 5 = .ok (.iload 4, 2) := by decide +kernel
theorem dX0_howManyOfKind_7 : decode cX0_howManyOfKind 7 = .ok (.aload_n 0, 1) := by decide +kernel
theorem dX0_howManyOfKind_8 : decode cX0_howManyOfKind 8 = .ok (.getfield 13, 3) := by decide +kernel
theorem dX0_howManyOfKind_11 : decode cX0_howManyOfKind 11 = .ok (.invokevirtual 92, 3) := by decide +kernel
theorem dX0_howManyOfKind_14 : decode cX0_howManyOfKind 14 = .ok (.if_icmp .ge 43, 3) := by decide +kernel
theorem dX0_howManyOfKind_17 : decode cX0_howManyOfKind 17 = .ok (.aload_n 0, 1) := by decide +kernel
theorem dX0_howManyOfKind_18 : decode cX0_howManyOfKind 18 = .ok (.getfield 13, 3) := by decide +kernel
theorem dX0_howManyOfKind_21 : decode cX0_howManyOfKind 21 = .ok (.iload 4, 2) := by decide +kernel
theorem dX0_howManyOfKind_23 : decode cX0_howManyOfKind 23 = .ok (.invokevirtual 96, 3) := by decide +kernel
theorem dX0_howManyOfKind_26 : decode cX0_howManyOfKind 26 = .ok (.istore 5, 2) := by decide +kernel
theorem dX0_howManyOfKind_28 : decode cX0_howManyOfKind 28 = .ok (.iload 5, 2) := by decide +kernel
theorem dX0_howManyOfKind_30 : decode cX0_howManyOfKind 30 = .ok (.iload_n 1, 1) := by decide +kernel
theorem dX0_howManyOfKind_31 : decode cX0_howManyOfKind 31 = .ok (.invokestatic 99, 3) := by decide +kernel
theorem dX0_howManyOfKind_34 : decode cX0_howManyOfKind 34 = .ok (.ifCond .eq 17, 3) := by decide +kernel
theorem dX0_howManyOfKind_37 : decode cX0_howManyOfKind 37 = .ok (.aload_n 0, 1) := by decide +kernel
theorem dX0_howManyOfKind_38 : decode cX0_howManyOfKind 38 = .ok (.iload 5, 2) := by decide +kernel
theorem dX0_howManyOfKind_40 : decode cX0_howManyOfKind 40 = .ok (.iload_n 1, 1) := by decide +kernel
theorem dX0_howManyOfKind_41 : decode cX0_howManyOfKind 41 = .ok (.invokevirtual 108, 3) := by decide +kernel
theorem dX0_howManyOfKind_44 : decode cX0_howManyOfKind 44 = .ok (.iload_n 2, 1) := by decide +kernel
theorem dX0_howManyOfKind_45 : decode cX0_howManyOfKind 45 = .ok (.if_icmp .ne 6, 3) := by decide +kernel
theorem dX0_howManyOfKind_48 : decode cX0_howManyOfKind 48 = .ok (.iinc 3 1, 3) := by decide +kernel
theorem dX0_howManyOfKind_51 : decode cX0_howManyOfKind 51 = .ok (.iinc 4 1, 3) := by decide +kernel
theorem dX0_howManyOfKind_54 : decode cX0_howManyOfKind 54 = .ok (.goto (-49), 3) := by decide +kernel
theorem dX0_howManyOfKind_57 : decode cX0_howManyOfKind 57 = .ok (.iload_n 3, 1) := by decide +kernel
theorem dX0_howManyOfKind_58 : decode cX0_howManyOfKind 58 = .ok (.ireturn, 1) := by decide +kernel
theorem dX0_leastFar_0 : decode cX0_leastFar 0 = .ok (.iload_n 2, 1) := by decide +kernel
theorem dX0_leastFar_1 : decode cX0_leastFar 1 = .ok (.iconst 1, 1) := by decide +kernel
theorem dX0_leastFar_2 : decode cX0_leastFar 2 = .ok (.iload_n 1, 1) := by decide +kernel
theorem dX0_leastFar_3 : decode cX0_leastFar 3 = .ok (.invokestatic 89, 3) := by decide +kernel
theorem dX0_leastFar_6 : decode cX0_leastFar 6 = .ok (.ishl, 1) := by decide +kernel
theorem dX0_leastFar_7 : decode cX0_leastFar 7 = .ok (.iconst (-1), 1) := by decide +kernel
theorem dX0_leastFar_8 : decode cX0_leastFar 8 = .ok (.ixor, 1) := by decide +kernel
theorem dX0_leastFar_9 : decode cX0_leastFar 9 = .ok (.iand, 1) := by decide +kernel
theorem dX0_leastFar_10 : decode cX0_leastFar 10 = .ok (.istore_n 3, 1) := by decide +kernel
theorem dX0_leastFar_11 : decode cX0_leastFar 11 = .ok (.iconst (-1), 1) := by decide +kernel
theorem dX0_leastFar_12 : decode cX0_leastFar 12 = .ok (.istore 4, 2) := by decide +kernel
theorem dX0_leastFar_14 : decode cX0_leastFar 14 = .ok (.iconst 0, 1) := by decide +kernel
theorem dX0_leastFar_15 : decode cX0_leastFar 15 = .ok (.istore 5, 2) := by decide +kernel
theorem dX0_leastFar_17 : decode cX0_leastFar 17 = .ok (.iconst 0, 1) := by decide +kernel
theorem dX0_leastFar_18 : decode cX0_leastFar 18 = .ok (.istore 6, 2) := by decide +kernel
theorem dX0_leastFar_20 : decode cX0_leastFar 20 = .ok (.iload 6, 2) := by decide +kernel
theorem dX0_leastFar_22 : decode cX0_leastFar 22 = .ok (.aload_n 0, 1) := by decide +kernel
theorem dX0_leastFar_23 : decode cX0_leastFar 23 = .ok (.getfield 13, 3) := by decide +kernel
theorem dX0_leastFar_26 : decode cX0_leastFar 26 = .ok (.invokevirtual 92, 3) := by decide +kernel
theorem dX0_leastFar_29 : decode cX0_leastFar 29 = .ok (.if_icmp .ge 59, 3) := by decide +kernel
theorem dX0_leastFar_32 : decode cX0_leastFar 32 = .ok (.aload_n 0, 1) := by decide +kernel
theorem dX0_leastFar_33 : decode cX0_leastFar 33 = .ok (.getfield 13, 3) := by decide +kernel
theorem dX0_leastFar_36 : decode cX0_leastFar 36 = .ok (.iload 6, 2) := by decide +kernel
theorem dX0_leastFar_38 : decode cX0_leastFar 38 = .ok (.invokevirtual 96, 3) := by decide +kernel
theorem dX0_leastFar_41 : decode cX0_leastFar 41 = .ok (.istore 7, 2) := by decide +kernel
theorem dX0_leastFar_43 : decode cX0_leastFar 43 = .ok (.iload 7, 2) := by decide +kernel
theorem dX0_leastFar_45 : decode cX0_leastFar 45 = .ok (.iload_n 3, 1) := by decide +kernel
theorem dX0_leastFar_46 : decode cX0_leastFar 46 = .ok (.invokestatic 99, 3) := by decide +kernel
theorem dX0_leastFar_49 : decode cX0_leastFar 49 = .ok (.ifCond .eq 33, 3) := by decide +kernel
theorem dX0_leastFar_52 : decode cX0_leastFar 52 = .ok (.aload_n 0, 1) := by decide +kernel
theorem dX0_leastFar_53 : decode cX0_leastFar 53 = .ok (.iload_n 1, 1) := by decide +kernel
theorem dX0_leastFar_54 : decode cX0_leastFar 54 = .ok (.iload 7, 2) := by decide +kernel
theorem dX0_leastFar_56 : decode cX0_leastFar 56 = .ok (.invokevirtual 105, 3) := by decide +kernel
theorem dX0_leastFar_59 : decode cX0_leastFar 59 = .ok (.istore 8, 2) := by decide +kernel
theorem dX0_leastFar_61 : decode cX0_leastFar 61 = .ok (.iload 4, 2) := by decide +kernel
theorem dX0_leastFar_63 : decode cX0_leastFar 63 = .ok (.iconst (-1), 1) := by decide +kernel
theorem dX0_leastFar_64 : decode cX0_leastFar 64 = .ok (.if_icmp .eq 10, 3) := by decide +kernel
theorem dX0_leastFar_67 : decode cX0_leastFar 67 = .ok (.iload 8, 2) := by decide +kernel
theorem dX0_leastFar_69 : decode cX0_leastFar 69 = .ok (.iload 5, 2) := by decide +kernel
theorem dX0_leastFar_71 : decode cX0_leastFar 71 = .ok (.if_icmp .ge 11, 3) := by decide +kernel
theorem dX0_leastFar_74 : decode cX0_leastFar 74 = .ok (.iload 7, 2) := by decide +kernel
theorem dX0_leastFar_76 : decode cX0_leastFar 76 = .ok (.istore 4, 2) := by decide +kernel
theorem dX0_leastFar_78 : decode cX0_leastFar 78 = .ok (.iload 8, 2) := by decide +kernel
theorem dX0_leastFar_80 : decode cX0_leastFar 80 = .ok (.istore 5, 2) := by decide +kernel
theorem dX0_leastFar_82 : decode cX0_leastFar 82 = .ok (.iinc 6 1, 3) := by decide +kernel
theorem dX0_leastFar_85 : decode cX0_leastFar 85 = .ok (.goto (-65), 3) := by decide +kernel
theorem dX0_leastFar_88 : decode cX0_leastFar 88 = .ok (.iload 4, 2) := by decide +kernel
theorem dX0_leastFar_90 : decode cX0_leastFar 90 = .ok (.ireturn, 1) := by decide +kernel
theorem dX0_wordsAtLeast_0 : decode cX0_wordsAtLeast 0 = .ok (.iconst 0, 1) := by decide +kernel
theorem dX0_wordsAtLeast_1 : decode cX0_wordsAtLeast 1 = .ok (.istore_n 2, 1) := by decide +kernel
theorem dX0_wordsAtLeast_2 : decode cX0_wordsAtLeast 2 = .ok (.iconst 0, 1) := by decide +kernel
theorem dX0_wordsAtLeast_3 : decode cX0_wordsAtLeast 3 = .ok (.istore_n 3, 1) := by decide +kernel
theorem dX0_wordsAtLeast_4 : decode cX0_wordsAtLeast 4 = .ok (.iload_n 3, 1) := by decide +kernel
theorem dX0_wordsAtLeast_5 : decode cX0_wordsAtLeast 5 = .ok (.aload_n 0, 1) := by decide +kernel
theorem dX0_wordsAtLeast_6 : decode cX0_wordsAtLeast 6 = .ok (.getfield 13, 3) := by decide +kernel
theorem dX0_wordsAtLeast_9 : decode cX0_wordsAtLeast 9 = .ok (.invokevirtual 92, 3) := by decide +kernel
theorem dX0_wordsAtLeast_12 : decode cX0_wordsAtLeast 12 = .ok (.if_icmp .ge 109, 3) := by decide +kernel
theorem dX0_wordsAtLeast_15 : decode cX0_wordsAtLeast 15 = .ok (.iload_n 3, 1) := by decide +kernel
theorem dX0_wordsAtLeast_16 : decode cX0_wordsAtLeast 16 = .ok (.aload_n 0, 1) := by decide +kernel
theorem dX0_wordsAtLeast_17 : decode cX0_wordsAtLeast 17 = .ok (.getfield 29, 3) := by decide +kernel
theorem dX0_wordsAtLeast_20 : decode cX0_wordsAtLeast 20 = .ok (.arraylength, 1) := by decide +kernel
theorem dX0_wordsAtLeast_21 : decode cX0_wordsAtLeast 21 = .ok (.if_icmp .ge 100, 3) := by decide +kernel
theorem dX0_wordsAtLeast_24 : decode cX0_wordsAtLeast 24 = .ok (.aload_n 0, 1) := by decide +kernel
theorem dX0_wordsAtLeast_25 : decode cX0_wordsAtLeast 25 = .ok (.getfield 13, 3) := by decide +kernel
theorem dX0_wordsAtLeast_28 : decode cX0_wordsAtLeast 28 = .ok (.iload_n 3, 1) := by decide +kernel
theorem dX0_wordsAtLeast_29 : decode cX0_wordsAtLeast 29 = .ok (.invokevirtual 96, 3) := by decide +kernel
theorem dX0_wordsAtLeast_32 : decode cX0_wordsAtLeast 32 = .ok (.istore 4, 2) := by decide +kernel
theorem dX0_wordsAtLeast_34 : decode cX0_wordsAtLeast 34 = .ok (.iload 4, 2) := by decide +kernel
theorem dX0_wordsAtLeast_36 : decode cX0_wordsAtLeast 36 = .ok (.iload_n 1, 1) := by decide +kernel
theorem dX0_wordsAtLeast_37 : decode cX0_wordsAtLeast 37 = .ok (.invokestatic 99, 3) := by decide +kernel
theorem dX0_wordsAtLeast_40 : decode cX0_wordsAtLeast 40 = .ok (.istore 5, 2) := by decide +kernel
theorem dX0_wordsAtLeast_42 : decode cX0_wordsAtLeast 42 = .ok (.aload_n 0, 1) := by decide +kernel
theorem dX0_wordsAtLeast_43 : decode cX0_wordsAtLeast 43 = .ok (.getfield 29, 3) := by decide +kernel
theorem dX0_wordsAtLeast_46 : decode cX0_wordsAtLeast 46 = .ok (.iload_n 3, 1) := by decide +kernel
theorem dX0_wordsAtLeast_47 : decode cX0_wordsAtLeast 47 = .ok (.iload 5, 2) := by decide +kernel
theorem dX0_wordsAtLeast_49 : decode cX0_wordsAtLeast 49 = .ok (.ifCond .eq 18, 3) := by decide +kernel
theorem dX0_wordsAtLeast_52 : decode cX0_wordsAtLeast 52 = .ok (.aload_n 0, 1) := by decide +kernel
theorem dX0_wordsAtLeast_53 : decode cX0_wordsAtLeast 53 = .ok (.iload 4, 2) := by decide +kernel
theorem dX0_wordsAtLeast_55 : decode cX0_wordsAtLeast 55 = .ok (.iload_n 1, 1) := by decide +kernel
theorem dX0_wordsAtLeast_56 : decode cX0_wordsAtLeast 56 = .ok (.invokevirtual 108, 3) := by decide +kernel
theorem dX0_wordsAtLeast_59 : decode cX0_wordsAtLeast 59 = .ok (.iconst 5, 1) := by decide +kernel
theorem dX0_wordsAtLeast_60 : decode cX0_wordsAtLeast 60 = .ok (.if_icmp .ne 7, 3) := by decide +kernel
theorem dX0_wordsAtLeast_63 : decode cX0_wordsAtLeast 63 = .ok (.iconst 1, 1) := by decide +kernel
theorem dX0_wordsAtLeast_64 : decode cX0_wordsAtLeast 64 = .ok (.goto 4, 3) := by decide +kernel
theorem dX0_wordsAtLeast_67 : decode cX0_wordsAtLeast 67 = .ok (.iconst 0, 1) := by decide +kernel
theorem dX0_wordsAtLeast_68 : decode cX0_wordsAtLeast 68 = .ok (.bastore, 1) := by decide +kernel
theorem dX0_wordsAtLeast_69 : decode cX0_wordsAtLeast 69 = .ok (.iload 5, 2) := by decide +kernel
theorem dX0_wordsAtLeast_71 : decode cX0_wordsAtLeast 71 = .ok (.ifCond .eq 15, 3) := by decide +kernel
theorem dX0_wordsAtLeast_74 : decode cX0_wordsAtLeast 74 = .ok (.iload_n 2, 1) := by decide +kernel
theorem dX0_wordsAtLeast_75 : decode cX0_wordsAtLeast 75 = .ok (.aload_n 0, 1) := by decide +kernel
theorem dX0_wordsAtLeast_76 : decode cX0_wordsAtLeast 76 = .ok (.getfield 13, 3) := by decide +kernel
theorem dX0_wordsAtLeast_79 : decode cX0_wordsAtLeast 79 = .ok (.iload 4, 2) := by decide +kernel
theorem dX0_wordsAtLeast_81 : decode cX0_wordsAtLeast 81 = .ok (.invokevirtual 44, 3) := by decide +kernel
theorem dX0_wordsAtLeast_84 : decode cX0_wordsAtLeast 84 = .ok (.iadd, 1) := by decide +kernel
theorem dX0_wordsAtLeast_85 : decode cX0_wordsAtLeast 85 = .ok (.istore_n 2, 1) := by decide +kernel
theorem dX0_wordsAtLeast_86 : decode cX0_wordsAtLeast 86 = .ok (.aload_n 0, 1) := by decide +kernel
theorem dX0_wordsAtLeast_87 : decode cX0_wordsAtLeast 87 = .ok (.getfield 29, 3) := by decide +kernel
theorem dX0_wordsAtLeast_90 : decode cX0_wordsAtLeast 90 = .ok (.iload_n 3, 1) := by decide +kernel
theorem dX0_wordsAtLeast_91 : decode cX0_wordsAtLeast 91 = .ok (.baload, 1) := by decide +kernel
theorem dX0_wordsAtLeast_92 : decode cX0_wordsAtLeast 92 = .ok (.ifCond .eq 23, 3) := by decide +kernel
theorem dX0_wordsAtLeast_95 : decode cX0_wordsAtLeast 95 = .ok (.aload_n 0, 1) := by decide +kernel
theorem dX0_wordsAtLeast_96 : decode cX0_wordsAtLeast 96 = .ok (.iload_n 3, 1) := by decide +kernel
theorem dX0_wordsAtLeast_97 : decode cX0_wordsAtLeast 97 = .ok (.invokevirtual 111, 3) := by decide +kernel
theorem dX0_wordsAtLeast_100 : decode cX0_wordsAtLeast 100 = .ok (.ifCond .ne 15, 3) := by decide +kernel
theorem dX0_wordsAtLeast_103 : decode cX0_wordsAtLeast 103 = .ok (.iload_n 2, 1) := by decide +kernel
theorem dX0_wordsAtLeast_104 : decode cX0_wordsAtLeast 104 = .ok (.aload_n 0, 1) := by decide +kernel
theorem dX0_wordsAtLeast_105 : decode cX0_wordsAtLeast 105 = .ok (.getfield 13, 3) := by decide +kernel
theorem dX0_wordsAtLeast_108 : decode cX0_wordsAtLeast 108 = .ok (.iload 4, 2) := by decide +kernel
theorem dX0_wordsAtLeast_110 : decode cX0_wordsAtLeast 110 = .ok (.invokevirtual 40, 3) := by decide +kernel
theorem dX0_wordsAtLeast_113 : decode cX0_wordsAtLeast 113 = .ok (.iadd, 1) := by decide +kernel
theorem dX0_wordsAtLeast_114 : decode cX0_wordsAtLeast 114 = .ok (.istore_n 2, 1) := by decide +kernel
theorem dX0_wordsAtLeast_115 : decode cX0_wordsAtLeast 115 = .ok (.iinc 3 1, 3) := by decide +kernel
theorem dX0_wordsAtLeast_118 : decode cX0_wordsAtLeast 118 = .ok (.goto (-114), 3) := by decide +kernel
theorem dX0_wordsAtLeast_121 : decode cX0_wordsAtLeast 121 = .ok (.iload_n 2, 1) := by decide +kernel
theorem dX0_wordsAtLeast_122 : decode cX0_wordsAtLeast 122 = .ok (.ireturn, 1) := by decide +kernel
theorem dX0_wasLost_0 : decode cX0_wasLost 0 = .ok (.iconst 0, 1) := by decide +kernel
theorem dX0_wasLost_1 : decode cX0_wasLost 1 = .ok (.istore_n 2, 1) := by decide +kernel
theorem dX0_wasLost_2 : decode cX0_wasLost 2 = .ok (.iload_n 2, 1) := by decide +kernel
theorem dX0_wasLost_3 : decode cX0_wasLost 3 = .ok (.iload_n 1, 1) := by decide +kernel
theorem dX0_wasLost_4 : decode cX0_wasLost 4 = .ok (.if_icmp .ge 52, 3) := by decide +kernel
theorem dX0_wasLost_7 : decode cX0_wasLost 7 = .ok (.iload_n 2, 1) := by decide +kernel
theorem dX0_wasLost_8 : decode cX0_wasLost 8 = .ok (.aload_n 0, 1) := by decide +kernel
theorem dX0_wasLost_9 : decode cX0_wasLost 9 = .ok (.getfield 29, 3) := by decide +kernel
theorem dX0_wasLost_12 : decode cX0_wasLost 12 = .ok (.arraylength, 1) := by decide +kernel
theorem dX0_wasLost_13 : decode cX0_wasLost 13 = .ok (.if_icmp .ge 43, 3) := by decide +kernel
theorem dX0_wasLost_16 : decode cX0_wasLost 16 = .ok (.aload_n 0, 1) := by decide +kernel
theorem dX0_wasLost_17 : decode cX0_wasLost 17 = .ok (.getfield 29, 3) := by decide +kernel
theorem dX0_wasLost_20 : decode cX0_wasLost 20 = .ok (.iload_n 2, 1) := by decide +kernel
theorem dX0_wasLost_21 : decode cX0_wasLost 21 = .ok (.baload, 1) := by decide +kernel
theorem dX0_wasLost_22 : decode cX0_wasLost 22 = .ok (.ifCond .eq 28, 3) := by decide +kernel
theorem dX0_wasLost_25 : decode cX0_wasLost 25 = .ok (.aload_n 0, 1) := by decide +kernel
theorem dX0_wasLost_26 : decode cX0_wasLost 26 = .ok (.aload_n 0, 1) := by decide +kernel
theorem dX0_wasLost_27 : decode cX0_wasLost 27 = .ok (.getfield 13, 3) := by decide +kernel
theorem dX0_wasLost_30 : decode cX0_wasLost 30 = .ok (.iload_n 2, 1) := by decide +kernel
theorem dX0_wasLost_31 : decode cX0_wasLost 31 = .ok (.invokevirtual 96, 3) := by decide +kernel
theorem dX0_wasLost_34 : decode cX0_wasLost 34 = .ok (.aload_n 0, 1) := by decide +kernel
theorem dX0_wasLost_35 : decode cX0_wasLost 35 = .ok (.getfield 13, 3) := by decide +kernel
theorem dX0_wasLost_38 : decode cX0_wasLost 38 = .ok (.iload_n 1, 1) := by decide +kernel
theorem dX0_wasLost_39 : decode cX0_wasLost 39 = .ok (.invokevirtual 96, 3) := by decide +kernel
theorem dX0_wasLost_42 : decode cX0_wasLost 42 = .ok (.invokevirtual 114, 3) := by decide +kernel
theorem dX0_wasLost_45 : decode cX0_wasLost 45 = .ok (.ifCond .eq 5, 3) := by decide +kernel
theorem dX0_wasLost_48 : decode cX0_wasLost 48 = .ok (.iconst 1, 1) := by decide +kernel
theorem dX0_wasLost_49 : decode cX0_wasLost 49 = .ok (.ireturn, 1) := by decide +kernel
theorem dX0_wasLost_50 : decode cX0_wasLost 50 = .ok (.iinc 2 1, 3) := by decide +kernel
theorem dX0_wasLost_53 : decode cX0_wasLost 53 = .ok (.goto (-51), 3) := by decide +kernel
theorem dX0_wasLost_56 : decode cX0_wasLost 56 = .ok (.iconst 0, 1) := by decide +kernel
theorem dX0_wasLost_57 : decode cX0_wasLost 57 = .ok (.ireturn, 1) := by decide +kernel
theorem dX0_alike_0 : decode cX0_alike 0 = .ok (.aload_n 0, 1) := by decide +kernel
theorem dX0_alike_1 : decode cX0_alike 1 = .ok (.getfield 13, 3) := by decide +kernel
theorem dX0_alike_4 : decode cX0_alike 4 = .ok (.iload_n 1, 1) := by decide +kernel
theorem dX0_alike_5 : decode cX0_alike 5 = .ok (.invokevirtual 40, 3) := by decide +kernel
theorem dX0_alike_8 : decode cX0_alike 8 = .ok (.istore_n 3, 1) := by decide +kernel
theorem dX0_alike_9 : decode cX0_alike 9 = .ok (.iload_n 3, 1) := by decide +kernel
theorem dX0_alike_10 : decode cX0_alike 10 = .ok (.aload_n 0, 1) := by decide +kernel
theorem dX0_alike_11 : decode cX0_alike 11 = .ok (.getfield 13, 3) := by decide +kernel
theorem dX0_alike_14 : decode cX0_alike 14 = .ok (.iload_n 2, 1) := by decide +kernel
theorem dX0_alike_15 : decode cX0_alike 15 = .ok (.invokevirtual 40, 3) := by decide +kernel
theorem dX0_alike_18 : decode cX0_alike 18 = .ok (.if_icmp .eq 5, 3) := by decide +kernel
theorem dX0_alike_21 : decode cX0_alike 21 = .ok (.iconst 0, 1) := by decide +kernel
theorem dX0_alike_22 : decode cX0_alike 22 = .ok (.ireturn, 1) := by decide +kernel
theorem dX0_alike_23 : decode cX0_alike 23 = .ok (.iconst 0, 1) := by decide +kernel
theorem dX0_alike_24 : decode cX0_alike 24 = .ok (.istore 4, 2) := by decide +kernel
theorem dX0_alike_26 : decode cX0_alike 26 = .ok (.iload 4, 2) := by decide +kernel
theorem dX0_alike_28 : decode cX0_alike 28 = .ok (.iload_n 3, 1) := by decide +kernel
theorem dX0_alike_29 : decode cX0_alike 29 = .ok (.if_icmp .ge 35, 3) := by decide +kernel
theorem dX0_alike_32 : decode cX0_alike 32 = .ok (.aload_n 0, 1) := by decide +kernel
theorem dX0_alike_33 : decode cX0_alike 33 = .ok (.getfield 13, 3) := by decide +kernel
theorem dX0_alike_36 : decode cX0_alike 36 = .ok (.iload_n 1, 1) := by decide +kernel
theorem dX0_alike_37 : decode cX0_alike 37 = .ok (.iload 4, 2) := by decide +kernel
theorem dX0_alike_39 : decode cX0_alike 39 = .ok (.invokevirtual 47, 3) := by decide +kernel
theorem dX0_alike_42 : decode cX0_alike 42 = .ok (.aload_n 0, 1) := by decide +kernel
theorem dX0_alike_43 : decode cX0_alike 43 = .ok (.getfield 13, 3) := by decide +kernel
theorem dX0_alike_46 : decode cX0_alike 46 = .ok (.iload_n 2, 1) := by decide +kernel
theorem dX0_alike_47 : decode cX0_alike 47 = .ok (.iload 4, 2) := by decide +kernel
theorem dX0_alike_49 : decode cX0_alike 49 = .ok (.invokevirtual 47, 3) := by decide +kernel
theorem dX0_alike_52 : decode cX0_alike 52 = .ok (.lcmp, 1) := by decide +kernel
theorem dX0_alike_53 : decode cX0_alike 53 = .ok (.ifCond .eq 5, 3) := by decide +kernel
theorem dX0_alike_56 : decode cX0_alike 56 = .ok (.iconst 0, 1) := by decide +kernel
theorem dX0_alike_57 : decode cX0_alike 57 = .ok (.ireturn, 1) := by decide +kernel
theorem dX0_alike_58 : decode cX0_alike 58 = .ok (.iinc 4 1, 3) := by decide +kernel
theorem dX0_alike_61 : decode cX0_alike 61 = .ok (.goto (-35), 3) := by decide +kernel
theorem dX0_alike_64 : decode cX0_alike 64 = .ok (.iconst 1, 1) := by decide +kernel
theorem dX0_alike_65 : decode cX0_alike 65 = .ok (.ireturn, 1) := by decide +kernel
theorem dX0_joined_0 : decode cX0_joined 0 = .ok (.iconst 1, 1) := by decide +kernel
theorem dX0_joined_1 : decode cX0_joined 1 = .ok (.aload_n 0, 1) := by decide +kernel
theorem dX0_joined_2 : decode cX0_joined 2 = .ok (.getfield 13, 3) := by decide +kernel
theorem dX0_joined_5 : decode cX0_joined 5 = .ok (.invokevirtual 117, 3) := by decide +kernel
theorem dX0_joined_8 : decode cX0_joined 8 = .ok (.ishl, 1) := by decide +kernel
theorem dX0_joined_9 : decode cX0_joined 9 = .ok (.iconst 1, 1) := by decide +kernel
theorem dX0_joined_10 : decode cX0_joined 10 = .ok (.isub, 1) := by decide +kernel
theorem dX0_joined_11 : decode cX0_joined 11 = .ok (.istore_n 2, 1) := by decide +kernel
theorem dX0_joined_12 : decode cX0_joined 12 = .ok (.iconst 0, 1) := by decide +kernel
theorem dX0_joined_13 : decode cX0_joined 13 = .ok (.istore_n 3, 1) := by decide +kernel
theorem dX0_joined_14 : decode cX0_joined 14 = .ok (.iload_n 3, 1) := by decide +kernel
theorem dX0_joined_15 : decode cX0_joined 15 = .ok (.bipush 8, 2) := by decide +kernel
theorem dX0_joined_17 : decode cX0_joined 17 = .ok (.if_icmp .ge 16, 3) := by decide +kernel
theorem dX0_joined_20 : decode cX0_joined 20 = .ok (.aload_n 0, 1) := by decide +kernel
theorem dX0_joined_21 : decode cX0_joined 21 = .ok (.getfield 33, 3) := by decide +kernel
theorem dX0_joined_24 : decode cX0_joined 24 = .ok (.iload_n 3, 1) := by decide +kernel
theorem dX0_joined_25 : decode cX0_joined 25 = .ok (.iconst 0, 1) := by decide +kernel
theorem dX0_joined_26 : decode cX0_joined 26 = .ok (.iastore, 1) := by decide +kernel
theorem dX0_joined_27 : decode cX0_joined 27 = .ok (.iinc 3 1, 3) := by decide +kernel
theorem dX0_joined_30 : decode cX0_joined 30 = .ok (.goto (-16), 3) := by decide +kernel
theorem dX0_joined_33 : decode cX0_joined 33 = .ok (.iconst 0, 1) := by decide +kernel
theorem dX0_joined_34 : decode cX0_joined 34 = .ok (.istore_n 3, 1) := by decide +kernel
theorem dX0_joined_35 : decode cX0_joined 35 = .ok (.iload_n 3, 1) := by decide +kernel
theorem dX0_joined_36 : decode cX0_joined 36 = .ok (.aload_n 0, 1) := by decide +kernel
theorem dX0_joined_37 : decode cX0_joined 37 = .ok (.getfield 13, 3) := by decide +kernel
theorem dX0_joined_40 : decode cX0_joined 40 = .ok (.invokevirtual 92, 3) := by decide +kernel
theorem dX0_joined_43 : decode cX0_joined 43 = .ok (.if_icmp .ge 48, 3) := by decide +kernel
theorem dX0_joined_46 : decode cX0_joined 46 = .ok (.aload_n 0, 1) := by decide +kernel
theorem dX0_joined_47 : decode cX0_joined 47 = .ok (.getfield 13, 3) := by decide +kernel
theorem dX0_joined_50 : decode cX0_joined 50 = .ok (.iload_n 3, 1) := by decide +kernel
theorem dX0_joined_51 : decode cX0_joined 51 = .ok (.invokevirtual 96, 3) := by decide +kernel
theorem dX0_joined_54 : decode cX0_joined 54 = .ok (.istore 4, 2) := by decide +kernel
theorem dX0_joined_56 : decode cX0_joined 56 = .ok (.aload_n 0, 1) := by decide +kernel
theorem dX0_joined_57 : decode cX0_joined 57 = .ok (.iload 4, 2) := by decide +kernel
theorem dX0_joined_59 : decode cX0_joined 59 = .ok (.iload_n 2, 1) := by decide +kernel
theorem dX0_joined_60 : decode cX0_joined 60 = .ok (.invokevirtual 78, 3) := by decide +kernel
theorem dX0_joined_63 : decode cX0_joined 63 = .ok (.iconst 1, 1) := by decide +kernel
theorem dX0_joined_64 : decode cX0_joined 64 = .ok (.if_icmp .ne 21, 3) := by decide +kernel
theorem dX0_joined_67 : decode cX0_joined 67 = .ok (.aload_n 0, 1) := by decide +kernel
theorem dX0_joined_68 : decode cX0_joined 68 = .ok (.iload 4, 2) := by decide +kernel
theorem dX0_joined_70 : decode cX0_joined 70 = .ok (.invokestatic 89, 3) := by decide +kernel
theorem dX0_joined_73 : decode cX0_joined 73 = .ok (.aload_n 0, 1) := by decide +kernel
theorem dX0_joined_74 : decode cX0_joined 74 = .ok (.iload 4, 2) := by decide +kernel
theorem dX0_joined_76 : decode cX0_joined 76 = .ok (.invokevirtual 120, 3) := by decide +kernel
theorem dX0_joined_79 : decode cX0_joined 79 = .ok (.invokestatic 89, 3) := by decide +kernel
theorem dX0_joined_82 : decode cX0_joined 82 = .ok (.invokevirtual 123, 3) := by decide +kernel
theorem dX0_joined_85 : decode cX0_joined 85 = .ok (.iinc 3 1, 3) := by decide +kernel
theorem dX0_joined_88 : decode cX0_joined 88 = .ok (.goto (-53), 3) := by decide +kernel
theorem dX0_joined_91 : decode cX0_joined 91 = .ok (.iconst 1, 1) := by decide +kernel
theorem dX0_joined_92 : decode cX0_joined 92 = .ok (.iload_n 1, 1) := by decide +kernel
theorem dX0_joined_93 : decode cX0_joined 93 = .ok (.ishl, 1) := by decide +kernel
theorem dX0_joined_94 : decode cX0_joined 94 = .ok (.istore_n 3, 1) := by decide +kernel
theorem dX0_joined_95 : decode cX0_joined 95 = .ok (.iconst 0, 1) := by decide +kernel
theorem dX0_joined_96 : decode cX0_joined 96 = .ok (.istore 4, 2) := by decide +kernel
theorem dX0_joined_98 : decode cX0_joined 98 = .ok (.iload 4, 2) := by decide +kernel
theorem dX0_joined_100 : decode cX0_joined 100 = .ok (.bipush 8, 2) := by decide +kernel
theorem dX0_joined_102 : decode cX0_joined 102 = .ok (.if_icmp .ge 48, 3) := by decide +kernel
theorem dX0_joined_105 : decode cX0_joined 105 = .ok (.iconst 0, 1) := by decide +kernel
theorem dX0_joined_106 : decode cX0_joined 106 = .ok (.istore 5, 2) := by decide +kernel
theorem dX0_joined_108 : decode cX0_joined 108 = .ok (.iload 5, 2) := by decide +kernel
theorem dX0_joined_110 : decode cX0_joined 110 = .ok (.bipush 8, 2) := by decide +kernel
theorem dX0_joined_112 : decode cX0_joined 112 = .ok (.if_icmp .ge 32, 3) := by decide +kernel
theorem dX0_joined_115 : decode cX0_joined 115 = .ok (.iload_n 3, 1) := by decide +kernel
theorem dX0_joined_116 : decode cX0_joined 116 = .ok (.iload 5, 2) := by decide +kernel
theorem dX0_joined_118 : decode cX0_joined 118 = .ok (.iload_n 3, 1) := by decide +kernel
theorem dX0_joined_119 : decode cX0_joined 119 = .ok (.invokestatic 127, 3) := by decide +kernel
theorem dX0_joined_122 : decode cX0_joined 122 = .ok (.ifCond .eq 13, 3) := by decide +kernel
theorem dX0_joined_125 : decode cX0_joined 125 = .ok (.aload_n 0, 1) := by decide +kernel
theorem dX0_joined_126 : decode cX0_joined 126 = .ok (.getfield 33, 3) := by decide +kernel
theorem dX0_joined_129 : decode cX0_joined 129 = .ok (.iload 5, 2) := by decide +kernel
theorem dX0_joined_131 : decode cX0_joined 131 = .ok (.iaload, 1) := by decide +kernel
theorem dX0_joined_132 : decode cX0_joined 132 = .ok (.goto 4, 3) := by decide +kernel
theorem dX0_joined_135 : decode cX0_joined 135 = .ok (.iconst 0, 1) := by decide +kernel
theorem dX0_joined_136 : decode cX0_joined 136 = .ok (.ior, 1) := by decide +kernel
theorem dX0_joined_137 : decode cX0_joined 137 = .ok (.istore_n 3, 1) := by decide +kernel
theorem dX0_joined_138 : decode cX0_joined 138 = .ok (.iinc 5 1, 3) := by decide +kernel
theorem dX0_joined_141 : decode cX0_joined 141 = .ok (.goto (-33), 3) := by decide +kernel
theorem dX0_joined_144 : decode cX0_joined 144 = .ok (.iinc 4 1, 3) := by decide +kernel
theorem dX0_joined_147 : decode cX0_joined 147 = .ok (.goto (-49), 3) := by decide +kernel
theorem dX0_joined_150 : decode cX0_joined 150 = .ok (.iload_n 3, 1) := by decide +kernel
theorem dX0_joined_151 : decode cX0_joined 151 = .ok (.ireturn, 1) := by decide +kernel
theorem dX0_join_0 : decode cX0_join 0 = .ok (.iload_n 1, 1) := by decide +kernel
theorem dX0_join_1 : decode cX0_join 1 = .ok (.ifCond .lt 49, 3) := by decide +kernel
theorem dX0_join_4 : decode cX0_join 4 = .ok (.iload_n 1, 1) := by decide +kernel
theorem dX0_join_5 : decode cX0_join 5 = .ok (.aload_n 0, 1) := by decide +kernel
theorem dX0_join_6 : decode cX0_join 6 = .ok (.getfield 33, 3) := by decide +kernel
theorem dX0_join_9 : decode cX0_join 9 = .ok (.arraylength, 1) := by decide +kernel
theorem dX0_join_10 : decode cX0_join 10 = .ok (.if_icmp .ge 40, 3) := by decide +kernel
theorem dX0_join_13 : decode cX0_join 13 = .ok (.iload_n 2, 1) := by decide +kernel
theorem dX0_join_14 : decode cX0_join 14 = .ok (.ifCond .lt 36, 3) := by decide +kernel
theorem dX0_join_17 : decode cX0_join 17 = .ok (.iload_n 2, 1) := by decide +kernel
theorem dX0_join_18 : decode cX0_join 18 = .ok (.aload_n 0, 1) := by decide +kernel
theorem dX0_join_19 : decode cX0_join 19 = .ok (.getfield 33, 3) := by decide +kernel
theorem dX0_join_22 : decode cX0_join 22 = .ok (.arraylength, 1) := by decide +kernel
theorem dX0_join_23 : decode cX0_join 23 = .ok (.if_icmp .ge 27, 3) := by decide +kernel
theorem dX0_join_26 : decode cX0_join 26 = .ok (.aload_n 0, 1) := by decide +kernel
theorem dX0_join_27 : decode cX0_join 27 = .ok (.getfield 33, 3) := by decide +kernel
theorem dX0_join_30 : decode cX0_join 30 = .ok (.iload_n 1, 1) := by decide +kernel
theorem dX0_join_31 : decode cX0_join 31 = .ok (.dup2, 1) := by decide +kernel
theorem dX0_join_32 : decode cX0_join 32 = .ok (.iaload, 1) := by decide +kernel
theorem dX0_join_33 : decode cX0_join 33 = .ok (.iconst 1, 1) := by decide +kernel
theorem dX0_join_34 : decode cX0_join 34 = .ok (.iload_n 2, 1) := by decide +kernel
theorem dX0_join_35 : decode cX0_join 35 = .ok (.ishl, 1) := by decide +kernel
theorem dX0_join_36 : decode cX0_join 36 = .ok (.ior, 1) := by decide +kernel
theorem dX0_join_37 : decode cX0_join 37 = .ok (.iastore, 1) := by decide +kernel
theorem dX0_join_38 : decode cX0_join 38 = .ok (.aload_n 0, 1) := by decide +kernel
theorem dX0_join_39 : decode cX0_join 39 = .ok (.getfield 33, 3) := by decide +kernel
theorem dX0_join_42 : decode cX0_join 42 = .ok (.iload_n 2, 1) := by decide +kernel
theorem dX0_join_43 : decode cX0_join 43 = .ok (.dup2, 1) := by decide +kernel
theorem dX0_join_44 : decode cX0_join 44 = .ok (.iaload, 1) := by decide +kernel
theorem dX0_join_45 : decode cX0_join 45 = .ok (.iconst 1, 1) := by decide +kernel
theorem dX0_join_46 : decode cX0_join 46 = .ok (.iload_n 1, 1) := by decide +kernel
theorem dX0_join_47 : decode cX0_join 47 = .ok (.ishl, 1) := by decide +kernel
theorem dX0_join_48 : decode cX0_join 48 = .ok (.ior, 1) := by decide +kernel
theorem dX0_join_49 : decode cX0_join 49 = .ok (.iastore, 1) := by decide +kernel
theorem dX0_join_50 : decode cX0_join 50 = .ok (.return_, 1) := by decide +kernel
theorem dX0_lowestMet_0 : decode cX0_lowestMet 0 = .ok (.iconst 0, 1) := by decide +kernel
theorem dX0_lowestMet_1 : decode cX0_lowestMet 1 = .ok (.istore_n 2, 1) := by decide +kernel
theorem dX0_lowestMet_2 : decode cX0_lowestMet 2 = .ok (.iload_n 2, 1) := by decide +kernel
theorem dX0_lowestMet_3 : decode cX0_lowestMet 3 = .ok (.aload_n 0, 1) := by decide +kernel
theorem dX0_lowestMet_4 : decode cX0_lowestMet 4 = .ok (.getfield 13, 3) := by decide +kernel
theorem dX0_lowestMet_7 : decode cX0_lowestMet 7 = .ok (.invokevirtual 92, 3) := by decide +kernel
theorem dX0_lowestMet_10 : decode cX0_lowestMet 10 = .ok (.if_icmp .ge 40, 3) := by decide +kernel
theorem dX0_lowestMet_13 : decode cX0_lowestMet 13 = .ok (.aload_n 0, 1) := by decide +kernel
theorem dX0_lowestMet_14 : decode cX0_lowestMet 14 = .ok (.getfield 13, 3) := by decide +kernel
theorem dX0_lowestMet_17 : decode cX0_lowestMet 17 = .ok (.iload_n 2, 1) := by decide +kernel
theorem dX0_lowestMet_18 : decode cX0_lowestMet 18 = .ok (.invokevirtual 96, 3) := by decide +kernel
theorem dX0_lowestMet_21 : decode cX0_lowestMet 21 = .ok (.istore_n 3, 1) := by decide +kernel
theorem dX0_lowestMet_22 : decode cX0_lowestMet 22 = .ok (.iload_n 3, 1) := by decide +kernel
theorem dX0_lowestMet_23 : decode cX0_lowestMet 23 = .ok (.invokestatic 89, 3) := by decide +kernel
theorem dX0_lowestMet_26 : decode cX0_lowestMet 26 = .ok (.iload_n 1, 1) := by decide +kernel
theorem dX0_lowestMet_27 : decode cX0_lowestMet 27 = .ok (.invokestatic 89, 3) := by decide +kernel
theorem dX0_lowestMet_30 : decode cX0_lowestMet 30 = .ok (.if_icmp .eq 14, 3) := by decide +kernel
theorem dX0_lowestMet_33 : decode cX0_lowestMet 33 = .ok (.aload_n 0, 1) := by decide +kernel
theorem dX0_lowestMet_34 : decode cX0_lowestMet 34 = .ok (.iload_n 1, 1) := by decide +kernel
theorem dX0_lowestMet_35 : decode cX0_lowestMet 35 = .ok (.iload_n 3, 1) := by decide +kernel
theorem dX0_lowestMet_36 : decode cX0_lowestMet 36 = .ok (.invokevirtual 102, 3) := by decide +kernel
theorem dX0_lowestMet_39 : decode cX0_lowestMet 39 = .ok (.ifCond .eq 5, 3) := by decide +kernel
theorem dX0_lowestMet_42 : decode cX0_lowestMet 42 = .ok (.iload_n 3, 1) := by decide +kernel
theorem dX0_lowestMet_43 : decode cX0_lowestMet 43 = .ok (.ireturn, 1) := by decide +kernel
theorem dX0_lowestMet_44 : decode cX0_lowestMet 44 = .ok (.iinc 2 1, 3) := by decide +kernel
theorem dX0_lowestMet_47 : decode cX0_lowestMet 47 = .ok (.goto (-45), 3) := by decide +kernel
theorem dX0_lowestMet_50 : decode cX0_lowestMet 50 = .ok (.iload_n 1, 1) := by decide +kernel
theorem dX0_lowestMet_51 : decode cX0_lowestMet 51 = .ok (.ireturn, 1) := by decide +kernel
theorem dX0_settledBy_0 : decode cX0_settledBy 0 = .ok (.iconst 0, 1) := by decide +kernel
theorem dX0_settledBy_1 : decode cX0_settledBy 1 = .ok (.istore_n 3, 1) := by decide +kernel
theorem dX0_settledBy_2 : decode cX0_settledBy 2 = .ok (.iconst 0, 1) := by decide +kernel
theorem dX0_settledBy_3 : decode cX0_settledBy 3 = .ok (.istore 4, 2) := by decide +kernel
theorem dX0_settledBy_5 : decode cX0_settledBy 5 = .ok (.iload 4, 2) := by decide +kernel
theorem dX0_settledBy_7 : decode cX0_settledBy 7 = .ok (.aload_n 0, 1) := by decide +kernel
theorem dX0_settledBy_8 : decode cX0_settledBy 8 = .ok (.getfield 13, 3) := by decide +kernel
theorem dX0_settledBy_11 : decode cX0_settledBy 11 = .ok (.invokevirtual 92, 3) := by decide +kernel
theorem dX0_settledBy_14 : decode cX0_settledBy 14 = .ok (.if_icmp .ge 54, 3) := by decide +kernel
theorem dX0_settledBy_17 : decode cX0_settledBy 17 = .ok (.aload_n 0, 1) := by decide +kernel
theorem dX0_settledBy_18 : decode cX0_settledBy 18 = .ok (.getfield 13, 3) := by decide +kernel
theorem dX0_settledBy_21 : decode cX0_settledBy 21 = .ok (.iload 4, 2) := by decide +kernel
theorem dX0_settledBy_23 : decode cX0_settledBy 23 = .ok (.invokevirtual 96, 3) := by decide +kernel
theorem dX0_settledBy_26 : decode cX0_settledBy 26 = .ok (.istore 5, 2) := by decide +kernel
theorem dX0_settledBy_28 : decode cX0_settledBy 28 = .ok (.iload 5, 2) := by decide +kernel
theorem dX0_settledBy_30 : decode cX0_settledBy 30 = .ok (.iload_n 2, 1) := by decide +kernel
theorem dX0_settledBy_31 : decode cX0_settledBy 31 = .ok (.invokestatic 99, 3) := by decide +kernel
theorem dX0_settledBy_34 : decode cX0_settledBy 34 = .ok (.ifCond .eq 28, 3) := by decide +kernel
theorem dX0_settledBy_37 : decode cX0_settledBy 37 = .ok (.aload_n 0, 1) := by decide +kernel
theorem dX0_settledBy_38 : decode cX0_settledBy 38 = .ok (.iload 5, 2) := by decide +kernel
theorem dX0_settledBy_40 : decode cX0_settledBy 40 = .ok (.iload_n 2, 1) := by decide +kernel
theorem dX0_settledBy_41 : decode cX0_settledBy 41 = .ok (.invokevirtual 130, 3) := by decide +kernel
theorem dX0_settledBy_44 : decode cX0_settledBy 44 = .ok (.ifCond .eq 18, 3) := by decide +kernel
theorem dX0_settledBy_47 : decode cX0_settledBy 47 = .ok (.aload_n 0, 1) := by decide +kernel
theorem dX0_settledBy_48 : decode cX0_settledBy 48 = .ok (.iload 5, 2) := by decide +kernel
theorem dX0_settledBy_50 : decode cX0_settledBy 50 = .ok (.iconst 1, 1) := by decide +kernel
theorem dX0_settledBy_51 : decode cX0_settledBy 51 = .ok (.iload_n 1, 1) := by decide +kernel
theorem dX0_settledBy_52 : decode cX0_settledBy 52 = .ok (.ishl, 1) := by decide +kernel
theorem dX0_settledBy_53 : decode cX0_settledBy 53 = .ok (.invokevirtual 78, 3) := by decide +kernel
theorem dX0_settledBy_56 : decode cX0_settledBy 56 = .ok (.ifCond .le 6, 3) := by decide +kernel
theorem dX0_settledBy_59 : decode cX0_settledBy 59 = .ok (.iinc 3 1, 3) := by decide +kernel
theorem dX0_settledBy_62 : decode cX0_settledBy 62 = .ok (.iinc 4 1, 3) := by decide +kernel
theorem dX0_settledBy_65 : decode cX0_settledBy 65 = .ok (.goto (-60), 3) := by decide +kernel
theorem dX0_settledBy_68 : decode cX0_settledBy 68 = .ok (.iload_n 3, 1) := by decide +kernel
theorem dX0_settledBy_69 : decode cX0_settledBy 69 = .ok (.ireturn, 1) := by decide +kernel
theorem dX0_isLoose_0 : decode cX0_isLoose 0 = .ok (.aload_n 0, 1) := by decide +kernel
theorem dX0_isLoose_1 : decode cX0_isLoose 1 = .ok (.getfield 13, 3) := by decide +kernel
theorem dX0_isLoose_4 : decode cX0_isLoose 4 = .ok (.iload_n 1, 1) := by decide +kernel
theorem dX0_isLoose_5 : decode cX0_isLoose 5 = .ok (.invokevirtual 133, 3) := by decide +kernel
theorem dX0_isLoose_8 : decode cX0_isLoose 8 = .ok (.ifCond .eq 24, 3) := by decide +kernel
theorem dX0_isLoose_11 : decode cX0_isLoose 11 = .ok (.aload_n 0, 1) := by decide +kernel
theorem dX0_isLoose_12 : decode cX0_isLoose 12 = .ok (.iload_n 1, 1) := by decide +kernel
theorem dX0_isLoose_13 : decode cX0_isLoose 13 = .ok (.iload_n 2, 1) := by decide +kernel
theorem dX0_isLoose_14 : decode cX0_isLoose 14 = .ok (.invokevirtual 78, 3) := by decide +kernel
theorem dX0_isLoose_17 : decode cX0_isLoose 17 = .ok (.ifCond .ne 15, 3) := by decide +kernel
theorem dX0_isLoose_20 : decode cX0_isLoose 20 = .ok (.aload_n 0, 1) := by decide +kernel
theorem dX0_isLoose_21 : decode cX0_isLoose 21 = .ok (.iload_n 1, 1) := by decide +kernel
theorem dX0_isLoose_22 : decode cX0_isLoose 22 = .ok (.invokevirtual 81, 3) := by decide +kernel
theorem dX0_isLoose_25 : decode cX0_isLoose 25 = .ok (.ifCond .ne 7, 3) := by decide +kernel
theorem dX0_isLoose_28 : decode cX0_isLoose 28 = .ok (.iconst 1, 1) := by decide +kernel
theorem dX0_isLoose_29 : decode cX0_isLoose 29 = .ok (.goto 4, 3) := by decide +kernel
theorem dX0_isLoose_32 : decode cX0_isLoose 32 = .ok (.iconst 0, 1) := by decide +kernel
theorem dX0_isLoose_33 : decode cX0_isLoose 33 = .ok (.ireturn, 1) := by decide +kernel
theorem dX0_settlesMost_0 : decode cX0_settlesMost 0 = .ok (.iconst (-1), 1) := by decide +kernel
theorem dX0_settlesMost_1 : decode cX0_settlesMost 1 = .ok (.istore_n 2, 1) := by decide +kernel
theorem dX0_settlesMost_2 : decode cX0_settlesMost 2 = .ok (.iconst 0, 1) := by decide +kernel
theorem dX0_settlesMost_3 : decode cX0_settlesMost 3 = .ok (.istore_n 3, 1) := by decide +kernel
theorem dX0_settlesMost_4 : decode cX0_settlesMost 4 = .ok (.iconst 0, 1) := by decide +kernel
theorem dX0_settlesMost_5 : decode cX0_settlesMost 5 = .ok (.istore 4, 2) := by decide +kernel
theorem dX0_settlesMost_7 : decode cX0_settlesMost 7 = .ok (.iload 4, 2) := by decide +kernel
theorem dX0_settlesMost_9 : decode cX0_settlesMost 9 = .ok (.aload_n 0, 1) := by decide +kernel
theorem dX0_settlesMost_10 : decode cX0_settlesMost 10 = .ok (.getfield 13, 3) := by decide +kernel
theorem dX0_settlesMost_13 : decode cX0_settlesMost 13 = .ok (.invokevirtual 117, 3) := by decide +kernel
theorem dX0_settlesMost_16 : decode cX0_settlesMost 16 = .ok (.if_icmp .ge 44, 3) := by decide +kernel
theorem dX0_settlesMost_19 : decode cX0_settlesMost 19 = .ok (.iload 4, 2) := by decide +kernel
theorem dX0_settlesMost_21 : decode cX0_settlesMost 21 = .ok (.iload_n 1, 1) := by decide +kernel
theorem dX0_settlesMost_22 : decode cX0_settlesMost 22 = .ok (.invokestatic 127, 3) := by decide +kernel
theorem dX0_settlesMost_25 : decode cX0_settlesMost 25 = .ok (.ifCond .ne 29, 3) := by decide +kernel
theorem dX0_settlesMost_28 : decode cX0_settlesMost 28 = .ok (.aload_n 0, 1) := by decide +kernel
theorem dX0_settlesMost_29 : decode cX0_settlesMost 29 = .ok (.iload 4, 2) := by decide +kernel
theorem dX0_settlesMost_31 : decode cX0_settlesMost 31 = .ok (.iload_n 1, 1) := by decide +kernel
theorem dX0_settlesMost_32 : decode cX0_settlesMost 32 = .ok (.invokevirtual 136, 3) := by decide +kernel
theorem dX0_settlesMost_35 : decode cX0_settlesMost 35 = .ok (.istore 5, 2) := by decide +kernel
theorem dX0_settlesMost_37 : decode cX0_settlesMost 37 = .ok (.iload_n 2, 1) := by decide +kernel
theorem dX0_settlesMost_38 : decode cX0_settlesMost 38 = .ok (.iconst (-1), 1) := by decide +kernel
theorem dX0_settlesMost_39 : decode cX0_settlesMost 39 = .ok (.if_icmp .eq 9, 3) := by decide +kernel
theorem dX0_settlesMost_42 : decode cX0_settlesMost 42 = .ok (.iload 5, 2) := by decide +kernel
theorem dX0_settlesMost_44 : decode cX0_settlesMost 44 = .ok (.iload_n 3, 1) := by decide +kernel
theorem dX0_settlesMost_45 : decode cX0_settlesMost 45 = .ok (.if_icmp .le 9, 3) := by decide +kernel
theorem dX0_settlesMost_48 : decode cX0_settlesMost 48 = .ok (.iload 4, 2) := by decide +kernel
theorem dX0_settlesMost_50 : decode cX0_settlesMost 50 = .ok (.istore_n 2, 1) := by decide +kernel
theorem dX0_settlesMost_51 : decode cX0_settlesMost 51 = .ok (.iload 5, 2) := by decide +kernel
theorem dX0_settlesMost_53 : decode cX0_settlesMost 53 = .ok (.istore_n 3, 1) := by decide +kernel
theorem dX0_settlesMost_54 : decode cX0_settlesMost 54 = .ok (.iinc 4 1, 3) := by decide +kernel
theorem dX0_settlesMost_57 : decode cX0_settlesMost 57 = .ok (.goto (-50), 3) := by decide +kernel
theorem dX0_settlesMost_60 : decode cX0_settlesMost 60 = .ok (.iload_n 2, 1) := by decide +kernel
theorem dX0_settlesMost_61 : decode cX0_settlesMost 61 = .ok (.ireturn, 1) := by decide +kernel
theorem dX0_within_0 : decode cX0_within 0 = .ok (.aload_n 0, 1) := by decide +kernel
theorem dX0_within_1 : decode cX0_within 1 = .ok (.getfield 13, 3) := by decide +kernel
theorem dX0_within_4 : decode cX0_within 4 = .ok (.iload_n 1, 1) := by decide +kernel
theorem dX0_within_5 : decode cX0_within 5 = .ok (.invokevirtual 40, 3) := by decide +kernel
theorem dX0_within_8 : decode cX0_within 8 = .ok (.iconst 2, 1) := by decide +kernel
theorem dX0_within_9 : decode cX0_within 9 = .ok (.if_icmp .eq 5, 3) := by decide +kernel
theorem dX0_within_12 : decode cX0_within 12 = .ok (.iconst (-1), 1) := by decide +kernel
theorem dX0_within_13 : decode cX0_within 13 = .ok (.ireturn, 1) := by decide +kernel
theorem dX0_within_14 : decode cX0_within 14 = .ok (.iconst 0, 1) := by decide +kernel
theorem dX0_within_15 : decode cX0_within 15 = .ok (.istore_n 3, 1) := by decide +kernel
theorem dX0_within_16 : decode cX0_within 16 = .ok (.iload_n 3, 1) := by decide +kernel
theorem dX0_within_17 : decode cX0_within 17 = .ok (.aload_n 0, 1) := by decide +kernel
theorem dX0_within_18 : decode cX0_within 18 = .ok (.getfield 13, 3) := by decide +kernel
theorem dX0_within_21 : decode cX0_within 21 = .ok (.iload_n 2, 1) := by decide +kernel
theorem dX0_within_22 : decode cX0_within 22 = .ok (.invokevirtual 44, 3) := by decide +kernel
theorem dX0_within_25 : decode cX0_within 25 = .ok (.iconst 2, 1) := by decide +kernel
theorem dX0_within_26 : decode cX0_within 26 = .ok (.isub, 1) := by decide +kernel
theorem dX0_within_27 : decode cX0_within 27 = .ok (.if_icmp .ge 57, 3) := by decide +kernel
theorem dX0_within_30 : decode cX0_within 30 = .ok (.aload_n 0, 1) := by decide +kernel
theorem dX0_within_31 : decode cX0_within 31 = .ok (.getfield 13, 3) := by decide +kernel
theorem dX0_within_34 : decode cX0_within 34 = .ok (.iload_n 2, 1) := by decide +kernel
theorem dX0_within_35 : decode cX0_within 35 = .ok (.iload_n 3, 1) := by decide +kernel
theorem dX0_within_36 : decode cX0_within 36 = .ok (.invokevirtual 51, 3) := by decide +kernel
theorem dX0_within_39 : decode cX0_within 39 = .ok (.aload_n 0, 1) := by decide +kernel
theorem dX0_within_40 : decode cX0_within 40 = .ok (.getfield 13, 3) := by decide +kernel
theorem dX0_within_43 : decode cX0_within 43 = .ok (.iload_n 1, 1) := by decide +kernel
theorem dX0_within_44 : decode cX0_within 44 = .ok (.iconst 0, 1) := by decide +kernel
theorem dX0_within_45 : decode cX0_within 45 = .ok (.invokevirtual 47, 3) := by decide +kernel
theorem dX0_within_48 : decode cX0_within 48 = .ok (.lcmp, 1) := by decide +kernel
theorem dX0_within_49 : decode cX0_within 49 = .ok (.ifCond .ne 29, 3) := by decide +kernel
theorem dX0_within_52 : decode cX0_within 52 = .ok (.aload_n 0, 1) := by decide +kernel
theorem dX0_within_53 : decode cX0_within 53 = .ok (.getfield 13, 3) := by decide +kernel
theorem dX0_within_56 : decode cX0_within 56 = .ok (.iload_n 2, 1) := by decide +kernel
theorem dX0_within_57 : decode cX0_within 57 = .ok (.iload_n 3, 1) := by decide +kernel
theorem dX0_within_58 : decode cX0_within 58 = .ok (.iconst 1, 1) := by decide +kernel
theorem dX0_within_59 : decode cX0_within 59 = .ok (.iadd, 1) := by decide +kernel
theorem dX0_within_60 : decode cX0_within 60 = .ok (.invokevirtual 51, 3) := by decide +kernel
theorem dX0_within_63 : decode cX0_within 63 = .ok (.aload_n 0, 1) := by decide +kernel
theorem dX0_within_64 : decode cX0_within 64 = .ok (.getfield 13, 3) := by decide +kernel
theorem dX0_within_67 : decode cX0_within 67 = .ok (.iload_n 1, 1) := by decide +kernel
theorem dX0_within_68 : decode cX0_within 68 = .ok (.iconst 1, 1) := by decide +kernel
theorem dX0_within_69 : decode cX0_within 69 = .ok (.invokevirtual 47, 3) := by decide +kernel
theorem dX0_within_72 : decode cX0_within 72 = .ok (.lcmp, 1) := by decide +kernel
theorem dX0_within_73 : decode cX0_within 73 = .ok (.ifCond .ne 5, 3) := by decide +kernel
theorem dX0_within_76 : decode cX0_within 76 = .ok (.iload_n 3, 1) := by decide +kernel
theorem dX0_within_77 : decode cX0_within 77 = .ok (.ireturn, 1) := by decide +kernel
theorem dX0_within_78 : decode cX0_within 78 = .ok (.iinc 3 1, 3) := by decide +kernel
theorem dX0_within_81 : decode cX0_within 81 = .ok (.goto (-65), 3) := by decide +kernel
theorem dX0_within_84 : decode cX0_within 84 = .ok (.iconst (-1), 1) := by decide +kernel
theorem dX0_within_85 : decode cX0_within 85 = .ok (.ireturn, 1) := by decide +kernel
theorem dX0_temptations_0 : decode cX0_temptations 0 = .ok (.iconst 0, 1) := by decide +kernel
theorem dX0_temptations_1 : decode cX0_temptations 1 = .ok (.istore_n 2, 1) := by decide +kernel
theorem dX0_temptations_2 : decode cX0_temptations 2 = .ok (.iconst 0, 1) := by decide +kernel
theorem dX0_temptations_3 : decode cX0_temptations 3 = .ok (.istore_n 3, 1) := by decide +kernel
theorem dX0_temptations_4 : decode cX0_temptations 4 = .ok (.iload_n 3, 1) := by decide +kernel
theorem dX0_temptations_5 : decode cX0_temptations 5 = .ok (.aload_n 0, 1) := by decide +kernel
theorem dX0_temptations_6 : decode cX0_temptations 6 = .ok (.getfield 13, 3) := by decide +kernel
theorem dX0_temptations_9 : decode cX0_temptations 9 = .ok (.invokevirtual 92, 3) := by decide +kernel
theorem dX0_temptations_12 : decode cX0_temptations 12 = .ok (.if_icmp .ge 48, 3) := by decide +kernel
theorem dX0_temptations_15 : decode cX0_temptations 15 = .ok (.aload_n 0, 1) := by decide +kernel
theorem dX0_temptations_16 : decode cX0_temptations 16 = .ok (.getfield 13, 3) := by decide +kernel
theorem dX0_temptations_19 : decode cX0_temptations 19 = .ok (.iload_n 3, 1) := by decide +kernel
theorem dX0_temptations_20 : decode cX0_temptations 20 = .ok (.invokevirtual 96, 3) := by decide +kernel
theorem dX0_temptations_23 : decode cX0_temptations 23 = .ok (.istore 4, 2) := by decide +kernel
theorem dX0_temptations_25 : decode cX0_temptations 25 = .ok (.iload 4, 2) := by decide +kernel
theorem dX0_temptations_27 : decode cX0_temptations 27 = .ok (.iload_n 1, 1) := by decide +kernel
theorem dX0_temptations_28 : decode cX0_temptations 28 = .ok (.invokestatic 99, 3) := by decide +kernel
theorem dX0_temptations_31 : decode cX0_temptations 31 = .ok (.ifCond .eq 23, 3) := by decide +kernel
theorem dX0_temptations_34 : decode cX0_temptations 34 = .ok (.iload_n 2, 1) := by decide +kernel
theorem dX0_temptations_35 : decode cX0_temptations 35 = .ok (.aload_n 0, 1) := by decide +kernel
theorem dX0_temptations_36 : decode cX0_temptations 36 = .ok (.iload 4, 2) := by decide +kernel
theorem dX0_temptations_38 : decode cX0_temptations 38 = .ok (.iload_n 1, 1) := by decide +kernel
theorem dX0_temptations_39 : decode cX0_temptations 39 = .ok (.iconst 1, 1) := by decide +kernel
theorem dX0_temptations_40 : decode cX0_temptations 40 = .ok (.iload 4, 2) := by decide +kernel
theorem dX0_temptations_42 : decode cX0_temptations 42 = .ok (.invokestatic 89, 3) := by decide +kernel
theorem dX0_temptations_45 : decode cX0_temptations 45 = .ok (.ishl, 1) := by decide +kernel
theorem dX0_temptations_46 : decode cX0_temptations 46 = .ok (.iconst (-1), 1) := by decide +kernel
theorem dX0_temptations_47 : decode cX0_temptations 47 = .ok (.ixor, 1) := by decide +kernel
theorem dX0_temptations_48 : decode cX0_temptations 48 = .ok (.iand, 1) := by decide +kernel
theorem dX0_temptations_49 : decode cX0_temptations 49 = .ok (.invokevirtual 139, 3) := by decide +kernel
theorem dX0_temptations_52 : decode cX0_temptations 52 = .ok (.iadd, 1) := by decide +kernel
theorem dX0_temptations_53 : decode cX0_temptations 53 = .ok (.istore_n 2, 1) := by decide +kernel
theorem dX0_temptations_54 : decode cX0_temptations 54 = .ok (.iinc 3 1, 3) := by decide +kernel
theorem dX0_temptations_57 : decode cX0_temptations 57 = .ok (.goto (-53), 3) := by decide +kernel
theorem dX0_temptations_60 : decode cX0_temptations 60 = .ok (.iload_n 2, 1) := by decide +kernel
theorem dX0_temptations_61 : decode cX0_temptations 61 = .ok (.ireturn, 1) := by decide +kernel
theorem dX0_temptedIn_0 : decode cX0_temptedIn 0 = .ok (.iconst 0, 1) := by decide +kernel
theorem dX0_temptedIn_1 : decode cX0_temptedIn 1 = .ok (.istore_n 3, 1) := by decide +kernel
theorem dX0_temptedIn_2 : decode cX0_temptedIn 2 = .ok (.iconst 0, 1) := by decide +kernel
theorem dX0_temptedIn_3 : decode cX0_temptedIn 3 = .ok (.istore 4, 2) := by decide +kernel
theorem dX0_temptedIn_5 : decode cX0_temptedIn 5 = .ok (.iload 4, 2) := by decide +kernel
theorem dX0_temptedIn_7 : decode cX0_temptedIn 7 = .ok (.aload_n 0, 1) := by decide +kernel
theorem dX0_temptedIn_8 : decode cX0_temptedIn 8 = .ok (.getfield 13, 3) := by decide +kernel
theorem dX0_temptedIn_11 : decode cX0_temptedIn 11 = .ok (.invokevirtual 92, 3) := by decide +kernel
theorem dX0_temptedIn_14 : decode cX0_temptedIn 14 = .ok (.if_icmp .ge 43, 3) := by decide +kernel
theorem dX0_temptedIn_17 : decode cX0_temptedIn 17 = .ok (.aload_n 0, 1) := by decide +kernel
theorem dX0_temptedIn_18 : decode cX0_temptedIn 18 = .ok (.getfield 13, 3) := by decide +kernel
theorem dX0_temptedIn_21 : decode cX0_temptedIn 21 = .ok (.iload 4, 2) := by decide +kernel
theorem dX0_temptedIn_23 : decode cX0_temptedIn 23 = .ok (.invokevirtual 96, 3) := by decide +kernel
theorem dX0_temptedIn_26 : decode cX0_temptedIn 26 = .ok (.istore 5, 2) := by decide +kernel
theorem dX0_temptedIn_28 : decode cX0_temptedIn 28 = .ok (.iload 5, 2) := by decide +kernel
theorem dX0_temptedIn_30 : decode cX0_temptedIn 30 = .ok (.iload_n 2, 1) := by decide +kernel
theorem dX0_temptedIn_31 : decode cX0_temptedIn 31 = .ok (.invokestatic 99, 3) := by decide +kernel
theorem dX0_temptedIn_34 : decode cX0_temptedIn 34 = .ok (.ifCond .eq 17, 3) := by decide +kernel
theorem dX0_temptedIn_37 : decode cX0_temptedIn 37 = .ok (.aload_n 0, 1) := by decide +kernel
theorem dX0_temptedIn_38 : decode cX0_temptedIn 38 = .ok (.iload_n 1, 1) := by decide +kernel
theorem dX0_temptedIn_39 : decode cX0_temptedIn 39 = .ok (.iload 5, 2) := by decide +kernel
theorem dX0_temptedIn_41 : decode cX0_temptedIn 41 = .ok (.invokevirtual 142, 3) := by decide +kernel
theorem dX0_temptedIn_44 : decode cX0_temptedIn 44 = .ok (.iconst (-1), 1) := by decide +kernel
theorem dX0_temptedIn_45 : decode cX0_temptedIn 45 = .ok (.if_icmp .eq 6, 3) := by decide +kernel
theorem dX0_temptedIn_48 : decode cX0_temptedIn 48 = .ok (.iinc 3 1, 3) := by decide +kernel
theorem dX0_temptedIn_51 : decode cX0_temptedIn 51 = .ok (.iinc 4 1, 3) := by decide +kernel
theorem dX0_temptedIn_54 : decode cX0_temptedIn 54 = .ok (.goto (-49), 3) := by decide +kernel
theorem dX0_temptedIn_57 : decode cX0_temptedIn 57 = .ok (.iload_n 3, 1) := by decide +kernel
theorem dX0_temptedIn_58 : decode cX0_temptedIn 58 = .ok (.ireturn, 1) := by decide +kernel
theorem dX1_init_0 : decode cX1_init 0 = .ok (.aload_n 0, 1) := by decide +kernel
theorem dX1_init_1 : decode cX1_init 1 = .ok (.invokespecial 3, 3) := by decide +kernel
theorem dX1_init_4 : decode cX1_init 4 = .ok (.aload_n 0, 1) := by decide +kernel
theorem dX1_init_5 : decode cX1_init 5 = .ok (.iconst 4, 1) := by decide +kernel
theorem dX1_init_6 : decode cX1_init 6 = .ok (.sipush 201, 3) := by decide +kernel
theorem dX1_init_9 : decode cX1_init 9 = .ok (.multianewarray 11 2, 4) := by decide +kernel
theorem dX1_init_13 : decode cX1_init 13 = .ok (.putfield 13, 3) := by decide +kernel
theorem dX1_init_16 : decode cX1_init 16 = .ok (.aload_n 0, 1) := by decide +kernel
theorem dX1_init_17 : decode cX1_init 17 = .ok (.iconst 0, 1) := by decide +kernel
theorem dX1_init_18 : decode cX1_init 18 = .ok (.putfield 16, 3) := by decide +kernel
theorem dX1_init_21 : decode cX1_init 21 = .ok (.return_, 1) := by decide +kernel
theorem dX1_joins_0 : decode cX1_joins 0 = .ok (.iload_n 1, 1) := by decide +kernel
theorem dX1_joins_1 : decode cX1_joins 1 = .ok (.bipush 48, 2) := by decide +kernel
theorem dX1_joins_3 : decode cX1_joins 3 = .ok (.if_icmp .lt 13, 3) := by decide +kernel
theorem dX1_joins_6 : decode cX1_joins 6 = .ok (.iload_n 1, 1) := by decide +kernel
theorem dX1_joins_7 : decode cX1_joins 7 = .ok (.bipush 57, 2) := by decide +kernel
theorem dX1_joins_9 : decode cX1_joins 9 = .ok (.if_icmp .gt 7, 3) := by decide +kernel
theorem dX1_joins_12 : decode cX1_joins 12 = .ok (.iconst 1, 1) := by decide +kernel
theorem dX1_joins_13 : decode cX1_joins 13 = .ok (.goto 4, 3) := by decide +kernel
theorem dX1_joins_16 : decode cX1_joins 16 = .ok (.iconst 0, 1) := by decide +kernel
theorem dX1_joins_17 : decode cX1_joins 17 = .ok (.ireturn, 1) := by decide +kernel
theorem dX1_mostJoined_0 : decode cX1_mostJoined 0 = .ok (.iconst 4, 1) := by decide +kernel
theorem dX1_mostJoined_1 : decode cX1_mostJoined 1 = .ok (.ireturn, 1) := by decide +kernel
theorem dX1_grown_0 : decode cX1_grown 0 = .ok (.ldc2_w 20, 3) := by decide +kernel
theorem dX1_grown_3 : decode cX1_grown 3 = .ok (.lload_n 1, 1) := by decide +kernel
theorem dX1_grown_4 : decode cX1_grown 4 = .ok (.lmul, 1) := by decide +kernel
theorem dX1_grown_5 : decode cX1_grown 5 = .ok (.iload_n 3, 1) := by decide +kernel
theorem dX1_grown_6 : decode cX1_grown 6 = .ok (.i2l, 1) := by decide +kernel
theorem dX1_grown_7 : decode cX1_grown 7 = .ok (.ladd, 1) := by decide +kernel
theorem dX1_grown_8 : decode cX1_grown 8 = .ok (.ldc2_w 22, 3) := by decide +kernel
theorem dX1_grown_11 : decode cX1_grown 11 = .ok (.lsub, 1) := by decide +kernel
theorem dX1_grown_12 : decode cX1_grown 12 = .ok (.lreturn, 1) := by decide +kernel
theorem dX1_number_0 : decode cX1_number 0 = .ok (.aload_n 0, 1) := by decide +kernel
theorem dX1_number_1 : decode cX1_number 1 = .ok (.getfield 16, 3) := by decide +kernel
theorem dX1_number_4 : decode cX1_number 4 = .ok (.ireturn, 1) := by decide +kernel
theorem dX1_has_0 : decode cX1_has 0 = .ok (.iload_n 1, 1) := by decide +kernel
theorem dX1_has_1 : decode cX1_has 1 = .ok (.ifCond .lt 24, 3) := by decide +kernel
theorem dX1_has_4 : decode cX1_has 4 = .ok (.iload_n 1, 1) := by decide +kernel
theorem dX1_has_5 : decode cX1_has 5 = .ok (.aload_n 0, 1) := by decide +kernel
theorem dX1_has_6 : decode cX1_has 6 = .ok (.getfield 16, 3) := by decide +kernel
theorem dX1_has_9 : decode cX1_has 9 = .ok (.if_icmp .ge 16, 3) := by decide +kernel
theorem dX1_has_12 : decode cX1_has 12 = .ok (.iload_n 1, 1) := by decide +kernel
theorem dX1_has_13 : decode cX1_has 13 = .ok (.aload_n 0, 1) := by decide +kernel
theorem dX1_has_14 : decode cX1_has 14 = .ok (.getfield 13, 3) := by decide +kernel
theorem dX1_has_17 : decode cX1_has 17 = .ok (.arraylength, 1) := by decide +kernel
theorem dX1_has_18 : decode cX1_has 18 = .ok (.if_icmp .ge 7, 3) := by decide +kernel
theorem dX1_has_21 : decode cX1_has 21 = .ok (.iconst 1, 1) := by decide +kernel
theorem dX1_has_22 : decode cX1_has 22 = .ok (.goto 4, 3) := by decide +kernel
theorem dX1_has_25 : decode cX1_has 25 = .ok (.iconst 0, 1) := by decide +kernel
theorem dX1_has_26 : decode cX1_has 26 = .ok (.ireturn, 1) := by decide +kernel
theorem dX1_add_0 : decode cX1_add 0 = .ok (.aload_n 0, 1) := by decide +kernel
theorem dX1_add_1 : decode cX1_add 1 = .ok (.getfield 16, 3) := by decide +kernel
theorem dX1_add_4 : decode cX1_add 4 = .ok (.ifCond .lt 15, 3) := by decide +kernel
theorem dX1_add_7 : decode cX1_add 7 = .ok (.aload_n 0, 1) := by decide +kernel
theorem dX1_add_8 : decode cX1_add 8 = .ok (.getfield 16, 3) := by decide +kernel
theorem dX1_add_11 : decode cX1_add 11 = .ok (.aload_n 0, 1) := by decide +kernel
theorem dX1_add_12 : decode cX1_add 12 = .ok (.getfield 13, 3) := by decide +kernel
theorem dX1_add_15 : decode cX1_add 15 = .ok (.arraylength, 1) := by decide +kernel
theorem dX1_add_16 : decode cX1_add 16 = .ok (.if_icmp .lt 5, 3) := by decide +kernel
theorem dX1_add_19 : decode cX1_add 19 = .ok (.iconst (-1), 1) := by decide +kernel
theorem dX1_add_20 : decode cX1_add 20 = .ok (.ireturn, 1) := by decide +kernel
theorem dX1_add_21 : decode cX1_add 21 = .ok (.aload_n 0, 1) := by decide +kernel
theorem dX1_add_22 : decode cX1_add 22 = .ok (.aload_n 0, 1) := by decide +kernel
theorem dX1_add_23 : decode cX1_add 23 = .ok (.getfield 13, 3) := by decide +kernel
theorem dX1_add_26 : decode cX1_add 26 = .ok (.aload_n 0, 1) := by decide +kernel
theorem dX1_add_27 : decode cX1_add 27 = .ok (.getfield 16, 3) := by decide +kernel
theorem dX1_add_30 : decode cX1_add 30 = .ok (.aaload, 1) := by decide +kernel
theorem dX1_add_31 : decode cX1_add 31 = .ok (.invokevirtual 24, 3) := by decide +kernel
theorem dX1_add_34 : decode cX1_add 34 = .ok (.aload_n 0, 1) := by decide +kernel
theorem dX1_add_35 : decode cX1_add 35 = .ok (.dup, 1) := by decide +kernel
theorem dX1_add_36 : decode cX1_add 36 = .ok (.getfield 16, 3) := by decide +kernel
theorem dX1_add_39 : decode cX1_add 39 = .ok (.iconst 1, 1) := by decide +kernel
theorem dX1_add_40 : decode cX1_add 40 = .ok (.iadd, 1) := by decide +kernel
theorem dX1_add_41 : decode cX1_add 41 = .ok (.putfield 16, 3) := by decide +kernel
theorem dX1_add_44 : decode cX1_add 44 = .ok (.aload_n 0, 1) := by decide +kernel
theorem dX1_add_45 : decode cX1_add 45 = .ok (.getfield 16, 3) := by decide +kernel
theorem dX1_add_48 : decode cX1_add 48 = .ok (.iconst 1, 1) := by decide +kernel
theorem dX1_add_49 : decode cX1_add 49 = .ok (.isub, 1) := by decide +kernel
theorem dX1_add_50 : decode cX1_add 50 = .ok (.ireturn, 1) := by decide +kernel
theorem dX1_worthOf_0 : decode cX1_worthOf 0 = .ok (.aload_n 0, 1) := by decide +kernel
theorem dX1_worthOf_1 : decode cX1_worthOf 1 = .ok (.iload_n 1, 1) := by decide +kernel
theorem dX1_worthOf_2 : decode cX1_worthOf 2 = .ok (.invokevirtual 28, 3) := by decide +kernel
theorem dX1_worthOf_5 : decode cX1_worthOf 5 = .ok (.ifCond .ne 5, 3) := by decide +kernel
theorem dX1_worthOf_8 : decode cX1_worthOf 8 = .ok (.iconst 0, 1) := by decide +kernel
theorem dX1_worthOf_9 : decode cX1_worthOf 9 = .ok (.ireturn, 1) := by decide +kernel
theorem dX1_worthOf_10 : decode cX1_worthOf 10 = .ok (.aload_n 0, 1) := by decide +kernel
theorem dX1_worthOf_11 : decode cX1_worthOf 11 = .ok (.lload_n 2, 1) := by decide +kernel
theorem dX1_worthOf_12 : decode cX1_worthOf 12 = .ok (.putfield 32, 3) := by decide +kernel
theorem dX1_worthOf_15 : decode cX1_worthOf 15 = .ok (.aload_n 0, 1) := by decide +kernel
theorem dX1_worthOf_16 : decode cX1_worthOf 16 = .ok (.lload_n 2, 1) := by decide +kernel
theorem dX1_worthOf_17 : decode cX1_worthOf 17 = .ok (.invokestatic 36, 3) := by decide +kernel
theorem dX1_worthOf_20 : decode cX1_worthOf 20 = .ok (.putfield 42, 3) := by decide +kernel
theorem dX1_worthOf_23 : decode cX1_worthOf 23 = .ok (.aload_n 0, 1) := by decide +kernel
theorem dX1_worthOf_24 : decode cX1_worthOf 24 = .ok (.lload_n 2, 1) := by decide +kernel
theorem dX1_worthOf_25 : decode cX1_worthOf 25 = .ok (.invokestatic 44, 3) := by decide +kernel
theorem dX1_worthOf_28 : decode cX1_worthOf 28 = .ok (.putfield 47, 3) := by decide +kernel
theorem dX1_worthOf_31 : decode cX1_worthOf 31 = .ok (.aload_n 0, 1) := by decide +kernel
theorem dX1_worthOf_32 : decode cX1_worthOf 32 = .ok (.lload_n 2, 1) := by decide +kernel
theorem dX1_worthOf_33 : decode cX1_worthOf 33 = .ok (.invokestatic 49, 3) := by decide +kernel
theorem dX1_worthOf_36 : decode cX1_worthOf 36 = .ok (.putfield 52, 3) := by decide +kernel
theorem dX1_worthOf_39 : decode cX1_worthOf 39 = .ok (.aload_n 0, 1) := by decide +kernel
theorem dX1_worthOf_40 : decode cX1_worthOf 40 = .ok (.lload 4, 2) := by decide +kernel
theorem dX1_worthOf_42 : decode cX1_worthOf 42 = .ok (.invokestatic 36, 3) := by decide +kernel
theorem dX1_worthOf_45 : decode cX1_worthOf 45 = .ok (.putfield 54, 3) := by decide +kernel
theorem dX1_worthOf_48 : decode cX1_worthOf 48 = .ok (.aload_n 0, 1) := by decide +kernel
theorem dX1_worthOf_49 : decode cX1_worthOf 49 = .ok (.aload_n 0, 1) := by decide +kernel
theorem dX1_worthOf_50 : decode cX1_worthOf 50 = .ok (.getfield 13, 3) := by decide +kernel
theorem dX1_worthOf_53 : decode cX1_worthOf 53 = .ok (.iload_n 1, 1) := by decide +kernel
theorem dX1_worthOf_54 : decode cX1_worthOf 54 = .ok (.aaload, 1) := by decide +kernel
theorem dX1_worthOf_55 : decode cX1_worthOf 55 = .ok (.invokevirtual 57, 3) := by decide +kernel
theorem dX1_worthOf_58 : decode cX1_worthOf 58 = .ok (.aload_n 0, 1) := by decide +kernel
theorem dX1_worthOf_59 : decode cX1_worthOf 59 = .ok (.invokevirtual 60, 3) := by decide +kernel
theorem dX1_worthOf_62 : decode cX1_worthOf 62 = .ok (.iconst 0, 1) := by decide +kernel
theorem dX1_worthOf_63 : decode cX1_worthOf 63 = .ok (.bipush 100, 2) := by decide +kernel
theorem dX1_worthOf_65 : decode cX1_worthOf 65 = .ok (.aload_n 0, 1) := by decide +kernel
theorem dX1_worthOf_66 : decode cX1_worthOf 66 = .ok (.getfield 63, 3) := by decide +kernel
theorem dX1_worthOf_69 : decode cX1_worthOf 69 = .ok (.invokestatic 66, 3) := by decide +kernel
theorem dX1_worthOf_72 : decode cX1_worthOf 72 = .ok (.invokestatic 72, 3) := by decide +kernel
theorem dX1_worthOf_75 : decode cX1_worthOf 75 = .ok (.ireturn, 1) := by decide +kernel
theorem dX1_takeAll_0 : decode cX1_takeAll 0 = .ok (.aload_n 0, 1) := by decide +kernel
theorem dX1_takeAll_1 : decode cX1_takeAll 1 = .ok (.iconst 0, 1) := by decide +kernel
theorem dX1_takeAll_2 : decode cX1_takeAll 2 = .ok (.putfield 63, 3) := by decide +kernel
theorem dX1_takeAll_5 : decode cX1_takeAll 5 = .ok (.iconst 0, 1) := by decide +kernel
theorem dX1_takeAll_6 : decode cX1_takeAll 6 = .ok (.istore_n 1, 1) := by decide +kernel
theorem dX1_takeAll_7 : decode cX1_takeAll 7 = .ok (.iconst 1, 1) := by decide +kernel
theorem dX1_takeAll_8 : decode cX1_takeAll 8 = .ok (.istore_n 2, 1) := by decide +kernel
theorem dX1_takeAll_9 : decode cX1_takeAll 9 = .ok (.iconst 0, 1) := by decide +kernel
theorem dX1_takeAll_10 : decode cX1_takeAll 10 = .ok (.istore_n 3, 1) := by decide +kernel
theorem dX1_takeAll_11 : decode cX1_takeAll 11 = .ok (.iload_n 3, 1) := by decide +kernel
theorem dX1_takeAll_12 : decode cX1_takeAll 12 = .ok (.sipush 200, 3) := by decide +kernel
theorem dX1_takeAll_15 : decode cX1_takeAll 15 = .ok (.if_icmp .ge 153, 3) := by decide +kernel
theorem dX1_takeAll_18 : decode cX1_takeAll 18 = .ok (.iload_n 2, 1) := by decide +kernel
theorem dX1_takeAll_19 : decode cX1_takeAll 19 = .ok (.ifCond .eq 149, 3) := by decide +kernel
theorem dX1_takeAll_22 : decode cX1_takeAll 22 = .ok (.aload_n 0, 1) := by decide +kernel
theorem dX1_takeAll_23 : decode cX1_takeAll 23 = .ok (.bipush 121, 2) := by decide +kernel
theorem dX1_takeAll_25 : decode cX1_takeAll 25 = .ok (.invokevirtual 77, 3) := by decide +kernel
theorem dX1_takeAll_28 : decode cX1_takeAll 28 = .ok (.aload_n 0, 1) := by decide +kernel
theorem dX1_takeAll_29 : decode cX1_takeAll 29 = .ok (.bipush 58, 2) := by decide +kernel
theorem dX1_takeAll_31 : decode cX1_takeAll 31 = .ok (.invokevirtual 77, 3) := by decide +kernel
theorem dX1_takeAll_34 : decode cX1_takeAll 34 = .ok (.aload_n 0, 1) := by decide +kernel
theorem dX1_takeAll_35 : decode cX1_takeAll 35 = .ok (.invokevirtual 81, 3) := by decide +kernel
theorem dX1_takeAll_38 : decode cX1_takeAll 38 = .ok (.bipush 33, 2) := by decide +kernel
theorem dX1_takeAll_40 : decode cX1_takeAll 40 = .ok (.if_icmp .eq 12, 3) := by decide +kernel
theorem dX1_takeAll_43 : decode cX1_takeAll 43 = .ok (.aload_n 0, 1) := by decide +kernel
theorem dX1_takeAll_44 : decode cX1_takeAll 44 = .ok (.invokevirtual 81, 3) := by decide +kernel
theorem dX1_takeAll_47 : decode cX1_takeAll 47 = .ok (.bipush 40, 2) := by decide +kernel
theorem dX1_takeAll_49 : decode cX1_takeAll 49 = .ok (.if_icmp .ne 7, 3) := by decide +kernel
theorem dX1_takeAll_52 : decode cX1_takeAll 52 = .ok (.iconst 1, 1) := by decide +kernel
theorem dX1_takeAll_53 : decode cX1_takeAll 53 = .ok (.goto 4, 3) := by decide +kernel
theorem dX1_takeAll_56 : decode cX1_takeAll 56 = .ok (.iconst 0, 1) := by decide +kernel
theorem dX1_takeAll_57 : decode cX1_takeAll 57 = .ok (.istore 4, 2) := by decide +kernel
theorem dX1_takeAll_59 : decode cX1_takeAll 59 = .ok (.iload 4, 2) := by decide +kernel
theorem dX1_takeAll_61 : decode cX1_takeAll 61 = .ok (.ifCond .eq 7, 3) := by decide +kernel
theorem dX1_takeAll_64 : decode cX1_takeAll 64 = .ok (.iconst 0, 1) := by decide +kernel
theorem dX1_takeAll_65 : decode cX1_takeAll 65 = .ok (.goto 8, 3) := by decide +kernel
theorem dX1_takeAll_68 : decode cX1_takeAll 68 = .ok (.aload_n 0, 1) := by decide +kernel
theorem dX1_takeAll_69 : decode cX1_takeAll 69 = .ok (.iconst 0, 1) := by decide +kernel
theorem dX1_takeAll_70 : decode cX1_takeAll 70 = .ok (.invokevirtual 85, 3) := by decide +kernel
theorem dX1_takeAll_73 : decode cX1_takeAll 73 = .ok (.istore 5, 2) := by decide +kernel
theorem dX1_takeAll_75 : decode cX1_takeAll 75 = .ok (.iconst 1, 1) := by decide +kernel
theorem dX1_takeAll_76 : decode cX1_takeAll 76 = .ok (.istore 6, 2) := by decide +kernel
theorem dX1_takeAll_78 : decode cX1_takeAll 78 = .ok (.iload 4, 2) := by decide +kernel
theorem dX1_takeAll_80 : decode cX1_takeAll 80 = .ok (.ifCond .ne 13, 3) := by decide +kernel
theorem dX1_takeAll_83 : decode cX1_takeAll 83 = .ok (.aload_n 0, 1) := by decide +kernel
theorem dX1_takeAll_84 : decode cX1_takeAll 84 = .ok (.invokevirtual 81, 3) := by decide +kernel
theorem dX1_takeAll_87 : decode cX1_takeAll 87 = .ok (.invokestatic 89, 3) := by decide +kernel
theorem dX1_takeAll_90 : decode cX1_takeAll 90 = .ok (.ifCond .eq 48, 3) := by decide +kernel
theorem dX1_takeAll_93 : decode cX1_takeAll 93 = .ok (.iload 4, 2) := by decide +kernel
theorem dX1_takeAll_95 : decode cX1_takeAll 95 = .ok (.ifCond .eq 11, 3) := by decide +kernel
theorem dX1_takeAll_98 : decode cX1_takeAll 98 = .ok (.aload_n 0, 1) := by decide +kernel
theorem dX1_takeAll_99 : decode cX1_takeAll 99 = .ok (.iconst 0, 1) := by decide +kernel
theorem dX1_takeAll_100 : decode cX1_takeAll 100 = .ok (.invokevirtual 92, 3) := by decide +kernel
theorem dX1_takeAll_103 : decode cX1_takeAll 103 = .ok (.goto 20, 3) := by decide +kernel
theorem dX1_takeAll_106 : decode cX1_takeAll 106 = .ok (.aload_n 0, 1) := by decide +kernel
theorem dX1_takeAll_107 : decode cX1_takeAll 107 = .ok (.aload_n 0, 1) := by decide +kernel
theorem dX1_takeAll_108 : decode cX1_takeAll 108 = .ok (.aload_n 0, 1) := by decide +kernel
theorem dX1_takeAll_109 : decode cX1_takeAll 109 = .ok (.iload 5, 2) := by decide +kernel
theorem dX1_takeAll_111 : decode cX1_takeAll 111 = .ok (.iconst 0, 1) := by decide +kernel
theorem dX1_takeAll_112 : decode cX1_takeAll 112 = .ok (.invokevirtual 95, 3) := by decide +kernel
theorem dX1_takeAll_115 : decode cX1_takeAll 115 = .ok (.iconst 0, 1) := by decide +kernel
theorem dX1_takeAll_116 : decode cX1_takeAll 116 = .ok (.invokevirtual 99, 3) := by decide +kernel
theorem dX1_takeAll_119 : decode cX1_takeAll 119 = .ok (.iconst 0, 1) := by decide +kernel
theorem dX1_takeAll_120 : decode cX1_takeAll 120 = .ok (.invokevirtual 103, 3) := by decide +kernel
theorem dX1_takeAll_123 : decode cX1_takeAll 123 = .ok (.istore 6, 2) := by decide +kernel
theorem dX1_takeAll_125 : decode cX1_takeAll 125 = .ok (.aload_n 0, 1) := by decide +kernel
theorem dX1_takeAll_126 : decode cX1_takeAll 126 = .ok (.bipush 63, 2) := by decide +kernel
theorem dX1_takeAll_128 : decode cX1_takeAll 128 = .ok (.invokevirtual 77, 3) := by decide +kernel
theorem dX1_takeAll_131 : decode cX1_takeAll 131 = .ok (.aload_n 0, 1) := by decide +kernel
theorem dX1_takeAll_132 : decode cX1_takeAll 132 = .ok (.iconst 0, 1) := by decide +kernel
theorem dX1_takeAll_133 : decode cX1_takeAll 133 = .ok (.invokevirtual 85, 3) := by decide +kernel
theorem dX1_takeAll_136 : decode cX1_takeAll 136 = .ok (.istore 5, 2) := by decide +kernel
theorem dX1_takeAll_138 : decode cX1_takeAll 138 = .ok (.iload 6, 2) := by decide +kernel
theorem dX1_takeAll_140 : decode cX1_takeAll 140 = .ok (.ifCond .eq 15, 3) := by decide +kernel
theorem dX1_takeAll_143 : decode cX1_takeAll 143 = .ok (.iload_n 1, 1) := by decide +kernel
theorem dX1_takeAll_144 : decode cX1_takeAll 144 = .ok (.ifCond .ne 11, 3) := by decide +kernel
theorem dX1_takeAll_147 : decode cX1_takeAll 147 = .ok (.iconst 1, 1) := by decide +kernel
theorem dX1_takeAll_148 : decode cX1_takeAll 148 = .ok (.istore_n 1, 1) := by decide +kernel
theorem dX1_takeAll_149 : decode cX1_takeAll 149 = .ok (.aload_n 0, 1) := by decide +kernel
theorem dX1_takeAll_150 : decode cX1_takeAll 150 = .ok (.iload 5, 2) := by decide +kernel
theorem dX1_takeAll_152 : decode cX1_takeAll 152 = .ok (.putfield 63, 3) := by decide +kernel
theorem dX1_takeAll_155 : decode cX1_takeAll 155 = .ok (.aload_n 0, 1) := by decide +kernel
theorem dX1_takeAll_156 : decode cX1_takeAll 156 = .ok (.bipush 59, 2) := by decide +kernel
theorem dX1_takeAll_158 : decode cX1_takeAll 158 = .ok (.invokevirtual 106, 3) := by decide +kernel
theorem dX1_takeAll_161 : decode cX1_takeAll 161 = .ok (.istore_n 2, 1) := by decide +kernel
theorem dX1_takeAll_162 : decode cX1_takeAll 162 = .ok (.iinc 3 1, 3) := by decide +kernel
theorem dX1_takeAll_165 : decode cX1_takeAll 165 = .ok (.goto (-154), 3) := by decide +kernel
theorem dX1_takeAll_168 : decode cX1_takeAll 168 = .ok (.return_, 1) := by decide +kernel
theorem dX1_condition_0 : decode cX1_condition 0 = .ok (.aload_n 0, 1) := by decide +kernel
theorem dX1_condition_1 : decode cX1_condition 1 = .ok (.aload_n 0, 1) := by decide +kernel
theorem dX1_condition_2 : decode cX1_condition 2 = .ok (.aload_n 0, 1) := by decide +kernel
theorem dX1_condition_3 : decode cX1_condition 3 = .ok (.iload_n 1, 1) := by decide +kernel
theorem dX1_condition_4 : decode cX1_condition 4 = .ok (.invokevirtual 109, 3) := by decide +kernel
theorem dX1_condition_7 : decode cX1_condition 7 = .ok (.iload_n 1, 1) := by decide +kernel
theorem dX1_condition_8 : decode cX1_condition 8 = .ok (.invokevirtual 99, 3) := by decide +kernel
theorem dX1_condition_11 : decode cX1_condition 11 = .ok (.iload_n 1, 1) := by decide +kernel
theorem dX1_condition_12 : decode cX1_condition 12 = .ok (.invokevirtual 103, 3) := by decide +kernel
theorem dX1_condition_15 : decode cX1_condition 15 = .ok (.ireturn, 1) := by decide +kernel
theorem dX1_moreTruths_0 : decode cX1_moreTruths 0 = .ok (.iload_n 1, 1) := by decide +kernel
theorem dX1_moreTruths_1 : decode cX1_moreTruths 1 = .ok (.istore_n 3, 1) := by decide +kernel
theorem dX1_moreTruths_2 : decode cX1_moreTruths 2 = .ok (.iconst 0, 1) := by decide +kernel
theorem dX1_moreTruths_3 : decode cX1_moreTruths 3 = .ok (.istore 4, 2) := by decide +kernel
theorem dX1_moreTruths_5 : decode cX1_moreTruths 5 = .ok (.iload 4, 2) := by decide +kernel
theorem dX1_moreTruths_7 : decode cX1_moreTruths 7 = .ok (.sipush 200, 3) := by decide +kernel
theorem dX1_moreTruths_10 : decode cX1_moreTruths 10 = .ok (.if_icmp .ge 31, 3) := by decide +kernel
theorem dX1_moreTruths_13 : decode cX1_moreTruths 13 = .ok (.aload_n 0, 1) := by decide +kernel
theorem dX1_moreTruths_14 : decode cX1_moreTruths 14 = .ok (.bipush 124, 2) := by decide +kernel
theorem dX1_moreTruths_16 : decode cX1_moreTruths 16 = .ok (.invokevirtual 106, 3) := by decide +kernel
theorem dX1_moreTruths_19 : decode cX1_moreTruths 19 = .ok (.ifCond .eq 22, 3) := by decide +kernel
theorem dX1_moreTruths_22 : decode cX1_moreTruths 22 = .ok (.iload_n 3, 1) := by decide +kernel
theorem dX1_moreTruths_23 : decode cX1_moreTruths 23 = .ok (.aload_n 0, 1) := by decide +kernel
theorem dX1_moreTruths_24 : decode cX1_moreTruths 24 = .ok (.aload_n 0, 1) := by decide +kernel
theorem dX1_moreTruths_25 : decode cX1_moreTruths 25 = .ok (.iload_n 2, 1) := by decide +kernel
theorem dX1_moreTruths_26 : decode cX1_moreTruths 26 = .ok (.invokevirtual 109, 3) := by decide +kernel
theorem dX1_moreTruths_29 : decode cX1_moreTruths 29 = .ok (.iload_n 2, 1) := by decide +kernel
theorem dX1_moreTruths_30 : decode cX1_moreTruths 30 = .ok (.invokevirtual 99, 3) := by decide +kernel
theorem dX1_moreTruths_33 : decode cX1_moreTruths 33 = .ok (.ior, 1) := by decide +kernel
theorem dX1_moreTruths_34 : decode cX1_moreTruths 34 = .ok (.istore_n 3, 1) := by decide +kernel
theorem dX1_moreTruths_35 : decode cX1_moreTruths 35 = .ok (.iinc 4 1, 3) := by decide +kernel
theorem dX1_moreTruths_38 : decode cX1_moreTruths 38 = .ok (.goto (-33), 3) := by decide +kernel
theorem dX1_moreTruths_41 : decode cX1_moreTruths 41 = .ok (.iload_n 3, 1) := by decide +kernel
theorem dX1_moreTruths_42 : decode cX1_moreTruths 42 = .ok (.ireturn, 1) := by decide +kernel
theorem dX1_moreUnits_0 : decode cX1_moreUnits 0 = .ok (.iload_n 1, 1) := by decide +kernel
theorem dX1_moreUnits_1 : decode cX1_moreUnits 1 = .ok (.istore_n 3, 1) := by decide +kernel
theorem dX1_moreUnits_2 : decode cX1_moreUnits 2 = .ok (.iconst 0, 1) := by decide +kernel
theorem dX1_moreUnits_3 : decode cX1_moreUnits 3 = .ok (.istore 4, 2) := by decide +kernel
theorem dX1_moreUnits_5 : decode cX1_moreUnits 5 = .ok (.iload 4, 2) := by decide +kernel
theorem dX1_moreUnits_7 : decode cX1_moreUnits 7 = .ok (.sipush 200, 3) := by decide +kernel
theorem dX1_moreUnits_10 : decode cX1_moreUnits 10 = .ok (.if_icmp .ge 26, 3) := by decide +kernel
theorem dX1_moreUnits_13 : decode cX1_moreUnits 13 = .ok (.aload_n 0, 1) := by decide +kernel
theorem dX1_moreUnits_14 : decode cX1_moreUnits 14 = .ok (.bipush 38, 2) := by decide +kernel
theorem dX1_moreUnits_16 : decode cX1_moreUnits 16 = .ok (.invokevirtual 106, 3) := by decide +kernel
theorem dX1_moreUnits_19 : decode cX1_moreUnits 19 = .ok (.ifCond .eq 17, 3) := by decide +kernel
theorem dX1_moreUnits_22 : decode cX1_moreUnits 22 = .ok (.iload_n 3, 1) := by decide +kernel
theorem dX1_moreUnits_23 : decode cX1_moreUnits 23 = .ok (.aload_n 0, 1) := by decide +kernel
theorem dX1_moreUnits_24 : decode cX1_moreUnits 24 = .ok (.iload_n 2, 1) := by decide +kernel
theorem dX1_moreUnits_25 : decode cX1_moreUnits 25 = .ok (.invokevirtual 109, 3) := by decide +kernel
theorem dX1_moreUnits_28 : decode cX1_moreUnits 28 = .ok (.iand, 1) := by decide +kernel
theorem dX1_moreUnits_29 : decode cX1_moreUnits 29 = .ok (.istore_n 3, 1) := by decide +kernel
theorem dX1_moreUnits_30 : decode cX1_moreUnits 30 = .ok (.iinc 4 1, 3) := by decide +kernel
theorem dX1_moreUnits_33 : decode cX1_moreUnits 33 = .ok (.goto (-28), 3) := by decide +kernel
theorem dX1_moreUnits_36 : decode cX1_moreUnits 36 = .ok (.iload_n 3, 1) := by decide +kernel
theorem dX1_moreUnits_37 : decode cX1_moreUnits 37 = .ok (.ireturn, 1) := by decide +kernel
theorem dX1_unit_0 : decode cX1_unit 0 = .ok (.iconst 0, 1) := by decide +kernel
theorem dX1_unit_1 : decode cX1_unit 1 = .ok (.istore_n 2, 1) := by decide +kernel
theorem dX1_unit_2 : decode cX1_unit 2 = .ok (.iload_n 1, 1) := by decide +kernel
theorem dX1_unit_3 : decode cX1_unit 3 = .ok (.istore_n 3, 1) := by decide +kernel
theorem dX1_unit_4 : decode cX1_unit 4 = .ok (.iload_n 1, 1) := by decide +kernel
theorem dX1_unit_5 : decode cX1_unit 5 = .ok (.istore 4, 2) := by decide +kernel
theorem dX1_unit_7 : decode cX1_unit 7 = .ok (.iload 4, 2) := by decide +kernel
theorem dX1_unit_9 : decode cX1_unit 9 = .ok (.bipush 6, 2) := by decide +kernel
theorem dX1_unit_11 : decode cX1_unit 11 = .ok (.if_icmp .ge 31, 3) := by decide +kernel
theorem dX1_unit_14 : decode cX1_unit 14 = .ok (.aload_n 0, 1) := by decide +kernel
theorem dX1_unit_15 : decode cX1_unit 15 = .ok (.bipush 33, 2) := by decide +kernel
theorem dX1_unit_17 : decode cX1_unit 17 = .ok (.invokevirtual 106, 3) := by decide +kernel
theorem dX1_unit_20 : decode cX1_unit 20 = .ok (.ifCond .eq 22, 3) := by decide +kernel
theorem dX1_unit_23 : decode cX1_unit 23 = .ok (.iload_n 2, 1) := by decide +kernel
theorem dX1_unit_24 : decode cX1_unit 24 = .ok (.ifCond .ne 7, 3) := by decide +kernel
theorem dX1_unit_27 : decode cX1_unit 27 = .ok (.iconst 1, 1) := by decide +kernel
theorem dX1_unit_28 : decode cX1_unit 28 = .ok (.goto 4, 3) := by decide +kernel
theorem dX1_unit_31 : decode cX1_unit 31 = .ok (.iconst 0, 1) := by decide +kernel
theorem dX1_unit_32 : decode cX1_unit 32 = .ok (.istore_n 2, 1) := by decide +kernel
theorem dX1_unit_33 : decode cX1_unit 33 = .ok (.iinc 3 1, 3) := by decide +kernel
theorem dX1_unit_36 : decode cX1_unit 36 = .ok (.iinc 4 1, 3) := by decide +kernel
theorem dX1_unit_39 : decode cX1_unit 39 = .ok (.goto (-32), 3) := by decide +kernel
theorem dX1_unit_42 : decode cX1_unit 42 = .ok (.iload_n 3, 1) := by decide +kernel
theorem dX1_unit_43 : decode cX1_unit 43 = .ok (.bipush 6, 2) := by decide +kernel
theorem dX1_unit_45 : decode cX1_unit 45 = .ok (.if_icmp .ge 30, 3) := by decide +kernel
theorem dX1_unit_48 : decode cX1_unit 48 = .ok (.aload_n 0, 1) := by decide +kernel
theorem dX1_unit_49 : decode cX1_unit 49 = .ok (.bipush 40, 2) := by decide +kernel
theorem dX1_unit_51 : decode cX1_unit 51 = .ok (.invokevirtual 106, 3) := by decide +kernel
theorem dX1_unit_54 : decode cX1_unit 54 = .ok (.ifCond .eq 21, 3) := by decide +kernel
theorem dX1_unit_57 : decode cX1_unit 57 = .ok (.aload_n 0, 1) := by decide +kernel
theorem dX1_unit_58 : decode cX1_unit 58 = .ok (.iload_n 3, 1) := by decide +kernel
theorem dX1_unit_59 : decode cX1_unit 59 = .ok (.iconst 1, 1) := by decide +kernel
theorem dX1_unit_60 : decode cX1_unit 60 = .ok (.iadd, 1) := by decide +kernel
theorem dX1_unit_61 : decode cX1_unit 61 = .ok (.invokevirtual 92, 3) := by decide +kernel
theorem dX1_unit_64 : decode cX1_unit 64 = .ok (.istore 4, 2) := by decide +kernel
theorem dX1_unit_66 : decode cX1_unit 66 = .ok (.aload_n 0, 1) := by decide +kernel
theorem dX1_unit_67 : decode cX1_unit 67 = .ok (.bipush 41, 2) := by decide +kernel
theorem dX1_unit_69 : decode cX1_unit 69 = .ok (.invokevirtual 77, 3) := by decide +kernel
theorem dX1_unit_72 : decode cX1_unit 72 = .ok (.goto 15, 3) := by decide +kernel
theorem dX1_unit_75 : decode cX1_unit 75 = .ok (.aload_n 0, 1) := by decide +kernel
theorem dX1_unit_76 : decode cX1_unit 76 = .ok (.aload_n 0, 1) := by decide +kernel
theorem dX1_unit_77 : decode cX1_unit 77 = .ok (.iload_n 3, 1) := by decide +kernel
theorem dX1_unit_78 : decode cX1_unit 78 = .ok (.invokevirtual 85, 3) := by decide +kernel
theorem dX1_unit_81 : decode cX1_unit 81 = .ok (.iload_n 3, 1) := by decide +kernel
theorem dX1_unit_82 : decode cX1_unit 82 = .ok (.invokevirtual 95, 3) := by decide +kernel
theorem dX1_unit_85 : decode cX1_unit 85 = .ok (.istore 4, 2) := by decide +kernel
theorem dX1_unit_87 : decode cX1_unit 87 = .ok (.iload 4, 2) := by decide +kernel
theorem dX1_unit_89 : decode cX1_unit 89 = .ok (.iload_n 2, 1) := by decide +kernel
theorem dX1_unit_90 : decode cX1_unit 90 = .ok (.if_icmp .eq 7, 3) := by decide +kernel
theorem dX1_unit_93 : decode cX1_unit 93 = .ok (.iconst 1, 1) := by decide +kernel
theorem dX1_unit_94 : decode cX1_unit 94 = .ok (.goto 4, 3) := by decide +kernel
theorem dX1_unit_97 : decode cX1_unit 97 = .ok (.iconst 0, 1) := by decide +kernel
theorem dX1_unit_98 : decode cX1_unit 98 = .ok (.ireturn, 1) := by decide +kernel
theorem dX1_compared_0 : decode cX1_compared 0 = .ok (.aload_n 0, 1) := by decide +kernel
theorem dX1_compared_1 : decode cX1_compared 1 = .ok (.invokevirtual 81, 3) := by decide +kernel
theorem dX1_compared_4 : decode cX1_compared 4 = .ok (.istore_n 3, 1) := by decide +kernel
theorem dX1_compared_5 : decode cX1_compared 5 = .ok (.iload_n 3, 1) := by decide +kernel
theorem dX1_compared_6 : decode cX1_compared 6 = .ok (.invokestatic 89, 3) := by decide +kernel
theorem dX1_compared_9 : decode cX1_compared 9 = .ok (.ifCond .ne 9, 3) := by decide +kernel
theorem dX1_compared_12 : decode cX1_compared 12 = .ok (.aload_n 0, 1) := by decide +kernel
theorem dX1_compared_13 : decode cX1_compared 13 = .ok (.invokevirtual 112, 3) := by decide +kernel
theorem dX1_compared_16 : decode cX1_compared 16 = .ok (.iconst 0, 1) := by decide +kernel
theorem dX1_compared_17 : decode cX1_compared 17 = .ok (.ireturn, 1) := by decide +kernel
theorem dX1_compared_18 : decode cX1_compared 18 = .ok (.aload_n 0, 1) := by decide +kernel
theorem dX1_compared_19 : decode cX1_compared 19 = .ok (.invokevirtual 115, 3) := by decide +kernel
theorem dX1_compared_22 : decode cX1_compared 22 = .ok (.aload_n 0, 1) := by decide +kernel
theorem dX1_compared_23 : decode cX1_compared 23 = .ok (.iload_n 2, 1) := by decide +kernel
theorem dX1_compared_24 : decode cX1_compared 24 = .ok (.invokevirtual 85, 3) := by decide +kernel
theorem dX1_compared_27 : decode cX1_compared 27 = .ok (.istore 4, 2) := by decide +kernel
theorem dX1_compared_29 : decode cX1_compared 29 = .ok (.iload_n 3, 1) := by decide +kernel
theorem dX1_compared_30 : decode cX1_compared 30 = .ok (.bipush 61, 2) := by decide +kernel
theorem dX1_compared_32 : decode cX1_compared 32 = .ok (.if_icmp .ne 15, 3) := by decide +kernel
theorem dX1_compared_35 : decode cX1_compared 35 = .ok (.iload_n 1, 1) := by decide +kernel
theorem dX1_compared_36 : decode cX1_compared 36 = .ok (.iload 4, 2) := by decide +kernel
theorem dX1_compared_38 : decode cX1_compared 38 = .ok (.if_icmp .ne 7, 3) := by decide +kernel
theorem dX1_compared_41 : decode cX1_compared 41 = .ok (.iconst 1, 1) := by decide +kernel
theorem dX1_compared_42 : decode cX1_compared 42 = .ok (.goto 4, 3) := by decide +kernel
theorem dX1_compared_45 : decode cX1_compared 45 = .ok (.iconst 0, 1) := by decide +kernel
theorem dX1_compared_46 : decode cX1_compared 46 = .ok (.ireturn, 1) := by decide +kernel
theorem dX1_compared_47 : decode cX1_compared 47 = .ok (.iload_n 3, 1) := by decide +kernel
theorem dX1_compared_48 : decode cX1_compared 48 = .ok (.bipush 60, 2) := by decide +kernel
theorem dX1_compared_50 : decode cX1_compared 50 = .ok (.if_icmp .ne 17, 3) := by decide +kernel
theorem dX1_compared_53 : decode cX1_compared 53 = .ok (.iload_n 1, 1) := by decide +kernel
theorem dX1_compared_54 : decode cX1_compared 54 = .ok (.iload 4, 2) := by decide +kernel
theorem dX1_compared_56 : decode cX1_compared 56 = .ok (.if_icmp .ge 7, 3) := by decide +kernel
theorem dX1_compared_59 : decode cX1_compared 59 = .ok (.iconst 1, 1) := by decide +kernel
theorem dX1_compared_60 : decode cX1_compared 60 = .ok (.goto 18, 3) := by decide +kernel
theorem dX1_compared_63 : decode cX1_compared 63 = .ok (.iconst 0, 1) := by decide +kernel
theorem dX1_compared_64 : decode cX1_compared 64 = .ok (.goto 14, 3) := by decide +kernel
theorem dX1_compared_67 : decode cX1_compared 67 = .ok (.iload_n 1, 1) := by decide +kernel
theorem dX1_compared_68 : decode cX1_compared 68 = .ok (.iload 4, 2) := by decide +kernel
theorem dX1_compared_70 : decode cX1_compared 70 = .ok (.if_icmp .le 7, 3) := by decide +kernel
theorem dX1_compared_73 : decode cX1_compared 73 = .ok (.iconst 1, 1) := by decide +kernel
theorem dX1_compared_74 : decode cX1_compared 74 = .ok (.goto 4, 3) := by decide +kernel
theorem dX1_compared_77 : decode cX1_compared 77 = .ok (.iconst 0, 1) := by decide +kernel
theorem dX1_compared_78 : decode cX1_compared 78 = .ok (.ireturn, 1) := by decide +kernel
theorem dX1_isRelation_0 : decode cX1_isRelation 0 = .ok (.iload_n 0, 1) := by decide +kernel
theorem dX1_isRelation_1 : decode cX1_isRelation 1 = .ok (.bipush 61, 2) := by decide +kernel
theorem dX1_isRelation_3 : decode cX1_isRelation 3 = .ok (.if_icmp .eq 15, 3) := by decide +kernel
theorem dX1_isRelation_6 : decode cX1_isRelation 6 = .ok (.iload_n 0, 1) := by decide +kernel
theorem dX1_isRelation_7 : decode cX1_isRelation 7 = .ok (.bipush 60, 2) := by decide +kernel
theorem dX1_isRelation_9 : decode cX1_isRelation 9 = .ok (.if_icmp .eq 9, 3) := by decide +kernel
theorem dX1_isRelation_12 : decode cX1_isRelation 12 = .ok (.iload_n 0, 1) := by decide +kernel
theorem dX1_isRelation_13 : decode cX1_isRelation 13 = .ok (.bipush 62, 2) := by decide +kernel
theorem dX1_isRelation_15 : decode cX1_isRelation 15 = .ok (.if_icmp .ne 7, 3) := by decide +kernel
theorem dX1_isRelation_18 : decode cX1_isRelation 18 = .ok (.iconst 1, 1) := by decide +kernel
theorem dX1_isRelation_19 : decode cX1_isRelation 19 = .ok (.goto 4, 3) := by decide +kernel
theorem dX1_isRelation_22 : decode cX1_isRelation 22 = .ok (.iconst 0, 1) := by decide +kernel
theorem dX1_isRelation_23 : decode cX1_isRelation 23 = .ok (.ireturn, 1) := by decide +kernel
theorem dX1_sum_0 : decode cX1_sum 0 = .ok (.aload_n 0, 1) := by decide +kernel
theorem dX1_sum_1 : decode cX1_sum 1 = .ok (.iload_n 1, 1) := by decide +kernel
theorem dX1_sum_2 : decode cX1_sum 2 = .ok (.invokevirtual 118, 3) := by decide +kernel
theorem dX1_sum_5 : decode cX1_sum 5 = .ok (.istore_n 2, 1) := by decide +kernel
theorem dX1_sum_6 : decode cX1_sum 6 = .ok (.aload_n 0, 1) := by decide +kernel
theorem dX1_sum_7 : decode cX1_sum 7 = .ok (.invokevirtual 81, 3) := by decide +kernel
theorem dX1_sum_10 : decode cX1_sum 10 = .ok (.istore_n 3, 1) := by decide +kernel
theorem dX1_sum_11 : decode cX1_sum 11 = .ok (.iconst 0, 1) := by decide +kernel
theorem dX1_sum_12 : decode cX1_sum 12 = .ok (.istore 4, 2) := by decide +kernel
theorem dX1_sum_14 : decode cX1_sum 14 = .ok (.iload 4, 2) := by decide +kernel
theorem dX1_sum_16 : decode cX1_sum 16 = .ok (.sipush 200, 3) := by decide +kernel
theorem dX1_sum_19 : decode cX1_sum 19 = .ok (.if_icmp .ge 60, 3) := by decide +kernel
theorem dX1_sum_22 : decode cX1_sum 22 = .ok (.iload_n 3, 1) := by decide +kernel
theorem dX1_sum_23 : decode cX1_sum 23 = .ok (.bipush 43, 2) := by decide +kernel
theorem dX1_sum_25 : decode cX1_sum 25 = .ok (.if_icmp .eq 9, 3) := by decide +kernel
theorem dX1_sum_28 : decode cX1_sum 28 = .ok (.iload_n 3, 1) := by decide +kernel
theorem dX1_sum_29 : decode cX1_sum 29 = .ok (.bipush 45, 2) := by decide +kernel
theorem dX1_sum_31 : decode cX1_sum 31 = .ok (.if_icmp .ne 48, 3) := by decide +kernel
theorem dX1_sum_34 : decode cX1_sum 34 = .ok (.aload_n 0, 1) := by decide +kernel
theorem dX1_sum_35 : decode cX1_sum 35 = .ok (.invokevirtual 115, 3) := by decide +kernel
theorem dX1_sum_38 : decode cX1_sum 38 = .ok (.aload_n 0, 1) := by decide +kernel
theorem dX1_sum_39 : decode cX1_sum 39 = .ok (.iload_n 1, 1) := by decide +kernel
theorem dX1_sum_40 : decode cX1_sum 40 = .ok (.invokevirtual 118, 3) := by decide +kernel
theorem dX1_sum_43 : decode cX1_sum 43 = .ok (.istore 5, 2) := by decide +kernel
theorem dX1_sum_45 : decode cX1_sum 45 = .ok (.iload_n 3, 1) := by decide +kernel
theorem dX1_sum_46 : decode cX1_sum 46 = .ok (.bipush 43, 2) := by decide +kernel
theorem dX1_sum_48 : decode cX1_sum 48 = .ok (.if_icmp .ne 11, 3) := by decide +kernel
theorem dX1_sum_51 : decode cX1_sum 51 = .ok (.iload_n 2, 1) := by decide +kernel
theorem dX1_sum_52 : decode cX1_sum 52 = .ok (.iload 5, 2) := by decide +kernel
theorem dX1_sum_54 : decode cX1_sum 54 = .ok (.iadd, 1) := by decide +kernel
theorem dX1_sum_55 : decode cX1_sum 55 = .ok (.i2l, 1) := by decide +kernel
theorem dX1_sum_56 : decode cX1_sum 56 = .ok (.goto 8, 3) := by decide +kernel
theorem dX1_sum_59 : decode cX1_sum 59 = .ok (.iload_n 2, 1) := by decide +kernel
theorem dX1_sum_60 : decode cX1_sum 60 = .ok (.iload 5, 2) := by decide +kernel
theorem dX1_sum_62 : decode cX1_sum 62 = .ok (.isub, 1) := by decide +kernel
theorem dX1_sum_63 : decode cX1_sum 63 = .ok (.i2l, 1) := by decide +kernel
theorem dX1_sum_64 : decode cX1_sum 64 = .ok (.invokestatic 121, 3) := by decide +kernel
theorem dX1_sum_67 : decode cX1_sum 67 = .ok (.istore_n 2, 1) := by decide +kernel
theorem dX1_sum_68 : decode cX1_sum 68 = .ok (.aload_n 0, 1) := by decide +kernel
theorem dX1_sum_69 : decode cX1_sum 69 = .ok (.invokevirtual 81, 3) := by decide +kernel
theorem dX1_sum_72 : decode cX1_sum 72 = .ok (.istore_n 3, 1) := by decide +kernel
theorem dX1_sum_73 : decode cX1_sum 73 = .ok (.iinc 4 1, 3) := by decide +kernel
theorem dX1_sum_76 : decode cX1_sum 76 = .ok (.goto (-62), 3) := by decide +kernel
theorem dX1_sum_79 : decode cX1_sum 79 = .ok (.iload_n 2, 1) := by decide +kernel
theorem dX1_sum_80 : decode cX1_sum 80 = .ok (.ireturn, 1) := by decide +kernel
theorem dX1_term_0 : decode cX1_term 0 = .ok (.aload_n 0, 1) := by decide +kernel
theorem dX1_term_1 : decode cX1_term 1 = .ok (.iload_n 1, 1) := by decide +kernel
theorem dX1_term_2 : decode cX1_term 2 = .ok (.invokevirtual 124, 3) := by decide +kernel
theorem dX1_term_5 : decode cX1_term 5 = .ok (.istore_n 2, 1) := by decide +kernel
theorem dX1_term_6 : decode cX1_term 6 = .ok (.aload_n 0, 1) := by decide +kernel
theorem dX1_term_7 : decode cX1_term 7 = .ok (.invokevirtual 81, 3) := by decide +kernel
theorem dX1_term_10 : decode cX1_term 10 = .ok (.istore_n 3, 1) := by decide +kernel
theorem dX1_term_11 : decode cX1_term 11 = .ok (.iconst 0, 1) := by decide +kernel
theorem dX1_term_12 : decode cX1_term 12 = .ok (.istore 4, 2) := by decide +kernel
theorem dX1_term_14 : decode cX1_term 14 = .ok (.iload 4, 2) := by decide +kernel
theorem dX1_term_16 : decode cX1_term 16 = .ok (.sipush 200, 3) := by decide +kernel
theorem dX1_term_19 : decode cX1_term 19 = .ok (.if_icmp .ge 74, 3) := by decide +kernel
theorem dX1_term_22 : decode cX1_term 22 = .ok (.iload_n 3, 1) := by decide +kernel
theorem dX1_term_23 : decode cX1_term 23 = .ok (.bipush 42, 2) := by decide +kernel
theorem dX1_term_25 : decode cX1_term 25 = .ok (.if_icmp .eq 9, 3) := by decide +kernel
theorem dX1_term_28 : decode cX1_term 28 = .ok (.iload_n 3, 1) := by decide +kernel
theorem dX1_term_29 : decode cX1_term 29 = .ok (.bipush 47, 2) := by decide +kernel
theorem dX1_term_31 : decode cX1_term 31 = .ok (.if_icmp .ne 62, 3) := by decide +kernel
theorem dX1_term_34 : decode cX1_term 34 = .ok (.aload_n 0, 1) := by decide +kernel
theorem dX1_term_35 : decode cX1_term 35 = .ok (.invokevirtual 115, 3) := by decide +kernel
theorem dX1_term_38 : decode cX1_term 38 = .ok (.aload_n 0, 1) := by decide +kernel
theorem dX1_term_39 : decode cX1_term 39 = .ok (.iload_n 1, 1) := by decide +kernel
theorem dX1_term_40 : decode cX1_term 40 = .ok (.invokevirtual 124, 3) := by decide +kernel
theorem dX1_term_43 : decode cX1_term 43 = .ok (.istore 5, 2) := by decide +kernel
theorem dX1_term_45 : decode cX1_term 45 = .ok (.iload_n 3, 1) := by decide +kernel
theorem dX1_term_46 : decode cX1_term 46 = .ok (.bipush 42, 2) := by decide +kernel
theorem dX1_term_48 : decode cX1_term 48 = .ok (.if_icmp .ne 16, 3) := by decide +kernel
theorem dX1_term_51 : decode cX1_term 51 = .ok (.iload_n 2, 1) := by decide +kernel
theorem dX1_term_52 : decode cX1_term 52 = .ok (.i2l, 1) := by decide +kernel
theorem dX1_term_53 : decode cX1_term 53 = .ok (.iload 5, 2) := by decide +kernel
theorem dX1_term_55 : decode cX1_term 55 = .ok (.i2l, 1) := by decide +kernel
theorem dX1_term_56 : decode cX1_term 56 = .ok (.lmul, 1) := by decide +kernel
theorem dX1_term_57 : decode cX1_term 57 = .ok (.invokestatic 121, 3) := by decide +kernel
theorem dX1_term_60 : decode cX1_term 60 = .ok (.istore_n 2, 1) := by decide +kernel
theorem dX1_term_61 : decode cX1_term 61 = .ok (.goto 21, 3) := by decide +kernel
theorem dX1_term_64 : decode cX1_term 64 = .ok (.iload 5, 2) := by decide +kernel
theorem dX1_term_66 : decode cX1_term 66 = .ok (.ifCond .ne 7, 3) := by decide +kernel
theorem dX1_term_69 : decode cX1_term 69 = .ok (.iconst 0, 1) := by decide +kernel
theorem dX1_term_70 : decode cX1_term 70 = .ok (.goto 11, 3) := by decide +kernel
theorem dX1_term_73 : decode cX1_term 73 = .ok (.iload_n 2, 1) := by decide +kernel
theorem dX1_term_74 : decode cX1_term 74 = .ok (.iload 5, 2) := by decide +kernel
theorem dX1_term_76 : decode cX1_term 76 = .ok (.idiv, 1) := by decide +kernel
theorem dX1_term_77 : decode cX1_term 77 = .ok (.i2l, 1) := by decide +kernel
theorem dX1_term_78 : decode cX1_term 78 = .ok (.invokestatic 121, 3) := by decide +kernel
theorem dX1_term_81 : decode cX1_term 81 = .ok (.istore_n 2, 1) := by decide +kernel
theorem dX1_term_82 : decode cX1_term 82 = .ok (.aload_n 0, 1) := by decide +kernel
theorem dX1_term_83 : decode cX1_term 83 = .ok (.invokevirtual 81, 3) := by decide +kernel
theorem dX1_term_86 : decode cX1_term 86 = .ok (.istore_n 3, 1) := by decide +kernel
theorem dX1_term_87 : decode cX1_term 87 = .ok (.iinc 4 1, 3) := by decide +kernel
theorem dX1_term_90 : decode cX1_term 90 = .ok (.goto (-76), 3) := by decide +kernel
theorem dX1_term_93 : decode cX1_term 93 = .ok (.iload_n 2, 1) := by decide +kernel
theorem dX1_term_94 : decode cX1_term 94 = .ok (.ireturn, 1) := by decide +kernel
theorem dX1_bounded_0 : decode cX1_bounded 0 = .ok (.ldc2_w 127, 3) := by decide +kernel
theorem dX1_bounded_3 : decode cX1_bounded 3 = .ok (.ldc2_w 129, 3) := by decide +kernel
theorem dX1_bounded_6 : decode cX1_bounded 6 = .ok (.lload_n 0, 1) := by decide +kernel
theorem dX1_bounded_7 : decode cX1_bounded 7 = .ok (.invokestatic 131, 3) := by decide +kernel
theorem dX1_bounded_10 : decode cX1_bounded 10 = .ok (.invokestatic 134, 3) := by decide +kernel
theorem dX1_bounded_13 : decode cX1_bounded 13 = .ok (.l2i, 1) := by decide +kernel
theorem dX1_bounded_14 : decode cX1_bounded 14 = .ok (.ireturn, 1) := by decide +kernel
theorem dX1_atom_0 : decode cX1_atom 0 = .ok (.aload_n 0, 1) := by decide +kernel
theorem dX1_atom_1 : decode cX1_atom 1 = .ok (.invokevirtual 81, 3) := by decide +kernel
theorem dX1_atom_4 : decode cX1_atom 4 = .ok (.istore_n 2, 1) := by decide +kernel
theorem dX1_atom_5 : decode cX1_atom 5 = .ok (.iload_n 2, 1) := by decide +kernel
theorem dX1_atom_6 : decode cX1_atom 6 = .ok (.bipush 91, 2) := by decide +kernel
theorem dX1_atom_8 : decode cX1_atom 8 = .ok (.if_icmp .ne 29, 3) := by decide +kernel
theorem dX1_atom_11 : decode cX1_atom 11 = .ok (.iload_n 1, 1) := by decide +kernel
theorem dX1_atom_12 : decode cX1_atom 12 = .ok (.bipush 6, 2) := by decide +kernel
theorem dX1_atom_14 : decode cX1_atom 14 = .ok (.if_icmp .ge 23, 3) := by decide +kernel
theorem dX1_atom_17 : decode cX1_atom 17 = .ok (.aload_n 0, 1) := by decide +kernel
theorem dX1_atom_18 : decode cX1_atom 18 = .ok (.invokevirtual 115, 3) := by decide +kernel
theorem dX1_atom_21 : decode cX1_atom 21 = .ok (.aload_n 0, 1) := by decide +kernel
theorem dX1_atom_22 : decode cX1_atom 22 = .ok (.iload_n 1, 1) := by decide +kernel
theorem dX1_atom_23 : decode cX1_atom 23 = .ok (.iconst 1, 1) := by decide +kernel
theorem dX1_atom_24 : decode cX1_atom 24 = .ok (.iadd, 1) := by decide +kernel
theorem dX1_atom_25 : decode cX1_atom 25 = .ok (.invokevirtual 85, 3) := by decide +kernel
theorem dX1_atom_28 : decode cX1_atom 28 = .ok (.istore_n 3, 1) := by decide +kernel
theorem dX1_atom_29 : decode cX1_atom 29 = .ok (.aload_n 0, 1) := by decide +kernel
theorem dX1_atom_30 : decode cX1_atom 30 = .ok (.bipush 93, 2) := by decide +kernel
theorem dX1_atom_32 : decode cX1_atom 32 = .ok (.invokevirtual 77, 3) := by decide +kernel
theorem dX1_atom_35 : decode cX1_atom 35 = .ok (.iload_n 3, 1) := by decide +kernel
theorem dX1_atom_36 : decode cX1_atom 36 = .ok (.ireturn, 1) := by decide +kernel
theorem dX1_atom_37 : decode cX1_atom 37 = .ok (.iload_n 2, 1) := by decide +kernel
theorem dX1_atom_38 : decode cX1_atom 38 = .ok (.sipush 1000, 3) := by decide +kernel
theorem dX1_atom_41 : decode cX1_atom 41 = .ok (.if_icmp .ne 11, 3) := by decide +kernel
theorem dX1_atom_44 : decode cX1_atom 44 = .ok (.aload_n 0, 1) := by decide +kernel
theorem dX1_atom_45 : decode cX1_atom 45 = .ok (.invokevirtual 136, 3) := by decide +kernel
theorem dX1_atom_48 : decode cX1_atom 48 = .ok (.l2i, 1) := by decide +kernel
theorem dX1_atom_49 : decode cX1_atom 49 = .ok (.goto 8, 3) := by decide +kernel
theorem dX1_atom_52 : decode cX1_atom 52 = .ok (.aload_n 0, 1) := by decide +kernel
theorem dX1_atom_53 : decode cX1_atom 53 = .ok (.iload_n 2, 1) := by decide +kernel
theorem dX1_atom_54 : decode cX1_atom 54 = .ok (.invokevirtual 140, 3) := by decide +kernel
theorem dX1_atom_57 : decode cX1_atom 57 = .ok (.istore_n 3, 1) := by decide +kernel
theorem dX1_atom_58 : decode cX1_atom 58 = .ok (.iload_n 3, 1) := by decide +kernel
theorem dX1_atom_59 : decode cX1_atom 59 = .ok (.iconst (-1), 1) := by decide +kernel
theorem dX1_atom_60 : decode cX1_atom 60 = .ok (.if_icmp .ne 9, 3) := by decide +kernel
theorem dX1_atom_63 : decode cX1_atom 63 = .ok (.aload_n 0, 1) := by decide +kernel
theorem dX1_atom_64 : decode cX1_atom 64 = .ok (.invokevirtual 112, 3) := by decide +kernel
theorem dX1_atom_67 : decode cX1_atom 67 = .ok (.iconst 0, 1) := by decide +kernel
theorem dX1_atom_68 : decode cX1_atom 68 = .ok (.ireturn, 1) := by decide +kernel
theorem dX1_atom_69 : decode cX1_atom 69 = .ok (.aload_n 0, 1) := by decide +kernel
theorem dX1_atom_70 : decode cX1_atom 70 = .ok (.invokevirtual 115, 3) := by decide +kernel
theorem dX1_atom_73 : decode cX1_atom 73 = .ok (.iload_n 3, 1) := by decide +kernel
theorem dX1_atom_74 : decode cX1_atom 74 = .ok (.ireturn, 1) := by decide +kernel
theorem dX1_letterValue_0 : decode cX1_letterValue 0 = .ok (.iload_n 1, 1) := by decide +kernel
theorem dX1_letterValue_1 : decode cX1_letterValue 1 = .ok (.lookupswitch 80 #[(102, 61), (108, 66), (110, 51), (118, 56), (119, 75)], 51) := by decide +kernel
theorem dX1_letterValue_52 : decode cX1_letterValue 52 = .ok (.aload_n 0, 1) := by decide +kernel
theorem dX1_letterValue_53 : decode cX1_letterValue 53 = .ok (.getfield 42, 3) := by decide +kernel
theorem dX1_letterValue_56 : decode cX1_letterValue 56 = .ok (.ireturn, 1) := by decide +kernel
theorem dX1_letterValue_57 : decode cX1_letterValue 57 = .ok (.aload_n 0, 1) := by decide +kernel
theorem dX1_letterValue_58 : decode cX1_letterValue 58 = .ok (.getfield 47, 3) := by decide +kernel
theorem dX1_letterValue_61 : decode cX1_letterValue 61 = .ok (.ireturn, 1) := by decide +kernel
theorem dX1_letterValue_62 : decode cX1_letterValue 62 = .ok (.aload_n 0, 1) := by decide +kernel
theorem dX1_letterValue_63 : decode cX1_letterValue 63 = .ok (.getfield 52, 3) := by decide +kernel
theorem dX1_letterValue_66 : decode cX1_letterValue 66 = .ok (.ireturn, 1) := by decide +kernel
theorem dX1_letterValue_67 : decode cX1_letterValue 67 = .ok (.aload_n 0, 1) := by decide +kernel
theorem dX1_letterValue_68 : decode cX1_letterValue 68 = .ok (.getfield 32, 3) := by decide +kernel
theorem dX1_letterValue_71 : decode cX1_letterValue 71 = .ok (.iconst 0, 1) := by decide +kernel
theorem dX1_letterValue_72 : decode cX1_letterValue 72 = .ok (.invokestatic 143, 3) := by decide +kernel
theorem dX1_letterValue_75 : decode cX1_letterValue 75 = .ok (.ireturn, 1) := by decide +kernel
theorem dX1_letterValue_76 : decode cX1_letterValue 76 = .ok (.aload_n 0, 1) := by decide +kernel
theorem dX1_letterValue_77 : decode cX1_letterValue 77 = .ok (.getfield 54, 3) := by decide +kernel
theorem dX1_letterValue_80 : decode cX1_letterValue 80 = .ok (.ireturn, 1) := by decide +kernel
theorem dX1_letterValue_81 : decode cX1_letterValue 81 = .ok (.iconst (-1), 1) := by decide +kernel
theorem dX1_letterValue_82 : decode cX1_letterValue 82 = .ok (.ireturn, 1) := by decide +kernel
theorem dX2_init_0 : decode cX2_init 0 = .ok (.aload_n 0, 1) := by decide +kernel
theorem dX2_init_1 : decode cX2_init 1 = .ok (.invokespecial 7, 3) := by decide +kernel
theorem dX2_init_4 : decode cX2_init 4 = .ok (.aload_n 0, 1) := by decide +kernel
theorem dX2_init_5 : decode cX2_init 5 = .ok (.aload_n 1, 1) := by decide +kernel
theorem dX2_init_6 : decode cX2_init 6 = .ok (.putfield 13, 3) := by decide +kernel
theorem dX2_init_9 : decode cX2_init 9 = .ok (.aload_n 0, 1) := by decide +kernel
theorem dX2_init_10 : decode cX2_init 10 = .ok (.aload_n 2, 1) := by decide +kernel
theorem dX2_init_11 : decode cX2_init 11 = .ok (.putfield 17, 3) := by decide +kernel
theorem dX2_init_14 : decode cX2_init 14 = .ok (.aload_n 0, 1) := by decide +kernel
theorem dX2_init_15 : decode cX2_init 15 = .ok (.bipush 8, 2) := by decide +kernel
theorem dX2_init_17 : decode cX2_init 17 = .ok (.newarray .int, 2) := by decide +kernel
theorem dX2_init_19 : decode cX2_init 19 = .ok (.putfield 21, 3) := by decide +kernel
theorem dX2_init_22 : decode cX2_init 22 = .ok (.aload_n 0, 1) := by decide +kernel
theorem dX2_init_23 : decode cX2_init 23 = .ok (.bipush 8, 2) := by decide +kernel
theorem dX2_init_25 : decode cX2_init 25 = .ok (.newarray .int, 2) := by decide +kernel
theorem dX2_init_27 : decode cX2_init 27 = .ok (.putfield 25, 3) := by decide +kernel
theorem dX2_init_30 : decode cX2_init 30 = .ok (.aload_n 0, 1) := by decide +kernel
theorem dX2_init_31 : decode cX2_init 31 = .ok (.bipush 8, 2) := by decide +kernel
theorem dX2_init_33 : decode cX2_init 33 = .ok (.newarray .int, 2) := by decide +kernel
theorem dX2_init_35 : decode cX2_init 35 = .ok (.putfield 28, 3) := by decide +kernel
theorem dX2_init_38 : decode cX2_init 38 = .ok (.aload_n 0, 1) := by decide +kernel
theorem dX2_init_39 : decode cX2_init 39 = .ok (.bipush 8, 2) := by decide +kernel
theorem dX2_init_41 : decode cX2_init 41 = .ok (.newarray .int, 2) := by decide +kernel
theorem dX2_init_43 : decode cX2_init 43 = .ok (.putfield 31, 3) := by decide +kernel
theorem dX2_init_46 : decode cX2_init 46 = .ok (.aload_n 0, 1) := by decide +kernel
theorem dX2_init_47 : decode cX2_init 47 = .ok (.bipush 20, 2) := by decide +kernel
theorem dX2_init_49 : decode cX2_init 49 = .ok (.newarray .int, 2) := by decide +kernel
theorem dX2_init_51 : decode cX2_init 51 = .ok (.putfield 34, 3) := by decide +kernel
theorem dX2_init_54 : decode cX2_init 54 = .ok (.aload_n 0, 1) := by decide +kernel
theorem dX2_init_55 : decode cX2_init 55 = .ok (.bipush 8, 2) := by decide +kernel
theorem dX2_init_57 : decode cX2_init 57 = .ok (.newarray .int, 2) := by decide +kernel
theorem dX2_init_59 : decode cX2_init 59 = .ok (.putfield 37, 3) := by decide +kernel
theorem dX2_init_62 : decode cX2_init 62 = .ok (.aload_n 0, 1) := by decide +kernel
theorem dX2_init_63 : decode cX2_init 63 = .ok (.bipush 8, 2) := by decide +kernel
theorem dX2_init_65 : decode cX2_init 65 = .ok (.newarray .int, 2) := by decide +kernel
theorem dX2_init_67 : decode cX2_init 67 = .ok (.putfield 40, 3) := by decide +kernel
theorem dX2_init_70 : decode cX2_init 70 = .ok (.aload_n 0, 1) := by decide +kernel
theorem dX2_init_71 : decode cX2_init 71 = .ok (.bipush 8, 2) := by decide +kernel
theorem dX2_init_73 : decode cX2_init 73 = .ok (.newarray .int, 2) := by decide +kernel
theorem dX2_init_75 : decode cX2_init 75 = .ok (.putfield 43, 3) := by decide +kernel
theorem dX2_init_78 : decode cX2_init 78 = .ok (.aload_n 0, 1) := by decide +kernel
theorem dX2_init_79 : decode cX2_init 79 = .ok (.bipush 8, 2) := by decide +kernel
theorem dX2_init_81 : decode cX2_init 81 = .ok (.newarray .long, 2) := by decide +kernel
theorem dX2_init_83 : decode cX2_init 83 = .ok (.putfield 46, 3) := by decide +kernel
theorem dX2_init_86 : decode cX2_init 86 = .ok (.aload_n 0, 1) := by decide +kernel
theorem dX2_init_87 : decode cX2_init 87 = .ok (.sipush 420, 3) := by decide +kernel
theorem dX2_init_90 : decode cX2_init 90 = .ok (.newarray .long, 2) := by decide +kernel
theorem dX2_init_92 : decode cX2_init 92 = .ok (.putfield 50, 3) := by decide +kernel
theorem dX2_init_95 : decode cX2_init 95 = .ok (.aload_n 0, 1) := by decide +kernel
theorem dX2_init_96 : decode cX2_init 96 = .ok (.iconst 0, 1) := by decide +kernel
theorem dX2_init_97 : decode cX2_init 97 = .ok (.putfield 53, 3) := by decide +kernel
theorem dX2_init_100 : decode cX2_init 100 = .ok (.aload_n 0, 1) := by decide +kernel
theorem dX2_init_101 : decode cX2_init 101 = .ok (.iconst 0, 1) := by decide +kernel
theorem dX2_init_102 : decode cX2_init 102 = .ok (.putfield 57, 3) := by decide +kernel
theorem dX2_init_105 : decode cX2_init 105 = .ok (.aload_n 0, 1) := by decide +kernel
theorem dX2_init_106 : decode cX2_init 106 = .ok (.iconst 0, 1) := by decide +kernel
theorem dX2_init_107 : decode cX2_init 107 = .ok (.putfield 60, 3) := by decide +kernel
theorem dX2_init_110 : decode cX2_init 110 = .ok (.aload_n 0, 1) := by decide +kernel
theorem dX2_init_111 : decode cX2_init 111 = .ok (.iconst 0, 1) := by decide +kernel
theorem dX2_init_112 : decode cX2_init 112 = .ok (.putfield 63, 3) := by decide +kernel
theorem dX2_init_115 : decode cX2_init 115 = .ok (.aload_n 0, 1) := by decide +kernel
theorem dX2_init_116 : decode cX2_init 116 = .ok (.iconst 0, 1) := by decide +kernel
theorem dX2_init_117 : decode cX2_init 117 = .ok (.putfield 66, 3) := by decide +kernel
theorem dX2_init_120 : decode cX2_init 120 = .ok (.aload_n 0, 1) := by decide +kernel
theorem dX2_init_121 : decode cX2_init 121 = .ok (.iconst 0, 1) := by decide +kernel
theorem dX2_init_122 : decode cX2_init 122 = .ok (.newarray .long, 2) := by decide +kernel
theorem dX2_init_124 : decode cX2_init 124 = .ok (.putfield 70, 3) := by decide +kernel
theorem dX2_init_127 : decode cX2_init 127 = .ok (.aload_n 0, 1) := by decide +kernel
theorem dX2_init_128 : decode cX2_init 128 = .ok (.iconst 0, 1) := by decide +kernel
theorem dX2_init_129 : decode cX2_init 129 = .ok (.newarray .long, 2) := by decide +kernel
theorem dX2_init_131 : decode cX2_init 131 = .ok (.putfield 73, 3) := by decide +kernel
theorem dX2_init_134 : decode cX2_init 134 = .ok (.return_, 1) := by decide +kernel
theorem dX2_areTold_0 : decode cX2_areTold 0 = .ok (.aload_n 0, 1) := by decide +kernel
theorem dX2_areTold_1 : decode cX2_areTold 1 = .ok (.getfield 13, 3) := by decide +kernel
theorem dX2_areTold_4 : decode cX2_areTold 4 = .ok (.iload_n 1, 1) := by decide +kernel
theorem dX2_areTold_5 : decode cX2_areTold 5 = .ok (.invokevirtual 76, 3) := by decide +kernel
theorem dX2_areTold_8 : decode cX2_areTold 8 = .ok (.ifCond .ne 5, 3) := by decide +kernel
theorem dX2_areTold_11 : decode cX2_areTold 11 = .ok (.iconst 0, 1) := by decide +kernel
theorem dX2_areTold_12 : decode cX2_areTold 12 = .ok (.ireturn, 1) := by decide +kernel
theorem dX2_areTold_13 : decode cX2_areTold 13 = .ok (.aload_n 0, 1) := by decide +kernel
theorem dX2_areTold_14 : decode cX2_areTold 14 = .ok (.getfield 60, 3) := by decide +kernel
theorem dX2_areTold_17 : decode cX2_areTold 17 = .ok (.iload_n 1, 1) := by decide +kernel
theorem dX2_areTold_18 : decode cX2_areTold 18 = .ok (.if_icmp .ne 19, 3) := by decide +kernel
theorem dX2_areTold_21 : decode cX2_areTold 21 = .ok (.aload_n 0, 1) := by decide +kernel
theorem dX2_areTold_22 : decode cX2_areTold 22 = .ok (.getfield 63, 3) := by decide +kernel
theorem dX2_areTold_25 : decode cX2_areTold 25 = .ok (.aload_n 0, 1) := by decide +kernel
theorem dX2_areTold_26 : decode cX2_areTold 26 = .ok (.getfield 13, 3) := by decide +kernel
theorem dX2_areTold_29 : decode cX2_areTold 29 = .ok (.invokevirtual 80, 3) := by decide +kernel
theorem dX2_areTold_32 : decode cX2_areTold 32 = .ok (.if_icmp .ne 5, 3) := by decide +kernel
theorem dX2_areTold_35 : decode cX2_areTold 35 = .ok (.iconst 1, 1) := by decide +kernel
theorem dX2_areTold_36 : decode cX2_areTold 36 = .ok (.ireturn, 1) := by decide +kernel
theorem dX2_areTold_37 : decode cX2_areTold 37 = .ok (.aload_n 0, 1) := by decide +kernel
theorem dX2_areTold_38 : decode cX2_areTold 38 = .ok (.iconst 0, 1) := by decide +kernel
theorem dX2_areTold_39 : decode cX2_areTold 39 = .ok (.putfield 60, 3) := by decide +kernel
theorem dX2_areTold_42 : decode cX2_areTold 42 = .ok (.aload_n 0, 1) := by decide +kernel
theorem dX2_areTold_43 : decode cX2_areTold 43 = .ok (.iload_n 1, 1) := by decide +kernel
theorem dX2_areTold_44 : decode cX2_areTold 44 = .ok (.invokevirtual 84, 3) := by decide +kernel
theorem dX2_areTold_47 : decode cX2_areTold 47 = .ok (.ifCond .ne 5, 3) := by decide +kernel
theorem dX2_areTold_50 : decode cX2_areTold 50 = .ok (.iconst 0, 1) := by decide +kernel
theorem dX2_areTold_51 : decode cX2_areTold 51 = .ok (.ireturn, 1) := by decide +kernel
theorem dX2_areTold_52 : decode cX2_areTold 52 = .ok (.aload_n 0, 1) := by decide +kernel
theorem dX2_areTold_53 : decode cX2_areTold 53 = .ok (.invokevirtual 87, 3) := by decide +kernel
theorem dX2_areTold_56 : decode cX2_areTold 56 = .ok (.aload_n 0, 1) := by decide +kernel
theorem dX2_areTold_57 : decode cX2_areTold 57 = .ok (.invokevirtual 90, 3) := by decide +kernel
theorem dX2_areTold_60 : decode cX2_areTold 60 = .ok (.aload_n 0, 1) := by decide +kernel
theorem dX2_areTold_61 : decode cX2_areTold 61 = .ok (.invokevirtual 93, 3) := by decide +kernel
theorem dX2_areTold_64 : decode cX2_areTold 64 = .ok (.aload_n 0, 1) := by decide +kernel
theorem dX2_areTold_65 : decode cX2_areTold 65 = .ok (.iload_n 1, 1) := by decide +kernel
theorem dX2_areTold_66 : decode cX2_areTold 66 = .ok (.putfield 60, 3) := by decide +kernel
theorem dX2_areTold_69 : decode cX2_areTold 69 = .ok (.aload_n 0, 1) := by decide +kernel
theorem dX2_areTold_70 : decode cX2_areTold 70 = .ok (.aload_n 0, 1) := by decide +kernel
theorem dX2_areTold_71 : decode cX2_areTold 71 = .ok (.getfield 13, 3) := by decide +kernel
theorem dX2_areTold_74 : decode cX2_areTold 74 = .ok (.invokevirtual 80, 3) := by decide +kernel
theorem dX2_areTold_77 : decode cX2_areTold 77 = .ok (.putfield 63, 3) := by decide +kernel
theorem dX2_areTold_80 : decode cX2_areTold 80 = .ok (.aload_n 0, 1) := by decide +kernel
theorem dX2_areTold_81 : decode cX2_areTold 81 = .ok (.iconst 0, 1) := by decide +kernel
theorem dX2_areTold_82 : decode cX2_areTold 82 = .ok (.putfield 66, 3) := by decide +kernel
theorem dX2_areTold_85 : decode cX2_areTold 85 = .ok (.iconst 1, 1) := by decide +kernel
theorem dX2_areTold_86 : decode cX2_areTold 86 = .ok (.ireturn, 1) := by decide +kernel
theorem dX2_layOut_0 : decode cX2_layOut 0 = .ok (.aload_n 0, 1) := by decide +kernel
theorem dX2_layOut_1 : decode cX2_layOut 1 = .ok (.iconst 0, 1) := by decide +kernel
theorem dX2_layOut_2 : decode cX2_layOut 2 = .ok (.putfield 53, 3) := by decide +kernel
theorem dX2_layOut_5 : decode cX2_layOut 5 = .ok (.aload_n 0, 1) := by decide +kernel
theorem dX2_layOut_6 : decode cX2_layOut 6 = .ok (.iconst 1, 1) := by decide +kernel
theorem dX2_layOut_7 : decode cX2_layOut 7 = .ok (.putfield 57, 3) := by decide +kernel
theorem dX2_layOut_10 : decode cX2_layOut 10 = .ok (.iconst 0, 1) := by decide +kernel
theorem dX2_layOut_11 : decode cX2_layOut 11 = .ok (.istore_n 2, 1) := by decide +kernel
theorem dX2_layOut_12 : decode cX2_layOut 12 = .ok (.iconst 0, 1) := by decide +kernel
theorem dX2_layOut_13 : decode cX2_layOut 13 = .ok (.istore_n 3, 1) := by decide +kernel
theorem dX2_layOut_14 : decode cX2_layOut 14 = .ok (.iload_n 3, 1) := by decide +kernel
theorem dX2_layOut_15 : decode cX2_layOut 15 = .ok (.bipush 8, 2) := by decide +kernel
theorem dX2_layOut_17 : decode cX2_layOut 17 = .ok (.if_icmp .ge 118, 3) := by decide +kernel
theorem dX2_layOut_20 : decode cX2_layOut 20 = .ok (.iload_n 3, 1) := by decide +kernel
theorem dX2_layOut_21 : decode cX2_layOut 21 = .ok (.iload_n 1, 1) := by decide +kernel
theorem dX2_layOut_22 : decode cX2_layOut 22 = .ok (.invokestatic 96, 3) := by decide +kernel
theorem dX2_layOut_25 : decode cX2_layOut 25 = .ok (.ifCond .eq 104, 3) := by decide +kernel
theorem dX2_layOut_28 : decode cX2_layOut 28 = .ok (.aload_n 0, 1) := by decide +kernel
theorem dX2_layOut_29 : decode cX2_layOut 29 = .ok (.getfield 53, 3) := by decide +kernel
theorem dX2_layOut_32 : decode cX2_layOut 32 = .ok (.bipush 8, 2) := by decide +kernel
theorem dX2_layOut_34 : decode cX2_layOut 34 = .ok (.if_icmp .ge 95, 3) := by decide +kernel
theorem dX2_layOut_37 : decode cX2_layOut 37 = .ok (.aload_n 0, 1) := by decide +kernel
theorem dX2_layOut_38 : decode cX2_layOut 38 = .ok (.getfield 21, 3) := by decide +kernel
theorem dX2_layOut_41 : decode cX2_layOut 41 = .ok (.aload_n 0, 1) := by decide +kernel
theorem dX2_layOut_42 : decode cX2_layOut 42 = .ok (.getfield 53, 3) := by decide +kernel
theorem dX2_layOut_45 : decode cX2_layOut 45 = .ok (.iload_n 3, 1) := by decide +kernel
theorem dX2_layOut_46 : decode cX2_layOut 46 = .ok (.iastore, 1) := by decide +kernel
theorem dX2_layOut_47 : decode cX2_layOut 47 = .ok (.aload_n 0, 1) := by decide +kernel
theorem dX2_layOut_48 : decode cX2_layOut 48 = .ok (.getfield 25, 3) := by decide +kernel
theorem dX2_layOut_51 : decode cX2_layOut 51 = .ok (.aload_n 0, 1) := by decide +kernel
theorem dX2_layOut_52 : decode cX2_layOut 52 = .ok (.getfield 53, 3) := by decide +kernel
theorem dX2_layOut_55 : decode cX2_layOut 55 = .ok (.aload_n 0, 1) := by decide +kernel
theorem dX2_layOut_56 : decode cX2_layOut 56 = .ok (.getfield 13, 3) := by decide +kernel
theorem dX2_layOut_59 : decode cX2_layOut 59 = .ok (.iload_n 3, 1) := by decide +kernel
theorem dX2_layOut_60 : decode cX2_layOut 60 = .ok (.invokevirtual 100, 3) := by decide +kernel
theorem dX2_layOut_63 : decode cX2_layOut 63 = .ok (.iastore, 1) := by decide +kernel
theorem dX2_layOut_64 : decode cX2_layOut 64 = .ok (.aload_n 0, 1) := by decide +kernel
theorem dX2_layOut_65 : decode cX2_layOut 65 = .ok (.getfield 28, 3) := by decide +kernel
theorem dX2_layOut_68 : decode cX2_layOut 68 = .ok (.aload_n 0, 1) := by decide +kernel
theorem dX2_layOut_69 : decode cX2_layOut 69 = .ok (.getfield 53, 3) := by decide +kernel
theorem dX2_layOut_72 : decode cX2_layOut 72 = .ok (.aload_n 0, 1) := by decide +kernel
theorem dX2_layOut_73 : decode cX2_layOut 73 = .ok (.getfield 57, 3) := by decide +kernel
theorem dX2_layOut_76 : decode cX2_layOut 76 = .ok (.iastore, 1) := by decide +kernel
theorem dX2_layOut_77 : decode cX2_layOut 77 = .ok (.aload_n 0, 1) := by decide +kernel
theorem dX2_layOut_78 : decode cX2_layOut 78 = .ok (.getfield 31, 3) := by decide +kernel
theorem dX2_layOut_81 : decode cX2_layOut 81 = .ok (.aload_n 0, 1) := by decide +kernel
theorem dX2_layOut_82 : decode cX2_layOut 82 = .ok (.getfield 53, 3) := by decide +kernel
theorem dX2_layOut_85 : decode cX2_layOut 85 = .ok (.iload_n 2, 1) := by decide +kernel
theorem dX2_layOut_86 : decode cX2_layOut 86 = .ok (.iastore, 1) := by decide +kernel
theorem dX2_layOut_87 : decode cX2_layOut 87 = .ok (.iload_n 2, 1) := by decide +kernel
theorem dX2_layOut_88 : decode cX2_layOut 88 = .ok (.aload_n 0, 1) := by decide +kernel
theorem dX2_layOut_89 : decode cX2_layOut 89 = .ok (.getfield 25, 3) := by decide +kernel
theorem dX2_layOut_92 : decode cX2_layOut 92 = .ok (.aload_n 0, 1) := by decide +kernel
theorem dX2_layOut_93 : decode cX2_layOut 93 = .ok (.getfield 53, 3) := by decide +kernel
theorem dX2_layOut_96 : decode cX2_layOut 96 = .ok (.iaload, 1) := by decide +kernel
theorem dX2_layOut_97 : decode cX2_layOut 97 = .ok (.iadd, 1) := by decide +kernel
theorem dX2_layOut_98 : decode cX2_layOut 98 = .ok (.istore_n 2, 1) := by decide +kernel
theorem dX2_layOut_99 : decode cX2_layOut 99 = .ok (.aload_n 0, 1) := by decide +kernel
theorem dX2_layOut_100 : decode cX2_layOut 100 = .ok (.dup, 1) := by decide +kernel
theorem dX2_layOut_101 : decode cX2_layOut 101 = .ok (.getfield 57, 3) := by decide +kernel
theorem dX2_layOut_104 : decode cX2_layOut 104 = .ok (.aload_n 0, 1) := by decide +kernel
theorem dX2_layOut_105 : decode cX2_layOut 105 = .ok (.getfield 25, 3) := by decide +kernel
theorem dX2_layOut_108 : decode cX2_layOut 108 = .ok (.aload_n 0, 1) := by decide +kernel
theorem dX2_layOut_109 : decode cX2_layOut 109 = .ok (.getfield 53, 3) := by decide +kernel
theorem dX2_layOut_112 : decode cX2_layOut 112 = .ok (.iaload, 1) := by decide +kernel
theorem dX2_layOut_113 : decode cX2_layOut 113 = .ok (.iconst 1, 1) := by decide +kernel
theorem dX2_layOut_114 : decode cX2_layOut 114 = .ok (.iadd, 1) := by decide +kernel
theorem dX2_layOut_115 : decode cX2_layOut 115 = .ok (.imul, 1) := by decide +kernel
theorem dX2_layOut_116 : decode cX2_layOut 116 = .ok (.putfield 57, 3) := by decide +kernel
theorem dX2_layOut_119 : decode cX2_layOut 119 = .ok (.aload_n 0, 1) := by decide +kernel
theorem dX2_layOut_120 : decode cX2_layOut 120 = .ok (.dup, 1) := by decide +kernel
theorem dX2_layOut_121 : decode cX2_layOut 121 = .ok (.getfield 53, 3) := by decide +kernel
theorem dX2_layOut_124 : decode cX2_layOut 124 = .ok (.iconst 1, 1) := by decide +kernel
theorem dX2_layOut_125 : decode cX2_layOut 125 = .ok (.iadd, 1) := by decide +kernel
theorem dX2_layOut_126 : decode cX2_layOut 126 = .ok (.putfield 53, 3) := by decide +kernel
theorem dX2_layOut_129 : decode cX2_layOut 129 = .ok (.iinc 3 1, 3) := by decide +kernel
theorem dX2_layOut_132 : decode cX2_layOut 132 = .ok (.goto (-118), 3) := by decide +kernel
theorem dX2_layOut_135 : decode cX2_layOut 135 = .ok (.iload_n 2, 1) := by decide +kernel
theorem dX2_layOut_136 : decode cX2_layOut 136 = .ok (.bipush 20, 2) := by decide +kernel
theorem dX2_layOut_138 : decode cX2_layOut 138 = .ok (.if_icmp .gt 17, 3) := by decide +kernel
theorem dX2_layOut_141 : decode cX2_layOut 141 = .ok (.aload_n 0, 1) := by decide +kernel
theorem dX2_layOut_142 : decode cX2_layOut 142 = .ok (.getfield 57, 3) := by decide +kernel
theorem dX2_layOut_145 : decode cX2_layOut 145 = .ok (.sipush 20000, 3) := by decide +kernel
theorem dX2_layOut_148 : decode cX2_layOut 148 = .ok (.if_icmp .gt 7, 3) := by decide +kernel
theorem dX2_layOut_151 : decode cX2_layOut 151 = .ok (.iconst 1, 1) := by decide +kernel
theorem dX2_layOut_152 : decode cX2_layOut 152 = .ok (.goto 4, 3) := by decide +kernel
theorem dX2_layOut_155 : decode cX2_layOut 155 = .ok (.iconst 0, 1) := by decide +kernel
theorem dX2_layOut_156 : decode cX2_layOut 156 = .ok (.ireturn, 1) := by decide +kernel
theorem dX2_speeches_0 : decode cX2_speeches 0 = .ok (.aload_n 0, 1) := by decide +kernel
theorem dX2_speeches_1 : decode cX2_speeches 1 = .ok (.getfield 53, 3) := by decide +kernel
theorem dX2_speeches_4 : decode cX2_speeches 4 = .ok (.ifCond .le 38, 3) := by decide +kernel
theorem dX2_speeches_7 : decode cX2_speeches 7 = .ok (.aload_n 0, 1) := by decide +kernel
theorem dX2_speeches_8 : decode cX2_speeches 8 = .ok (.getfield 53, 3) := by decide +kernel
theorem dX2_speeches_11 : decode cX2_speeches 11 = .ok (.bipush 8, 2) := by decide +kernel
theorem dX2_speeches_13 : decode cX2_speeches 13 = .ok (.if_icmp .gt 29, 3) := by decide +kernel
theorem dX2_speeches_16 : decode cX2_speeches 16 = .ok (.aload_n 0, 1) := by decide +kernel
theorem dX2_speeches_17 : decode cX2_speeches 17 = .ok (.getfield 31, 3) := by decide +kernel
theorem dX2_speeches_20 : decode cX2_speeches 20 = .ok (.aload_n 0, 1) := by decide +kernel
theorem dX2_speeches_21 : decode cX2_speeches 21 = .ok (.getfield 53, 3) := by decide +kernel
theorem dX2_speeches_24 : decode cX2_speeches 24 = .ok (.iconst 1, 1) := by decide +kernel
theorem dX2_speeches_25 : decode cX2_speeches 25 = .ok (.isub, 1) := by decide +kernel
theorem dX2_speeches_26 : decode cX2_speeches 26 = .ok (.iaload, 1) := by decide +kernel
theorem dX2_speeches_27 : decode cX2_speeches 27 = .ok (.aload_n 0, 1) := by decide +kernel
theorem dX2_speeches_28 : decode cX2_speeches 28 = .ok (.getfield 25, 3) := by decide +kernel
theorem dX2_speeches_31 : decode cX2_speeches 31 = .ok (.aload_n 0, 1) := by decide +kernel
theorem dX2_speeches_32 : decode cX2_speeches 32 = .ok (.getfield 53, 3) := by decide +kernel
theorem dX2_speeches_35 : decode cX2_speeches 35 = .ok (.iconst 1, 1) := by decide +kernel
theorem dX2_speeches_36 : decode cX2_speeches 36 = .ok (.isub, 1) := by decide +kernel
theorem dX2_speeches_37 : decode cX2_speeches 37 = .ok (.iaload, 1) := by decide +kernel
theorem dX2_speeches_38 : decode cX2_speeches 38 = .ok (.iadd, 1) := by decide +kernel
theorem dX2_speeches_39 : decode cX2_speeches 39 = .ok (.goto 4, 3) := by decide +kernel
theorem dX2_speeches_42 : decode cX2_speeches 42 = .ok (.iconst 0, 1) := by decide +kernel
theorem dX2_speeches_43 : decode cX2_speeches 43 = .ok (.ireturn, 1) := by decide +kernel
theorem dX2_seeWhatFollows_0 : decode cX2_seeWhatFollows 0 = .ok (.iconst 0, 1) := by decide +kernel
theorem dX2_seeWhatFollows_1 : decode cX2_seeWhatFollows 1 = .ok (.istore_n 1, 1) := by decide +kernel
theorem dX2_seeWhatFollows_2 : decode cX2_seeWhatFollows 2 = .ok (.iload_n 1, 1) := by decide +kernel
theorem dX2_seeWhatFollows_3 : decode cX2_seeWhatFollows 3 = .ok (.aload_n 0, 1) := by decide +kernel
theorem dX2_seeWhatFollows_4 : decode cX2_seeWhatFollows 4 = .ok (.getfield 53, 3) := by decide +kernel
theorem dX2_seeWhatFollows_7 : decode cX2_seeWhatFollows 7 = .ok (.if_icmp .ge 87, 3) := by decide +kernel
theorem dX2_seeWhatFollows_10 : decode cX2_seeWhatFollows 10 = .ok (.iconst 0, 1) := by decide +kernel
theorem dX2_seeWhatFollows_11 : decode cX2_seeWhatFollows 11 = .ok (.istore_n 2, 1) := by decide +kernel
theorem dX2_seeWhatFollows_12 : decode cX2_seeWhatFollows 12 = .ok (.iload_n 2, 1) := by decide +kernel
theorem dX2_seeWhatFollows_13 : decode cX2_seeWhatFollows 13 = .ok (.aload_n 0, 1) := by decide +kernel
theorem dX2_seeWhatFollows_14 : decode cX2_seeWhatFollows 14 = .ok (.getfield 25, 3) := by decide +kernel
theorem dX2_seeWhatFollows_17 : decode cX2_seeWhatFollows 17 = .ok (.iload_n 1, 1) := by decide +kernel
theorem dX2_seeWhatFollows_18 : decode cX2_seeWhatFollows 18 = .ok (.iaload, 1) := by decide +kernel
theorem dX2_seeWhatFollows_19 : decode cX2_seeWhatFollows 19 = .ok (.if_icmp .ge 69, 3) := by decide +kernel
theorem dX2_seeWhatFollows_22 : decode cX2_seeWhatFollows 22 = .ok (.aload_n 0, 1) := by decide +kernel
theorem dX2_seeWhatFollows_23 : decode cX2_seeWhatFollows 23 = .ok (.getfield 31, 3) := by decide +kernel
theorem dX2_seeWhatFollows_26 : decode cX2_seeWhatFollows 26 = .ok (.iload_n 1, 1) := by decide +kernel
theorem dX2_seeWhatFollows_27 : decode cX2_seeWhatFollows 27 = .ok (.iaload, 1) := by decide +kernel
theorem dX2_seeWhatFollows_28 : decode cX2_seeWhatFollows 28 = .ok (.iload_n 2, 1) := by decide +kernel
theorem dX2_seeWhatFollows_29 : decode cX2_seeWhatFollows 29 = .ok (.iadd, 1) := by decide +kernel
theorem dX2_seeWhatFollows_30 : decode cX2_seeWhatFollows 30 = .ok (.istore_n 3, 1) := by decide +kernel
theorem dX2_seeWhatFollows_31 : decode cX2_seeWhatFollows 31 = .ok (.bipush 16, 2) := by decide +kernel
theorem dX2_seeWhatFollows_33 : decode cX2_seeWhatFollows 33 = .ok (.aload_n 0, 1) := by decide +kernel
theorem dX2_seeWhatFollows_34 : decode cX2_seeWhatFollows 34 = .ok (.getfield 21, 3) := by decide +kernel
theorem dX2_seeWhatFollows_37 : decode cX2_seeWhatFollows 37 = .ok (.iload_n 1, 1) := by decide +kernel
theorem dX2_seeWhatFollows_38 : decode cX2_seeWhatFollows 38 = .ok (.iaload, 1) := by decide +kernel
theorem dX2_seeWhatFollows_39 : decode cX2_seeWhatFollows 39 = .ok (.imul, 1) := by decide +kernel
theorem dX2_seeWhatFollows_40 : decode cX2_seeWhatFollows 40 = .ok (.iload_n 2, 1) := by decide +kernel
theorem dX2_seeWhatFollows_41 : decode cX2_seeWhatFollows 41 = .ok (.iadd, 1) := by decide +kernel
theorem dX2_seeWhatFollows_42 : decode cX2_seeWhatFollows 42 = .ok (.istore 4, 2) := by decide +kernel
theorem dX2_seeWhatFollows_44 : decode cX2_seeWhatFollows 44 = .ok (.iload_n 3, 1) := by decide +kernel
theorem dX2_seeWhatFollows_45 : decode cX2_seeWhatFollows 45 = .ok (.aload_n 0, 1) := by decide +kernel
theorem dX2_seeWhatFollows_46 : decode cX2_seeWhatFollows 46 = .ok (.getfield 34, 3) := by decide +kernel
theorem dX2_seeWhatFollows_49 : decode cX2_seeWhatFollows 49 = .ok (.arraylength, 1) := by decide +kernel
theorem dX2_seeWhatFollows_50 : decode cX2_seeWhatFollows 50 = .ok (.if_icmp .ge 32, 3) := by decide +kernel
theorem dX2_seeWhatFollows_53 : decode cX2_seeWhatFollows 53 = .ok (.aload_n 0, 1) := by decide +kernel
theorem dX2_seeWhatFollows_54 : decode cX2_seeWhatFollows 54 = .ok (.getfield 34, 3) := by decide +kernel
theorem dX2_seeWhatFollows_57 : decode cX2_seeWhatFollows 57 = .ok (.iload_n 3, 1) := by decide +kernel
theorem dX2_seeWhatFollows_58 : decode cX2_seeWhatFollows 58 = .ok (.aload_n 0, 1) := by decide +kernel
theorem dX2_seeWhatFollows_59 : decode cX2_seeWhatFollows 59 = .ok (.getfield 13, 3) := by decide +kernel
theorem dX2_seeWhatFollows_62 : decode cX2_seeWhatFollows 62 = .ok (.iload 4, 2) := by decide +kernel
theorem dX2_seeWhatFollows_64 : decode cX2_seeWhatFollows 64 = .ok (.invokevirtual 104, 3) := by decide +kernel
theorem dX2_seeWhatFollows_67 : decode cX2_seeWhatFollows 67 = .ok (.ifCond .eq 12, 3) := by decide +kernel
theorem dX2_seeWhatFollows_70 : decode cX2_seeWhatFollows 70 = .ok (.aload_n 0, 1) := by decide +kernel
theorem dX2_seeWhatFollows_71 : decode cX2_seeWhatFollows 71 = .ok (.iload 4, 2) := by decide +kernel
theorem dX2_seeWhatFollows_73 : decode cX2_seeWhatFollows 73 = .ok (.invokevirtual 107, 3) := by decide +kernel
theorem dX2_seeWhatFollows_76 : decode cX2_seeWhatFollows 76 = .ok (.goto 5, 3) := by decide +kernel
theorem dX2_seeWhatFollows_79 : decode cX2_seeWhatFollows 79 = .ok (.ldc 110, 2) := by decide +kernel
theorem dX2_seeWhatFollows_81 : decode cX2_seeWhatFollows 81 = .ok (.iastore, 1) := by decide +kernel
theorem dX2_seeWhatFollows_82 : decode cX2_seeWhatFollows 82 = .ok (.iinc 2 1, 3) := by decide +kernel
theorem dX2_seeWhatFollows_85 : decode cX2_seeWhatFollows 85 = .ok (.goto (-73), 3) := by decide +kernel
theorem dX2_seeWhatFollows_88 : decode cX2_seeWhatFollows 88 = .ok (.iinc 1 1, 3) := by decide +kernel
theorem dX2_seeWhatFollows_91 : decode cX2_seeWhatFollows 91 = .ok (.goto (-89), 3) := by decide +kernel
theorem dX2_seeWhatFollows_94 : decode cX2_seeWhatFollows 94 = .ok (.return_, 1) := by decide +kernel
theorem dX2_endedBy_0 : decode cX2_endedBy 0 = .ok (.iconst 0, 1) := by decide +kernel
theorem dX2_endedBy_1 : decode cX2_endedBy 1 = .ok (.istore_n 2, 1) := by decide +kernel
theorem dX2_endedBy_2 : decode cX2_endedBy 2 = .ok (.iconst 0, 1) := by decide +kernel
theorem dX2_endedBy_3 : decode cX2_endedBy 3 = .ok (.istore_n 3, 1) := by decide +kernel
theorem dX2_endedBy_4 : decode cX2_endedBy 4 = .ok (.iload_n 3, 1) := by decide +kernel
theorem dX2_endedBy_5 : decode cX2_endedBy 5 = .ok (.aload_n 0, 1) := by decide +kernel
theorem dX2_endedBy_6 : decode cX2_endedBy 6 = .ok (.getfield 53, 3) := by decide +kernel
theorem dX2_endedBy_9 : decode cX2_endedBy 9 = .ok (.if_icmp .ge 83, 3) := by decide +kernel
theorem dX2_endedBy_12 : decode cX2_endedBy 12 = .ok (.iconst 0, 1) := by decide +kernel
theorem dX2_endedBy_13 : decode cX2_endedBy 13 = .ok (.istore 4, 2) := by decide +kernel
theorem dX2_endedBy_15 : decode cX2_endedBy 15 = .ok (.iload 4, 2) := by decide +kernel
theorem dX2_endedBy_17 : decode cX2_endedBy 17 = .ok (.aload_n 0, 1) := by decide +kernel
theorem dX2_endedBy_18 : decode cX2_endedBy 18 = .ok (.getfield 25, 3) := by decide +kernel
theorem dX2_endedBy_21 : decode cX2_endedBy 21 = .ok (.iload_n 3, 1) := by decide +kernel
theorem dX2_endedBy_22 : decode cX2_endedBy 22 = .ok (.iaload, 1) := by decide +kernel
theorem dX2_endedBy_23 : decode cX2_endedBy 23 = .ok (.if_icmp .ge 63, 3) := by decide +kernel
theorem dX2_endedBy_26 : decode cX2_endedBy 26 = .ok (.bipush 16, 2) := by decide +kernel
theorem dX2_endedBy_28 : decode cX2_endedBy 28 = .ok (.aload_n 0, 1) := by decide +kernel
theorem dX2_endedBy_29 : decode cX2_endedBy 29 = .ok (.getfield 21, 3) := by decide +kernel
theorem dX2_endedBy_32 : decode cX2_endedBy 32 = .ok (.iload_n 3, 1) := by decide +kernel
theorem dX2_endedBy_33 : decode cX2_endedBy 33 = .ok (.iaload, 1) := by decide +kernel
theorem dX2_endedBy_34 : decode cX2_endedBy 34 = .ok (.imul, 1) := by decide +kernel
theorem dX2_endedBy_35 : decode cX2_endedBy 35 = .ok (.iload 4, 2) := by decide +kernel
theorem dX2_endedBy_37 : decode cX2_endedBy 37 = .ok (.iadd, 1) := by decide +kernel
theorem dX2_endedBy_38 : decode cX2_endedBy 38 = .ok (.istore 5, 2) := by decide +kernel
theorem dX2_endedBy_40 : decode cX2_endedBy 40 = .ok (.iload_n 1, 1) := by decide +kernel
theorem dX2_endedBy_41 : decode cX2_endedBy 41 = .ok (.invokestatic 111, 3) := by decide +kernel
theorem dX2_endedBy_44 : decode cX2_endedBy 44 = .ok (.aload_n 0, 1) := by decide +kernel
theorem dX2_endedBy_45 : decode cX2_endedBy 45 = .ok (.getfield 21, 3) := by decide +kernel
theorem dX2_endedBy_48 : decode cX2_endedBy 48 = .ok (.iload_n 3, 1) := by decide +kernel
theorem dX2_endedBy_49 : decode cX2_endedBy 49 = .ok (.iaload, 1) := by decide +kernel
theorem dX2_endedBy_50 : decode cX2_endedBy 50 = .ok (.if_icmp .eq 30, 3) := by decide +kernel
theorem dX2_endedBy_53 : decode cX2_endedBy 53 = .ok (.aload_n 0, 1) := by decide +kernel
theorem dX2_endedBy_54 : decode cX2_endedBy 54 = .ok (.getfield 17, 3) := by decide +kernel
theorem dX2_endedBy_57 : decode cX2_endedBy 57 = .ok (.iload_n 1, 1) := by decide +kernel
theorem dX2_endedBy_58 : decode cX2_endedBy 58 = .ok (.iload 5, 2) := by decide +kernel
theorem dX2_endedBy_60 : decode cX2_endedBy 60 = .ok (.invokevirtual 114, 3) := by decide +kernel
theorem dX2_endedBy_63 : decode cX2_endedBy 63 = .ok (.ifCond .eq 17, 3) := by decide +kernel
theorem dX2_endedBy_66 : decode cX2_endedBy 66 = .ok (.iload_n 2, 1) := by decide +kernel
theorem dX2_endedBy_67 : decode cX2_endedBy 67 = .ok (.iconst 1, 1) := by decide +kernel
theorem dX2_endedBy_68 : decode cX2_endedBy 68 = .ok (.aload_n 0, 1) := by decide +kernel
theorem dX2_endedBy_69 : decode cX2_endedBy 69 = .ok (.getfield 31, 3) := by decide +kernel
theorem dX2_endedBy_72 : decode cX2_endedBy 72 = .ok (.iload_n 3, 1) := by decide +kernel
theorem dX2_endedBy_73 : decode cX2_endedBy 73 = .ok (.iaload, 1) := by decide +kernel
theorem dX2_endedBy_74 : decode cX2_endedBy 74 = .ok (.iload 4, 2) := by decide +kernel
theorem dX2_endedBy_76 : decode cX2_endedBy 76 = .ok (.iadd, 1) := by decide +kernel
theorem dX2_endedBy_77 : decode cX2_endedBy 77 = .ok (.ishl, 1) := by decide +kernel
theorem dX2_endedBy_78 : decode cX2_endedBy 78 = .ok (.ior, 1) := by decide +kernel
theorem dX2_endedBy_79 : decode cX2_endedBy 79 = .ok (.istore_n 2, 1) := by decide +kernel
theorem dX2_endedBy_80 : decode cX2_endedBy 80 = .ok (.iinc 4 1, 3) := by decide +kernel
theorem dX2_endedBy_83 : decode cX2_endedBy 83 = .ok (.goto (-68), 3) := by decide +kernel
theorem dX2_endedBy_86 : decode cX2_endedBy 86 = .ok (.iinc 3 1, 3) := by decide +kernel
theorem dX2_endedBy_89 : decode cX2_endedBy 89 = .ok (.goto (-85), 3) := by decide +kernel
theorem dX2_endedBy_92 : decode cX2_endedBy 92 = .ok (.iload_n 2, 1) := by decide +kernel
theorem dX2_endedBy_93 : decode cX2_endedBy 93 = .ok (.ireturn, 1) := by decide +kernel
theorem dX2_startSlot_0 : decode cX2_startSlot 0 = .ok (.aload_n 0, 1) := by decide +kernel
theorem dX2_startSlot_1 : decode cX2_startSlot 1 = .ok (.getfield 57, 3) := by decide +kernel
theorem dX2_startSlot_4 : decode cX2_startSlot 4 = .ok (.aload_n 0, 1) := by decide +kernel
theorem dX2_startSlot_5 : decode cX2_startSlot 5 = .ok (.getfield 53, 3) := by decide +kernel
theorem dX2_startSlot_8 : decode cX2_startSlot 8 = .ok (.imul, 1) := by decide +kernel
theorem dX2_startSlot_9 : decode cX2_startSlot 9 = .ok (.ireturn, 1) := by decide +kernel
theorem dX2_slotBehind_0 : decode cX2_slotBehind 0 = .ok (.iload_n 1, 1) := by decide +kernel
theorem dX2_slotBehind_1 : decode cX2_slotBehind 1 = .ok (.aload_n 0, 1) := by decide +kernel
theorem dX2_slotBehind_2 : decode cX2_slotBehind 2 = .ok (.getfield 28, 3) := by decide +kernel
theorem dX2_slotBehind_5 : decode cX2_slotBehind 5 = .ok (.iload_n 2, 1) := by decide +kernel
theorem dX2_slotBehind_6 : decode cX2_slotBehind 6 = .ok (.iaload, 1) := by decide +kernel
theorem dX2_slotBehind_7 : decode cX2_slotBehind 7 = .ok (.iadd, 1) := by decide +kernel
theorem dX2_slotBehind_8 : decode cX2_slotBehind 8 = .ok (.aload_n 0, 1) := by decide +kernel
theorem dX2_slotBehind_9 : decode cX2_slotBehind 9 = .ok (.getfield 53, 3) := by decide +kernel
theorem dX2_slotBehind_12 : decode cX2_slotBehind 12 = .ok (.imul, 1) := by decide +kernel
theorem dX2_slotBehind_13 : decode cX2_slotBehind 13 = .ok (.iload_n 2, 1) := by decide +kernel
theorem dX2_slotBehind_14 : decode cX2_slotBehind 14 = .ok (.iadd, 1) := by decide +kernel
theorem dX2_slotBehind_15 : decode cX2_slotBehind 15 = .ok (.ireturn, 1) := by decide +kernel
theorem dX2_gapsAt_0 : decode cX2_gapsAt 0 = .ok (.iload_n 1, 1) := by decide +kernel
theorem dX2_gapsAt_1 : decode cX2_gapsAt 1 = .ok (.ifCond .lt 26, 3) := by decide +kernel
theorem dX2_gapsAt_4 : decode cX2_gapsAt 4 = .ok (.iload_n 1, 1) := by decide +kernel
theorem dX2_gapsAt_5 : decode cX2_gapsAt 5 = .ok (.aload_n 0, 1) := by decide +kernel
theorem dX2_gapsAt_6 : decode cX2_gapsAt 6 = .ok (.getfield 70, 3) := by decide +kernel
theorem dX2_gapsAt_9 : decode cX2_gapsAt 9 = .ok (.arraylength, 1) := by decide +kernel
theorem dX2_gapsAt_10 : decode cX2_gapsAt 10 = .ok (.if_icmp .ge 17, 3) := by decide +kernel
theorem dX2_gapsAt_13 : decode cX2_gapsAt 13 = .ok (.aload_n 0, 1) := by decide +kernel
theorem dX2_gapsAt_14 : decode cX2_gapsAt 14 = .ok (.getfield 70, 3) := by decide +kernel
theorem dX2_gapsAt_17 : decode cX2_gapsAt 17 = .ok (.iload_n 1, 1) := by decide +kernel
theorem dX2_gapsAt_18 : decode cX2_gapsAt 18 = .ok (.laload, 1) := by decide +kernel
theorem dX2_gapsAt_19 : decode cX2_gapsAt 19 = .ok (.ldc2_w 119, 3) := by decide +kernel
theorem dX2_gapsAt_22 : decode cX2_gapsAt 22 = .ok (.land, 1) := by decide +kernel
theorem dX2_gapsAt_23 : decode cX2_gapsAt 23 = .ok (.l2i, 1) := by decide +kernel
theorem dX2_gapsAt_24 : decode cX2_gapsAt 24 = .ok (.goto 4, 3) := by decide +kernel
theorem dX2_gapsAt_27 : decode cX2_gapsAt 27 = .ok (.iconst 0, 1) := by decide +kernel
theorem dX2_gapsAt_28 : decode cX2_gapsAt 28 = .ok (.ireturn, 1) := by decide +kernel
theorem dX2_waysAt_0 : decode cX2_waysAt 0 = .ok (.iload_n 1, 1) := by decide +kernel
theorem dX2_waysAt_1 : decode cX2_waysAt 1 = .ok (.ifCond .lt 23, 3) := by decide +kernel
theorem dX2_waysAt_4 : decode cX2_waysAt 4 = .ok (.iload_n 1, 1) := by decide +kernel
theorem dX2_waysAt_5 : decode cX2_waysAt 5 = .ok (.aload_n 0, 1) := by decide +kernel
theorem dX2_waysAt_6 : decode cX2_waysAt 6 = .ok (.getfield 70, 3) := by decide +kernel
theorem dX2_waysAt_9 : decode cX2_waysAt 9 = .ok (.arraylength, 1) := by decide +kernel
theorem dX2_waysAt_10 : decode cX2_waysAt 10 = .ok (.if_icmp .ge 14, 3) := by decide +kernel
theorem dX2_waysAt_13 : decode cX2_waysAt 13 = .ok (.aload_n 0, 1) := by decide +kernel
theorem dX2_waysAt_14 : decode cX2_waysAt 14 = .ok (.getfield 70, 3) := by decide +kernel
theorem dX2_waysAt_17 : decode cX2_waysAt 17 = .ok (.iload_n 1, 1) := by decide +kernel
theorem dX2_waysAt_18 : decode cX2_waysAt 18 = .ok (.laload, 1) := by decide +kernel
theorem dX2_waysAt_19 : decode cX2_waysAt 19 = .ok (.iconst 5, 1) := by decide +kernel
theorem dX2_waysAt_20 : decode cX2_waysAt 20 = .ok (.lushr, 1) := by decide +kernel
theorem dX2_waysAt_21 : decode cX2_waysAt 21 = .ok (.goto 4, 3) := by decide +kernel
theorem dX2_waysAt_24 : decode cX2_waysAt 24 = .ok (.lconst 0, 1) := by decide +kernel
theorem dX2_waysAt_25 : decode cX2_waysAt 25 = .ok (.lreturn, 1) := by decide +kernel
theorem dX2_makeRoom_0 : decode cX2_makeRoom 0 = .ok (.aload_n 0, 1) := by decide +kernel
theorem dX2_makeRoom_1 : decode cX2_makeRoom 1 = .ok (.invokevirtual 121, 3) := by decide +kernel
theorem dX2_makeRoom_4 : decode cX2_makeRoom 4 = .ok (.iconst 1, 1) := by decide +kernel
theorem dX2_makeRoom_5 : decode cX2_makeRoom 5 = .ok (.iadd, 1) := by decide +kernel
theorem dX2_makeRoom_6 : decode cX2_makeRoom 6 = .ok (.istore_n 1, 1) := by decide +kernel
theorem dX2_makeRoom_7 : decode cX2_makeRoom 7 = .ok (.iload_n 1, 1) := by decide +kernel
theorem dX2_makeRoom_8 : decode cX2_makeRoom 8 = .ok (.aload_n 0, 1) := by decide +kernel
theorem dX2_makeRoom_9 : decode cX2_makeRoom 9 = .ok (.getfield 70, 3) := by decide +kernel
theorem dX2_makeRoom_12 : decode cX2_makeRoom 12 = .ok (.arraylength, 1) := by decide +kernel
theorem dX2_makeRoom_13 : decode cX2_makeRoom 13 = .ok (.if_icmp .le 31, 3) := by decide +kernel
theorem dX2_makeRoom_16 : decode cX2_makeRoom 16 = .ok (.iload_n 1, 1) := by decide +kernel
theorem dX2_makeRoom_17 : decode cX2_makeRoom 17 = .ok (.ldc 124, 2) := by decide +kernel
theorem dX2_makeRoom_19 : decode cX2_makeRoom 19 = .ok (.if_icmp .gt 25, 3) := by decide +kernel
theorem dX2_makeRoom_22 : decode cX2_makeRoom 22 = .ok (.aload_n 0, 1) := by decide +kernel
theorem dX2_makeRoom_23 : decode cX2_makeRoom 23 = .ok (.iload_n 1, 1) := by decide +kernel
theorem dX2_makeRoom_24 : decode cX2_makeRoom 24 = .ok (.iconst 2, 1) := by decide +kernel
theorem dX2_makeRoom_25 : decode cX2_makeRoom 25 = .ok (.aload_n 0, 1) := by decide +kernel
theorem dX2_makeRoom_26 : decode cX2_makeRoom 26 = .ok (.getfield 70, 3) := by decide +kernel
theorem dX2_makeRoom_29 : decode cX2_makeRoom 29 = .ok (.arraylength, 1) := by decide +kernel
theorem dX2_makeRoom_30 : decode cX2_makeRoom 30 = .ok (.imul, 1) := by decide +kernel
theorem dX2_makeRoom_31 : decode cX2_makeRoom 31 = .ok (.ldc 124, 2) := by decide +kernel
theorem dX2_makeRoom_33 : decode cX2_makeRoom 33 = .ok (.invokestatic 125, 3) := by decide +kernel
theorem dX2_makeRoom_36 : decode cX2_makeRoom 36 = .ok (.invokestatic 131, 3) := by decide +kernel
theorem dX2_makeRoom_39 : decode cX2_makeRoom 39 = .ok (.newarray .long, 2) := by decide +kernel
theorem dX2_makeRoom_41 : decode cX2_makeRoom 41 = .ok (.putfield 70, 3) := by decide +kernel
theorem dX2_makeRoom_44 : decode cX2_makeRoom 44 = .ok (.return_, 1) := by decide +kernel
theorem dX2_countBack_0 : decode cX2_countBack 0 = .ok (.iconst 0, 1) := by decide +kernel
theorem dX2_countBack_1 : decode cX2_countBack 1 = .ok (.istore_n 1, 1) := by decide +kernel
theorem dX2_countBack_2 : decode cX2_countBack 2 = .ok (.iload_n 1, 1) := by decide +kernel
theorem dX2_countBack_3 : decode cX2_countBack 3 = .ok (.aload_n 0, 1) := by decide +kernel
theorem dX2_countBack_4 : decode cX2_countBack 4 = .ok (.getfield 53, 3) := by decide +kernel
theorem dX2_countBack_7 : decode cX2_countBack 7 = .ok (.if_icmp .ge 21, 3) := by decide +kernel
theorem dX2_countBack_10 : decode cX2_countBack 10 = .ok (.aload_n 0, 1) := by decide +kernel
theorem dX2_countBack_11 : decode cX2_countBack 11 = .ok (.getfield 37, 3) := by decide +kernel
theorem dX2_countBack_14 : decode cX2_countBack 14 = .ok (.iload_n 1, 1) := by decide +kernel
theorem dX2_countBack_15 : decode cX2_countBack 15 = .ok (.aload_n 0, 1) := by decide +kernel
theorem dX2_countBack_16 : decode cX2_countBack 16 = .ok (.getfield 25, 3) := by decide +kernel
theorem dX2_countBack_19 : decode cX2_countBack 19 = .ok (.iload_n 1, 1) := by decide +kernel
theorem dX2_countBack_20 : decode cX2_countBack 20 = .ok (.iaload, 1) := by decide +kernel
theorem dX2_countBack_21 : decode cX2_countBack 21 = .ok (.iastore, 1) := by decide +kernel
theorem dX2_countBack_22 : decode cX2_countBack 22 = .ok (.iinc 1 1, 3) := by decide +kernel
theorem dX2_countBack_25 : decode cX2_countBack 25 = .ok (.goto (-23), 3) := by decide +kernel
theorem dX2_countBack_28 : decode cX2_countBack 28 = .ok (.aload_n 0, 1) := by decide +kernel
theorem dX2_countBack_29 : decode cX2_countBack 29 = .ok (.getfield 57, 3) := by decide +kernel
theorem dX2_countBack_32 : decode cX2_countBack 32 = .ok (.iconst 1, 1) := by decide +kernel
theorem dX2_countBack_33 : decode cX2_countBack 33 = .ok (.isub, 1) := by decide +kernel
theorem dX2_countBack_34 : decode cX2_countBack 34 = .ok (.istore_n 1, 1) := by decide +kernel
theorem dX2_countBack_35 : decode cX2_countBack 35 = .ok (.iload_n 1, 1) := by decide +kernel
theorem dX2_countBack_36 : decode cX2_countBack 36 = .ok (.ifCond .le 70, 3) := by decide +kernel
theorem dX2_countBack_39 : decode cX2_countBack 39 = .ok (.aload_n 0, 1) := by decide +kernel
theorem dX2_countBack_40 : decode cX2_countBack 40 = .ok (.iload_n 1, 1) := by decide +kernel
theorem dX2_countBack_41 : decode cX2_countBack 41 = .ok (.invokevirtual 134, 3) := by decide +kernel
theorem dX2_countBack_44 : decode cX2_countBack 44 = .ok (.iconst 0, 1) := by decide +kernel
theorem dX2_countBack_45 : decode cX2_countBack 45 = .ok (.istore_n 2, 1) := by decide +kernel
theorem dX2_countBack_46 : decode cX2_countBack 46 = .ok (.iload_n 2, 1) := by decide +kernel
theorem dX2_countBack_47 : decode cX2_countBack 47 = .ok (.aload_n 0, 1) := by decide +kernel
theorem dX2_countBack_48 : decode cX2_countBack 48 = .ok (.getfield 53, 3) := by decide +kernel
theorem dX2_countBack_51 : decode cX2_countBack 51 = .ok (.if_icmp .ge 45, 3) := by decide +kernel
theorem dX2_countBack_54 : decode cX2_countBack 54 = .ok (.aload_n 0, 1) := by decide +kernel
theorem dX2_countBack_55 : decode cX2_countBack 55 = .ok (.getfield 37, 3) := by decide +kernel
theorem dX2_countBack_58 : decode cX2_countBack 58 = .ok (.iload_n 2, 1) := by decide +kernel
theorem dX2_countBack_59 : decode cX2_countBack 59 = .ok (.iaload, 1) := by decide +kernel
theorem dX2_countBack_60 : decode cX2_countBack 60 = .ok (.ifCond .le 30, 3) := by decide +kernel
theorem dX2_countBack_63 : decode cX2_countBack 63 = .ok (.aload_n 0, 1) := by decide +kernel
theorem dX2_countBack_64 : decode cX2_countBack 64 = .ok (.aload_n 0, 1) := by decide +kernel
theorem dX2_countBack_65 : decode cX2_countBack 65 = .ok (.getfield 31, 3) := by decide +kernel
theorem dX2_countBack_68 : decode cX2_countBack 68 = .ok (.iload_n 2, 1) := by decide +kernel
theorem dX2_countBack_69 : decode cX2_countBack 69 = .ok (.iaload, 1) := by decide +kernel
theorem dX2_countBack_70 : decode cX2_countBack 70 = .ok (.aload_n 0, 1) := by decide +kernel
theorem dX2_countBack_71 : decode cX2_countBack 71 = .ok (.getfield 37, 3) := by decide +kernel
theorem dX2_countBack_74 : decode cX2_countBack 74 = .ok (.iload_n 2, 1) := by decide +kernel
theorem dX2_countBack_75 : decode cX2_countBack 75 = .ok (.iaload, 1) := by decide +kernel
theorem dX2_countBack_76 : decode cX2_countBack 76 = .ok (.iadd, 1) := by decide +kernel
theorem dX2_countBack_77 : decode cX2_countBack 77 = .ok (.iconst 1, 1) := by decide +kernel
theorem dX2_countBack_78 : decode cX2_countBack 78 = .ok (.isub, 1) := by decide +kernel
theorem dX2_countBack_79 : decode cX2_countBack 79 = .ok (.iload_n 1, 1) := by decide +kernel
theorem dX2_countBack_80 : decode cX2_countBack 80 = .ok (.aload_n 0, 1) := by decide +kernel
theorem dX2_countBack_81 : decode cX2_countBack 81 = .ok (.getfield 53, 3) := by decide +kernel
theorem dX2_countBack_84 : decode cX2_countBack 84 = .ok (.imul, 1) := by decide +kernel
theorem dX2_countBack_85 : decode cX2_countBack 85 = .ok (.iload_n 2, 1) := by decide +kernel
theorem dX2_countBack_86 : decode cX2_countBack 86 = .ok (.iadd, 1) := by decide +kernel
theorem dX2_countBack_87 : decode cX2_countBack 87 = .ok (.invokevirtual 138, 3) := by decide +kernel
theorem dX2_countBack_90 : decode cX2_countBack 90 = .ok (.iinc 2 1, 3) := by decide +kernel
theorem dX2_countBack_93 : decode cX2_countBack 93 = .ok (.goto (-47), 3) := by decide +kernel
theorem dX2_countBack_96 : decode cX2_countBack 96 = .ok (.aload_n 0, 1) := by decide +kernel
theorem dX2_countBack_97 : decode cX2_countBack 97 = .ok (.invokevirtual 142, 3) := by decide +kernel
theorem dX2_countBack_100 : decode cX2_countBack 100 = .ok (.iinc 1 (-1), 3) := by decide +kernel
theorem dX2_countBack_103 : decode cX2_countBack 103 = .ok (.goto (-68), 3) := by decide +kernel
theorem dX2_countBack_106 : decode cX2_countBack 106 = .ok (.aload_n 0, 1) := by decide +kernel
theorem dX2_countBack_107 : decode cX2_countBack 107 = .ok (.iconst 0, 1) := by decide +kernel
theorem dX2_countBack_108 : decode cX2_countBack 108 = .ok (.invokevirtual 134, 3) := by decide +kernel
theorem dX2_countBack_111 : decode cX2_countBack 111 = .ok (.aload_n 0, 1) := by decide +kernel
theorem dX2_countBack_112 : decode cX2_countBack 112 = .ok (.bipush 20, 2) := by decide +kernel
theorem dX2_countBack_114 : decode cX2_countBack 114 = .ok (.aload_n 0, 1) := by decide +kernel
theorem dX2_countBack_115 : decode cX2_countBack 115 = .ok (.invokevirtual 121, 3) := by decide +kernel
theorem dX2_countBack_118 : decode cX2_countBack 118 = .ok (.invokevirtual 138, 3) := by decide +kernel
theorem dX2_countBack_121 : decode cX2_countBack 121 = .ok (.return_, 1) := by decide +kernel
theorem dX2_stepBack_0 : decode cX2_stepBack 0 = .ok (.iconst 0, 1) := by decide +kernel
theorem dX2_stepBack_1 : decode cX2_stepBack 1 = .ok (.istore_n 1, 1) := by decide +kernel
theorem dX2_stepBack_2 : decode cX2_stepBack 2 = .ok (.iload_n 1, 1) := by decide +kernel
theorem dX2_stepBack_3 : decode cX2_stepBack 3 = .ok (.aload_n 0, 1) := by decide +kernel
theorem dX2_stepBack_4 : decode cX2_stepBack 4 = .ok (.getfield 53, 3) := by decide +kernel
theorem dX2_stepBack_7 : decode cX2_stepBack 7 = .ok (.if_icmp .ge 41, 3) := by decide +kernel
theorem dX2_stepBack_10 : decode cX2_stepBack 10 = .ok (.aload_n 0, 1) := by decide +kernel
theorem dX2_stepBack_11 : decode cX2_stepBack 11 = .ok (.getfield 37, 3) := by decide +kernel
theorem dX2_stepBack_14 : decode cX2_stepBack 14 = .ok (.iload_n 1, 1) := by decide +kernel
theorem dX2_stepBack_15 : decode cX2_stepBack 15 = .ok (.iaload, 1) := by decide +kernel
theorem dX2_stepBack_16 : decode cX2_stepBack 16 = .ok (.ifCond .le 14, 3) := by decide +kernel
theorem dX2_stepBack_19 : decode cX2_stepBack 19 = .ok (.aload_n 0, 1) := by decide +kernel
theorem dX2_stepBack_20 : decode cX2_stepBack 20 = .ok (.getfield 37, 3) := by decide +kernel
theorem dX2_stepBack_23 : decode cX2_stepBack 23 = .ok (.iload_n 1, 1) := by decide +kernel
theorem dX2_stepBack_24 : decode cX2_stepBack 24 = .ok (.dup2, 1) := by decide +kernel
theorem dX2_stepBack_25 : decode cX2_stepBack 25 = .ok (.iaload, 1) := by decide +kernel
theorem dX2_stepBack_26 : decode cX2_stepBack 26 = .ok (.iconst 1, 1) := by decide +kernel
theorem dX2_stepBack_27 : decode cX2_stepBack 27 = .ok (.isub, 1) := by decide +kernel
theorem dX2_stepBack_28 : decode cX2_stepBack 28 = .ok (.iastore, 1) := by decide +kernel
theorem dX2_stepBack_29 : decode cX2_stepBack 29 = .ok (.return_, 1) := by decide +kernel
theorem dX2_stepBack_30 : decode cX2_stepBack 30 = .ok (.aload_n 0, 1) := by decide +kernel
theorem dX2_stepBack_31 : decode cX2_stepBack 31 = .ok (.getfield 37, 3) := by decide +kernel
theorem dX2_stepBack_34 : decode cX2_stepBack 34 = .ok (.iload_n 1, 1) := by decide +kernel
theorem dX2_stepBack_35 : decode cX2_stepBack 35 = .ok (.aload_n 0, 1) := by decide +kernel
theorem dX2_stepBack_36 : decode cX2_stepBack 36 = .ok (.getfield 25, 3) := by decide +kernel
theorem dX2_stepBack_39 : decode cX2_stepBack 39 = .ok (.iload_n 1, 1) := by decide +kernel
theorem dX2_stepBack_40 : decode cX2_stepBack 40 = .ok (.iaload, 1) := by decide +kernel
theorem dX2_stepBack_41 : decode cX2_stepBack 41 = .ok (.iastore, 1) := by decide +kernel
theorem dX2_stepBack_42 : decode cX2_stepBack 42 = .ok (.iinc 1 1, 3) := by decide +kernel
theorem dX2_stepBack_45 : decode cX2_stepBack 45 = .ok (.goto (-43), 3) := by decide +kernel
theorem dX2_stepBack_48 : decode cX2_stepBack 48 = .ok (.return_, 1) := by decide +kernel
theorem dX2_stepOn_0 : decode cX2_stepOn 0 = .ok (.iconst 0, 1) := by decide +kernel
theorem dX2_stepOn_1 : decode cX2_stepOn 1 = .ok (.istore_n 1, 1) := by decide +kernel
theorem dX2_stepOn_2 : decode cX2_stepOn 2 = .ok (.iload_n 1, 1) := by decide +kernel
theorem dX2_stepOn_3 : decode cX2_stepOn 3 = .ok (.aload_n 0, 1) := by decide +kernel
theorem dX2_stepOn_4 : decode cX2_stepOn 4 = .ok (.getfield 53, 3) := by decide +kernel
theorem dX2_stepOn_7 : decode cX2_stepOn 7 = .ok (.if_icmp .ge 42, 3) := by decide +kernel
theorem dX2_stepOn_10 : decode cX2_stepOn 10 = .ok (.aload_n 0, 1) := by decide +kernel
theorem dX2_stepOn_11 : decode cX2_stepOn 11 = .ok (.getfield 37, 3) := by decide +kernel
theorem dX2_stepOn_14 : decode cX2_stepOn 14 = .ok (.iload_n 1, 1) := by decide +kernel
theorem dX2_stepOn_15 : decode cX2_stepOn 15 = .ok (.iaload, 1) := by decide +kernel
theorem dX2_stepOn_16 : decode cX2_stepOn 16 = .ok (.aload_n 0, 1) := by decide +kernel
theorem dX2_stepOn_17 : decode cX2_stepOn 17 = .ok (.getfield 25, 3) := by decide +kernel
theorem dX2_stepOn_20 : decode cX2_stepOn 20 = .ok (.iload_n 1, 1) := by decide +kernel
theorem dX2_stepOn_21 : decode cX2_stepOn 21 = .ok (.iaload, 1) := by decide +kernel
theorem dX2_stepOn_22 : decode cX2_stepOn 22 = .ok (.if_icmp .ge 14, 3) := by decide +kernel
theorem dX2_stepOn_25 : decode cX2_stepOn 25 = .ok (.aload_n 0, 1) := by decide +kernel
theorem dX2_stepOn_26 : decode cX2_stepOn 26 = .ok (.getfield 37, 3) := by decide +kernel
theorem dX2_stepOn_29 : decode cX2_stepOn 29 = .ok (.iload_n 1, 1) := by decide +kernel
theorem dX2_stepOn_30 : decode cX2_stepOn 30 = .ok (.dup2, 1) := by decide +kernel
theorem dX2_stepOn_31 : decode cX2_stepOn 31 = .ok (.iaload, 1) := by decide +kernel
theorem dX2_stepOn_32 : decode cX2_stepOn 32 = .ok (.iconst 1, 1) := by decide +kernel
theorem dX2_stepOn_33 : decode cX2_stepOn 33 = .ok (.iadd, 1) := by decide +kernel
theorem dX2_stepOn_34 : decode cX2_stepOn 34 = .ok (.iastore, 1) := by decide +kernel
theorem dX2_stepOn_35 : decode cX2_stepOn 35 = .ok (.return_, 1) := by decide +kernel
theorem dX2_stepOn_36 : decode cX2_stepOn 36 = .ok (.aload_n 0, 1) := by decide +kernel
theorem dX2_stepOn_37 : decode cX2_stepOn 37 = .ok (.getfield 37, 3) := by decide +kernel
theorem dX2_stepOn_40 : decode cX2_stepOn 40 = .ok (.iload_n 1, 1) := by decide +kernel
theorem dX2_stepOn_41 : decode cX2_stepOn 41 = .ok (.iconst 0, 1) := by decide +kernel
theorem dX2_stepOn_42 : decode cX2_stepOn 42 = .ok (.iastore, 1) := by decide +kernel
theorem dX2_stepOn_43 : decode cX2_stepOn 43 = .ok (.iinc 1 1, 3) := by decide +kernel
theorem dX2_stepOn_46 : decode cX2_stepOn 46 = .ok (.goto (-44), 3) := by decide +kernel
theorem dX2_stepOn_49 : decode cX2_stepOn 49 = .ok (.return_, 1) := by decide +kernel
theorem dX2_clearSaid_0 : decode cX2_clearSaid 0 = .ok (.iconst 0, 1) := by decide +kernel
theorem dX2_clearSaid_1 : decode cX2_clearSaid 1 = .ok (.istore_n 1, 1) := by decide +kernel
theorem dX2_clearSaid_2 : decode cX2_clearSaid 2 = .ok (.iload_n 1, 1) := by decide +kernel
theorem dX2_clearSaid_3 : decode cX2_clearSaid 3 = .ok (.aload_n 0, 1) := by decide +kernel
theorem dX2_clearSaid_4 : decode cX2_clearSaid 4 = .ok (.getfield 37, 3) := by decide +kernel
theorem dX2_clearSaid_7 : decode cX2_clearSaid 7 = .ok (.arraylength, 1) := by decide +kernel
theorem dX2_clearSaid_8 : decode cX2_clearSaid 8 = .ok (.if_icmp .ge 16, 3) := by decide +kernel
theorem dX2_clearSaid_11 : decode cX2_clearSaid 11 = .ok (.aload_n 0, 1) := by decide +kernel
theorem dX2_clearSaid_12 : decode cX2_clearSaid 12 = .ok (.getfield 37, 3) := by decide +kernel
theorem dX2_clearSaid_15 : decode cX2_clearSaid 15 = .ok (.iload_n 1, 1) := by decide +kernel
theorem dX2_clearSaid_16 : decode cX2_clearSaid 16 = .ok (.iconst 0, 1) := by decide +kernel
theorem dX2_clearSaid_17 : decode cX2_clearSaid 17 = .ok (.iastore, 1) := by decide +kernel
theorem dX2_clearSaid_18 : decode cX2_clearSaid 18 = .ok (.iinc 1 1, 3) := by decide +kernel
theorem dX2_clearSaid_21 : decode cX2_clearSaid 21 = .ok (.goto (-19), 3) := by decide +kernel
theorem dX2_clearSaid_24 : decode cX2_clearSaid 24 = .ok (.return_, 1) := by decide +kernel
theorem dX2_lookAhead_0 : decode cX2_lookAhead 0 = .ok (.iconst 0, 1) := by decide +kernel
theorem dX2_lookAhead_1 : decode cX2_lookAhead 1 = .ok (.istore_n 2, 1) := by decide +kernel
theorem dX2_lookAhead_2 : decode cX2_lookAhead 2 = .ok (.iload_n 2, 1) := by decide +kernel
theorem dX2_lookAhead_3 : decode cX2_lookAhead 3 = .ok (.aload_n 0, 1) := by decide +kernel
theorem dX2_lookAhead_4 : decode cX2_lookAhead 4 = .ok (.getfield 53, 3) := by decide +kernel
theorem dX2_lookAhead_7 : decode cX2_lookAhead 7 = .ok (.if_icmp .ge 102, 3) := by decide +kernel
theorem dX2_lookAhead_10 : decode cX2_lookAhead 10 = .ok (.aload_n 0, 1) := by decide +kernel
theorem dX2_lookAhead_11 : decode cX2_lookAhead 11 = .ok (.getfield 31, 3) := by decide +kernel
theorem dX2_lookAhead_14 : decode cX2_lookAhead 14 = .ok (.iload_n 2, 1) := by decide +kernel
theorem dX2_lookAhead_15 : decode cX2_lookAhead 15 = .ok (.iaload, 1) := by decide +kernel
theorem dX2_lookAhead_16 : decode cX2_lookAhead 16 = .ok (.aload_n 0, 1) := by decide +kernel
theorem dX2_lookAhead_17 : decode cX2_lookAhead 17 = .ok (.getfield 37, 3) := by decide +kernel
theorem dX2_lookAhead_20 : decode cX2_lookAhead 20 = .ok (.iload_n 2, 1) := by decide +kernel
theorem dX2_lookAhead_21 : decode cX2_lookAhead 21 = .ok (.iaload, 1) := by decide +kernel
theorem dX2_lookAhead_22 : decode cX2_lookAhead 22 = .ok (.iadd, 1) := by decide +kernel
theorem dX2_lookAhead_23 : decode cX2_lookAhead 23 = .ok (.istore_n 3, 1) := by decide +kernel
theorem dX2_lookAhead_24 : decode cX2_lookAhead 24 = .ok (.aload_n 0, 1) := by decide +kernel
theorem dX2_lookAhead_25 : decode cX2_lookAhead 25 = .ok (.getfield 40, 3) := by decide +kernel
theorem dX2_lookAhead_28 : decode cX2_lookAhead 28 = .ok (.iload_n 2, 1) := by decide +kernel
theorem dX2_lookAhead_29 : decode cX2_lookAhead 29 = .ok (.sipush 1000, 3) := by decide +kernel
theorem dX2_lookAhead_32 : decode cX2_lookAhead 32 = .ok (.iastore, 1) := by decide +kernel
theorem dX2_lookAhead_33 : decode cX2_lookAhead 33 = .ok (.aload_n 0, 1) := by decide +kernel
theorem dX2_lookAhead_34 : decode cX2_lookAhead 34 = .ok (.getfield 37, 3) := by decide +kernel
theorem dX2_lookAhead_37 : decode cX2_lookAhead 37 = .ok (.iload_n 2, 1) := by decide +kernel
theorem dX2_lookAhead_38 : decode cX2_lookAhead 38 = .ok (.iaload, 1) := by decide +kernel
theorem dX2_lookAhead_39 : decode cX2_lookAhead 39 = .ok (.aload_n 0, 1) := by decide +kernel
theorem dX2_lookAhead_40 : decode cX2_lookAhead 40 = .ok (.getfield 25, 3) := by decide +kernel
theorem dX2_lookAhead_43 : decode cX2_lookAhead 43 = .ok (.iload_n 2, 1) := by decide +kernel
theorem dX2_lookAhead_44 : decode cX2_lookAhead 44 = .ok (.iaload, 1) := by decide +kernel
theorem dX2_lookAhead_45 : decode cX2_lookAhead 45 = .ok (.if_icmp .ge 58, 3) := by decide +kernel
theorem dX2_lookAhead_48 : decode cX2_lookAhead 48 = .ok (.iload_n 3, 1) := by decide +kernel
theorem dX2_lookAhead_49 : decode cX2_lookAhead 49 = .ok (.aload_n 0, 1) := by decide +kernel
theorem dX2_lookAhead_50 : decode cX2_lookAhead 50 = .ok (.getfield 34, 3) := by decide +kernel
theorem dX2_lookAhead_53 : decode cX2_lookAhead 53 = .ok (.arraylength, 1) := by decide +kernel
theorem dX2_lookAhead_54 : decode cX2_lookAhead 54 = .ok (.if_icmp .ge 49, 3) := by decide +kernel
theorem dX2_lookAhead_57 : decode cX2_lookAhead 57 = .ok (.aload_n 0, 1) := by decide +kernel
theorem dX2_lookAhead_58 : decode cX2_lookAhead 58 = .ok (.iload_n 1, 1) := by decide +kernel
theorem dX2_lookAhead_59 : decode cX2_lookAhead 59 = .ok (.iload_n 2, 1) := by decide +kernel
theorem dX2_lookAhead_60 : decode cX2_lookAhead 60 = .ok (.invokevirtual 145, 3) := by decide +kernel
theorem dX2_lookAhead_63 : decode cX2_lookAhead 63 = .ok (.istore 4, 2) := by decide +kernel
theorem dX2_lookAhead_65 : decode cX2_lookAhead 65 = .ok (.aload_n 0, 1) := by decide +kernel
theorem dX2_lookAhead_66 : decode cX2_lookAhead 66 = .ok (.getfield 40, 3) := by decide +kernel
theorem dX2_lookAhead_69 : decode cX2_lookAhead 69 = .ok (.iload_n 2, 1) := by decide +kernel
theorem dX2_lookAhead_70 : decode cX2_lookAhead 70 = .ok (.iconst 1, 1) := by decide +kernel
theorem dX2_lookAhead_71 : decode cX2_lookAhead 71 = .ok (.aload_n 0, 1) := by decide +kernel
theorem dX2_lookAhead_72 : decode cX2_lookAhead 72 = .ok (.iload 4, 2) := by decide +kernel
theorem dX2_lookAhead_74 : decode cX2_lookAhead 74 = .ok (.invokevirtual 148, 3) := by decide +kernel
theorem dX2_lookAhead_77 : decode cX2_lookAhead 77 = .ok (.iadd, 1) := by decide +kernel
theorem dX2_lookAhead_78 : decode cX2_lookAhead 78 = .ok (.iastore, 1) := by decide +kernel
theorem dX2_lookAhead_79 : decode cX2_lookAhead 79 = .ok (.aload_n 0, 1) := by decide +kernel
theorem dX2_lookAhead_80 : decode cX2_lookAhead 80 = .ok (.getfield 46, 3) := by decide +kernel
theorem dX2_lookAhead_83 : decode cX2_lookAhead 83 = .ok (.iload_n 2, 1) := by decide +kernel
theorem dX2_lookAhead_84 : decode cX2_lookAhead 84 = .ok (.aload_n 0, 1) := by decide +kernel
theorem dX2_lookAhead_85 : decode cX2_lookAhead 85 = .ok (.iload 4, 2) := by decide +kernel
theorem dX2_lookAhead_87 : decode cX2_lookAhead 87 = .ok (.invokevirtual 151, 3) := by decide +kernel
theorem dX2_lookAhead_90 : decode cX2_lookAhead 90 = .ok (.lastore, 1) := by decide +kernel
theorem dX2_lookAhead_91 : decode cX2_lookAhead 91 = .ok (.aload_n 0, 1) := by decide +kernel
theorem dX2_lookAhead_92 : decode cX2_lookAhead 92 = .ok (.getfield 43, 3) := by decide +kernel
theorem dX2_lookAhead_95 : decode cX2_lookAhead 95 = .ok (.iload_n 2, 1) := by decide +kernel
theorem dX2_lookAhead_96 : decode cX2_lookAhead 96 = .ok (.aload_n 0, 1) := by decide +kernel
theorem dX2_lookAhead_97 : decode cX2_lookAhead 97 = .ok (.getfield 34, 3) := by decide +kernel
theorem dX2_lookAhead_100 : decode cX2_lookAhead 100 = .ok (.iload_n 3, 1) := by decide +kernel
theorem dX2_lookAhead_101 : decode cX2_lookAhead 101 = .ok (.iaload, 1) := by decide +kernel
theorem dX2_lookAhead_102 : decode cX2_lookAhead 102 = .ok (.iastore, 1) := by decide +kernel
theorem dX2_lookAhead_103 : decode cX2_lookAhead 103 = .ok (.iinc 2 1, 3) := by decide +kernel
theorem dX2_lookAhead_106 : decode cX2_lookAhead 106 = .ok (.goto (-104), 3) := by decide +kernel
theorem dX2_lookAhead_109 : decode cX2_lookAhead 109 = .ok (.return_, 1) := by decide +kernel
theorem dX2_gapsIfNext_0 : decode cX2_gapsIfNext 0 = .ok (.aload_n 0, 1) := by decide +kernel
theorem dX2_gapsIfNext_1 : decode cX2_gapsIfNext 1 = .ok (.getfield 40, 3) := by decide +kernel
theorem dX2_gapsIfNext_4 : decode cX2_gapsIfNext 4 = .ok (.iload_n 1, 1) := by decide +kernel
theorem dX2_gapsIfNext_5 : decode cX2_gapsIfNext 5 = .ok (.iaload, 1) := by decide +kernel
theorem dX2_gapsIfNext_6 : decode cX2_gapsIfNext 6 = .ok (.sipush 1000, 3) := by decide +kernel
theorem dX2_gapsIfNext_9 : decode cX2_gapsIfNext 9 = .ok (.if_icmp .ge 23, 3) := by decide +kernel
theorem dX2_gapsIfNext_12 : decode cX2_gapsIfNext 12 = .ok (.aload_n 0, 1) := by decide +kernel
theorem dX2_gapsIfNext_13 : decode cX2_gapsIfNext 13 = .ok (.getfield 40, 3) := by decide +kernel
theorem dX2_gapsIfNext_16 : decode cX2_gapsIfNext 16 = .ok (.iload_n 1, 1) := by decide +kernel
theorem dX2_gapsIfNext_17 : decode cX2_gapsIfNext 17 = .ok (.iaload, 1) := by decide +kernel
theorem dX2_gapsIfNext_18 : decode cX2_gapsIfNext 18 = .ok (.aload_n 0, 1) := by decide +kernel
theorem dX2_gapsIfNext_19 : decode cX2_gapsIfNext 19 = .ok (.getfield 43, 3) := by decide +kernel
theorem dX2_gapsIfNext_22 : decode cX2_gapsIfNext 22 = .ok (.iload_n 1, 1) := by decide +kernel
theorem dX2_gapsIfNext_23 : decode cX2_gapsIfNext 23 = .ok (.iaload, 1) := by decide +kernel
theorem dX2_gapsIfNext_24 : decode cX2_gapsIfNext 24 = .ok (.iload_n 2, 1) := by decide +kernel
theorem dX2_gapsIfNext_25 : decode cX2_gapsIfNext 25 = .ok (.ishr, 1) := by decide +kernel
theorem dX2_gapsIfNext_26 : decode cX2_gapsIfNext 26 = .ok (.iconst 1, 1) := by decide +kernel
theorem dX2_gapsIfNext_27 : decode cX2_gapsIfNext 27 = .ok (.iand, 1) := by decide +kernel
theorem dX2_gapsIfNext_28 : decode cX2_gapsIfNext 28 = .ok (.isub, 1) := by decide +kernel
theorem dX2_gapsIfNext_29 : decode cX2_gapsIfNext 29 = .ok (.goto 6, 3) := by decide +kernel
theorem dX2_gapsIfNext_32 : decode cX2_gapsIfNext 32 = .ok (.sipush 1000, 3) := by decide +kernel
theorem dX2_gapsIfNext_35 : decode cX2_gapsIfNext 35 = .ok (.ireturn, 1) := by decide +kernel
theorem dX2_settle_0 : decode cX2_settle 0 = .ok (.sipush 1000, 3) := by decide +kernel
theorem dX2_settle_3 : decode cX2_settle 3 = .ok (.istore_n 3, 1) := by decide +kernel
theorem dX2_settle_4 : decode cX2_settle 4 = .ok (.lconst 0, 1) := by decide +kernel
theorem dX2_settle_5 : decode cX2_settle 5 = .ok (.lstore 4, 2) := by decide +kernel
theorem dX2_settle_7 : decode cX2_settle 7 = .ok (.iconst 0, 1) := by decide +kernel
theorem dX2_settle_8 : decode cX2_settle 8 = .ok (.istore 6, 2) := by decide +kernel
theorem dX2_settle_10 : decode cX2_settle 10 = .ok (.iload 6, 2) := by decide +kernel
theorem dX2_settle_12 : decode cX2_settle 12 = .ok (.aload_n 0, 1) := by decide +kernel
theorem dX2_settle_13 : decode cX2_settle 13 = .ok (.getfield 53, 3) := by decide +kernel
theorem dX2_settle_16 : decode cX2_settle 16 = .ok (.if_icmp .ge 65, 3) := by decide +kernel
theorem dX2_settle_19 : decode cX2_settle 19 = .ok (.aload_n 0, 1) := by decide +kernel
theorem dX2_settle_20 : decode cX2_settle 20 = .ok (.iload 6, 2) := by decide +kernel
theorem dX2_settle_22 : decode cX2_settle 22 = .ok (.iload_n 1, 1) := by decide +kernel
theorem dX2_settle_23 : decode cX2_settle 23 = .ok (.invokevirtual 155, 3) := by decide +kernel
theorem dX2_settle_26 : decode cX2_settle 26 = .ok (.istore 7, 2) := by decide +kernel
theorem dX2_settle_28 : decode cX2_settle 28 = .ok (.iload 7, 2) := by decide +kernel
theorem dX2_settle_30 : decode cX2_settle 30 = .ok (.iload_n 3, 1) := by decide +kernel
theorem dX2_settle_31 : decode cX2_settle 31 = .ok (.if_icmp .ge 18, 3) := by decide +kernel
theorem dX2_settle_34 : decode cX2_settle 34 = .ok (.iload 7, 2) := by decide +kernel
theorem dX2_settle_36 : decode cX2_settle 36 = .ok (.istore_n 3, 1) := by decide +kernel
theorem dX2_settle_37 : decode cX2_settle 37 = .ok (.aload_n 0, 1) := by decide +kernel
theorem dX2_settle_38 : decode cX2_settle 38 = .ok (.getfield 46, 3) := by decide +kernel
theorem dX2_settle_41 : decode cX2_settle 41 = .ok (.iload 6, 2) := by decide +kernel
theorem dX2_settle_43 : decode cX2_settle 43 = .ok (.laload, 1) := by decide +kernel
theorem dX2_settle_44 : decode cX2_settle 44 = .ok (.lstore 4, 2) := by decide +kernel
theorem dX2_settle_46 : decode cX2_settle 46 = .ok (.goto 29, 3) := by decide +kernel
theorem dX2_settle_49 : decode cX2_settle 49 = .ok (.iload 7, 2) := by decide +kernel
theorem dX2_settle_51 : decode cX2_settle 51 = .ok (.iload_n 3, 1) := by decide +kernel
theorem dX2_settle_52 : decode cX2_settle 52 = .ok (.if_icmp .ne 23, 3) := by decide +kernel
theorem dX2_settle_55 : decode cX2_settle 55 = .ok (.iload 7, 2) := by decide +kernel
theorem dX2_settle_57 : decode cX2_settle 57 = .ok (.sipush 1000, 3) := by decide +kernel
theorem dX2_settle_60 : decode cX2_settle 60 = .ok (.if_icmp .ge 15, 3) := by decide +kernel
theorem dX2_settle_63 : decode cX2_settle 63 = .ok (.lload 4, 2) := by decide +kernel
theorem dX2_settle_65 : decode cX2_settle 65 = .ok (.aload_n 0, 1) := by decide +kernel
theorem dX2_settle_66 : decode cX2_settle 66 = .ok (.getfield 46, 3) := by decide +kernel
theorem dX2_settle_69 : decode cX2_settle 69 = .ok (.iload 6, 2) := by decide +kernel
theorem dX2_settle_71 : decode cX2_settle 71 = .ok (.laload, 1) := by decide +kernel
theorem dX2_settle_72 : decode cX2_settle 72 = .ok (.ladd, 1) := by decide +kernel
theorem dX2_settle_73 : decode cX2_settle 73 = .ok (.lstore 4, 2) := by decide +kernel
theorem dX2_settle_75 : decode cX2_settle 75 = .ok (.iinc 6 1, 3) := by decide +kernel
theorem dX2_settle_78 : decode cX2_settle 78 = .ok (.goto (-68), 3) := by decide +kernel
theorem dX2_settle_81 : decode cX2_settle 81 = .ok (.iload_n 2, 1) := by decide +kernel
theorem dX2_settle_82 : decode cX2_settle 82 = .ok (.ifCond .lt 38, 3) := by decide +kernel
theorem dX2_settle_85 : decode cX2_settle 85 = .ok (.iload_n 2, 1) := by decide +kernel
theorem dX2_settle_86 : decode cX2_settle 86 = .ok (.aload_n 0, 1) := by decide +kernel
theorem dX2_settle_87 : decode cX2_settle 87 = .ok (.getfield 70, 3) := by decide +kernel
theorem dX2_settle_90 : decode cX2_settle 90 = .ok (.arraylength, 1) := by decide +kernel
theorem dX2_settle_91 : decode cX2_settle 91 = .ok (.if_icmp .ge 29, 3) := by decide +kernel
theorem dX2_settle_94 : decode cX2_settle 94 = .ok (.aload_n 0, 1) := by decide +kernel
theorem dX2_settle_95 : decode cX2_settle 95 = .ok (.getfield 70, 3) := by decide +kernel
theorem dX2_settle_98 : decode cX2_settle 98 = .ok (.iload_n 2, 1) := by decide +kernel
theorem dX2_settle_99 : decode cX2_settle 99 = .ok (.iload_n 3, 1) := by decide +kernel
theorem dX2_settle_100 : decode cX2_settle 100 = .ok (.sipush 1000, 3) := by decide +kernel
theorem dX2_settle_103 : decode cX2_settle 103 = .ok (.if_icmp .ne 9, 3) := by decide +kernel
theorem dX2_settle_106 : decode cX2_settle 106 = .ok (.ldc2_w 158, 3) := by decide +kernel
theorem dX2_settle_109 : decode cX2_settle 109 = .ok (.goto 10, 3) := by decide +kernel
theorem dX2_settle_112 : decode cX2_settle 112 = .ok (.lload 4, 2) := by decide +kernel
theorem dX2_settle_114 : decode cX2_settle 114 = .ok (.iconst 5, 1) := by decide +kernel
theorem dX2_settle_115 : decode cX2_settle 115 = .ok (.lshl, 1) := by decide +kernel
theorem dX2_settle_116 : decode cX2_settle 116 = .ok (.iload_n 3, 1) := by decide +kernel
theorem dX2_settle_117 : decode cX2_settle 117 = .ok (.i2l, 1) := by decide +kernel
theorem dX2_settle_118 : decode cX2_settle 118 = .ok (.lor, 1) := by decide +kernel
theorem dX2_settle_119 : decode cX2_settle 119 = .ok (.lastore, 1) := by decide +kernel
theorem dX2_settle_120 : decode cX2_settle 120 = .ok (.return_, 1) := by decide +kernel
theorem dX2_fewestGaps_0 : decode cX2_fewestGaps 0 = .ok (.aload_n 0, 1) := by decide +kernel
theorem dX2_fewestGaps_1 : decode cX2_fewestGaps 1 = .ok (.aload_n 0, 1) := by decide +kernel
theorem dX2_fewestGaps_2 : decode cX2_fewestGaps 2 = .ok (.invokevirtual 121, 3) := by decide +kernel
theorem dX2_fewestGaps_5 : decode cX2_fewestGaps 5 = .ok (.invokevirtual 148, 3) := by decide +kernel
theorem dX2_fewestGaps_8 : decode cX2_fewestGaps 8 = .ok (.ireturn, 1) := by decide +kernel
theorem dX2_howManyBest_0 : decode cX2_howManyBest 0 = .ok (.aload_n 0, 1) := by decide +kernel
theorem dX2_howManyBest_1 : decode cX2_howManyBest 1 = .ok (.aload_n 0, 1) := by decide +kernel
theorem dX2_howManyBest_2 : decode cX2_howManyBest 2 = .ok (.invokevirtual 121, 3) := by decide +kernel
theorem dX2_howManyBest_5 : decode cX2_howManyBest 5 = .ok (.invokevirtual 151, 3) := by decide +kernel
theorem dX2_howManyBest_8 : decode cX2_howManyBest 8 = .ok (.lreturn, 1) := by decide +kernel
theorem dX2_firstAt_0 : decode cX2_firstAt 0 = .ok (.iload_n 1, 1) := by decide +kernel
theorem dX2_firstAt_1 : decode cX2_firstAt 1 = .ok (.ifCond .lt 11, 3) := by decide +kernel
theorem dX2_firstAt_4 : decode cX2_firstAt 4 = .ok (.iload_n 1, 1) := by decide +kernel
theorem dX2_firstAt_5 : decode cX2_firstAt 5 = .ok (.aload_n 0, 1) := by decide +kernel
theorem dX2_firstAt_6 : decode cX2_firstAt 6 = .ok (.invokevirtual 160, 3) := by decide +kernel
theorem dX2_firstAt_9 : decode cX2_firstAt 9 = .ok (.if_icmp .lt 5, 3) := by decide +kernel
theorem dX2_firstAt_12 : decode cX2_firstAt 12 = .ok (.iconst (-1), 1) := by decide +kernel
theorem dX2_firstAt_13 : decode cX2_firstAt 13 = .ok (.ireturn, 1) := by decide +kernel
theorem dX2_firstAt_14 : decode cX2_firstAt 14 = .ok (.aload_n 0, 1) := by decide +kernel
theorem dX2_firstAt_15 : decode cX2_firstAt 15 = .ok (.invokevirtual 163, 3) := by decide +kernel
theorem dX2_firstAt_18 : decode cX2_firstAt 18 = .ok (.iconst 0, 1) := by decide +kernel
theorem dX2_firstAt_19 : decode cX2_firstAt 19 = .ok (.istore_n 2, 1) := by decide +kernel
theorem dX2_firstAt_20 : decode cX2_firstAt 20 = .ok (.bipush 20, 2) := by decide +kernel
theorem dX2_firstAt_22 : decode cX2_firstAt 22 = .ok (.istore_n 3, 1) := by decide +kernel
theorem dX2_firstAt_23 : decode cX2_firstAt 23 = .ok (.aload_n 0, 1) := by decide +kernel
theorem dX2_firstAt_24 : decode cX2_firstAt 24 = .ok (.invokevirtual 121, 3) := by decide +kernel
theorem dX2_firstAt_27 : decode cX2_firstAt 27 = .ok (.istore 4, 2) := by decide +kernel
theorem dX2_firstAt_29 : decode cX2_firstAt 29 = .ok (.iconst (-1), 1) := by decide +kernel
theorem dX2_firstAt_30 : decode cX2_firstAt 30 = .ok (.istore 5, 2) := by decide +kernel
theorem dX2_firstAt_32 : decode cX2_firstAt 32 = .ok (.iconst 0, 1) := by decide +kernel
theorem dX2_firstAt_33 : decode cX2_firstAt 33 = .ok (.istore 6, 2) := by decide +kernel
theorem dX2_firstAt_35 : decode cX2_firstAt 35 = .ok (.iload 6, 2) := by decide +kernel
theorem dX2_firstAt_37 : decode cX2_firstAt 37 = .ok (.iload_n 1, 1) := by decide +kernel
theorem dX2_firstAt_38 : decode cX2_firstAt 38 = .ok (.if_icmp .gt 85, 3) := by decide +kernel
theorem dX2_firstAt_41 : decode cX2_firstAt 41 = .ok (.aload_n 0, 1) := by decide +kernel
theorem dX2_firstAt_42 : decode cX2_firstAt 42 = .ok (.iload_n 2, 1) := by decide +kernel
theorem dX2_firstAt_43 : decode cX2_firstAt 43 = .ok (.iload_n 3, 1) := by decide +kernel
theorem dX2_firstAt_44 : decode cX2_firstAt 44 = .ok (.iload 4, 2) := by decide +kernel
theorem dX2_firstAt_46 : decode cX2_firstAt 46 = .ok (.invokevirtual 166, 3) := by decide +kernel
theorem dX2_firstAt_49 : decode cX2_firstAt 49 = .ok (.istore 7, 2) := by decide +kernel
theorem dX2_firstAt_51 : decode cX2_firstAt 51 = .ok (.bipush 16, 2) := by decide +kernel
theorem dX2_firstAt_53 : decode cX2_firstAt 53 = .ok (.aload_n 0, 1) := by decide +kernel
theorem dX2_firstAt_54 : decode cX2_firstAt 54 = .ok (.getfield 21, 3) := by decide +kernel
theorem dX2_firstAt_57 : decode cX2_firstAt 57 = .ok (.iload 7, 2) := by decide +kernel
theorem dX2_firstAt_59 : decode cX2_firstAt 59 = .ok (.iaload, 1) := by decide +kernel
theorem dX2_firstAt_60 : decode cX2_firstAt 60 = .ok (.imul, 1) := by decide +kernel
theorem dX2_firstAt_61 : decode cX2_firstAt 61 = .ok (.aload_n 0, 1) := by decide +kernel
theorem dX2_firstAt_62 : decode cX2_firstAt 62 = .ok (.getfield 37, 3) := by decide +kernel
theorem dX2_firstAt_65 : decode cX2_firstAt 65 = .ok (.iload 7, 2) := by decide +kernel
theorem dX2_firstAt_67 : decode cX2_firstAt 67 = .ok (.iaload, 1) := by decide +kernel
theorem dX2_firstAt_68 : decode cX2_firstAt 68 = .ok (.iadd, 1) := by decide +kernel
theorem dX2_firstAt_69 : decode cX2_firstAt 69 = .ok (.istore 5, 2) := by decide +kernel
theorem dX2_firstAt_71 : decode cX2_firstAt 71 = .ok (.aload_n 0, 1) := by decide +kernel
theorem dX2_firstAt_72 : decode cX2_firstAt 72 = .ok (.getfield 31, 3) := by decide +kernel
theorem dX2_firstAt_75 : decode cX2_firstAt 75 = .ok (.iload 7, 2) := by decide +kernel
theorem dX2_firstAt_77 : decode cX2_firstAt 77 = .ok (.iaload, 1) := by decide +kernel
theorem dX2_firstAt_78 : decode cX2_firstAt 78 = .ok (.aload_n 0, 1) := by decide +kernel
theorem dX2_firstAt_79 : decode cX2_firstAt 79 = .ok (.getfield 37, 3) := by decide +kernel
theorem dX2_firstAt_82 : decode cX2_firstAt 82 = .ok (.iload 7, 2) := by decide +kernel
theorem dX2_firstAt_84 : decode cX2_firstAt 84 = .ok (.iaload, 1) := by decide +kernel
theorem dX2_firstAt_85 : decode cX2_firstAt 85 = .ok (.iadd, 1) := by decide +kernel
theorem dX2_firstAt_86 : decode cX2_firstAt 86 = .ok (.istore_n 3, 1) := by decide +kernel
theorem dX2_firstAt_87 : decode cX2_firstAt 87 = .ok (.aload_n 0, 1) := by decide +kernel
theorem dX2_firstAt_88 : decode cX2_firstAt 88 = .ok (.iload_n 2, 1) := by decide +kernel
theorem dX2_firstAt_89 : decode cX2_firstAt 89 = .ok (.iload 7, 2) := by decide +kernel
theorem dX2_firstAt_91 : decode cX2_firstAt 91 = .ok (.invokevirtual 145, 3) := by decide +kernel
theorem dX2_firstAt_94 : decode cX2_firstAt 94 = .ok (.istore 4, 2) := by decide +kernel
theorem dX2_firstAt_96 : decode cX2_firstAt 96 = .ok (.iload_n 2, 1) := by decide +kernel
theorem dX2_firstAt_97 : decode cX2_firstAt 97 = .ok (.aload_n 0, 1) := by decide +kernel
theorem dX2_firstAt_98 : decode cX2_firstAt 98 = .ok (.getfield 28, 3) := by decide +kernel
theorem dX2_firstAt_101 : decode cX2_firstAt 101 = .ok (.iload 7, 2) := by decide +kernel
theorem dX2_firstAt_103 : decode cX2_firstAt 103 = .ok (.iaload, 1) := by decide +kernel
theorem dX2_firstAt_104 : decode cX2_firstAt 104 = .ok (.iadd, 1) := by decide +kernel
theorem dX2_firstAt_105 : decode cX2_firstAt 105 = .ok (.istore_n 2, 1) := by decide +kernel
theorem dX2_firstAt_106 : decode cX2_firstAt 106 = .ok (.aload_n 0, 1) := by decide +kernel
theorem dX2_firstAt_107 : decode cX2_firstAt 107 = .ok (.getfield 37, 3) := by decide +kernel
theorem dX2_firstAt_110 : decode cX2_firstAt 110 = .ok (.iload 7, 2) := by decide +kernel
theorem dX2_firstAt_112 : decode cX2_firstAt 112 = .ok (.dup2, 1) := by decide +kernel
theorem dX2_firstAt_113 : decode cX2_firstAt 113 = .ok (.iaload, 1) := by decide +kernel
theorem dX2_firstAt_114 : decode cX2_firstAt 114 = .ok (.iconst 1, 1) := by decide +kernel
theorem dX2_firstAt_115 : decode cX2_firstAt 115 = .ok (.iadd, 1) := by decide +kernel
theorem dX2_firstAt_116 : decode cX2_firstAt 116 = .ok (.iastore, 1) := by decide +kernel
theorem dX2_firstAt_117 : decode cX2_firstAt 117 = .ok (.iinc 6 1, 3) := by decide +kernel
theorem dX2_firstAt_120 : decode cX2_firstAt 120 = .ok (.goto (-85), 3) := by decide +kernel
theorem dX2_firstAt_123 : decode cX2_firstAt 123 = .ok (.iload 5, 2) := by decide +kernel
theorem dX2_firstAt_125 : decode cX2_firstAt 125 = .ok (.ireturn, 1) := by decide +kernel
theorem dX2_lowestBest_0 : decode cX2_lowestBest 0 = .ok (.aload_n 0, 1) := by decide +kernel
theorem dX2_lowestBest_1 : decode cX2_lowestBest 1 = .ok (.iload_n 1, 1) := by decide +kernel
theorem dX2_lowestBest_2 : decode cX2_lowestBest 2 = .ok (.invokevirtual 134, 3) := by decide +kernel
theorem dX2_lowestBest_5 : decode cX2_lowestBest 5 = .ok (.iconst 0, 1) := by decide +kernel
theorem dX2_lowestBest_6 : decode cX2_lowestBest 6 = .ok (.istore 4, 2) := by decide +kernel
theorem dX2_lowestBest_8 : decode cX2_lowestBest 8 = .ok (.iload 4, 2) := by decide +kernel
theorem dX2_lowestBest_10 : decode cX2_lowestBest 10 = .ok (.aload_n 0, 1) := by decide +kernel
theorem dX2_lowestBest_11 : decode cX2_lowestBest 11 = .ok (.getfield 53, 3) := by decide +kernel
theorem dX2_lowestBest_14 : decode cX2_lowestBest 14 = .ok (.if_icmp .ge 27, 3) := by decide +kernel
theorem dX2_lowestBest_17 : decode cX2_lowestBest 17 = .ok (.aload_n 0, 1) := by decide +kernel
theorem dX2_lowestBest_18 : decode cX2_lowestBest 18 = .ok (.iload 4, 2) := by decide +kernel
theorem dX2_lowestBest_20 : decode cX2_lowestBest 20 = .ok (.iload_n 2, 1) := by decide +kernel
theorem dX2_lowestBest_21 : decode cX2_lowestBest 21 = .ok (.invokevirtual 155, 3) := by decide +kernel
theorem dX2_lowestBest_24 : decode cX2_lowestBest 24 = .ok (.aload_n 0, 1) := by decide +kernel
theorem dX2_lowestBest_25 : decode cX2_lowestBest 25 = .ok (.iload_n 3, 1) := by decide +kernel
theorem dX2_lowestBest_26 : decode cX2_lowestBest 26 = .ok (.invokevirtual 148, 3) := by decide +kernel
theorem dX2_lowestBest_29 : decode cX2_lowestBest 29 = .ok (.if_icmp .ne 6, 3) := by decide +kernel
theorem dX2_lowestBest_32 : decode cX2_lowestBest 32 = .ok (.iload 4, 2) := by decide +kernel
theorem dX2_lowestBest_34 : decode cX2_lowestBest 34 = .ok (.ireturn, 1) := by decide +kernel
theorem dX2_lowestBest_35 : decode cX2_lowestBest 35 = .ok (.iinc 4 1, 3) := by decide +kernel
theorem dX2_lowestBest_38 : decode cX2_lowestBest 38 = .ok (.goto (-30), 3) := by decide +kernel
theorem dX2_lowestBest_41 : decode cX2_lowestBest 41 = .ok (.iconst 0, 1) := by decide +kernel
theorem dX2_lowestBest_42 : decode cX2_lowestBest 42 = .ok (.ireturn, 1) := by decide +kernel
theorem dX2_certain_0 : decode cX2_certain 0 = .ok (.aload_n 0, 1) := by decide +kernel
theorem dX2_certain_1 : decode cX2_certain 1 = .ok (.getfield 66, 3) := by decide +kernel
theorem dX2_certain_4 : decode cX2_certain 4 = .ok (.ifCond .ne 12, 3) := by decide +kernel
theorem dX2_certain_7 : decode cX2_certain 7 = .ok (.aload_n 0, 1) := by decide +kernel
theorem dX2_certain_8 : decode cX2_certain 8 = .ok (.invokevirtual 170, 3) := by decide +kernel
theorem dX2_certain_11 : decode cX2_certain 11 = .ok (.aload_n 0, 1) := by decide +kernel
theorem dX2_certain_12 : decode cX2_certain 12 = .ok (.iconst 1, 1) := by decide +kernel
theorem dX2_certain_13 : decode cX2_certain 13 = .ok (.putfield 66, 3) := by decide +kernel
theorem dX2_certain_16 : decode cX2_certain 16 = .ok (.bipush 20, 2) := by decide +kernel
theorem dX2_certain_18 : decode cX2_certain 18 = .ok (.aload_n 0, 1) := by decide +kernel
theorem dX2_certain_19 : decode cX2_certain 19 = .ok (.iload_n 1, 1) := by decide +kernel
theorem dX2_certain_20 : decode cX2_certain 20 = .ok (.invokevirtual 173, 3) := by decide +kernel
theorem dX2_certain_23 : decode cX2_certain 23 = .ok (.imul, 1) := by decide +kernel
theorem dX2_certain_24 : decode cX2_certain 24 = .ok (.aload_n 0, 1) := by decide +kernel
theorem dX2_certain_25 : decode cX2_certain 25 = .ok (.iload_n 2, 1) := by decide +kernel
theorem dX2_certain_26 : decode cX2_certain 26 = .ok (.invokevirtual 173, 3) := by decide +kernel
theorem dX2_certain_29 : decode cX2_certain 29 = .ok (.iadd, 1) := by decide +kernel
theorem dX2_certain_30 : decode cX2_certain 30 = .ok (.istore_n 3, 1) := by decide +kernel
theorem dX2_certain_31 : decode cX2_certain 31 = .ok (.iload_n 3, 1) := by decide +kernel
theorem dX2_certain_32 : decode cX2_certain 32 = .ok (.ifCond .lt 21, 3) := by decide +kernel
theorem dX2_certain_35 : decode cX2_certain 35 = .ok (.iload_n 3, 1) := by decide +kernel
theorem dX2_certain_36 : decode cX2_certain 36 = .ok (.aload_n 0, 1) := by decide +kernel
theorem dX2_certain_37 : decode cX2_certain 37 = .ok (.getfield 50, 3) := by decide +kernel
theorem dX2_certain_40 : decode cX2_certain 40 = .ok (.arraylength, 1) := by decide +kernel
theorem dX2_certain_41 : decode cX2_certain 41 = .ok (.if_icmp .ge 12, 3) := by decide +kernel
theorem dX2_certain_44 : decode cX2_certain 44 = .ok (.aload_n 0, 1) := by decide +kernel
theorem dX2_certain_45 : decode cX2_certain 45 = .ok (.getfield 50, 3) := by decide +kernel
theorem dX2_certain_48 : decode cX2_certain 48 = .ok (.iload_n 3, 1) := by decide +kernel
theorem dX2_certain_49 : decode cX2_certain 49 = .ok (.laload, 1) := by decide +kernel
theorem dX2_certain_50 : decode cX2_certain 50 = .ok (.goto 4, 3) := by decide +kernel
theorem dX2_certain_53 : decode cX2_certain 53 = .ok (.lconst 0, 1) := by decide +kernel
theorem dX2_certain_54 : decode cX2_certain 54 = .ok (.lstore 4, 2) := by decide +kernel
theorem dX2_certain_56 : decode cX2_certain 56 = .ok (.lload 4, 2) := by decide +kernel
theorem dX2_certain_58 : decode cX2_certain 58 = .ok (.lconst 0, 1) := by decide +kernel
theorem dX2_certain_59 : decode cX2_certain 59 = .ok (.lcmp, 1) := by decide +kernel
theorem dX2_certain_60 : decode cX2_certain 60 = .ok (.ifCond .ne 5, 3) := by decide +kernel
theorem dX2_certain_63 : decode cX2_certain 63 = .ok (.iconst 0, 1) := by decide +kernel
theorem dX2_certain_64 : decode cX2_certain 64 = .ok (.ireturn, 1) := by decide +kernel
theorem dX2_certain_65 : decode cX2_certain 65 = .ok (.lload 4, 2) := by decide +kernel
theorem dX2_certain_67 : decode cX2_certain 67 = .ok (.aload_n 0, 1) := by decide +kernel
theorem dX2_certain_68 : decode cX2_certain 68 = .ok (.invokevirtual 176, 3) := by decide +kernel
theorem dX2_certain_71 : decode cX2_certain 71 = .ok (.lcmp, 1) := by decide +kernel
theorem dX2_certain_72 : decode cX2_certain 72 = .ok (.ifCond .ne 7, 3) := by decide +kernel
theorem dX2_certain_75 : decode cX2_certain 75 = .ok (.iconst 1, 1) := by decide +kernel
theorem dX2_certain_76 : decode cX2_certain 76 = .ok (.goto 4, 3) := by decide +kernel
theorem dX2_certain_79 : decode cX2_certain 79 = .ok (.iconst (-1), 1) := by decide +kernel
theorem dX2_certain_80 : decode cX2_certain 80 = .ok (.ireturn, 1) := by decide +kernel
theorem dX2_numberOf_0 : decode cX2_numberOf 0 = .ok (.iconst 0, 1) := by decide +kernel
theorem dX2_numberOf_1 : decode cX2_numberOf 1 = .ok (.istore_n 2, 1) := by decide +kernel
theorem dX2_numberOf_2 : decode cX2_numberOf 2 = .ok (.iload_n 2, 1) := by decide +kernel
theorem dX2_numberOf_3 : decode cX2_numberOf 3 = .ok (.aload_n 0, 1) := by decide +kernel
theorem dX2_numberOf_4 : decode cX2_numberOf 4 = .ok (.getfield 53, 3) := by decide +kernel
theorem dX2_numberOf_7 : decode cX2_numberOf 7 = .ok (.if_icmp .ge 34, 3) := by decide +kernel
theorem dX2_numberOf_10 : decode cX2_numberOf 10 = .ok (.aload_n 0, 1) := by decide +kernel
theorem dX2_numberOf_11 : decode cX2_numberOf 11 = .ok (.getfield 21, 3) := by decide +kernel
theorem dX2_numberOf_14 : decode cX2_numberOf 14 = .ok (.iload_n 2, 1) := by decide +kernel
theorem dX2_numberOf_15 : decode cX2_numberOf 15 = .ok (.iaload, 1) := by decide +kernel
theorem dX2_numberOf_16 : decode cX2_numberOf 16 = .ok (.iload_n 1, 1) := by decide +kernel
theorem dX2_numberOf_17 : decode cX2_numberOf 17 = .ok (.invokestatic 111, 3) := by decide +kernel
theorem dX2_numberOf_20 : decode cX2_numberOf 20 = .ok (.if_icmp .ne 15, 3) := by decide +kernel
theorem dX2_numberOf_23 : decode cX2_numberOf 23 = .ok (.aload_n 0, 1) := by decide +kernel
theorem dX2_numberOf_24 : decode cX2_numberOf 24 = .ok (.getfield 31, 3) := by decide +kernel
theorem dX2_numberOf_27 : decode cX2_numberOf 27 = .ok (.iload_n 2, 1) := by decide +kernel
theorem dX2_numberOf_28 : decode cX2_numberOf 28 = .ok (.iaload, 1) := by decide +kernel
theorem dX2_numberOf_29 : decode cX2_numberOf 29 = .ok (.iload_n 1, 1) := by decide +kernel
theorem dX2_numberOf_30 : decode cX2_numberOf 30 = .ok (.bipush 16, 2) := by decide +kernel
theorem dX2_numberOf_32 : decode cX2_numberOf 32 = .ok (.irem, 1) := by decide +kernel
theorem dX2_numberOf_33 : decode cX2_numberOf 33 = .ok (.iadd, 1) := by decide +kernel
theorem dX2_numberOf_34 : decode cX2_numberOf 34 = .ok (.ireturn, 1) := by decide +kernel
theorem dX2_numberOf_35 : decode cX2_numberOf 35 = .ok (.iinc 2 1, 3) := by decide +kernel
theorem dX2_numberOf_38 : decode cX2_numberOf 38 = .ok (.goto (-36), 3) := by decide +kernel
theorem dX2_numberOf_41 : decode cX2_numberOf 41 = .ok (.iconst 0, 1) := by decide +kernel
theorem dX2_numberOf_42 : decode cX2_numberOf 42 = .ok (.ireturn, 1) := by decide +kernel
theorem dX2_countPairs_0 : decode cX2_countPairs 0 = .ok (.aload_n 0, 1) := by decide +kernel
theorem dX2_countPairs_1 : decode cX2_countPairs 1 = .ok (.invokevirtual 180, 3) := by decide +kernel
theorem dX2_countPairs_4 : decode cX2_countPairs 4 = .ok (.aload_n 0, 1) := by decide +kernel
theorem dX2_countPairs_5 : decode cX2_countPairs 5 = .ok (.invokevirtual 163, 3) := by decide +kernel
theorem dX2_countPairs_8 : decode cX2_countPairs 8 = .ok (.aload_n 0, 1) := by decide +kernel
theorem dX2_countPairs_9 : decode cX2_countPairs 9 = .ok (.iconst 0, 1) := by decide +kernel
theorem dX2_countPairs_10 : decode cX2_countPairs 10 = .ok (.invokevirtual 134, 3) := by decide +kernel
theorem dX2_countPairs_13 : decode cX2_countPairs 13 = .ok (.aload_n 0, 1) := by decide +kernel
theorem dX2_countPairs_14 : decode cX2_countPairs 14 = .ok (.iconst 0, 1) := by decide +kernel
theorem dX2_countPairs_15 : decode cX2_countPairs 15 = .ok (.bipush 20, 2) := by decide +kernel
theorem dX2_countPairs_17 : decode cX2_countPairs 17 = .ok (.aload_n 0, 1) := by decide +kernel
theorem dX2_countPairs_18 : decode cX2_countPairs 18 = .ok (.invokevirtual 121, 3) := by decide +kernel
theorem dX2_countPairs_21 : decode cX2_countPairs 21 = .ok (.lconst 1, 1) := by decide +kernel
theorem dX2_countPairs_22 : decode cX2_countPairs 22 = .ok (.invokevirtual 183, 3) := by decide +kernel
theorem dX2_countPairs_25 : decode cX2_countPairs 25 = .ok (.iconst 1, 1) := by decide +kernel
theorem dX2_countPairs_26 : decode cX2_countPairs 26 = .ok (.istore_n 1, 1) := by decide +kernel
theorem dX2_countPairs_27 : decode cX2_countPairs 27 = .ok (.iload_n 1, 1) := by decide +kernel
theorem dX2_countPairs_28 : decode cX2_countPairs 28 = .ok (.aload_n 0, 1) := by decide +kernel
theorem dX2_countPairs_29 : decode cX2_countPairs 29 = .ok (.getfield 57, 3) := by decide +kernel
theorem dX2_countPairs_32 : decode cX2_countPairs 32 = .ok (.if_icmp .ge 99, 3) := by decide +kernel
theorem dX2_countPairs_35 : decode cX2_countPairs 35 = .ok (.aload_n 0, 1) := by decide +kernel
theorem dX2_countPairs_36 : decode cX2_countPairs 36 = .ok (.invokevirtual 187, 3) := by decide +kernel
theorem dX2_countPairs_39 : decode cX2_countPairs 39 = .ok (.aload_n 0, 1) := by decide +kernel
theorem dX2_countPairs_40 : decode cX2_countPairs 40 = .ok (.iload_n 1, 1) := by decide +kernel
theorem dX2_countPairs_41 : decode cX2_countPairs 41 = .ok (.invokevirtual 134, 3) := by decide +kernel
theorem dX2_countPairs_44 : decode cX2_countPairs 44 = .ok (.iconst 0, 1) := by decide +kernel
theorem dX2_countPairs_45 : decode cX2_countPairs 45 = .ok (.istore_n 2, 1) := by decide +kernel
theorem dX2_countPairs_46 : decode cX2_countPairs 46 = .ok (.iload_n 2, 1) := by decide +kernel
theorem dX2_countPairs_47 : decode cX2_countPairs 47 = .ok (.aload_n 0, 1) := by decide +kernel
theorem dX2_countPairs_48 : decode cX2_countPairs 48 = .ok (.getfield 53, 3) := by decide +kernel
theorem dX2_countPairs_51 : decode cX2_countPairs 51 = .ok (.if_icmp .ge 74, 3) := by decide +kernel
theorem dX2_countPairs_54 : decode cX2_countPairs 54 = .ok (.iload_n 1, 1) := by decide +kernel
theorem dX2_countPairs_55 : decode cX2_countPairs 55 = .ok (.aload_n 0, 1) := by decide +kernel
theorem dX2_countPairs_56 : decode cX2_countPairs 56 = .ok (.getfield 53, 3) := by decide +kernel
theorem dX2_countPairs_59 : decode cX2_countPairs 59 = .ok (.imul, 1) := by decide +kernel
theorem dX2_countPairs_60 : decode cX2_countPairs 60 = .ok (.iload_n 2, 1) := by decide +kernel
theorem dX2_countPairs_61 : decode cX2_countPairs 61 = .ok (.iadd, 1) := by decide +kernel
theorem dX2_countPairs_62 : decode cX2_countPairs 62 = .ok (.istore_n 3, 1) := by decide +kernel
theorem dX2_countPairs_63 : decode cX2_countPairs 63 = .ok (.aload_n 0, 1) := by decide +kernel
theorem dX2_countPairs_64 : decode cX2_countPairs 64 = .ok (.getfield 37, 3) := by decide +kernel
theorem dX2_countPairs_67 : decode cX2_countPairs 67 = .ok (.iload_n 2, 1) := by decide +kernel
theorem dX2_countPairs_68 : decode cX2_countPairs 68 = .ok (.iaload, 1) := by decide +kernel
theorem dX2_countPairs_69 : decode cX2_countPairs 69 = .ok (.ifCond .le 50, 3) := by decide +kernel
theorem dX2_countPairs_72 : decode cX2_countPairs 72 = .ok (.iload_n 3, 1) := by decide +kernel
theorem dX2_countPairs_73 : decode cX2_countPairs 73 = .ok (.aload_n 0, 1) := by decide +kernel
theorem dX2_countPairs_74 : decode cX2_countPairs 74 = .ok (.getfield 73, 3) := by decide +kernel
theorem dX2_countPairs_77 : decode cX2_countPairs 77 = .ok (.arraylength, 1) := by decide +kernel
theorem dX2_countPairs_78 : decode cX2_countPairs 78 = .ok (.if_icmp .ge 41, 3) := by decide +kernel
theorem dX2_countPairs_81 : decode cX2_countPairs 81 = .ok (.aload_n 0, 1) := by decide +kernel
theorem dX2_countPairs_82 : decode cX2_countPairs 82 = .ok (.getfield 73, 3) := by decide +kernel
theorem dX2_countPairs_85 : decode cX2_countPairs 85 = .ok (.iload_n 3, 1) := by decide +kernel
theorem dX2_countPairs_86 : decode cX2_countPairs 86 = .ok (.laload, 1) := by decide +kernel
theorem dX2_countPairs_87 : decode cX2_countPairs 87 = .ok (.lconst 0, 1) := by decide +kernel
theorem dX2_countPairs_88 : decode cX2_countPairs 88 = .ok (.lcmp, 1) := by decide +kernel
theorem dX2_countPairs_89 : decode cX2_countPairs 89 = .ok (.ifCond .le 30, 3) := by decide +kernel
theorem dX2_countPairs_92 : decode cX2_countPairs 92 = .ok (.aload_n 0, 1) := by decide +kernel
theorem dX2_countPairs_93 : decode cX2_countPairs 93 = .ok (.iload_n 1, 1) := by decide +kernel
theorem dX2_countPairs_94 : decode cX2_countPairs 94 = .ok (.aload_n 0, 1) := by decide +kernel
theorem dX2_countPairs_95 : decode cX2_countPairs 95 = .ok (.getfield 31, 3) := by decide +kernel
theorem dX2_countPairs_98 : decode cX2_countPairs 98 = .ok (.iload_n 2, 1) := by decide +kernel
theorem dX2_countPairs_99 : decode cX2_countPairs 99 = .ok (.iaload, 1) := by decide +kernel
theorem dX2_countPairs_100 : decode cX2_countPairs 100 = .ok (.aload_n 0, 1) := by decide +kernel
theorem dX2_countPairs_101 : decode cX2_countPairs 101 = .ok (.getfield 37, 3) := by decide +kernel
theorem dX2_countPairs_104 : decode cX2_countPairs 104 = .ok (.iload_n 2, 1) := by decide +kernel
theorem dX2_countPairs_105 : decode cX2_countPairs 105 = .ok (.iaload, 1) := by decide +kernel
theorem dX2_countPairs_106 : decode cX2_countPairs 106 = .ok (.iadd, 1) := by decide +kernel
theorem dX2_countPairs_107 : decode cX2_countPairs 107 = .ok (.iconst 1, 1) := by decide +kernel
theorem dX2_countPairs_108 : decode cX2_countPairs 108 = .ok (.isub, 1) := by decide +kernel
theorem dX2_countPairs_109 : decode cX2_countPairs 109 = .ok (.iload_n 3, 1) := by decide +kernel
theorem dX2_countPairs_110 : decode cX2_countPairs 110 = .ok (.aload_n 0, 1) := by decide +kernel
theorem dX2_countPairs_111 : decode cX2_countPairs 111 = .ok (.getfield 73, 3) := by decide +kernel
theorem dX2_countPairs_114 : decode cX2_countPairs 114 = .ok (.iload_n 3, 1) := by decide +kernel
theorem dX2_countPairs_115 : decode cX2_countPairs 115 = .ok (.laload, 1) := by decide +kernel
theorem dX2_countPairs_116 : decode cX2_countPairs 116 = .ok (.invokevirtual 183, 3) := by decide +kernel
theorem dX2_countPairs_119 : decode cX2_countPairs 119 = .ok (.iinc 2 1, 3) := by decide +kernel
theorem dX2_countPairs_122 : decode cX2_countPairs 122 = .ok (.goto (-76), 3) := by decide +kernel
theorem dX2_countPairs_125 : decode cX2_countPairs 125 = .ok (.iinc 1 1, 3) := by decide +kernel
theorem dX2_countPairs_128 : decode cX2_countPairs 128 = .ok (.goto (-101), 3) := by decide +kernel
theorem dX2_countPairs_131 : decode cX2_countPairs 131 = .ok (.return_, 1) := by decide +kernel
theorem dX2_clearPairs_0 : decode cX2_clearPairs 0 = .ok (.aload_n 0, 1) := by decide +kernel
theorem dX2_clearPairs_1 : decode cX2_clearPairs 1 = .ok (.getfield 73, 3) := by decide +kernel
theorem dX2_clearPairs_4 : decode cX2_clearPairs 4 = .ok (.arraylength, 1) := by decide +kernel
theorem dX2_clearPairs_5 : decode cX2_clearPairs 5 = .ok (.aload_n 0, 1) := by decide +kernel
theorem dX2_clearPairs_6 : decode cX2_clearPairs 6 = .ok (.getfield 70, 3) := by decide +kernel
theorem dX2_clearPairs_9 : decode cX2_clearPairs 9 = .ok (.arraylength, 1) := by decide +kernel
theorem dX2_clearPairs_10 : decode cX2_clearPairs 10 = .ok (.if_icmp .ge 14, 3) := by decide +kernel
theorem dX2_clearPairs_13 : decode cX2_clearPairs 13 = .ok (.aload_n 0, 1) := by decide +kernel
theorem dX2_clearPairs_14 : decode cX2_clearPairs 14 = .ok (.aload_n 0, 1) := by decide +kernel
theorem dX2_clearPairs_15 : decode cX2_clearPairs 15 = .ok (.getfield 70, 3) := by decide +kernel
theorem dX2_clearPairs_18 : decode cX2_clearPairs 18 = .ok (.arraylength, 1) := by decide +kernel
theorem dX2_clearPairs_19 : decode cX2_clearPairs 19 = .ok (.newarray .long, 2) := by decide +kernel
theorem dX2_clearPairs_21 : decode cX2_clearPairs 21 = .ok (.putfield 73, 3) := by decide +kernel
theorem dX2_clearPairs_24 : decode cX2_clearPairs 24 = .ok (.iconst 0, 1) := by decide +kernel
theorem dX2_clearPairs_25 : decode cX2_clearPairs 25 = .ok (.istore_n 1, 1) := by decide +kernel
theorem dX2_clearPairs_26 : decode cX2_clearPairs 26 = .ok (.iload_n 1, 1) := by decide +kernel
theorem dX2_clearPairs_27 : decode cX2_clearPairs 27 = .ok (.aload_n 0, 1) := by decide +kernel
theorem dX2_clearPairs_28 : decode cX2_clearPairs 28 = .ok (.getfield 73, 3) := by decide +kernel
theorem dX2_clearPairs_31 : decode cX2_clearPairs 31 = .ok (.arraylength, 1) := by decide +kernel
theorem dX2_clearPairs_32 : decode cX2_clearPairs 32 = .ok (.if_icmp .ge 16, 3) := by decide +kernel
theorem dX2_clearPairs_35 : decode cX2_clearPairs 35 = .ok (.aload_n 0, 1) := by decide +kernel
theorem dX2_clearPairs_36 : decode cX2_clearPairs 36 = .ok (.getfield 73, 3) := by decide +kernel
theorem dX2_clearPairs_39 : decode cX2_clearPairs 39 = .ok (.iload_n 1, 1) := by decide +kernel
theorem dX2_clearPairs_40 : decode cX2_clearPairs 40 = .ok (.lconst 0, 1) := by decide +kernel
theorem dX2_clearPairs_41 : decode cX2_clearPairs 41 = .ok (.lastore, 1) := by decide +kernel
theorem dX2_clearPairs_42 : decode cX2_clearPairs 42 = .ok (.iinc 1 1, 3) := by decide +kernel
theorem dX2_clearPairs_45 : decode cX2_clearPairs 45 = .ok (.goto (-19), 3) := by decide +kernel
theorem dX2_clearPairs_48 : decode cX2_clearPairs 48 = .ok (.iconst 0, 1) := by decide +kernel
theorem dX2_clearPairs_49 : decode cX2_clearPairs 49 = .ok (.istore_n 1, 1) := by decide +kernel
theorem dX2_clearPairs_50 : decode cX2_clearPairs 50 = .ok (.iload_n 1, 1) := by decide +kernel
theorem dX2_clearPairs_51 : decode cX2_clearPairs 51 = .ok (.aload_n 0, 1) := by decide +kernel
theorem dX2_clearPairs_52 : decode cX2_clearPairs 52 = .ok (.getfield 50, 3) := by decide +kernel
theorem dX2_clearPairs_55 : decode cX2_clearPairs 55 = .ok (.arraylength, 1) := by decide +kernel
theorem dX2_clearPairs_56 : decode cX2_clearPairs 56 = .ok (.if_icmp .ge 16, 3) := by decide +kernel
theorem dX2_clearPairs_59 : decode cX2_clearPairs 59 = .ok (.aload_n 0, 1) := by decide +kernel
theorem dX2_clearPairs_60 : decode cX2_clearPairs 60 = .ok (.getfield 50, 3) := by decide +kernel
theorem dX2_clearPairs_63 : decode cX2_clearPairs 63 = .ok (.iload_n 1, 1) := by decide +kernel
theorem dX2_clearPairs_64 : decode cX2_clearPairs 64 = .ok (.lconst 0, 1) := by decide +kernel
theorem dX2_clearPairs_65 : decode cX2_clearPairs 65 = .ok (.lastore, 1) := by decide +kernel
theorem dX2_clearPairs_66 : decode cX2_clearPairs 66 = .ok (.iinc 1 1, 3) := by decide +kernel
theorem dX2_clearPairs_69 : decode cX2_clearPairs 69 = .ok (.goto (-19), 3) := by decide +kernel
theorem dX2_clearPairs_72 : decode cX2_clearPairs 72 = .ok (.return_, 1) := by decide +kernel
theorem dX2_spread_0 : decode cX2_spread 0 = .ok (.iconst 0, 1) := by decide +kernel
theorem dX2_spread_1 : decode cX2_spread 1 = .ok (.istore 6, 2) := by decide +kernel
theorem dX2_spread_3 : decode cX2_spread 3 = .ok (.iload 6, 2) := by decide +kernel
theorem dX2_spread_5 : decode cX2_spread 5 = .ok (.aload_n 0, 1) := by decide +kernel
theorem dX2_spread_6 : decode cX2_spread 6 = .ok (.getfield 53, 3) := by decide +kernel
theorem dX2_spread_9 : decode cX2_spread 9 = .ok (.if_icmp .ge 107, 3) := by decide +kernel
theorem dX2_spread_12 : decode cX2_spread 12 = .ok (.aload_n 0, 1) := by decide +kernel
theorem dX2_spread_13 : decode cX2_spread 13 = .ok (.iload 6, 2) := by decide +kernel
theorem dX2_spread_15 : decode cX2_spread 15 = .ok (.iload_n 2, 1) := by decide +kernel
theorem dX2_spread_16 : decode cX2_spread 16 = .ok (.invokevirtual 155, 3) := by decide +kernel
theorem dX2_spread_19 : decode cX2_spread 19 = .ok (.aload_n 0, 1) := by decide +kernel
theorem dX2_spread_20 : decode cX2_spread 20 = .ok (.iload_n 3, 1) := by decide +kernel
theorem dX2_spread_21 : decode cX2_spread 21 = .ok (.invokevirtual 148, 3) := by decide +kernel
theorem dX2_spread_24 : decode cX2_spread 24 = .ok (.if_icmp .ne 86, 3) := by decide +kernel
theorem dX2_spread_27 : decode cX2_spread 27 = .ok (.aload_n 0, 1) := by decide +kernel
theorem dX2_spread_28 : decode cX2_spread 28 = .ok (.iload_n 1, 1) := by decide +kernel
theorem dX2_spread_29 : decode cX2_spread 29 = .ok (.iload 6, 2) := by decide +kernel
theorem dX2_spread_31 : decode cX2_spread 31 = .ok (.invokevirtual 145, 3) := by decide +kernel
theorem dX2_spread_34 : decode cX2_spread 34 = .ok (.istore 7, 2) := by decide +kernel
theorem dX2_spread_36 : decode cX2_spread 36 = .ok (.bipush 20, 2) := by decide +kernel
theorem dX2_spread_38 : decode cX2_spread 38 = .ok (.iload_n 2, 1) := by decide +kernel
theorem dX2_spread_39 : decode cX2_spread 39 = .ok (.imul, 1) := by decide +kernel
theorem dX2_spread_40 : decode cX2_spread 40 = .ok (.aload_n 0, 1) := by decide +kernel
theorem dX2_spread_41 : decode cX2_spread 41 = .ok (.getfield 31, 3) := by decide +kernel
theorem dX2_spread_44 : decode cX2_spread 44 = .ok (.iload 6, 2) := by decide +kernel
theorem dX2_spread_46 : decode cX2_spread 46 = .ok (.iaload, 1) := by decide +kernel
theorem dX2_spread_47 : decode cX2_spread 47 = .ok (.iadd, 1) := by decide +kernel
theorem dX2_spread_48 : decode cX2_spread 48 = .ok (.aload_n 0, 1) := by decide +kernel
theorem dX2_spread_49 : decode cX2_spread 49 = .ok (.getfield 37, 3) := by decide +kernel
theorem dX2_spread_52 : decode cX2_spread 52 = .ok (.iload 6, 2) := by decide +kernel
theorem dX2_spread_54 : decode cX2_spread 54 = .ok (.iaload, 1) := by decide +kernel
theorem dX2_spread_55 : decode cX2_spread 55 = .ok (.iadd, 1) := by decide +kernel
theorem dX2_spread_56 : decode cX2_spread 56 = .ok (.istore 8, 2) := by decide +kernel
theorem dX2_spread_58 : decode cX2_spread 58 = .ok (.iload 7, 2) := by decide +kernel
theorem dX2_spread_60 : decode cX2_spread 60 = .ok (.aload_n 0, 1) := by decide +kernel
theorem dX2_spread_61 : decode cX2_spread 61 = .ok (.getfield 73, 3) := by decide +kernel
theorem dX2_spread_64 : decode cX2_spread 64 = .ok (.arraylength, 1) := by decide +kernel
theorem dX2_spread_65 : decode cX2_spread 65 = .ok (.if_icmp .ge 45, 3) := by decide +kernel
theorem dX2_spread_68 : decode cX2_spread 68 = .ok (.iload 8, 2) := by decide +kernel
theorem dX2_spread_70 : decode cX2_spread 70 = .ok (.aload_n 0, 1) := by decide +kernel
theorem dX2_spread_71 : decode cX2_spread 71 = .ok (.getfield 50, 3) := by decide +kernel
theorem dX2_spread_74 : decode cX2_spread 74 = .ok (.arraylength, 1) := by decide +kernel
theorem dX2_spread_75 : decode cX2_spread 75 = .ok (.if_icmp .ge 35, 3) := by decide +kernel
theorem dX2_spread_78 : decode cX2_spread 78 = .ok (.aload_n 0, 1) := by decide +kernel
theorem dX2_spread_79 : decode cX2_spread 79 = .ok (.getfield 73, 3) := by decide +kernel
theorem dX2_spread_82 : decode cX2_spread 82 = .ok (.iload 7, 2) := by decide +kernel
theorem dX2_spread_84 : decode cX2_spread 84 = .ok (.dup2, 1) := by decide +kernel
theorem dX2_spread_85 : decode cX2_spread 85 = .ok (.laload, 1) := by decide +kernel
theorem dX2_spread_86 : decode cX2_spread 86 = .ok (.lload 4, 2) := by decide +kernel
theorem dX2_spread_88 : decode cX2_spread 88 = .ok (.ladd, 1) := by decide +kernel
theorem dX2_spread_89 : decode cX2_spread 89 = .ok (.lastore, 1) := by decide +kernel
theorem dX2_spread_90 : decode cX2_spread 90 = .ok (.aload_n 0, 1) := by decide +kernel
theorem dX2_spread_91 : decode cX2_spread 91 = .ok (.getfield 50, 3) := by decide +kernel
theorem dX2_spread_94 : decode cX2_spread 94 = .ok (.iload 8, 2) := by decide +kernel
theorem dX2_spread_96 : decode cX2_spread 96 = .ok (.dup2, 1) := by decide +kernel
theorem dX2_spread_97 : decode cX2_spread 97 = .ok (.laload, 1) := by decide +kernel
theorem dX2_spread_98 : decode cX2_spread 98 = .ok (.lload 4, 2) := by decide +kernel
theorem dX2_spread_100 : decode cX2_spread 100 = .ok (.aload_n 0, 1) := by decide +kernel
theorem dX2_spread_101 : decode cX2_spread 101 = .ok (.getfield 46, 3) := by decide +kernel
theorem dX2_spread_104 : decode cX2_spread 104 = .ok (.iload 6, 2) := by decide +kernel
theorem dX2_spread_106 : decode cX2_spread 106 = .ok (.laload, 1) := by decide +kernel
theorem dX2_spread_107 : decode cX2_spread 107 = .ok (.lmul, 1) := by decide +kernel
theorem dX2_spread_108 : decode cX2_spread 108 = .ok (.ladd, 1) := by decide +kernel
theorem dX2_spread_109 : decode cX2_spread 109 = .ok (.lastore, 1) := by decide +kernel
theorem dX2_spread_110 : decode cX2_spread 110 = .ok (.iinc 6 1, 3) := by decide +kernel
theorem dX2_spread_113 : decode cX2_spread 113 = .ok (.goto (-110), 3) := by decide +kernel
theorem dX2_spread_116 : decode cX2_spread 116 = .ok (.return_, 1) := by decide +kernel
theorem dX3_init_0 : decode cX3_init 0 = .ok (.aload_n 0, 1) := by decide +kernel
theorem dX3_init_1 : decode cX3_init 1 = .ok (.invokespecial 1, 3) := by decide +kernel
theorem dX3_init_4 : decode cX3_init 4 = .ok (.aload_n 0, 1) := by decide +kernel
theorem dX3_init_5 : decode cX3_init 5 = .ok (.bipush 20, 2) := by decide +kernel
theorem dX3_init_7 : decode cX3_init 7 = .ok (.newarray .int, 2) := by decide +kernel
theorem dX3_init_9 : decode cX3_init 9 = .ok (.putfield 9, 3) := by decide +kernel
theorem dX3_init_12 : decode cX3_init 12 = .ok (.aload_n 0, 1) := by decide +kernel
theorem dX3_init_13 : decode cX3_init 13 = .ok (.iconst 0, 1) := by decide +kernel
theorem dX3_init_14 : decode cX3_init 14 = .ok (.putfield 15, 3) := by decide +kernel
theorem dX3_init_17 : decode cX3_init 17 = .ok (.return_, 1) := by decide +kernel
theorem dX3_joins_0 : decode cX3_joins 0 = .ok (.iconst 0, 1) := by decide +kernel
theorem dX3_joins_1 : decode cX3_joins 1 = .ok (.ireturn, 1) := by decide +kernel
theorem dX3_mostJoined_0 : decode cX3_mostJoined 0 = .ok (.iconst 0, 1) := by decide +kernel
theorem dX3_mostJoined_1 : decode cX3_mostJoined 1 = .ok (.ireturn, 1) := by decide +kernel
theorem dX3_grown_0 : decode cX3_grown 0 = .ok (.lload_n 1, 1) := by decide +kernel
theorem dX3_grown_1 : decode cX3_grown 1 = .ok (.lreturn, 1) := by decide +kernel
theorem dX3_takeAll_0 : decode cX3_takeAll 0 = .ok (.aload_n 0, 1) := by decide +kernel
theorem dX3_takeAll_1 : decode cX3_takeAll 1 = .ok (.iconst 0, 1) := by decide +kernel
theorem dX3_takeAll_2 : decode cX3_takeAll 2 = .ok (.putfield 15, 3) := by decide +kernel
theorem dX3_takeAll_5 : decode cX3_takeAll 5 = .ok (.iconst 1, 1) := by decide +kernel
theorem dX3_takeAll_6 : decode cX3_takeAll 6 = .ok (.istore_n 1, 1) := by decide +kernel
theorem dX3_takeAll_7 : decode cX3_takeAll 7 = .ok (.iconst 0, 1) := by decide +kernel
theorem dX3_takeAll_8 : decode cX3_takeAll 8 = .ok (.istore_n 2, 1) := by decide +kernel
theorem dX3_takeAll_9 : decode cX3_takeAll 9 = .ok (.iload_n 2, 1) := by decide +kernel
theorem dX3_takeAll_10 : decode cX3_takeAll 10 = .ok (.bipush 20, 2) := by decide +kernel
theorem dX3_takeAll_12 : decode cX3_takeAll 12 = .ok (.if_icmp .ge 56, 3) := by decide +kernel
theorem dX3_takeAll_15 : decode cX3_takeAll 15 = .ok (.iload_n 1, 1) := by decide +kernel
theorem dX3_takeAll_16 : decode cX3_takeAll 16 = .ok (.ifCond .eq 52, 3) := by decide +kernel
theorem dX3_takeAll_19 : decode cX3_takeAll 19 = .ok (.aload_n 0, 1) := by decide +kernel
theorem dX3_takeAll_20 : decode cX3_takeAll 20 = .ok (.getfield 9, 3) := by decide +kernel
theorem dX3_takeAll_23 : decode cX3_takeAll 23 = .ok (.iload_n 2, 1) := by decide +kernel
theorem dX3_takeAll_24 : decode cX3_takeAll 24 = .ok (.aload_n 0, 1) := by decide +kernel
theorem dX3_takeAll_25 : decode cX3_takeAll 25 = .ok (.invokevirtual 19, 3) := by decide +kernel
theorem dX3_takeAll_28 : decode cX3_takeAll 28 = .ok (.iastore, 1) := by decide +kernel
theorem dX3_takeAll_29 : decode cX3_takeAll 29 = .ok (.aload_n 0, 1) := by decide +kernel
theorem dX3_takeAll_30 : decode cX3_takeAll 30 = .ok (.dup, 1) := by decide +kernel
theorem dX3_takeAll_31 : decode cX3_takeAll 31 = .ok (.getfield 15, 3) := by decide +kernel
theorem dX3_takeAll_34 : decode cX3_takeAll 34 = .ok (.iconst 1, 1) := by decide +kernel
theorem dX3_takeAll_35 : decode cX3_takeAll 35 = .ok (.iadd, 1) := by decide +kernel
theorem dX3_takeAll_36 : decode cX3_takeAll 36 = .ok (.putfield 15, 3) := by decide +kernel
theorem dX3_takeAll_39 : decode cX3_takeAll 39 = .ok (.iload_n 2, 1) := by decide +kernel
theorem dX3_takeAll_40 : decode cX3_takeAll 40 = .ok (.iconst 1, 1) := by decide +kernel
theorem dX3_takeAll_41 : decode cX3_takeAll 41 = .ok (.iadd, 1) := by decide +kernel
theorem dX3_takeAll_42 : decode cX3_takeAll 42 = .ok (.bipush 20, 2) := by decide +kernel
theorem dX3_takeAll_44 : decode cX3_takeAll 44 = .ok (.if_icmp .ge 16, 3) := by decide +kernel
theorem dX3_takeAll_47 : decode cX3_takeAll 47 = .ok (.aload_n 0, 1) := by decide +kernel
theorem dX3_takeAll_48 : decode cX3_takeAll 48 = .ok (.bipush 47, 2) := by decide +kernel
theorem dX3_takeAll_50 : decode cX3_takeAll 50 = .ok (.invokevirtual 23, 3) := by decide +kernel
theorem dX3_takeAll_53 : decode cX3_takeAll 53 = .ok (.ifCond .eq 7, 3) := by decide +kernel
theorem dX3_takeAll_56 : decode cX3_takeAll 56 = .ok (.iconst 1, 1) := by decide +kernel
theorem dX3_takeAll_57 : decode cX3_takeAll 57 = .ok (.goto 4, 3) := by decide +kernel
theorem dX3_takeAll_60 : decode cX3_takeAll 60 = .ok (.iconst 0, 1) := by decide +kernel
theorem dX3_takeAll_61 : decode cX3_takeAll 61 = .ok (.istore_n 1, 1) := by decide +kernel
theorem dX3_takeAll_62 : decode cX3_takeAll 62 = .ok (.iinc 2 1, 3) := by decide +kernel
theorem dX3_takeAll_65 : decode cX3_takeAll 65 = .ok (.goto (-56), 3) := by decide +kernel
theorem dX3_takeAll_68 : decode cX3_takeAll 68 = .ok (.return_, 1) := by decide +kernel
theorem dX3_takeScene_0 : decode cX3_takeScene 0 = .ok (.iconst 0, 1) := by decide +kernel
theorem dX3_takeScene_1 : decode cX3_takeScene 1 = .ok (.istore_n 1, 1) := by decide +kernel
theorem dX3_takeScene_2 : decode cX3_takeScene 2 = .ok (.iconst 1, 1) := by decide +kernel
theorem dX3_takeScene_3 : decode cX3_takeScene 3 = .ok (.istore_n 2, 1) := by decide +kernel
theorem dX3_takeScene_4 : decode cX3_takeScene 4 = .ok (.iconst 0, 1) := by decide +kernel
theorem dX3_takeScene_5 : decode cX3_takeScene 5 = .ok (.istore_n 3, 1) := by decide +kernel
theorem dX3_takeScene_6 : decode cX3_takeScene 6 = .ok (.iload_n 3, 1) := by decide +kernel
theorem dX3_takeScene_7 : decode cX3_takeScene 7 = .ok (.bipush 10, 2) := by decide +kernel
theorem dX3_takeScene_9 : decode cX3_takeScene 9 = .ok (.if_icmp .ge 64, 3) := by decide +kernel
theorem dX3_takeScene_12 : decode cX3_takeScene 12 = .ok (.iload_n 2, 1) := by decide +kernel
theorem dX3_takeScene_13 : decode cX3_takeScene 13 = .ok (.ifCond .eq 60, 3) := by decide +kernel
theorem dX3_takeScene_16 : decode cX3_takeScene 16 = .ok (.aload_n 0, 1) := by decide +kernel
theorem dX3_takeScene_17 : decode cX3_takeScene 17 = .ok (.invokevirtual 27, 3) := by decide +kernel
theorem dX3_takeScene_20 : decode cX3_takeScene 20 = .ok (.bipush 97, 2) := by decide +kernel
theorem dX3_takeScene_22 : decode cX3_takeScene 22 = .ok (.isub, 1) := by decide +kernel
theorem dX3_takeScene_23 : decode cX3_takeScene 23 = .ok (.istore 4, 2) := by decide +kernel
theorem dX3_takeScene_25 : decode cX3_takeScene 25 = .ok (.iload 4, 2) := by decide +kernel
theorem dX3_takeScene_27 : decode cX3_takeScene 27 = .ok (.ifCond .lt 23, 3) := by decide +kernel
theorem dX3_takeScene_30 : decode cX3_takeScene 30 = .ok (.iload 4, 2) := by decide +kernel
theorem dX3_takeScene_32 : decode cX3_takeScene 32 = .ok (.bipush 10, 2) := by decide +kernel
theorem dX3_takeScene_34 : decode cX3_takeScene 34 = .ok (.if_icmp .ge 16, 3) := by decide +kernel
theorem dX3_takeScene_37 : decode cX3_takeScene 37 = .ok (.iload_n 1, 1) := by decide +kernel
theorem dX3_takeScene_38 : decode cX3_takeScene 38 = .ok (.iload 4, 2) := by decide +kernel
theorem dX3_takeScene_40 : decode cX3_takeScene 40 = .ok (.ishr, 1) := by decide +kernel
theorem dX3_takeScene_41 : decode cX3_takeScene 41 = .ok (.iconst 1, 1) := by decide +kernel
theorem dX3_takeScene_42 : decode cX3_takeScene 42 = .ok (.iand, 1) := by decide +kernel
theorem dX3_takeScene_43 : decode cX3_takeScene 43 = .ok (.ifCond .ne 7, 3) := by decide +kernel
theorem dX3_takeScene_46 : decode cX3_takeScene 46 = .ok (.iconst 1, 1) := by decide +kernel
theorem dX3_takeScene_47 : decode cX3_takeScene 47 = .ok (.goto 4, 3) := by decide +kernel
theorem dX3_takeScene_50 : decode cX3_takeScene 50 = .ok (.iconst 0, 1) := by decide +kernel
theorem dX3_takeScene_51 : decode cX3_takeScene 51 = .ok (.istore_n 2, 1) := by decide +kernel
theorem dX3_takeScene_52 : decode cX3_takeScene 52 = .ok (.iload_n 2, 1) := by decide +kernel
theorem dX3_takeScene_53 : decode cX3_takeScene 53 = .ok (.ifCond .eq 14, 3) := by decide +kernel
theorem dX3_takeScene_56 : decode cX3_takeScene 56 = .ok (.iload_n 1, 1) := by decide +kernel
theorem dX3_takeScene_57 : decode cX3_takeScene 57 = .ok (.iconst 1, 1) := by decide +kernel
theorem dX3_takeScene_58 : decode cX3_takeScene 58 = .ok (.iload 4, 2) := by decide +kernel
theorem dX3_takeScene_60 : decode cX3_takeScene 60 = .ok (.ishl, 1) := by decide +kernel
theorem dX3_takeScene_61 : decode cX3_takeScene 61 = .ok (.ior, 1) := by decide +kernel
theorem dX3_takeScene_62 : decode cX3_takeScene 62 = .ok (.istore_n 1, 1) := by decide +kernel
theorem dX3_takeScene_63 : decode cX3_takeScene 63 = .ok (.aload_n 0, 1) := by decide +kernel
theorem dX3_takeScene_64 : decode cX3_takeScene 64 = .ok (.invokevirtual 30, 3) := by decide +kernel
theorem dX3_takeScene_67 : decode cX3_takeScene 67 = .ok (.iinc 3 1, 3) := by decide +kernel
theorem dX3_takeScene_70 : decode cX3_takeScene 70 = .ok (.goto (-64), 3) := by decide +kernel
theorem dX3_takeScene_73 : decode cX3_takeScene 73 = .ok (.iload_n 1, 1) := by decide +kernel
theorem dX3_takeScene_74 : decode cX3_takeScene 74 = .ok (.ifCond .ne 7, 3) := by decide +kernel
theorem dX3_takeScene_77 : decode cX3_takeScene 77 = .ok (.aload_n 0, 1) := by decide +kernel
theorem dX3_takeScene_78 : decode cX3_takeScene 78 = .ok (.invokevirtual 33, 3) := by decide +kernel
theorem dX3_takeScene_81 : decode cX3_takeScene 81 = .ok (.iload_n 1, 1) := by decide +kernel
theorem dX3_takeScene_82 : decode cX3_takeScene 82 = .ok (.ireturn, 1) := by decide +kernel
theorem dX3_scenes_0 : decode cX3_scenes 0 = .ok (.aload_n 0, 1) := by decide +kernel
theorem dX3_scenes_1 : decode cX3_scenes 1 = .ok (.getfield 15, 3) := by decide +kernel
theorem dX3_scenes_4 : decode cX3_scenes 4 = .ok (.ireturn, 1) := by decide +kernel
theorem dX3_partsIn_0 : decode cX3_partsIn 0 = .ok (.iload_n 1, 1) := by decide +kernel
theorem dX3_partsIn_1 : decode cX3_partsIn 1 = .ok (.ifCond .lt 21, 3) := by decide +kernel
theorem dX3_partsIn_4 : decode cX3_partsIn 4 = .ok (.iload_n 1, 1) := by decide +kernel
theorem dX3_partsIn_5 : decode cX3_partsIn 5 = .ok (.aload_n 0, 1) := by decide +kernel
theorem dX3_partsIn_6 : decode cX3_partsIn 6 = .ok (.getfield 9, 3) := by decide +kernel
theorem dX3_partsIn_9 : decode cX3_partsIn 9 = .ok (.arraylength, 1) := by decide +kernel
theorem dX3_partsIn_10 : decode cX3_partsIn 10 = .ok (.if_icmp .ge 12, 3) := by decide +kernel
theorem dX3_partsIn_13 : decode cX3_partsIn 13 = .ok (.aload_n 0, 1) := by decide +kernel
theorem dX3_partsIn_14 : decode cX3_partsIn 14 = .ok (.getfield 9, 3) := by decide +kernel
theorem dX3_partsIn_17 : decode cX3_partsIn 17 = .ok (.iload_n 1, 1) := by decide +kernel
theorem dX3_partsIn_18 : decode cX3_partsIn 18 = .ok (.iaload, 1) := by decide +kernel
theorem dX3_partsIn_19 : decode cX3_partsIn 19 = .ok (.goto 4, 3) := by decide +kernel
theorem dX3_partsIn_22 : decode cX3_partsIn 22 = .ok (.iconst 0, 1) := by decide +kernel
theorem dX3_partsIn_23 : decode cX3_partsIn 23 = .ok (.ireturn, 1) := by decide +kernel
theorem dX4_init_0 : decode cX4_init 0 = .ok (.aload_n 0, 1) := by decide +kernel
theorem dX4_init_1 : decode cX4_init 1 = .ok (.invokespecial 3, 3) := by decide +kernel
theorem dX4_init_4 : decode cX4_init 4 = .ok (.aload_n 0, 1) := by decide +kernel
theorem dX4_init_5 : decode cX4_init 5 = .ok (.bipush 80, 2) := by decide +kernel
theorem dX4_init_7 : decode cX4_init 7 = .ok (.newarray .int, 2) := by decide +kernel
theorem dX4_init_9 : decode cX4_init 9 = .ok (.putfield 11, 3) := by decide +kernel
theorem dX4_init_12 : decode cX4_init 12 = .ok (.aload_n 0, 1) := by decide +kernel
theorem dX4_init_13 : decode cX4_init 13 = .ok (.iconst 4, 1) := by decide +kernel
theorem dX4_init_14 : decode cX4_init 14 = .ok (.newarray .int, 2) := by decide +kernel
theorem dX4_init_16 : decode cX4_init 16 = .ok (.putfield 15, 3) := by decide +kernel
theorem dX4_init_19 : decode cX4_init 19 = .ok (.aload_n 0, 1) := by decide +kernel
theorem dX4_init_20 : decode cX4_init 20 = .ok (.bipush 10, 2) := by decide +kernel
theorem dX4_init_22 : decode cX4_init 22 = .ok (.newarray .int, 2) := by decide +kernel
theorem dX4_init_24 : decode cX4_init 24 = .ok (.putfield 18, 3) := by decide +kernel
theorem dX4_init_27 : decode cX4_init 27 = .ok (.aload_n 0, 1) := by decide +kernel
theorem dX4_init_28 : decode cX4_init 28 = .ok (.bipush 10, 2) := by decide +kernel
theorem dX4_init_30 : decode cX4_init 30 = .ok (.newarray .int, 2) := by decide +kernel
theorem dX4_init_32 : decode cX4_init 32 = .ok (.putfield 21, 3) := by decide +kernel
theorem dX4_init_35 : decode cX4_init 35 = .ok (.aload_n 0, 1) := by decide +kernel
theorem dX4_init_36 : decode cX4_init 36 = .ok (.bipush 10, 2) := by decide +kernel
theorem dX4_init_38 : decode cX4_init 38 = .ok (.newarray .int, 2) := by decide +kernel
theorem dX4_init_40 : decode cX4_init 40 = .ok (.putfield 24, 3) := by decide +kernel
theorem dX4_init_43 : decode cX4_init 43 = .ok (.aload_n 0, 1) := by decide +kernel
theorem dX4_init_44 : decode cX4_init 44 = .ok (.iconst 0, 1) := by decide +kernel
theorem dX4_init_45 : decode cX4_init 45 = .ok (.putfield 27, 3) := by decide +kernel
theorem dX4_init_48 : decode cX4_init 48 = .ok (.aload_n 0, 1) := by decide +kernel
theorem dX4_init_49 : decode cX4_init 49 = .ok (.iconst 0, 1) := by decide +kernel
theorem dX4_init_50 : decode cX4_init 50 = .ok (.putfield 31, 3) := by decide +kernel
theorem dX4_init_53 : decode cX4_init 53 = .ok (.return_, 1) := by decide +kernel
theorem dX4_isChange_0 : decode cX4_isChange 0 = .ok (.iload_n 0, 1) := by decide +kernel
theorem dX4_isChange_1 : decode cX4_isChange 1 = .ok (.ifCond .lt 12, 3) := by decide +kernel
theorem dX4_isChange_4 : decode cX4_isChange 4 = .ok (.iload_n 0, 1) := by decide +kernel
theorem dX4_isChange_5 : decode cX4_isChange 5 = .ok (.iconst 3, 1) := by decide +kernel
theorem dX4_isChange_6 : decode cX4_isChange 6 = .ok (.if_icmp .gt 7, 3) := by decide +kernel
theorem dX4_isChange_9 : decode cX4_isChange 9 = .ok (.iconst 1, 1) := by decide +kernel
theorem dX4_isChange_10 : decode cX4_isChange 10 = .ok (.goto 4, 3) := by decide +kernel
theorem dX4_isChange_13 : decode cX4_isChange 13 = .ok (.iconst 0, 1) := by decide +kernel
theorem dX4_isChange_14 : decode cX4_isChange 14 = .ok (.ireturn, 1) := by decide +kernel
theorem dX4_isCrew_0 : decode cX4_isCrew 0 = .ok (.iload_n 0, 1) := by decide +kernel
theorem dX4_isCrew_1 : decode cX4_isCrew 1 = .ok (.ifCond .lt 13, 3) := by decide +kernel
theorem dX4_isCrew_4 : decode cX4_isCrew 4 = .ok (.iload_n 0, 1) := by decide +kernel
theorem dX4_isCrew_5 : decode cX4_isCrew 5 = .ok (.bipush 10, 2) := by decide +kernel
theorem dX4_isCrew_7 : decode cX4_isCrew 7 = .ok (.if_icmp .gt 7, 3) := by decide +kernel
theorem dX4_isCrew_10 : decode cX4_isCrew 10 = .ok (.iconst 1, 1) := by decide +kernel
theorem dX4_isCrew_11 : decode cX4_isCrew 11 = .ok (.goto 4, 3) := by decide +kernel
theorem dX4_isCrew_14 : decode cX4_isCrew 14 = .ok (.iconst 0, 1) := by decide +kernel
theorem dX4_isCrew_15 : decode cX4_isCrew 15 = .ok (.ireturn, 1) := by decide +kernel
theorem dX4_number_0 : decode cX4_number 0 = .ok (.aload_n 0, 1) := by decide +kernel
theorem dX4_number_1 : decode cX4_number 1 = .ok (.getfield 27, 3) := by decide +kernel
theorem dX4_number_4 : decode cX4_number 4 = .ok (.ireturn, 1) := by decide +kernel
theorem dX4_boysNow_0 : decode cX4_boysNow 0 = .ok (.aload_n 0, 1) := by decide +kernel
theorem dX4_boysNow_1 : decode cX4_boysNow 1 = .ok (.getfield 31, 3) := by decide +kernel
theorem dX4_boysNow_4 : decode cX4_boysNow 4 = .ok (.ireturn, 1) := by decide +kernel
theorem dX4_setBoys_0 : decode cX4_setBoys 0 = .ok (.iload_n 1, 1) := by decide +kernel
theorem dX4_setBoys_1 : decode cX4_setBoys 1 = .ok (.ifCond .lt 10, 3) := by decide +kernel
theorem dX4_setBoys_4 : decode cX4_setBoys 4 = .ok (.iload_n 1, 1) := by decide +kernel
theorem dX4_setBoys_5 : decode cX4_setBoys 5 = .ok (.sipush 1024, 3) := by decide +kernel
theorem dX4_setBoys_8 : decode cX4_setBoys 8 = .ok (.if_icmp .lt 5, 3) := by decide +kernel
theorem dX4_setBoys_11 : decode cX4_setBoys 11 = .ok (.iconst 0, 1) := by decide +kernel
theorem dX4_setBoys_12 : decode cX4_setBoys 12 = .ok (.ireturn, 1) := by decide +kernel
theorem dX4_setBoys_13 : decode cX4_setBoys 13 = .ok (.aload_n 0, 1) := by decide +kernel
theorem dX4_setBoys_14 : decode cX4_setBoys 14 = .ok (.iload_n 1, 1) := by decide +kernel
theorem dX4_setBoys_15 : decode cX4_setBoys 15 = .ok (.putfield 31, 3) := by decide +kernel
theorem dX4_setBoys_18 : decode cX4_setBoys 18 = .ok (.iconst 1, 1) := by decide +kernel
theorem dX4_setBoys_19 : decode cX4_setBoys 19 = .ok (.ireturn, 1) := by decide +kernel
theorem dX4_add_0 : decode cX4_add 0 = .ok (.aload_n 1, 1) := by decide +kernel
theorem dX4_add_1 : decode cX4_add 1 = .ok (.ifnull 18, 3) := by decide +kernel
theorem dX4_add_4 : decode cX4_add 4 = .ok (.aload_n 0, 1) := by decide +kernel
theorem dX4_add_5 : decode cX4_add 5 = .ok (.getfield 27, 3) := by decide +kernel
theorem dX4_add_8 : decode cX4_add 8 = .ok (.ifCond .lt 11, 3) := by decide +kernel
theorem dX4_add_11 : decode cX4_add 11 = .ok (.aload_n 0, 1) := by decide +kernel
theorem dX4_add_12 : decode cX4_add 12 = .ok (.getfield 27, 3) := by decide +kernel
theorem dX4_add_15 : decode cX4_add 15 = .ok (.iconst 4, 1) := by decide +kernel
theorem dX4_add_16 : decode cX4_add 16 = .ok (.if_icmp .lt 5, 3) := by decide +kernel
theorem dX4_add_19 : decode cX4_add 19 = .ok (.iconst (-1), 1) := by decide +kernel
theorem dX4_add_20 : decode cX4_add 20 = .ok (.ireturn, 1) := by decide +kernel
theorem dX4_add_21 : decode cX4_add 21 = .ok (.iconst 0, 1) := by decide +kernel
theorem dX4_add_22 : decode cX4_add 22 = .ok (.istore_n 2, 1) := by decide +kernel
theorem dX4_add_23 : decode cX4_add 23 = .ok (.iload_n 2, 1) := by decide +kernel
theorem dX4_add_24 : decode cX4_add 24 = .ok (.aload_n 1, 1) := by decide +kernel
theorem dX4_add_25 : decode cX4_add 25 = .ok (.invokevirtual 34, 3) := by decide +kernel
theorem dX4_add_28 : decode cX4_add 28 = .ok (.if_icmp .ge 34, 3) := by decide +kernel
theorem dX4_add_31 : decode cX4_add 31 = .ok (.iload_n 2, 1) := by decide +kernel
theorem dX4_add_32 : decode cX4_add 32 = .ok (.bipush 20, 2) := by decide +kernel
theorem dX4_add_34 : decode cX4_add 34 = .ok (.if_icmp .ge 28, 3) := by decide +kernel
theorem dX4_add_37 : decode cX4_add 37 = .ok (.aload_n 0, 1) := by decide +kernel
theorem dX4_add_38 : decode cX4_add 38 = .ok (.getfield 11, 3) := by decide +kernel
theorem dX4_add_41 : decode cX4_add 41 = .ok (.bipush 20, 2) := by decide +kernel
theorem dX4_add_43 : decode cX4_add 43 = .ok (.aload_n 0, 1) := by decide +kernel
theorem dX4_add_44 : decode cX4_add 44 = .ok (.getfield 27, 3) := by decide +kernel
theorem dX4_add_47 : decode cX4_add 47 = .ok (.imul, 1) := by decide +kernel
theorem dX4_add_48 : decode cX4_add 48 = .ok (.iload_n 2, 1) := by decide +kernel
theorem dX4_add_49 : decode cX4_add 49 = .ok (.iadd, 1) := by decide +kernel
theorem dX4_add_50 : decode cX4_add 50 = .ok (.aload_n 1, 1) := by decide +kernel
theorem dX4_add_51 : decode cX4_add 51 = .ok (.iload_n 2, 1) := by decide +kernel
theorem dX4_add_52 : decode cX4_add 52 = .ok (.invokevirtual 40, 3) := by decide +kernel
theorem dX4_add_55 : decode cX4_add 55 = .ok (.iastore, 1) := by decide +kernel
theorem dX4_add_56 : decode cX4_add 56 = .ok (.iinc 2 1, 3) := by decide +kernel
theorem dX4_add_59 : decode cX4_add 59 = .ok (.goto (-36), 3) := by decide +kernel
theorem dX4_add_62 : decode cX4_add 62 = .ok (.aload_n 0, 1) := by decide +kernel
theorem dX4_add_63 : decode cX4_add 63 = .ok (.getfield 15, 3) := by decide +kernel
theorem dX4_add_66 : decode cX4_add 66 = .ok (.aload_n 0, 1) := by decide +kernel
theorem dX4_add_67 : decode cX4_add 67 = .ok (.getfield 27, 3) := by decide +kernel
theorem dX4_add_70 : decode cX4_add 70 = .ok (.aload_n 1, 1) := by decide +kernel
theorem dX4_add_71 : decode cX4_add 71 = .ok (.invokevirtual 34, 3) := by decide +kernel
theorem dX4_add_74 : decode cX4_add 74 = .ok (.iastore, 1) := by decide +kernel
theorem dX4_add_75 : decode cX4_add 75 = .ok (.aload_n 0, 1) := by decide +kernel
theorem dX4_add_76 : decode cX4_add 76 = .ok (.dup, 1) := by decide +kernel
theorem dX4_add_77 : decode cX4_add 77 = .ok (.getfield 27, 3) := by decide +kernel
theorem dX4_add_80 : decode cX4_add 80 = .ok (.iconst 1, 1) := by decide +kernel
theorem dX4_add_81 : decode cX4_add 81 = .ok (.iadd, 1) := by decide +kernel
theorem dX4_add_82 : decode cX4_add 82 = .ok (.putfield 27, 3) := by decide +kernel
theorem dX4_add_85 : decode cX4_add 85 = .ok (.aload_n 0, 1) := by decide +kernel
theorem dX4_add_86 : decode cX4_add 86 = .ok (.getfield 27, 3) := by decide +kernel
theorem dX4_add_89 : decode cX4_add 89 = .ok (.iconst 1, 1) := by decide +kernel
theorem dX4_add_90 : decode cX4_add 90 = .ok (.isub, 1) := by decide +kernel
theorem dX4_add_91 : decode cX4_add 91 = .ok (.ireturn, 1) := by decide +kernel
theorem dX4_has_0 : decode cX4_has 0 = .ok (.iload_n 1, 1) := by decide +kernel
theorem dX4_has_1 : decode cX4_has 1 = .ok (.ifCond .lt 20, 3) := by decide +kernel
theorem dX4_has_4 : decode cX4_has 4 = .ok (.iload_n 1, 1) := by decide +kernel
theorem dX4_has_5 : decode cX4_has 5 = .ok (.aload_n 0, 1) := by decide +kernel
theorem dX4_has_6 : decode cX4_has 6 = .ok (.getfield 27, 3) := by decide +kernel
theorem dX4_has_9 : decode cX4_has 9 = .ok (.if_icmp .ge 12, 3) := by decide +kernel
theorem dX4_has_12 : decode cX4_has 12 = .ok (.iload_n 1, 1) := by decide +kernel
theorem dX4_has_13 : decode cX4_has 13 = .ok (.iconst 4, 1) := by decide +kernel
theorem dX4_has_14 : decode cX4_has 14 = .ok (.if_icmp .ge 7, 3) := by decide +kernel
theorem dX4_has_17 : decode cX4_has 17 = .ok (.iconst 1, 1) := by decide +kernel
theorem dX4_has_18 : decode cX4_has 18 = .ok (.goto 4, 3) := by decide +kernel
theorem dX4_has_21 : decode cX4_has 21 = .ok (.iconst 0, 1) := by decide +kernel
theorem dX4_has_22 : decode cX4_has 22 = .ok (.ireturn, 1) := by decide +kernel
theorem dX4_sizeOf_0 : decode cX4_sizeOf 0 = .ok (.iload_n 1, 1) := by decide +kernel
theorem dX4_sizeOf_1 : decode cX4_sizeOf 1 = .ok (.ifCond .lt 29, 3) := by decide +kernel
theorem dX4_sizeOf_4 : decode cX4_sizeOf 4 = .ok (.iload_n 1, 1) := by decide +kernel
theorem dX4_sizeOf_5 : decode cX4_sizeOf 5 = .ok (.aload_n 0, 1) := by decide +kernel
theorem dX4_sizeOf_6 : decode cX4_sizeOf 6 = .ok (.getfield 27, 3) := by decide +kernel
theorem dX4_sizeOf_9 : decode cX4_sizeOf 9 = .ok (.if_icmp .ge 21, 3) := by decide +kernel
theorem dX4_sizeOf_12 : decode cX4_sizeOf 12 = .ok (.iload_n 1, 1) := by decide +kernel
theorem dX4_sizeOf_13 : decode cX4_sizeOf 13 = .ok (.aload_n 0, 1) := by decide +kernel
theorem dX4_sizeOf_14 : decode cX4_sizeOf 14 = .ok (.getfield 15, 3) := by decide +kernel
theorem dX4_sizeOf_17 : decode cX4_sizeOf 17 = .ok (.arraylength, 1) := by decide +kernel
theorem dX4_sizeOf_18 : decode cX4_sizeOf 18 = .ok (.if_icmp .ge 12, 3) := by decide +kernel
theorem dX4_sizeOf_21 : decode cX4_sizeOf 21 = .ok (.aload_n 0, 1) := by decide +kernel
theorem dX4_sizeOf_22 : decode cX4_sizeOf 22 = .ok (.getfield 15, 3) := by decide +kernel
theorem dX4_sizeOf_25 : decode cX4_sizeOf 25 = .ok (.iload_n 1, 1) := by decide +kernel
theorem dX4_sizeOf_26 : decode cX4_sizeOf 26 = .ok (.iaload, 1) := by decide +kernel
theorem dX4_sizeOf_27 : decode cX4_sizeOf 27 = .ok (.goto 4, 3) := by decide +kernel
theorem dX4_sizeOf_30 : decode cX4_sizeOf 30 = .ok (.iconst 0, 1) := by decide +kernel
theorem dX4_sizeOf_31 : decode cX4_sizeOf 31 = .ok (.ireturn, 1) := by decide +kernel
theorem dX4_partsIn_0 : decode cX4_partsIn 0 = .ok (.iload_n 2, 1) := by decide +kernel
theorem dX4_partsIn_1 : decode cX4_partsIn 1 = .ok (.ifCond .lt 12, 3) := by decide +kernel
theorem dX4_partsIn_4 : decode cX4_partsIn 4 = .ok (.iload_n 2, 1) := by decide +kernel
theorem dX4_partsIn_5 : decode cX4_partsIn 5 = .ok (.aload_n 0, 1) := by decide +kernel
theorem dX4_partsIn_6 : decode cX4_partsIn 6 = .ok (.iload_n 1, 1) := by decide +kernel
theorem dX4_partsIn_7 : decode cX4_partsIn 7 = .ok (.invokevirtual 44, 3) := by decide +kernel
theorem dX4_partsIn_10 : decode cX4_partsIn 10 = .ok (.if_icmp .lt 5, 3) := by decide +kernel
theorem dX4_partsIn_13 : decode cX4_partsIn 13 = .ok (.iconst (-1), 1) := by decide +kernel
theorem dX4_partsIn_14 : decode cX4_partsIn 14 = .ok (.ireturn, 1) := by decide +kernel
theorem dX4_partsIn_15 : decode cX4_partsIn 15 = .ok (.bipush 20, 2) := by decide +kernel
theorem dX4_partsIn_17 : decode cX4_partsIn 17 = .ok (.iload_n 1, 1) := by decide +kernel
theorem dX4_partsIn_18 : decode cX4_partsIn 18 = .ok (.imul, 1) := by decide +kernel
theorem dX4_partsIn_19 : decode cX4_partsIn 19 = .ok (.iload_n 2, 1) := by decide +kernel
theorem dX4_partsIn_20 : decode cX4_partsIn 20 = .ok (.iadd, 1) := by decide +kernel
theorem dX4_partsIn_21 : decode cX4_partsIn 21 = .ok (.istore_n 3, 1) := by decide +kernel
theorem dX4_partsIn_22 : decode cX4_partsIn 22 = .ok (.iload_n 3, 1) := by decide +kernel
theorem dX4_partsIn_23 : decode cX4_partsIn 23 = .ok (.aload_n 0, 1) := by decide +kernel
theorem dX4_partsIn_24 : decode cX4_partsIn 24 = .ok (.getfield 11, 3) := by decide +kernel
theorem dX4_partsIn_27 : decode cX4_partsIn 27 = .ok (.arraylength, 1) := by decide +kernel
theorem dX4_partsIn_28 : decode cX4_partsIn 28 = .ok (.if_icmp .ge 12, 3) := by decide +kernel
theorem dX4_partsIn_31 : decode cX4_partsIn 31 = .ok (.aload_n 0, 1) := by decide +kernel
theorem dX4_partsIn_32 : decode cX4_partsIn 32 = .ok (.getfield 11, 3) := by decide +kernel
theorem dX4_partsIn_35 : decode cX4_partsIn 35 = .ok (.iload_n 3, 1) := by decide +kernel
theorem dX4_partsIn_36 : decode cX4_partsIn 36 = .ok (.iaload, 1) := by decide +kernel
theorem dX4_partsIn_37 : decode cX4_partsIn 37 = .ok (.goto 4, 3) := by decide +kernel
theorem dX4_partsIn_40 : decode cX4_partsIn 40 = .ok (.iconst (-1), 1) := by decide +kernel
theorem dX4_partsIn_41 : decode cX4_partsIn 41 = .ok (.ireturn, 1) := by decide +kernel
theorem dX4_partsOf_0 : decode cX4_partsOf 0 = .ok (.iconst 0, 1) := by decide +kernel
theorem dX4_partsOf_1 : decode cX4_partsOf 1 = .ok (.istore_n 2, 1) := by decide +kernel
theorem dX4_partsOf_2 : decode cX4_partsOf 2 = .ok (.iconst 0, 1) := by decide +kernel
theorem dX4_partsOf_3 : decode cX4_partsOf 3 = .ok (.istore_n 3, 1) := by decide +kernel
theorem dX4_partsOf_4 : decode cX4_partsOf 4 = .ok (.iload_n 3, 1) := by decide +kernel
theorem dX4_partsOf_5 : decode cX4_partsOf 5 = .ok (.aload_n 0, 1) := by decide +kernel
theorem dX4_partsOf_6 : decode cX4_partsOf 6 = .ok (.iload_n 1, 1) := by decide +kernel
theorem dX4_partsOf_7 : decode cX4_partsOf 7 = .ok (.invokevirtual 44, 3) := by decide +kernel
theorem dX4_partsOf_10 : decode cX4_partsOf 10 = .ok (.if_icmp .ge 18, 3) := by decide +kernel
theorem dX4_partsOf_13 : decode cX4_partsOf 13 = .ok (.iload_n 2, 1) := by decide +kernel
theorem dX4_partsOf_14 : decode cX4_partsOf 14 = .ok (.aload_n 0, 1) := by decide +kernel
theorem dX4_partsOf_15 : decode cX4_partsOf 15 = .ok (.iload_n 1, 1) := by decide +kernel
theorem dX4_partsOf_16 : decode cX4_partsOf 16 = .ok (.iload_n 3, 1) := by decide +kernel
theorem dX4_partsOf_17 : decode cX4_partsOf 17 = .ok (.invokevirtual 47, 3) := by decide +kernel
theorem dX4_partsOf_20 : decode cX4_partsOf 20 = .ok (.ior, 1) := by decide +kernel
theorem dX4_partsOf_21 : decode cX4_partsOf 21 = .ok (.istore_n 2, 1) := by decide +kernel
theorem dX4_partsOf_22 : decode cX4_partsOf 22 = .ok (.iinc 3 1, 3) := by decide +kernel
theorem dX4_partsOf_25 : decode cX4_partsOf 25 = .ok (.goto (-21), 3) := by decide +kernel
theorem dX4_partsOf_28 : decode cX4_partsOf 28 = .ok (.iload_n 2, 1) := by decide +kernel
theorem dX4_partsOf_29 : decode cX4_partsOf 29 = .ok (.ireturn, 1) := by decide +kernel
theorem dX4_hasPart_0 : decode cX4_hasPart 0 = .ok (.iload_n 2, 1) := by decide +kernel
theorem dX4_hasPart_1 : decode cX4_hasPart 1 = .ok (.ifCond .lt 25, 3) := by decide +kernel
theorem dX4_hasPart_4 : decode cX4_hasPart 4 = .ok (.iload_n 2, 1) := by decide +kernel
theorem dX4_hasPart_5 : decode cX4_hasPart 5 = .ok (.bipush 10, 2) := by decide +kernel
theorem dX4_hasPart_7 : decode cX4_hasPart 7 = .ok (.if_icmp .ge 19, 3) := by decide +kernel
theorem dX4_hasPart_10 : decode cX4_hasPart 10 = .ok (.iload_n 2, 1) := by decide +kernel
theorem dX4_hasPart_11 : decode cX4_hasPart 11 = .ok (.aload_n 0, 1) := by decide +kernel
theorem dX4_hasPart_12 : decode cX4_hasPart 12 = .ok (.iload_n 1, 1) := by decide +kernel
theorem dX4_hasPart_13 : decode cX4_hasPart 13 = .ok (.invokevirtual 50, 3) := by decide +kernel
theorem dX4_hasPart_16 : decode cX4_hasPart 16 = .ok (.invokestatic 53, 3) := by decide +kernel
theorem dX4_hasPart_19 : decode cX4_hasPart 19 = .ok (.ifCond .eq 7, 3) := by decide +kernel
theorem dX4_hasPart_22 : decode cX4_hasPart 22 = .ok (.iconst 1, 1) := by decide +kernel
theorem dX4_hasPart_23 : decode cX4_hasPart 23 = .ok (.goto 4, 3) := by decide +kernel
theorem dX4_hasPart_26 : decode cX4_hasPart 26 = .ok (.iconst 0, 1) := by decide +kernel
theorem dX4_hasPart_27 : decode cX4_hasPart 27 = .ok (.ireturn, 1) := by decide +kernel
theorem dX4_isIn_0 : decode cX4_isIn 0 = .ok (.iload_n 1, 1) := by decide +kernel
theorem dX4_isIn_1 : decode cX4_isIn 1 = .ok (.iload_n 0, 1) := by decide +kernel
theorem dX4_isIn_2 : decode cX4_isIn 2 = .ok (.ishr, 1) := by decide +kernel
theorem dX4_isIn_3 : decode cX4_isIn 3 = .ok (.iconst 1, 1) := by decide +kernel
theorem dX4_isIn_4 : decode cX4_isIn 4 = .ok (.iand, 1) := by decide +kernel
theorem dX4_isIn_5 : decode cX4_isIn 5 = .ok (.ifCond .eq 7, 3) := by decide +kernel
theorem dX4_isIn_8 : decode cX4_isIn 8 = .ok (.iconst 1, 1) := by decide +kernel
theorem dX4_isIn_9 : decode cX4_isIn 9 = .ok (.goto 4, 3) := by decide +kernel
theorem dX4_isIn_12 : decode cX4_isIn 12 = .ok (.iconst 0, 1) := by decide +kernel
theorem dX4_isIn_13 : decode cX4_isIn 13 = .ok (.ireturn, 1) := by decide +kernel
theorem dX4_fullest_0 : decode cX4_fullest 0 = .ok (.iconst 0, 1) := by decide +kernel
theorem dX4_fullest_1 : decode cX4_fullest 1 = .ok (.istore_n 2, 1) := by decide +kernel
theorem dX4_fullest_2 : decode cX4_fullest 2 = .ok (.iconst 0, 1) := by decide +kernel
theorem dX4_fullest_3 : decode cX4_fullest 3 = .ok (.istore_n 3, 1) := by decide +kernel
theorem dX4_fullest_4 : decode cX4_fullest 4 = .ok (.iconst 0, 1) := by decide +kernel
theorem dX4_fullest_5 : decode cX4_fullest 5 = .ok (.istore 4, 2) := by decide +kernel
theorem dX4_fullest_7 : decode cX4_fullest 7 = .ok (.iload 4, 2) := by decide +kernel
theorem dX4_fullest_9 : decode cX4_fullest 9 = .ok (.aload_n 0, 1) := by decide +kernel
theorem dX4_fullest_10 : decode cX4_fullest 10 = .ok (.iload_n 1, 1) := by decide +kernel
theorem dX4_fullest_11 : decode cX4_fullest 11 = .ok (.invokevirtual 44, 3) := by decide +kernel
theorem dX4_fullest_14 : decode cX4_fullest 14 = .ok (.if_icmp .ge 33, 3) := by decide +kernel
theorem dX4_fullest_17 : decode cX4_fullest 17 = .ok (.aload_n 0, 1) := by decide +kernel
theorem dX4_fullest_18 : decode cX4_fullest 18 = .ok (.iload_n 1, 1) := by decide +kernel
theorem dX4_fullest_19 : decode cX4_fullest 19 = .ok (.iload 4, 2) := by decide +kernel
theorem dX4_fullest_21 : decode cX4_fullest 21 = .ok (.invokevirtual 47, 3) := by decide +kernel
theorem dX4_fullest_24 : decode cX4_fullest 24 = .ok (.invokestatic 57, 3) := by decide +kernel
theorem dX4_fullest_27 : decode cX4_fullest 27 = .ok (.istore 5, 2) := by decide +kernel
theorem dX4_fullest_29 : decode cX4_fullest 29 = .ok (.iload 5, 2) := by decide +kernel
theorem dX4_fullest_31 : decode cX4_fullest 31 = .ok (.iload_n 3, 1) := by decide +kernel
theorem dX4_fullest_32 : decode cX4_fullest 32 = .ok (.if_icmp .le 9, 3) := by decide +kernel
theorem dX4_fullest_35 : decode cX4_fullest 35 = .ok (.iload 4, 2) := by decide +kernel
theorem dX4_fullest_37 : decode cX4_fullest 37 = .ok (.istore_n 2, 1) := by decide +kernel
theorem dX4_fullest_38 : decode cX4_fullest 38 = .ok (.iload 5, 2) := by decide +kernel
theorem dX4_fullest_40 : decode cX4_fullest 40 = .ok (.istore_n 3, 1) := by decide +kernel
theorem dX4_fullest_41 : decode cX4_fullest 41 = .ok (.iinc 4 1, 3) := by decide +kernel
theorem dX4_fullest_44 : decode cX4_fullest 44 = .ok (.goto (-37), 3) := by decide +kernel
theorem dX4_fullest_47 : decode cX4_fullest 47 = .ok (.iload_n 2, 1) := by decide +kernel
theorem dX4_fullest_48 : decode cX4_fullest 48 = .ok (.ireturn, 1) := by decide +kernel
theorem dX4_bar_0 : decode cX4_bar 0 = .ok (.aload_n 0, 1) := by decide +kernel
theorem dX4_bar_1 : decode cX4_bar 1 = .ok (.iload_n 1, 1) := by decide +kernel
theorem dX4_bar_2 : decode cX4_bar 2 = .ok (.iload 4, 2) := by decide +kernel
theorem dX4_bar_4 : decode cX4_bar 4 = .ok (.invokevirtual 62, 3) := by decide +kernel
theorem dX4_bar_7 : decode cX4_bar 7 = .ok (.iload_n 2, 1) := by decide +kernel
theorem dX4_bar_8 : decode cX4_bar 8 = .ok (.aload_n 0, 1) := by decide +kernel
theorem dX4_bar_9 : decode cX4_bar 9 = .ok (.getfield 31, 3) := by decide +kernel
theorem dX4_bar_12 : decode cX4_bar 12 = .ok (.invokestatic 53, 3) := by decide +kernel
theorem dX4_bar_15 : decode cX4_bar 15 = .ok (.iload_n 3, 1) := by decide +kernel
theorem dX4_bar_16 : decode cX4_bar 16 = .ok (.aload_n 0, 1) := by decide +kernel
theorem dX4_bar_17 : decode cX4_bar 17 = .ok (.getfield 31, 3) := by decide +kernel
theorem dX4_bar_20 : decode cX4_bar 20 = .ok (.invokestatic 53, 3) := by decide +kernel
theorem dX4_bar_23 : decode cX4_bar 23 = .ok (.if_icmp .ne 33, 3) := by decide +kernel
theorem dX4_bar_26 : decode cX4_bar 26 = .ok (.iload_n 2, 1) := by decide +kernel
theorem dX4_bar_27 : decode cX4_bar 27 = .ok (.ifCond .lt 29, 3) := by decide +kernel
theorem dX4_bar_30 : decode cX4_bar 30 = .ok (.iload_n 2, 1) := by decide +kernel
theorem dX4_bar_31 : decode cX4_bar 31 = .ok (.aload_n 0, 1) := by decide +kernel
theorem dX4_bar_32 : decode cX4_bar 32 = .ok (.getfield 18, 3) := by decide +kernel
theorem dX4_bar_35 : decode cX4_bar 35 = .ok (.arraylength, 1) := by decide +kernel
theorem dX4_bar_36 : decode cX4_bar 36 = .ok (.if_icmp .ge 20, 3) := by decide +kernel
theorem dX4_bar_39 : decode cX4_bar 39 = .ok (.iload_n 3, 1) := by decide +kernel
theorem dX4_bar_40 : decode cX4_bar 40 = .ok (.aload_n 0, 1) := by decide +kernel
theorem dX4_bar_41 : decode cX4_bar 41 = .ok (.getfield 18, 3) := by decide +kernel
theorem dX4_bar_44 : decode cX4_bar 44 = .ok (.iload_n 2, 1) := by decide +kernel
theorem dX4_bar_45 : decode cX4_bar 45 = .ok (.iaload, 1) := by decide +kernel
