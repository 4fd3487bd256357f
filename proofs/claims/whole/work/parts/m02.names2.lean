theorem dX12_feed_24 : decode cX12_feed 24 = .ok (.iload 4, 2) := by decide +kernel
theorem dX12_feed_26 : decode cX12_feed 26 = .ok (.invokestatic 131, 3) := by decide +kernel
theorem dX12_feed_29 : decode cX12_feed 29 = .ok (.iadd, 1) := by decide +kernel
theorem dX12_feed_30 : decode cX12_feed 30 = .ok (.iload 5, 2) := by decide +kernel
theorem dX12_feed_32 : decode cX12_feed 32 = .ok (.invokestatic 131, 3) := by decide +kernel
theorem dX12_feed_35 : decode cX12_feed 35 = .ok (.iadd, 1) := by decide +kernel
theorem dX12_feed_36 : decode cX12_feed 36 = .ok (.sipush 200, 3) := by decide +kernel
theorem dX12_feed_39 : decode cX12_feed 39 = .ok (.if_icmp .le 5, 3) := by decide +kernel
theorem dX12_feed_42 : decode cX12_feed 42 = .ok (.iconst (-1), 1) := by decide +kernel
theorem dX12_feed_43 : decode cX12_feed 43 = .ok (.ireturn, 1) := by decide +kernel
theorem dX12_feed_44 : decode cX12_feed 44 = .ok (.aload_n 0, 1) := by decide +kernel
theorem dX12_feed_45 : decode cX12_feed 45 = .ok (.iload_n 1, 1) := by decide +kernel
theorem dX12_feed_46 : decode cX12_feed 46 = .ok (.invokevirtual 135, 3) := by decide +kernel
theorem dX12_feed_49 : decode cX12_feed 49 = .ok (.aload_n 0, 1) := by decide +kernel
theorem dX12_feed_50 : decode cX12_feed 50 = .ok (.iload_n 2, 1) := by decide +kernel
theorem dX12_feed_51 : decode cX12_feed 51 = .ok (.invokevirtual 135, 3) := by decide +kernel
theorem dX12_feed_54 : decode cX12_feed 54 = .ok (.aload_n 0, 1) := by decide +kernel
theorem dX12_feed_55 : decode cX12_feed 55 = .ok (.iload_n 3, 1) := by decide +kernel
theorem dX12_feed_56 : decode cX12_feed 56 = .ok (.invokevirtual 135, 3) := by decide +kernel
theorem dX12_feed_59 : decode cX12_feed 59 = .ok (.aload_n 0, 1) := by decide +kernel
theorem dX12_feed_60 : decode cX12_feed 60 = .ok (.iload 4, 2) := by decide +kernel
theorem dX12_feed_62 : decode cX12_feed 62 = .ok (.invokevirtual 135, 3) := by decide +kernel
theorem dX12_feed_65 : decode cX12_feed 65 = .ok (.aload_n 0, 1) := by decide +kernel
theorem dX12_feed_66 : decode cX12_feed 66 = .ok (.iload 5, 2) := by decide +kernel
theorem dX12_feed_68 : decode cX12_feed 68 = .ok (.invokevirtual 135, 3) := by decide +kernel
theorem dX12_feed_71 : decode cX12_feed 71 = .ok (.aload_n 0, 1) := by decide +kernel
theorem dX12_feed_72 : decode cX12_feed 72 = .ok (.getfield 129, 3) := by decide +kernel
theorem dX12_feed_75 : decode cX12_feed 75 = .ok (.ireturn, 1) := by decide +kernel
theorem dX12_end_0 : decode cX12_end 0 = .ok (.aload_n 0, 1) := by decide +kernel
theorem dX12_end_1 : decode cX12_end 1 = .ok (.iconst 0, 1) := by decide +kernel
theorem dX12_end_2 : decode cX12_end 2 = .ok (.putfield 116, 3) := by decide +kernel
theorem dX12_end_5 : decode cX12_end 5 = .ok (.iload_n 1, 1) := by decide +kernel
theorem dX12_end_6 : decode cX12_end 6 = .ok (.ifCond .lt 11, 3) := by decide +kernel
theorem dX12_end_9 : decode cX12_end 9 = .ok (.iload_n 1, 1) := by decide +kernel
theorem dX12_end_10 : decode cX12_end 10 = .ok (.aload_n 0, 1) := by decide +kernel
theorem dX12_end_11 : decode cX12_end 11 = .ok (.getfield 129, 3) := by decide +kernel
theorem dX12_end_14 : decode cX12_end 14 = .ok (.if_icmp .le 5, 3) := by decide +kernel
theorem dX12_end_17 : decode cX12_end 17 = .ok (.iconst 0, 1) := by decide +kernel
theorem dX12_end_18 : decode cX12_end 18 = .ok (.ireturn, 1) := by decide +kernel
theorem dX12_end_19 : decode cX12_end 19 = .ok (.aload_n 0, 1) := by decide +kernel
theorem dX12_end_20 : decode cX12_end 20 = .ok (.iload_n 1, 1) := by decide +kernel
theorem dX12_end_21 : decode cX12_end 21 = .ok (.putfield 129, 3) := by decide +kernel
theorem dX12_end_24 : decode cX12_end 24 = .ok (.iconst 1, 1) := by decide +kernel
theorem dX12_end_25 : decode cX12_end 25 = .ok (.ireturn, 1) := by decide +kernel
theorem dX12_look_0 : decode cX12_look 0 = .ok (.aload_n 0, 1) := by decide +kernel
theorem dX12_look_1 : decode cX12_look 1 = .ok (.getfield 139, 3) := by decide +kernel
theorem dX12_look_4 : decode cX12_look 4 = .ok (.aload_n 0, 1) := by decide +kernel
theorem dX12_look_5 : decode cX12_look 5 = .ok (.getfield 142, 3) := by decide +kernel
theorem dX12_look_8 : decode cX12_look 8 = .ok (.if_icmp .ge 35, 3) := by decide +kernel
theorem dX12_look_11 : decode cX12_look 11 = .ok (.aload_n 0, 1) := by decide +kernel
theorem dX12_look_12 : decode cX12_look 12 = .ok (.getfield 26, 3) := by decide +kernel
theorem dX12_look_15 : decode cX12_look 15 = .ok (.aload_n 0, 1) := by decide +kernel
theorem dX12_look_16 : decode cX12_look 16 = .ok (.getfield 145, 3) := by decide +kernel
theorem dX12_look_19 : decode cX12_look 19 = .ok (.aload_n 0, 1) := by decide +kernel
theorem dX12_look_20 : decode cX12_look 20 = .ok (.getfield 139, 3) := by decide +kernel
theorem dX12_look_23 : decode cX12_look 23 = .ok (.iadd, 1) := by decide +kernel
theorem dX12_look_24 : decode cX12_look 24 = .ok (.baload, 1) := by decide +kernel
theorem dX12_look_25 : decode cX12_look 25 = .ok (.bipush 32, 2) := by decide +kernel
theorem dX12_look_27 : decode cX12_look 27 = .ok (.if_icmp .ne 16, 3) := by decide +kernel
theorem dX12_look_30 : decode cX12_look 30 = .ok (.aload_n 0, 1) := by decide +kernel
theorem dX12_look_31 : decode cX12_look 31 = .ok (.dup, 1) := by decide +kernel
theorem dX12_look_32 : decode cX12_look 32 = .ok (.getfield 139, 3) := by decide +kernel
theorem dX12_look_35 : decode cX12_look 35 = .ok (.iconst 1, 1) := by decide +kernel
theorem dX12_look_36 : decode cX12_look 36 = .ok (.iadd, 1) := by decide +kernel
theorem dX12_look_37 : decode cX12_look 37 = .ok (.putfield 139, 3) := by decide +kernel
theorem dX12_look_40 : decode cX12_look 40 = .ok (.goto (-40), 3) := by decide +kernel
theorem dX12_look_43 : decode cX12_look 43 = .ok (.aload_n 0, 1) := by decide +kernel
theorem dX12_look_44 : decode cX12_look 44 = .ok (.getfield 139, 3) := by decide +kernel
theorem dX12_look_47 : decode cX12_look 47 = .ok (.aload_n 0, 1) := by decide +kernel
theorem dX12_look_48 : decode cX12_look 48 = .ok (.getfield 142, 3) := by decide +kernel
theorem dX12_look_51 : decode cX12_look 51 = .ok (.if_icmp .ge 24, 3) := by decide +kernel
theorem dX12_look_54 : decode cX12_look 54 = .ok (.aload_n 0, 1) := by decide +kernel
theorem dX12_look_55 : decode cX12_look 55 = .ok (.getfield 26, 3) := by decide +kernel
theorem dX12_look_58 : decode cX12_look 58 = .ok (.aload_n 0, 1) := by decide +kernel
theorem dX12_look_59 : decode cX12_look 59 = .ok (.getfield 145, 3) := by decide +kernel
theorem dX12_look_62 : decode cX12_look 62 = .ok (.aload_n 0, 1) := by decide +kernel
theorem dX12_look_63 : decode cX12_look 63 = .ok (.getfield 139, 3) := by decide +kernel
theorem dX12_look_66 : decode cX12_look 66 = .ok (.iadd, 1) := by decide +kernel
theorem dX12_look_67 : decode cX12_look 67 = .ok (.baload, 1) := by decide +kernel
theorem dX12_look_68 : decode cX12_look 68 = .ok (.sipush 255, 3) := by decide +kernel
theorem dX12_look_71 : decode cX12_look 71 = .ok (.iand, 1) := by decide +kernel
theorem dX12_look_72 : decode cX12_look 72 = .ok (.goto 4, 3) := by decide +kernel
theorem dX12_look_75 : decode cX12_look 75 = .ok (.iconst (-1), 1) := by decide +kernel
theorem dX12_look_76 : decode cX12_look 76 = .ok (.ireturn, 1) := by decide +kernel
theorem dX12_fails_0 : decode cX12_fails 0 = .ok (.aload_n 0, 1) := by decide +kernel
theorem dX12_fails_1 : decode cX12_fails 1 = .ok (.getfield 148, 3) := by decide +kernel
theorem dX12_fails_4 : decode cX12_fails 4 = .ok (.iconst (-1), 1) := by decide +kernel
theorem dX12_fails_5 : decode cX12_fails 5 = .ok (.if_icmp .ne 11, 3) := by decide +kernel
theorem dX12_fails_8 : decode cX12_fails 8 = .ok (.aload_n 0, 1) := by decide +kernel
theorem dX12_fails_9 : decode cX12_fails 9 = .ok (.aload_n 0, 1) := by decide +kernel
theorem dX12_fails_10 : decode cX12_fails 10 = .ok (.getfield 139, 3) := by decide +kernel
theorem dX12_fails_13 : decode cX12_fails 13 = .ok (.putfield 148, 3) := by decide +kernel
theorem dX12_fails_16 : decode cX12_fails 16 = .ok (.iconst 0, 1) := by decide +kernel
theorem dX12_fails_17 : decode cX12_fails 17 = .ok (.ireturn, 1) := by decide +kernel
theorem dX12_goesIn_0 : decode cX12_goesIn 0 = .ok (.aload_n 0, 1) := by decide +kernel
theorem dX12_goesIn_1 : decode cX12_goesIn 1 = .ok (.getfield 151, 3) := by decide +kernel
theorem dX12_goesIn_4 : decode cX12_goesIn 4 = .ok (.bipush 6, 2) := by decide +kernel
theorem dX12_goesIn_6 : decode cX12_goesIn 6 = .ok (.if_icmp .ne 8, 3) := by decide +kernel
theorem dX12_goesIn_9 : decode cX12_goesIn 9 = .ok (.aload_n 0, 1) := by decide +kernel
theorem dX12_goesIn_10 : decode cX12_goesIn 10 = .ok (.invokevirtual 154, 3) := by decide +kernel
theorem dX12_goesIn_13 : decode cX12_goesIn 13 = .ok (.ireturn, 1) := by decide +kernel
theorem dX12_goesIn_14 : decode cX12_goesIn 14 = .ok (.aload_n 0, 1) := by decide +kernel
theorem dX12_goesIn_15 : decode cX12_goesIn 15 = .ok (.dup, 1) := by decide +kernel
theorem dX12_goesIn_16 : decode cX12_goesIn 16 = .ok (.getfield 151, 3) := by decide +kernel
theorem dX12_goesIn_19 : decode cX12_goesIn 19 = .ok (.iconst 1, 1) := by decide +kernel
theorem dX12_goesIn_20 : decode cX12_goesIn 20 = .ok (.iadd, 1) := by decide +kernel
theorem dX12_goesIn_21 : decode cX12_goesIn 21 = .ok (.putfield 151, 3) := by decide +kernel
theorem dX12_goesIn_24 : decode cX12_goesIn 24 = .ok (.aload_n 0, 1) := by decide +kernel
theorem dX12_goesIn_25 : decode cX12_goesIn 25 = .ok (.dup, 1) := by decide +kernel
theorem dX12_goesIn_26 : decode cX12_goesIn 26 = .ok (.getfield 139, 3) := by decide +kernel
theorem dX12_goesIn_29 : decode cX12_goesIn 29 = .ok (.iconst 1, 1) := by decide +kernel
theorem dX12_goesIn_30 : decode cX12_goesIn 30 = .ok (.iadd, 1) := by decide +kernel
theorem dX12_goesIn_31 : decode cX12_goesIn 31 = .ok (.putfield 139, 3) := by decide +kernel
theorem dX12_goesIn_34 : decode cX12_goesIn 34 = .ok (.iconst 1, 1) := by decide +kernel
theorem dX12_goesIn_35 : decode cX12_goesIn 35 = .ok (.ireturn, 1) := by decide +kernel
theorem dX12_takes_0 : decode cX12_takes 0 = .ok (.aload_n 0, 1) := by decide +kernel
theorem dX12_takes_1 : decode cX12_takes 1 = .ok (.getfield 148, 3) := by decide +kernel
theorem dX12_takes_4 : decode cX12_takes 4 = .ok (.iconst (-1), 1) := by decide +kernel
theorem dX12_takes_5 : decode cX12_takes 5 = .ok (.if_icmp .ne 11, 3) := by decide +kernel
theorem dX12_takes_8 : decode cX12_takes 8 = .ok (.aload_n 0, 1) := by decide +kernel
theorem dX12_takes_9 : decode cX12_takes 9 = .ok (.invokevirtual 158, 3) := by decide +kernel
theorem dX12_takes_12 : decode cX12_takes 12 = .ok (.iload_n 1, 1) := by decide +kernel
theorem dX12_takes_13 : decode cX12_takes 13 = .ok (.if_icmp .eq 8, 3) := by decide +kernel
theorem dX12_takes_16 : decode cX12_takes 16 = .ok (.aload_n 0, 1) := by decide +kernel
theorem dX12_takes_17 : decode cX12_takes 17 = .ok (.invokevirtual 154, 3) := by decide +kernel
theorem dX12_takes_20 : decode cX12_takes 20 = .ok (.ireturn, 1) := by decide +kernel
theorem dX12_takes_21 : decode cX12_takes 21 = .ok (.aload_n 0, 1) := by decide +kernel
theorem dX12_takes_22 : decode cX12_takes 22 = .ok (.dup, 1) := by decide +kernel
theorem dX12_takes_23 : decode cX12_takes 23 = .ok (.getfield 139, 3) := by decide +kernel
theorem dX12_takes_26 : decode cX12_takes 26 = .ok (.iconst 1, 1) := by decide +kernel
theorem dX12_takes_27 : decode cX12_takes 27 = .ok (.iadd, 1) := by decide +kernel
theorem dX12_takes_28 : decode cX12_takes 28 = .ok (.putfield 139, 3) := by decide +kernel
theorem dX12_takes_31 : decode cX12_takes 31 = .ok (.iconst 1, 1) := by decide +kernel
theorem dX12_takes_32 : decode cX12_takes 32 = .ok (.ireturn, 1) := by decide +kernel
theorem dX12_isDigit_0 : decode cX12_isDigit 0 = .ok (.aload_n 0, 1) := by decide +kernel
theorem dX12_isDigit_1 : decode cX12_isDigit 1 = .ok (.getfield 139, 3) := by decide +kernel
theorem dX12_isDigit_4 : decode cX12_isDigit 4 = .ok (.aload_n 0, 1) := by decide +kernel
theorem dX12_isDigit_5 : decode cX12_isDigit 5 = .ok (.getfield 142, 3) := by decide +kernel
theorem dX12_isDigit_8 : decode cX12_isDigit 8 = .ok (.if_icmp .ge 45, 3) := by decide +kernel
theorem dX12_isDigit_11 : decode cX12_isDigit 11 = .ok (.aload_n 0, 1) := by decide +kernel
theorem dX12_isDigit_12 : decode cX12_isDigit 12 = .ok (.getfield 26, 3) := by decide +kernel
theorem dX12_isDigit_15 : decode cX12_isDigit 15 = .ok (.aload_n 0, 1) := by decide +kernel
theorem dX12_isDigit_16 : decode cX12_isDigit 16 = .ok (.getfield 145, 3) := by decide +kernel
theorem dX12_isDigit_19 : decode cX12_isDigit 19 = .ok (.aload_n 0, 1) := by decide +kernel
theorem dX12_isDigit_20 : decode cX12_isDigit 20 = .ok (.getfield 139, 3) := by decide +kernel
theorem dX12_isDigit_23 : decode cX12_isDigit 23 = .ok (.iadd, 1) := by decide +kernel
theorem dX12_isDigit_24 : decode cX12_isDigit 24 = .ok (.baload, 1) := by decide +kernel
theorem dX12_isDigit_25 : decode cX12_isDigit 25 = .ok (.bipush 48, 2) := by decide +kernel
theorem dX12_isDigit_27 : decode cX12_isDigit 27 = .ok (.if_icmp .lt 26, 3) := by decide +kernel
theorem dX12_isDigit_30 : decode cX12_isDigit 30 = .ok (.aload_n 0, 1) := by decide +kernel
theorem dX12_isDigit_31 : decode cX12_isDigit 31 = .ok (.getfield 26, 3) := by decide +kernel
theorem dX12_isDigit_34 : decode cX12_isDigit 34 = .ok (.aload_n 0, 1) := by decide +kernel
theorem dX12_isDigit_35 : decode cX12_isDigit 35 = .ok (.getfield 145, 3) := by decide +kernel
theorem dX12_isDigit_38 : decode cX12_isDigit 38 = .ok (.aload_n 0, 1) := by decide +kernel
theorem dX12_isDigit_39 : decode cX12_isDigit 39 = .ok (.getfield 139, 3) := by decide +kernel
theorem dX12_isDigit_42 : decode cX12_isDigit 42 = .ok (.iadd, 1) := by decide +kernel
theorem dX12_isDigit_43 : decode cX12_isDigit 43 = .ok (.baload, 1) := by decide +kernel
theorem dX12_isDigit_44 : decode cX12_isDigit 44 = .ok (.bipush 57, 2) := by decide +kernel
theorem dX12_isDigit_46 : decode cX12_isDigit 46 = .ok (.if_icmp .gt 7, 3) := by decide +kernel
theorem dX12_isDigit_49 : decode cX12_isDigit 49 = .ok (.iconst 1, 1) := by decide +kernel
theorem dX12_isDigit_50 : decode cX12_isDigit 50 = .ok (.goto 4, 3) := by decide +kernel
theorem dX12_isDigit_53 : decode cX12_isDigit 53 = .ok (.iconst 0, 1) := by decide +kernel
theorem dX12_isDigit_54 : decode cX12_isDigit 54 = .ok (.ireturn, 1) := by decide +kernel
theorem dX12_within_0 : decode cX12_within 0 = .ok (.ldc2_w 161, 3) := by decide +kernel
theorem dX12_within_3 : decode cX12_within 3 = .ok (.ldc2_w 163, 3) := by decide +kernel
theorem dX12_within_6 : decode cX12_within 6 = .ok (.lload_n 0, 1) := by decide +kernel
theorem dX12_within_7 : decode cX12_within 7 = .ok (.invokestatic 165, 3) := by decide +kernel
theorem dX12_within_10 : decode cX12_within 10 = .ok (.invokestatic 171, 3) := by decide +kernel
theorem dX12_within_13 : decode cX12_within 13 = .ok (.l2i, 1) := by decide +kernel
theorem dX12_within_14 : decode cX12_within 14 = .ok (.ireturn, 1) := by decide +kernel
theorem dX12_atom_0 : decode cX12_atom 0 = .ok (.aload_n 0, 1) := by decide +kernel
theorem dX12_atom_1 : decode cX12_atom 1 = .ok (.invokevirtual 158, 3) := by decide +kernel
theorem dX12_atom_4 : decode cX12_atom 4 = .ok (.istore_n 1, 1) := by decide +kernel
theorem dX12_atom_5 : decode cX12_atom 5 = .ok (.ldc 35, 2) := by decide +kernel
theorem dX12_atom_7 : decode cX12_atom 7 = .ok (.iload_n 1, 1) := by decide +kernel
theorem dX12_atom_8 : decode cX12_atom 8 = .ok (.invokestatic 174, 3) := by decide +kernel
theorem dX12_atom_11 : decode cX12_atom 11 = .ok (.ifCond .eq 20, 3) := by decide +kernel
theorem dX12_atom_14 : decode cX12_atom 14 = .ok (.aload_n 0, 1) := by decide +kernel
theorem dX12_atom_15 : decode cX12_atom 15 = .ok (.dup, 1) := by decide +kernel
theorem dX12_atom_16 : decode cX12_atom 16 = .ok (.getfield 139, 3) := by decide +kernel
theorem dX12_atom_19 : decode cX12_atom 19 = .ok (.iconst 1, 1) := by decide +kernel
theorem dX12_atom_20 : decode cX12_atom 20 = .ok (.iadd, 1) := by decide +kernel
theorem dX12_atom_21 : decode cX12_atom 21 = .ok (.putfield 139, 3) := by decide +kernel
theorem dX12_atom_24 : decode cX12_atom 24 = .ok (.aload_n 0, 1) := by decide +kernel
theorem dX12_atom_25 : decode cX12_atom 25 = .ok (.getfield 23, 3) := by decide +kernel
theorem dX12_atom_28 : decode cX12_atom 28 = .ok (.iload_n 1, 1) := by decide +kernel
theorem dX12_atom_29 : decode cX12_atom 29 = .ok (.iaload, 1) := by decide +kernel
theorem dX12_atom_30 : decode cX12_atom 30 = .ok (.ireturn, 1) := by decide +kernel
theorem dX12_atom_31 : decode cX12_atom 31 = .ok (.iload_n 1, 1) := by decide +kernel
theorem dX12_atom_32 : decode cX12_atom 32 = .ok (.bipush 91, 2) := by decide +kernel
theorem dX12_atom_34 : decode cX12_atom 34 = .ok (.if_icmp .ne 40, 3) := by decide +kernel
theorem dX12_atom_37 : decode cX12_atom 37 = .ok (.aload_n 0, 1) := by decide +kernel
theorem dX12_atom_38 : decode cX12_atom 38 = .ok (.invokevirtual 178, 3) := by decide +kernel
theorem dX12_atom_41 : decode cX12_atom 41 = .ok (.ifCond .ne 5, 3) := by decide +kernel
theorem dX12_atom_44 : decode cX12_atom 44 = .ok (.iconst 0, 1) := by decide +kernel
theorem dX12_atom_45 : decode cX12_atom 45 = .ok (.ireturn, 1) := by decide +kernel
theorem dX12_atom_46 : decode cX12_atom 46 = .ok (.aload_n 0, 1) := by decide +kernel
theorem dX12_atom_47 : decode cX12_atom 47 = .ok (.invokevirtual 181, 3) := by decide +kernel
theorem dX12_atom_50 : decode cX12_atom 50 = .ok (.istore_n 2, 1) := by decide +kernel
theorem dX12_atom_51 : decode cX12_atom 51 = .ok (.aload_n 0, 1) := by decide +kernel
theorem dX12_atom_52 : decode cX12_atom 52 = .ok (.bipush 93, 2) := by decide +kernel
theorem dX12_atom_54 : decode cX12_atom 54 = .ok (.invokevirtual 184, 3) := by decide +kernel
theorem dX12_atom_57 : decode cX12_atom 57 = .ok (.ifCond .ne 5, 3) := by decide +kernel
theorem dX12_atom_60 : decode cX12_atom 60 = .ok (.iconst 0, 1) := by decide +kernel
theorem dX12_atom_61 : decode cX12_atom 61 = .ok (.ireturn, 1) := by decide +kernel
theorem dX12_atom_62 : decode cX12_atom 62 = .ok (.aload_n 0, 1) := by decide +kernel
theorem dX12_atom_63 : decode cX12_atom 63 = .ok (.dup, 1) := by decide +kernel
theorem dX12_atom_64 : decode cX12_atom 64 = .ok (.getfield 151, 3) := by decide +kernel
theorem dX12_atom_67 : decode cX12_atom 67 = .ok (.iconst 1, 1) := by decide +kernel
theorem dX12_atom_68 : decode cX12_atom 68 = .ok (.isub, 1) := by decide +kernel
theorem dX12_atom_69 : decode cX12_atom 69 = .ok (.putfield 151, 3) := by decide +kernel
theorem dX12_atom_72 : decode cX12_atom 72 = .ok (.iload_n 2, 1) := by decide +kernel
theorem dX12_atom_73 : decode cX12_atom 73 = .ok (.ireturn, 1) := by decide +kernel
theorem dX12_atom_74 : decode cX12_atom 74 = .ok (.aload_n 0, 1) := by decide +kernel
theorem dX12_atom_75 : decode cX12_atom 75 = .ok (.invokevirtual 188, 3) := by decide +kernel
theorem dX12_atom_78 : decode cX12_atom 78 = .ok (.ifCond .ne 8, 3) := by decide +kernel
theorem dX12_atom_81 : decode cX12_atom 81 = .ok (.aload_n 0, 1) := by decide +kernel
theorem dX12_atom_82 : decode cX12_atom 82 = .ok (.invokevirtual 154, 3) := by decide +kernel
theorem dX12_atom_85 : decode cX12_atom 85 = .ok (.pop, 1) := by decide +kernel
theorem dX12_atom_86 : decode cX12_atom 86 = .ok (.iconst 0, 1) := by decide +kernel
theorem dX12_atom_87 : decode cX12_atom 87 = .ok (.istore_n 2, 1) := by decide +kernel
theorem dX12_atom_88 : decode cX12_atom 88 = .ok (.iconst 0, 1) := by decide +kernel
theorem dX12_atom_89 : decode cX12_atom 89 = .ok (.istore_n 3, 1) := by decide +kernel
theorem dX12_atom_90 : decode cX12_atom 90 = .ok (.aload_n 0, 1) := by decide +kernel
theorem dX12_atom_91 : decode cX12_atom 91 = .ok (.invokevirtual 188, 3) := by decide +kernel
theorem dX12_atom_94 : decode cX12_atom 94 = .ok (.ifCond .eq 62, 3) := by decide +kernel
theorem dX12_atom_97 : decode cX12_atom 97 = .ok (.aload_n 0, 1) := by decide +kernel
theorem dX12_atom_98 : decode cX12_atom 98 = .ok (.getfield 148, 3) := by decide +kernel
theorem dX12_atom_101 : decode cX12_atom 101 = .ok (.iconst (-1), 1) := by decide +kernel
theorem dX12_atom_102 : decode cX12_atom 102 = .ok (.if_icmp .ne 54, 3) := by decide +kernel
theorem dX12_atom_105 : decode cX12_atom 105 = .ok (.iload_n 3, 1) := by decide +kernel
theorem dX12_atom_106 : decode cX12_atom 106 = .ok (.iconst 4, 1) := by decide +kernel
theorem dX12_atom_107 : decode cX12_atom 107 = .ok (.if_icmp .ne 10, 3) := by decide +kernel
theorem dX12_atom_110 : decode cX12_atom 110 = .ok (.aload_n 0, 1) := by decide +kernel
theorem dX12_atom_111 : decode cX12_atom 111 = .ok (.invokevirtual 154, 3) := by decide +kernel
theorem dX12_atom_114 : decode cX12_atom 114 = .ok (.pop, 1) := by decide +kernel
theorem dX12_atom_115 : decode cX12_atom 115 = .ok (.iconst 0, 1) := by decide +kernel
theorem dX12_atom_116 : decode cX12_atom 116 = .ok (.ireturn, 1) := by decide +kernel
theorem dX12_atom_117 : decode cX12_atom 117 = .ok (.bipush 10, 2) := by decide +kernel
theorem dX12_atom_119 : decode cX12_atom 119 = .ok (.iload_n 2, 1) := by decide +kernel
theorem dX12_atom_120 : decode cX12_atom 120 = .ok (.imul, 1) := by decide +kernel
theorem dX12_atom_121 : decode cX12_atom 121 = .ok (.aload_n 0, 1) := by decide +kernel
theorem dX12_atom_122 : decode cX12_atom 122 = .ok (.getfield 26, 3) := by decide +kernel
theorem dX12_atom_125 : decode cX12_atom 125 = .ok (.aload_n 0, 1) := by decide +kernel
theorem dX12_atom_126 : decode cX12_atom 126 = .ok (.getfield 145, 3) := by decide +kernel
theorem dX12_atom_129 : decode cX12_atom 129 = .ok (.aload_n 0, 1) := by decide +kernel
theorem dX12_atom_130 : decode cX12_atom 130 = .ok (.getfield 139, 3) := by decide +kernel
theorem dX12_atom_133 : decode cX12_atom 133 = .ok (.iadd, 1) := by decide +kernel
theorem dX12_atom_134 : decode cX12_atom 134 = .ok (.baload, 1) := by decide +kernel
theorem dX12_atom_135 : decode cX12_atom 135 = .ok (.iadd, 1) := by decide +kernel
theorem dX12_atom_136 : decode cX12_atom 136 = .ok (.bipush 48, 2) := by decide +kernel
theorem dX12_atom_138 : decode cX12_atom 138 = .ok (.isub, 1) := by decide +kernel
theorem dX12_atom_139 : decode cX12_atom 139 = .ok (.istore_n 2, 1) := by decide +kernel
theorem dX12_atom_140 : decode cX12_atom 140 = .ok (.aload_n 0, 1) := by decide +kernel
theorem dX12_atom_141 : decode cX12_atom 141 = .ok (.dup, 1) := by decide +kernel
theorem dX12_atom_142 : decode cX12_atom 142 = .ok (.getfield 139, 3) := by decide +kernel
theorem dX12_atom_145 : decode cX12_atom 145 = .ok (.iconst 1, 1) := by decide +kernel
theorem dX12_atom_146 : decode cX12_atom 146 = .ok (.iadd, 1) := by decide +kernel
theorem dX12_atom_147 : decode cX12_atom 147 = .ok (.putfield 139, 3) := by decide +kernel
theorem dX12_atom_150 : decode cX12_atom 150 = .ok (.iinc 3 1, 3) := by decide +kernel
theorem dX12_atom_153 : decode cX12_atom 153 = .ok (.goto (-63), 3) := by decide +kernel
theorem dX12_atom_156 : decode cX12_atom 156 = .ok (.iload_n 2, 1) := by decide +kernel
theorem dX12_atom_157 : decode cX12_atom 157 = .ok (.ireturn, 1) := by decide +kernel
theorem dX12_term_0 : decode cX12_term 0 = .ok (.aload_n 0, 1) := by decide +kernel
theorem dX12_term_1 : decode cX12_term 1 = .ok (.invokevirtual 191, 3) := by decide +kernel
theorem dX12_term_4 : decode cX12_term 4 = .ok (.istore_n 1, 1) := by decide +kernel
theorem dX12_term_5 : decode cX12_term 5 = .ok (.aload_n 0, 1) := by decide +kernel
theorem dX12_term_6 : decode cX12_term 6 = .ok (.getfield 148, 3) := by decide +kernel
theorem dX12_term_9 : decode cX12_term 9 = .ok (.iconst (-1), 1) := by decide +kernel
theorem dX12_term_10 : decode cX12_term 10 = .ok (.if_icmp .ne 84, 3) := by decide +kernel
theorem dX12_term_13 : decode cX12_term 13 = .ok (.aload_n 0, 1) := by decide +kernel
theorem dX12_term_14 : decode cX12_term 14 = .ok (.invokevirtual 158, 3) := by decide +kernel
theorem dX12_term_17 : decode cX12_term 17 = .ok (.bipush 42, 2) := by decide +kernel
theorem dX12_term_19 : decode cX12_term 19 = .ok (.if_icmp .eq 12, 3) := by decide +kernel
theorem dX12_term_22 : decode cX12_term 22 = .ok (.aload_n 0, 1) := by decide +kernel
theorem dX12_term_23 : decode cX12_term 23 = .ok (.invokevirtual 158, 3) := by decide +kernel
theorem dX12_term_26 : decode cX12_term 26 = .ok (.bipush 47, 2) := by decide +kernel
theorem dX12_term_28 : decode cX12_term 28 = .ok (.if_icmp .ne 66, 3) := by decide +kernel
theorem dX12_term_31 : decode cX12_term 31 = .ok (.aload_n 0, 1) := by decide +kernel
theorem dX12_term_32 : decode cX12_term 32 = .ok (.invokevirtual 158, 3) := by decide +kernel
theorem dX12_term_35 : decode cX12_term 35 = .ok (.bipush 42, 2) := by decide +kernel
theorem dX12_term_37 : decode cX12_term 37 = .ok (.if_icmp .ne 7, 3) := by decide +kernel
theorem dX12_term_40 : decode cX12_term 40 = .ok (.iconst 1, 1) := by decide +kernel
theorem dX12_term_41 : decode cX12_term 41 = .ok (.goto 4, 3) := by decide +kernel
theorem dX12_term_44 : decode cX12_term 44 = .ok (.iconst 0, 1) := by decide +kernel
theorem dX12_term_45 : decode cX12_term 45 = .ok (.istore_n 2, 1) := by decide +kernel
theorem dX12_term_46 : decode cX12_term 46 = .ok (.aload_n 0, 1) := by decide +kernel
theorem dX12_term_47 : decode cX12_term 47 = .ok (.dup, 1) := by decide +kernel
theorem dX12_term_48 : decode cX12_term 48 = .ok (.getfield 139, 3) := by decide +kernel
theorem dX12_term_51 : decode cX12_term 51 = .ok (.iconst 1, 1) := by decide +kernel
theorem dX12_term_52 : decode cX12_term 52 = .ok (.iadd, 1) := by decide +kernel
theorem dX12_term_53 : decode cX12_term 53 = .ok (.putfield 139, 3) := by decide +kernel
theorem dX12_term_56 : decode cX12_term 56 = .ok (.aload_n 0, 1) := by decide +kernel
theorem dX12_term_57 : decode cX12_term 57 = .ok (.invokevirtual 191, 3) := by decide +kernel
theorem dX12_term_60 : decode cX12_term 60 = .ok (.i2l, 1) := by decide +kernel
theorem dX12_term_61 : decode cX12_term 61 = .ok (.lstore_n 3, 1) := by decide +kernel
theorem dX12_term_62 : decode cX12_term 62 = .ok (.iload_n 2, 1) := by decide +kernel
theorem dX12_term_63 : decode cX12_term 63 = .ok (.ifCond .eq 10, 3) := by decide +kernel
theorem dX12_term_66 : decode cX12_term 66 = .ok (.iload_n 1, 1) := by decide +kernel
theorem dX12_term_67 : decode cX12_term 67 = .ok (.i2l, 1) := by decide +kernel
theorem dX12_term_68 : decode cX12_term 68 = .ok (.lload_n 3, 1) := by decide +kernel
theorem dX12_term_69 : decode cX12_term 69 = .ok (.lmul, 1) := by decide +kernel
theorem dX12_term_70 : decode cX12_term 70 = .ok (.goto 17, 3) := by decide +kernel
theorem dX12_term_73 : decode cX12_term 73 = .ok (.lload_n 3, 1) := by decide +kernel
theorem dX12_term_74 : decode cX12_term 74 = .ok (.lconst 0, 1) := by decide +kernel
theorem dX12_term_75 : decode cX12_term 75 = .ok (.lcmp, 1) := by decide +kernel
theorem dX12_term_76 : decode cX12_term 76 = .ok (.ifCond .ne 7, 3) := by decide +kernel
theorem dX12_term_79 : decode cX12_term 79 = .ok (.lconst 0, 1) := by decide +kernel
theorem dX12_term_80 : decode cX12_term 80 = .ok (.goto 7, 3) := by decide +kernel
theorem dX12_term_83 : decode cX12_term 83 = .ok (.iload_n 1, 1) := by decide +kernel
theorem dX12_term_84 : decode cX12_term 84 = .ok (.i2l, 1) := by decide +kernel
theorem dX12_term_85 : decode cX12_term 85 = .ok (.lload_n 3, 1) := by decide +kernel
theorem dX12_term_86 : decode cX12_term 86 = .ok (.ldiv, 1) := by decide +kernel
theorem dX12_term_87 : decode cX12_term 87 = .ok (.invokestatic 194, 3) := by decide +kernel
theorem dX12_term_90 : decode cX12_term 90 = .ok (.istore_n 1, 1) := by decide +kernel
theorem dX12_term_91 : decode cX12_term 91 = .ok (.goto (-86), 3) := by decide +kernel
theorem dX12_term_94 : decode cX12_term 94 = .ok (.iload_n 1, 1) := by decide +kernel
theorem dX12_term_95 : decode cX12_term 95 = .ok (.ireturn, 1) := by decide +kernel
theorem dX12_sum_0 : decode cX12_sum 0 = .ok (.aload_n 0, 1) := by decide +kernel
theorem dX12_sum_1 : decode cX12_sum 1 = .ok (.invokevirtual 198, 3) := by decide +kernel
theorem dX12_sum_4 : decode cX12_sum 4 = .ok (.istore_n 1, 1) := by decide +kernel
theorem dX12_sum_5 : decode cX12_sum 5 = .ok (.aload_n 0, 1) := by decide +kernel
theorem dX12_sum_6 : decode cX12_sum 6 = .ok (.getfield 148, 3) := by decide +kernel
theorem dX12_sum_9 : decode cX12_sum 9 = .ok (.iconst (-1), 1) := by decide +kernel
theorem dX12_sum_10 : decode cX12_sum 10 = .ok (.if_icmp .ne 74, 3) := by decide +kernel
theorem dX12_sum_13 : decode cX12_sum 13 = .ok (.aload_n 0, 1) := by decide +kernel
theorem dX12_sum_14 : decode cX12_sum 14 = .ok (.invokevirtual 158, 3) := by decide +kernel
theorem dX12_sum_17 : decode cX12_sum 17 = .ok (.bipush 43, 2) := by decide +kernel
theorem dX12_sum_19 : decode cX12_sum 19 = .ok (.if_icmp .eq 12, 3) := by decide +kernel
theorem dX12_sum_22 : decode cX12_sum 22 = .ok (.aload_n 0, 1) := by decide +kernel
theorem dX12_sum_23 : decode cX12_sum 23 = .ok (.invokevirtual 158, 3) := by decide +kernel
theorem dX12_sum_26 : decode cX12_sum 26 = .ok (.bipush 45, 2) := by decide +kernel
theorem dX12_sum_28 : decode cX12_sum 28 = .ok (.if_icmp .ne 56, 3) := by decide +kernel
theorem dX12_sum_31 : decode cX12_sum 31 = .ok (.aload_n 0, 1) := by decide +kernel
theorem dX12_sum_32 : decode cX12_sum 32 = .ok (.invokevirtual 158, 3) := by decide +kernel
theorem dX12_sum_35 : decode cX12_sum 35 = .ok (.bipush 43, 2) := by decide +kernel
theorem dX12_sum_37 : decode cX12_sum 37 = .ok (.if_icmp .ne 7, 3) := by decide +kernel
theorem dX12_sum_40 : decode cX12_sum 40 = .ok (.iconst 1, 1) := by decide +kernel
theorem dX12_sum_41 : decode cX12_sum 41 = .ok (.goto 4, 3) := by decide +kernel
theorem dX12_sum_44 : decode cX12_sum 44 = .ok (.iconst 0, 1) := by decide +kernel
theorem dX12_sum_45 : decode cX12_sum 45 = .ok (.istore_n 2, 1) := by decide +kernel
theorem dX12_sum_46 : decode cX12_sum 46 = .ok (.aload_n 0, 1) := by decide +kernel
theorem dX12_sum_47 : decode cX12_sum 47 = .ok (.dup, 1) := by decide +kernel
theorem dX12_sum_48 : decode cX12_sum 48 = .ok (.getfield 139, 3) := by decide +kernel
theorem dX12_sum_51 : decode cX12_sum 51 = .ok (.iconst 1, 1) := by decide +kernel
theorem dX12_sum_52 : decode cX12_sum 52 = .ok (.iadd, 1) := by decide +kernel
theorem dX12_sum_53 : decode cX12_sum 53 = .ok (.putfield 139, 3) := by decide +kernel
theorem dX12_sum_56 : decode cX12_sum 56 = .ok (.aload_n 0, 1) := by decide +kernel
theorem dX12_sum_57 : decode cX12_sum 57 = .ok (.invokevirtual 198, 3) := by decide +kernel
theorem dX12_sum_60 : decode cX12_sum 60 = .ok (.i2l, 1) := by decide +kernel
theorem dX12_sum_61 : decode cX12_sum 61 = .ok (.lstore_n 3, 1) := by decide +kernel
theorem dX12_sum_62 : decode cX12_sum 62 = .ok (.iload_n 2, 1) := by decide +kernel
theorem dX12_sum_63 : decode cX12_sum 63 = .ok (.ifCond .eq 10, 3) := by decide +kernel
theorem dX12_sum_66 : decode cX12_sum 66 = .ok (.iload_n 1, 1) := by decide +kernel
theorem dX12_sum_67 : decode cX12_sum 67 = .ok (.i2l, 1) := by decide +kernel
theorem dX12_sum_68 : decode cX12_sum 68 = .ok (.lload_n 3, 1) := by decide +kernel
theorem dX12_sum_69 : decode cX12_sum 69 = .ok (.ladd, 1) := by decide +kernel
theorem dX12_sum_70 : decode cX12_sum 70 = .ok (.goto 7, 3) := by decide +kernel
theorem dX12_sum_73 : decode cX12_sum 73 = .ok (.iload_n 1, 1) := by decide +kernel
theorem dX12_sum_74 : decode cX12_sum 74 = .ok (.i2l, 1) := by decide +kernel
theorem dX12_sum_75 : decode cX12_sum 75 = .ok (.lload_n 3, 1) := by decide +kernel
theorem dX12_sum_76 : decode cX12_sum 76 = .ok (.lsub, 1) := by decide +kernel
theorem dX12_sum_77 : decode cX12_sum 77 = .ok (.invokestatic 194, 3) := by decide +kernel
theorem dX12_sum_80 : decode cX12_sum 80 = .ok (.istore_n 1, 1) := by decide +kernel
theorem dX12_sum_81 : decode cX12_sum 81 = .ok (.goto (-76), 3) := by decide +kernel
theorem dX12_sum_84 : decode cX12_sum 84 = .ok (.iload_n 1, 1) := by decide +kernel
theorem dX12_sum_85 : decode cX12_sum 85 = .ok (.ireturn, 1) := by decide +kernel
theorem dX12_isSign_0 : decode cX12_isSign 0 = .ok (.iload_n 0, 1) := by decide +kernel
theorem dX12_isSign_1 : decode cX12_isSign 1 = .ok (.bipush 61, 2) := by decide +kernel
theorem dX12_isSign_3 : decode cX12_isSign 3 = .ok (.if_icmp .eq 15, 3) := by decide +kernel
theorem dX12_isSign_6 : decode cX12_isSign 6 = .ok (.iload_n 0, 1) := by decide +kernel
theorem dX12_isSign_7 : decode cX12_isSign 7 = .ok (.bipush 60, 2) := by decide +kernel
theorem dX12_isSign_9 : decode cX12_isSign 9 = .ok (.if_icmp .eq 9, 3) := by decide +kernel
theorem dX12_isSign_12 : decode cX12_isSign 12 = .ok (.iload_n 0, 1) := by decide +kernel
theorem dX12_isSign_13 : decode cX12_isSign 13 = .ok (.bipush 62, 2) := by decide +kernel
theorem dX12_isSign_15 : decode cX12_isSign 15 = .ok (.if_icmp .ne 7, 3) := by decide +kernel
theorem dX12_isSign_18 : decode cX12_isSign 18 = .ok (.iconst 1, 1) := by decide +kernel
theorem dX12_isSign_19 : decode cX12_isSign 19 = .ok (.goto 4, 3) := by decide +kernel
theorem dX12_isSign_22 : decode cX12_isSign 22 = .ok (.iconst 0, 1) := by decide +kernel
theorem dX12_isSign_23 : decode cX12_isSign 23 = .ok (.ireturn, 1) := by decide +kernel
theorem dX12_compares_0 : decode cX12_compares 0 = .ok (.iload_n 1, 1) := by decide +kernel
theorem dX12_compares_1 : decode cX12_compares 1 = .ok (.ifCond .eq 7, 3) := by decide +kernel
theorem dX12_compares_4 : decode cX12_compares 4 = .ok (.iload_n 2, 1) := by decide +kernel
theorem dX12_compares_5 : decode cX12_compares 5 = .ok (.goto 7, 3) := by decide +kernel
theorem dX12_compares_8 : decode cX12_compares 8 = .ok (.aload_n 0, 1) := by decide +kernel
theorem dX12_compares_9 : decode cX12_compares 9 = .ok (.invokevirtual 181, 3) := by decide +kernel
theorem dX12_compares_12 : decode cX12_compares 12 = .ok (.istore_n 3, 1) := by decide +kernel
theorem dX12_compares_13 : decode cX12_compares 13 = .ok (.aload_n 0, 1) := by decide +kernel
theorem dX12_compares_14 : decode cX12_compares 14 = .ok (.getfield 148, 3) := by decide +kernel
theorem dX12_compares_17 : decode cX12_compares 17 = .ok (.iconst (-1), 1) := by decide +kernel
theorem dX12_compares_18 : decode cX12_compares 18 = .ok (.if_icmp .eq 5, 3) := by decide +kernel
theorem dX12_compares_21 : decode cX12_compares 21 = .ok (.iconst 0, 1) := by decide +kernel
theorem dX12_compares_22 : decode cX12_compares 22 = .ok (.ireturn, 1) := by decide +kernel
theorem dX12_compares_23 : decode cX12_compares 23 = .ok (.aload_n 0, 1) := by decide +kernel
theorem dX12_compares_24 : decode cX12_compares 24 = .ok (.invokevirtual 158, 3) := by decide +kernel
theorem dX12_compares_27 : decode cX12_compares 27 = .ok (.istore 4, 2) := by decide +kernel
theorem dX12_compares_29 : decode cX12_compares 29 = .ok (.iload 4, 2) := by decide +kernel
theorem dX12_compares_31 : decode cX12_compares 31 = .ok (.invokestatic 201, 3) := by decide +kernel
theorem dX12_compares_34 : decode cX12_compares 34 = .ok (.ifCond .ne 8, 3) := by decide +kernel
theorem dX12_compares_37 : decode cX12_compares 37 = .ok (.aload_n 0, 1) := by decide +kernel
theorem dX12_compares_38 : decode cX12_compares 38 = .ok (.invokevirtual 154, 3) := by decide +kernel
theorem dX12_compares_41 : decode cX12_compares 41 = .ok (.ireturn, 1) := by decide +kernel
theorem dX12_compares_42 : decode cX12_compares 42 = .ok (.aload_n 0, 1) := by decide +kernel
theorem dX12_compares_43 : decode cX12_compares 43 = .ok (.dup, 1) := by decide +kernel
theorem dX12_compares_44 : decode cX12_compares 44 = .ok (.getfield 139, 3) := by decide +kernel
theorem dX12_compares_47 : decode cX12_compares 47 = .ok (.iconst 1, 1) := by decide +kernel
theorem dX12_compares_48 : decode cX12_compares 48 = .ok (.iadd, 1) := by decide +kernel
theorem dX12_compares_49 : decode cX12_compares 49 = .ok (.putfield 139, 3) := by decide +kernel
theorem dX12_compares_52 : decode cX12_compares 52 = .ok (.aload_n 0, 1) := by decide +kernel
theorem dX12_compares_53 : decode cX12_compares 53 = .ok (.invokevirtual 181, 3) := by decide +kernel
theorem dX12_compares_56 : decode cX12_compares 56 = .ok (.istore 5, 2) := by decide +kernel
theorem dX12_compares_58 : decode cX12_compares 58 = .ok (.iload 4, 2) := by decide +kernel
theorem dX12_compares_60 : decode cX12_compares 60 = .ok (.bipush 61, 2) := by decide +kernel
theorem dX12_compares_62 : decode cX12_compares 62 = .ok (.if_icmp .ne 17, 3) := by decide +kernel
theorem dX12_compares_65 : decode cX12_compares 65 = .ok (.iload_n 3, 1) := by decide +kernel
theorem dX12_compares_66 : decode cX12_compares 66 = .ok (.iload 5, 2) := by decide +kernel
theorem dX12_compares_68 : decode cX12_compares 68 = .ok (.if_icmp .ne 7, 3) := by decide +kernel
theorem dX12_compares_71 : decode cX12_compares 71 = .ok (.iconst 1, 1) := by decide +kernel
theorem dX12_compares_72 : decode cX12_compares 72 = .ok (.goto 39, 3) := by decide +kernel
theorem dX12_compares_75 : decode cX12_compares 75 = .ok (.iconst 0, 1) := by decide +kernel
theorem dX12_compares_76 : decode cX12_compares 76 = .ok (.goto 35, 3) := by decide +kernel
theorem dX12_compares_79 : decode cX12_compares 79 = .ok (.iload 4, 2) := by decide +kernel
theorem dX12_compares_81 : decode cX12_compares 81 = .ok (.bipush 60, 2) := by decide +kernel
theorem dX12_compares_83 : decode cX12_compares 83 = .ok (.if_icmp .ne 17, 3) := by decide +kernel
theorem dX12_compares_86 : decode cX12_compares 86 = .ok (.iload_n 3, 1) := by decide +kernel
theorem dX12_compares_87 : decode cX12_compares 87 = .ok (.iload 5, 2) := by decide +kernel
theorem dX12_compares_89 : decode cX12_compares 89 = .ok (.if_icmp .ge 7, 3) := by decide +kernel
theorem dX12_compares_92 : decode cX12_compares 92 = .ok (.iconst 1, 1) := by decide +kernel
theorem dX12_compares_93 : decode cX12_compares 93 = .ok (.goto 18, 3) := by decide +kernel
theorem dX12_compares_96 : decode cX12_compares 96 = .ok (.iconst 0, 1) := by decide +kernel
theorem dX12_compares_97 : decode cX12_compares 97 = .ok (.goto 14, 3) := by decide +kernel
theorem dX12_compares_100 : decode cX12_compares 100 = .ok (.iload_n 3, 1) := by decide +kernel
theorem dX12_compares_101 : decode cX12_compares 101 = .ok (.iload 5, 2) := by decide +kernel
theorem dX12_compares_103 : decode cX12_compares 103 = .ok (.if_icmp .le 7, 3) := by decide +kernel
theorem dX12_compares_106 : decode cX12_compares 106 = .ok (.iconst 1, 1) := by decide +kernel
theorem dX12_compares_107 : decode cX12_compares 107 = .ok (.goto 4, 3) := by decide +kernel
theorem dX12_compares_110 : decode cX12_compares 110 = .ok (.iconst 0, 1) := by decide +kernel
theorem dX12_compares_111 : decode cX12_compares 111 = .ok (.ireturn, 1) := by decide +kernel
theorem dX12_unit_0 : decode cX12_unit 0 = .ok (.aload_n 0, 1) := by decide +kernel
theorem dX12_unit_1 : decode cX12_unit 1 = .ok (.invokevirtual 158, 3) := by decide +kernel
theorem dX12_unit_4 : decode cX12_unit 4 = .ok (.istore_n 1, 1) := by decide +kernel
theorem dX12_unit_5 : decode cX12_unit 5 = .ok (.iload_n 1, 1) := by decide +kernel
theorem dX12_unit_6 : decode cX12_unit 6 = .ok (.bipush 33, 2) := by decide +kernel
theorem dX12_unit_8 : decode cX12_unit 8 = .ok (.if_icmp .ne 37, 3) := by decide +kernel
theorem dX12_unit_11 : decode cX12_unit 11 = .ok (.aload_n 0, 1) := by decide +kernel
theorem dX12_unit_12 : decode cX12_unit 12 = .ok (.invokevirtual 178, 3) := by decide +kernel
theorem dX12_unit_15 : decode cX12_unit 15 = .ok (.ifCond .ne 5, 3) := by decide +kernel
theorem dX12_unit_18 : decode cX12_unit 18 = .ok (.iconst 0, 1) := by decide +kernel
theorem dX12_unit_19 : decode cX12_unit 19 = .ok (.ireturn, 1) := by decide +kernel
theorem dX12_unit_20 : decode cX12_unit 20 = .ok (.aload_n 0, 1) := by decide +kernel
theorem dX12_unit_21 : decode cX12_unit 21 = .ok (.invokevirtual 204, 3) := by decide +kernel
theorem dX12_unit_24 : decode cX12_unit 24 = .ok (.istore_n 2, 1) := by decide +kernel
theorem dX12_unit_25 : decode cX12_unit 25 = .ok (.aload_n 0, 1) := by decide +kernel
theorem dX12_unit_26 : decode cX12_unit 26 = .ok (.dup, 1) := by decide +kernel
theorem dX12_unit_27 : decode cX12_unit 27 = .ok (.getfield 151, 3) := by decide +kernel
theorem dX12_unit_30 : decode cX12_unit 30 = .ok (.iconst 1, 1) := by decide +kernel
theorem dX12_unit_31 : decode cX12_unit 31 = .ok (.isub, 1) := by decide +kernel
theorem dX12_unit_32 : decode cX12_unit 32 = .ok (.putfield 151, 3) := by decide +kernel
theorem dX12_unit_35 : decode cX12_unit 35 = .ok (.iload_n 2, 1) := by decide +kernel
theorem dX12_unit_36 : decode cX12_unit 36 = .ok (.ifCond .ne 7, 3) := by decide +kernel
theorem dX12_unit_39 : decode cX12_unit 39 = .ok (.iconst 1, 1) := by decide +kernel
theorem dX12_unit_40 : decode cX12_unit 40 = .ok (.goto 4, 3) := by decide +kernel
theorem dX12_unit_43 : decode cX12_unit 43 = .ok (.iconst 0, 1) := by decide +kernel
theorem dX12_unit_44 : decode cX12_unit 44 = .ok (.ireturn, 1) := by decide +kernel
theorem dX12_unit_45 : decode cX12_unit 45 = .ok (.iload_n 1, 1) := by decide +kernel
theorem dX12_unit_46 : decode cX12_unit 46 = .ok (.bipush 40, 2) := by decide +kernel
theorem dX12_unit_48 : decode cX12_unit 48 = .ok (.if_icmp .ne 42, 3) := by decide +kernel
theorem dX12_unit_51 : decode cX12_unit 51 = .ok (.aload_n 0, 1) := by decide +kernel
theorem dX12_unit_52 : decode cX12_unit 52 = .ok (.invokevirtual 178, 3) := by decide +kernel
theorem dX12_unit_55 : decode cX12_unit 55 = .ok (.ifCond .ne 5, 3) := by decide +kernel
theorem dX12_unit_58 : decode cX12_unit 58 = .ok (.iconst 0, 1) := by decide +kernel
theorem dX12_unit_59 : decode cX12_unit 59 = .ok (.ireturn, 1) := by decide +kernel
theorem dX12_unit_60 : decode cX12_unit 60 = .ok (.aload_n 0, 1) := by decide +kernel
theorem dX12_unit_61 : decode cX12_unit 61 = .ok (.iconst 0, 1) := by decide +kernel
theorem dX12_unit_62 : decode cX12_unit 62 = .ok (.iconst 0, 1) := by decide +kernel
theorem dX12_unit_63 : decode cX12_unit 63 = .ok (.invokevirtual 207, 3) := by decide +kernel
theorem dX12_unit_66 : decode cX12_unit 66 = .ok (.istore_n 2, 1) := by decide +kernel
theorem dX12_unit_67 : decode cX12_unit 67 = .ok (.aload_n 0, 1) := by decide +kernel
theorem dX12_unit_68 : decode cX12_unit 68 = .ok (.bipush 41, 2) := by decide +kernel
theorem dX12_unit_70 : decode cX12_unit 70 = .ok (.invokevirtual 184, 3) := by decide +kernel
theorem dX12_unit_73 : decode cX12_unit 73 = .ok (.ifCond .ne 5, 3) := by decide +kernel
theorem dX12_unit_76 : decode cX12_unit 76 = .ok (.iconst 0, 1) := by decide +kernel
theorem dX12_unit_77 : decode cX12_unit 77 = .ok (.ireturn, 1) := by decide +kernel
theorem dX12_unit_78 : decode cX12_unit 78 = .ok (.aload_n 0, 1) := by decide +kernel
theorem dX12_unit_79 : decode cX12_unit 79 = .ok (.dup, 1) := by decide +kernel
theorem dX12_unit_80 : decode cX12_unit 80 = .ok (.getfield 151, 3) := by decide +kernel
theorem dX12_unit_83 : decode cX12_unit 83 = .ok (.iconst 1, 1) := by decide +kernel
theorem dX12_unit_84 : decode cX12_unit 84 = .ok (.isub, 1) := by decide +kernel
theorem dX12_unit_85 : decode cX12_unit 85 = .ok (.putfield 151, 3) := by decide +kernel
theorem dX12_unit_88 : decode cX12_unit 88 = .ok (.iload_n 2, 1) := by decide +kernel
theorem dX12_unit_89 : decode cX12_unit 89 = .ok (.ireturn, 1) := by decide +kernel
theorem dX12_unit_90 : decode cX12_unit 90 = .ok (.aload_n 0, 1) := by decide +kernel
theorem dX12_unit_91 : decode cX12_unit 91 = .ok (.iconst 0, 1) := by decide +kernel
theorem dX12_unit_92 : decode cX12_unit 92 = .ok (.iconst 0, 1) := by decide +kernel
theorem dX12_unit_93 : decode cX12_unit 93 = .ok (.invokevirtual 211, 3) := by decide +kernel
theorem dX12_unit_96 : decode cX12_unit 96 = .ok (.ireturn, 1) := by decide +kernel
theorem dX12_part_0 : decode cX12_part 0 = .ok (.iload_n 1, 1) := by decide +kernel
theorem dX12_part_1 : decode cX12_part 1 = .ok (.ifCond .eq 12, 3) := by decide +kernel
theorem dX12_part_4 : decode cX12_part 4 = .ok (.aload_n 0, 1) := by decide +kernel
theorem dX12_part_5 : decode cX12_part 5 = .ok (.iconst 1, 1) := by decide +kernel
theorem dX12_part_6 : decode cX12_part 6 = .ok (.iload_n 2, 1) := by decide +kernel
theorem dX12_part_7 : decode cX12_part 7 = .ok (.invokevirtual 211, 3) := by decide +kernel
theorem dX12_part_10 : decode cX12_part 10 = .ok (.goto 7, 3) := by decide +kernel
theorem dX12_part_13 : decode cX12_part 13 = .ok (.aload_n 0, 1) := by decide +kernel
theorem dX12_part_14 : decode cX12_part 14 = .ok (.invokevirtual 204, 3) := by decide +kernel
theorem dX12_part_17 : decode cX12_part 17 = .ok (.istore_n 3, 1) := by decide +kernel
theorem dX12_part_18 : decode cX12_part 18 = .ok (.aload_n 0, 1) := by decide +kernel
theorem dX12_part_19 : decode cX12_part 19 = .ok (.getfield 148, 3) := by decide +kernel
theorem dX12_part_22 : decode cX12_part 22 = .ok (.iconst (-1), 1) := by decide +kernel
theorem dX12_part_23 : decode cX12_part 23 = .ok (.if_icmp .ne 46, 3) := by decide +kernel
theorem dX12_part_26 : decode cX12_part 26 = .ok (.aload_n 0, 1) := by decide +kernel
theorem dX12_part_27 : decode cX12_part 27 = .ok (.invokevirtual 158, 3) := by decide +kernel
theorem dX12_part_30 : decode cX12_part 30 = .ok (.bipush 38, 2) := by decide +kernel
theorem dX12_part_32 : decode cX12_part 32 = .ok (.if_icmp .ne 37, 3) := by decide +kernel
theorem dX12_part_35 : decode cX12_part 35 = .ok (.aload_n 0, 1) := by decide +kernel
theorem dX12_part_36 : decode cX12_part 36 = .ok (.dup, 1) := by decide +kernel
theorem dX12_part_37 : decode cX12_part 37 = .ok (.getfield 139, 3) := by decide +kernel
theorem dX12_part_40 : decode cX12_part 40 = .ok (.iconst 1, 1) := by decide +kernel
theorem dX12_part_41 : decode cX12_part 41 = .ok (.iadd, 1) := by decide +kernel
theorem dX12_part_42 : decode cX12_part 42 = .ok (.putfield 139, 3) := by decide +kernel
theorem dX12_part_45 : decode cX12_part 45 = .ok (.aload_n 0, 1) := by decide +kernel
theorem dX12_part_46 : decode cX12_part 46 = .ok (.invokevirtual 204, 3) := by decide +kernel
theorem dX12_part_49 : decode cX12_part 49 = .ok (.istore 4, 2) := by decide +kernel
theorem dX12_part_51 : decode cX12_part 51 = .ok (.iload_n 3, 1) := by decide +kernel
theorem dX12_part_52 : decode cX12_part 52 = .ok (.ifCond .eq 12, 3) := by decide +kernel
theorem dX12_part_55 : decode cX12_part 55 = .ok (.iload 4, 2) := by decide +kernel
theorem dX12_part_57 : decode cX12_part 57 = .ok (.ifCond .eq 7, 3) := by decide +kernel
theorem dX12_part_60 : decode cX12_part 60 = .ok (.iconst 1, 1) := by decide +kernel
theorem dX12_part_61 : decode cX12_part 61 = .ok (.goto 4, 3) := by decide +kernel
theorem dX12_part_64 : decode cX12_part 64 = .ok (.iconst 0, 1) := by decide +kernel
theorem dX12_part_65 : decode cX12_part 65 = .ok (.istore_n 3, 1) := by decide +kernel
theorem dX12_part_66 : decode cX12_part 66 = .ok (.goto (-48), 3) := by decide +kernel
theorem dX12_part_69 : decode cX12_part 69 = .ok (.iload_n 3, 1) := by decide +kernel
theorem dX12_part_70 : decode cX12_part 70 = .ok (.ireturn, 1) := by decide +kernel
theorem dX12_condition_0 : decode cX12_condition 0 = .ok (.aload_n 0, 1) := by decide +kernel
theorem dX12_condition_1 : decode cX12_condition 1 = .ok (.iload_n 1, 1) := by decide +kernel
theorem dX12_condition_2 : decode cX12_condition 2 = .ok (.iload_n 2, 1) := by decide +kernel
theorem dX12_condition_3 : decode cX12_condition 3 = .ok (.invokevirtual 214, 3) := by decide +kernel
theorem dX12_condition_6 : decode cX12_condition 6 = .ok (.istore_n 3, 1) := by decide +kernel
theorem dX12_condition_7 : decode cX12_condition 7 = .ok (.aload_n 0, 1) := by decide +kernel
theorem dX12_condition_8 : decode cX12_condition 8 = .ok (.getfield 148, 3) := by decide +kernel
theorem dX12_condition_11 : decode cX12_condition 11 = .ok (.iconst (-1), 1) := by decide +kernel
theorem dX12_condition_12 : decode cX12_condition 12 = .ok (.if_icmp .ne 48, 3) := by decide +kernel
theorem dX12_condition_15 : decode cX12_condition 15 = .ok (.aload_n 0, 1) := by decide +kernel
theorem dX12_condition_16 : decode cX12_condition 16 = .ok (.invokevirtual 158, 3) := by decide +kernel
theorem dX12_condition_19 : decode cX12_condition 19 = .ok (.bipush 124, 2) := by decide +kernel
theorem dX12_condition_21 : decode cX12_condition 21 = .ok (.if_icmp .ne 39, 3) := by decide +kernel
theorem dX12_condition_24 : decode cX12_condition 24 = .ok (.aload_n 0, 1) := by decide +kernel
theorem dX12_condition_25 : decode cX12_condition 25 = .ok (.dup, 1) := by decide +kernel
theorem dX12_condition_26 : decode cX12_condition 26 = .ok (.getfield 139, 3) := by decide +kernel
theorem dX12_condition_29 : decode cX12_condition 29 = .ok (.iconst 1, 1) := by decide +kernel
theorem dX12_condition_30 : decode cX12_condition 30 = .ok (.iadd, 1) := by decide +kernel
theorem dX12_condition_31 : decode cX12_condition 31 = .ok (.putfield 139, 3) := by decide +kernel
theorem dX12_condition_34 : decode cX12_condition 34 = .ok (.aload_n 0, 1) := by decide +kernel
theorem dX12_condition_35 : decode cX12_condition 35 = .ok (.iconst 0, 1) := by decide +kernel
theorem dX12_condition_36 : decode cX12_condition 36 = .ok (.iconst 0, 1) := by decide +kernel
theorem dX12_condition_37 : decode cX12_condition 37 = .ok (.invokevirtual 214, 3) := by decide +kernel
theorem dX12_condition_40 : decode cX12_condition 40 = .ok (.istore 4, 2) := by decide +kernel
theorem dX12_condition_42 : decode cX12_condition 42 = .ok (.iload_n 3, 1) := by decide +kernel
theorem dX12_condition_43 : decode cX12_condition 43 = .ok (.ifCond .ne 8, 3) := by decide +kernel
theorem dX12_condition_46 : decode cX12_condition 46 = .ok (.iload 4, 2) := by decide +kernel
theorem dX12_condition_48 : decode cX12_condition 48 = .ok (.ifCond .eq 7, 3) := by decide +kernel
theorem dX12_condition_51 : decode cX12_condition 51 = .ok (.iconst 1, 1) := by decide +kernel
theorem dX12_condition_52 : decode cX12_condition 52 = .ok (.goto 4, 3) := by decide +kernel
theorem dX12_condition_55 : decode cX12_condition 55 = .ok (.iconst 0, 1) := by decide +kernel
theorem dX12_condition_56 : decode cX12_condition 56 = .ok (.istore_n 3, 1) := by decide +kernel
theorem dX12_condition_57 : decode cX12_condition 57 = .ok (.goto (-50), 3) := by decide +kernel
theorem dX12_condition_60 : decode cX12_condition 60 = .ok (.iload_n 3, 1) := by decide +kernel
theorem dX12_condition_61 : decode cX12_condition 61 = .ok (.ireturn, 1) := by decide +kernel
theorem dX12_clause_0 : decode cX12_clause 0 = .ok (.aload_n 0, 1) := by decide +kernel
theorem dX12_clause_1 : decode cX12_clause 1 = .ok (.invokevirtual 158, 3) := by decide +kernel
theorem dX12_clause_4 : decode cX12_clause 4 = .ok (.istore_n 1, 1) := by decide +kernel
theorem dX12_clause_5 : decode cX12_clause 5 = .ok (.ldc 29, 2) := by decide +kernel
theorem dX12_clause_7 : decode cX12_clause 7 = .ok (.iload_n 1, 1) := by decide +kernel
theorem dX12_clause_8 : decode cX12_clause 8 = .ok (.invokestatic 174, 3) := by decide +kernel
theorem dX12_clause_11 : decode cX12_clause 11 = .ok (.ifCond .ne 9, 3) := by decide +kernel
theorem dX12_clause_14 : decode cX12_clause 14 = .ok (.aload_n 0, 1) := by decide +kernel
theorem dX12_clause_15 : decode cX12_clause 15 = .ok (.invokevirtual 154, 3) := by decide +kernel
theorem dX12_clause_18 : decode cX12_clause 18 = .ok (.pop, 1) := by decide +kernel
theorem dX12_clause_19 : decode cX12_clause 19 = .ok (.return_, 1) := by decide +kernel
theorem dX12_clause_20 : decode cX12_clause 20 = .ok (.aload_n 0, 1) := by decide +kernel
theorem dX12_clause_21 : decode cX12_clause 21 = .ok (.dup, 1) := by decide +kernel
theorem dX12_clause_22 : decode cX12_clause 22 = .ok (.getfield 139, 3) := by decide +kernel
theorem dX12_clause_25 : decode cX12_clause 25 = .ok (.iconst 1, 1) := by decide +kernel
theorem dX12_clause_26 : decode cX12_clause 26 = .ok (.iadd, 1) := by decide +kernel
theorem dX12_clause_27 : decode cX12_clause 27 = .ok (.putfield 139, 3) := by decide +kernel
theorem dX12_clause_30 : decode cX12_clause 30 = .ok (.aload_n 0, 1) := by decide +kernel
theorem dX12_clause_31 : decode cX12_clause 31 = .ok (.bipush 58, 2) := by decide +kernel
theorem dX12_clause_33 : decode cX12_clause 33 = .ok (.invokevirtual 184, 3) := by decide +kernel
theorem dX12_clause_36 : decode cX12_clause 36 = .ok (.ifCond .ne 4, 3) := by decide +kernel
theorem dX12_clause_39 : decode cX12_clause 39 = .ok (.return_, 1) := by decide +kernel
theorem dX12_clause_40 : decode cX12_clause 40 = .ok (.iconst 1, 1) := by decide +kernel
theorem dX12_clause_41 : decode cX12_clause 41 = .ok (.istore_n 2, 1) := by decide +kernel
theorem dX12_clause_42 : decode cX12_clause 42 = .ok (.iconst 0, 1) := by decide +kernel
theorem dX12_clause_43 : decode cX12_clause 43 = .ok (.istore_n 3, 1) := by decide +kernel
theorem dX12_clause_44 : decode cX12_clause 44 = .ok (.aload_n 0, 1) := by decide +kernel
theorem dX12_clause_45 : decode cX12_clause 45 = .ok (.invokevirtual 158, 3) := by decide +kernel
theorem dX12_clause_48 : decode cX12_clause 48 = .ok (.istore 4, 2) := by decide +kernel
theorem dX12_clause_50 : decode cX12_clause 50 = .ok (.iload 4, 2) := by decide +kernel
theorem dX12_clause_52 : decode cX12_clause 52 = .ok (.bipush 33, 2) := by decide +kernel
theorem dX12_clause_54 : decode cX12_clause 54 = .ok (.if_icmp .eq 10, 3) := by decide +kernel
theorem dX12_clause_57 : decode cX12_clause 57 = .ok (.iload 4, 2) := by decide +kernel
theorem dX12_clause_59 : decode cX12_clause 59 = .ok (.bipush 40, 2) := by decide +kernel
theorem dX12_clause_61 : decode cX12_clause 61 = .ok (.if_icmp .ne 28, 3) := by decide +kernel
theorem dX12_clause_64 : decode cX12_clause 64 = .ok (.aload_n 0, 1) := by decide +kernel
theorem dX12_clause_65 : decode cX12_clause 65 = .ok (.iconst 0, 1) := by decide +kernel
theorem dX12_clause_66 : decode cX12_clause 66 = .ok (.iconst 0, 1) := by decide +kernel
theorem dX12_clause_67 : decode cX12_clause 67 = .ok (.invokevirtual 207, 3) := by decide +kernel
theorem dX12_clause_70 : decode cX12_clause 70 = .ok (.istore_n 2, 1) := by decide +kernel
theorem dX12_clause_71 : decode cX12_clause 71 = .ok (.aload_n 0, 1) := by decide +kernel
theorem dX12_clause_72 : decode cX12_clause 72 = .ok (.bipush 63, 2) := by decide +kernel
theorem dX12_clause_74 : decode cX12_clause 74 = .ok (.invokevirtual 184, 3) := by decide +kernel
theorem dX12_clause_77 : decode cX12_clause 77 = .ok (.ifCond .ne 4, 3) := by decide +kernel
theorem dX12_clause_80 : decode cX12_clause 80 = .ok (.return_, 1) := by decide +kernel
theorem dX12_clause_81 : decode cX12_clause 81 = .ok (.aload_n 0, 1) := by decide +kernel
theorem dX12_clause_82 : decode cX12_clause 82 = .ok (.invokevirtual 181, 3) := by decide +kernel
theorem dX12_clause_85 : decode cX12_clause 85 = .ok (.istore_n 3, 1) := by decide +kernel
theorem dX12_clause_86 : decode cX12_clause 86 = .ok (.goto 48, 3) := by decide +kernel
theorem dX12_clause_89 : decode cX12_clause 89 = .ok (.aload_n 0, 1) := by decide +kernel
theorem dX12_clause_90 : decode cX12_clause 90 = .ok (.invokevirtual 181, 3) := by decide +kernel
theorem dX12_clause_93 : decode cX12_clause 93 = .ok (.istore_n 3, 1) := by decide +kernel
theorem dX12_clause_94 : decode cX12_clause 94 = .ok (.aload_n 0, 1) := by decide +kernel
theorem dX12_clause_95 : decode cX12_clause 95 = .ok (.getfield 148, 3) := by decide +kernel
theorem dX12_clause_98 : decode cX12_clause 98 = .ok (.iconst (-1), 1) := by decide +kernel
theorem dX12_clause_99 : decode cX12_clause 99 = .ok (.if_icmp .ne 35, 3) := by decide +kernel
theorem dX12_clause_102 : decode cX12_clause 102 = .ok (.aload_n 0, 1) := by decide +kernel
theorem dX12_clause_103 : decode cX12_clause 103 = .ok (.invokevirtual 158, 3) := by decide +kernel
theorem dX12_clause_106 : decode cX12_clause 106 = .ok (.invokestatic 201, 3) := by decide +kernel
theorem dX12_clause_109 : decode cX12_clause 109 = .ok (.ifCond .eq 25, 3) := by decide +kernel
theorem dX12_clause_112 : decode cX12_clause 112 = .ok (.aload_n 0, 1) := by decide +kernel
theorem dX12_clause_113 : decode cX12_clause 113 = .ok (.iconst 1, 1) := by decide +kernel
theorem dX12_clause_114 : decode cX12_clause 114 = .ok (.iload_n 3, 1) := by decide +kernel
theorem dX12_clause_115 : decode cX12_clause 115 = .ok (.invokevirtual 207, 3) := by decide +kernel
theorem dX12_clause_118 : decode cX12_clause 118 = .ok (.istore_n 2, 1) := by decide +kernel
theorem dX12_clause_119 : decode cX12_clause 119 = .ok (.aload_n 0, 1) := by decide +kernel
theorem dX12_clause_120 : decode cX12_clause 120 = .ok (.bipush 63, 2) := by decide +kernel
theorem dX12_clause_122 : decode cX12_clause 122 = .ok (.invokevirtual 184, 3) := by decide +kernel
theorem dX12_clause_125 : decode cX12_clause 125 = .ok (.ifCond .ne 4, 3) := by decide +kernel
theorem dX12_clause_128 : decode cX12_clause 128 = .ok (.return_, 1) := by decide +kernel
theorem dX12_clause_129 : decode cX12_clause 129 = .ok (.aload_n 0, 1) := by decide +kernel
theorem dX12_clause_130 : decode cX12_clause 130 = .ok (.invokevirtual 181, 3) := by decide +kernel
theorem dX12_clause_133 : decode cX12_clause 133 = .ok (.istore_n 3, 1) := by decide +kernel
theorem dX12_clause_134 : decode cX12_clause 134 = .ok (.aload_n 0, 1) := by decide +kernel
theorem dX12_clause_135 : decode cX12_clause 135 = .ok (.getfield 148, 3) := by decide +kernel
theorem dX12_clause_138 : decode cX12_clause 138 = .ok (.iconst (-1), 1) := by decide +kernel
theorem dX12_clause_139 : decode cX12_clause 139 = .ok (.if_icmp .ne 22, 3) := by decide +kernel
theorem dX12_clause_142 : decode cX12_clause 142 = .ok (.aload_n 0, 1) := by decide +kernel
theorem dX12_clause_143 : decode cX12_clause 143 = .ok (.getfield 217, 3) := by decide +kernel
theorem dX12_clause_146 : decode cX12_clause 146 = .ok (.ifCond .ne 15, 3) := by decide +kernel
theorem dX12_clause_149 : decode cX12_clause 149 = .ok (.iload_n 1, 1) := by decide +kernel
theorem dX12_clause_150 : decode cX12_clause 150 = .ok (.aload_n 0, 1) := by decide +kernel
theorem dX12_clause_151 : decode cX12_clause 151 = .ok (.getfield 221, 3) := by decide +kernel
theorem dX12_clause_154 : decode cX12_clause 154 = .ok (.if_icmp .ne 7, 3) := by decide +kernel
theorem dX12_clause_157 : decode cX12_clause 157 = .ok (.iload_n 2, 1) := by decide +kernel
theorem dX12_clause_158 : decode cX12_clause 158 = .ok (.ifCond .ne 4, 3) := by decide +kernel
theorem dX12_clause_161 : decode cX12_clause 161 = .ok (.return_, 1) := by decide +kernel
theorem dX12_clause_162 : decode cX12_clause 162 = .ok (.aload_n 0, 1) := by decide +kernel
theorem dX12_clause_163 : decode cX12_clause 163 = .ok (.iconst 1, 1) := by decide +kernel
theorem dX12_clause_164 : decode cX12_clause 164 = .ok (.putfield 217, 3) := by decide +kernel
theorem dX12_clause_167 : decode cX12_clause 167 = .ok (.aload_n 0, 1) := by decide +kernel
theorem dX12_clause_168 : decode cX12_clause 168 = .ok (.iload_n 3, 1) := by decide +kernel
theorem dX12_clause_169 : decode cX12_clause 169 = .ok (.putfield 224, 3) := by decide +kernel
theorem dX12_clause_172 : decode cX12_clause 172 = .ok (.return_, 1) := by decide +kernel
theorem dX12_begin_0 : decode cX12_begin 0 = .ok (.aload_n 0, 1) := by decide +kernel
theorem dX12_begin_1 : decode cX12_begin 1 = .ok (.aload_n 1, 1) := by decide +kernel
theorem dX12_begin_2 : decode cX12_begin 2 = .ok (.putfield 26, 3) := by decide +kernel
theorem dX12_begin_5 : decode cX12_begin 5 = .ok (.aload_n 0, 1) := by decide +kernel
theorem dX12_begin_6 : decode cX12_begin 6 = .ok (.iload_n 2, 1) := by decide +kernel
theorem dX12_begin_7 : decode cX12_begin 7 = .ok (.putfield 145, 3) := by decide +kernel
theorem dX12_begin_10 : decode cX12_begin 10 = .ok (.aload_n 0, 1) := by decide +kernel
theorem dX12_begin_11 : decode cX12_begin 11 = .ok (.iload_n 3, 1) := by decide +kernel
theorem dX12_begin_12 : decode cX12_begin 12 = .ok (.putfield 142, 3) := by decide +kernel
theorem dX12_begin_15 : decode cX12_begin 15 = .ok (.aload_n 0, 1) := by decide +kernel
theorem dX12_begin_16 : decode cX12_begin 16 = .ok (.iconst 0, 1) := by decide +kernel
theorem dX12_begin_17 : decode cX12_begin 17 = .ok (.putfield 139, 3) := by decide +kernel
theorem dX12_begin_20 : decode cX12_begin 20 = .ok (.aload_n 0, 1) := by decide +kernel
theorem dX12_begin_21 : decode cX12_begin 21 = .ok (.iconst (-1), 1) := by decide +kernel
theorem dX12_begin_22 : decode cX12_begin 22 = .ok (.putfield 148, 3) := by decide +kernel
theorem dX12_begin_25 : decode cX12_begin 25 = .ok (.return_, 1) := by decide +kernel
theorem dX12_goThrough_0 : decode cX12_goThrough 0 = .ok (.aload_n 0, 1) := by decide +kernel
theorem dX12_goThrough_1 : decode cX12_goThrough 1 = .ok (.aload_n 1, 1) := by decide +kernel
theorem dX12_goThrough_2 : decode cX12_goThrough 2 = .ok (.iload_n 2, 1) := by decide +kernel
theorem dX12_goThrough_3 : decode cX12_goThrough 3 = .ok (.iload_n 3, 1) := by decide +kernel
theorem dX12_goThrough_4 : decode cX12_goThrough 4 = .ok (.invokevirtual 227, 3) := by decide +kernel
theorem dX12_goThrough_7 : decode cX12_goThrough 7 = .ok (.aload_n 0, 1) := by decide +kernel
theorem dX12_goThrough_8 : decode cX12_goThrough 8 = .ok (.bipush 121, 2) := by decide +kernel
theorem dX12_goThrough_10 : decode cX12_goThrough 10 = .ok (.putfield 221, 3) := by decide +kernel
theorem dX12_goThrough_13 : decode cX12_goThrough 13 = .ok (.aload_n 0, 1) := by decide +kernel
theorem dX12_goThrough_14 : decode cX12_goThrough 14 = .ok (.iconst 0, 1) := by decide +kernel
theorem dX12_goThrough_15 : decode cX12_goThrough 15 = .ok (.putfield 151, 3) := by decide +kernel
theorem dX12_goThrough_18 : decode cX12_goThrough 18 = .ok (.aload_n 0, 1) := by decide +kernel
theorem dX12_goThrough_19 : decode cX12_goThrough 19 = .ok (.iconst 0, 1) := by decide +kernel
theorem dX12_goThrough_20 : decode cX12_goThrough 20 = .ok (.putfield 217, 3) := by decide +kernel
theorem dX12_goThrough_23 : decode cX12_goThrough 23 = .ok (.aload_n 0, 1) := by decide +kernel
theorem dX12_goThrough_24 : decode cX12_goThrough 24 = .ok (.iconst 0, 1) := by decide +kernel
theorem dX12_goThrough_25 : decode cX12_goThrough 25 = .ok (.putfield 224, 3) := by decide +kernel
theorem dX12_goThrough_28 : decode cX12_goThrough 28 = .ok (.aload_n 0, 1) := by decide +kernel
theorem dX12_goThrough_29 : decode cX12_goThrough 29 = .ok (.invokevirtual 231, 3) := by decide +kernel
theorem dX12_goThrough_32 : decode cX12_goThrough 32 = .ok (.aload_n 0, 1) := by decide +kernel
theorem dX12_goThrough_33 : decode cX12_goThrough 33 = .ok (.getfield 148, 3) := by decide +kernel
theorem dX12_goThrough_36 : decode cX12_goThrough 36 = .ok (.iconst (-1), 1) := by decide +kernel
theorem dX12_goThrough_37 : decode cX12_goThrough 37 = .ok (.if_icmp .ne 29, 3) := by decide +kernel
theorem dX12_goThrough_40 : decode cX12_goThrough 40 = .ok (.aload_n 0, 1) := by decide +kernel
theorem dX12_goThrough_41 : decode cX12_goThrough 41 = .ok (.invokevirtual 158, 3) := by decide +kernel
theorem dX12_goThrough_44 : decode cX12_goThrough 44 = .ok (.bipush 59, 2) := by decide +kernel
theorem dX12_goThrough_46 : decode cX12_goThrough 46 = .ok (.if_icmp .ne 20, 3) := by decide +kernel
theorem dX12_goThrough_49 : decode cX12_goThrough 49 = .ok (.aload_n 0, 1) := by decide +kernel
theorem dX12_goThrough_50 : decode cX12_goThrough 50 = .ok (.dup, 1) := by decide +kernel
theorem dX12_goThrough_51 : decode cX12_goThrough 51 = .ok (.getfield 139, 3) := by decide +kernel
theorem dX12_goThrough_54 : decode cX12_goThrough 54 = .ok (.iconst 1, 1) := by decide +kernel
theorem dX12_goThrough_55 : decode cX12_goThrough 55 = .ok (.iadd, 1) := by decide +kernel
theorem dX12_goThrough_56 : decode cX12_goThrough 56 = .ok (.putfield 139, 3) := by decide +kernel
theorem dX12_goThrough_59 : decode cX12_goThrough 59 = .ok (.aload_n 0, 1) := by decide +kernel
theorem dX12_goThrough_60 : decode cX12_goThrough 60 = .ok (.invokevirtual 231, 3) := by decide +kernel
theorem dX12_goThrough_63 : decode cX12_goThrough 63 = .ok (.goto (-31), 3) := by decide +kernel
theorem dX12_goThrough_66 : decode cX12_goThrough 66 = .ok (.aload_n 0, 1) := by decide +kernel
theorem dX12_goThrough_67 : decode cX12_goThrough 67 = .ok (.getfield 148, 3) := by decide +kernel
theorem dX12_goThrough_70 : decode cX12_goThrough 70 = .ok (.iconst (-1), 1) := by decide +kernel
theorem dX12_goThrough_71 : decode cX12_goThrough 71 = .ok (.if_icmp .ne 16, 3) := by decide +kernel
theorem dX12_goThrough_74 : decode cX12_goThrough 74 = .ok (.aload_n 0, 1) := by decide +kernel
theorem dX12_goThrough_75 : decode cX12_goThrough 75 = .ok (.invokevirtual 158, 3) := by decide +kernel
theorem dX12_goThrough_78 : decode cX12_goThrough 78 = .ok (.iconst (-1), 1) := by decide +kernel
theorem dX12_goThrough_79 : decode cX12_goThrough 79 = .ok (.if_icmp .eq 8, 3) := by decide +kernel
theorem dX12_goThrough_82 : decode cX12_goThrough 82 = .ok (.aload_n 0, 1) := by decide +kernel
theorem dX12_goThrough_83 : decode cX12_goThrough 83 = .ok (.invokevirtual 154, 3) := by decide +kernel
theorem dX12_goThrough_86 : decode cX12_goThrough 86 = .ok (.pop, 1) := by decide +kernel
theorem dX12_goThrough_87 : decode cX12_goThrough 87 = .ok (.return_, 1) := by decide +kernel
theorem dX12_isLetter_0 : decode cX12_isLetter 0 = .ok (.aload_n 0, 1) := by decide +kernel
theorem dX12_isLetter_1 : decode cX12_isLetter 1 = .ok (.getfield 139, 3) := by decide +kernel
theorem dX12_isLetter_4 : decode cX12_isLetter 4 = .ok (.aload_n 0, 1) := by decide +kernel
theorem dX12_isLetter_5 : decode cX12_isLetter 5 = .ok (.getfield 142, 3) := by decide +kernel
theorem dX12_isLetter_8 : decode cX12_isLetter 8 = .ok (.if_icmp .ge 45, 3) := by decide +kernel
theorem dX12_isLetter_11 : decode cX12_isLetter 11 = .ok (.aload_n 0, 1) := by decide +kernel
theorem dX12_isLetter_12 : decode cX12_isLetter 12 = .ok (.getfield 26, 3) := by decide +kernel
theorem dX12_isLetter_15 : decode cX12_isLetter 15 = .ok (.aload_n 0, 1) := by decide +kernel
theorem dX12_isLetter_16 : decode cX12_isLetter 16 = .ok (.getfield 145, 3) := by decide +kernel
theorem dX12_isLetter_19 : decode cX12_isLetter 19 = .ok (.aload_n 0, 1) := by decide +kernel
theorem dX12_isLetter_20 : decode cX12_isLetter 20 = .ok (.getfield 139, 3) := by decide +kernel
theorem dX12_isLetter_23 : decode cX12_isLetter 23 = .ok (.iadd, 1) := by decide +kernel
theorem dX12_isLetter_24 : decode cX12_isLetter 24 = .ok (.baload, 1) := by decide +kernel
theorem dX12_isLetter_25 : decode cX12_isLetter 25 = .ok (.bipush 97, 2) := by decide +kernel
theorem dX12_isLetter_27 : decode cX12_isLetter 27 = .ok (.if_icmp .lt 26, 3) := by decide +kernel
theorem dX12_isLetter_30 : decode cX12_isLetter 30 = .ok (.aload_n 0, 1) := by decide +kernel
theorem dX12_isLetter_31 : decode cX12_isLetter 31 = .ok (.getfield 26, 3) := by decide +kernel
theorem dX12_isLetter_34 : decode cX12_isLetter 34 = .ok (.aload_n 0, 1) := by decide +kernel
theorem dX12_isLetter_35 : decode cX12_isLetter 35 = .ok (.getfield 145, 3) := by decide +kernel
theorem dX12_isLetter_38 : decode cX12_isLetter 38 = .ok (.aload_n 0, 1) := by decide +kernel
theorem dX12_isLetter_39 : decode cX12_isLetter 39 = .ok (.getfield 139, 3) := by decide +kernel
theorem dX12_isLetter_42 : decode cX12_isLetter 42 = .ok (.iadd, 1) := by decide +kernel
theorem dX12_isLetter_43 : decode cX12_isLetter 43 = .ok (.baload, 1) := by decide +kernel
theorem dX12_isLetter_44 : decode cX12_isLetter 44 = .ok (.bipush 122, 2) := by decide +kernel
theorem dX12_isLetter_46 : decode cX12_isLetter 46 = .ok (.if_icmp .gt 7, 3) := by decide +kernel
theorem dX12_isLetter_49 : decode cX12_isLetter 49 = .ok (.iconst 1, 1) := by decide +kernel
theorem dX12_isLetter_50 : decode cX12_isLetter 50 = .ok (.goto 4, 3) := by decide +kernel
theorem dX12_isLetter_53 : decode cX12_isLetter 53 = .ok (.iconst 0, 1) := by decide +kernel
theorem dX12_isLetter_54 : decode cX12_isLetter 54 = .ok (.ireturn, 1) := by decide +kernel
theorem dX12_readWord_0 : decode cX12_readWord 0 = .ok (.iconst 0, 1) := by decide +kernel
theorem dX12_readWord_1 : decode cX12_readWord 1 = .ok (.istore_n 1, 1) := by decide +kernel
theorem dX12_readWord_2 : decode cX12_readWord 2 = .ok (.aload_n 0, 1) := by decide +kernel
theorem dX12_readWord_3 : decode cX12_readWord 3 = .ok (.invokevirtual 234, 3) := by decide +kernel
theorem dX12_readWord_6 : decode cX12_readWord 6 = .ok (.ifCond .eq 32, 3) := by decide +kernel
theorem dX12_readWord_9 : decode cX12_readWord 9 = .ok (.iload_n 1, 1) := by decide +kernel
theorem dX12_readWord_10 : decode cX12_readWord 10 = .ok (.bipush 8, 2) := by decide +kernel
theorem dX12_readWord_12 : decode cX12_readWord 12 = .ok (.if_icmp .ne 10, 3) := by decide +kernel
theorem dX12_readWord_15 : decode cX12_readWord 15 = .ok (.aload_n 0, 1) := by decide +kernel
theorem dX12_readWord_16 : decode cX12_readWord 16 = .ok (.invokevirtual 154, 3) := by decide +kernel
theorem dX12_readWord_19 : decode cX12_readWord 19 = .ok (.pop, 1) := by decide +kernel
theorem dX12_readWord_20 : decode cX12_readWord 20 = .ok (.iload_n 1, 1) := by decide +kernel
theorem dX12_readWord_21 : decode cX12_readWord 21 = .ok (.ireturn, 1) := by decide +kernel
theorem dX12_readWord_22 : decode cX12_readWord 22 = .ok (.aload_n 0, 1) := by decide +kernel
theorem dX12_readWord_23 : decode cX12_readWord 23 = .ok (.dup, 1) := by decide +kernel
theorem dX12_readWord_24 : decode cX12_readWord 24 = .ok (.getfield 139, 3) := by decide +kernel
theorem dX12_readWord_27 : decode cX12_readWord 27 = .ok (.iconst 1, 1) := by decide +kernel
theorem dX12_readWord_28 : decode cX12_readWord 28 = .ok (.iadd, 1) := by decide +kernel
theorem dX12_readWord_29 : decode cX12_readWord 29 = .ok (.putfield 139, 3) := by decide +kernel
theorem dX12_readWord_32 : decode cX12_readWord 32 = .ok (.iinc 1 1, 3) := by decide +kernel
theorem dX12_readWord_35 : decode cX12_readWord 35 = .ok (.goto (-33), 3) := by decide +kernel
theorem dX12_readWord_38 : decode cX12_readWord 38 = .ok (.iload_n 1, 1) := by decide +kernel
theorem dX12_readWord_39 : decode cX12_readWord 39 = .ok (.ifCond .ne 8, 3) := by decide +kernel
theorem dX12_readWord_42 : decode cX12_readWord 42 = .ok (.aload_n 0, 1) := by decide +kernel
theorem dX12_readWord_43 : decode cX12_readWord 43 = .ok (.invokevirtual 154, 3) := by decide +kernel
theorem dX12_readWord_46 : decode cX12_readWord 46 = .ok (.pop, 1) := by decide +kernel
theorem dX12_readWord_47 : decode cX12_readWord 47 = .ok (.iload_n 1, 1) := by decide +kernel
theorem dX12_readWord_48 : decode cX12_readWord 48 = .ok (.ireturn, 1) := by decide +kernel
theorem dX12_readCue_0 : decode cX12_readCue 0 = .ok (.aload_n 0, 1) := by decide +kernel
theorem dX12_readCue_1 : decode cX12_readCue 1 = .ok (.getfield 43, 3) := by decide +kernel
theorem dX12_readCue_4 : decode cX12_readCue 4 = .ok (.iload_n 1, 1) := by decide +kernel
theorem dX12_readCue_5 : decode cX12_readCue 5 = .ok (.iconst 0, 1) := by decide +kernel
theorem dX12_readCue_6 : decode cX12_readCue 6 = .ok (.iastore, 1) := by decide +kernel
theorem dX12_readCue_7 : decode cX12_readCue 7 = .ok (.aload_n 0, 1) := by decide +kernel
theorem dX12_readCue_8 : decode cX12_readCue 8 = .ok (.invokevirtual 158, 3) := by decide +kernel
theorem dX12_readCue_11 : decode cX12_readCue 11 = .ok (.istore_n 2, 1) := by decide +kernel
theorem dX12_readCue_12 : decode cX12_readCue 12 = .ok (.iload_n 2, 1) := by decide +kernel
theorem dX12_readCue_13 : decode cX12_readCue 13 = .ok (.bipush 45, 2) := by decide +kernel
theorem dX12_readCue_15 : decode cX12_readCue 15 = .ok (.if_icmp .ne 14, 3) := by decide +kernel
theorem dX12_readCue_18 : decode cX12_readCue 18 = .ok (.aload_n 0, 1) := by decide +kernel
theorem dX12_readCue_19 : decode cX12_readCue 19 = .ok (.dup, 1) := by decide +kernel
theorem dX12_readCue_20 : decode cX12_readCue 20 = .ok (.getfield 139, 3) := by decide +kernel
theorem dX12_readCue_23 : decode cX12_readCue 23 = .ok (.iconst 1, 1) := by decide +kernel
theorem dX12_readCue_24 : decode cX12_readCue 24 = .ok (.iadd, 1) := by decide +kernel
theorem dX12_readCue_25 : decode cX12_readCue 25 = .ok (.putfield 139, 3) := by decide +kernel
theorem dX12_readCue_28 : decode cX12_readCue 28 = .ok (.return_, 1) := by decide +kernel
theorem dX12_readCue_29 : decode cX12_readCue 29 = .ok (.aload_n 0, 1) := by decide +kernel
theorem dX12_readCue_30 : decode cX12_readCue 30 = .ok (.getfield 43, 3) := by decide +kernel
theorem dX12_readCue_33 : decode cX12_readCue 33 = .ok (.iload_n 1, 1) := by decide +kernel
theorem dX12_readCue_34 : decode cX12_readCue 34 = .ok (.iaload, 1) := by decide +kernel
theorem dX12_readCue_35 : decode cX12_readCue 35 = .ok (.iconst 2, 1) := by decide +kernel
theorem dX12_readCue_36 : decode cX12_readCue 36 = .ok (.if_icmp .ne 9, 3) := by decide +kernel
theorem dX12_readCue_39 : decode cX12_readCue 39 = .ok (.aload_n 0, 1) := by decide +kernel
theorem dX12_readCue_40 : decode cX12_readCue 40 = .ok (.invokevirtual 154, 3) := by decide +kernel
theorem dX12_readCue_43 : decode cX12_readCue 43 = .ok (.pop, 1) := by decide +kernel
theorem dX12_readCue_44 : decode cX12_readCue 44 = .ok (.return_, 1) := by decide +kernel
theorem dX12_readCue_45 : decode cX12_readCue 45 = .ok (.aload_n 0, 1) := by decide +kernel
theorem dX12_readCue_46 : decode cX12_readCue 46 = .ok (.getfield 49, 3) := by decide +kernel
theorem dX12_readCue_49 : decode cX12_readCue 49 = .ok (.iconst 2, 1) := by decide +kernel
theorem dX12_readCue_50 : decode cX12_readCue 50 = .ok (.iload_n 1, 1) := by decide +kernel
theorem dX12_readCue_51 : decode cX12_readCue 51 = .ok (.imul, 1) := by decide +kernel
theorem dX12_readCue_52 : decode cX12_readCue 52 = .ok (.aload_n 0, 1) := by decide +kernel
theorem dX12_readCue_53 : decode cX12_readCue 53 = .ok (.getfield 43, 3) := by decide +kernel
theorem dX12_readCue_56 : decode cX12_readCue 56 = .ok (.iload_n 1, 1) := by decide +kernel
theorem dX12_readCue_57 : decode cX12_readCue 57 = .ok (.iaload, 1) := by decide +kernel
theorem dX12_readCue_58 : decode cX12_readCue 58 = .ok (.iadd, 1) := by decide +kernel
theorem dX12_readCue_59 : decode cX12_readCue 59 = .ok (.aload_n 0, 1) := by decide +kernel
theorem dX12_readCue_60 : decode cX12_readCue 60 = .ok (.getfield 139, 3) := by decide +kernel
theorem dX12_readCue_63 : decode cX12_readCue 63 = .ok (.iastore, 1) := by decide +kernel
theorem dX12_readCue_64 : decode cX12_readCue 64 = .ok (.aload_n 0, 1) := by decide +kernel
theorem dX12_readCue_65 : decode cX12_readCue 65 = .ok (.getfield 52, 3) := by decide +kernel
theorem dX12_readCue_68 : decode cX12_readCue 68 = .ok (.iconst 2, 1) := by decide +kernel
theorem dX12_readCue_69 : decode cX12_readCue 69 = .ok (.iload_n 1, 1) := by decide +kernel
theorem dX12_readCue_70 : decode cX12_readCue 70 = .ok (.imul, 1) := by decide +kernel
theorem dX12_readCue_71 : decode cX12_readCue 71 = .ok (.aload_n 0, 1) := by decide +kernel
theorem dX12_readCue_72 : decode cX12_readCue 72 = .ok (.getfield 43, 3) := by decide +kernel
theorem dX12_readCue_75 : decode cX12_readCue 75 = .ok (.iload_n 1, 1) := by decide +kernel
theorem dX12_readCue_76 : decode cX12_readCue 76 = .ok (.iaload, 1) := by decide +kernel
theorem dX12_readCue_77 : decode cX12_readCue 77 = .ok (.iadd, 1) := by decide +kernel
theorem dX12_readCue_78 : decode cX12_readCue 78 = .ok (.aload_n 0, 1) := by decide +kernel
theorem dX12_readCue_79 : decode cX12_readCue 79 = .ok (.invokevirtual 237, 3) := by decide +kernel
theorem dX12_readCue_82 : decode cX12_readCue 82 = .ok (.iastore, 1) := by decide +kernel
theorem dX12_readCue_83 : decode cX12_readCue 83 = .ok (.aload_n 0, 1) := by decide +kernel
theorem dX12_readCue_84 : decode cX12_readCue 84 = .ok (.getfield 43, 3) := by decide +kernel
theorem dX12_readCue_87 : decode cX12_readCue 87 = .ok (.iload_n 1, 1) := by decide +kernel
theorem dX12_readCue_88 : decode cX12_readCue 88 = .ok (.dup2, 1) := by decide +kernel
theorem dX12_readCue_89 : decode cX12_readCue 89 = .ok (.iaload, 1) := by decide +kernel
theorem dX12_readCue_90 : decode cX12_readCue 90 = .ok (.iconst 1, 1) := by decide +kernel
theorem dX12_readCue_91 : decode cX12_readCue 91 = .ok (.iadd, 1) := by decide +kernel
theorem dX12_readCue_92 : decode cX12_readCue 92 = .ok (.iastore, 1) := by decide +kernel
theorem dX12_readCue_93 : decode cX12_readCue 93 = .ok (.aload_n 0, 1) := by decide +kernel
theorem dX12_readCue_94 : decode cX12_readCue 94 = .ok (.invokevirtual 158, 3) := by decide +kernel
theorem dX12_readCue_97 : decode cX12_readCue 97 = .ok (.istore_n 2, 1) := by decide +kernel
theorem dX12_readCue_98 : decode cX12_readCue 98 = .ok (.aload_n 0, 1) := by decide +kernel
theorem dX12_readCue_99 : decode cX12_readCue 99 = .ok (.getfield 148, 3) := by decide +kernel
theorem dX12_readCue_102 : decode cX12_readCue 102 = .ok (.iconst (-1), 1) := by decide +kernel
theorem dX12_readCue_103 : decode cX12_readCue 103 = .ok (.if_icmp .ne 10, 3) := by decide +kernel
theorem dX12_readCue_106 : decode cX12_readCue 106 = .ok (.aload_n 0, 1) := by decide +kernel
theorem dX12_readCue_107 : decode cX12_readCue 107 = .ok (.invokevirtual 234, 3) := by decide +kernel
theorem dX12_readCue_110 : decode cX12_readCue 110 = .ok (.ifCond .ne (-81), 3) := by decide +kernel
theorem dX12_readCue_113 : decode cX12_readCue 113 = .ok (.return_, 1) := by decide +kernel
theorem dX12_readSpeech_0 : decode cX12_readSpeech 0 = .ok (.aload_n 0, 1) := by decide +kernel
theorem dX12_readSpeech_1 : decode cX12_readSpeech 1 = .ok (.getfield 46, 3) := by decide +kernel
theorem dX12_readSpeech_4 : decode cX12_readSpeech 4 = .ok (.iload_n 1, 1) := by decide +kernel
theorem dX12_readSpeech_5 : decode cX12_readSpeech 5 = .ok (.iconst 0, 1) := by decide +kernel
theorem dX12_readSpeech_6 : decode cX12_readSpeech 6 = .ok (.iastore, 1) := by decide +kernel
theorem dX12_readSpeech_7 : decode cX12_readSpeech 7 = .ok (.aload_n 0, 1) := by decide +kernel
theorem dX12_readSpeech_8 : decode cX12_readSpeech 8 = .ok (.invokevirtual 158, 3) := by decide +kernel
theorem dX12_readSpeech_11 : decode cX12_readSpeech 11 = .ok (.istore_n 2, 1) := by decide +kernel
theorem dX12_readSpeech_12 : decode cX12_readSpeech 12 = .ok (.aload_n 0, 1) := by decide +kernel
theorem dX12_readSpeech_13 : decode cX12_readSpeech 13 = .ok (.getfield 46, 3) := by decide +kernel
theorem dX12_readSpeech_16 : decode cX12_readSpeech 16 = .ok (.iload_n 1, 1) := by decide +kernel
theorem dX12_readSpeech_17 : decode cX12_readSpeech 17 = .ok (.iaload, 1) := by decide +kernel
theorem dX12_readSpeech_18 : decode cX12_readSpeech 18 = .ok (.bipush 12, 2) := by decide +kernel
theorem dX12_readSpeech_20 : decode cX12_readSpeech 20 = .ok (.if_icmp .ne 9, 3) := by decide +kernel
theorem dX12_readSpeech_23 : decode cX12_readSpeech 23 = .ok (.aload_n 0, 1) := by decide +kernel
theorem dX12_readSpeech_24 : decode cX12_readSpeech 24 = .ok (.invokevirtual 154, 3) := by decide +kernel
theorem dX12_readSpeech_27 : decode cX12_readSpeech 27 = .ok (.pop, 1) := by decide +kernel
theorem dX12_readSpeech_28 : decode cX12_readSpeech 28 = .ok (.return_, 1) := by decide +kernel
theorem dX12_readSpeech_29 : decode cX12_readSpeech 29 = .ok (.aload_n 0, 1) := by decide +kernel
theorem dX12_readSpeech_30 : decode cX12_readSpeech 30 = .ok (.getfield 55, 3) := by decide +kernel
theorem dX12_readSpeech_33 : decode cX12_readSpeech 33 = .ok (.bipush 12, 2) := by decide +kernel
theorem dX12_readSpeech_35 : decode cX12_readSpeech 35 = .ok (.iload_n 1, 1) := by decide +kernel
theorem dX12_readSpeech_36 : decode cX12_readSpeech 36 = .ok (.imul, 1) := by decide +kernel
theorem dX12_readSpeech_37 : decode cX12_readSpeech 37 = .ok (.aload_n 0, 1) := by decide +kernel
theorem dX12_readSpeech_38 : decode cX12_readSpeech 38 = .ok (.getfield 46, 3) := by decide +kernel
theorem dX12_readSpeech_41 : decode cX12_readSpeech 41 = .ok (.iload_n 1, 1) := by decide +kernel
theorem dX12_readSpeech_42 : decode cX12_readSpeech 42 = .ok (.iaload, 1) := by decide +kernel
theorem dX12_readSpeech_43 : decode cX12_readSpeech 43 = .ok (.iadd, 1) := by decide +kernel
theorem dX12_readSpeech_44 : decode cX12_readSpeech 44 = .ok (.aload_n 0, 1) := by decide +kernel
theorem dX12_readSpeech_45 : decode cX12_readSpeech 45 = .ok (.getfield 139, 3) := by decide +kernel
theorem dX12_readSpeech_48 : decode cX12_readSpeech 48 = .ok (.iastore, 1) := by decide +kernel
theorem dX12_readSpeech_49 : decode cX12_readSpeech 49 = .ok (.aload_n 0, 1) := by decide +kernel
theorem dX12_readSpeech_50 : decode cX12_readSpeech 50 = .ok (.getfield 58, 3) := by decide +kernel
theorem dX12_readSpeech_53 : decode cX12_readSpeech 53 = .ok (.bipush 12, 2) := by decide +kernel
theorem dX12_readSpeech_55 : decode cX12_readSpeech 55 = .ok (.iload_n 1, 1) := by decide +kernel
theorem dX12_readSpeech_56 : decode cX12_readSpeech 56 = .ok (.imul, 1) := by decide +kernel
theorem dX12_readSpeech_57 : decode cX12_readSpeech 57 = .ok (.aload_n 0, 1) := by decide +kernel
theorem dX12_readSpeech_58 : decode cX12_readSpeech 58 = .ok (.getfield 46, 3) := by decide +kernel
theorem dX12_readSpeech_61 : decode cX12_readSpeech 61 = .ok (.iload_n 1, 1) := by decide +kernel
theorem dX12_readSpeech_62 : decode cX12_readSpeech 62 = .ok (.iaload, 1) := by decide +kernel
theorem dX12_readSpeech_63 : decode cX12_readSpeech 63 = .ok (.iadd, 1) := by decide +kernel
theorem dX12_readSpeech_64 : decode cX12_readSpeech 64 = .ok (.aload_n 0, 1) := by decide +kernel
theorem dX12_readSpeech_65 : decode cX12_readSpeech 65 = .ok (.invokevirtual 237, 3) := by decide +kernel
theorem dX12_readSpeech_68 : decode cX12_readSpeech 68 = .ok (.iastore, 1) := by decide +kernel
theorem dX12_readSpeech_69 : decode cX12_readSpeech 69 = .ok (.aload_n 0, 1) := by decide +kernel
theorem dX12_readSpeech_70 : decode cX12_readSpeech 70 = .ok (.getfield 46, 3) := by decide +kernel
theorem dX12_readSpeech_73 : decode cX12_readSpeech 73 = .ok (.iload_n 1, 1) := by decide +kernel
theorem dX12_readSpeech_74 : decode cX12_readSpeech 74 = .ok (.dup2, 1) := by decide +kernel
theorem dX12_readSpeech_75 : decode cX12_readSpeech 75 = .ok (.iaload, 1) := by decide +kernel
theorem dX12_readSpeech_76 : decode cX12_readSpeech 76 = .ok (.iconst 1, 1) := by decide +kernel
theorem dX12_readSpeech_77 : decode cX12_readSpeech 77 = .ok (.iadd, 1) := by decide +kernel
theorem dX12_readSpeech_78 : decode cX12_readSpeech 78 = .ok (.iastore, 1) := by decide +kernel
theorem dX12_readSpeech_79 : decode cX12_readSpeech 79 = .ok (.aload_n 0, 1) := by decide +kernel
theorem dX12_readSpeech_80 : decode cX12_readSpeech 80 = .ok (.invokevirtual 158, 3) := by decide +kernel
theorem dX12_readSpeech_83 : decode cX12_readSpeech 83 = .ok (.istore_n 2, 1) := by decide +kernel
theorem dX12_readSpeech_84 : decode cX12_readSpeech 84 = .ok (.aload_n 0, 1) := by decide +kernel
theorem dX12_readSpeech_85 : decode cX12_readSpeech 85 = .ok (.getfield 148, 3) := by decide +kernel
theorem dX12_readSpeech_88 : decode cX12_readSpeech 88 = .ok (.iconst (-1), 1) := by decide +kernel
theorem dX12_readSpeech_89 : decode cX12_readSpeech 89 = .ok (.if_icmp .ne 10, 3) := by decide +kernel
theorem dX12_readSpeech_92 : decode cX12_readSpeech 92 = .ok (.aload_n 0, 1) := by decide +kernel
theorem dX12_readSpeech_93 : decode cX12_readSpeech 93 = .ok (.invokevirtual 234, 3) := by decide +kernel
theorem dX12_readSpeech_96 : decode cX12_readSpeech 96 = .ok (.ifCond .ne (-84), 3) := by decide +kernel
theorem dX12_readSpeech_99 : decode cX12_readSpeech 99 = .ok (.return_, 1) := by decide +kernel
theorem dX12_readRoll_0 : decode cX12_readRoll 0 = .ok (.aload_n 0, 1) := by decide +kernel
theorem dX12_readRoll_1 : decode cX12_readRoll 1 = .ok (.aload_n 0, 1) := by decide +kernel
theorem dX12_readRoll_2 : decode cX12_readRoll 2 = .ok (.getfield 9, 3) := by decide +kernel
theorem dX12_readRoll_5 : decode cX12_readRoll 5 = .ok (.iconst 0, 1) := by decide +kernel
theorem dX12_readRoll_6 : decode cX12_readRoll 6 = .ok (.aload_n 0, 1) := by decide +kernel
theorem dX12_readRoll_7 : decode cX12_readRoll 7 = .ok (.getfield 129, 3) := by decide +kernel
theorem dX12_readRoll_10 : decode cX12_readRoll 10 = .ok (.invokevirtual 227, 3) := by decide +kernel
theorem dX12_readRoll_13 : decode cX12_readRoll 13 = .ok (.aload_n 0, 1) := by decide +kernel
theorem dX12_readRoll_14 : decode cX12_readRoll 14 = .ok (.getfield 40, 3) := by decide +kernel
theorem dX12_readRoll_17 : decode cX12_readRoll 17 = .ok (.iload_n 1, 1) := by decide +kernel
theorem dX12_readRoll_18 : decode cX12_readRoll 18 = .ok (.iconst 0, 1) := by decide +kernel
theorem dX12_readRoll_19 : decode cX12_readRoll 19 = .ok (.iastore, 1) := by decide +kernel
theorem dX12_readRoll_20 : decode cX12_readRoll 20 = .ok (.iconst 1, 1) := by decide +kernel
theorem dX12_readRoll_21 : decode cX12_readRoll 21 = .ok (.istore_n 2, 1) := by decide +kernel
theorem dX12_readRoll_22 : decode cX12_readRoll 22 = .ok (.iload_n 2, 1) := by decide +kernel
theorem dX12_readRoll_23 : decode cX12_readRoll 23 = .ok (.ifCond .eq 107, 3) := by decide +kernel
theorem dX12_readRoll_26 : decode cX12_readRoll 26 = .ok (.bipush 16, 2) := by decide +kernel
theorem dX12_readRoll_28 : decode cX12_readRoll 28 = .ok (.iload_n 1, 1) := by decide +kernel
theorem dX12_readRoll_29 : decode cX12_readRoll 29 = .ok (.imul, 1) := by decide +kernel
theorem dX12_readRoll_30 : decode cX12_readRoll 30 = .ok (.aload_n 0, 1) := by decide +kernel
theorem dX12_readRoll_31 : decode cX12_readRoll 31 = .ok (.getfield 40, 3) := by decide +kernel
theorem dX12_readRoll_34 : decode cX12_readRoll 34 = .ok (.iload_n 1, 1) := by decide +kernel
theorem dX12_readRoll_35 : decode cX12_readRoll 35 = .ok (.iaload, 1) := by decide +kernel
theorem dX12_readRoll_36 : decode cX12_readRoll 36 = .ok (.iadd, 1) := by decide +kernel
theorem dX12_readRoll_37 : decode cX12_readRoll 37 = .ok (.istore_n 3, 1) := by decide +kernel
theorem dX12_readRoll_38 : decode cX12_readRoll 38 = .ok (.aload_n 0, 1) := by decide +kernel
theorem dX12_readRoll_39 : decode cX12_readRoll 39 = .ok (.iload_n 3, 1) := by decide +kernel
theorem dX12_readRoll_40 : decode cX12_readRoll 40 = .ok (.invokevirtual 240, 3) := by decide +kernel
theorem dX12_readRoll_43 : decode cX12_readRoll 43 = .ok (.aload_n 0, 1) := by decide +kernel
theorem dX12_readRoll_44 : decode cX12_readRoll 44 = .ok (.bipush 62, 2) := by decide +kernel
theorem dX12_readRoll_46 : decode cX12_readRoll 46 = .ok (.invokevirtual 184, 3) := by decide +kernel
theorem dX12_readRoll_49 : decode cX12_readRoll 49 = .ok (.ifCond .ne 4, 3) := by decide +kernel
theorem dX12_readRoll_52 : decode cX12_readRoll 52 = .ok (.return_, 1) := by decide +kernel
theorem dX12_readRoll_53 : decode cX12_readRoll 53 = .ok (.aload_n 0, 1) := by decide +kernel
theorem dX12_readRoll_54 : decode cX12_readRoll 54 = .ok (.iload_n 3, 1) := by decide +kernel
theorem dX12_readRoll_55 : decode cX12_readRoll 55 = .ok (.invokevirtual 243, 3) := by decide +kernel
theorem dX12_readRoll_58 : decode cX12_readRoll 58 = .ok (.aload_n 0, 1) := by decide +kernel
theorem dX12_readRoll_59 : decode cX12_readRoll 59 = .ok (.getfield 148, 3) := by decide +kernel
theorem dX12_readRoll_62 : decode cX12_readRoll 62 = .ok (.iconst (-1), 1) := by decide +kernel
theorem dX12_readRoll_63 : decode cX12_readRoll 63 = .ok (.if_icmp .eq 4, 3) := by decide +kernel
theorem dX12_readRoll_66 : decode cX12_readRoll 66 = .ok (.return_, 1) := by decide +kernel
theorem dX12_readRoll_67 : decode cX12_readRoll 67 = .ok (.aload_n 0, 1) := by decide +kernel
theorem dX12_readRoll_68 : decode cX12_readRoll 68 = .ok (.getfield 40, 3) := by decide +kernel
theorem dX12_readRoll_71 : decode cX12_readRoll 71 = .ok (.iload_n 1, 1) := by decide +kernel
theorem dX12_readRoll_72 : decode cX12_readRoll 72 = .ok (.dup2, 1) := by decide +kernel
theorem dX12_readRoll_73 : decode cX12_readRoll 73 = .ok (.iaload, 1) := by decide +kernel
theorem dX12_readRoll_74 : decode cX12_readRoll 74 = .ok (.iconst 1, 1) := by decide +kernel
theorem dX12_readRoll_75 : decode cX12_readRoll 75 = .ok (.iadd, 1) := by decide +kernel
theorem dX12_readRoll_76 : decode cX12_readRoll 76 = .ok (.iastore, 1) := by decide +kernel
theorem dX12_readRoll_77 : decode cX12_readRoll 77 = .ok (.aload_n 0, 1) := by decide +kernel
theorem dX12_readRoll_78 : decode cX12_readRoll 78 = .ok (.invokevirtual 158, 3) := by decide +kernel
theorem dX12_readRoll_81 : decode cX12_readRoll 81 = .ok (.bipush 59, 2) := by decide +kernel
theorem dX12_readRoll_83 : decode cX12_readRoll 83 = .ok (.if_icmp .ne 7, 3) := by decide +kernel
theorem dX12_readRoll_86 : decode cX12_readRoll 86 = .ok (.iconst 1, 1) := by decide +kernel
theorem dX12_readRoll_87 : decode cX12_readRoll 87 = .ok (.goto 4, 3) := by decide +kernel
theorem dX12_readRoll_90 : decode cX12_readRoll 90 = .ok (.iconst 0, 1) := by decide +kernel
theorem dX12_readRoll_91 : decode cX12_readRoll 91 = .ok (.istore_n 2, 1) := by decide +kernel
theorem dX12_readRoll_92 : decode cX12_readRoll 92 = .ok (.iload_n 2, 1) := by decide +kernel
theorem dX12_readRoll_93 : decode cX12_readRoll 93 = .ok (.ifCond .eq 20, 3) := by decide +kernel
theorem dX12_readRoll_96 : decode cX12_readRoll 96 = .ok (.aload_n 0, 1) := by decide +kernel
theorem dX12_readRoll_97 : decode cX12_readRoll 97 = .ok (.getfield 40, 3) := by decide +kernel
theorem dX12_readRoll_100 : decode cX12_readRoll 100 = .ok (.iload_n 1, 1) := by decide +kernel
theorem dX12_readRoll_101 : decode cX12_readRoll 101 = .ok (.iaload, 1) := by decide +kernel
theorem dX12_readRoll_102 : decode cX12_readRoll 102 = .ok (.bipush 12, 2) := by decide +kernel
theorem dX12_readRoll_104 : decode cX12_readRoll 104 = .ok (.if_icmp .ne 9, 3) := by decide +kernel
theorem dX12_readRoll_107 : decode cX12_readRoll 107 = .ok (.aload_n 0, 1) := by decide +kernel
theorem dX12_readRoll_108 : decode cX12_readRoll 108 = .ok (.invokevirtual 154, 3) := by decide +kernel
theorem dX12_readRoll_111 : decode cX12_readRoll 111 = .ok (.pop, 1) := by decide +kernel
theorem dX12_readRoll_112 : decode cX12_readRoll 112 = .ok (.return_, 1) := by decide +kernel
theorem dX12_readRoll_113 : decode cX12_readRoll 113 = .ok (.iload_n 2, 1) := by decide +kernel
theorem dX12_readRoll_114 : decode cX12_readRoll 114 = .ok (.ifCond .eq 13, 3) := by decide +kernel
theorem dX12_readRoll_117 : decode cX12_readRoll 117 = .ok (.aload_n 0, 1) := by decide +kernel
theorem dX12_readRoll_118 : decode cX12_readRoll 118 = .ok (.dup, 1) := by decide +kernel
theorem dX12_readRoll_119 : decode cX12_readRoll 119 = .ok (.getfield 139, 3) := by decide +kernel
theorem dX12_readRoll_122 : decode cX12_readRoll 122 = .ok (.iconst 1, 1) := by decide +kernel
theorem dX12_readRoll_123 : decode cX12_readRoll 123 = .ok (.iadd, 1) := by decide +kernel
theorem dX12_readRoll_124 : decode cX12_readRoll 124 = .ok (.putfield 139, 3) := by decide +kernel
theorem dX12_readRoll_127 : decode cX12_readRoll 127 = .ok (.goto (-105), 3) := by decide +kernel
theorem dX12_readRoll_130 : decode cX12_readRoll 130 = .ok (.aload_n 0, 1) := by decide +kernel
theorem dX12_readRoll_131 : decode cX12_readRoll 131 = .ok (.invokevirtual 158, 3) := by decide +kernel
theorem dX12_readRoll_134 : decode cX12_readRoll 134 = .ok (.iconst (-1), 1) := by decide +kernel
theorem dX12_readRoll_135 : decode cX12_readRoll 135 = .ok (.if_icmp .eq 8, 3) := by decide +kernel
theorem dX12_readRoll_138 : decode cX12_readRoll 138 = .ok (.aload_n 0, 1) := by decide +kernel
theorem dX12_readRoll_139 : decode cX12_readRoll 139 = .ok (.invokevirtual 154, 3) := by decide +kernel
theorem dX12_readRoll_142 : decode cX12_readRoll 142 = .ok (.pop, 1) := by decide +kernel
theorem dX12_readRoll_143 : decode cX12_readRoll 143 = .ok (.return_, 1) := by decide +kernel
theorem dX12_readPlot_0 : decode cX12_readPlot 0 = .ok (.aload_n 0, 1) := by decide +kernel
theorem dX12_readPlot_1 : decode cX12_readPlot 1 = .ok (.aload_n 0, 1) := by decide +kernel
theorem dX12_readPlot_2 : decode cX12_readPlot 2 = .ok (.getfield 9, 3) := by decide +kernel
theorem dX12_readPlot_5 : decode cX12_readPlot 5 = .ok (.iconst 0, 1) := by decide +kernel
theorem dX12_readPlot_6 : decode cX12_readPlot 6 = .ok (.aload_n 0, 1) := by decide +kernel
theorem dX12_readPlot_7 : decode cX12_readPlot 7 = .ok (.getfield 129, 3) := by decide +kernel
theorem dX12_readPlot_10 : decode cX12_readPlot 10 = .ok (.invokevirtual 227, 3) := by decide +kernel
theorem dX12_readPlot_13 : decode cX12_readPlot 13 = .ok (.aload_n 0, 1) := by decide +kernel
theorem dX12_readPlot_14 : decode cX12_readPlot 14 = .ok (.getfield 61, 3) := by decide +kernel
theorem dX12_readPlot_17 : decode cX12_readPlot 17 = .ok (.iload_n 1, 1) := by decide +kernel
theorem dX12_readPlot_18 : decode cX12_readPlot 18 = .ok (.iconst 0, 1) := by decide +kernel
theorem dX12_readPlot_19 : decode cX12_readPlot 19 = .ok (.iastore, 1) := by decide +kernel
theorem dX12_readPlot_20 : decode cX12_readPlot 20 = .ok (.iconst 1, 1) := by decide +kernel
theorem dX12_readPlot_21 : decode cX12_readPlot 21 = .ok (.istore_n 2, 1) := by decide +kernel
theorem dX12_readPlot_22 : decode cX12_readPlot 22 = .ok (.iload_n 2, 1) := by decide +kernel
theorem dX12_readPlot_23 : decode cX12_readPlot 23 = .ok (.ifCond .eq 160, 3) := by decide +kernel
theorem dX12_readPlot_26 : decode cX12_readPlot 26 = .ok (.iconst 0, 1) := by decide +kernel
theorem dX12_readPlot_27 : decode cX12_readPlot 27 = .ok (.istore_n 3, 1) := by decide +kernel
theorem dX12_readPlot_28 : decode cX12_readPlot 28 = .ok (.aload_n 0, 1) := by decide +kernel
theorem dX12_readPlot_29 : decode cX12_readPlot 29 = .ok (.invokevirtual 158, 3) := by decide +kernel
theorem dX12_readPlot_32 : decode cX12_readPlot 32 = .ok (.istore 4, 2) := by decide +kernel
theorem dX12_readPlot_34 : decode cX12_readPlot 34 = .ok (.iload 4, 2) := by decide +kernel
theorem dX12_readPlot_36 : decode cX12_readPlot 36 = .ok (.bipush 97, 2) := by decide +kernel
theorem dX12_readPlot_38 : decode cX12_readPlot 38 = .ok (.if_icmp .lt 22, 3) := by decide +kernel
theorem dX12_readPlot_41 : decode cX12_readPlot 41 = .ok (.iload 4, 2) := by decide +kernel
theorem dX12_readPlot_43 : decode cX12_readPlot 43 = .ok (.bipush 106, 2) := by decide +kernel
theorem dX12_readPlot_45 : decode cX12_readPlot 45 = .ok (.if_icmp .gt 15, 3) := by decide +kernel
theorem dX12_readPlot_48 : decode cX12_readPlot 48 = .ok (.iload_n 3, 1) := by decide +kernel
theorem dX12_readPlot_49 : decode cX12_readPlot 49 = .ok (.iload 4, 2) := by decide +kernel
theorem dX12_readPlot_51 : decode cX12_readPlot 51 = .ok (.bipush 97, 2) := by decide +kernel
theorem dX12_readPlot_53 : decode cX12_readPlot 53 = .ok (.isub, 1) := by decide +kernel
theorem dX12_readPlot_54 : decode cX12_readPlot 54 = .ok (.invokestatic 246, 3) := by decide +kernel
theorem dX12_readPlot_57 : decode cX12_readPlot 57 = .ok (.ifCond .eq 9, 3) := by decide +kernel
theorem dX12_readPlot_60 : decode cX12_readPlot 60 = .ok (.aload_n 0, 1) := by decide +kernel
theorem dX12_readPlot_61 : decode cX12_readPlot 61 = .ok (.invokevirtual 154, 3) := by decide +kernel
theorem dX12_readPlot_64 : decode cX12_readPlot 64 = .ok (.pop, 1) := by decide +kernel
theorem dX12_readPlot_65 : decode cX12_readPlot 65 = .ok (.return_, 1) := by decide +kernel
theorem dX12_readPlot_66 : decode cX12_readPlot 66 = .ok (.iload_n 3, 1) := by decide +kernel
theorem dX12_readPlot_67 : decode cX12_readPlot 67 = .ok (.iconst 1, 1) := by decide +kernel
theorem dX12_readPlot_68 : decode cX12_readPlot 68 = .ok (.iload 4, 2) := by decide +kernel
theorem dX12_readPlot_70 : decode cX12_readPlot 70 = .ok (.bipush 97, 2) := by decide +kernel
theorem dX12_readPlot_72 : decode cX12_readPlot 72 = .ok (.isub, 1) := by decide +kernel
theorem dX12_readPlot_73 : decode cX12_readPlot 73 = .ok (.ishl, 1) := by decide +kernel
theorem dX12_readPlot_74 : decode cX12_readPlot 74 = .ok (.ior, 1) := by decide +kernel
theorem dX12_readPlot_75 : decode cX12_readPlot 75 = .ok (.istore_n 3, 1) := by decide +kernel
theorem dX12_readPlot_76 : decode cX12_readPlot 76 = .ok (.aload_n 0, 1) := by decide +kernel
theorem dX12_readPlot_77 : decode cX12_readPlot 77 = .ok (.dup, 1) := by decide +kernel
theorem dX12_readPlot_78 : decode cX12_readPlot 78 = .ok (.getfield 139, 3) := by decide +kernel
theorem dX12_readPlot_81 : decode cX12_readPlot 81 = .ok (.iconst 1, 1) := by decide +kernel
theorem dX12_readPlot_82 : decode cX12_readPlot 82 = .ok (.iadd, 1) := by decide +kernel
theorem dX12_readPlot_83 : decode cX12_readPlot 83 = .ok (.putfield 139, 3) := by decide +kernel
theorem dX12_readPlot_86 : decode cX12_readPlot 86 = .ok (.aload_n 0, 1) := by decide +kernel
theorem dX12_readPlot_87 : decode cX12_readPlot 87 = .ok (.invokevirtual 158, 3) := by decide +kernel
theorem dX12_readPlot_90 : decode cX12_readPlot 90 = .ok (.istore 4, 2) := by decide +kernel
theorem dX12_readPlot_92 : decode cX12_readPlot 92 = .ok (.iload 4, 2) := by decide +kernel
theorem dX12_readPlot_94 : decode cX12_readPlot 94 = .ok (.iconst (-1), 1) := by decide +kernel
theorem dX12_readPlot_95 : decode cX12_readPlot 95 = .ok (.if_icmp .eq 10, 3) := by decide +kernel
theorem dX12_readPlot_98 : decode cX12_readPlot 98 = .ok (.iload 4, 2) := by decide +kernel
theorem dX12_readPlot_100 : decode cX12_readPlot 100 = .ok (.bipush 47, 2) := by decide +kernel
theorem dX12_readPlot_102 : decode cX12_readPlot 102 = .ok (.if_icmp .ne (-68), 3) := by decide +kernel
theorem dX12_readPlot_105 : decode cX12_readPlot 105 = .ok (.aload_n 0, 1) := by decide +kernel
theorem dX12_readPlot_106 : decode cX12_readPlot 106 = .ok (.getfield 64, 3) := by decide +kernel
theorem dX12_readPlot_109 : decode cX12_readPlot 109 = .ok (.bipush 20, 2) := by decide +kernel
theorem dX12_readPlot_111 : decode cX12_readPlot 111 = .ok (.iload_n 1, 1) := by decide +kernel
theorem dX12_readPlot_112 : decode cX12_readPlot 112 = .ok (.imul, 1) := by decide +kernel
theorem dX12_readPlot_113 : decode cX12_readPlot 113 = .ok (.aload_n 0, 1) := by decide +kernel
theorem dX12_readPlot_114 : decode cX12_readPlot 114 = .ok (.getfield 61, 3) := by decide +kernel
theorem dX12_readPlot_117 : decode cX12_readPlot 117 = .ok (.iload_n 1, 1) := by decide +kernel
theorem dX12_readPlot_118 : decode cX12_readPlot 118 = .ok (.iaload, 1) := by decide +kernel
theorem dX12_readPlot_119 : decode cX12_readPlot 119 = .ok (.iadd, 1) := by decide +kernel
theorem dX12_readPlot_120 : decode cX12_readPlot 120 = .ok (.iload_n 3, 1) := by decide +kernel
theorem dX12_readPlot_121 : decode cX12_readPlot 121 = .ok (.iastore, 1) := by decide +kernel
theorem dX12_readPlot_122 : decode cX12_readPlot 122 = .ok (.aload_n 0, 1) := by decide +kernel
theorem dX12_readPlot_123 : decode cX12_readPlot 123 = .ok (.getfield 61, 3) := by decide +kernel
theorem dX12_readPlot_126 : decode cX12_readPlot 126 = .ok (.iload_n 1, 1) := by decide +kernel
theorem dX12_readPlot_127 : decode cX12_readPlot 127 = .ok (.dup2, 1) := by decide +kernel
theorem dX12_readPlot_128 : decode cX12_readPlot 128 = .ok (.iaload, 1) := by decide +kernel
theorem dX12_readPlot_129 : decode cX12_readPlot 129 = .ok (.iconst 1, 1) := by decide +kernel
theorem dX12_readPlot_130 : decode cX12_readPlot 130 = .ok (.iadd, 1) := by decide +kernel
theorem dX12_readPlot_131 : decode cX12_readPlot 131 = .ok (.iastore, 1) := by decide +kernel
theorem dX12_readPlot_132 : decode cX12_readPlot 132 = .ok (.iload 4, 2) := by decide +kernel
theorem dX12_readPlot_134 : decode cX12_readPlot 134 = .ok (.bipush 47, 2) := by decide +kernel
theorem dX12_readPlot_136 : decode cX12_readPlot 136 = .ok (.if_icmp .ne 7, 3) := by decide +kernel
theorem dX12_readPlot_139 : decode cX12_readPlot 139 = .ok (.iconst 1, 1) := by decide +kernel
theorem dX12_readPlot_140 : decode cX12_readPlot 140 = .ok (.goto 4, 3) := by decide +kernel
theorem dX12_readPlot_143 : decode cX12_readPlot 143 = .ok (.iconst 0, 1) := by decide +kernel
theorem dX12_readPlot_144 : decode cX12_readPlot 144 = .ok (.istore_n 2, 1) := by decide +kernel
theorem dX12_readPlot_145 : decode cX12_readPlot 145 = .ok (.iload_n 2, 1) := by decide +kernel
theorem dX12_readPlot_146 : decode cX12_readPlot 146 = .ok (.ifCond .eq 20, 3) := by decide +kernel
theorem dX12_readPlot_149 : decode cX12_readPlot 149 = .ok (.aload_n 0, 1) := by decide +kernel
theorem dX12_readPlot_150 : decode cX12_readPlot 150 = .ok (.getfield 61, 3) := by decide +kernel
theorem dX12_readPlot_153 : decode cX12_readPlot 153 = .ok (.iload_n 1, 1) := by decide +kernel
theorem dX12_readPlot_154 : decode cX12_readPlot 154 = .ok (.iaload, 1) := by decide +kernel
theorem dX12_readPlot_155 : decode cX12_readPlot 155 = .ok (.bipush 20, 2) := by decide +kernel
theorem dX12_readPlot_157 : decode cX12_readPlot 157 = .ok (.if_icmp .ne 9, 3) := by decide +kernel
theorem dX12_readPlot_160 : decode cX12_readPlot 160 = .ok (.aload_n 0, 1) := by decide +kernel
theorem dX12_readPlot_161 : decode cX12_readPlot 161 = .ok (.invokevirtual 154, 3) := by decide +kernel
theorem dX12_readPlot_164 : decode cX12_readPlot 164 = .ok (.pop, 1) := by decide +kernel
theorem dX12_readPlot_165 : decode cX12_readPlot 165 = .ok (.return_, 1) := by decide +kernel
theorem dX12_readPlot_166 : decode cX12_readPlot 166 = .ok (.iload_n 2, 1) := by decide +kernel
theorem dX12_readPlot_167 : decode cX12_readPlot 167 = .ok (.ifCond .eq 13, 3) := by decide +kernel
theorem dX12_readPlot_170 : decode cX12_readPlot 170 = .ok (.aload_n 0, 1) := by decide +kernel
theorem dX12_readPlot_171 : decode cX12_readPlot 171 = .ok (.dup, 1) := by decide +kernel
theorem dX12_readPlot_172 : decode cX12_readPlot 172 = .ok (.getfield 139, 3) := by decide +kernel
theorem dX12_readPlot_175 : decode cX12_readPlot 175 = .ok (.iconst 1, 1) := by decide +kernel
theorem dX12_readPlot_176 : decode cX12_readPlot 176 = .ok (.iadd, 1) := by decide +kernel
theorem dX12_readPlot_177 : decode cX12_readPlot 177 = .ok (.putfield 139, 3) := by decide +kernel
theorem dX12_readPlot_180 : decode cX12_readPlot 180 = .ok (.goto (-158), 3) := by decide +kernel
theorem dX12_readPlot_183 : decode cX12_readPlot 183 = .ok (.return_, 1) := by decide +kernel
theorem dX12_fault_0 : decode cX12_fault 0 = .ok (.aload_n 0, 1) := by decide +kernel
theorem dX12_fault_1 : decode cX12_fault 1 = .ok (.iconst 0, 1) := by decide +kernel
theorem dX12_fault_2 : decode cX12_fault 2 = .ok (.putfield 116, 3) := by decide +kernel
theorem dX12_fault_5 : decode cX12_fault 5 = .ok (.iload_n 1, 1) := by decide +kernel
theorem dX12_fault_6 : decode cX12_fault 6 = .ok (.iconst 0, 1) := by decide +kernel
theorem dX12_fault_7 : decode cX12_fault 7 = .ok (.iconst 2, 1) := by decide +kernel
theorem dX12_fault_8 : decode cX12_fault 8 = .ok (.invokestatic 250, 3) := by decide +kernel
theorem dX12_fault_11 : decode cX12_fault 11 = .ok (.ifCond .ne 6, 3) := by decide +kernel
theorem dX12_fault_14 : decode cX12_fault 14 = .ok (.bipush (-2), 2) := by decide +kernel
theorem dX12_fault_16 : decode cX12_fault 16 = .ok (.ireturn, 1) := by decide +kernel
theorem dX12_fault_17 : decode cX12_fault 17 = .ok (.iload_n 1, 1) := by decide +kernel
theorem dX12_fault_18 : decode cX12_fault 18 = .ok (.ifCond .ne 12, 3) := by decide +kernel
theorem dX12_fault_21 : decode cX12_fault 21 = .ok (.aload_n 0, 1) := by decide +kernel
theorem dX12_fault_22 : decode cX12_fault 22 = .ok (.bipush 8, 2) := by decide +kernel
theorem dX12_fault_24 : decode cX12_fault 24 = .ok (.invokevirtual 254, 3) := by decide +kernel
theorem dX12_fault_27 : decode cX12_fault 27 = .ok (.goto 29, 3) := by decide +kernel
theorem dX12_fault_30 : decode cX12_fault 30 = .ok (.iload_n 1, 1) := by decide +kernel
theorem dX12_fault_31 : decode cX12_fault 31 = .ok (.iconst 1, 1) := by decide +kernel
theorem dX12_fault_32 : decode cX12_fault 32 = .ok (.if_icmp .ne 11, 3) := by decide +kernel
theorem dX12_fault_35 : decode cX12_fault 35 = .ok (.aload_n 0, 1) := by decide +kernel
theorem dX12_fault_36 : decode cX12_fault 36 = .ok (.iconst 4, 1) := by decide +kernel
theorem dX12_fault_37 : decode cX12_fault 37 = .ok (.invokevirtual 257, 3) := by decide +kernel
theorem dX12_fault_40 : decode cX12_fault 40 = .ok (.goto 16, 3) := by decide +kernel
theorem dX12_fault_43 : decode cX12_fault 43 = .ok (.aload_n 0, 1) := by decide +kernel
theorem dX12_fault_44 : decode cX12_fault 44 = .ok (.aload_n 0, 1) := by decide +kernel
theorem dX12_fault_45 : decode cX12_fault 45 = .ok (.getfield 9, 3) := by decide +kernel
theorem dX12_fault_48 : decode cX12_fault 48 = .ok (.iconst 0, 1) := by decide +kernel
theorem dX12_fault_49 : decode cX12_fault 49 = .ok (.aload_n 0, 1) := by decide +kernel
theorem dX12_fault_50 : decode cX12_fault 50 = .ok (.getfield 129, 3) := by decide +kernel
theorem dX12_fault_53 : decode cX12_fault 53 = .ok (.invokevirtual 260, 3) := by decide +kernel
theorem dX12_fault_56 : decode cX12_fault 56 = .ok (.aload_n 0, 1) := by decide +kernel
theorem dX12_fault_57 : decode cX12_fault 57 = .ok (.getfield 148, 3) := by decide +kernel
theorem dX12_fault_60 : decode cX12_fault 60 = .ok (.ireturn, 1) := by decide +kernel
theorem dX12_text_0 : decode cX12_text 0 = .ok (.aload_n 0, 1) := by decide +kernel
theorem dX12_text_1 : decode cX12_text 1 = .ok (.iconst 0, 1) := by decide +kernel
theorem dX12_text_2 : decode cX12_text 2 = .ok (.putfield 116, 3) := by decide +kernel
theorem dX12_text_5 : decode cX12_text 5 = .ok (.iload_n 1, 1) := by decide +kernel
theorem dX12_text_6 : decode cX12_text 6 = .ok (.iconst 0, 1) := by decide +kernel
theorem dX12_text_7 : decode cX12_text 7 = .ok (.iconst 2, 1) := by decide +kernel
theorem dX12_text_8 : decode cX12_text 8 = .ok (.invokestatic 250, 3) := by decide +kernel
theorem dX12_text_11 : decode cX12_text 11 = .ok (.ifCond .eq 42, 3) := by decide +kernel
theorem dX12_text_14 : decode cX12_text 14 = .ok (.iload_n 1, 1) := by decide +kernel
theorem dX12_text_15 : decode cX12_text 15 = .ok (.ifCond .ne 12, 3) := by decide +kernel
theorem dX12_text_18 : decode cX12_text 18 = .ok (.aload_n 0, 1) := by decide +kernel
theorem dX12_text_19 : decode cX12_text 19 = .ok (.getfield 263, 3) := by decide +kernel
theorem dX12_text_22 : decode cX12_text 22 = .ok (.bipush 8, 2) := by decide +kernel
theorem dX12_text_24 : decode cX12_text 24 = .ok (.if_icmp .eq 29, 3) := by decide +kernel
theorem dX12_text_27 : decode cX12_text 27 = .ok (.iload_n 1, 1) := by decide +kernel
theorem dX12_text_28 : decode cX12_text 28 = .ok (.iconst 1, 1) := by decide +kernel
theorem dX12_text_29 : decode cX12_text 29 = .ok (.if_icmp .ne 11, 3) := by decide +kernel
theorem dX12_text_32 : decode cX12_text 32 = .ok (.aload_n 0, 1) := by decide +kernel
theorem dX12_text_33 : decode cX12_text 33 = .ok (.getfield 266, 3) := by decide +kernel
theorem dX12_text_36 : decode cX12_text 36 = .ok (.iconst 4, 1) := by decide +kernel
theorem dX12_text_37 : decode cX12_text 37 = .ok (.if_icmp .eq 16, 3) := by decide +kernel
theorem dX12_text_40 : decode cX12_text 40 = .ok (.iload_n 1, 1) := by decide +kernel
theorem dX12_text_41 : decode cX12_text 41 = .ok (.iconst 2, 1) := by decide +kernel
theorem dX12_text_42 : decode cX12_text 42 = .ok (.if_icmp .ne 13, 3) := by decide +kernel
theorem dX12_text_45 : decode cX12_text 45 = .ok (.aload_n 0, 1) := by decide +kernel
theorem dX12_text_46 : decode cX12_text 46 = .ok (.getfield 269, 3) := by decide +kernel
theorem dX12_text_49 : decode cX12_text 49 = .ok (.iconst 4, 1) := by decide +kernel
theorem dX12_text_50 : decode cX12_text 50 = .ok (.if_icmp .ne 5, 3) := by decide +kernel
theorem dX12_text_53 : decode cX12_text 53 = .ok (.iconst (-1), 1) := by decide +kernel
theorem dX12_text_54 : decode cX12_text 54 = .ok (.ireturn, 1) := by decide +kernel
theorem dX12_text_55 : decode cX12_text 55 = .ok (.aload_n 0, 1) := by decide +kernel
theorem dX12_text_56 : decode cX12_text 56 = .ok (.iload_n 1, 1) := by decide +kernel
theorem dX12_text_57 : decode cX12_text 57 = .ok (.invokevirtual 272, 3) := by decide +kernel
theorem dX12_text_60 : decode cX12_text 60 = .ok (.iconst (-1), 1) := by decide +kernel
theorem dX12_text_61 : decode cX12_text 61 = .ok (.if_icmp .eq 5, 3) := by decide +kernel
theorem dX12_text_64 : decode cX12_text 64 = .ok (.iconst (-1), 1) := by decide +kernel
theorem dX12_text_65 : decode cX12_text 65 = .ok (.ireturn, 1) := by decide +kernel
theorem dX12_text_66 : decode cX12_text 66 = .ok (.iload_n 1, 1) := by decide +kernel
theorem dX12_text_67 : decode cX12_text 67 = .ok (.ifCond .ne 80, 3) := by decide +kernel
theorem dX12_text_70 : decode cX12_text 70 = .ok (.aload_n 0, 1) := by decide +kernel
theorem dX12_text_71 : decode cX12_text 71 = .ok (.aload_n 0, 1) := by decide +kernel
theorem dX12_text_72 : decode cX12_text 72 = .ok (.getfield 263, 3) := by decide +kernel
theorem dX12_text_75 : decode cX12_text 75 = .ok (.invokevirtual 254, 3) := by decide +kernel
theorem dX12_text_78 : decode cX12_text 78 = .ok (.iconst 0, 1) := by decide +kernel
theorem dX12_text_79 : decode cX12_text 79 = .ok (.istore_n 2, 1) := by decide +kernel
theorem dX12_text_80 : decode cX12_text 80 = .ok (.iload_n 2, 1) := by decide +kernel
theorem dX12_text_81 : decode cX12_text 81 = .ok (.aload_n 0, 1) := by decide +kernel
theorem dX12_text_82 : decode cX12_text 82 = .ok (.getfield 129, 3) := by decide +kernel
theorem dX12_text_85 : decode cX12_text 85 = .ok (.if_icmp .ge 30, 3) := by decide +kernel
theorem dX12_text_88 : decode cX12_text 88 = .ok (.aload_n 0, 1) := by decide +kernel
theorem dX12_text_89 : decode cX12_text 89 = .ok (.getfield 13, 3) := by decide +kernel
theorem dX12_text_92 : decode cX12_text 92 = .ok (.sipush 200, 3) := by decide +kernel
theorem dX12_text_95 : decode cX12_text 95 = .ok (.aload_n 0, 1) := by decide +kernel
theorem dX12_text_96 : decode cX12_text 96 = .ok (.getfield 263, 3) := by decide +kernel
theorem dX12_text_99 : decode cX12_text 99 = .ok (.imul, 1) := by decide +kernel
theorem dX12_text_100 : decode cX12_text 100 = .ok (.iload_n 2, 1) := by decide +kernel
theorem dX12_text_101 : decode cX12_text 101 = .ok (.iadd, 1) := by decide +kernel
theorem dX12_text_102 : decode cX12_text 102 = .ok (.aload_n 0, 1) := by decide +kernel
theorem dX12_text_103 : decode cX12_text 103 = .ok (.getfield 9, 3) := by decide +kernel
theorem dX12_text_106 : decode cX12_text 106 = .ok (.iload_n 2, 1) := by decide +kernel
theorem dX12_text_107 : decode cX12_text 107 = .ok (.baload, 1) := by decide +kernel
theorem dX12_text_108 : decode cX12_text 108 = .ok (.bastore, 1) := by decide +kernel
theorem dX12_text_109 : decode cX12_text 109 = .ok (.iinc 2 1, 3) := by decide +kernel
theorem dX12_text_112 : decode cX12_text 112 = .ok (.goto (-32), 3) := by decide +kernel
theorem dX12_text_115 : decode cX12_text 115 = .ok (.aload_n 0, 1) := by decide +kernel
theorem dX12_text_116 : decode cX12_text 116 = .ok (.getfield 67, 3) := by decide +kernel
theorem dX12_text_119 : decode cX12_text 119 = .ok (.aload_n 0, 1) := by decide +kernel
theorem dX12_text_120 : decode cX12_text 120 = .ok (.getfield 263, 3) := by decide +kernel
theorem dX12_text_123 : decode cX12_text 123 = .ok (.iconst (-1), 1) := by decide +kernel
theorem dX12_text_124 : decode cX12_text 124 = .ok (.iastore, 1) := by decide +kernel
theorem dX12_text_125 : decode cX12_text 125 = .ok (.aload_n 0, 1) := by decide +kernel
theorem dX12_text_126 : decode cX12_text 126 = .ok (.iconst 0, 1) := by decide +kernel
theorem dX12_text_127 : decode cX12_text 127 = .ok (.putfield 129, 3) := by decide +kernel
theorem dX12_text_130 : decode cX12_text 130 = .ok (.aload_n 0, 1) := by decide +kernel
theorem dX12_text_131 : decode cX12_text 131 = .ok (.dup, 1) := by decide +kernel
theorem dX12_text_132 : decode cX12_text 132 = .ok (.getfield 263, 3) := by decide +kernel
theorem dX12_text_135 : decode cX12_text 135 = .ok (.iconst 1, 1) := by decide +kernel
theorem dX12_text_136 : decode cX12_text 136 = .ok (.iadd, 1) := by decide +kernel
theorem dX12_text_137 : decode cX12_text 137 = .ok (.putfield 263, 3) := by decide +kernel
theorem dX12_text_140 : decode cX12_text 140 = .ok (.aload_n 0, 1) := by decide +kernel
theorem dX12_text_141 : decode cX12_text 141 = .ok (.getfield 263, 3) := by decide +kernel
theorem dX12_text_144 : decode cX12_text 144 = .ok (.iconst 1, 1) := by decide +kernel
theorem dX12_text_145 : decode cX12_text 145 = .ok (.isub, 1) := by decide +kernel
theorem dX12_text_146 : decode cX12_text 146 = .ok (.ireturn, 1) := by decide +kernel
theorem dX12_text_147 : decode cX12_text 147 = .ok (.iload_n 1, 1) := by decide +kernel
theorem dX12_text_148 : decode cX12_text 148 = .ok (.iconst 1, 1) := by decide +kernel
theorem dX12_text_149 : decode cX12_text 149 = .ok (.if_icmp .ne 33, 3) := by decide +kernel
theorem dX12_text_152 : decode cX12_text 152 = .ok (.aload_n 0, 1) := by decide +kernel
theorem dX12_text_153 : decode cX12_text 153 = .ok (.aload_n 0, 1) := by decide +kernel
theorem dX12_text_154 : decode cX12_text 154 = .ok (.getfield 266, 3) := by decide +kernel
theorem dX12_text_157 : decode cX12_text 157 = .ok (.invokevirtual 257, 3) := by decide +kernel
theorem dX12_text_160 : decode cX12_text 160 = .ok (.aload_n 0, 1) := by decide +kernel
theorem dX12_text_161 : decode cX12_text 161 = .ok (.iconst 0, 1) := by decide +kernel
theorem dX12_text_162 : decode cX12_text 162 = .ok (.putfield 129, 3) := by decide +kernel
theorem dX12_text_165 : decode cX12_text 165 = .ok (.aload_n 0, 1) := by decide +kernel
theorem dX12_text_166 : decode cX12_text 166 = .ok (.dup, 1) := by decide +kernel
theorem dX12_text_167 : decode cX12_text 167 = .ok (.getfield 266, 3) := by decide +kernel
theorem dX12_text_170 : decode cX12_text 170 = .ok (.iconst 1, 1) := by decide +kernel
theorem dX12_text_171 : decode cX12_text 171 = .ok (.iadd, 1) := by decide +kernel
theorem dX12_text_172 : decode cX12_text 172 = .ok (.putfield 266, 3) := by decide +kernel
theorem dX12_text_175 : decode cX12_text 175 = .ok (.aload_n 0, 1) := by decide +kernel
theorem dX12_text_176 : decode cX12_text 176 = .ok (.getfield 266, 3) := by decide +kernel
theorem dX12_text_179 : decode cX12_text 179 = .ok (.iconst 1, 1) := by decide +kernel
theorem dX12_text_180 : decode cX12_text 180 = .ok (.isub, 1) := by decide +kernel
theorem dX12_text_181 : decode cX12_text 181 = .ok (.ireturn, 1) := by decide +kernel
theorem dX12_text_182 : decode cX12_text 182 = .ok (.iconst 0, 1) := by decide +kernel
theorem dX12_text_183 : decode cX12_text 183 = .ok (.istore_n 2, 1) := by decide +kernel
theorem dX12_text_184 : decode cX12_text 184 = .ok (.iload_n 2, 1) := by decide +kernel
theorem dX12_text_185 : decode cX12_text 185 = .ok (.aload_n 0, 1) := by decide +kernel
theorem dX12_text_186 : decode cX12_text 186 = .ok (.getfield 129, 3) := by decide +kernel
theorem dX12_text_189 : decode cX12_text 189 = .ok (.if_icmp .ge 30, 3) := by decide +kernel
theorem dX12_text_192 : decode cX12_text 192 = .ok (.aload_n 0, 1) := by decide +kernel
theorem dX12_text_193 : decode cX12_text 193 = .ok (.getfield 16, 3) := by decide +kernel
theorem dX12_text_196 : decode cX12_text 196 = .ok (.sipush 200, 3) := by decide +kernel
theorem dX12_text_199 : decode cX12_text 199 = .ok (.aload_n 0, 1) := by decide +kernel
theorem dX12_text_200 : decode cX12_text 200 = .ok (.getfield 269, 3) := by decide +kernel
theorem dX12_text_203 : decode cX12_text 203 = .ok (.imul, 1) := by decide +kernel
theorem dX12_text_204 : decode cX12_text 204 = .ok (.iload_n 2, 1) := by decide +kernel
theorem dX12_text_205 : decode cX12_text 205 = .ok (.iadd, 1) := by decide +kernel
theorem dX12_text_206 : decode cX12_text 206 = .ok (.aload_n 0, 1) := by decide +kernel
theorem dX12_text_207 : decode cX12_text 207 = .ok (.getfield 9, 3) := by decide +kernel
theorem dX12_text_210 : decode cX12_text 210 = .ok (.iload_n 2, 1) := by decide +kernel
theorem dX12_text_211 : decode cX12_text 211 = .ok (.baload, 1) := by decide +kernel
theorem dX12_text_212 : decode cX12_text 212 = .ok (.bastore, 1) := by decide +kernel
theorem dX12_text_213 : decode cX12_text 213 = .ok (.iinc 2 1, 3) := by decide +kernel
theorem dX12_text_216 : decode cX12_text 216 = .ok (.goto (-32), 3) := by decide +kernel
theorem dX12_text_219 : decode cX12_text 219 = .ok (.aload_n 0, 1) := by decide +kernel
theorem dX12_text_220 : decode cX12_text 220 = .ok (.getfield 19, 3) := by decide +kernel
theorem dX12_text_223 : decode cX12_text 223 = .ok (.aload_n 0, 1) := by decide +kernel
theorem dX12_text_224 : decode cX12_text 224 = .ok (.getfield 269, 3) := by decide +kernel
theorem dX12_text_227 : decode cX12_text 227 = .ok (.aload_n 0, 1) := by decide +kernel
theorem dX12_text_228 : decode cX12_text 228 = .ok (.getfield 129, 3) := by decide +kernel
theorem dX12_text_231 : decode cX12_text 231 = .ok (.iastore, 1) := by decide +kernel
theorem dX12_text_232 : decode cX12_text 232 = .ok (.aload_n 0, 1) := by decide +kernel
theorem dX12_text_233 : decode cX12_text 233 = .ok (.iconst 0, 1) := by decide +kernel
theorem dX12_text_234 : decode cX12_text 234 = .ok (.putfield 129, 3) := by decide +kernel
theorem dX12_text_237 : decode cX12_text 237 = .ok (.aload_n 0, 1) := by decide +kernel
theorem dX12_text_238 : decode cX12_text 238 = .ok (.dup, 1) := by decide +kernel
theorem dX12_text_239 : decode cX12_text 239 = .ok (.getfield 269, 3) := by decide +kernel
theorem dX12_text_242 : decode cX12_text 242 = .ok (.iconst 1, 1) := by decide +kernel
theorem dX12_text_243 : decode cX12_text 243 = .ok (.iadd, 1) := by decide +kernel
theorem dX12_text_244 : decode cX12_text 244 = .ok (.putfield 269, 3) := by decide +kernel
theorem dX12_text_247 : decode cX12_text 247 = .ok (.aload_n 0, 1) := by decide +kernel
theorem dX12_text_248 : decode cX12_text 248 = .ok (.getfield 269, 3) := by decide +kernel
theorem dX12_text_251 : decode cX12_text 251 = .ok (.iconst 1, 1) := by decide +kernel
theorem dX12_text_252 : decode cX12_text 252 = .ok (.isub, 1) := by decide +kernel
theorem dX12_text_253 : decode cX12_text 253 = .ok (.ireturn, 1) := by decide +kernel
theorem dX12_isRoll_0 : decode cX12_isRoll 0 = .ok (.iload_n 1, 1) := by decide +kernel
theorem dX12_isRoll_1 : decode cX12_isRoll 1 = .ok (.ifCond .lt 15, 3) := by decide +kernel
theorem dX12_isRoll_4 : decode cX12_isRoll 4 = .ok (.iload_n 1, 1) := by decide +kernel
theorem dX12_isRoll_5 : decode cX12_isRoll 5 = .ok (.aload_n 0, 1) := by decide +kernel
theorem dX12_isRoll_6 : decode cX12_isRoll 6 = .ok (.getfield 263, 3) := by decide +kernel
theorem dX12_isRoll_9 : decode cX12_isRoll 9 = .ok (.if_icmp .ge 7, 3) := by decide +kernel
theorem dX12_isRoll_12 : decode cX12_isRoll 12 = .ok (.iconst 1, 1) := by decide +kernel
theorem dX12_isRoll_13 : decode cX12_isRoll 13 = .ok (.goto 4, 3) := by decide +kernel
theorem dX12_isRoll_16 : decode cX12_isRoll 16 = .ok (.iconst 0, 1) := by decide +kernel
theorem dX12_isRoll_17 : decode cX12_isRoll 17 = .ok (.ireturn, 1) := by decide +kernel
theorem dX12_isSpeech_0 : decode cX12_isSpeech 0 = .ok (.iload_n 1, 1) := by decide +kernel
theorem dX12_isSpeech_1 : decode cX12_isSpeech 1 = .ok (.ifCond .lt 34, 3) := by decide +kernel
theorem dX12_isSpeech_4 : decode cX12_isSpeech 4 = .ok (.aload_n 0, 1) := by decide +kernel
theorem dX12_isSpeech_5 : decode cX12_isSpeech 5 = .ok (.iload_n 1, 1) := by decide +kernel
theorem dX12_isSpeech_6 : decode cX12_isSpeech 6 = .ok (.bipush 16, 2) := by decide +kernel
theorem dX12_isSpeech_8 : decode cX12_isSpeech 8 = .ok (.idiv, 1) := by decide +kernel
theorem dX12_isSpeech_9 : decode cX12_isSpeech 9 = .ok (.invokevirtual 274, 3) := by decide +kernel
theorem dX12_isSpeech_12 : decode cX12_isSpeech 12 = .ok (.ifCond .eq 23, 3) := by decide +kernel
theorem dX12_isSpeech_15 : decode cX12_isSpeech 15 = .ok (.iload_n 1, 1) := by decide +kernel
theorem dX12_isSpeech_16 : decode cX12_isSpeech 16 = .ok (.bipush 16, 2) := by decide +kernel
theorem dX12_isSpeech_18 : decode cX12_isSpeech 18 = .ok (.irem, 1) := by decide +kernel
theorem dX12_isSpeech_19 : decode cX12_isSpeech 19 = .ok (.aload_n 0, 1) := by decide +kernel
theorem dX12_isSpeech_20 : decode cX12_isSpeech 20 = .ok (.getfield 40, 3) := by decide +kernel
theorem dX12_isSpeech_23 : decode cX12_isSpeech 23 = .ok (.iload_n 1, 1) := by decide +kernel
theorem dX12_isSpeech_24 : decode cX12_isSpeech 24 = .ok (.bipush 16, 2) := by decide +kernel
theorem dX12_isSpeech_26 : decode cX12_isSpeech 26 = .ok (.idiv, 1) := by decide +kernel
theorem dX12_isSpeech_27 : decode cX12_isSpeech 27 = .ok (.iaload, 1) := by decide +kernel
theorem dX12_isSpeech_28 : decode cX12_isSpeech 28 = .ok (.if_icmp .ge 7, 3) := by decide +kernel
theorem dX12_isSpeech_31 : decode cX12_isSpeech 31 = .ok (.iconst 1, 1) := by decide +kernel
theorem dX12_isSpeech_32 : decode cX12_isSpeech 32 = .ok (.goto 4, 3) := by decide +kernel
theorem dX12_isSpeech_35 : decode cX12_isSpeech 35 = .ok (.iconst 0, 1) := by decide +kernel
theorem dX12_isSpeech_36 : decode cX12_isSpeech 36 = .ok (.ireturn, 1) := by decide +kernel
theorem dX12_areRolls_0 : decode cX12_areRolls 0 = .ok (.iload_n 1, 1) := by decide +kernel
theorem dX12_areRolls_1 : decode cX12_areRolls 1 = .ok (.ifCond .le 17, 3) := by decide +kernel
theorem dX12_areRolls_4 : decode cX12_areRolls 4 = .ok (.iload_n 1, 1) := by decide +kernel
theorem dX12_areRolls_5 : decode cX12_areRolls 5 = .ok (.iconst 1, 1) := by decide +kernel
theorem dX12_areRolls_6 : decode cX12_areRolls 6 = .ok (.aload_n 0, 1) := by decide +kernel
theorem dX12_areRolls_7 : decode cX12_areRolls 7 = .ok (.getfield 263, 3) := by decide +kernel
theorem dX12_areRolls_10 : decode cX12_areRolls 10 = .ok (.ishl, 1) := by decide +kernel
theorem dX12_areRolls_11 : decode cX12_areRolls 11 = .ok (.if_icmp .ge 7, 3) := by decide +kernel
theorem dX12_areRolls_14 : decode cX12_areRolls 14 = .ok (.iconst 1, 1) := by decide +kernel
theorem dX12_areRolls_15 : decode cX12_areRolls 15 = .ok (.goto 4, 3) := by decide +kernel
theorem dX12_areRolls_18 : decode cX12_areRolls 18 = .ok (.iconst 0, 1) := by decide +kernel
theorem dX12_areRolls_19 : decode cX12_areRolls 19 = .ok (.ireturn, 1) := by decide +kernel
theorem dX12_speech_0 : decode cX12_speech 0 = .ok (.aload_n 0, 1) := by decide +kernel
theorem dX12_speech_1 : decode cX12_speech 1 = .ok (.aload_n 0, 1) := by decide +kernel
theorem dX12_speech_2 : decode cX12_speech 2 = .ok (.iload_n 1, 1) := by decide +kernel
theorem dX12_speech_3 : decode cX12_speech 3 = .ok (.invokevirtual 277, 3) := by decide +kernel
theorem dX12_speech_6 : decode cX12_speech 6 = .ok (.ifCond .eq 16, 3) := by decide +kernel
theorem dX12_speech_9 : decode cX12_speech 9 = .ok (.iload_n 2, 1) := by decide +kernel
theorem dX12_speech_10 : decode cX12_speech 10 = .ok (.iconst 0, 1) := by decide +kernel
theorem dX12_speech_11 : decode cX12_speech 11 = .ok (.iconst 2, 1) := by decide +kernel
theorem dX12_speech_12 : decode cX12_speech 12 = .ok (.invokestatic 250, 3) := by decide +kernel
theorem dX12_speech_15 : decode cX12_speech 15 = .ok (.ifCond .eq 7, 3) := by decide +kernel
theorem dX12_speech_18 : decode cX12_speech 18 = .ok (.iconst 0, 1) := by decide +kernel
theorem dX12_speech_19 : decode cX12_speech 19 = .ok (.goto 4, 3) := by decide +kernel
theorem dX12_speech_22 : decode cX12_speech 22 = .ok (.iconst 1, 1) := by decide +kernel
theorem dX12_speech_23 : decode cX12_speech 23 = .ok (.putfield 116, 3) := by decide +kernel
theorem dX12_speech_26 : decode cX12_speech 26 = .ok (.aload_n 0, 1) := by decide +kernel
theorem dX12_speech_27 : decode cX12_speech 27 = .ok (.getfield 116, 3) := by decide +kernel
theorem dX12_speech_30 : decode cX12_speech 30 = .ok (.ifCond .le 5, 3) := by decide +kernel
theorem dX12_speech_33 : decode cX12_speech 33 = .ok (.iconst 0, 1) := by decide +kernel
theorem dX12_speech_34 : decode cX12_speech 34 = .ok (.ireturn, 1) := by decide +kernel
theorem dX12_speech_35 : decode cX12_speech 35 = .ok (.iload_n 2, 1) := by decide +kernel
theorem dX12_speech_36 : decode cX12_speech 36 = .ok (.ifCond .ne 12, 3) := by decide +kernel
theorem dX12_speech_39 : decode cX12_speech 39 = .ok (.aload_n 0, 1) := by decide +kernel
theorem dX12_speech_40 : decode cX12_speech 40 = .ok (.getfield 46, 3) := by decide +kernel
theorem dX12_speech_43 : decode cX12_speech 43 = .ok (.iload_n 1, 1) := by decide +kernel
theorem dX12_speech_44 : decode cX12_speech 44 = .ok (.iaload, 1) := by decide +kernel
theorem dX12_speech_45 : decode cX12_speech 45 = .ok (.goto 35, 3) := by decide +kernel
theorem dX12_speech_48 : decode cX12_speech 48 = .ok (.iload_n 2, 1) := by decide +kernel
theorem dX12_speech_49 : decode cX12_speech 49 = .ok (.iconst 1, 1) := by decide +kernel
theorem dX12_speech_50 : decode cX12_speech 50 = .ok (.if_icmp .ne 12, 3) := by decide +kernel
theorem dX12_speech_53 : decode cX12_speech 53 = .ok (.aload_n 0, 1) := by decide +kernel
theorem dX12_speech_54 : decode cX12_speech 54 = .ok (.getfield 43, 3) := by decide +kernel
theorem dX12_speech_57 : decode cX12_speech 57 = .ok (.iload_n 1, 1) := by decide +kernel
theorem dX12_speech_58 : decode cX12_speech 58 = .ok (.iaload, 1) := by decide +kernel
theorem dX12_speech_59 : decode cX12_speech 59 = .ok (.goto 21, 3) := by decide +kernel
theorem dX12_speech_62 : decode cX12_speech 62 = .ok (.aload_n 0, 1) := by decide +kernel
theorem dX12_speech_63 : decode cX12_speech 63 = .ok (.getfield 58, 3) := by decide +kernel
theorem dX12_speech_66 : decode cX12_speech 66 = .ok (.bipush 12, 2) := by decide +kernel
theorem dX12_speech_68 : decode cX12_speech 68 = .ok (.iload_n 1, 1) := by decide +kernel
theorem dX12_speech_69 : decode cX12_speech 69 = .ok (.imul, 1) := by decide +kernel
theorem dX12_speech_70 : decode cX12_speech 70 = .ok (.aload_n 0, 1) := by decide +kernel
theorem dX12_speech_71 : decode cX12_speech 71 = .ok (.getfield 46, 3) := by decide +kernel
theorem dX12_speech_74 : decode cX12_speech 74 = .ok (.iload_n 1, 1) := by decide +kernel
theorem dX12_speech_75 : decode cX12_speech 75 = .ok (.iaload, 1) := by decide +kernel
theorem dX12_speech_76 : decode cX12_speech 76 = .ok (.iadd, 1) := by decide +kernel
theorem dX12_speech_77 : decode cX12_speech 77 = .ok (.iconst 1, 1) := by decide +kernel
theorem dX12_speech_78 : decode cX12_speech 78 = .ok (.isub, 1) := by decide +kernel
theorem dX12_speech_79 : decode cX12_speech 79 = .ok (.iaload, 1) := by decide +kernel
theorem dX12_speech_80 : decode cX12_speech 80 = .ok (.ireturn, 1) := by decide +kernel
theorem dX12_many_0 : decode cX12_many 0 = .ok (.aload_n 0, 1) := by decide +kernel
theorem dX12_many_1 : decode cX12_many 1 = .ok (.iconst 0, 1) := by decide +kernel
theorem dX12_many_2 : decode cX12_many 2 = .ok (.putfield 116, 3) := by decide +kernel
theorem dX12_many_5 : decode cX12_many 5 = .ok (.aload_n 0, 1) := by decide +kernel
theorem dX12_many_6 : decode cX12_many 6 = .ok (.iload_n 1, 1) := by decide +kernel
theorem dX12_many_7 : decode cX12_many 7 = .ok (.invokevirtual 274, 3) := by decide +kernel
theorem dX12_many_10 : decode cX12_many 10 = .ok (.ifCond .eq 12, 3) := by decide +kernel
theorem dX12_many_13 : decode cX12_many 13 = .ok (.aload_n 0, 1) := by decide +kernel
theorem dX12_many_14 : decode cX12_many 14 = .ok (.getfield 40, 3) := by decide +kernel
theorem dX12_many_17 : decode cX12_many 17 = .ok (.iload_n 1, 1) := by decide +kernel
theorem dX12_many_18 : decode cX12_many 18 = .ok (.iaload, 1) := by decide +kernel
theorem dX12_many_19 : decode cX12_many 19 = .ok (.goto 4, 3) := by decide +kernel
theorem dX12_many_22 : decode cX12_many 22 = .ok (.iconst (-1), 1) := by decide +kernel
theorem dX12_many_23 : decode cX12_many 23 = .ok (.ireturn, 1) := by decide +kernel
theorem dX12_letter_0 : decode cX12_letter 0 = .ok (.aload_n 0, 1) := by decide +kernel
theorem dX12_letter_1 : decode cX12_letter 1 = .ok (.getfield 13, 3) := by decide +kernel
theorem dX12_letter_4 : decode cX12_letter 4 = .ok (.sipush 200, 3) := by decide +kernel
theorem dX12_letter_7 : decode cX12_letter 7 = .ok (.iload_n 1, 1) := by decide +kernel
theorem dX12_letter_8 : decode cX12_letter 8 = .ok (.bipush 16, 2) := by decide +kernel
theorem dX12_letter_10 : decode cX12_letter 10 = .ok (.idiv, 1) := by decide +kernel
theorem dX12_letter_11 : decode cX12_letter 11 = .ok (.imul, 1) := by decide +kernel
theorem dX12_letter_12 : decode cX12_letter 12 = .ok (.iload_n 2, 1) := by decide +kernel
theorem dX12_letter_13 : decode cX12_letter 13 = .ok (.iadd, 1) := by decide +kernel
theorem dX12_letter_14 : decode cX12_letter 14 = .ok (.baload, 1) := by decide +kernel
theorem dX12_letter_15 : decode cX12_letter 15 = .ok (.ireturn, 1) := by decide +kernel
theorem dX12_isWord_0 : decode cX12_isWord 0 = .ok (.aload_n 0, 1) := by decide +kernel
theorem dX12_isWord_1 : decode cX12_isWord 1 = .ok (.getfield 52, 3) := by decide +kernel
theorem dX12_isWord_4 : decode cX12_isWord 4 = .ok (.iconst 2, 1) := by decide +kernel
theorem dX12_isWord_5 : decode cX12_isWord 5 = .ok (.iload_n 1, 1) := by decide +kernel
theorem dX12_isWord_6 : decode cX12_isWord 6 = .ok (.imul, 1) := by decide +kernel
theorem dX12_isWord_7 : decode cX12_isWord 7 = .ok (.iload_n 2, 1) := by decide +kernel
theorem dX12_isWord_8 : decode cX12_isWord 8 = .ok (.iadd, 1) := by decide +kernel
theorem dX12_isWord_9 : decode cX12_isWord 9 = .ok (.iaload, 1) := by decide +kernel
theorem dX12_isWord_10 : decode cX12_isWord 10 = .ok (.aload_n 0, 1) := by decide +kernel
theorem dX12_isWord_11 : decode cX12_isWord 11 = .ok (.getfield 58, 3) := by decide +kernel
theorem dX12_isWord_14 : decode cX12_isWord 14 = .ok (.bipush 12, 2) := by decide +kernel
theorem dX12_isWord_16 : decode cX12_isWord 16 = .ok (.iload_n 3, 1) := by decide +kernel
theorem dX12_isWord_17 : decode cX12_isWord 17 = .ok (.imul, 1) := by decide +kernel
theorem dX12_isWord_18 : decode cX12_isWord 18 = .ok (.iload 4, 2) := by decide +kernel
theorem dX12_isWord_20 : decode cX12_isWord 20 = .ok (.iadd, 1) := by decide +kernel
theorem dX12_isWord_21 : decode cX12_isWord 21 = .ok (.iaload, 1) := by decide +kernel
theorem dX12_isWord_22 : decode cX12_isWord 22 = .ok (.if_icmp .eq 5, 3) := by decide +kernel
theorem dX12_isWord_25 : decode cX12_isWord 25 = .ok (.iconst 0, 1) := by decide +kernel
theorem dX12_isWord_26 : decode cX12_isWord 26 = .ok (.ireturn, 1) := by decide +kernel
theorem dX12_isWord_27 : decode cX12_isWord 27 = .ok (.iconst 0, 1) := by decide +kernel
theorem dX12_isWord_28 : decode cX12_isWord 28 = .ok (.istore 5, 2) := by decide +kernel
theorem dX12_isWord_30 : decode cX12_isWord 30 = .ok (.iload 5, 2) := by decide +kernel
theorem dX12_isWord_32 : decode cX12_isWord 32 = .ok (.aload_n 0, 1) := by decide +kernel
theorem dX12_isWord_33 : decode cX12_isWord 33 = .ok (.getfield 52, 3) := by decide +kernel
theorem dX12_isWord_36 : decode cX12_isWord 36 = .ok (.iconst 2, 1) := by decide +kernel
theorem dX12_isWord_37 : decode cX12_isWord 37 = .ok (.iload_n 1, 1) := by decide +kernel
theorem dX12_isWord_38 : decode cX12_isWord 38 = .ok (.imul, 1) := by decide +kernel
theorem dX12_isWord_39 : decode cX12_isWord 39 = .ok (.iload_n 2, 1) := by decide +kernel
theorem dX12_isWord_40 : decode cX12_isWord 40 = .ok (.iadd, 1) := by decide +kernel
theorem dX12_isWord_41 : decode cX12_isWord 41 = .ok (.iaload, 1) := by decide +kernel
theorem dX12_isWord_42 : decode cX12_isWord 42 = .ok (.if_icmp .ge 52, 3) := by decide +kernel
theorem dX12_isWord_45 : decode cX12_isWord 45 = .ok (.aload_n 0, 1) := by decide +kernel
theorem dX12_isWord_46 : decode cX12_isWord 46 = .ok (.iload_n 1, 1) := by decide +kernel
theorem dX12_isWord_47 : decode cX12_isWord 47 = .ok (.aload_n 0, 1) := by decide +kernel
theorem dX12_isWord_48 : decode cX12_isWord 48 = .ok (.getfield 49, 3) := by decide +kernel
theorem dX12_isWord_51 : decode cX12_isWord 51 = .ok (.iconst 2, 1) := by decide +kernel
theorem dX12_isWord_52 : decode cX12_isWord 52 = .ok (.iload_n 1, 1) := by decide +kernel
theorem dX12_isWord_53 : decode cX12_isWord 53 = .ok (.imul, 1) := by decide +kernel
theorem dX12_isWord_54 : decode cX12_isWord 54 = .ok (.iload_n 2, 1) := by decide +kernel
theorem dX12_isWord_55 : decode cX12_isWord 55 = .ok (.iadd, 1) := by decide +kernel
theorem dX12_isWord_56 : decode cX12_isWord 56 = .ok (.iaload, 1) := by decide +kernel
theorem dX12_isWord_57 : decode cX12_isWord 57 = .ok (.iload 5, 2) := by decide +kernel
theorem dX12_isWord_59 : decode cX12_isWord 59 = .ok (.iadd, 1) := by decide +kernel
theorem dX12_isWord_60 : decode cX12_isWord 60 = .ok (.invokevirtual 280, 3) := by decide +kernel
theorem dX12_isWord_63 : decode cX12_isWord 63 = .ok (.aload_n 0, 1) := by decide +kernel
theorem dX12_isWord_64 : decode cX12_isWord 64 = .ok (.iload_n 3, 1) := by decide +kernel
theorem dX12_isWord_65 : decode cX12_isWord 65 = .ok (.aload_n 0, 1) := by decide +kernel
theorem dX12_isWord_66 : decode cX12_isWord 66 = .ok (.getfield 55, 3) := by decide +kernel
theorem dX12_isWord_69 : decode cX12_isWord 69 = .ok (.bipush 12, 2) := by decide +kernel
theorem dX12_isWord_71 : decode cX12_isWord 71 = .ok (.iload_n 3, 1) := by decide +kernel
theorem dX12_isWord_72 : decode cX12_isWord 72 = .ok (.imul, 1) := by decide +kernel
theorem dX12_isWord_73 : decode cX12_isWord 73 = .ok (.iload 4, 2) := by decide +kernel
theorem dX12_isWord_75 : decode cX12_isWord 75 = .ok (.iadd, 1) := by decide +kernel
theorem dX12_isWord_76 : decode cX12_isWord 76 = .ok (.iaload, 1) := by decide +kernel
theorem dX12_isWord_77 : decode cX12_isWord 77 = .ok (.iload 5, 2) := by decide +kernel
theorem dX12_isWord_79 : decode cX12_isWord 79 = .ok (.iadd, 1) := by decide +kernel
theorem dX12_isWord_80 : decode cX12_isWord 80 = .ok (.invokevirtual 280, 3) := by decide +kernel
theorem dX12_isWord_83 : decode cX12_isWord 83 = .ok (.if_icmp .eq 5, 3) := by decide +kernel
theorem dX12_isWord_86 : decode cX12_isWord 86 = .ok (.iconst 0, 1) := by decide +kernel
theorem dX12_isWord_87 : decode cX12_isWord 87 = .ok (.ireturn, 1) := by decide +kernel
theorem dX12_isWord_88 : decode cX12_isWord 88 = .ok (.iinc 5 1, 3) := by decide +kernel
theorem dX12_isWord_91 : decode cX12_isWord 91 = .ok (.goto (-61), 3) := by decide +kernel
theorem dX12_isWord_94 : decode cX12_isWord 94 = .ok (.iconst 1, 1) := by decide +kernel
theorem dX12_isWord_95 : decode cX12_isWord 95 = .ok (.ireturn, 1) := by decide +kernel
theorem dX12_endsIt_0 : decode cX12_endsIt 0 = .ok (.aload_n 0, 1) := by decide +kernel
theorem dX12_endsIt_1 : decode cX12_endsIt 1 = .ok (.getfield 43, 3) := by decide +kernel
theorem dX12_endsIt_4 : decode cX12_endsIt 4 = .ok (.iload_n 1, 1) := by decide +kernel
theorem dX12_endsIt_5 : decode cX12_endsIt 5 = .ok (.iaload, 1) := by decide +kernel
theorem dX12_endsIt_6 : decode cX12_endsIt 6 = .ok (.istore_n 3, 1) := by decide +kernel
theorem dX12_endsIt_7 : decode cX12_endsIt 7 = .ok (.iload_n 3, 1) := by decide +kernel
theorem dX12_endsIt_8 : decode cX12_endsIt 8 = .ok (.ifCond .eq 13, 3) := by decide +kernel
theorem dX12_endsIt_11 : decode cX12_endsIt 11 = .ok (.iload_n 3, 1) := by decide +kernel
theorem dX12_endsIt_12 : decode cX12_endsIt 12 = .ok (.aload_n 0, 1) := by decide +kernel
theorem dX12_endsIt_13 : decode cX12_endsIt 13 = .ok (.getfield 46, 3) := by decide +kernel
theorem dX12_endsIt_16 : decode cX12_endsIt 16 = .ok (.iload_n 2, 1) := by decide +kernel
theorem dX12_endsIt_17 : decode cX12_endsIt 17 = .ok (.iaload, 1) := by decide +kernel
theorem dX12_endsIt_18 : decode cX12_endsIt 18 = .ok (.if_icmp .le 5, 3) := by decide +kernel
theorem dX12_endsIt_21 : decode cX12_endsIt 21 = .ok (.iconst 0, 1) := by decide +kernel
theorem dX12_endsIt_22 : decode cX12_endsIt 22 = .ok (.ireturn, 1) := by decide +kernel
theorem dX12_endsIt_23 : decode cX12_endsIt 23 = .ok (.iconst 0, 1) := by decide +kernel
theorem dX12_endsIt_24 : decode cX12_endsIt 24 = .ok (.istore 4, 2) := by decide +kernel
theorem dX12_endsIt_26 : decode cX12_endsIt 26 = .ok (.iload 4, 2) := by decide +kernel
theorem dX12_endsIt_28 : decode cX12_endsIt 28 = .ok (.iload_n 3, 1) := by decide +kernel
theorem dX12_endsIt_29 : decode cX12_endsIt 29 = .ok (.if_icmp .ge 33, 3) := by decide +kernel
theorem dX12_endsIt_32 : decode cX12_endsIt 32 = .ok (.aload_n 0, 1) := by decide +kernel
theorem dX12_endsIt_33 : decode cX12_endsIt 33 = .ok (.iload_n 1, 1) := by decide +kernel
theorem dX12_endsIt_34 : decode cX12_endsIt 34 = .ok (.iload 4, 2) := by decide +kernel
theorem dX12_endsIt_36 : decode cX12_endsIt 36 = .ok (.iload_n 2, 1) := by decide +kernel
theorem dX12_endsIt_37 : decode cX12_endsIt 37 = .ok (.aload_n 0, 1) := by decide +kernel
theorem dX12_endsIt_38 : decode cX12_endsIt 38 = .ok (.getfield 46, 3) := by decide +kernel
theorem dX12_endsIt_41 : decode cX12_endsIt 41 = .ok (.iload_n 2, 1) := by decide +kernel
theorem dX12_endsIt_42 : decode cX12_endsIt 42 = .ok (.iaload, 1) := by decide +kernel
theorem dX12_endsIt_43 : decode cX12_endsIt 43 = .ok (.iload_n 3, 1) := by decide +kernel
theorem dX12_endsIt_44 : decode cX12_endsIt 44 = .ok (.isub, 1) := by decide +kernel
theorem dX12_endsIt_45 : decode cX12_endsIt 45 = .ok (.iload 4, 2) := by decide +kernel
theorem dX12_endsIt_47 : decode cX12_endsIt 47 = .ok (.iadd, 1) := by decide +kernel
theorem dX12_endsIt_48 : decode cX12_endsIt 48 = .ok (.invokevirtual 284, 3) := by decide +kernel
theorem dX12_endsIt_51 : decode cX12_endsIt 51 = .ok (.ifCond .ne 5, 3) := by decide +kernel
theorem dX12_endsIt_54 : decode cX12_endsIt 54 = .ok (.iconst 0, 1) := by decide +kernel
theorem dX12_endsIt_55 : decode cX12_endsIt 55 = .ok (.ireturn, 1) := by decide +kernel
theorem dX12_endsIt_56 : decode cX12_endsIt 56 = .ok (.iinc 4 1, 3) := by decide +kernel
theorem dX12_endsIt_59 : decode cX12_endsIt 59 = .ok (.goto (-33), 3) := by decide +kernel
theorem dX12_endsIt_62 : decode cX12_endsIt 62 = .ok (.iconst 1, 1) := by decide +kernel
theorem dX12_endsIt_63 : decode cX12_endsIt 63 = .ok (.ireturn, 1) := by decide +kernel
theorem dX12_ends_0 : decode cX12_ends 0 = .ok (.aload_n 0, 1) := by decide +kernel
theorem dX12_ends_1 : decode cX12_ends 1 = .ok (.iconst 0, 1) := by decide +kernel
theorem dX12_ends_2 : decode cX12_ends 2 = .ok (.putfield 116, 3) := by decide +kernel
theorem dX12_ends_5 : decode cX12_ends 5 = .ok (.aload_n 0, 1) := by decide +kernel
theorem dX12_ends_6 : decode cX12_ends 6 = .ok (.iload_n 1, 1) := by decide +kernel
theorem dX12_ends_7 : decode cX12_ends 7 = .ok (.invokevirtual 277, 3) := by decide +kernel
theorem dX12_ends_10 : decode cX12_ends 10 = .ok (.ifCond .eq 11, 3) := by decide +kernel
theorem dX12_ends_13 : decode cX12_ends 13 = .ok (.aload_n 0, 1) := by decide +kernel
theorem dX12_ends_14 : decode cX12_ends 14 = .ok (.iload_n 2, 1) := by decide +kernel
theorem dX12_ends_15 : decode cX12_ends 15 = .ok (.invokevirtual 277, 3) := by decide +kernel
theorem dX12_ends_18 : decode cX12_ends 18 = .ok (.ifCond .ne 7, 3) := by decide +kernel
theorem dX12_ends_21 : decode cX12_ends 21 = .ok (.iconst (-1), 1) := by decide +kernel
theorem dX12_ends_22 : decode cX12_ends 22 = .ok (.goto 17, 3) := by decide +kernel
theorem dX12_ends_25 : decode cX12_ends 25 = .ok (.aload_n 0, 1) := by decide +kernel
theorem dX12_ends_26 : decode cX12_ends 26 = .ok (.iload_n 1, 1) := by decide +kernel
theorem dX12_ends_27 : decode cX12_ends 27 = .ok (.iload_n 2, 1) := by decide +kernel
theorem dX12_ends_28 : decode cX12_ends 28 = .ok (.invokevirtual 288, 3) := by decide +kernel
theorem dX12_ends_31 : decode cX12_ends 31 = .ok (.ifCond .eq 7, 3) := by decide +kernel
theorem dX12_ends_34 : decode cX12_ends 34 = .ok (.iconst 1, 1) := by decide +kernel
theorem dX12_ends_35 : decode cX12_ends 35 = .ok (.goto 4, 3) := by decide +kernel
theorem dX12_ends_38 : decode cX12_ends 38 = .ok (.iconst 0, 1) := by decide +kernel
theorem dX12_ends_39 : decode cX12_ends 39 = .ok (.ireturn, 1) := by decide +kernel
theorem dX12_addOne_0 : decode cX12_addOne 0 = .ok (.aload_n 0, 1) := by decide +kernel
theorem dX12_addOne_1 : decode cX12_addOne 1 = .ok (.getfield 70, 3) := by decide +kernel
theorem dX12_addOne_4 : decode cX12_addOne 4 = .ok (.aload_n 0, 1) := by decide +kernel
theorem dX12_addOne_5 : decode cX12_addOne 5 = .ok (.getfield 291, 3) := by decide +kernel
theorem dX12_addOne_8 : decode cX12_addOne 8 = .ok (.iload_n 1, 1) := by decide +kernel
theorem dX12_addOne_9 : decode cX12_addOne 9 = .ok (.iastore, 1) := by decide +kernel
theorem dX12_addOne_10 : decode cX12_addOne 10 = .ok (.aload_n 0, 1) := by decide +kernel
theorem dX12_addOne_11 : decode cX12_addOne 11 = .ok (.dup, 1) := by decide +kernel
theorem dX12_addOne_12 : decode cX12_addOne 12 = .ok (.getfield 291, 3) := by decide +kernel
theorem dX12_addOne_15 : decode cX12_addOne 15 = .ok (.iconst 1, 1) := by decide +kernel
theorem dX12_addOne_16 : decode cX12_addOne 16 = .ok (.iadd, 1) := by decide +kernel
theorem dX12_addOne_17 : decode cX12_addOne 17 = .ok (.putfield 291, 3) := by decide +kernel
theorem dX12_addOne_20 : decode cX12_addOne 20 = .ok (.return_, 1) := by decide +kernel
theorem dX12_addOther_0 : decode cX12_addOther 0 = .ok (.aload_n 0, 1) := by decide +kernel
theorem dX12_addOther_1 : decode cX12_addOther 1 = .ok (.getfield 73, 3) := by decide +kernel
theorem dX12_addOther_4 : decode cX12_addOther 4 = .ok (.aload_n 0, 1) := by decide +kernel
theorem dX12_addOther_5 : decode cX12_addOther 5 = .ok (.getfield 294, 3) := by decide +kernel
theorem dX12_addOther_8 : decode cX12_addOther 8 = .ok (.iload_n 1, 1) := by decide +kernel
theorem dX12_addOther_9 : decode cX12_addOther 9 = .ok (.iastore, 1) := by decide +kernel
theorem dX12_addOther_10 : decode cX12_addOther 10 = .ok (.aload_n 0, 1) := by decide +kernel
theorem dX12_addOther_11 : decode cX12_addOther 11 = .ok (.dup, 1) := by decide +kernel
theorem dX12_addOther_12 : decode cX12_addOther 12 = .ok (.getfield 294, 3) := by decide +kernel
theorem dX12_addOther_15 : decode cX12_addOther 15 = .ok (.iconst 1, 1) := by decide +kernel
theorem dX12_addOther_16 : decode cX12_addOther 16 = .ok (.iadd, 1) := by decide +kernel
theorem dX12_addOther_17 : decode cX12_addOther 17 = .ok (.putfield 294, 3) := by decide +kernel
theorem dX12_addOther_20 : decode cX12_addOther 20 = .ok (.return_, 1) := by decide +kernel
theorem dX12_layTexts_0 : decode cX12_layTexts 0 = .ok (.aload_n 0, 1) := by decide +kernel
theorem dX12_layTexts_1 : decode cX12_layTexts 1 = .ok (.iconst 0, 1) := by decide +kernel
theorem dX12_layTexts_2 : decode cX12_layTexts 2 = .ok (.putfield 291, 3) := by decide +kernel
theorem dX12_layTexts_5 : decode cX12_layTexts 5 = .ok (.iconst 0, 1) := by decide +kernel
theorem dX12_layTexts_6 : decode cX12_layTexts 6 = .ok (.istore_n 3, 1) := by decide +kernel
theorem dX12_layTexts_7 : decode cX12_layTexts 7 = .ok (.iload_n 3, 1) := by decide +kernel
theorem dX12_layTexts_8 : decode cX12_layTexts 8 = .ok (.aload_n 0, 1) := by decide +kernel
theorem dX12_layTexts_9 : decode cX12_layTexts 9 = .ok (.getfield 43, 3) := by decide +kernel
theorem dX12_layTexts_12 : decode cX12_layTexts 12 = .ok (.iload_n 1, 1) := by decide +kernel
theorem dX12_layTexts_13 : decode cX12_layTexts 13 = .ok (.iaload, 1) := by decide +kernel
theorem dX12_layTexts_14 : decode cX12_layTexts 14 = .ok (.if_icmp .ge 65, 3) := by decide +kernel
theorem dX12_layTexts_17 : decode cX12_layTexts 17 = .ok (.iload_n 3, 1) := by decide +kernel
theorem dX12_layTexts_18 : decode cX12_layTexts 18 = .ok (.ifCond .le 9, 3) := by decide +kernel
theorem dX12_layTexts_21 : decode cX12_layTexts 21 = .ok (.aload_n 0, 1) := by decide +kernel
theorem dX12_layTexts_22 : decode cX12_layTexts 22 = .ok (.bipush 32, 2) := by decide +kernel
theorem dX12_layTexts_24 : decode cX12_layTexts 24 = .ok (.invokevirtual 297, 3) := by decide +kernel
theorem dX12_layTexts_27 : decode cX12_layTexts 27 = .ok (.iconst 0, 1) := by decide +kernel
theorem dX12_layTexts_28 : decode cX12_layTexts 28 = .ok (.istore 4, 2) := by decide +kernel
theorem dX12_layTexts_30 : decode cX12_layTexts 30 = .ok (.iload 4, 2) := by decide +kernel
theorem dX12_layTexts_32 : decode cX12_layTexts 32 = .ok (.aload_n 0, 1) := by decide +kernel
theorem dX12_layTexts_33 : decode cX12_layTexts 33 = .ok (.getfield 52, 3) := by decide +kernel
theorem dX12_layTexts_36 : decode cX12_layTexts 36 = .ok (.iconst 2, 1) := by decide +kernel
theorem dX12_layTexts_37 : decode cX12_layTexts 37 = .ok (.iload_n 1, 1) := by decide +kernel
theorem dX12_layTexts_38 : decode cX12_layTexts 38 = .ok (.imul, 1) := by decide +kernel
theorem dX12_layTexts_39 : decode cX12_layTexts 39 = .ok (.iload_n 3, 1) := by decide +kernel
theorem dX12_layTexts_40 : decode cX12_layTexts 40 = .ok (.iadd, 1) := by decide +kernel
theorem dX12_layTexts_41 : decode cX12_layTexts 41 = .ok (.iaload, 1) := by decide +kernel
theorem dX12_layTexts_42 : decode cX12_layTexts 42 = .ok (.if_icmp .ge 31, 3) := by decide +kernel
theorem dX12_layTexts_45 : decode cX12_layTexts 45 = .ok (.aload_n 0, 1) := by decide +kernel
theorem dX12_layTexts_46 : decode cX12_layTexts 46 = .ok (.aload_n 0, 1) := by decide +kernel
theorem dX12_layTexts_47 : decode cX12_layTexts 47 = .ok (.iload_n 1, 1) := by decide +kernel
theorem dX12_layTexts_48 : decode cX12_layTexts 48 = .ok (.aload_n 0, 1) := by decide +kernel
theorem dX12_layTexts_49 : decode cX12_layTexts 49 = .ok (.getfield 49, 3) := by decide +kernel
theorem dX12_layTexts_52 : decode cX12_layTexts 52 = .ok (.iconst 2, 1) := by decide +kernel
theorem dX12_layTexts_53 : decode cX12_layTexts 53 = .ok (.iload_n 1, 1) := by decide +kernel
theorem dX12_layTexts_54 : decode cX12_layTexts 54 = .ok (.imul, 1) := by decide +kernel
theorem dX12_layTexts_55 : decode cX12_layTexts 55 = .ok (.iload_n 3, 1) := by decide +kernel
theorem dX12_layTexts_56 : decode cX12_layTexts 56 = .ok (.iadd, 1) := by decide +kernel
theorem dX12_layTexts_57 : decode cX12_layTexts 57 = .ok (.iaload, 1) := by decide +kernel
theorem dX12_layTexts_58 : decode cX12_layTexts 58 = .ok (.iload 4, 2) := by decide +kernel
theorem dX12_layTexts_60 : decode cX12_layTexts 60 = .ok (.iadd, 1) := by decide +kernel
theorem dX12_layTexts_61 : decode cX12_layTexts 61 = .ok (.invokevirtual 280, 3) := by decide +kernel
theorem dX12_layTexts_64 : decode cX12_layTexts 64 = .ok (.invokevirtual 297, 3) := by decide +kernel
theorem dX12_layTexts_67 : decode cX12_layTexts 67 = .ok (.iinc 4 1, 3) := by decide +kernel
theorem dX12_layTexts_70 : decode cX12_layTexts 70 = .ok (.goto (-40), 3) := by decide +kernel
theorem dX12_layTexts_73 : decode cX12_layTexts 73 = .ok (.iinc 3 1, 3) := by decide +kernel
theorem dX12_layTexts_76 : decode cX12_layTexts 76 = .ok (.goto (-69), 3) := by decide +kernel
theorem dX12_layTexts_79 : decode cX12_layTexts 79 = .ok (.aload_n 0, 1) := by decide +kernel
theorem dX12_layTexts_80 : decode cX12_layTexts 80 = .ok (.iconst 0, 1) := by decide +kernel
theorem dX12_layTexts_81 : decode cX12_layTexts 81 = .ok (.putfield 294, 3) := by decide +kernel
theorem dX12_layTexts_84 : decode cX12_layTexts 84 = .ok (.iconst 0, 1) := by decide +kernel
theorem dX12_layTexts_85 : decode cX12_layTexts 85 = .ok (.aload_n 0, 1) := by decide +kernel
theorem dX12_layTexts_86 : decode cX12_layTexts 86 = .ok (.getfield 46, 3) := by decide +kernel
theorem dX12_layTexts_89 : decode cX12_layTexts 89 = .ok (.iload_n 2, 1) := by decide +kernel
theorem dX12_layTexts_90 : decode cX12_layTexts 90 = .ok (.iaload, 1) := by decide +kernel
theorem dX12_layTexts_91 : decode cX12_layTexts 91 = .ok (.aload_n 0, 1) := by decide +kernel
theorem dX12_layTexts_92 : decode cX12_layTexts 92 = .ok (.getfield 43, 3) := by decide +kernel
theorem dX12_layTexts_95 : decode cX12_layTexts 95 = .ok (.iload_n 1, 1) := by decide +kernel
theorem dX12_layTexts_96 : decode cX12_layTexts 96 = .ok (.iaload, 1) := by decide +kernel
theorem dX12_layTexts_97 : decode cX12_layTexts 97 = .ok (.isub, 1) := by decide +kernel
theorem dX12_layTexts_98 : decode cX12_layTexts 98 = .ok (.invokestatic 300, 3) := by decide +kernel
theorem dX12_layTexts_101 : decode cX12_layTexts 101 = .ok (.istore_n 3, 1) := by decide +kernel
theorem dX12_layTexts_102 : decode cX12_layTexts 102 = .ok (.iload_n 3, 1) := by decide +kernel
theorem dX12_layTexts_103 : decode cX12_layTexts 103 = .ok (.istore 4, 2) := by decide +kernel
theorem dX12_layTexts_105 : decode cX12_layTexts 105 = .ok (.iload 4, 2) := by decide +kernel
theorem dX12_layTexts_107 : decode cX12_layTexts 107 = .ok (.aload_n 0, 1) := by decide +kernel
theorem dX12_layTexts_108 : decode cX12_layTexts 108 = .ok (.getfield 46, 3) := by decide +kernel
theorem dX12_layTexts_111 : decode cX12_layTexts 111 = .ok (.iload_n 2, 1) := by decide +kernel
theorem dX12_layTexts_112 : decode cX12_layTexts 112 = .ok (.iaload, 1) := by decide +kernel
theorem dX12_layTexts_113 : decode cX12_layTexts 113 = .ok (.if_icmp .ge 71, 3) := by decide +kernel
theorem dX12_layTexts_116 : decode cX12_layTexts 116 = .ok (.iload 4, 2) := by decide +kernel
theorem dX12_layTexts_118 : decode cX12_layTexts 118 = .ok (.iload_n 3, 1) := by decide +kernel
theorem dX12_layTexts_119 : decode cX12_layTexts 119 = .ok (.if_icmp .le 9, 3) := by decide +kernel
theorem dX12_layTexts_122 : decode cX12_layTexts 122 = .ok (.aload_n 0, 1) := by decide +kernel
theorem dX12_layTexts_123 : decode cX12_layTexts 123 = .ok (.bipush 32, 2) := by decide +kernel
theorem dX12_layTexts_125 : decode cX12_layTexts 125 = .ok (.invokevirtual 302, 3) := by decide +kernel
theorem dX12_layTexts_128 : decode cX12_layTexts 128 = .ok (.iconst 0, 1) := by decide +kernel
theorem dX12_layTexts_129 : decode cX12_layTexts 129 = .ok (.istore 5, 2) := by decide +kernel
theorem dX12_layTexts_131 : decode cX12_layTexts 131 = .ok (.iload 5, 2) := by decide +kernel
theorem dX12_layTexts_133 : decode cX12_layTexts 133 = .ok (.aload_n 0, 1) := by decide +kernel
theorem dX12_layTexts_134 : decode cX12_layTexts 134 = .ok (.getfield 58, 3) := by decide +kernel
theorem dX12_layTexts_137 : decode cX12_layTexts 137 = .ok (.bipush 12, 2) := by decide +kernel
theorem dX12_layTexts_139 : decode cX12_layTexts 139 = .ok (.iload_n 2, 1) := by decide +kernel
theorem dX12_layTexts_140 : decode cX12_layTexts 140 = .ok (.imul, 1) := by decide +kernel
theorem dX12_layTexts_141 : decode cX12_layTexts 141 = .ok (.iload 4, 2) := by decide +kernel
theorem dX12_layTexts_143 : decode cX12_layTexts 143 = .ok (.iadd, 1) := by decide +kernel
theorem dX12_layTexts_144 : decode cX12_layTexts 144 = .ok (.iaload, 1) := by decide +kernel
theorem dX12_layTexts_145 : decode cX12_layTexts 145 = .ok (.if_icmp .ge 33, 3) := by decide +kernel
theorem dX12_layTexts_148 : decode cX12_layTexts 148 = .ok (.aload_n 0, 1) := by decide +kernel
theorem dX12_layTexts_149 : decode cX12_layTexts 149 = .ok (.aload_n 0, 1) := by decide +kernel
theorem dX12_layTexts_150 : decode cX12_layTexts 150 = .ok (.iload_n 2, 1) := by decide +kernel
theorem dX12_layTexts_151 : decode cX12_layTexts 151 = .ok (.aload_n 0, 1) := by decide +kernel
theorem dX12_layTexts_152 : decode cX12_layTexts 152 = .ok (.getfield 55, 3) := by decide +kernel
theorem dX12_layTexts_155 : decode cX12_layTexts 155 = .ok (.bipush 12, 2) := by decide +kernel
theorem dX12_layTexts_157 : decode cX12_layTexts 157 = .ok (.iload_n 2, 1) := by decide +kernel
theorem dX12_layTexts_158 : decode cX12_layTexts 158 = .ok (.imul, 1) := by decide +kernel
theorem dX12_layTexts_159 : decode cX12_layTexts 159 = .ok (.iload 4, 2) := by decide +kernel
theorem dX12_layTexts_161 : decode cX12_layTexts 161 = .ok (.iadd, 1) := by decide +kernel
theorem dX12_layTexts_162 : decode cX12_layTexts 162 = .ok (.iaload, 1) := by decide +kernel
theorem dX12_layTexts_163 : decode cX12_layTexts 163 = .ok (.iload 5, 2) := by decide +kernel
theorem dX12_layTexts_165 : decode cX12_layTexts 165 = .ok (.iadd, 1) := by decide +kernel
theorem dX12_layTexts_166 : decode cX12_layTexts 166 = .ok (.invokevirtual 280, 3) := by decide +kernel
theorem dX12_layTexts_169 : decode cX12_layTexts 169 = .ok (.invokevirtual 302, 3) := by decide +kernel
theorem dX12_layTexts_172 : decode cX12_layTexts 172 = .ok (.iinc 5 1, 3) := by decide +kernel
theorem dX12_layTexts_175 : decode cX12_layTexts 175 = .ok (.goto (-44), 3) := by decide +kernel
theorem dX12_layTexts_178 : decode cX12_layTexts 178 = .ok (.iinc 4 1, 3) := by decide +kernel
theorem dX12_layTexts_181 : decode cX12_layTexts 181 = .ok (.goto (-76), 3) := by decide +kernel
theorem dX12_layTexts_184 : decode cX12_layTexts 184 = .ok (.return_, 1) := by decide +kernel
theorem dX12_farOf_0 : decode cX12_farOf 0 = .ok (.aload_n 0, 1) := by decide +kernel
theorem dX12_farOf_1 : decode cX12_farOf 1 = .ok (.iload_n 1, 1) := by decide +kernel
theorem dX12_farOf_2 : decode cX12_farOf 2 = .ok (.iload_n 2, 1) := by decide +kernel
theorem dX12_farOf_3 : decode cX12_farOf 3 = .ok (.invokevirtual 305, 3) := by decide +kernel
theorem dX12_farOf_6 : decode cX12_farOf 6 = .ok (.iconst 0, 1) := by decide +kernel
theorem dX12_farOf_7 : decode cX12_farOf 7 = .ok (.istore_n 3, 1) := by decide +kernel
theorem dX12_farOf_8 : decode cX12_farOf 8 = .ok (.iload_n 3, 1) := by decide +kernel
theorem dX12_farOf_9 : decode cX12_farOf 9 = .ok (.aload_n 0, 1) := by decide +kernel
theorem dX12_farOf_10 : decode cX12_farOf 10 = .ok (.getfield 291, 3) := by decide +kernel
theorem dX12_farOf_13 : decode cX12_farOf 13 = .ok (.if_icmp .gt 146, 3) := by decide +kernel
theorem dX12_farOf_16 : decode cX12_farOf 16 = .ok (.iconst 0, 1) := by decide +kernel
theorem dX12_farOf_17 : decode cX12_farOf 17 = .ok (.istore 4, 2) := by decide +kernel
theorem dX12_farOf_19 : decode cX12_farOf 19 = .ok (.iload 4, 2) := by decide +kernel
theorem dX12_farOf_21 : decode cX12_farOf 21 = .ok (.aload_n 0, 1) := by decide +kernel
theorem dX12_farOf_22 : decode cX12_farOf 22 = .ok (.getfield 294, 3) := by decide +kernel
theorem dX12_farOf_25 : decode cX12_farOf 25 = .ok (.if_icmp .gt 128, 3) := by decide +kernel
theorem dX12_farOf_28 : decode cX12_farOf 28 = .ok (.iload_n 3, 1) := by decide +kernel
theorem dX12_farOf_29 : decode cX12_farOf 29 = .ok (.ifCond .ne 8, 3) := by decide +kernel
theorem dX12_farOf_32 : decode cX12_farOf 32 = .ok (.iload 4, 2) := by decide +kernel
theorem dX12_farOf_34 : decode cX12_farOf 34 = .ok (.goto 4, 3) := by decide +kernel
theorem dX12_farOf_37 : decode cX12_farOf 37 = .ok (.iload_n 3, 1) := by decide +kernel
theorem dX12_farOf_38 : decode cX12_farOf 38 = .ok (.istore 5, 2) := by decide +kernel
theorem dX12_farOf_40 : decode cX12_farOf 40 = .ok (.iload_n 3, 1) := by decide +kernel
theorem dX12_farOf_41 : decode cX12_farOf 41 = .ok (.ifCond .le 92, 3) := by decide +kernel
theorem dX12_farOf_44 : decode cX12_farOf 44 = .ok (.iload 4, 2) := by decide +kernel
theorem dX12_farOf_46 : decode cX12_farOf 46 = .ok (.ifCond .le 87, 3) := by decide +kernel
theorem dX12_farOf_49 : decode cX12_farOf 49 = .ok (.aload_n 0, 1) := by decide +kernel
theorem dX12_farOf_50 : decode cX12_farOf 50 = .ok (.getfield 76, 3) := by decide +kernel
theorem dX12_farOf_53 : decode cX12_farOf 53 = .ok (.bipush 21, 2) := by decide +kernel
theorem dX12_farOf_55 : decode cX12_farOf 55 = .ok (.iload_n 3, 1) := by decide +kernel
theorem dX12_farOf_56 : decode cX12_farOf 56 = .ok (.iconst 1, 1) := by decide +kernel
theorem dX12_farOf_57 : decode cX12_farOf 57 = .ok (.isub, 1) := by decide +kernel
theorem dX12_farOf_58 : decode cX12_farOf 58 = .ok (.imul, 1) := by decide +kernel
theorem dX12_farOf_59 : decode cX12_farOf 59 = .ok (.iload 4, 2) := by decide +kernel
theorem dX12_farOf_61 : decode cX12_farOf 61 = .ok (.iadd, 1) := by decide +kernel
theorem dX12_farOf_62 : decode cX12_farOf 62 = .ok (.iconst 1, 1) := by decide +kernel
theorem dX12_farOf_63 : decode cX12_farOf 63 = .ok (.isub, 1) := by decide +kernel
theorem dX12_farOf_64 : decode cX12_farOf 64 = .ok (.iaload, 1) := by decide +kernel
theorem dX12_farOf_65 : decode cX12_farOf 65 = .ok (.aload_n 0, 1) := by decide +kernel
theorem dX12_farOf_66 : decode cX12_farOf 66 = .ok (.getfield 70, 3) := by decide +kernel
theorem dX12_farOf_69 : decode cX12_farOf 69 = .ok (.iload_n 3, 1) := by decide +kernel
theorem dX12_farOf_70 : decode cX12_farOf 70 = .ok (.iconst 1, 1) := by decide +kernel
theorem dX12_farOf_71 : decode cX12_farOf 71 = .ok (.isub, 1) := by decide +kernel
theorem dX12_farOf_72 : decode cX12_farOf 72 = .ok (.iaload, 1) := by decide +kernel
theorem dX12_farOf_73 : decode cX12_farOf 73 = .ok (.aload_n 0, 1) := by decide +kernel
theorem dX12_farOf_74 : decode cX12_farOf 74 = .ok (.getfield 73, 3) := by decide +kernel
theorem dX12_farOf_77 : decode cX12_farOf 77 = .ok (.iload 4, 2) := by decide +kernel
theorem dX12_farOf_79 : decode cX12_farOf 79 = .ok (.iconst 1, 1) := by decide +kernel
theorem dX12_farOf_80 : decode cX12_farOf 80 = .ok (.isub, 1) := by decide +kernel
theorem dX12_farOf_81 : decode cX12_farOf 81 = .ok (.iaload, 1) := by decide +kernel
theorem dX12_farOf_82 : decode cX12_farOf 82 = .ok (.if_icmp .ne 7, 3) := by decide +kernel
theorem dX12_farOf_85 : decode cX12_farOf 85 = .ok (.iconst 0, 1) := by decide +kernel
theorem dX12_farOf_86 : decode cX12_farOf 86 = .ok (.goto 4, 3) := by decide +kernel
theorem dX12_farOf_89 : decode cX12_farOf 89 = .ok (.iconst 1, 1) := by decide +kernel
theorem dX12_farOf_90 : decode cX12_farOf 90 = .ok (.iadd, 1) := by decide +kernel
theorem dX12_farOf_91 : decode cX12_farOf 91 = .ok (.istore 5, 2) := by decide +kernel
theorem dX12_farOf_93 : decode cX12_farOf 93 = .ok (.iload 5, 2) := by decide +kernel
theorem dX12_farOf_95 : decode cX12_farOf 95 = .ok (.iconst 1, 1) := by decide +kernel
theorem dX12_farOf_96 : decode cX12_farOf 96 = .ok (.aload_n 0, 1) := by decide +kernel
theorem dX12_farOf_97 : decode cX12_farOf 97 = .ok (.getfield 76, 3) := by decide +kernel
theorem dX12_farOf_100 : decode cX12_farOf 100 = .ok (.bipush 21, 2) := by decide +kernel
theorem dX12_farOf_102 : decode cX12_farOf 102 = .ok (.iload_n 3, 1) := by decide +kernel
theorem dX12_farOf_103 : decode cX12_farOf 103 = .ok (.iconst 1, 1) := by decide +kernel
theorem dX12_farOf_104 : decode cX12_farOf 104 = .ok (.isub, 1) := by decide +kernel
theorem dX12_farOf_105 : decode cX12_farOf 105 = .ok (.imul, 1) := by decide +kernel
theorem dX12_farOf_106 : decode cX12_farOf 106 = .ok (.iload 4, 2) := by decide +kernel
theorem dX12_farOf_108 : decode cX12_farOf 108 = .ok (.iadd, 1) := by decide +kernel
theorem dX12_farOf_109 : decode cX12_farOf 109 = .ok (.iaload, 1) := by decide +kernel
theorem dX12_farOf_110 : decode cX12_farOf 110 = .ok (.aload_n 0, 1) := by decide +kernel
theorem dX12_farOf_111 : decode cX12_farOf 111 = .ok (.getfield 76, 3) := by decide +kernel
theorem dX12_farOf_114 : decode cX12_farOf 114 = .ok (.bipush 21, 2) := by decide +kernel
theorem dX12_farOf_116 : decode cX12_farOf 116 = .ok (.iload_n 3, 1) := by decide +kernel
theorem dX12_farOf_117 : decode cX12_farOf 117 = .ok (.imul, 1) := by decide +kernel
theorem dX12_farOf_118 : decode cX12_farOf 118 = .ok (.iload 4, 2) := by decide +kernel
theorem dX12_farOf_120 : decode cX12_farOf 120 = .ok (.iadd, 1) := by decide +kernel
theorem dX12_farOf_121 : decode cX12_farOf 121 = .ok (.iconst 1, 1) := by decide +kernel
theorem dX12_farOf_122 : decode cX12_farOf 122 = .ok (.isub, 1) := by decide +kernel
theorem dX12_farOf_123 : decode cX12_farOf 123 = .ok (.iaload, 1) := by decide +kernel
theorem dX12_farOf_124 : decode cX12_farOf 124 = .ok (.invokestatic 309, 3) := by decide +kernel
theorem dX12_farOf_127 : decode cX12_farOf 127 = .ok (.iadd, 1) := by decide +kernel
theorem dX12_farOf_128 : decode cX12_farOf 128 = .ok (.invokestatic 309, 3) := by decide +kernel
theorem dX12_farOf_131 : decode cX12_farOf 131 = .ok (.istore 5, 2) := by decide +kernel
theorem dX12_farOf_133 : decode cX12_farOf 133 = .ok (.aload_n 0, 1) := by decide +kernel
theorem dX12_farOf_134 : decode cX12_farOf 134 = .ok (.getfield 76, 3) := by decide +kernel
theorem dX12_farOf_137 : decode cX12_farOf 137 = .ok (.bipush 21, 2) := by decide +kernel
theorem dX12_farOf_139 : decode cX12_farOf 139 = .ok (.iload_n 3, 1) := by decide +kernel
theorem dX12_farOf_140 : decode cX12_farOf 140 = .ok (.imul, 1) := by decide +kernel
theorem dX12_farOf_141 : decode cX12_farOf 141 = .ok (.iload 4, 2) := by decide +kernel
theorem dX12_farOf_143 : decode cX12_farOf 143 = .ok (.iadd, 1) := by decide +kernel
theorem dX12_farOf_144 : decode cX12_farOf 144 = .ok (.iload 5, 2) := by decide +kernel
theorem dX12_farOf_146 : decode cX12_farOf 146 = .ok (.iastore, 1) := by decide +kernel
theorem dX12_farOf_147 : decode cX12_farOf 147 = .ok (.iinc 4 1, 3) := by decide +kernel
theorem dX12_farOf_150 : decode cX12_farOf 150 = .ok (.goto (-131), 3) := by decide +kernel
theorem dX12_farOf_153 : decode cX12_farOf 153 = .ok (.iinc 3 1, 3) := by decide +kernel
theorem dX12_farOf_156 : decode cX12_farOf 156 = .ok (.goto (-148), 3) := by decide +kernel
theorem dX12_farOf_159 : decode cX12_farOf 159 = .ok (.aload_n 0, 1) := by decide +kernel
theorem dX12_farOf_160 : decode cX12_farOf 160 = .ok (.getfield 76, 3) := by decide +kernel
theorem dX12_farOf_163 : decode cX12_farOf 163 = .ok (.bipush 21, 2) := by decide +kernel
theorem dX12_farOf_165 : decode cX12_farOf 165 = .ok (.aload_n 0, 1) := by decide +kernel
theorem dX12_farOf_166 : decode cX12_farOf 166 = .ok (.getfield 291, 3) := by decide +kernel
theorem dX12_farOf_169 : decode cX12_farOf 169 = .ok (.imul, 1) := by decide +kernel
theorem dX12_farOf_170 : decode cX12_farOf 170 = .ok (.aload_n 0, 1) := by decide +kernel
theorem dX12_farOf_171 : decode cX12_farOf 171 = .ok (.getfield 294, 3) := by decide +kernel
theorem dX12_farOf_174 : decode cX12_farOf 174 = .ok (.iadd, 1) := by decide +kernel
theorem dX12_farOf_175 : decode cX12_farOf 175 = .ok (.iaload, 1) := by decide +kernel
theorem dX12_farOf_176 : decode cX12_farOf 176 = .ok (.ireturn, 1) := by decide +kernel
theorem dX12_far_0 : decode cX12_far 0 = .ok (.aload_n 0, 1) := by decide +kernel
theorem dX12_far_1 : decode cX12_far 1 = .ok (.iconst 0, 1) := by decide +kernel
theorem dX12_far_2 : decode cX12_far 2 = .ok (.putfield 116, 3) := by decide +kernel
theorem dX12_far_5 : decode cX12_far 5 = .ok (.aload_n 0, 1) := by decide +kernel
theorem dX12_far_6 : decode cX12_far 6 = .ok (.iload_n 1, 1) := by decide +kernel
theorem dX12_far_7 : decode cX12_far 7 = .ok (.invokevirtual 277, 3) := by decide +kernel
theorem dX12_far_10 : decode cX12_far 10 = .ok (.ifCond .eq 20, 3) := by decide +kernel
theorem dX12_far_13 : decode cX12_far 13 = .ok (.aload_n 0, 1) := by decide +kernel
theorem dX12_far_14 : decode cX12_far 14 = .ok (.iload_n 2, 1) := by decide +kernel
theorem dX12_far_15 : decode cX12_far 15 = .ok (.invokevirtual 277, 3) := by decide +kernel
theorem dX12_far_18 : decode cX12_far 18 = .ok (.ifCond .eq 12, 3) := by decide +kernel
theorem dX12_far_21 : decode cX12_far 21 = .ok (.aload_n 0, 1) := by decide +kernel
theorem dX12_far_22 : decode cX12_far 22 = .ok (.getfield 43, 3) := by decide +kernel
theorem dX12_far_25 : decode cX12_far 25 = .ok (.iload_n 1, 1) := by decide +kernel
theorem dX12_far_26 : decode cX12_far 26 = .ok (.iaload, 1) := by decide +kernel
theorem dX12_far_27 : decode cX12_far 27 = .ok (.ifCond .ne 7, 3) := by decide +kernel
theorem dX12_far_30 : decode cX12_far 30 = .ok (.iconst (-1), 1) := by decide +kernel
theorem dX12_far_31 : decode cX12_far 31 = .ok (.goto 9, 3) := by decide +kernel
theorem dX12_far_34 : decode cX12_far 34 = .ok (.aload_n 0, 1) := by decide +kernel
theorem dX12_far_35 : decode cX12_far 35 = .ok (.iload_n 1, 1) := by decide +kernel
theorem dX12_far_36 : decode cX12_far 36 = .ok (.iload_n 2, 1) := by decide +kernel
theorem dX12_far_37 : decode cX12_far 37 = .ok (.invokevirtual 311, 3) := by decide +kernel
theorem dX12_far_40 : decode cX12_far 40 = .ok (.ireturn, 1) := by decide +kernel
theorem dX12_limit_0 : decode cX12_limit 0 = .ok (.aload_n 0, 1) := by decide +kernel
theorem dX12_limit_1 : decode cX12_limit 1 = .ok (.iconst 0, 1) := by decide +kernel
theorem dX12_limit_2 : decode cX12_limit 2 = .ok (.putfield 116, 3) := by decide +kernel
theorem dX12_limit_5 : decode cX12_limit 5 = .ok (.iload_n 1, 1) := by decide +kernel
theorem dX12_limit_6 : decode cX12_limit 6 = .ok (.iconst 0, 1) := by decide +kernel
theorem dX12_limit_7 : decode cX12_limit 7 = .ok (.bipush 8, 2) := by decide +kernel
theorem dX12_limit_9 : decode cX12_limit 9 = .ok (.invokestatic 250, 3) := by decide +kernel
theorem dX12_limit_12 : decode cX12_limit 12 = .ok (.ifCond .ne 5, 3) := by decide +kernel
theorem dX12_limit_15 : decode cX12_limit 15 = .ok (.iconst 0, 1) := by decide +kernel
theorem dX12_limit_16 : decode cX12_limit 16 = .ok (.ireturn, 1) := by decide +kernel
theorem dX12_limit_17 : decode cX12_limit 17 = .ok (.aload_n 0, 1) := by decide +kernel
theorem dX12_limit_18 : decode cX12_limit 18 = .ok (.iload_n 1, 1) := by decide +kernel
theorem dX12_limit_19 : decode cX12_limit 19 = .ok (.putfield 79, 3) := by decide +kernel
theorem dX12_limit_22 : decode cX12_limit 22 = .ok (.iconst 1, 1) := by decide +kernel
theorem dX12_limit_23 : decode cX12_limit 23 = .ok (.ireturn, 1) := by decide +kernel
theorem dX12_isOfOthers_0 : decode cX12_isOfOthers 0 = .ok (.aload_n 0, 1) := by decide +kernel
theorem dX12_isOfOthers_1 : decode cX12_isOfOthers 1 = .ok (.iload_n 3, 1) := by decide +kernel
theorem dX12_isOfOthers_2 : decode cX12_isOfOthers 2 = .ok (.invokevirtual 277, 3) := by decide +kernel
theorem dX12_isOfOthers_5 : decode cX12_isOfOthers 5 = .ok (.ifCond .eq 29, 3) := by decide +kernel
theorem dX12_isOfOthers_8 : decode cX12_isOfOthers 8 = .ok (.iload_n 3, 1) := by decide +kernel
theorem dX12_isOfOthers_9 : decode cX12_isOfOthers 9 = .ok (.bipush 16, 2) := by decide +kernel
theorem dX12_isOfOthers_11 : decode cX12_isOfOthers 11 = .ok (.idiv, 1) := by decide +kernel
theorem dX12_isOfOthers_12 : decode cX12_isOfOthers 12 = .ok (.iload_n 1, 1) := by decide +kernel
theorem dX12_isOfOthers_13 : decode cX12_isOfOthers 13 = .ok (.bipush 16, 2) := by decide +kernel
theorem dX12_isOfOthers_15 : decode cX12_isOfOthers 15 = .ok (.idiv, 1) := by decide +kernel
theorem dX12_isOfOthers_16 : decode cX12_isOfOthers 16 = .ok (.if_icmp .eq 18, 3) := by decide +kernel
theorem dX12_isOfOthers_19 : decode cX12_isOfOthers 19 = .ok (.iload_n 2, 1) := by decide +kernel
theorem dX12_isOfOthers_20 : decode cX12_isOfOthers 20 = .ok (.iload_n 3, 1) := by decide +kernel
theorem dX12_isOfOthers_21 : decode cX12_isOfOthers 21 = .ok (.bipush 16, 2) := by decide +kernel
theorem dX12_isOfOthers_23 : decode cX12_isOfOthers 23 = .ok (.idiv, 1) := by decide +kernel
theorem dX12_isOfOthers_24 : decode cX12_isOfOthers 24 = .ok (.invokestatic 246, 3) := by decide +kernel
theorem dX12_isOfOthers_27 : decode cX12_isOfOthers 27 = .ok (.ifCond .eq 7, 3) := by decide +kernel
theorem dX12_isOfOthers_30 : decode cX12_isOfOthers 30 = .ok (.iconst 1, 1) := by decide +kernel
theorem dX12_isOfOthers_31 : decode cX12_isOfOthers 31 = .ok (.goto 4, 3) := by decide +kernel
theorem dX12_isOfOthers_34 : decode cX12_isOfOthers 34 = .ok (.iconst 0, 1) := by decide +kernel
theorem dX12_isOfOthers_35 : decode cX12_isOfOthers 35 = .ok (.ireturn, 1) := by decide +kernel
theorem dX12_nearestOf_0 : decode cX12_nearestOf 0 = .ok (.iconst (-1), 1) := by decide +kernel
theorem dX12_nearestOf_1 : decode cX12_nearestOf 1 = .ok (.istore_n 3, 1) := by decide +kernel
theorem dX12_nearestOf_2 : decode cX12_nearestOf 2 = .ok (.iconst 0, 1) := by decide +kernel
theorem dX12_nearestOf_3 : decode cX12_nearestOf 3 = .ok (.istore 4, 2) := by decide +kernel
theorem dX12_nearestOf_5 : decode cX12_nearestOf 5 = .ok (.iconst 0, 1) := by decide +kernel
theorem dX12_nearestOf_6 : decode cX12_nearestOf 6 = .ok (.istore 5, 2) := by decide +kernel
theorem dX12_nearestOf_8 : decode cX12_nearestOf 8 = .ok (.iload 5, 2) := by decide +kernel
theorem dX12_nearestOf_10 : decode cX12_nearestOf 10 = .ok (.sipush 128, 3) := by decide +kernel
theorem dX12_nearestOf_13 : decode cX12_nearestOf 13 = .ok (.if_icmp .ge 54, 3) := by decide +kernel
theorem dX12_nearestOf_16 : decode cX12_nearestOf 16 = .ok (.aload_n 0, 1) := by decide +kernel
theorem dX12_nearestOf_17 : decode cX12_nearestOf 17 = .ok (.iload_n 1, 1) := by decide +kernel
theorem dX12_nearestOf_18 : decode cX12_nearestOf 18 = .ok (.iload_n 2, 1) := by decide +kernel
theorem dX12_nearestOf_19 : decode cX12_nearestOf 19 = .ok (.iload 5, 2) := by decide +kernel
theorem dX12_nearestOf_21 : decode cX12_nearestOf 21 = .ok (.invokevirtual 314, 3) := by decide +kernel
theorem dX12_nearestOf_24 : decode cX12_nearestOf 24 = .ok (.ifCond .ne 6, 3) := by decide +kernel
theorem dX12_nearestOf_27 : decode cX12_nearestOf 27 = .ok (.goto 34, 3) := by decide +kernel
theorem dX12_nearestOf_30 : decode cX12_nearestOf 30 = .ok (.aload_n 0, 1) := by decide +kernel
theorem dX12_nearestOf_31 : decode cX12_nearestOf 31 = .ok (.iload_n 1, 1) := by decide +kernel
theorem dX12_nearestOf_32 : decode cX12_nearestOf 32 = .ok (.iload 5, 2) := by decide +kernel
theorem dX12_nearestOf_34 : decode cX12_nearestOf 34 = .ok (.invokevirtual 311, 3) := by decide +kernel
theorem dX12_nearestOf_37 : decode cX12_nearestOf 37 = .ok (.istore 6, 2) := by decide +kernel
theorem dX12_nearestOf_39 : decode cX12_nearestOf 39 = .ok (.iload_n 3, 1) := by decide +kernel
theorem dX12_nearestOf_40 : decode cX12_nearestOf 40 = .ok (.iconst (-1), 1) := by decide +kernel
theorem dX12_nearestOf_41 : decode cX12_nearestOf 41 = .ok (.if_icmp .eq 13, 3) := by decide +kernel
theorem dX12_nearestOf_44 : decode cX12_nearestOf 44 = .ok (.iload 6, 2) := by decide +kernel
theorem dX12_nearestOf_46 : decode cX12_nearestOf 46 = .ok (.iload 4, 2) := by decide +kernel
theorem dX12_nearestOf_48 : decode cX12_nearestOf 48 = .ok (.if_icmp .lt 6, 3) := by decide +kernel
theorem dX12_nearestOf_51 : decode cX12_nearestOf 51 = .ok (.goto 10, 3) := by decide +kernel
theorem dX12_nearestOf_54 : decode cX12_nearestOf 54 = .ok (.iload 5, 2) := by decide +kernel
theorem dX12_nearestOf_56 : decode cX12_nearestOf 56 = .ok (.istore_n 3, 1) := by decide +kernel
theorem dX12_nearestOf_57 : decode cX12_nearestOf 57 = .ok (.iload 6, 2) := by decide +kernel
theorem dX12_nearestOf_59 : decode cX12_nearestOf 59 = .ok (.istore 4, 2) := by decide +kernel
theorem dX12_nearestOf_61 : decode cX12_nearestOf 61 = .ok (.iinc 5 1, 3) := by decide +kernel
theorem dX12_nearestOf_64 : decode cX12_nearestOf 64 = .ok (.goto (-56), 3) := by decide +kernel
theorem dX12_nearestOf_67 : decode cX12_nearestOf 67 = .ok (.iload_n 3, 1) := by decide +kernel
theorem dX12_nearestOf_68 : decode cX12_nearestOf 68 = .ok (.ireturn, 1) := by decide +kernel
theorem dX12_kindOf_0 : decode cX12_kindOf 0 = .ok (.aload_n 0, 1) := by decide +kernel
theorem dX12_kindOf_1 : decode cX12_kindOf 1 = .ok (.getfield 43, 3) := by decide +kernel
theorem dX12_kindOf_4 : decode cX12_kindOf 4 = .ok (.iload_n 1, 1) := by decide +kernel
theorem dX12_kindOf_5 : decode cX12_kindOf 5 = .ok (.iaload, 1) := by decide +kernel
theorem dX12_kindOf_6 : decode cX12_kindOf 6 = .ok (.ifCond .ne 5, 3) := by decide +kernel
theorem dX12_kindOf_9 : decode cX12_kindOf 9 = .ok (.iconst 0, 1) := by decide +kernel
theorem dX12_kindOf_10 : decode cX12_kindOf 10 = .ok (.ireturn, 1) := by decide +kernel
theorem dX12_kindOf_11 : decode cX12_kindOf 11 = .ok (.iconst 0, 1) := by decide +kernel
theorem dX12_kindOf_12 : decode cX12_kindOf 12 = .ok (.istore_n 3, 1) := by decide +kernel
theorem dX12_kindOf_13 : decode cX12_kindOf 13 = .ok (.iconst 0, 1) := by decide +kernel
theorem dX12_kindOf_14 : decode cX12_kindOf 14 = .ok (.istore 4, 2) := by decide +kernel
theorem dX12_kindOf_16 : decode cX12_kindOf 16 = .ok (.iload 4, 2) := by decide +kernel
theorem dX12_kindOf_18 : decode cX12_kindOf 18 = .ok (.sipush 128, 3) := by decide +kernel
theorem dX12_kindOf_21 : decode cX12_kindOf 21 = .ok (.if_icmp .ge 38, 3) := by decide +kernel
theorem dX12_kindOf_24 : decode cX12_kindOf 24 = .ok (.iload_n 3, 1) := by decide +kernel
theorem dX12_kindOf_25 : decode cX12_kindOf 25 = .ok (.aload_n 0, 1) := by decide +kernel
theorem dX12_kindOf_26 : decode cX12_kindOf 26 = .ok (.iload_n 1, 1) := by decide +kernel
theorem dX12_kindOf_27 : decode cX12_kindOf 27 = .ok (.iload_n 2, 1) := by decide +kernel
theorem dX12_kindOf_28 : decode cX12_kindOf 28 = .ok (.iload 4, 2) := by decide +kernel
theorem dX12_kindOf_30 : decode cX12_kindOf 30 = .ok (.invokevirtual 314, 3) := by decide +kernel
theorem dX12_kindOf_33 : decode cX12_kindOf 33 = .ok (.ifCond .eq 17, 3) := by decide +kernel
theorem dX12_kindOf_36 : decode cX12_kindOf 36 = .ok (.aload_n 0, 1) := by decide +kernel
theorem dX12_kindOf_37 : decode cX12_kindOf 37 = .ok (.iload_n 1, 1) := by decide +kernel
theorem dX12_kindOf_38 : decode cX12_kindOf 38 = .ok (.iload 4, 2) := by decide +kernel
theorem dX12_kindOf_40 : decode cX12_kindOf 40 = .ok (.invokevirtual 288, 3) := by decide +kernel
theorem dX12_kindOf_43 : decode cX12_kindOf 43 = .ok (.ifCond .eq 7, 3) := by decide +kernel
theorem dX12_kindOf_46 : decode cX12_kindOf 46 = .ok (.iconst 1, 1) := by decide +kernel
theorem dX12_kindOf_47 : decode cX12_kindOf 47 = .ok (.goto 4, 3) := by decide +kernel
theorem dX12_kindOf_50 : decode cX12_kindOf 50 = .ok (.iconst 0, 1) := by decide +kernel
theorem dX12_kindOf_51 : decode cX12_kindOf 51 = .ok (.iadd, 1) := by decide +kernel
theorem dX12_kindOf_52 : decode cX12_kindOf 52 = .ok (.istore_n 3, 1) := by decide +kernel
theorem dX12_kindOf_53 : decode cX12_kindOf 53 = .ok (.iinc 4 1, 3) := by decide +kernel
theorem dX12_kindOf_56 : decode cX12_kindOf 56 = .ok (.goto (-40), 3) := by decide +kernel
theorem dX12_kindOf_59 : decode cX12_kindOf 59 = .ok (.iload_n 3, 1) := by decide +kernel
theorem dX12_kindOf_60 : decode cX12_kindOf 60 = .ok (.ifCond .le 14, 3) := by decide +kernel
theorem dX12_kindOf_63 : decode cX12_kindOf 63 = .ok (.iload_n 3, 1) := by decide +kernel
theorem dX12_kindOf_64 : decode cX12_kindOf 64 = .ok (.iconst 1, 1) := by decide +kernel
theorem dX12_kindOf_65 : decode cX12_kindOf 65 = .ok (.if_icmp .ne 7, 3) := by decide +kernel
theorem dX12_kindOf_68 : decode cX12_kindOf 68 = .ok (.iconst 1, 1) := by decide +kernel
theorem dX12_kindOf_69 : decode cX12_kindOf 69 = .ok (.goto 4, 3) := by decide +kernel
theorem dX12_kindOf_72 : decode cX12_kindOf 72 = .ok (.iconst 2, 1) := by decide +kernel
theorem dX12_kindOf_73 : decode cX12_kindOf 73 = .ok (.ireturn, 1) := by decide +kernel
theorem dX12_kindOf_74 : decode cX12_kindOf 74 = .ok (.iload_n 1, 1) := by decide +kernel
theorem dX12_kindOf_75 : decode cX12_kindOf 75 = .ok (.bipush 16, 2) := by decide +kernel
theorem dX12_kindOf_77 : decode cX12_kindOf 77 = .ok (.idiv, 1) := by decide +kernel
theorem dX12_kindOf_78 : decode cX12_kindOf 78 = .ok (.bipush 16, 2) := by decide +kernel
theorem dX12_kindOf_80 : decode cX12_kindOf 80 = .ok (.imul, 1) := by decide +kernel
theorem dX12_kindOf_81 : decode cX12_kindOf 81 = .ok (.istore 4, 2) := by decide +kernel
theorem dX12_kindOf_83 : decode cX12_kindOf 83 = .ok (.iload 4, 2) := by decide +kernel
theorem dX12_kindOf_85 : decode cX12_kindOf 85 = .ok (.iload_n 1, 1) := by decide +kernel
theorem dX12_kindOf_86 : decode cX12_kindOf 86 = .ok (.if_icmp .ge 21, 3) := by decide +kernel
theorem dX12_kindOf_89 : decode cX12_kindOf 89 = .ok (.aload_n 0, 1) := by decide +kernel
theorem dX12_kindOf_90 : decode cX12_kindOf 90 = .ok (.iload_n 1, 1) := by decide +kernel
theorem dX12_kindOf_91 : decode cX12_kindOf 91 = .ok (.iload 4, 2) := by decide +kernel
theorem dX12_kindOf_93 : decode cX12_kindOf 93 = .ok (.invokevirtual 288, 3) := by decide +kernel
theorem dX12_kindOf_96 : decode cX12_kindOf 96 = .ok (.ifCond .eq 5, 3) := by decide +kernel
theorem dX12_kindOf_99 : decode cX12_kindOf 99 = .ok (.iconst 3, 1) := by decide +kernel
theorem dX12_kindOf_100 : decode cX12_kindOf 100 = .ok (.ireturn, 1) := by decide +kernel
theorem dX12_kindOf_101 : decode cX12_kindOf 101 = .ok (.iinc 4 1, 3) := by decide +kernel
theorem dX12_kindOf_104 : decode cX12_kindOf 104 = .ok (.goto (-21), 3) := by decide +kernel
theorem dX12_kindOf_107 : decode cX12_kindOf 107 = .ok (.aload_n 0, 1) := by decide +kernel
theorem dX12_kindOf_108 : decode cX12_kindOf 108 = .ok (.iload_n 1, 1) := by decide +kernel
theorem dX12_kindOf_109 : decode cX12_kindOf 109 = .ok (.iload_n 2, 1) := by decide +kernel
theorem dX12_kindOf_110 : decode cX12_kindOf 110 = .ok (.invokevirtual 317, 3) := by decide +kernel
theorem dX12_kindOf_113 : decode cX12_kindOf 113 = .ok (.istore 4, 2) := by decide +kernel
theorem dX12_kindOf_115 : decode cX12_kindOf 115 = .ok (.iload 4, 2) := by decide +kernel
theorem dX12_kindOf_117 : decode cX12_kindOf 117 = .ok (.iconst (-1), 1) := by decide +kernel
theorem dX12_kindOf_118 : decode cX12_kindOf 118 = .ok (.if_icmp .eq 21, 3) := by decide +kernel
theorem dX12_kindOf_121 : decode cX12_kindOf 121 = .ok (.aload_n 0, 1) := by decide +kernel
theorem dX12_kindOf_122 : decode cX12_kindOf 122 = .ok (.iload_n 1, 1) := by decide +kernel
theorem dX12_kindOf_123 : decode cX12_kindOf 123 = .ok (.iload 4, 2) := by decide +kernel
theorem dX12_kindOf_125 : decode cX12_kindOf 125 = .ok (.invokevirtual 311, 3) := by decide +kernel
theorem dX12_kindOf_128 : decode cX12_kindOf 128 = .ok (.aload_n 0, 1) := by decide +kernel
theorem dX12_kindOf_129 : decode cX12_kindOf 129 = .ok (.getfield 79, 3) := by decide +kernel
theorem dX12_kindOf_132 : decode cX12_kindOf 132 = .ok (.if_icmp .gt 7, 3) := by decide +kernel
theorem dX12_kindOf_135 : decode cX12_kindOf 135 = .ok (.iconst 4, 1) := by decide +kernel
theorem dX12_kindOf_136 : decode cX12_kindOf 136 = .ok (.goto 4, 3) := by decide +kernel
theorem dX12_kindOf_139 : decode cX12_kindOf 139 = .ok (.iconst 5, 1) := by decide +kernel
theorem dX12_kindOf_140 : decode cX12_kindOf 140 = .ok (.ireturn, 1) := by decide +kernel
theorem dX12_isOf_0 : decode cX12_isOf 0 = .ok (.aload_n 0, 1) := by decide +kernel
theorem dX12_isOf_1 : decode cX12_isOf 1 = .ok (.iload_n 1, 1) := by decide +kernel
theorem dX12_isOf_2 : decode cX12_isOf 2 = .ok (.invokevirtual 277, 3) := by decide +kernel
theorem dX12_isOf_5 : decode cX12_isOf 5 = .ok (.ifCond .eq 26, 3) := by decide +kernel
theorem dX12_isOf_8 : decode cX12_isOf 8 = .ok (.aload_n 0, 1) := by decide +kernel
theorem dX12_isOf_9 : decode cX12_isOf 9 = .ok (.iload_n 2, 1) := by decide +kernel
theorem dX12_isOf_10 : decode cX12_isOf 10 = .ok (.invokevirtual 320, 3) := by decide +kernel
theorem dX12_isOf_13 : decode cX12_isOf 13 = .ok (.ifCond .eq 18, 3) := by decide +kernel
theorem dX12_isOf_16 : decode cX12_isOf 16 = .ok (.iload_n 2, 1) := by decide +kernel
theorem dX12_isOf_17 : decode cX12_isOf 17 = .ok (.iload_n 1, 1) := by decide +kernel
theorem dX12_isOf_18 : decode cX12_isOf 18 = .ok (.bipush 16, 2) := by decide +kernel
theorem dX12_isOf_20 : decode cX12_isOf 20 = .ok (.idiv, 1) := by decide +kernel
theorem dX12_isOf_21 : decode cX12_isOf 21 = .ok (.invokestatic 246, 3) := by decide +kernel
theorem dX12_isOf_24 : decode cX12_isOf 24 = .ok (.ifCond .eq 7, 3) := by decide +kernel
theorem dX12_isOf_27 : decode cX12_isOf 27 = .ok (.iconst 1, 1) := by decide +kernel
theorem dX12_isOf_28 : decode cX12_isOf 28 = .ok (.goto 4, 3) := by decide +kernel
theorem dX12_isOf_31 : decode cX12_isOf 31 = .ok (.iconst 0, 1) := by decide +kernel
theorem dX12_isOf_32 : decode cX12_isOf 32 = .ok (.ireturn, 1) := by decide +kernel
theorem dX12_kind_0 : decode cX12_kind 0 = .ok (.aload_n 0, 1) := by decide +kernel
theorem dX12_kind_1 : decode cX12_kind 1 = .ok (.iconst 0, 1) := by decide +kernel
theorem dX12_kind_2 : decode cX12_kind 2 = .ok (.putfield 116, 3) := by decide +kernel
theorem dX12_kind_5 : decode cX12_kind 5 = .ok (.aload_n 0, 1) := by decide +kernel
theorem dX12_kind_6 : decode cX12_kind 6 = .ok (.iload_n 1, 1) := by decide +kernel
theorem dX12_kind_7 : decode cX12_kind 7 = .ok (.iload_n 2, 1) := by decide +kernel
theorem dX12_kind_8 : decode cX12_kind 8 = .ok (.invokevirtual 323, 3) := by decide +kernel
theorem dX12_kind_11 : decode cX12_kind 11 = .ok (.ifCond .eq 12, 3) := by decide +kernel
theorem dX12_kind_14 : decode cX12_kind 14 = .ok (.aload_n 0, 1) := by decide +kernel
theorem dX12_kind_15 : decode cX12_kind 15 = .ok (.iload_n 1, 1) := by decide +kernel
theorem dX12_kind_16 : decode cX12_kind 16 = .ok (.iload_n 2, 1) := by decide +kernel
theorem dX12_kind_17 : decode cX12_kind 17 = .ok (.invokevirtual 326, 3) := by decide +kernel
theorem dX12_kind_20 : decode cX12_kind 20 = .ok (.goto 4, 3) := by decide +kernel
theorem dX12_kind_23 : decode cX12_kind 23 = .ok (.iconst (-1), 1) := by decide +kernel
theorem dX12_kind_24 : decode cX12_kind 24 = .ok (.ireturn, 1) := by decide +kernel
theorem dX12_kinds_0 : decode cX12_kinds 0 = .ok (.aload_n 0, 1) := by decide +kernel
theorem dX12_kinds_1 : decode cX12_kinds 1 = .ok (.iconst 0, 1) := by decide +kernel
theorem dX12_kinds_2 : decode cX12_kinds 2 = .ok (.putfield 116, 3) := by decide +kernel
theorem dX12_kinds_5 : decode cX12_kinds 5 = .ok (.aload_n 0, 1) := by decide +kernel
theorem dX12_kinds_6 : decode cX12_kinds 6 = .ok (.iload_n 1, 1) := by decide +kernel
theorem dX12_kinds_7 : decode cX12_kinds 7 = .ok (.invokevirtual 320, 3) := by decide +kernel
theorem dX12_kinds_10 : decode cX12_kinds 10 = .ok (.ifCond .eq 12, 3) := by decide +kernel
theorem dX12_kinds_13 : decode cX12_kinds 13 = .ok (.iload_n 2, 1) := by decide +kernel
theorem dX12_kinds_14 : decode cX12_kinds 14 = .ok (.iconst 0, 1) := by decide +kernel
theorem dX12_kinds_15 : decode cX12_kinds 15 = .ok (.iconst 5, 1) := by decide +kernel
theorem dX12_kinds_16 : decode cX12_kinds 16 = .ok (.invokestatic 250, 3) := by decide +kernel
theorem dX12_kinds_19 : decode cX12_kinds 19 = .ok (.ifCond .ne 5, 3) := by decide +kernel
theorem dX12_kinds_22 : decode cX12_kinds 22 = .ok (.iconst (-1), 1) := by decide +kernel
theorem dX12_kinds_23 : decode cX12_kinds 23 = .ok (.ireturn, 1) := by decide +kernel
theorem dX12_kinds_24 : decode cX12_kinds 24 = .ok (.iconst 0, 1) := by decide +kernel
theorem dX12_kinds_25 : decode cX12_kinds 25 = .ok (.istore_n 3, 1) := by decide +kernel
theorem dX12_kinds_26 : decode cX12_kinds 26 = .ok (.iconst 0, 1) := by decide +kernel
theorem dX12_kinds_27 : decode cX12_kinds 27 = .ok (.istore 4, 2) := by decide +kernel
theorem dX12_kinds_29 : decode cX12_kinds 29 = .ok (.iload 4, 2) := by decide +kernel
theorem dX12_kinds_31 : decode cX12_kinds 31 = .ok (.sipush 128, 3) := by decide +kernel
theorem dX12_kinds_34 : decode cX12_kinds 34 = .ok (.if_icmp .ge 38, 3) := by decide +kernel
theorem dX12_kinds_37 : decode cX12_kinds 37 = .ok (.iload_n 3, 1) := by decide +kernel
theorem dX12_kinds_38 : decode cX12_kinds 38 = .ok (.aload_n 0, 1) := by decide +kernel
theorem dX12_kinds_39 : decode cX12_kinds 39 = .ok (.iload 4, 2) := by decide +kernel
theorem dX12_kinds_41 : decode cX12_kinds 41 = .ok (.iload_n 1, 1) := by decide +kernel
theorem dX12_kinds_42 : decode cX12_kinds 42 = .ok (.invokevirtual 323, 3) := by decide +kernel
theorem dX12_kinds_45 : decode cX12_kinds 45 = .ok (.ifCond .eq 18, 3) := by decide +kernel
theorem dX12_kinds_48 : decode cX12_kinds 48 = .ok (.aload_n 0, 1) := by decide +kernel
theorem dX12_kinds_49 : decode cX12_kinds 49 = .ok (.iload 4, 2) := by decide +kernel
theorem dX12_kinds_51 : decode cX12_kinds 51 = .ok (.iload_n 1, 1) := by decide +kernel
theorem dX12_kinds_52 : decode cX12_kinds 52 = .ok (.invokevirtual 326, 3) := by decide +kernel
theorem dX12_kinds_55 : decode cX12_kinds 55 = .ok (.iload_n 2, 1) := by decide +kernel
theorem dX12_kinds_56 : decode cX12_kinds 56 = .ok (.if_icmp .ne 7, 3) := by decide +kernel
theorem dX12_kinds_59 : decode cX12_kinds 59 = .ok (.iconst 1, 1) := by decide +kernel
theorem dX12_kinds_60 : decode cX12_kinds 60 = .ok (.goto 4, 3) := by decide +kernel
theorem dX12_kinds_63 : decode cX12_kinds 63 = .ok (.iconst 0, 1) := by decide +kernel
theorem dX12_kinds_64 : decode cX12_kinds 64 = .ok (.iadd, 1) := by decide +kernel
theorem dX12_kinds_65 : decode cX12_kinds 65 = .ok (.istore_n 3, 1) := by decide +kernel
theorem dX12_kinds_66 : decode cX12_kinds 66 = .ok (.iinc 4 1, 3) := by decide +kernel
theorem dX12_kinds_69 : decode cX12_kinds 69 = .ok (.goto (-40), 3) := by decide +kernel
theorem dX12_kinds_72 : decode cX12_kinds 72 = .ok (.iload_n 3, 1) := by decide +kernel
theorem dX12_kinds_73 : decode cX12_kinds 73 = .ok (.ireturn, 1) := by decide +kernel
theorem dX12_nearest_0 : decode cX12_nearest 0 = .ok (.aload_n 0, 1) := by decide +kernel
theorem dX12_nearest_1 : decode cX12_nearest 1 = .ok (.iconst 0, 1) := by decide +kernel
theorem dX12_nearest_2 : decode cX12_nearest 2 = .ok (.putfield 116, 3) := by decide +kernel
theorem dX12_nearest_5 : decode cX12_nearest 5 = .ok (.aload_n 0, 1) := by decide +kernel
theorem dX12_nearest_6 : decode cX12_nearest 6 = .ok (.iload_n 1, 1) := by decide +kernel
theorem dX12_nearest_7 : decode cX12_nearest 7 = .ok (.iload_n 2, 1) := by decide +kernel
theorem dX12_nearest_8 : decode cX12_nearest 8 = .ok (.invokevirtual 323, 3) := by decide +kernel
theorem dX12_nearest_11 : decode cX12_nearest 11 = .ok (.ifCond .eq 21, 3) := by decide +kernel
theorem dX12_nearest_14 : decode cX12_nearest 14 = .ok (.aload_n 0, 1) := by decide +kernel
theorem dX12_nearest_15 : decode cX12_nearest 15 = .ok (.getfield 43, 3) := by decide +kernel
theorem dX12_nearest_18 : decode cX12_nearest 18 = .ok (.iload_n 1, 1) := by decide +kernel
theorem dX12_nearest_19 : decode cX12_nearest 19 = .ok (.iaload, 1) := by decide +kernel
theorem dX12_nearest_20 : decode cX12_nearest 20 = .ok (.ifCond .le 12, 3) := by decide +kernel
theorem dX12_nearest_23 : decode cX12_nearest 23 = .ok (.aload_n 0, 1) := by decide +kernel
theorem dX12_nearest_24 : decode cX12_nearest 24 = .ok (.iload_n 1, 1) := by decide +kernel
theorem dX12_nearest_25 : decode cX12_nearest 25 = .ok (.iload_n 2, 1) := by decide +kernel
theorem dX12_nearest_26 : decode cX12_nearest 26 = .ok (.invokevirtual 317, 3) := by decide +kernel
theorem dX12_nearest_29 : decode cX12_nearest 29 = .ok (.goto 4, 3) := by decide +kernel
theorem dX12_nearest_32 : decode cX12_nearest 32 = .ok (.iconst (-1), 1) := by decide +kernel
theorem dX12_nearest_33 : decode cX12_nearest 33 = .ok (.ireturn, 1) := by decide +kernel
theorem dX12_sizeOf_0 : decode cX12_sizeOf 0 = .ok (.aload_n 0, 1) := by decide +kernel
theorem dX12_sizeOf_1 : decode cX12_sizeOf 1 = .ok (.getfield 329, 3) := by decide +kernel
theorem dX12_sizeOf_4 : decode cX12_sizeOf 4 = .ok (.iload_n 1, 1) := by decide +kernel
theorem dX12_sizeOf_5 : decode cX12_sizeOf 5 = .ok (.invokestatic 246, 3) := by decide +kernel
theorem dX12_sizeOf_8 : decode cX12_sizeOf 8 = .ok (.ifCond .eq 12, 3) := by decide +kernel
theorem dX12_sizeOf_11 : decode cX12_sizeOf 11 = .ok (.aload_n 0, 1) := by decide +kernel
theorem dX12_sizeOf_12 : decode cX12_sizeOf 12 = .ok (.getfield 40, 3) := by decide +kernel
theorem dX12_sizeOf_15 : decode cX12_sizeOf 15 = .ok (.iload_n 1, 1) := by decide +kernel
theorem dX12_sizeOf_16 : decode cX12_sizeOf 16 = .ok (.iaload, 1) := by decide +kernel
theorem dX12_sizeOf_17 : decode cX12_sizeOf 17 = .ok (.goto 4, 3) := by decide +kernel
theorem dX12_sizeOf_20 : decode cX12_sizeOf 20 = .ok (.iconst 0, 1) := by decide +kernel
theorem dX12_sizeOf_21 : decode cX12_sizeOf 21 = .ok (.ireturn, 1) := by decide +kernel
theorem dX12_isSmall_0 : decode cX12_isSmall 0 = .ok (.aload_n 0, 1) := by decide +kernel
theorem dX12_isSmall_1 : decode cX12_isSmall 1 = .ok (.iload_n 1, 1) := by decide +kernel
theorem dX12_isSmall_2 : decode cX12_isSmall 2 = .ok (.invokevirtual 320, 3) := by decide +kernel
theorem dX12_isSmall_5 : decode cX12_isSmall 5 = .ok (.ifCond .eq 7, 3) := by decide +kernel
theorem dX12_isSmall_8 : decode cX12_isSmall 8 = .ok (.iload_n 1, 1) := by decide +kernel
theorem dX12_isSmall_9 : decode cX12_isSmall 9 = .ok (.ifCond .ne 5, 3) := by decide +kernel
theorem dX12_isSmall_12 : decode cX12_isSmall 12 = .ok (.iconst 0, 1) := by decide +kernel
theorem dX12_isSmall_13 : decode cX12_isSmall 13 = .ok (.ireturn, 1) := by decide +kernel
theorem dX12_isSmall_14 : decode cX12_isSmall 14 = .ok (.aload_n 0, 1) := by decide +kernel
theorem dX12_isSmall_15 : decode cX12_isSmall 15 = .ok (.iload_n 1, 1) := by decide +kernel
theorem dX12_isSmall_16 : decode cX12_isSmall 16 = .ok (.putfield 329, 3) := by decide +kernel
theorem dX12_isSmall_19 : decode cX12_isSmall 19 = .ok (.iconst 1, 1) := by decide +kernel
theorem dX12_isSmall_20 : decode cX12_isSmall 20 = .ok (.istore_n 2, 1) := by decide +kernel
theorem dX12_isSmall_21 : decode cX12_isSmall 21 = .ok (.iconst 0, 1) := by decide +kernel
theorem dX12_isSmall_22 : decode cX12_isSmall 22 = .ok (.istore_n 3, 1) := by decide +kernel
theorem dX12_isSmall_23 : decode cX12_isSmall 23 = .ok (.iconst 0, 1) := by decide +kernel
theorem dX12_isSmall_24 : decode cX12_isSmall 24 = .ok (.istore 4, 2) := by decide +kernel
theorem dX12_isSmall_26 : decode cX12_isSmall 26 = .ok (.iload 4, 2) := by decide +kernel
theorem dX12_isSmall_28 : decode cX12_isSmall 28 = .ok (.bipush 8, 2) := by decide +kernel
theorem dX12_isSmall_30 : decode cX12_isSmall 30 = .ok (.if_icmp .ge 61, 3) := by decide +kernel
theorem dX12_isSmall_33 : decode cX12_isSmall 33 = .ok (.aload_n 0, 1) := by decide +kernel
theorem dX12_isSmall_34 : decode cX12_isSmall 34 = .ok (.getfield 83, 3) := by decide +kernel
theorem dX12_isSmall_37 : decode cX12_isSmall 37 = .ok (.iload 4, 2) := by decide +kernel
theorem dX12_isSmall_39 : decode cX12_isSmall 39 = .ok (.iload_n 2, 1) := by decide +kernel
theorem dX12_isSmall_40 : decode cX12_isSmall 40 = .ok (.iastore, 1) := by decide +kernel
theorem dX12_isSmall_41 : decode cX12_isSmall 41 = .ok (.aload_n 0, 1) := by decide +kernel
theorem dX12_isSmall_42 : decode cX12_isSmall 42 = .ok (.iload 4, 2) := by decide +kernel
theorem dX12_isSmall_44 : decode cX12_isSmall 44 = .ok (.invokevirtual 274, 3) := by decide +kernel
theorem dX12_isSmall_47 : decode cX12_isSmall 47 = .ok (.ifCond .eq 23, 3) := by decide +kernel
theorem dX12_isSmall_50 : decode cX12_isSmall 50 = .ok (.iload_n 2, 1) := by decide +kernel
theorem dX12_isSmall_51 : decode cX12_isSmall 51 = .ok (.aload_n 0, 1) := by decide +kernel
theorem dX12_isSmall_52 : decode cX12_isSmall 52 = .ok (.iload 4, 2) := by decide +kernel
theorem dX12_isSmall_54 : decode cX12_isSmall 54 = .ok (.invokevirtual 332, 3) := by decide +kernel
theorem dX12_isSmall_57 : decode cX12_isSmall 57 = .ok (.iconst 1, 1) := by decide +kernel
theorem dX12_isSmall_58 : decode cX12_isSmall 58 = .ok (.iadd, 1) := by decide +kernel
theorem dX12_isSmall_59 : decode cX12_isSmall 59 = .ok (.imul, 1) := by decide +kernel
theorem dX12_isSmall_60 : decode cX12_isSmall 60 = .ok (.istore_n 2, 1) := by decide +kernel
theorem dX12_isSmall_61 : decode cX12_isSmall 61 = .ok (.iload_n 3, 1) := by decide +kernel
theorem dX12_isSmall_62 : decode cX12_isSmall 62 = .ok (.aload_n 0, 1) := by decide +kernel
theorem dX12_isSmall_63 : decode cX12_isSmall 63 = .ok (.iload 4, 2) := by decide +kernel
theorem dX12_isSmall_65 : decode cX12_isSmall 65 = .ok (.invokevirtual 332, 3) := by decide +kernel
theorem dX12_isSmall_68 : decode cX12_isSmall 68 = .ok (.iadd, 1) := by decide +kernel
theorem dX12_isSmall_69 : decode cX12_isSmall 69 = .ok (.istore_n 3, 1) := by decide +kernel
theorem dX12_isSmall_70 : decode cX12_isSmall 70 = .ok (.iload_n 2, 1) := by decide +kernel
theorem dX12_isSmall_71 : decode cX12_isSmall 71 = .ok (.sipush 20001, 3) := by decide +kernel
theorem dX12_isSmall_74 : decode cX12_isSmall 74 = .ok (.if_icmp .ge 9, 3) := by decide +kernel
theorem dX12_isSmall_77 : decode cX12_isSmall 77 = .ok (.iload_n 3, 1) := by decide +kernel
theorem dX12_isSmall_78 : decode cX12_isSmall 78 = .ok (.bipush 20, 2) := by decide +kernel
theorem dX12_isSmall_80 : decode cX12_isSmall 80 = .ok (.if_icmp .le 5, 3) := by decide +kernel
theorem dX12_isSmall_83 : decode cX12_isSmall 83 = .ok (.iconst 0, 1) := by decide +kernel
theorem dX12_isSmall_84 : decode cX12_isSmall 84 = .ok (.ireturn, 1) := by decide +kernel
theorem dX12_isSmall_85 : decode cX12_isSmall 85 = .ok (.iinc 4 1, 3) := by decide +kernel
theorem dX12_isSmall_88 : decode cX12_isSmall 88 = .ok (.goto (-62), 3) := by decide +kernel
theorem dX12_isSmall_91 : decode cX12_isSmall 91 = .ok (.aload_n 0, 1) := by decide +kernel
theorem dX12_isSmall_92 : decode cX12_isSmall 92 = .ok (.iload_n 2, 1) := by decide +kernel
theorem dX12_isSmall_93 : decode cX12_isSmall 93 = .ok (.putfield 335, 3) := by decide +kernel
theorem dX12_isSmall_96 : decode cX12_isSmall 96 = .ok (.iconst 1, 1) := by decide +kernel
theorem dX12_isSmall_97 : decode cX12_isSmall 97 = .ok (.ireturn, 1) := by decide +kernel
theorem dX12_saidOf_0 : decode cX12_saidOf 0 = .ok (.iload_n 1, 1) := by decide +kernel
theorem dX12_saidOf_1 : decode cX12_saidOf 1 = .ok (.aload_n 0, 1) := by decide +kernel
theorem dX12_saidOf_2 : decode cX12_saidOf 2 = .ok (.getfield 83, 3) := by decide +kernel
theorem dX12_saidOf_5 : decode cX12_saidOf 5 = .ok (.iload_n 2, 1) := by decide +kernel
theorem dX12_saidOf_6 : decode cX12_saidOf 6 = .ok (.iaload, 1) := by decide +kernel
theorem dX12_saidOf_7 : decode cX12_saidOf 7 = .ok (.idiv, 1) := by decide +kernel
theorem dX12_saidOf_8 : decode cX12_saidOf 8 = .ok (.aload_n 0, 1) := by decide +kernel
theorem dX12_saidOf_9 : decode cX12_saidOf 9 = .ok (.iload_n 2, 1) := by decide +kernel
theorem dX12_saidOf_10 : decode cX12_saidOf 10 = .ok (.invokevirtual 332, 3) := by decide +kernel
theorem dX12_saidOf_13 : decode cX12_saidOf 13 = .ok (.iconst 1, 1) := by decide +kernel
theorem dX12_saidOf_14 : decode cX12_saidOf 14 = .ok (.iadd, 1) := by decide +kernel
theorem dX12_saidOf_15 : decode cX12_saidOf 15 = .ok (.irem, 1) := by decide +kernel
theorem dX12_saidOf_16 : decode cX12_saidOf 16 = .ok (.ireturn, 1) := by decide +kernel
theorem dX12_gapOf_0 : decode cX12_gapOf 0 = .ok (.bipush 16, 2) := by decide +kernel
theorem dX12_gapOf_2 : decode cX12_gapOf 2 = .ok (.iload_n 3, 1) := by decide +kernel
theorem dX12_gapOf_3 : decode cX12_gapOf 3 = .ok (.imul, 1) := by decide +kernel
theorem dX12_gapOf_4 : decode cX12_gapOf 4 = .ok (.aload_n 0, 1) := by decide +kernel
theorem dX12_gapOf_5 : decode cX12_gapOf 5 = .ok (.iload_n 1, 1) := by decide +kernel
theorem dX12_gapOf_6 : decode cX12_gapOf 6 = .ok (.iload_n 3, 1) := by decide +kernel
theorem dX12_gapOf_7 : decode cX12_gapOf 7 = .ok (.invokevirtual 338, 3) := by decide +kernel
theorem dX12_gapOf_10 : decode cX12_gapOf 10 = .ok (.iadd, 1) := by decide +kernel
theorem dX12_gapOf_11 : decode cX12_gapOf 11 = .ok (.istore 4, 2) := by decide +kernel
theorem dX12_gapOf_13 : decode cX12_gapOf 13 = .ok (.iload_n 2, 1) := by decide +kernel
theorem dX12_gapOf_14 : decode cX12_gapOf 14 = .ok (.ifCond .ne 19, 3) := by decide +kernel
theorem dX12_gapOf_17 : decode cX12_gapOf 17 = .ok (.aload_n 0, 1) := by decide +kernel
theorem dX12_gapOf_18 : decode cX12_gapOf 18 = .ok (.getfield 43, 3) := by decide +kernel
theorem dX12_gapOf_21 : decode cX12_gapOf 21 = .ok (.iload 4, 2) := by decide +kernel
theorem dX12_gapOf_23 : decode cX12_gapOf 23 = .ok (.iaload, 1) := by decide +kernel
theorem dX12_gapOf_24 : decode cX12_gapOf 24 = .ok (.ifCond .ne 7, 3) := by decide +kernel
theorem dX12_gapOf_27 : decode cX12_gapOf 27 = .ok (.iconst 0, 1) := by decide +kernel
theorem dX12_gapOf_28 : decode cX12_gapOf 28 = .ok (.goto 4, 3) := by decide +kernel
theorem dX12_gapOf_31 : decode cX12_gapOf 31 = .ok (.iconst 1, 1) := by decide +kernel
theorem dX12_gapOf_32 : decode cX12_gapOf 32 = .ok (.ireturn, 1) := by decide +kernel
theorem dX12_gapOf_33 : decode cX12_gapOf 33 = .ok (.iload_n 2, 1) := by decide +kernel
theorem dX12_gapOf_34 : decode cX12_gapOf 34 = .ok (.iconst 1, 1) := by decide +kernel
theorem dX12_gapOf_35 : decode cX12_gapOf 35 = .ok (.isub, 1) := by decide +kernel
theorem dX12_gapOf_36 : decode cX12_gapOf 36 = .ok (.iload_n 3, 1) := by decide +kernel
theorem dX12_gapOf_37 : decode cX12_gapOf 37 = .ok (.if_icmp .eq 33, 3) := by decide +kernel
theorem dX12_gapOf_40 : decode cX12_gapOf 40 = .ok (.aload_n 0, 1) := by decide +kernel
theorem dX12_gapOf_41 : decode cX12_gapOf 41 = .ok (.iload 4, 2) := by decide +kernel
theorem dX12_gapOf_43 : decode cX12_gapOf 43 = .ok (.bipush 16, 2) := by decide +kernel
theorem dX12_gapOf_45 : decode cX12_gapOf 45 = .ok (.iload_n 2, 1) := by decide +kernel
theorem dX12_gapOf_46 : decode cX12_gapOf 46 = .ok (.iconst 1, 1) := by decide +kernel
theorem dX12_gapOf_47 : decode cX12_gapOf 47 = .ok (.isub, 1) := by decide +kernel
theorem dX12_gapOf_48 : decode cX12_gapOf 48 = .ok (.imul, 1) := by decide +kernel
theorem dX12_gapOf_49 : decode cX12_gapOf 49 = .ok (.aload_n 0, 1) := by decide +kernel
theorem dX12_gapOf_50 : decode cX12_gapOf 50 = .ok (.iload_n 1, 1) := by decide +kernel
theorem dX12_gapOf_51 : decode cX12_gapOf 51 = .ok (.iload_n 2, 1) := by decide +kernel
theorem dX12_gapOf_52 : decode cX12_gapOf 52 = .ok (.iconst 1, 1) := by decide +kernel
theorem dX12_gapOf_53 : decode cX12_gapOf 53 = .ok (.isub, 1) := by decide +kernel
theorem dX12_gapOf_54 : decode cX12_gapOf 54 = .ok (.invokevirtual 338, 3) := by decide +kernel
theorem dX12_gapOf_57 : decode cX12_gapOf 57 = .ok (.iadd, 1) := by decide +kernel
theorem dX12_gapOf_58 : decode cX12_gapOf 58 = .ok (.iconst 1, 1) := by decide +kernel
theorem dX12_gapOf_59 : decode cX12_gapOf 59 = .ok (.isub, 1) := by decide +kernel
theorem dX12_gapOf_60 : decode cX12_gapOf 60 = .ok (.invokevirtual 288, 3) := by decide +kernel
theorem dX12_gapOf_63 : decode cX12_gapOf 63 = .ok (.ifCond .eq 7, 3) := by decide +kernel
theorem dX12_gapOf_66 : decode cX12_gapOf 66 = .ok (.iconst 0, 1) := by decide +kernel
theorem dX12_gapOf_67 : decode cX12_gapOf 67 = .ok (.goto 4, 3) := by decide +kernel
theorem dX12_gapOf_70 : decode cX12_gapOf 70 = .ok (.iconst 1, 1) := by decide +kernel
theorem dX12_gapOf_71 : decode cX12_gapOf 71 = .ok (.ireturn, 1) := by decide +kernel
theorem dX12_mayGo_0 : decode cX12_mayGo 0 = .ok (.aload_n 0, 1) := by decide +kernel
theorem dX12_mayGo_1 : decode cX12_mayGo 1 = .ok (.iload_n 2, 1) := by decide +kernel
theorem dX12_mayGo_2 : decode cX12_mayGo 2 = .ok (.invokevirtual 274, 3) := by decide +kernel
theorem dX12_mayGo_5 : decode cX12_mayGo 5 = .ok (.ifCond .eq 21, 3) := by decide +kernel
theorem dX12_mayGo_8 : decode cX12_mayGo 8 = .ok (.aload_n 0, 1) := by decide +kernel
theorem dX12_mayGo_9 : decode cX12_mayGo 9 = .ok (.iload_n 1, 1) := by decide +kernel
theorem dX12_mayGo_10 : decode cX12_mayGo 10 = .ok (.iload_n 2, 1) := by decide +kernel
theorem dX12_mayGo_11 : decode cX12_mayGo 11 = .ok (.invokevirtual 338, 3) := by decide +kernel
theorem dX12_mayGo_14 : decode cX12_mayGo 14 = .ok (.aload_n 0, 1) := by decide +kernel
theorem dX12_mayGo_15 : decode cX12_mayGo 15 = .ok (.iload_n 2, 1) := by decide +kernel
theorem dX12_mayGo_16 : decode cX12_mayGo 16 = .ok (.invokevirtual 332, 3) := by decide +kernel
theorem dX12_mayGo_19 : decode cX12_mayGo 19 = .ok (.if_icmp .ge 7, 3) := by decide +kernel
theorem dX12_mayGo_22 : decode cX12_mayGo 22 = .ok (.iconst 1, 1) := by decide +kernel
theorem dX12_mayGo_23 : decode cX12_mayGo 23 = .ok (.goto 4, 3) := by decide +kernel
theorem dX12_mayGo_26 : decode cX12_mayGo 26 = .ok (.iconst 0, 1) := by decide +kernel
theorem dX12_mayGo_27 : decode cX12_mayGo 27 = .ok (.ireturn, 1) := by decide +kernel
theorem dX12_layLeft_0 : decode cX12_layLeft 0 = .ok (.aload_n 0, 1) := by decide +kernel
theorem dX12_layLeft_1 : decode cX12_layLeft 1 = .ok (.getfield 335, 3) := by decide +kernel
theorem dX12_layLeft_4 : decode cX12_layLeft 4 = .ok (.iconst 1, 1) := by decide +kernel
theorem dX12_layLeft_5 : decode cX12_layLeft 5 = .ok (.isub, 1) := by decide +kernel
theorem dX12_layLeft_6 : decode cX12_layLeft 6 = .ok (.istore_n 1, 1) := by decide +kernel
theorem dX12_layLeft_7 : decode cX12_layLeft 7 = .ok (.iload_n 1, 1) := by decide +kernel
theorem dX12_layLeft_8 : decode cX12_layLeft 8 = .ok (.ifCond .lt 232, 3) := by decide +kernel
theorem dX12_layLeft_11 : decode cX12_layLeft 11 = .ok (.iconst 0, 1) := by decide +kernel
theorem dX12_layLeft_12 : decode cX12_layLeft 12 = .ok (.istore_n 2, 1) := by decide +kernel
theorem dX12_layLeft_13 : decode cX12_layLeft 13 = .ok (.iload_n 2, 1) := by decide +kernel
theorem dX12_layLeft_14 : decode cX12_layLeft 14 = .ok (.aload_n 0, 1) := by decide +kernel
theorem dX12_layLeft_15 : decode cX12_layLeft 15 = .ok (.getfield 263, 3) := by decide +kernel
theorem dX12_layLeft_18 : decode cX12_layLeft 18 = .ok (.if_icmp .gt 216, 3) := by decide +kernel
theorem dX12_layLeft_21 : decode cX12_layLeft 21 = .ok (.bipush 9, 2) := by decide +kernel
theorem dX12_layLeft_23 : decode cX12_layLeft 23 = .ok (.iload_n 1, 1) := by decide +kernel
theorem dX12_layLeft_24 : decode cX12_layLeft 24 = .ok (.imul, 1) := by decide +kernel
theorem dX12_layLeft_25 : decode cX12_layLeft 25 = .ok (.iload_n 2, 1) := by decide +kernel
theorem dX12_layLeft_26 : decode cX12_layLeft 26 = .ok (.iadd, 1) := by decide +kernel
theorem dX12_layLeft_27 : decode cX12_layLeft 27 = .ok (.istore_n 3, 1) := by decide +kernel
theorem dX12_layLeft_28 : decode cX12_layLeft 28 = .ok (.aload_n 0, 1) := by decide +kernel
theorem dX12_layLeft_29 : decode cX12_layLeft 29 = .ok (.getfield 87, 3) := by decide +kernel
theorem dX12_layLeft_32 : decode cX12_layLeft 32 = .ok (.iload_n 3, 1) := by decide +kernel
theorem dX12_layLeft_33 : decode cX12_layLeft 33 = .ok (.iload_n 1, 1) := by decide +kernel
theorem dX12_layLeft_34 : decode cX12_layLeft 34 = .ok (.aload_n 0, 1) := by decide +kernel
theorem dX12_layLeft_35 : decode cX12_layLeft 35 = .ok (.getfield 335, 3) := by decide +kernel
theorem dX12_layLeft_38 : decode cX12_layLeft 38 = .ok (.iconst 1, 1) := by decide +kernel
theorem dX12_layLeft_39 : decode cX12_layLeft 39 = .ok (.isub, 1) := by decide +kernel
theorem dX12_layLeft_40 : decode cX12_layLeft 40 = .ok (.if_icmp .ne 7, 3) := by decide +kernel
theorem dX12_layLeft_43 : decode cX12_layLeft 43 = .ok (.iconst 0, 1) := by decide +kernel
theorem dX12_layLeft_44 : decode cX12_layLeft 44 = .ok (.goto 6, 3) := by decide +kernel
theorem dX12_layLeft_47 : decode cX12_layLeft 47 = .ok (.sipush 10000, 3) := by decide +kernel
theorem dX12_layLeft_50 : decode cX12_layLeft 50 = .ok (.iastore, 1) := by decide +kernel
theorem dX12_layLeft_51 : decode cX12_layLeft 51 = .ok (.aload_n 0, 1) := by decide +kernel
theorem dX12_layLeft_52 : decode cX12_layLeft 52 = .ok (.getfield 93, 3) := by decide +kernel
theorem dX12_layLeft_55 : decode cX12_layLeft 55 = .ok (.iload_n 3, 1) := by decide +kernel
theorem dX12_layLeft_56 : decode cX12_layLeft 56 = .ok (.iload_n 1, 1) := by decide +kernel
theorem dX12_layLeft_57 : decode cX12_layLeft 57 = .ok (.aload_n 0, 1) := by decide +kernel
theorem dX12_layLeft_58 : decode cX12_layLeft 58 = .ok (.getfield 335, 3) := by decide +kernel
theorem dX12_layLeft_61 : decode cX12_layLeft 61 = .ok (.iconst 1, 1) := by decide +kernel
theorem dX12_layLeft_62 : decode cX12_layLeft 62 = .ok (.isub, 1) := by decide +kernel
theorem dX12_layLeft_63 : decode cX12_layLeft 63 = .ok (.if_icmp .ne 7, 3) := by decide +kernel
theorem dX12_layLeft_66 : decode cX12_layLeft 66 = .ok (.lconst 1, 1) := by decide +kernel
theorem dX12_layLeft_67 : decode cX12_layLeft 67 = .ok (.goto 4, 3) := by decide +kernel
theorem dX12_layLeft_70 : decode cX12_layLeft 70 = .ok (.lconst 0, 1) := by decide +kernel
theorem dX12_layLeft_71 : decode cX12_layLeft 71 = .ok (.lastore, 1) := by decide +kernel
theorem dX12_layLeft_72 : decode cX12_layLeft 72 = .ok (.iload_n 2, 1) := by decide +kernel
theorem dX12_layLeft_73 : decode cX12_layLeft 73 = .ok (.ifCond .le 14, 3) := by decide +kernel
theorem dX12_layLeft_76 : decode cX12_layLeft 76 = .ok (.aload_n 0, 1) := by decide +kernel
theorem dX12_layLeft_77 : decode cX12_layLeft 77 = .ok (.iload_n 1, 1) := by decide +kernel
theorem dX12_layLeft_78 : decode cX12_layLeft 78 = .ok (.iload_n 2, 1) := by decide +kernel
theorem dX12_layLeft_79 : decode cX12_layLeft 79 = .ok (.iconst 1, 1) := by decide +kernel
theorem dX12_layLeft_80 : decode cX12_layLeft 80 = .ok (.isub, 1) := by decide +kernel
theorem dX12_layLeft_81 : decode cX12_layLeft 81 = .ok (.invokevirtual 338, 3) := by decide +kernel
theorem dX12_layLeft_84 : decode cX12_layLeft 84 = .ok (.ifCond .eq 144, 3) := by decide +kernel
theorem dX12_layLeft_87 : decode cX12_layLeft 87 = .ok (.iload_n 2, 1) := by decide +kernel
theorem dX12_layLeft_88 : decode cX12_layLeft 88 = .ok (.ifCond .ne 10, 3) := by decide +kernel
theorem dX12_layLeft_91 : decode cX12_layLeft 91 = .ok (.iload_n 1, 1) := by decide +kernel
theorem dX12_layLeft_92 : decode cX12_layLeft 92 = .ok (.ifCond .le 6, 3) := by decide +kernel
theorem dX12_layLeft_95 : decode cX12_layLeft 95 = .ok (.goto 133, 3) := by decide +kernel
theorem dX12_layLeft_98 : decode cX12_layLeft 98 = .ok (.iconst 0, 1) := by decide +kernel
theorem dX12_layLeft_99 : decode cX12_layLeft 99 = .ok (.istore 4, 2) := by decide +kernel
theorem dX12_layLeft_101 : decode cX12_layLeft 101 = .ok (.iload 4, 2) := by decide +kernel
theorem dX12_layLeft_103 : decode cX12_layLeft 103 = .ok (.aload_n 0, 1) := by decide +kernel
theorem dX12_layLeft_104 : decode cX12_layLeft 104 = .ok (.getfield 263, 3) := by decide +kernel
theorem dX12_layLeft_107 : decode cX12_layLeft 107 = .ok (.if_icmp .ge 121, 3) := by decide +kernel
theorem dX12_layLeft_110 : decode cX12_layLeft 110 = .ok (.aload_n 0, 1) := by decide +kernel
theorem dX12_layLeft_111 : decode cX12_layLeft 111 = .ok (.iload_n 1, 1) := by decide +kernel
theorem dX12_layLeft_112 : decode cX12_layLeft 112 = .ok (.iload 4, 2) := by decide +kernel
theorem dX12_layLeft_114 : decode cX12_layLeft 114 = .ok (.invokevirtual 341, 3) := by decide +kernel
theorem dX12_layLeft_117 : decode cX12_layLeft 117 = .ok (.ifCond .ne 6, 3) := by decide +kernel
theorem dX12_layLeft_120 : decode cX12_layLeft 120 = .ok (.goto 102, 3) := by decide +kernel
theorem dX12_layLeft_123 : decode cX12_layLeft 123 = .ok (.bipush 9, 2) := by decide +kernel
theorem dX12_layLeft_125 : decode cX12_layLeft 125 = .ok (.iload_n 1, 1) := by decide +kernel
theorem dX12_layLeft_126 : decode cX12_layLeft 126 = .ok (.aload_n 0, 1) := by decide +kernel
theorem dX12_layLeft_127 : decode cX12_layLeft 127 = .ok (.getfield 83, 3) := by decide +kernel
theorem dX12_layLeft_130 : decode cX12_layLeft 130 = .ok (.iload 4, 2) := by decide +kernel
theorem dX12_layLeft_132 : decode cX12_layLeft 132 = .ok (.iaload, 1) := by decide +kernel
theorem dX12_layLeft_133 : decode cX12_layLeft 133 = .ok (.iadd, 1) := by decide +kernel
theorem dX12_layLeft_134 : decode cX12_layLeft 134 = .ok (.imul, 1) := by decide +kernel
theorem dX12_layLeft_135 : decode cX12_layLeft 135 = .ok (.iload 4, 2) := by decide +kernel
theorem dX12_layLeft_137 : decode cX12_layLeft 137 = .ok (.iadd, 1) := by decide +kernel
theorem dX12_layLeft_138 : decode cX12_layLeft 138 = .ok (.iconst 1, 1) := by decide +kernel
theorem dX12_layLeft_139 : decode cX12_layLeft 139 = .ok (.iadd, 1) := by decide +kernel
theorem dX12_layLeft_140 : decode cX12_layLeft 140 = .ok (.istore 5, 2) := by decide +kernel
theorem dX12_layLeft_142 : decode cX12_layLeft 142 = .ok (.aload_n 0, 1) := by decide +kernel
theorem dX12_layLeft_143 : decode cX12_layLeft 143 = .ok (.getfield 87, 3) := by decide +kernel
theorem dX12_layLeft_146 : decode cX12_layLeft 146 = .ok (.iload 5, 2) := by decide +kernel
theorem dX12_layLeft_148 : decode cX12_layLeft 148 = .ok (.iaload, 1) := by decide +kernel
theorem dX12_layLeft_149 : decode cX12_layLeft 149 = .ok (.aload_n 0, 1) := by decide +kernel
theorem dX12_layLeft_150 : decode cX12_layLeft 150 = .ok (.iload_n 1, 1) := by decide +kernel
theorem dX12_layLeft_151 : decode cX12_layLeft 151 = .ok (.iload_n 2, 1) := by decide +kernel
theorem dX12_layLeft_152 : decode cX12_layLeft 152 = .ok (.iload 4, 2) := by decide +kernel
theorem dX12_layLeft_154 : decode cX12_layLeft 154 = .ok (.invokevirtual 344, 3) := by decide +kernel
theorem dX12_layLeft_157 : decode cX12_layLeft 157 = .ok (.iadd, 1) := by decide +kernel
theorem dX12_layLeft_158 : decode cX12_layLeft 158 = .ok (.istore 6, 2) := by decide +kernel
theorem dX12_layLeft_160 : decode cX12_layLeft 160 = .ok (.iload 6, 2) := by decide +kernel
theorem dX12_layLeft_162 : decode cX12_layLeft 162 = .ok (.aload_n 0, 1) := by decide +kernel
theorem dX12_layLeft_163 : decode cX12_layLeft 163 = .ok (.getfield 87, 3) := by decide +kernel
theorem dX12_layLeft_166 : decode cX12_layLeft 166 = .ok (.iload_n 3, 1) := by decide +kernel
theorem dX12_layLeft_167 : decode cX12_layLeft 167 = .ok (.iaload, 1) := by decide +kernel
theorem dX12_layLeft_168 : decode cX12_layLeft 168 = .ok (.if_icmp .ge 10, 3) := by decide +kernel
theorem dX12_layLeft_171 : decode cX12_layLeft 171 = .ok (.aload_n 0, 1) := by decide +kernel
theorem dX12_layLeft_172 : decode cX12_layLeft 172 = .ok (.getfield 93, 3) := by decide +kernel
theorem dX12_layLeft_175 : decode cX12_layLeft 175 = .ok (.iload_n 3, 1) := by decide +kernel
theorem dX12_layLeft_176 : decode cX12_layLeft 176 = .ok (.lconst 0, 1) := by decide +kernel
theorem dX12_layLeft_177 : decode cX12_layLeft 177 = .ok (.lastore, 1) := by decide +kernel
theorem dX12_layLeft_178 : decode cX12_layLeft 178 = .ok (.iload 6, 2) := by decide +kernel
theorem dX12_layLeft_180 : decode cX12_layLeft 180 = .ok (.aload_n 0, 1) := by decide +kernel
theorem dX12_layLeft_181 : decode cX12_layLeft 181 = .ok (.getfield 87, 3) := by decide +kernel
theorem dX12_layLeft_184 : decode cX12_layLeft 184 = .ok (.iload_n 3, 1) := by decide +kernel
theorem dX12_layLeft_185 : decode cX12_layLeft 185 = .ok (.iaload, 1) := by decide +kernel
theorem dX12_layLeft_186 : decode cX12_layLeft 186 = .ok (.if_icmp .gt 19, 3) := by decide +kernel
theorem dX12_layLeft_189 : decode cX12_layLeft 189 = .ok (.aload_n 0, 1) := by decide +kernel
theorem dX12_layLeft_190 : decode cX12_layLeft 190 = .ok (.getfield 93, 3) := by decide +kernel
theorem dX12_layLeft_193 : decode cX12_layLeft 193 = .ok (.iload_n 3, 1) := by decide +kernel
theorem dX12_layLeft_194 : decode cX12_layLeft 194 = .ok (.dup2, 1) := by decide +kernel
theorem dX12_layLeft_195 : decode cX12_layLeft 195 = .ok (.laload, 1) := by decide +kernel
theorem dX12_layLeft_196 : decode cX12_layLeft 196 = .ok (.aload_n 0, 1) := by decide +kernel
theorem dX12_layLeft_197 : decode cX12_layLeft 197 = .ok (.getfield 93, 3) := by decide +kernel
theorem dX12_layLeft_200 : decode cX12_layLeft 200 = .ok (.iload 5, 2) := by decide +kernel
theorem dX12_layLeft_202 : decode cX12_layLeft 202 = .ok (.laload, 1) := by decide +kernel
theorem dX12_layLeft_203 : decode cX12_layLeft 203 = .ok (.ladd, 1) := by decide +kernel
theorem dX12_layLeft_204 : decode cX12_layLeft 204 = .ok (.lastore, 1) := by decide +kernel
theorem dX12_layLeft_205 : decode cX12_layLeft 205 = .ok (.aload_n 0, 1) := by decide +kernel
theorem dX12_layLeft_206 : decode cX12_layLeft 206 = .ok (.getfield 87, 3) := by decide +kernel
theorem dX12_layLeft_209 : decode cX12_layLeft 209 = .ok (.iload_n 3, 1) := by decide +kernel
theorem dX12_layLeft_210 : decode cX12_layLeft 210 = .ok (.aload_n 0, 1) := by decide +kernel
theorem dX12_layLeft_211 : decode cX12_layLeft 211 = .ok (.getfield 87, 3) := by decide +kernel
theorem dX12_layLeft_214 : decode cX12_layLeft 214 = .ok (.iload_n 3, 1) := by decide +kernel
theorem dX12_layLeft_215 : decode cX12_layLeft 215 = .ok (.iaload, 1) := by decide +kernel
theorem dX12_layLeft_216 : decode cX12_layLeft 216 = .ok (.iload 6, 2) := by decide +kernel
theorem dX12_layLeft_218 : decode cX12_layLeft 218 = .ok (.invokestatic 309, 3) := by decide +kernel
theorem dX12_layLeft_221 : decode cX12_layLeft 221 = .ok (.iastore, 1) := by decide +kernel
theorem dX12_layLeft_222 : decode cX12_layLeft 222 = .ok (.iinc 4 1, 3) := by decide +kernel
theorem dX12_layLeft_225 : decode cX12_layLeft 225 = .ok (.goto (-124), 3) := by decide +kernel
theorem dX12_layLeft_228 : decode cX12_layLeft 228 = .ok (.iinc 2 1, 3) := by decide +kernel
theorem dX12_layLeft_231 : decode cX12_layLeft 231 = .ok (.goto (-218), 3) := by decide +kernel
theorem dX12_layLeft_234 : decode cX12_layLeft 234 = .ok (.iinc 1 (-1), 3) := by decide +kernel
theorem dX12_layLeft_237 : decode cX12_layLeft 237 = .ok (.goto (-230), 3) := by decide +kernel
theorem dX12_layLeft_240 : decode cX12_layLeft 240 = .ok (.return_, 1) := by decide +kernel
theorem dX12_laySoFar_0 : decode cX12_laySoFar 0 = .ok (.iconst 0, 1) := by decide +kernel
theorem dX12_laySoFar_1 : decode cX12_laySoFar 1 = .ok (.istore_n 1, 1) := by decide +kernel
theorem dX12_laySoFar_2 : decode cX12_laySoFar 2 = .ok (.iload_n 1, 1) := by decide +kernel
theorem dX12_laySoFar_3 : decode cX12_laySoFar 3 = .ok (.bipush 9, 2) := by decide +kernel
theorem dX12_laySoFar_5 : decode cX12_laySoFar 5 = .ok (.aload_n 0, 1) := by decide +kernel
theorem dX12_laySoFar_6 : decode cX12_laySoFar 6 = .ok (.getfield 335, 3) := by decide +kernel
theorem dX12_laySoFar_9 : decode cX12_laySoFar 9 = .ok (.imul, 1) := by decide +kernel
theorem dX12_laySoFar_10 : decode cX12_laySoFar 10 = .ok (.if_icmp .ge 41, 3) := by decide +kernel
theorem dX12_laySoFar_13 : decode cX12_laySoFar 13 = .ok (.aload_n 0, 1) := by decide +kernel
theorem dX12_laySoFar_14 : decode cX12_laySoFar 14 = .ok (.getfield 90, 3) := by decide +kernel
theorem dX12_laySoFar_17 : decode cX12_laySoFar 17 = .ok (.iload_n 1, 1) := by decide +kernel
theorem dX12_laySoFar_18 : decode cX12_laySoFar 18 = .ok (.iload_n 1, 1) := by decide +kernel
theorem dX12_laySoFar_19 : decode cX12_laySoFar 19 = .ok (.ifCond .ne 7, 3) := by decide +kernel
theorem dX12_laySoFar_22 : decode cX12_laySoFar 22 = .ok (.iconst 0, 1) := by decide +kernel
theorem dX12_laySoFar_23 : decode cX12_laySoFar 23 = .ok (.goto 6, 3) := by decide +kernel
theorem dX12_laySoFar_26 : decode cX12_laySoFar 26 = .ok (.sipush 10000, 3) := by decide +kernel
theorem dX12_laySoFar_29 : decode cX12_laySoFar 29 = .ok (.iastore, 1) := by decide +kernel
theorem dX12_laySoFar_30 : decode cX12_laySoFar 30 = .ok (.aload_n 0, 1) := by decide +kernel
theorem dX12_laySoFar_31 : decode cX12_laySoFar 31 = .ok (.getfield 97, 3) := by decide +kernel
theorem dX12_laySoFar_34 : decode cX12_laySoFar 34 = .ok (.iload_n 1, 1) := by decide +kernel
theorem dX12_laySoFar_35 : decode cX12_laySoFar 35 = .ok (.iload_n 1, 1) := by decide +kernel
theorem dX12_laySoFar_36 : decode cX12_laySoFar 36 = .ok (.ifCond .ne 7, 3) := by decide +kernel
theorem dX12_laySoFar_39 : decode cX12_laySoFar 39 = .ok (.lconst 1, 1) := by decide +kernel
theorem dX12_laySoFar_40 : decode cX12_laySoFar 40 = .ok (.goto 4, 3) := by decide +kernel
theorem dX12_laySoFar_43 : decode cX12_laySoFar 43 = .ok (.lconst 0, 1) := by decide +kernel
theorem dX12_laySoFar_44 : decode cX12_laySoFar 44 = .ok (.lastore, 1) := by decide +kernel
theorem dX12_laySoFar_45 : decode cX12_laySoFar 45 = .ok (.iinc 1 1, 3) := by decide +kernel
theorem dX12_laySoFar_48 : decode cX12_laySoFar 48 = .ok (.goto (-46), 3) := by decide +kernel
theorem dX12_laySoFar_51 : decode cX12_laySoFar 51 = .ok (.iconst 0, 1) := by decide +kernel
theorem dX12_laySoFar_52 : decode cX12_laySoFar 52 = .ok (.istore_n 1, 1) := by decide +kernel
theorem dX12_laySoFar_53 : decode cX12_laySoFar 53 = .ok (.iload_n 1, 1) := by decide +kernel
theorem dX12_laySoFar_54 : decode cX12_laySoFar 54 = .ok (.aload_n 0, 1) := by decide +kernel
theorem dX12_laySoFar_55 : decode cX12_laySoFar 55 = .ok (.getfield 335, 3) := by decide +kernel
theorem dX12_laySoFar_58 : decode cX12_laySoFar 58 = .ok (.if_icmp .ge 180, 3) := by decide +kernel
theorem dX12_laySoFar_61 : decode cX12_laySoFar 61 = .ok (.iconst 0, 1) := by decide +kernel
theorem dX12_laySoFar_62 : decode cX12_laySoFar 62 = .ok (.istore_n 2, 1) := by decide +kernel
theorem dX12_laySoFar_63 : decode cX12_laySoFar 63 = .ok (.iload_n 2, 1) := by decide +kernel
theorem dX12_laySoFar_64 : decode cX12_laySoFar 64 = .ok (.aload_n 0, 1) := by decide +kernel
theorem dX12_laySoFar_65 : decode cX12_laySoFar 65 = .ok (.getfield 263, 3) := by decide +kernel
theorem dX12_laySoFar_68 : decode cX12_laySoFar 68 = .ok (.if_icmp .gt 164, 3) := by decide +kernel
theorem dX12_laySoFar_71 : decode cX12_laySoFar 71 = .ok (.bipush 9, 2) := by decide +kernel
theorem dX12_laySoFar_73 : decode cX12_laySoFar 73 = .ok (.iload_n 1, 1) := by decide +kernel
theorem dX12_laySoFar_74 : decode cX12_laySoFar 74 = .ok (.imul, 1) := by decide +kernel
theorem dX12_laySoFar_75 : decode cX12_laySoFar 75 = .ok (.iload_n 2, 1) := by decide +kernel
theorem dX12_laySoFar_76 : decode cX12_laySoFar 76 = .ok (.iadd, 1) := by decide +kernel
theorem dX12_laySoFar_77 : decode cX12_laySoFar 77 = .ok (.istore_n 3, 1) := by decide +kernel
theorem dX12_laySoFar_78 : decode cX12_laySoFar 78 = .ok (.aload_n 0, 1) := by decide +kernel
theorem dX12_laySoFar_79 : decode cX12_laySoFar 79 = .ok (.getfield 97, 3) := by decide +kernel
theorem dX12_laySoFar_82 : decode cX12_laySoFar 82 = .ok (.iload_n 3, 1) := by decide +kernel
theorem dX12_laySoFar_83 : decode cX12_laySoFar 83 = .ok (.laload, 1) := by decide +kernel
theorem dX12_laySoFar_84 : decode cX12_laySoFar 84 = .ok (.lconst 0, 1) := by decide +kernel
theorem dX12_laySoFar_85 : decode cX12_laySoFar 85 = .ok (.lcmp, 1) := by decide +kernel
theorem dX12_laySoFar_86 : decode cX12_laySoFar 86 = .ok (.ifCond .ne 6, 3) := by decide +kernel
theorem dX12_laySoFar_89 : decode cX12_laySoFar 89 = .ok (.goto 137, 3) := by decide +kernel
theorem dX12_laySoFar_92 : decode cX12_laySoFar 92 = .ok (.iconst 0, 1) := by decide +kernel
theorem dX12_laySoFar_93 : decode cX12_laySoFar 93 = .ok (.istore 4, 2) := by decide +kernel
theorem dX12_laySoFar_95 : decode cX12_laySoFar 95 = .ok (.iload 4, 2) := by decide +kernel
theorem dX12_laySoFar_97 : decode cX12_laySoFar 97 = .ok (.aload_n 0, 1) := by decide +kernel
theorem dX12_laySoFar_98 : decode cX12_laySoFar 98 = .ok (.getfield 263, 3) := by decide +kernel
theorem dX12_laySoFar_101 : decode cX12_laySoFar 101 = .ok (.if_icmp .ge 125, 3) := by decide +kernel
theorem dX12_laySoFar_104 : decode cX12_laySoFar 104 = .ok (.aload_n 0, 1) := by decide +kernel
theorem dX12_laySoFar_105 : decode cX12_laySoFar 105 = .ok (.iload_n 1, 1) := by decide +kernel
theorem dX12_laySoFar_106 : decode cX12_laySoFar 106 = .ok (.iload 4, 2) := by decide +kernel
theorem dX12_laySoFar_108 : decode cX12_laySoFar 108 = .ok (.invokevirtual 341, 3) := by decide +kernel
theorem dX12_laySoFar_111 : decode cX12_laySoFar 111 = .ok (.ifCond .ne 6, 3) := by decide +kernel
theorem dX12_laySoFar_114 : decode cX12_laySoFar 114 = .ok (.goto 106, 3) := by decide +kernel
theorem dX12_laySoFar_117 : decode cX12_laySoFar 117 = .ok (.bipush 9, 2) := by decide +kernel
theorem dX12_laySoFar_119 : decode cX12_laySoFar 119 = .ok (.iload_n 1, 1) := by decide +kernel
theorem dX12_laySoFar_120 : decode cX12_laySoFar 120 = .ok (.aload_n 0, 1) := by decide +kernel
theorem dX12_laySoFar_121 : decode cX12_laySoFar 121 = .ok (.getfield 83, 3) := by decide +kernel
theorem dX12_laySoFar_124 : decode cX12_laySoFar 124 = .ok (.iload 4, 2) := by decide +kernel
theorem dX12_laySoFar_126 : decode cX12_laySoFar 126 = .ok (.iaload, 1) := by decide +kernel
theorem dX12_laySoFar_127 : decode cX12_laySoFar 127 = .ok (.iadd, 1) := by decide +kernel
theorem dX12_laySoFar_128 : decode cX12_laySoFar 128 = .ok (.imul, 1) := by decide +kernel
theorem dX12_laySoFar_129 : decode cX12_laySoFar 129 = .ok (.iload 4, 2) := by decide +kernel
theorem dX12_laySoFar_131 : decode cX12_laySoFar 131 = .ok (.iadd, 1) := by decide +kernel
theorem dX12_laySoFar_132 : decode cX12_laySoFar 132 = .ok (.iconst 1, 1) := by decide +kernel
theorem dX12_laySoFar_133 : decode cX12_laySoFar 133 = .ok (.iadd, 1) := by decide +kernel
theorem dX12_laySoFar_134 : decode cX12_laySoFar 134 = .ok (.istore 5, 2) := by decide +kernel
theorem dX12_laySoFar_136 : decode cX12_laySoFar 136 = .ok (.aload_n 0, 1) := by decide +kernel
theorem dX12_laySoFar_137 : decode cX12_laySoFar 137 = .ok (.getfield 90, 3) := by decide +kernel
theorem dX12_laySoFar_140 : decode cX12_laySoFar 140 = .ok (.iload_n 3, 1) := by decide +kernel
theorem dX12_laySoFar_141 : decode cX12_laySoFar 141 = .ok (.iaload, 1) := by decide +kernel
theorem dX12_laySoFar_142 : decode cX12_laySoFar 142 = .ok (.aload_n 0, 1) := by decide +kernel
theorem dX12_laySoFar_143 : decode cX12_laySoFar 143 = .ok (.iload_n 1, 1) := by decide +kernel
theorem dX12_laySoFar_144 : decode cX12_laySoFar 144 = .ok (.iload_n 2, 1) := by decide +kernel
theorem dX12_laySoFar_145 : decode cX12_laySoFar 145 = .ok (.iload 4, 2) := by decide +kernel
theorem dX12_laySoFar_147 : decode cX12_laySoFar 147 = .ok (.invokevirtual 344, 3) := by decide +kernel
theorem dX12_laySoFar_150 : decode cX12_laySoFar 150 = .ok (.iadd, 1) := by decide +kernel
theorem dX12_laySoFar_151 : decode cX12_laySoFar 151 = .ok (.istore 6, 2) := by decide +kernel
theorem dX12_laySoFar_153 : decode cX12_laySoFar 153 = .ok (.iload 6, 2) := by decide +kernel
theorem dX12_laySoFar_155 : decode cX12_laySoFar 155 = .ok (.aload_n 0, 1) := by decide +kernel
theorem dX12_laySoFar_156 : decode cX12_laySoFar 156 = .ok (.getfield 90, 3) := by decide +kernel
theorem dX12_laySoFar_159 : decode cX12_laySoFar 159 = .ok (.iload 5, 2) := by decide +kernel
theorem dX12_laySoFar_161 : decode cX12_laySoFar 161 = .ok (.iaload, 1) := by decide +kernel
theorem dX12_laySoFar_162 : decode cX12_laySoFar 162 = .ok (.if_icmp .ge 11, 3) := by decide +kernel
theorem dX12_laySoFar_165 : decode cX12_laySoFar 165 = .ok (.aload_n 0, 1) := by decide +kernel
theorem dX12_laySoFar_166 : decode cX12_laySoFar 166 = .ok (.getfield 97, 3) := by decide +kernel
theorem dX12_laySoFar_169 : decode cX12_laySoFar 169 = .ok (.iload 5, 2) := by decide +kernel
theorem dX12_laySoFar_171 : decode cX12_laySoFar 171 = .ok (.lconst 0, 1) := by decide +kernel
theorem dX12_laySoFar_172 : decode cX12_laySoFar 172 = .ok (.lastore, 1) := by decide +kernel
theorem dX12_laySoFar_173 : decode cX12_laySoFar 173 = .ok (.iload 6, 2) := by decide +kernel
theorem dX12_laySoFar_175 : decode cX12_laySoFar 175 = .ok (.aload_n 0, 1) := by decide +kernel
theorem dX12_laySoFar_176 : decode cX12_laySoFar 176 = .ok (.getfield 90, 3) := by decide +kernel
theorem dX12_laySoFar_179 : decode cX12_laySoFar 179 = .ok (.iload 5, 2) := by decide +kernel
theorem dX12_laySoFar_181 : decode cX12_laySoFar 181 = .ok (.iaload, 1) := by decide +kernel
theorem dX12_laySoFar_182 : decode cX12_laySoFar 182 = .ok (.if_icmp .gt 19, 3) := by decide +kernel
theorem dX12_laySoFar_185 : decode cX12_laySoFar 185 = .ok (.aload_n 0, 1) := by decide +kernel
theorem dX12_laySoFar_186 : decode cX12_laySoFar 186 = .ok (.getfield 97, 3) := by decide +kernel
theorem dX12_laySoFar_189 : decode cX12_laySoFar 189 = .ok (.iload 5, 2) := by decide +kernel
theorem dX12_laySoFar_191 : decode cX12_laySoFar 191 = .ok (.dup2, 1) := by decide +kernel
theorem dX12_laySoFar_192 : decode cX12_laySoFar 192 = .ok (.laload, 1) := by decide +kernel
theorem dX12_laySoFar_193 : decode cX12_laySoFar 193 = .ok (.aload_n 0, 1) := by decide +kernel
theorem dX12_laySoFar_194 : decode cX12_laySoFar 194 = .ok (.getfield 97, 3) := by decide +kernel
theorem dX12_laySoFar_197 : decode cX12_laySoFar 197 = .ok (.iload_n 3, 1) := by decide +kernel
theorem dX12_laySoFar_198 : decode cX12_laySoFar 198 = .ok (.laload, 1) := by decide +kernel
theorem dX12_laySoFar_199 : decode cX12_laySoFar 199 = .ok (.ladd, 1) := by decide +kernel
theorem dX12_laySoFar_200 : decode cX12_laySoFar 200 = .ok (.lastore, 1) := by decide +kernel
theorem dX12_laySoFar_201 : decode cX12_laySoFar 201 = .ok (.aload_n 0, 1) := by decide +kernel
theorem dX12_laySoFar_202 : decode cX12_laySoFar 202 = .ok (.getfield 90, 3) := by decide +kernel
theorem dX12_laySoFar_205 : decode cX12_laySoFar 205 = .ok (.iload 5, 2) := by decide +kernel
theorem dX12_laySoFar_207 : decode cX12_laySoFar 207 = .ok (.aload_n 0, 1) := by decide +kernel
theorem dX12_laySoFar_208 : decode cX12_laySoFar 208 = .ok (.getfield 90, 3) := by decide +kernel
theorem dX12_laySoFar_211 : decode cX12_laySoFar 211 = .ok (.iload 5, 2) := by decide +kernel
theorem dX12_laySoFar_213 : decode cX12_laySoFar 213 = .ok (.iaload, 1) := by decide +kernel
theorem dX12_laySoFar_214 : decode cX12_laySoFar 214 = .ok (.iload 6, 2) := by decide +kernel
theorem dX12_laySoFar_216 : decode cX12_laySoFar 216 = .ok (.invokestatic 309, 3) := by decide +kernel
theorem dX12_laySoFar_219 : decode cX12_laySoFar 219 = .ok (.iastore, 1) := by decide +kernel
theorem dX12_laySoFar_220 : decode cX12_laySoFar 220 = .ok (.iinc 4 1, 3) := by decide +kernel
theorem dX12_laySoFar_223 : decode cX12_laySoFar 223 = .ok (.goto (-128), 3) := by decide +kernel
theorem dX12_laySoFar_226 : decode cX12_laySoFar 226 = .ok (.iinc 2 1, 3) := by decide +kernel
theorem dX12_laySoFar_229 : decode cX12_laySoFar 229 = .ok (.goto (-166), 3) := by decide +kernel
theorem dX12_laySoFar_232 : decode cX12_laySoFar 232 = .ok (.iinc 1 1, 3) := by decide +kernel
theorem dX12_laySoFar_235 : decode cX12_laySoFar 235 = .ok (.goto (-182), 3) := by decide +kernel
theorem dX12_laySoFar_238 : decode cX12_laySoFar 238 = .ok (.return_, 1) := by decide +kernel
theorem dX12_least_0 : decode cX12_least 0 = .ok (.aload_n 0, 1) := by decide +kernel
theorem dX12_least_1 : decode cX12_least 1 = .ok (.iconst 0, 1) := by decide +kernel
theorem dX12_least_2 : decode cX12_least 2 = .ok (.putfield 116, 3) := by decide +kernel
theorem dX12_least_5 : decode cX12_least 5 = .ok (.aload_n 0, 1) := by decide +kernel
theorem dX12_least_6 : decode cX12_least 6 = .ok (.iload_n 1, 1) := by decide +kernel
theorem dX12_least_7 : decode cX12_least 7 = .ok (.invokevirtual 348, 3) := by decide +kernel
theorem dX12_least_10 : decode cX12_least 10 = .ok (.ifCond .ne 5, 3) := by decide +kernel
theorem dX12_least_13 : decode cX12_least 13 = .ok (.iconst (-1), 1) := by decide +kernel
theorem dX12_least_14 : decode cX12_least 14 = .ok (.ireturn, 1) := by decide +kernel
theorem dX12_least_15 : decode cX12_least 15 = .ok (.aload_n 0, 1) := by decide +kernel
theorem dX12_least_16 : decode cX12_least 16 = .ok (.invokevirtual 351, 3) := by decide +kernel
theorem dX12_least_19 : decode cX12_least 19 = .ok (.aload_n 0, 1) := by decide +kernel
theorem dX12_least_20 : decode cX12_least 20 = .ok (.getfield 87, 3) := by decide +kernel
theorem dX12_least_23 : decode cX12_least 23 = .ok (.iconst 0, 1) := by decide +kernel
theorem dX12_least_24 : decode cX12_least 24 = .ok (.iaload, 1) := by decide +kernel
theorem dX12_least_25 : decode cX12_least 25 = .ok (.ireturn, 1) := by decide +kernel
theorem dX12_orders_0 : decode cX12_orders 0 = .ok (.aload_n 0, 1) := by decide +kernel
theorem dX12_orders_1 : decode cX12_orders 1 = .ok (.iconst 0, 1) := by decide +kernel
theorem dX12_orders_2 : decode cX12_orders 2 = .ok (.putfield 116, 3) := by decide +kernel
theorem dX12_orders_5 : decode cX12_orders 5 = .ok (.aload_n 0, 1) := by decide +kernel
theorem dX12_orders_6 : decode cX12_orders 6 = .ok (.iload_n 1, 1) := by decide +kernel
theorem dX12_orders_7 : decode cX12_orders 7 = .ok (.invokevirtual 348, 3) := by decide +kernel
theorem dX12_orders_10 : decode cX12_orders 10 = .ok (.ifCond .ne 7, 3) := by decide +kernel
theorem dX12_orders_13 : decode cX12_orders 13 = .ok (.ldc2_w 354, 3) := by decide +kernel
theorem dX12_orders_16 : decode cX12_orders 16 = .ok (.lreturn, 1) := by decide +kernel
theorem dX12_orders_17 : decode cX12_orders 17 = .ok (.aload_n 0, 1) := by decide +kernel
theorem dX12_orders_18 : decode cX12_orders 18 = .ok (.invokevirtual 351, 3) := by decide +kernel
theorem dX12_orders_21 : decode cX12_orders 21 = .ok (.aload_n 0, 1) := by decide +kernel
theorem dX12_orders_22 : decode cX12_orders 22 = .ok (.getfield 93, 3) := by decide +kernel
theorem dX12_orders_25 : decode cX12_orders 25 = .ok (.iconst 0, 1) := by decide +kernel
theorem dX12_orders_26 : decode cX12_orders 26 = .ok (.laload, 1) := by decide +kernel
theorem dX12_orders_27 : decode cX12_orders 27 = .ok (.lreturn, 1) := by decide +kernel
theorem dX12_first_0 : decode cX12_first 0 = .ok (.aload_n 0, 1) := by decide +kernel
theorem dX12_first_1 : decode cX12_first 1 = .ok (.iconst 0, 1) := by decide +kernel
theorem dX12_first_2 : decode cX12_first 2 = .ok (.putfield 116, 3) := by decide +kernel
theorem dX12_first_5 : decode cX12_first 5 = .ok (.aload_n 0, 1) := by decide +kernel
theorem dX12_first_6 : decode cX12_first 6 = .ok (.iload_n 1, 1) := by decide +kernel
theorem dX12_first_7 : decode cX12_first 7 = .ok (.invokevirtual 348, 3) := by decide +kernel
theorem dX12_first_10 : decode cX12_first 10 = .ok (.ifCond .eq 7, 3) := by decide +kernel
theorem dX12_first_13 : decode cX12_first 13 = .ok (.iload_n 2, 1) := by decide +kernel
theorem dX12_first_14 : decode cX12_first 14 = .ok (.ifCond .ge 5, 3) := by decide +kernel
theorem dX12_first_17 : decode cX12_first 17 = .ok (.iconst (-1), 1) := by decide +kernel
theorem dX12_first_18 : decode cX12_first 18 = .ok (.ireturn, 1) := by decide +kernel
theorem dX12_first_19 : decode cX12_first 19 = .ok (.aload_n 0, 1) := by decide +kernel
theorem dX12_first_20 : decode cX12_first 20 = .ok (.invokevirtual 351, 3) := by decide +kernel
theorem dX12_first_23 : decode cX12_first 23 = .ok (.iconst 0, 1) := by decide +kernel
theorem dX12_first_24 : decode cX12_first 24 = .ok (.istore_n 3, 1) := by decide +kernel
theorem dX12_first_25 : decode cX12_first 25 = .ok (.iconst 0, 1) := by decide +kernel
theorem dX12_first_26 : decode cX12_first 26 = .ok (.istore 4, 2) := by decide +kernel
theorem dX12_first_28 : decode cX12_first 28 = .ok (.iconst (-1), 1) := by decide +kernel
theorem dX12_first_29 : decode cX12_first 29 = .ok (.istore 5, 2) := by decide +kernel
theorem dX12_first_31 : decode cX12_first 31 = .ok (.iconst 0, 1) := by decide +kernel
theorem dX12_first_32 : decode cX12_first 32 = .ok (.istore 6, 2) := by decide +kernel
theorem dX12_first_34 : decode cX12_first 34 = .ok (.iload 6, 2) := by decide +kernel
theorem dX12_first_36 : decode cX12_first 36 = .ok (.iload_n 2, 1) := by decide +kernel
theorem dX12_first_37 : decode cX12_first 37 = .ok (.if_icmp .gt 118, 3) := by decide +kernel
theorem dX12_first_40 : decode cX12_first 40 = .ok (.iload_n 3, 1) := by decide +kernel
theorem dX12_first_41 : decode cX12_first 41 = .ok (.aload_n 0, 1) := by decide +kernel
theorem dX12_first_42 : decode cX12_first 42 = .ok (.getfield 335, 3) := by decide +kernel
theorem dX12_first_45 : decode cX12_first 45 = .ok (.iconst 1, 1) := by decide +kernel
theorem dX12_first_46 : decode cX12_first 46 = .ok (.isub, 1) := by decide +kernel
theorem dX12_first_47 : decode cX12_first 47 = .ok (.if_icmp .ne 5, 3) := by decide +kernel
theorem dX12_first_50 : decode cX12_first 50 = .ok (.iconst (-1), 1) := by decide +kernel
theorem dX12_first_51 : decode cX12_first 51 = .ok (.ireturn, 1) := by decide +kernel
theorem dX12_first_52 : decode cX12_first 52 = .ok (.iconst 0, 1) := by decide +kernel
theorem dX12_first_53 : decode cX12_first 53 = .ok (.istore 7, 2) := by decide +kernel
theorem dX12_first_55 : decode cX12_first 55 = .ok (.aload_n 0, 1) := by decide +kernel
theorem dX12_first_56 : decode cX12_first 56 = .ok (.iload_n 3, 1) := by decide +kernel
theorem dX12_first_57 : decode cX12_first 57 = .ok (.iload 7, 2) := by decide +kernel
theorem dX12_first_59 : decode cX12_first 59 = .ok (.invokevirtual 341, 3) := by decide +kernel
theorem dX12_first_62 : decode cX12_first 62 = .ok (.ifCond .eq 50, 3) := by decide +kernel
theorem dX12_first_65 : decode cX12_first 65 = .ok (.aload_n 0, 1) := by decide +kernel
theorem dX12_first_66 : decode cX12_first 66 = .ok (.getfield 87, 3) := by decide +kernel
theorem dX12_first_69 : decode cX12_first 69 = .ok (.bipush 9, 2) := by decide +kernel
theorem dX12_first_71 : decode cX12_first 71 = .ok (.iload_n 3, 1) := by decide +kernel
theorem dX12_first_72 : decode cX12_first 72 = .ok (.aload_n 0, 1) := by decide +kernel
theorem dX12_first_73 : decode cX12_first 73 = .ok (.getfield 83, 3) := by decide +kernel
theorem dX12_first_76 : decode cX12_first 76 = .ok (.iload 7, 2) := by decide +kernel
theorem dX12_first_78 : decode cX12_first 78 = .ok (.iaload, 1) := by decide +kernel
theorem dX12_first_79 : decode cX12_first 79 = .ok (.iadd, 1) := by decide +kernel
theorem dX12_first_80 : decode cX12_first 80 = .ok (.imul, 1) := by decide +kernel
theorem dX12_first_81 : decode cX12_first 81 = .ok (.iload 7, 2) := by decide +kernel
theorem dX12_first_83 : decode cX12_first 83 = .ok (.iadd, 1) := by decide +kernel
theorem dX12_first_84 : decode cX12_first 84 = .ok (.iconst 1, 1) := by decide +kernel
theorem dX12_first_85 : decode cX12_first 85 = .ok (.iadd, 1) := by decide +kernel
theorem dX12_first_86 : decode cX12_first 86 = .ok (.iaload, 1) := by decide +kernel
theorem dX12_first_87 : decode cX12_first 87 = .ok (.aload_n 0, 1) := by decide +kernel
theorem dX12_first_88 : decode cX12_first 88 = .ok (.iload_n 3, 1) := by decide +kernel
theorem dX12_first_89 : decode cX12_first 89 = .ok (.iload 4, 2) := by decide +kernel
theorem dX12_first_91 : decode cX12_first 91 = .ok (.iload 7, 2) := by decide +kernel
theorem dX12_first_93 : decode cX12_first 93 = .ok (.invokevirtual 344, 3) := by decide +kernel
theorem dX12_first_96 : decode cX12_first 96 = .ok (.iadd, 1) := by decide +kernel
theorem dX12_first_97 : decode cX12_first 97 = .ok (.aload_n 0, 1) := by decide +kernel
theorem dX12_first_98 : decode cX12_first 98 = .ok (.getfield 87, 3) := by decide +kernel
theorem dX12_first_101 : decode cX12_first 101 = .ok (.bipush 9, 2) := by decide +kernel
theorem dX12_first_103 : decode cX12_first 103 = .ok (.iload_n 3, 1) := by decide +kernel
theorem dX12_first_104 : decode cX12_first 104 = .ok (.imul, 1) := by decide +kernel
theorem dX12_first_105 : decode cX12_first 105 = .ok (.iload 4, 2) := by decide +kernel
theorem dX12_first_107 : decode cX12_first 107 = .ok (.iadd, 1) := by decide +kernel
theorem dX12_first_108 : decode cX12_first 108 = .ok (.iaload, 1) := by decide +kernel
theorem dX12_first_109 : decode cX12_first 109 = .ok (.if_icmp .eq 9, 3) := by decide +kernel
theorem dX12_first_112 : decode cX12_first 112 = .ok (.iinc 7 1, 3) := by decide +kernel
theorem dX12_first_115 : decode cX12_first 115 = .ok (.goto (-60), 3) := by decide +kernel
theorem dX12_first_118 : decode cX12_first 118 = .ok (.bipush 16, 2) := by decide +kernel
theorem dX12_first_120 : decode cX12_first 120 = .ok (.iload 7, 2) := by decide +kernel
theorem dX12_first_122 : decode cX12_first 122 = .ok (.imul, 1) := by decide +kernel
theorem dX12_first_123 : decode cX12_first 123 = .ok (.aload_n 0, 1) := by decide +kernel
theorem dX12_first_124 : decode cX12_first 124 = .ok (.iload_n 3, 1) := by decide +kernel
theorem dX12_first_125 : decode cX12_first 125 = .ok (.iload 7, 2) := by decide +kernel
theorem dX12_first_127 : decode cX12_first 127 = .ok (.invokevirtual 338, 3) := by decide +kernel
theorem dX12_first_130 : decode cX12_first 130 = .ok (.iadd, 1) := by decide +kernel
theorem dX12_first_131 : decode cX12_first 131 = .ok (.istore 5, 2) := by decide +kernel
theorem dX12_first_133 : decode cX12_first 133 = .ok (.iload_n 3, 1) := by decide +kernel
theorem dX12_first_134 : decode cX12_first 134 = .ok (.aload_n 0, 1) := by decide +kernel
theorem dX12_first_135 : decode cX12_first 135 = .ok (.getfield 83, 3) := by decide +kernel
theorem dX12_first_138 : decode cX12_first 138 = .ok (.iload 7, 2) := by decide +kernel
theorem dX12_first_140 : decode cX12_first 140 = .ok (.iaload, 1) := by decide +kernel
theorem dX12_first_141 : decode cX12_first 141 = .ok (.iadd, 1) := by decide +kernel
theorem dX12_first_142 : decode cX12_first 142 = .ok (.istore_n 3, 1) := by decide +kernel
theorem dX12_first_143 : decode cX12_first 143 = .ok (.iload 7, 2) := by decide +kernel
theorem dX12_first_145 : decode cX12_first 145 = .ok (.iconst 1, 1) := by decide +kernel
theorem dX12_first_146 : decode cX12_first 146 = .ok (.iadd, 1) := by decide +kernel
theorem dX12_first_147 : decode cX12_first 147 = .ok (.istore 4, 2) := by decide +kernel
theorem dX12_first_149 : decode cX12_first 149 = .ok (.iinc 6 1, 3) := by decide +kernel
theorem dX12_first_152 : decode cX12_first 152 = .ok (.goto (-118), 3) := by decide +kernel
theorem dX12_first_155 : decode cX12_first 155 = .ok (.iload 5, 2) := by decide +kernel
theorem dX12_first_157 : decode cX12_first 157 = .ok (.ireturn, 1) := by decide +kernel
theorem dX12_sure_0 : decode cX12_sure 0 = .ok (.aload_n 0, 1) := by decide +kernel
theorem dX12_sure_1 : decode cX12_sure 1 = .ok (.iconst 0, 1) := by decide +kernel
theorem dX12_sure_2 : decode cX12_sure 2 = .ok (.putfield 116, 3) := by decide +kernel
theorem dX12_sure_5 : decode cX12_sure 5 = .ok (.aload_n 0, 1) := by decide +kernel
theorem dX12_sure_6 : decode cX12_sure 6 = .ok (.iload_n 2, 1) := by decide +kernel
theorem dX12_sure_7 : decode cX12_sure 7 = .ok (.iload_n 1, 1) := by decide +kernel
theorem dX12_sure_8 : decode cX12_sure 8 = .ok (.invokevirtual 323, 3) := by decide +kernel
theorem dX12_sure_11 : decode cX12_sure 11 = .ok (.ifCond .eq 25, 3) := by decide +kernel
theorem dX12_sure_14 : decode cX12_sure 14 = .ok (.aload_n 0, 1) := by decide +kernel
theorem dX12_sure_15 : decode cX12_sure 15 = .ok (.iload_n 3, 1) := by decide +kernel
theorem dX12_sure_16 : decode cX12_sure 16 = .ok (.iload_n 1, 1) := by decide +kernel
theorem dX12_sure_17 : decode cX12_sure 17 = .ok (.invokevirtual 323, 3) := by decide +kernel
theorem dX12_sure_20 : decode cX12_sure 20 = .ok (.ifCond .eq 16, 3) := by decide +kernel
theorem dX12_sure_23 : decode cX12_sure 23 = .ok (.iload_n 2, 1) := by decide +kernel
theorem dX12_sure_24 : decode cX12_sure 24 = .ok (.iload_n 3, 1) := by decide +kernel
theorem dX12_sure_25 : decode cX12_sure 25 = .ok (.if_icmp .eq 11, 3) := by decide +kernel
theorem dX12_sure_28 : decode cX12_sure 28 = .ok (.aload_n 0, 1) := by decide +kernel
theorem dX12_sure_29 : decode cX12_sure 29 = .ok (.iload_n 1, 1) := by decide +kernel
theorem dX12_sure_30 : decode cX12_sure 30 = .ok (.invokevirtual 348, 3) := by decide +kernel
theorem dX12_sure_33 : decode cX12_sure 33 = .ok (.ifCond .ne 6, 3) := by decide +kernel
theorem dX12_sure_36 : decode cX12_sure 36 = .ok (.bipush (-2), 2) := by decide +kernel
theorem dX12_sure_38 : decode cX12_sure 38 = .ok (.ireturn, 1) := by decide +kernel
theorem dX12_sure_39 : decode cX12_sure 39 = .ok (.aload_n 0, 1) := by decide +kernel
theorem dX12_sure_40 : decode cX12_sure 40 = .ok (.invokevirtual 351, 3) := by decide +kernel
theorem dX12_sure_43 : decode cX12_sure 43 = .ok (.aload_n 0, 1) := by decide +kernel
theorem dX12_sure_44 : decode cX12_sure 44 = .ok (.invokevirtual 356, 3) := by decide +kernel
theorem dX12_sure_47 : decode cX12_sure 47 = .ok (.iload_n 2, 1) := by decide +kernel
theorem dX12_sure_48 : decode cX12_sure 48 = .ok (.bipush 16, 2) := by decide +kernel
theorem dX12_sure_50 : decode cX12_sure 50 = .ok (.idiv, 1) := by decide +kernel
theorem dX12_sure_51 : decode cX12_sure 51 = .ok (.istore 4, 2) := by decide +kernel
theorem dX12_sure_53 : decode cX12_sure 53 = .ok (.iload_n 3, 1) := by decide +kernel
theorem dX12_sure_54 : decode cX12_sure 54 = .ok (.bipush 16, 2) := by decide +kernel
theorem dX12_sure_56 : decode cX12_sure 56 = .ok (.idiv, 1) := by decide +kernel
theorem dX12_sure_57 : decode cX12_sure 57 = .ok (.istore 5, 2) := by decide +kernel
theorem dX12_sure_59 : decode cX12_sure 59 = .ok (.lconst 0, 1) := by decide +kernel
theorem dX12_sure_60 : decode cX12_sure 60 = .ok (.lstore 6, 2) := by decide +kernel
theorem dX12_sure_62 : decode cX12_sure 62 = .ok (.iconst 0, 1) := by decide +kernel
theorem dX12_sure_63 : decode cX12_sure 63 = .ok (.istore 8, 2) := by decide +kernel
theorem dX12_sure_65 : decode cX12_sure 65 = .ok (.iload 8, 2) := by decide +kernel
theorem dX12_sure_67 : decode cX12_sure 67 = .ok (.aload_n 0, 1) := by decide +kernel
theorem dX12_sure_68 : decode cX12_sure 68 = .ok (.getfield 335, 3) := by decide +kernel
theorem dX12_sure_71 : decode cX12_sure 71 = .ok (.if_icmp .ge 133, 3) := by decide +kernel
theorem dX12_sure_74 : decode cX12_sure 74 = .ok (.aload_n 0, 1) := by decide +kernel
theorem dX12_sure_75 : decode cX12_sure 75 = .ok (.iload 8, 2) := by decide +kernel
theorem dX12_sure_77 : decode cX12_sure 77 = .ok (.iload 4, 2) := by decide +kernel
theorem dX12_sure_79 : decode cX12_sure 79 = .ok (.invokevirtual 338, 3) := by decide +kernel
theorem dX12_sure_82 : decode cX12_sure 82 = .ok (.iload_n 2, 1) := by decide +kernel
theorem dX12_sure_83 : decode cX12_sure 83 = .ok (.bipush 16, 2) := by decide +kernel
theorem dX12_sure_85 : decode cX12_sure 85 = .ok (.irem, 1) := by decide +kernel
theorem dX12_sure_86 : decode cX12_sure 86 = .ok (.iconst 1, 1) := by decide +kernel
theorem dX12_sure_87 : decode cX12_sure 87 = .ok (.iadd, 1) := by decide +kernel
theorem dX12_sure_88 : decode cX12_sure 88 = .ok (.if_icmp .ne 110, 3) := by decide +kernel
theorem dX12_sure_91 : decode cX12_sure 91 = .ok (.aload_n 0, 1) := by decide +kernel
theorem dX12_sure_92 : decode cX12_sure 92 = .ok (.iload 8, 2) := by decide +kernel
theorem dX12_sure_94 : decode cX12_sure 94 = .ok (.iload 5, 2) := by decide +kernel
theorem dX12_sure_96 : decode cX12_sure 96 = .ok (.invokevirtual 338, 3) := by decide +kernel
theorem dX12_sure_99 : decode cX12_sure 99 = .ok (.iload_n 3, 1) := by decide +kernel
theorem dX12_sure_100 : decode cX12_sure 100 = .ok (.bipush 16, 2) := by decide +kernel
theorem dX12_sure_102 : decode cX12_sure 102 = .ok (.irem, 1) := by decide +kernel
theorem dX12_sure_103 : decode cX12_sure 103 = .ok (.if_icmp .eq 6, 3) := by decide +kernel
theorem dX12_sure_106 : decode cX12_sure 106 = .ok (.goto 92, 3) := by decide +kernel
theorem dX12_sure_109 : decode cX12_sure 109 = .ok (.bipush 9, 2) := by decide +kernel
theorem dX12_sure_111 : decode cX12_sure 111 = .ok (.iload 8, 2) := by decide +kernel
theorem dX12_sure_113 : decode cX12_sure 113 = .ok (.imul, 1) := by decide +kernel
theorem dX12_sure_114 : decode cX12_sure 114 = .ok (.iload 4, 2) := by decide +kernel
theorem dX12_sure_116 : decode cX12_sure 116 = .ok (.iadd, 1) := by decide +kernel
theorem dX12_sure_117 : decode cX12_sure 117 = .ok (.iconst 1, 1) := by decide +kernel
theorem dX12_sure_118 : decode cX12_sure 118 = .ok (.iadd, 1) := by decide +kernel
theorem dX12_sure_119 : decode cX12_sure 119 = .ok (.istore 9, 2) := by decide +kernel
theorem dX12_sure_121 : decode cX12_sure 121 = .ok (.bipush 9, 2) := by decide +kernel
theorem dX12_sure_123 : decode cX12_sure 123 = .ok (.iload 8, 2) := by decide +kernel
theorem dX12_sure_125 : decode cX12_sure 125 = .ok (.aload_n 0, 1) := by decide +kernel
theorem dX12_sure_126 : decode cX12_sure 126 = .ok (.getfield 83, 3) := by decide +kernel
theorem dX12_sure_129 : decode cX12_sure 129 = .ok (.iload 5, 2) := by decide +kernel
theorem dX12_sure_131 : decode cX12_sure 131 = .ok (.iaload, 1) := by decide +kernel
theorem dX12_sure_132 : decode cX12_sure 132 = .ok (.iadd, 1) := by decide +kernel
theorem dX12_sure_133 : decode cX12_sure 133 = .ok (.imul, 1) := by decide +kernel
theorem dX12_sure_134 : decode cX12_sure 134 = .ok (.iload 5, 2) := by decide +kernel
theorem dX12_sure_136 : decode cX12_sure 136 = .ok (.iadd, 1) := by decide +kernel
theorem dX12_sure_137 : decode cX12_sure 137 = .ok (.iconst 1, 1) := by decide +kernel
theorem dX12_sure_138 : decode cX12_sure 138 = .ok (.iadd, 1) := by decide +kernel
theorem dX12_sure_139 : decode cX12_sure 139 = .ok (.istore 10, 2) := by decide +kernel
theorem dX12_sure_141 : decode cX12_sure 141 = .ok (.aload_n 0, 1) := by decide +kernel
theorem dX12_sure_142 : decode cX12_sure 142 = .ok (.getfield 90, 3) := by decide +kernel
theorem dX12_sure_145 : decode cX12_sure 145 = .ok (.iload 9, 2) := by decide +kernel
theorem dX12_sure_147 : decode cX12_sure 147 = .ok (.iaload, 1) := by decide +kernel
theorem dX12_sure_148 : decode cX12_sure 148 = .ok (.aload_n 0, 1) := by decide +kernel
theorem dX12_sure_149 : decode cX12_sure 149 = .ok (.iload 8, 2) := by decide +kernel
theorem dX12_sure_151 : decode cX12_sure 151 = .ok (.iload 4, 2) := by decide +kernel
theorem dX12_sure_153 : decode cX12_sure 153 = .ok (.iconst 1, 1) := by decide +kernel
theorem dX12_sure_154 : decode cX12_sure 154 = .ok (.iadd, 1) := by decide +kernel
theorem dX12_sure_155 : decode cX12_sure 155 = .ok (.iload 5, 2) := by decide +kernel
theorem dX12_sure_157 : decode cX12_sure 157 = .ok (.invokevirtual 344, 3) := by decide +kernel
theorem dX12_sure_160 : decode cX12_sure 160 = .ok (.iadd, 1) := by decide +kernel
theorem dX12_sure_161 : decode cX12_sure 161 = .ok (.aload_n 0, 1) := by decide +kernel
theorem dX12_sure_162 : decode cX12_sure 162 = .ok (.getfield 87, 3) := by decide +kernel
theorem dX12_sure_165 : decode cX12_sure 165 = .ok (.iload 10, 2) := by decide +kernel
theorem dX12_sure_167 : decode cX12_sure 167 = .ok (.iaload, 1) := by decide +kernel
theorem dX12_sure_168 : decode cX12_sure 168 = .ok (.iadd, 1) := by decide +kernel
theorem dX12_sure_169 : decode cX12_sure 169 = .ok (.aload_n 0, 1) := by decide +kernel
theorem dX12_sure_170 : decode cX12_sure 170 = .ok (.getfield 87, 3) := by decide +kernel
theorem dX12_sure_173 : decode cX12_sure 173 = .ok (.iconst 0, 1) := by decide +kernel
theorem dX12_sure_174 : decode cX12_sure 174 = .ok (.iaload, 1) := by decide +kernel
theorem dX12_sure_175 : decode cX12_sure 175 = .ok (.if_icmp .ne 23, 3) := by decide +kernel
theorem dX12_sure_178 : decode cX12_sure 178 = .ok (.lload 6, 2) := by decide +kernel
theorem dX12_sure_180 : decode cX12_sure 180 = .ok (.aload_n 0, 1) := by decide +kernel
theorem dX12_sure_181 : decode cX12_sure 181 = .ok (.getfield 97, 3) := by decide +kernel
theorem dX12_sure_184 : decode cX12_sure 184 = .ok (.iload 9, 2) := by decide +kernel
theorem dX12_sure_186 : decode cX12_sure 186 = .ok (.laload, 1) := by decide +kernel
theorem dX12_sure_187 : decode cX12_sure 187 = .ok (.aload_n 0, 1) := by decide +kernel
theorem dX12_sure_188 : decode cX12_sure 188 = .ok (.getfield 93, 3) := by decide +kernel
theorem dX12_sure_191 : decode cX12_sure 191 = .ok (.iload 10, 2) := by decide +kernel
theorem dX12_sure_193 : decode cX12_sure 193 = .ok (.laload, 1) := by decide +kernel
theorem dX12_sure_194 : decode cX12_sure 194 = .ok (.lmul, 1) := by decide +kernel
theorem dX12_sure_195 : decode cX12_sure 195 = .ok (.ladd, 1) := by decide +kernel
theorem dX12_sure_196 : decode cX12_sure 196 = .ok (.lstore 6, 2) := by decide +kernel
theorem dX12_sure_198 : decode cX12_sure 198 = .ok (.iinc 8 1, 3) := by decide +kernel
theorem dX12_sure_201 : decode cX12_sure 201 = .ok (.goto (-136), 3) := by decide +kernel
theorem dX12_sure_204 : decode cX12_sure 204 = .ok (.lload 6, 2) := by decide +kernel
theorem dX12_sure_206 : decode cX12_sure 206 = .ok (.lconst 0, 1) := by decide +kernel
theorem dX12_sure_207 : decode cX12_sure 207 = .ok (.lcmp, 1) := by decide +kernel
theorem dX12_sure_208 : decode cX12_sure 208 = .ok (.ifCond .ne 7, 3) := by decide +kernel
theorem dX12_sure_211 : decode cX12_sure 211 = .ok (.iconst 0, 1) := by decide +kernel
theorem dX12_sure_212 : decode cX12_sure 212 = .ok (.goto 20, 3) := by decide +kernel
theorem dX12_sure_215 : decode cX12_sure 215 = .ok (.lload 6, 2) := by decide +kernel
theorem dX12_sure_217 : decode cX12_sure 217 = .ok (.aload_n 0, 1) := by decide +kernel
theorem dX12_sure_218 : decode cX12_sure 218 = .ok (.getfield 93, 3) := by decide +kernel
theorem dX12_sure_221 : decode cX12_sure 221 = .ok (.iconst 0, 1) := by decide +kernel
theorem dX12_sure_222 : decode cX12_sure 222 = .ok (.laload, 1) := by decide +kernel
theorem dX12_sure_223 : decode cX12_sure 223 = .ok (.lcmp, 1) := by decide +kernel
theorem dX12_sure_224 : decode cX12_sure 224 = .ok (.ifCond .ne 7, 3) := by decide +kernel
theorem dX12_sure_227 : decode cX12_sure 227 = .ok (.iconst 1, 1) := by decide +kernel
theorem dX12_sure_228 : decode cX12_sure 228 = .ok (.goto 4, 3) := by decide +kernel
theorem dX12_sure_231 : decode cX12_sure 231 = .ok (.iconst (-1), 1) := by decide +kernel
theorem dX12_sure_232 : decode cX12_sure 232 = .ok (.ireturn, 1) := by decide +kernel
theorem dX12_isSameCue_0 : decode cX12_isSameCue 0 = .ok (.aload_n 0, 1) := by decide +kernel
theorem dX12_isSameCue_1 : decode cX12_isSameCue 1 = .ok (.getfield 43, 3) := by decide +kernel
theorem dX12_isSameCue_4 : decode cX12_isSameCue 4 = .ok (.iload_n 1, 1) := by decide +kernel
theorem dX12_isSameCue_5 : decode cX12_isSameCue 5 = .ok (.iaload, 1) := by decide +kernel
theorem dX12_isSameCue_6 : decode cX12_isSameCue 6 = .ok (.aload_n 0, 1) := by decide +kernel
theorem dX12_isSameCue_7 : decode cX12_isSameCue 7 = .ok (.getfield 43, 3) := by decide +kernel
theorem dX12_isSameCue_10 : decode cX12_isSameCue 10 = .ok (.iload_n 2, 1) := by decide +kernel
theorem dX12_isSameCue_11 : decode cX12_isSameCue 11 = .ok (.iaload, 1) := by decide +kernel
theorem dX12_isSameCue_12 : decode cX12_isSameCue 12 = .ok (.if_icmp .eq 5, 3) := by decide +kernel
theorem dX12_isSameCue_15 : decode cX12_isSameCue 15 = .ok (.iconst 0, 1) := by decide +kernel
theorem dX12_isSameCue_16 : decode cX12_isSameCue 16 = .ok (.ireturn, 1) := by decide +kernel
theorem dX12_isSameCue_17 : decode cX12_isSameCue 17 = .ok (.iconst 0, 1) := by decide +kernel
theorem dX12_isSameCue_18 : decode cX12_isSameCue 18 = .ok (.istore_n 3, 1) := by decide +kernel
theorem dX12_isSameCue_19 : decode cX12_isSameCue 19 = .ok (.iload_n 3, 1) := by decide +kernel
theorem dX12_isSameCue_20 : decode cX12_isSameCue 20 = .ok (.aload_n 0, 1) := by decide +kernel
theorem dX12_isSameCue_21 : decode cX12_isSameCue 21 = .ok (.getfield 43, 3) := by decide +kernel
theorem dX12_isSameCue_24 : decode cX12_isSameCue 24 = .ok (.iload_n 1, 1) := by decide +kernel
theorem dX12_isSameCue_25 : decode cX12_isSameCue 25 = .ok (.iaload, 1) := by decide +kernel
theorem dX12_isSameCue_26 : decode cX12_isSameCue 26 = .ok (.if_icmp .ge 99, 3) := by decide +kernel
theorem dX12_isSameCue_29 : decode cX12_isSameCue 29 = .ok (.aload_n 0, 1) := by decide +kernel
theorem dX12_isSameCue_30 : decode cX12_isSameCue 30 = .ok (.getfield 52, 3) := by decide +kernel
theorem dX12_isSameCue_33 : decode cX12_isSameCue 33 = .ok (.iconst 2, 1) := by decide +kernel
theorem dX12_isSameCue_34 : decode cX12_isSameCue 34 = .ok (.iload_n 1, 1) := by decide +kernel
theorem dX12_isSameCue_35 : decode cX12_isSameCue 35 = .ok (.imul, 1) := by decide +kernel
theorem dX12_isSameCue_36 : decode cX12_isSameCue 36 = .ok (.iload_n 3, 1) := by decide +kernel
theorem dX12_isSameCue_37 : decode cX12_isSameCue 37 = .ok (.iadd, 1) := by decide +kernel
theorem dX12_isSameCue_38 : decode cX12_isSameCue 38 = .ok (.iaload, 1) := by decide +kernel
theorem dX12_isSameCue_39 : decode cX12_isSameCue 39 = .ok (.aload_n 0, 1) := by decide +kernel
theorem dX12_isSameCue_40 : decode cX12_isSameCue 40 = .ok (.getfield 52, 3) := by decide +kernel
theorem dX12_isSameCue_43 : decode cX12_isSameCue 43 = .ok (.iconst 2, 1) := by decide +kernel
theorem dX12_isSameCue_44 : decode cX12_isSameCue 44 = .ok (.iload_n 2, 1) := by decide +kernel
theorem dX12_isSameCue_45 : decode cX12_isSameCue 45 = .ok (.imul, 1) := by decide +kernel
theorem dX12_isSameCue_46 : decode cX12_isSameCue 46 = .ok (.iload_n 3, 1) := by decide +kernel
theorem dX12_isSameCue_47 : decode cX12_isSameCue 47 = .ok (.iadd, 1) := by decide +kernel
theorem dX12_isSameCue_48 : decode cX12_isSameCue 48 = .ok (.iaload, 1) := by decide +kernel
theorem dX12_isSameCue_49 : decode cX12_isSameCue 49 = .ok (.if_icmp .eq 5, 3) := by decide +kernel
theorem dX12_isSameCue_52 : decode cX12_isSameCue 52 = .ok (.iconst 0, 1) := by decide +kernel
theorem dX12_isSameCue_53 : decode cX12_isSameCue 53 = .ok (.ireturn, 1) := by decide +kernel
theorem dX12_isSameCue_54 : decode cX12_isSameCue 54 = .ok (.iconst 0, 1) := by decide +kernel
theorem dX12_isSameCue_55 : decode cX12_isSameCue 55 = .ok (.istore 4, 2) := by decide +kernel
theorem dX12_isSameCue_57 : decode cX12_isSameCue 57 = .ok (.iload 4, 2) := by decide +kernel
theorem dX12_isSameCue_59 : decode cX12_isSameCue 59 = .ok (.aload_n 0, 1) := by decide +kernel
theorem dX12_isSameCue_60 : decode cX12_isSameCue 60 = .ok (.getfield 52, 3) := by decide +kernel
theorem dX12_isSameCue_63 : decode cX12_isSameCue 63 = .ok (.iconst 2, 1) := by decide +kernel
theorem dX12_isSameCue_64 : decode cX12_isSameCue 64 = .ok (.iload_n 1, 1) := by decide +kernel
theorem dX12_isSameCue_65 : decode cX12_isSameCue 65 = .ok (.imul, 1) := by decide +kernel
theorem dX12_isSameCue_66 : decode cX12_isSameCue 66 = .ok (.iload_n 3, 1) := by decide +kernel
theorem dX12_isSameCue_67 : decode cX12_isSameCue 67 = .ok (.iadd, 1) := by decide +kernel
theorem dX12_isSameCue_68 : decode cX12_isSameCue 68 = .ok (.iaload, 1) := by decide +kernel
theorem dX12_isSameCue_69 : decode cX12_isSameCue 69 = .ok (.if_icmp .ge 50, 3) := by decide +kernel
theorem dX12_isSameCue_72 : decode cX12_isSameCue 72 = .ok (.aload_n 0, 1) := by decide +kernel
theorem dX12_isSameCue_73 : decode cX12_isSameCue 73 = .ok (.iload_n 1, 1) := by decide +kernel
theorem dX12_isSameCue_74 : decode cX12_isSameCue 74 = .ok (.aload_n 0, 1) := by decide +kernel
theorem dX12_isSameCue_75 : decode cX12_isSameCue 75 = .ok (.getfield 49, 3) := by decide +kernel
theorem dX12_isSameCue_78 : decode cX12_isSameCue 78 = .ok (.iconst 2, 1) := by decide +kernel
theorem dX12_isSameCue_79 : decode cX12_isSameCue 79 = .ok (.iload_n 1, 1) := by decide +kernel
theorem dX12_isSameCue_80 : decode cX12_isSameCue 80 = .ok (.imul, 1) := by decide +kernel
theorem dX12_isSameCue_81 : decode cX12_isSameCue 81 = .ok (.iload_n 3, 1) := by decide +kernel
theorem dX12_isSameCue_82 : decode cX12_isSameCue 82 = .ok (.iadd, 1) := by decide +kernel
theorem dX12_isSameCue_83 : decode cX12_isSameCue 83 = .ok (.iaload, 1) := by decide +kernel
theorem dX12_isSameCue_84 : decode cX12_isSameCue 84 = .ok (.iload 4, 2) := by decide +kernel
theorem dX12_isSameCue_86 : decode cX12_isSameCue 86 = .ok (.iadd, 1) := by decide +kernel
theorem dX12_isSameCue_87 : decode cX12_isSameCue 87 = .ok (.invokevirtual 280, 3) := by decide +kernel
theorem dX12_isSameCue_90 : decode cX12_isSameCue 90 = .ok (.aload_n 0, 1) := by decide +kernel
theorem dX12_isSameCue_91 : decode cX12_isSameCue 91 = .ok (.iload_n 2, 1) := by decide +kernel
theorem dX12_isSameCue_92 : decode cX12_isSameCue 92 = .ok (.aload_n 0, 1) := by decide +kernel
theorem dX12_isSameCue_93 : decode cX12_isSameCue 93 = .ok (.getfield 49, 3) := by decide +kernel
theorem dX12_isSameCue_96 : decode cX12_isSameCue 96 = .ok (.iconst 2, 1) := by decide +kernel
theorem dX12_isSameCue_97 : decode cX12_isSameCue 97 = .ok (.iload_n 2, 1) := by decide +kernel
theorem dX12_isSameCue_98 : decode cX12_isSameCue 98 = .ok (.imul, 1) := by decide +kernel
theorem dX12_isSameCue_99 : decode cX12_isSameCue 99 = .ok (.iload_n 3, 1) := by decide +kernel
theorem dX12_isSameCue_100 : decode cX12_isSameCue 100 = .ok (.iadd, 1) := by decide +kernel
theorem dX12_isSameCue_101 : decode cX12_isSameCue 101 = .ok (.iaload, 1) := by decide +kernel
theorem dX12_isSameCue_102 : decode cX12_isSameCue 102 = .ok (.iload 4, 2) := by decide +kernel
theorem dX12_isSameCue_104 : decode cX12_isSameCue 104 = .ok (.iadd, 1) := by decide +kernel
theorem dX12_isSameCue_105 : decode cX12_isSameCue 105 = .ok (.invokevirtual 280, 3) := by decide +kernel
theorem dX12_isSameCue_108 : decode cX12_isSameCue 108 = .ok (.if_icmp .eq 5, 3) := by decide +kernel
theorem dX12_isSameCue_111 : decode cX12_isSameCue 111 = .ok (.iconst 0, 1) := by decide +kernel
theorem dX12_isSameCue_112 : decode cX12_isSameCue 112 = .ok (.ireturn, 1) := by decide +kernel
theorem dX12_isSameCue_113 : decode cX12_isSameCue 113 = .ok (.iinc 4 1, 3) := by decide +kernel
theorem dX12_isSameCue_116 : decode cX12_isSameCue 116 = .ok (.goto (-59), 3) := by decide +kernel
theorem dX12_isSameCue_119 : decode cX12_isSameCue 119 = .ok (.iinc 3 1, 3) := by decide +kernel
theorem dX12_isSameCue_122 : decode cX12_isSameCue 122 = .ok (.goto (-103), 3) := by decide +kernel
theorem dX12_isSameCue_125 : decode cX12_isSameCue 125 = .ok (.iconst 1, 1) := by decide +kernel
theorem dX12_isSameCue_126 : decode cX12_isSameCue 126 = .ok (.ireturn, 1) := by decide +kernel
theorem dX12_length_0 : decode cX12_length 0 = .ok (.aload_n 0, 1) := by decide +kernel
theorem dX12_length_1 : decode cX12_length 1 = .ok (.iconst 0, 1) := by decide +kernel
theorem dX12_length_2 : decode cX12_length 2 = .ok (.putfield 116, 3) := by decide +kernel
theorem dX12_length_5 : decode cX12_length 5 = .ok (.aload_n 0, 1) := by decide +kernel
theorem dX12_length_6 : decode cX12_length 6 = .ok (.iload_n 1, 1) := by decide +kernel
theorem dX12_length_7 : decode cX12_length 7 = .ok (.invokevirtual 320, 3) := by decide +kernel
theorem dX12_length_10 : decode cX12_length 10 = .ok (.ifCond .ne 5, 3) := by decide +kernel
theorem dX12_length_13 : decode cX12_length 13 = .ok (.iconst (-1), 1) := by decide +kernel
theorem dX12_length_14 : decode cX12_length 14 = .ok (.ireturn, 1) := by decide +kernel
theorem dX12_length_15 : decode cX12_length 15 = .ok (.iconst 0, 1) := by decide +kernel
theorem dX12_length_16 : decode cX12_length 16 = .ok (.istore_n 2, 1) := by decide +kernel
theorem dX12_length_17 : decode cX12_length 17 = .ok (.iconst 0, 1) := by decide +kernel
theorem dX12_length_18 : decode cX12_length 18 = .ok (.istore_n 3, 1) := by decide +kernel
theorem dX12_length_19 : decode cX12_length 19 = .ok (.iload_n 3, 1) := by decide +kernel
theorem dX12_length_20 : decode cX12_length 20 = .ok (.sipush 128, 3) := by decide +kernel
theorem dX12_length_23 : decode cX12_length 23 = .ok (.if_icmp .ge 122, 3) := by decide +kernel
theorem dX12_length_26 : decode cX12_length 26 = .ok (.aload_n 0, 1) := by decide +kernel
theorem dX12_length_27 : decode cX12_length 27 = .ok (.iload_n 3, 1) := by decide +kernel
theorem dX12_length_28 : decode cX12_length 28 = .ok (.iload_n 1, 1) := by decide +kernel
theorem dX12_length_29 : decode cX12_length 29 = .ok (.invokevirtual 323, 3) := by decide +kernel
theorem dX12_length_32 : decode cX12_length 32 = .ok (.ifCond .ne 6, 3) := by decide +kernel
theorem dX12_length_35 : decode cX12_length 35 = .ok (.goto 104, 3) := by decide +kernel
theorem dX12_length_38 : decode cX12_length 38 = .ok (.iload_n 2, 1) := by decide +kernel
theorem dX12_length_39 : decode cX12_length 39 = .ok (.aload_n 0, 1) := by decide +kernel
theorem dX12_length_40 : decode cX12_length 40 = .ok (.getfield 46, 3) := by decide +kernel
theorem dX12_length_43 : decode cX12_length 43 = .ok (.iload_n 3, 1) := by decide +kernel
theorem dX12_length_44 : decode cX12_length 44 = .ok (.iaload, 1) := by decide +kernel
theorem dX12_length_45 : decode cX12_length 45 = .ok (.iadd, 1) := by decide +kernel
theorem dX12_length_46 : decode cX12_length 46 = .ok (.istore_n 2, 1) := by decide +kernel
theorem dX12_length_47 : decode cX12_length 47 = .ok (.aload_n 0, 1) := by decide +kernel
theorem dX12_length_48 : decode cX12_length 48 = .ok (.iload_n 3, 1) := by decide +kernel
theorem dX12_length_49 : decode cX12_length 49 = .ok (.iload_n 1, 1) := by decide +kernel
theorem dX12_length_50 : decode cX12_length 50 = .ok (.invokevirtual 326, 3) := by decide +kernel
theorem dX12_length_53 : decode cX12_length 53 = .ok (.iconst 5, 1) := by decide +kernel
theorem dX12_length_54 : decode cX12_length 54 = .ok (.if_icmp .eq 6, 3) := by decide +kernel
theorem dX12_length_57 : decode cX12_length 57 = .ok (.goto 82, 3) := by decide +kernel
theorem dX12_length_60 : decode cX12_length 60 = .ok (.iconst 0, 1) := by decide +kernel
theorem dX12_length_61 : decode cX12_length 61 = .ok (.istore 4, 2) := by decide +kernel
theorem dX12_length_63 : decode cX12_length 63 = .ok (.iconst 0, 1) := by decide +kernel
theorem dX12_length_64 : decode cX12_length 64 = .ok (.istore 5, 2) := by decide +kernel
theorem dX12_length_66 : decode cX12_length 66 = .ok (.iload 5, 2) := by decide +kernel
theorem dX12_length_68 : decode cX12_length 68 = .ok (.iload_n 3, 1) := by decide +kernel
theorem dX12_length_69 : decode cX12_length 69 = .ok (.if_icmp .ge 52, 3) := by decide +kernel
theorem dX12_length_72 : decode cX12_length 72 = .ok (.iload 4, 2) := by decide +kernel
theorem dX12_length_74 : decode cX12_length 74 = .ok (.ifCond .ne 34, 3) := by decide +kernel
theorem dX12_length_77 : decode cX12_length 77 = .ok (.aload_n 0, 1) := by decide +kernel
theorem dX12_length_78 : decode cX12_length 78 = .ok (.iload 5, 2) := by decide +kernel
theorem dX12_length_80 : decode cX12_length 80 = .ok (.iload_n 1, 1) := by decide +kernel
theorem dX12_length_81 : decode cX12_length 81 = .ok (.invokevirtual 323, 3) := by decide +kernel
theorem dX12_length_84 : decode cX12_length 84 = .ok (.ifCond .eq 28, 3) := by decide +kernel
theorem dX12_length_87 : decode cX12_length 87 = .ok (.aload_n 0, 1) := by decide +kernel
theorem dX12_length_88 : decode cX12_length 88 = .ok (.iload_n 3, 1) := by decide +kernel
theorem dX12_length_89 : decode cX12_length 89 = .ok (.iload 5, 2) := by decide +kernel
theorem dX12_length_91 : decode cX12_length 91 = .ok (.invokevirtual 359, 3) := by decide +kernel
theorem dX12_length_94 : decode cX12_length 94 = .ok (.ifCond .eq 18, 3) := by decide +kernel
theorem dX12_length_97 : decode cX12_length 97 = .ok (.aload_n 0, 1) := by decide +kernel
theorem dX12_length_98 : decode cX12_length 98 = .ok (.iload 5, 2) := by decide +kernel
theorem dX12_length_100 : decode cX12_length 100 = .ok (.iload_n 1, 1) := by decide +kernel
theorem dX12_length_101 : decode cX12_length 101 = .ok (.invokevirtual 326, 3) := by decide +kernel
theorem dX12_length_104 : decode cX12_length 104 = .ok (.iconst 5, 1) := by decide +kernel
theorem dX12_length_105 : decode cX12_length 105 = .ok (.if_icmp .ne 7, 3) := by decide +kernel
theorem dX12_length_108 : decode cX12_length 108 = .ok (.iconst 1, 1) := by decide +kernel
theorem dX12_length_109 : decode cX12_length 109 = .ok (.goto 4, 3) := by decide +kernel
theorem dX12_length_112 : decode cX12_length 112 = .ok (.iconst 0, 1) := by decide +kernel
theorem dX12_length_113 : decode cX12_length 113 = .ok (.istore 4, 2) := by decide +kernel
theorem dX12_length_115 : decode cX12_length 115 = .ok (.iinc 5 1, 3) := by decide +kernel
theorem dX12_length_118 : decode cX12_length 118 = .ok (.goto (-52), 3) := by decide +kernel
theorem dX12_length_121 : decode cX12_length 121 = .ok (.iload_n 2, 1) := by decide +kernel
theorem dX12_length_122 : decode cX12_length 122 = .ok (.iload 4, 2) := by decide +kernel
theorem dX12_length_124 : decode cX12_length 124 = .ok (.ifCond .eq 7, 3) := by decide +kernel
theorem dX12_length_127 : decode cX12_length 127 = .ok (.iconst 0, 1) := by decide +kernel
theorem dX12_length_128 : decode cX12_length 128 = .ok (.goto 9, 3) := by decide +kernel
theorem dX12_length_131 : decode cX12_length 131 = .ok (.aload_n 0, 1) := by decide +kernel
theorem dX12_length_132 : decode cX12_length 132 = .ok (.getfield 43, 3) := by decide +kernel
theorem dX12_length_135 : decode cX12_length 135 = .ok (.iload_n 3, 1) := by decide +kernel
theorem dX12_length_136 : decode cX12_length 136 = .ok (.iaload, 1) := by decide +kernel
theorem dX12_length_137 : decode cX12_length 137 = .ok (.iadd, 1) := by decide +kernel
theorem dX12_length_138 : decode cX12_length 138 = .ok (.istore_n 2, 1) := by decide +kernel
theorem dX12_length_139 : decode cX12_length 139 = .ok (.iinc 3 1, 3) := by decide +kernel
theorem dX12_length_142 : decode cX12_length 142 = .ok (.goto (-123), 3) := by decide +kernel
theorem dX12_length_145 : decode cX12_length 145 = .ok (.iload_n 2, 1) := by decide +kernel
theorem dX12_length_146 : decode cX12_length 146 = .ok (.ireturn, 1) := by decide +kernel
theorem dX12_one_0 : decode cX12_one 0 = .ok (.aload_n 0, 1) := by decide +kernel
theorem dX12_one_1 : decode cX12_one 1 = .ok (.iconst 0, 1) := by decide +kernel
theorem dX12_one_2 : decode cX12_one 2 = .ok (.putfield 116, 3) := by decide +kernel
theorem dX12_one_5 : decode cX12_one 5 = .ok (.aload_n 0, 1) := by decide +kernel
theorem dX12_one_6 : decode cX12_one 6 = .ok (.iload_n 1, 1) := by decide +kernel
theorem dX12_one_7 : decode cX12_one 7 = .ok (.invokevirtual 274, 3) := by decide +kernel
theorem dX12_one_10 : decode cX12_one 10 = .ok (.ifCond .ne 5, 3) := by decide +kernel
theorem dX12_one_13 : decode cX12_one 13 = .ok (.iconst (-1), 1) := by decide +kernel
theorem dX12_one_14 : decode cX12_one 14 = .ok (.ireturn, 1) := by decide +kernel
theorem dX12_one_15 : decode cX12_one 15 = .ok (.iconst 1, 1) := by decide +kernel
theorem dX12_one_16 : decode cX12_one 16 = .ok (.aload_n 0, 1) := by decide +kernel
theorem dX12_one_17 : decode cX12_one 17 = .ok (.getfield 263, 3) := by decide +kernel
theorem dX12_one_20 : decode cX12_one 20 = .ok (.ishl, 1) := by decide +kernel
theorem dX12_one_21 : decode cX12_one 21 = .ok (.iconst 1, 1) := by decide +kernel
theorem dX12_one_22 : decode cX12_one 22 = .ok (.isub, 1) := by decide +kernel
theorem dX12_one_23 : decode cX12_one 23 = .ok (.istore_n 2, 1) := by decide +kernel
theorem dX12_one_24 : decode cX12_one 24 = .ok (.iconst 1, 1) := by decide +kernel
theorem dX12_one_25 : decode cX12_one 25 = .ok (.iload_n 1, 1) := by decide +kernel
theorem dX12_one_26 : decode cX12_one 26 = .ok (.ishl, 1) := by decide +kernel
theorem dX12_one_27 : decode cX12_one 27 = .ok (.istore_n 3, 1) := by decide +kernel
theorem dX12_one_28 : decode cX12_one 28 = .ok (.iconst 0, 1) := by decide +kernel
theorem dX12_one_29 : decode cX12_one 29 = .ok (.istore 4, 2) := by decide +kernel
theorem dX12_one_31 : decode cX12_one 31 = .ok (.iload 4, 2) := by decide +kernel
theorem dX12_one_33 : decode cX12_one 33 = .ok (.aload_n 0, 1) := by decide +kernel
theorem dX12_one_34 : decode cX12_one 34 = .ok (.getfield 263, 3) := by decide +kernel
theorem dX12_one_37 : decode cX12_one 37 = .ok (.if_icmp .ge 123, 3) := by decide +kernel
theorem dX12_one_40 : decode cX12_one 40 = .ok (.iconst 0, 1) := by decide +kernel
theorem dX12_one_41 : decode cX12_one 41 = .ok (.istore 5, 2) := by decide +kernel
theorem dX12_one_43 : decode cX12_one 43 = .ok (.iload 5, 2) := by decide +kernel
theorem dX12_one_45 : decode cX12_one 45 = .ok (.sipush 128, 3) := by decide +kernel
theorem dX12_one_48 : decode cX12_one 48 = .ok (.if_icmp .ge 106, 3) := by decide +kernel
theorem dX12_one_51 : decode cX12_one 51 = .ok (.aload_n 0, 1) := by decide +kernel
theorem dX12_one_52 : decode cX12_one 52 = .ok (.iload 5, 2) := by decide +kernel
theorem dX12_one_54 : decode cX12_one 54 = .ok (.invokevirtual 277, 3) := by decide +kernel
theorem dX12_one_57 : decode cX12_one 57 = .ok (.ifCond .eq 91, 3) := by decide +kernel
theorem dX12_one_60 : decode cX12_one 60 = .ok (.aload_n 0, 1) := by decide +kernel
theorem dX12_one_61 : decode cX12_one 61 = .ok (.iload 5, 2) := by decide +kernel
theorem dX12_one_63 : decode cX12_one 63 = .ok (.iload_n 2, 1) := by decide +kernel
theorem dX12_one_64 : decode cX12_one 64 = .ok (.invokevirtual 326, 3) := by decide +kernel
theorem dX12_one_67 : decode cX12_one 67 = .ok (.iconst 1, 1) := by decide +kernel
theorem dX12_one_68 : decode cX12_one 68 = .ok (.if_icmp .eq 6, 3) := by decide +kernel
theorem dX12_one_71 : decode cX12_one 71 = .ok (.goto 77, 3) := by decide +kernel
theorem dX12_one_74 : decode cX12_one 74 = .ok (.iconst 0, 1) := by decide +kernel
theorem dX12_one_75 : decode cX12_one 75 = .ok (.istore 6, 2) := by decide +kernel
theorem dX12_one_77 : decode cX12_one 77 = .ok (.aload_n 0, 1) := by decide +kernel
theorem dX12_one_78 : decode cX12_one 78 = .ok (.iload 5, 2) := by decide +kernel
theorem dX12_one_80 : decode cX12_one 80 = .ok (.iload_n 2, 1) := by decide +kernel
theorem dX12_one_81 : decode cX12_one 81 = .ok (.iload 6, 2) := by decide +kernel
theorem dX12_one_83 : decode cX12_one 83 = .ok (.invokevirtual 314, 3) := by decide +kernel
theorem dX12_one_86 : decode cX12_one 86 = .ok (.ifCond .eq 14, 3) := by decide +kernel
theorem dX12_one_89 : decode cX12_one 89 = .ok (.aload_n 0, 1) := by decide +kernel
theorem dX12_one_90 : decode cX12_one 90 = .ok (.iload 5, 2) := by decide +kernel
theorem dX12_one_92 : decode cX12_one 92 = .ok (.iload 6, 2) := by decide +kernel
theorem dX12_one_94 : decode cX12_one 94 = .ok (.invokevirtual 288, 3) := by decide +kernel
theorem dX12_one_97 : decode cX12_one 97 = .ok (.ifCond .ne 9, 3) := by decide +kernel
theorem dX12_one_100 : decode cX12_one 100 = .ok (.iinc 6 1, 3) := by decide +kernel
theorem dX12_one_103 : decode cX12_one 103 = .ok (.goto (-26), 3) := by decide +kernel
theorem dX12_one_106 : decode cX12_one 106 = .ok (.iload_n 3, 1) := by decide +kernel
theorem dX12_one_107 : decode cX12_one 107 = .ok (.iload 5, 2) := by decide +kernel
theorem dX12_one_109 : decode cX12_one 109 = .ok (.bipush 16, 2) := by decide +kernel
theorem dX12_one_111 : decode cX12_one 111 = .ok (.idiv, 1) := by decide +kernel
theorem dX12_one_112 : decode cX12_one 112 = .ok (.invokestatic 246, 3) := by decide +kernel
theorem dX12_one_115 : decode cX12_one 115 = .ok (.ifCond .ne 15, 3) := by decide +kernel
theorem dX12_one_118 : decode cX12_one 118 = .ok (.iload_n 3, 1) := by decide +kernel
theorem dX12_one_119 : decode cX12_one 119 = .ok (.iload 6, 2) := by decide +kernel
theorem dX12_one_121 : decode cX12_one 121 = .ok (.bipush 16, 2) := by decide +kernel
theorem dX12_one_123 : decode cX12_one 123 = .ok (.idiv, 1) := by decide +kernel
theorem dX12_one_124 : decode cX12_one 124 = .ok (.invokestatic 246, 3) := by decide +kernel
theorem dX12_one_127 : decode cX12_one 127 = .ok (.ifCond .eq 21, 3) := by decide +kernel
theorem dX12_one_130 : decode cX12_one 130 = .ok (.iload_n 3, 1) := by decide +kernel
theorem dX12_one_131 : decode cX12_one 131 = .ok (.iconst 1, 1) := by decide +kernel
theorem dX12_one_132 : decode cX12_one 132 = .ok (.iload 5, 2) := by decide +kernel
theorem dX12_one_134 : decode cX12_one 134 = .ok (.bipush 16, 2) := by decide +kernel
theorem dX12_one_136 : decode cX12_one 136 = .ok (.idiv, 1) := by decide +kernel
theorem dX12_one_137 : decode cX12_one 137 = .ok (.ishl, 1) := by decide +kernel
theorem dX12_one_138 : decode cX12_one 138 = .ok (.iconst 1, 1) := by decide +kernel
theorem dX12_one_139 : decode cX12_one 139 = .ok (.iload 6, 2) := by decide +kernel
theorem dX12_one_141 : decode cX12_one 141 = .ok (.bipush 16, 2) := by decide +kernel
theorem dX12_one_143 : decode cX12_one 143 = .ok (.idiv, 1) := by decide +kernel
theorem dX12_one_144 : decode cX12_one 144 = .ok (.ishl, 1) := by decide +kernel
theorem dX12_one_145 : decode cX12_one 145 = .ok (.ior, 1) := by decide +kernel
theorem dX12_one_146 : decode cX12_one 146 = .ok (.ior, 1) := by decide +kernel
theorem dX12_one_147 : decode cX12_one 147 = .ok (.istore_n 3, 1) := by decide +kernel
theorem dX12_one_148 : decode cX12_one 148 = .ok (.iinc 5 1, 3) := by decide +kernel
theorem dX12_one_151 : decode cX12_one 151 = .ok (.goto (-108), 3) := by decide +kernel
theorem dX12_one_154 : decode cX12_one 154 = .ok (.iinc 4 1, 3) := by decide +kernel
theorem dX12_one_157 : decode cX12_one 157 = .ok (.goto (-126), 3) := by decide +kernel
theorem dX12_one_160 : decode cX12_one 160 = .ok (.iload_n 3, 1) := by decide +kernel
theorem dX12_one_161 : decode cX12_one 161 = .ok (.ireturn, 1) := by decide +kernel
theorem dX12_settlesOf_0 : decode cX12_settlesOf 0 = .ok (.iconst 0, 1) := by decide +kernel
theorem dX12_settlesOf_1 : decode cX12_settlesOf 1 = .ok (.istore_n 3, 1) := by decide +kernel
theorem dX12_settlesOf_2 : decode cX12_settlesOf 2 = .ok (.iconst 0, 1) := by decide +kernel
theorem dX12_settlesOf_3 : decode cX12_settlesOf 3 = .ok (.istore 4, 2) := by decide +kernel
theorem dX12_settlesOf_5 : decode cX12_settlesOf 5 = .ok (.iload 4, 2) := by decide +kernel
theorem dX12_settlesOf_7 : decode cX12_settlesOf 7 = .ok (.sipush 128, 3) := by decide +kernel
theorem dX12_settlesOf_10 : decode cX12_settlesOf 10 = .ok (.if_icmp .ge 66, 3) := by decide +kernel
theorem dX12_settlesOf_13 : decode cX12_settlesOf 13 = .ok (.aload_n 0, 1) := by decide +kernel
theorem dX12_settlesOf_14 : decode cX12_settlesOf 14 = .ok (.iload 4, 2) := by decide +kernel
theorem dX12_settlesOf_16 : decode cX12_settlesOf 16 = .ok (.iload_n 2, 1) := by decide +kernel
theorem dX12_settlesOf_17 : decode cX12_settlesOf 17 = .ok (.invokevirtual 323, 3) := by decide +kernel
theorem dX12_settlesOf_20 : decode cX12_settlesOf 20 = .ok (.ifCond .eq 50, 3) := by decide +kernel
theorem dX12_settlesOf_23 : decode cX12_settlesOf 23 = .ok (.aload_n 0, 1) := by decide +kernel
theorem dX12_settlesOf_24 : decode cX12_settlesOf 24 = .ok (.iload 4, 2) := by decide +kernel
