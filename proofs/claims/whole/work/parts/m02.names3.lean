theorem dX12_settlesOf_26 : decode cX12_settlesOf 26 = .ok (.iload_n 2, 1) := by decide +kernel
theorem dX12_settlesOf_27 : decode cX12_settlesOf 27 = .ok (.invokevirtual 326, 3) := by decide +kernel
theorem dX12_settlesOf_30 : decode cX12_settlesOf 30 = .ok (.iconst 4, 1) := by decide +kernel
theorem dX12_settlesOf_31 : decode cX12_settlesOf 31 = .ok (.if_icmp .ge 6, 3) := by decide +kernel
theorem dX12_settlesOf_34 : decode cX12_settlesOf 34 = .ok (.goto 36, 3) := by decide +kernel
theorem dX12_settlesOf_37 : decode cX12_settlesOf 37 = .ok (.aload_n 0, 1) := by decide +kernel
theorem dX12_settlesOf_38 : decode cX12_settlesOf 38 = .ok (.iload 4, 2) := by decide +kernel
theorem dX12_settlesOf_40 : decode cX12_settlesOf 40 = .ok (.iload_n 2, 1) := by decide +kernel
theorem dX12_settlesOf_41 : decode cX12_settlesOf 41 = .ok (.iconst 1, 1) := by decide +kernel
theorem dX12_settlesOf_42 : decode cX12_settlesOf 42 = .ok (.iload_n 1, 1) := by decide +kernel
theorem dX12_settlesOf_43 : decode cX12_settlesOf 43 = .ok (.ishl, 1) := by decide +kernel
theorem dX12_settlesOf_44 : decode cX12_settlesOf 44 = .ok (.ior, 1) := by decide +kernel
theorem dX12_settlesOf_45 : decode cX12_settlesOf 45 = .ok (.invokevirtual 326, 3) := by decide +kernel
theorem dX12_settlesOf_48 : decode cX12_settlesOf 48 = .ok (.istore 5, 2) := by decide +kernel
theorem dX12_settlesOf_50 : decode cX12_settlesOf 50 = .ok (.iload_n 3, 1) := by decide +kernel
theorem dX12_settlesOf_51 : decode cX12_settlesOf 51 = .ok (.iload 5, 2) := by decide +kernel
theorem dX12_settlesOf_53 : decode cX12_settlesOf 53 = .ok (.iconst 1, 1) := by decide +kernel
theorem dX12_settlesOf_54 : decode cX12_settlesOf 54 = .ok (.if_icmp .eq 9, 3) := by decide +kernel
theorem dX12_settlesOf_57 : decode cX12_settlesOf 57 = .ok (.iload 5, 2) := by decide +kernel
theorem dX12_settlesOf_59 : decode cX12_settlesOf 59 = .ok (.iconst 2, 1) := by decide +kernel
theorem dX12_settlesOf_60 : decode cX12_settlesOf 60 = .ok (.if_icmp .ne 7, 3) := by decide +kernel
theorem dX12_settlesOf_63 : decode cX12_settlesOf 63 = .ok (.iconst 1, 1) := by decide +kernel
theorem dX12_settlesOf_64 : decode cX12_settlesOf 64 = .ok (.goto 4, 3) := by decide +kernel
theorem dX12_settlesOf_67 : decode cX12_settlesOf 67 = .ok (.iconst 0, 1) := by decide +kernel
theorem dX12_settlesOf_68 : decode cX12_settlesOf 68 = .ok (.iadd, 1) := by decide +kernel
theorem dX12_settlesOf_69 : decode cX12_settlesOf 69 = .ok (.istore_n 3, 1) := by decide +kernel
theorem dX12_settlesOf_70 : decode cX12_settlesOf 70 = .ok (.iinc 4 1, 3) := by decide +kernel
theorem dX12_settlesOf_73 : decode cX12_settlesOf 73 = .ok (.goto (-68), 3) := by decide +kernel
theorem dX12_settlesOf_76 : decode cX12_settlesOf 76 = .ok (.iload_n 3, 1) := by decide +kernel
theorem dX12_settlesOf_77 : decode cX12_settlesOf 77 = .ok (.ireturn, 1) := by decide +kernel
theorem dX12_settles_0 : decode cX12_settles 0 = .ok (.aload_n 0, 1) := by decide +kernel
theorem dX12_settles_1 : decode cX12_settles 1 = .ok (.iconst 0, 1) := by decide +kernel
theorem dX12_settles_2 : decode cX12_settles 2 = .ok (.putfield 116, 3) := by decide +kernel
theorem dX12_settles_5 : decode cX12_settles 5 = .ok (.aload_n 0, 1) := by decide +kernel
theorem dX12_settles_6 : decode cX12_settles 6 = .ok (.iload_n 1, 1) := by decide +kernel
theorem dX12_settles_7 : decode cX12_settles 7 = .ok (.invokevirtual 274, 3) := by decide +kernel
theorem dX12_settles_10 : decode cX12_settles 10 = .ok (.ifCond .eq 28, 3) := by decide +kernel
theorem dX12_settles_13 : decode cX12_settles 13 = .ok (.aload_n 0, 1) := by decide +kernel
theorem dX12_settles_14 : decode cX12_settles 14 = .ok (.iload_n 2, 1) := by decide +kernel
theorem dX12_settles_15 : decode cX12_settles 15 = .ok (.invokevirtual 320, 3) := by decide +kernel
theorem dX12_settles_18 : decode cX12_settles 18 = .ok (.ifCond .eq 20, 3) := by decide +kernel
theorem dX12_settles_21 : decode cX12_settles 21 = .ok (.iload_n 2, 1) := by decide +kernel
theorem dX12_settles_22 : decode cX12_settles 22 = .ok (.iload_n 1, 1) := by decide +kernel
theorem dX12_settles_23 : decode cX12_settles 23 = .ok (.invokestatic 246, 3) := by decide +kernel
theorem dX12_settles_26 : decode cX12_settles 26 = .ok (.ifCond .ne 12, 3) := by decide +kernel
theorem dX12_settles_29 : decode cX12_settles 29 = .ok (.aload_n 0, 1) := by decide +kernel
theorem dX12_settles_30 : decode cX12_settles 30 = .ok (.iload_n 1, 1) := by decide +kernel
theorem dX12_settles_31 : decode cX12_settles 31 = .ok (.iload_n 2, 1) := by decide +kernel
theorem dX12_settles_32 : decode cX12_settles 32 = .ok (.invokevirtual 362, 3) := by decide +kernel
theorem dX12_settles_35 : decode cX12_settles 35 = .ok (.goto 4, 3) := by decide +kernel
theorem dX12_settles_38 : decode cX12_settles 38 = .ok (.iconst (-1), 1) := by decide +kernel
theorem dX12_settles_39 : decode cX12_settles 39 = .ok (.ireturn, 1) := by decide +kernel
theorem dX12_next_0 : decode cX12_next 0 = .ok (.aload_n 0, 1) := by decide +kernel
theorem dX12_next_1 : decode cX12_next 1 = .ok (.iconst 0, 1) := by decide +kernel
theorem dX12_next_2 : decode cX12_next 2 = .ok (.putfield 116, 3) := by decide +kernel
theorem dX12_next_5 : decode cX12_next 5 = .ok (.aload_n 0, 1) := by decide +kernel
theorem dX12_next_6 : decode cX12_next 6 = .ok (.iload_n 1, 1) := by decide +kernel
theorem dX12_next_7 : decode cX12_next 7 = .ok (.invokevirtual 320, 3) := by decide +kernel
theorem dX12_next_10 : decode cX12_next 10 = .ok (.ifCond .ne 5, 3) := by decide +kernel
theorem dX12_next_13 : decode cX12_next 13 = .ok (.iconst (-1), 1) := by decide +kernel
theorem dX12_next_14 : decode cX12_next 14 = .ok (.ireturn, 1) := by decide +kernel
theorem dX12_next_15 : decode cX12_next 15 = .ok (.iconst (-1), 1) := by decide +kernel
theorem dX12_next_16 : decode cX12_next 16 = .ok (.istore_n 2, 1) := by decide +kernel
theorem dX12_next_17 : decode cX12_next 17 = .ok (.iconst 0, 1) := by decide +kernel
theorem dX12_next_18 : decode cX12_next 18 = .ok (.istore_n 3, 1) := by decide +kernel
theorem dX12_next_19 : decode cX12_next 19 = .ok (.iconst 0, 1) := by decide +kernel
theorem dX12_next_20 : decode cX12_next 20 = .ok (.istore 4, 2) := by decide +kernel
theorem dX12_next_22 : decode cX12_next 22 = .ok (.iload 4, 2) := by decide +kernel
theorem dX12_next_24 : decode cX12_next 24 = .ok (.aload_n 0, 1) := by decide +kernel
theorem dX12_next_25 : decode cX12_next 25 = .ok (.getfield 263, 3) := by decide +kernel
theorem dX12_next_28 : decode cX12_next 28 = .ok (.if_icmp .ge 50, 3) := by decide +kernel
theorem dX12_next_31 : decode cX12_next 31 = .ok (.iload_n 1, 1) := by decide +kernel
theorem dX12_next_32 : decode cX12_next 32 = .ok (.iload 4, 2) := by decide +kernel
theorem dX12_next_34 : decode cX12_next 34 = .ok (.invokestatic 246, 3) := by decide +kernel
theorem dX12_next_37 : decode cX12_next 37 = .ok (.ifCond .eq 6, 3) := by decide +kernel
theorem dX12_next_40 : decode cX12_next 40 = .ok (.goto 32, 3) := by decide +kernel
theorem dX12_next_43 : decode cX12_next 43 = .ok (.aload_n 0, 1) := by decide +kernel
theorem dX12_next_44 : decode cX12_next 44 = .ok (.iload 4, 2) := by decide +kernel
theorem dX12_next_46 : decode cX12_next 46 = .ok (.iload_n 1, 1) := by decide +kernel
theorem dX12_next_47 : decode cX12_next 47 = .ok (.invokevirtual 362, 3) := by decide +kernel
theorem dX12_next_50 : decode cX12_next 50 = .ok (.istore 5, 2) := by decide +kernel
theorem dX12_next_52 : decode cX12_next 52 = .ok (.iload_n 2, 1) := by decide +kernel
theorem dX12_next_53 : decode cX12_next 53 = .ok (.iconst (-1), 1) := by decide +kernel
theorem dX12_next_54 : decode cX12_next 54 = .ok (.if_icmp .eq 12, 3) := by decide +kernel
theorem dX12_next_57 : decode cX12_next 57 = .ok (.iload 5, 2) := by decide +kernel
theorem dX12_next_59 : decode cX12_next 59 = .ok (.iload_n 3, 1) := by decide +kernel
theorem dX12_next_60 : decode cX12_next 60 = .ok (.if_icmp .gt 6, 3) := by decide +kernel
theorem dX12_next_63 : decode cX12_next 63 = .ok (.goto 9, 3) := by decide +kernel
theorem dX12_next_66 : decode cX12_next 66 = .ok (.iload 4, 2) := by decide +kernel
theorem dX12_next_68 : decode cX12_next 68 = .ok (.istore_n 2, 1) := by decide +kernel
theorem dX12_next_69 : decode cX12_next 69 = .ok (.iload 5, 2) := by decide +kernel
theorem dX12_next_71 : decode cX12_next 71 = .ok (.istore_n 3, 1) := by decide +kernel
theorem dX12_next_72 : decode cX12_next 72 = .ok (.iinc 4 1, 3) := by decide +kernel
theorem dX12_next_75 : decode cX12_next 75 = .ok (.goto (-53), 3) := by decide +kernel
theorem dX12_next_78 : decode cX12_next 78 = .ok (.iload_n 2, 1) := by decide +kernel
theorem dX12_next_79 : decode cX12_next 79 = .ok (.ireturn, 1) := by decide +kernel
theorem dX12_act_0 : decode cX12_act 0 = .ok (.aload_n 0, 1) := by decide +kernel
theorem dX12_act_1 : decode cX12_act 1 = .ok (.iconst 0, 1) := by decide +kernel
theorem dX12_act_2 : decode cX12_act 2 = .ok (.putfield 116, 3) := by decide +kernel
theorem dX12_act_5 : decode cX12_act 5 = .ok (.aload_n 0, 1) := by decide +kernel
theorem dX12_act_6 : decode cX12_act 6 = .ok (.iload_n 1, 1) := by decide +kernel
theorem dX12_act_7 : decode cX12_act 7 = .ok (.invokevirtual 274, 3) := by decide +kernel
theorem dX12_act_10 : decode cX12_act 10 = .ok (.ifCond .ne 5, 3) := by decide +kernel
theorem dX12_act_13 : decode cX12_act 13 = .ok (.iconst (-1), 1) := by decide +kernel
theorem dX12_act_14 : decode cX12_act 14 = .ok (.ireturn, 1) := by decide +kernel
theorem dX12_act_15 : decode cX12_act 15 = .ok (.iconst 0, 1) := by decide +kernel
theorem dX12_act_16 : decode cX12_act 16 = .ok (.istore_n 2, 1) := by decide +kernel
theorem dX12_act_17 : decode cX12_act 17 = .ok (.iconst 0, 1) := by decide +kernel
theorem dX12_act_18 : decode cX12_act 18 = .ok (.istore_n 3, 1) := by decide +kernel
theorem dX12_act_19 : decode cX12_act 19 = .ok (.iload_n 3, 1) := by decide +kernel
theorem dX12_act_20 : decode cX12_act 20 = .ok (.aload_n 0, 1) := by decide +kernel
theorem dX12_act_21 : decode cX12_act 21 = .ok (.getfield 365, 3) := by decide +kernel
theorem dX12_act_24 : decode cX12_act 24 = .ok (.if_icmp .ge 30, 3) := by decide +kernel
theorem dX12_act_27 : decode cX12_act 27 = .ok (.iload_n 2, 1) := by decide +kernel
theorem dX12_act_28 : decode cX12_act 28 = .ok (.aload_n 0, 1) := by decide +kernel
theorem dX12_act_29 : decode cX12_act 29 = .ok (.getfield 100, 3) := by decide +kernel
theorem dX12_act_32 : decode cX12_act 32 = .ok (.iload_n 3, 1) := by decide +kernel
theorem dX12_act_33 : decode cX12_act 33 = .ok (.iaload, 1) := by decide +kernel
theorem dX12_act_34 : decode cX12_act 34 = .ok (.bipush 16, 2) := by decide +kernel
theorem dX12_act_36 : decode cX12_act 36 = .ok (.idiv, 1) := by decide +kernel
theorem dX12_act_37 : decode cX12_act 37 = .ok (.iload_n 1, 1) := by decide +kernel
theorem dX12_act_38 : decode cX12_act 38 = .ok (.if_icmp .ne 7, 3) := by decide +kernel
theorem dX12_act_41 : decode cX12_act 41 = .ok (.iconst 1, 1) := by decide +kernel
theorem dX12_act_42 : decode cX12_act 42 = .ok (.goto 4, 3) := by decide +kernel
theorem dX12_act_45 : decode cX12_act 45 = .ok (.iconst 0, 1) := by decide +kernel
theorem dX12_act_46 : decode cX12_act 46 = .ok (.iadd, 1) := by decide +kernel
theorem dX12_act_47 : decode cX12_act 47 = .ok (.istore_n 2, 1) := by decide +kernel
theorem dX12_act_48 : decode cX12_act 48 = .ok (.iinc 3 1, 3) := by decide +kernel
theorem dX12_act_51 : decode cX12_act 51 = .ok (.goto (-32), 3) := by decide +kernel
theorem dX12_act_54 : decode cX12_act 54 = .ok (.iload_n 2, 1) := by decide +kernel
theorem dX12_act_55 : decode cX12_act 55 = .ok (.aload_n 0, 1) := by decide +kernel
theorem dX12_act_56 : decode cX12_act 56 = .ok (.getfield 40, 3) := by decide +kernel
theorem dX12_act_59 : decode cX12_act 59 = .ok (.iload_n 1, 1) := by decide +kernel
theorem dX12_act_60 : decode cX12_act 60 = .ok (.iaload, 1) := by decide +kernel
theorem dX12_act_61 : decode cX12_act 61 = .ok (.if_icmp .ne 5, 3) := by decide +kernel
theorem dX12_act_64 : decode cX12_act 64 = .ok (.iconst (-1), 1) := by decide +kernel
theorem dX12_act_65 : decode cX12_act 65 = .ok (.ireturn, 1) := by decide +kernel
theorem dX12_act_66 : decode cX12_act 66 = .ok (.aload_n 0, 1) := by decide +kernel
theorem dX12_act_67 : decode cX12_act 67 = .ok (.getfield 100, 3) := by decide +kernel
theorem dX12_act_70 : decode cX12_act 70 = .ok (.aload_n 0, 1) := by decide +kernel
theorem dX12_act_71 : decode cX12_act 71 = .ok (.getfield 365, 3) := by decide +kernel
theorem dX12_act_74 : decode cX12_act 74 = .ok (.bipush 16, 2) := by decide +kernel
theorem dX12_act_76 : decode cX12_act 76 = .ok (.iload_n 1, 1) := by decide +kernel
theorem dX12_act_77 : decode cX12_act 77 = .ok (.imul, 1) := by decide +kernel
theorem dX12_act_78 : decode cX12_act 78 = .ok (.iload_n 2, 1) := by decide +kernel
theorem dX12_act_79 : decode cX12_act 79 = .ok (.iadd, 1) := by decide +kernel
theorem dX12_act_80 : decode cX12_act 80 = .ok (.iastore, 1) := by decide +kernel
theorem dX12_act_81 : decode cX12_act 81 = .ok (.aload_n 0, 1) := by decide +kernel
theorem dX12_act_82 : decode cX12_act 82 = .ok (.dup, 1) := by decide +kernel
theorem dX12_act_83 : decode cX12_act 83 = .ok (.getfield 365, 3) := by decide +kernel
theorem dX12_act_86 : decode cX12_act 86 = .ok (.iconst 1, 1) := by decide +kernel
theorem dX12_act_87 : decode cX12_act 87 = .ok (.iadd, 1) := by decide +kernel
theorem dX12_act_88 : decode cX12_act 88 = .ok (.putfield 365, 3) := by decide +kernel
theorem dX12_act_91 : decode cX12_act 91 = .ok (.bipush 16, 2) := by decide +kernel
theorem dX12_act_93 : decode cX12_act 93 = .ok (.iload_n 1, 1) := by decide +kernel
theorem dX12_act_94 : decode cX12_act 94 = .ok (.imul, 1) := by decide +kernel
theorem dX12_act_95 : decode cX12_act 95 = .ok (.iload_n 2, 1) := by decide +kernel
theorem dX12_act_96 : decode cX12_act 96 = .ok (.iadd, 1) := by decide +kernel
theorem dX12_act_97 : decode cX12_act 97 = .ok (.ireturn, 1) := by decide +kernel
theorem dX12_play_0 : decode cX12_play 0 = .ok (.aload_n 0, 1) := by decide +kernel
theorem dX12_play_1 : decode cX12_play 1 = .ok (.iconst 0, 1) := by decide +kernel
theorem dX12_play_2 : decode cX12_play 2 = .ok (.putfield 116, 3) := by decide +kernel
theorem dX12_play_5 : decode cX12_play 5 = .ok (.iload_n 1, 1) := by decide +kernel
theorem dX12_play_6 : decode cX12_play 6 = .ok (.iconst (-1), 1) := by decide +kernel
theorem dX12_play_7 : decode cX12_play 7 = .ok (.if_icmp .ne 10, 3) := by decide +kernel
theorem dX12_play_10 : decode cX12_play 10 = .ok (.aload_n 0, 1) := by decide +kernel
theorem dX12_play_11 : decode cX12_play 11 = .ok (.getfield 365, 3) := by decide +kernel
theorem dX12_play_14 : decode cX12_play 14 = .ok (.goto 27, 3) := by decide +kernel
theorem dX12_play_17 : decode cX12_play 17 = .ok (.iload_n 1, 1) := by decide +kernel
theorem dX12_play_18 : decode cX12_play 18 = .ok (.iconst 0, 1) := by decide +kernel
theorem dX12_play_19 : decode cX12_play 19 = .ok (.aload_n 0, 1) := by decide +kernel
theorem dX12_play_20 : decode cX12_play 20 = .ok (.getfield 365, 3) := by decide +kernel
theorem dX12_play_23 : decode cX12_play 23 = .ok (.iconst 1, 1) := by decide +kernel
theorem dX12_play_24 : decode cX12_play 24 = .ok (.isub, 1) := by decide +kernel
theorem dX12_play_25 : decode cX12_play 25 = .ok (.invokestatic 250, 3) := by decide +kernel
theorem dX12_play_28 : decode cX12_play 28 = .ok (.ifCond .eq 12, 3) := by decide +kernel
theorem dX12_play_31 : decode cX12_play 31 = .ok (.aload_n 0, 1) := by decide +kernel
theorem dX12_play_32 : decode cX12_play 32 = .ok (.getfield 100, 3) := by decide +kernel
theorem dX12_play_35 : decode cX12_play 35 = .ok (.iload_n 1, 1) := by decide +kernel
theorem dX12_play_36 : decode cX12_play 36 = .ok (.iaload, 1) := by decide +kernel
theorem dX12_play_37 : decode cX12_play 37 = .ok (.goto 4, 3) := by decide +kernel
theorem dX12_play_40 : decode cX12_play 40 = .ok (.iconst (-1), 1) := by decide +kernel
theorem dX12_play_41 : decode cX12_play 41 = .ok (.ireturn, 1) := by decide +kernel
theorem dX12_isWrong_0 : decode cX12_isWrong 0 = .ok (.aload_n 0, 1) := by decide +kernel
theorem dX12_isWrong_1 : decode cX12_isWrong 1 = .ok (.getfield 100, 3) := by decide +kernel
theorem dX12_isWrong_4 : decode cX12_isWrong 4 = .ok (.iload_n 1, 1) := by decide +kernel
theorem dX12_isWrong_5 : decode cX12_isWrong 5 = .ok (.iaload, 1) := by decide +kernel
theorem dX12_isWrong_6 : decode cX12_isWrong 6 = .ok (.istore_n 2, 1) := by decide +kernel
theorem dX12_isWrong_7 : decode cX12_isWrong 7 = .ok (.iload_n 1, 1) := by decide +kernel
theorem dX12_isWrong_8 : decode cX12_isWrong 8 = .ok (.ifCond .ne 18, 3) := by decide +kernel
theorem dX12_isWrong_11 : decode cX12_isWrong 11 = .ok (.aload_n 0, 1) := by decide +kernel
theorem dX12_isWrong_12 : decode cX12_isWrong 12 = .ok (.getfield 43, 3) := by decide +kernel
theorem dX12_isWrong_15 : decode cX12_isWrong 15 = .ok (.iload_n 2, 1) := by decide +kernel
theorem dX12_isWrong_16 : decode cX12_isWrong 16 = .ok (.iaload, 1) := by decide +kernel
theorem dX12_isWrong_17 : decode cX12_isWrong 17 = .ok (.ifCond .le 7, 3) := by decide +kernel
theorem dX12_isWrong_20 : decode cX12_isWrong 20 = .ok (.iconst 1, 1) := by decide +kernel
theorem dX12_isWrong_21 : decode cX12_isWrong 21 = .ok (.goto 4, 3) := by decide +kernel
theorem dX12_isWrong_24 : decode cX12_isWrong 24 = .ok (.iconst 0, 1) := by decide +kernel
theorem dX12_isWrong_25 : decode cX12_isWrong 25 = .ok (.ireturn, 1) := by decide +kernel
theorem dX12_isWrong_26 : decode cX12_isWrong 26 = .ok (.aload_n 0, 1) := by decide +kernel
theorem dX12_isWrong_27 : decode cX12_isWrong 27 = .ok (.getfield 100, 3) := by decide +kernel
theorem dX12_isWrong_30 : decode cX12_isWrong 30 = .ok (.iload_n 1, 1) := by decide +kernel
theorem dX12_isWrong_31 : decode cX12_isWrong 31 = .ok (.iconst 1, 1) := by decide +kernel
theorem dX12_isWrong_32 : decode cX12_isWrong 32 = .ok (.isub, 1) := by decide +kernel
theorem dX12_isWrong_33 : decode cX12_isWrong 33 = .ok (.iaload, 1) := by decide +kernel
theorem dX12_isWrong_34 : decode cX12_isWrong 34 = .ok (.bipush 16, 2) := by decide +kernel
theorem dX12_isWrong_36 : decode cX12_isWrong 36 = .ok (.idiv, 1) := by decide +kernel
theorem dX12_isWrong_37 : decode cX12_isWrong 37 = .ok (.iload_n 2, 1) := by decide +kernel
theorem dX12_isWrong_38 : decode cX12_isWrong 38 = .ok (.bipush 16, 2) := by decide +kernel
theorem dX12_isWrong_40 : decode cX12_isWrong 40 = .ok (.idiv, 1) := by decide +kernel
theorem dX12_isWrong_41 : decode cX12_isWrong 41 = .ok (.if_icmp .eq 19, 3) := by decide +kernel
theorem dX12_isWrong_44 : decode cX12_isWrong 44 = .ok (.aload_n 0, 1) := by decide +kernel
theorem dX12_isWrong_45 : decode cX12_isWrong 45 = .ok (.iload_n 2, 1) := by decide +kernel
theorem dX12_isWrong_46 : decode cX12_isWrong 46 = .ok (.aload_n 0, 1) := by decide +kernel
theorem dX12_isWrong_47 : decode cX12_isWrong 47 = .ok (.getfield 100, 3) := by decide +kernel
theorem dX12_isWrong_50 : decode cX12_isWrong 50 = .ok (.iload_n 1, 1) := by decide +kernel
theorem dX12_isWrong_51 : decode cX12_isWrong 51 = .ok (.iconst 1, 1) := by decide +kernel
theorem dX12_isWrong_52 : decode cX12_isWrong 52 = .ok (.isub, 1) := by decide +kernel
theorem dX12_isWrong_53 : decode cX12_isWrong 53 = .ok (.iaload, 1) := by decide +kernel
theorem dX12_isWrong_54 : decode cX12_isWrong 54 = .ok (.invokevirtual 288, 3) := by decide +kernel
theorem dX12_isWrong_57 : decode cX12_isWrong 57 = .ok (.ifCond .ne 7, 3) := by decide +kernel
theorem dX12_isWrong_60 : decode cX12_isWrong 60 = .ok (.iconst 1, 1) := by decide +kernel
theorem dX12_isWrong_61 : decode cX12_isWrong 61 = .ok (.goto 4, 3) := by decide +kernel
theorem dX12_isWrong_64 : decode cX12_isWrong 64 = .ok (.iconst 0, 1) := by decide +kernel
theorem dX12_isWrong_65 : decode cX12_isWrong 65 = .ok (.ireturn, 1) := by decide +kernel
theorem dX12_wrong_0 : decode cX12_wrong 0 = .ok (.aload_n 0, 1) := by decide +kernel
theorem dX12_wrong_1 : decode cX12_wrong 1 = .ok (.iconst 0, 1) := by decide +kernel
theorem dX12_wrong_2 : decode cX12_wrong 2 = .ok (.putfield 116, 3) := by decide +kernel
theorem dX12_wrong_5 : decode cX12_wrong 5 = .ok (.iconst 0, 1) := by decide +kernel
theorem dX12_wrong_6 : decode cX12_wrong 6 = .ok (.istore_n 2, 1) := by decide +kernel
theorem dX12_wrong_7 : decode cX12_wrong 7 = .ok (.iconst 0, 1) := by decide +kernel
theorem dX12_wrong_8 : decode cX12_wrong 8 = .ok (.istore_n 3, 1) := by decide +kernel
theorem dX12_wrong_9 : decode cX12_wrong 9 = .ok (.iload_n 3, 1) := by decide +kernel
theorem dX12_wrong_10 : decode cX12_wrong 10 = .ok (.aload_n 0, 1) := by decide +kernel
theorem dX12_wrong_11 : decode cX12_wrong 11 = .ok (.getfield 365, 3) := by decide +kernel
theorem dX12_wrong_14 : decode cX12_wrong 14 = .ok (.if_icmp .ge 30, 3) := by decide +kernel
theorem dX12_wrong_17 : decode cX12_wrong 17 = .ok (.aload_n 0, 1) := by decide +kernel
theorem dX12_wrong_18 : decode cX12_wrong 18 = .ok (.iload_n 3, 1) := by decide +kernel
theorem dX12_wrong_19 : decode cX12_wrong 19 = .ok (.invokevirtual 368, 3) := by decide +kernel
theorem dX12_wrong_22 : decode cX12_wrong 22 = .ok (.ifCond .ne 6, 3) := by decide +kernel
theorem dX12_wrong_25 : decode cX12_wrong 25 = .ok (.goto 13, 3) := by decide +kernel
theorem dX12_wrong_28 : decode cX12_wrong 28 = .ok (.iload_n 2, 1) := by decide +kernel
theorem dX12_wrong_29 : decode cX12_wrong 29 = .ok (.iload_n 1, 1) := by decide +kernel
theorem dX12_wrong_30 : decode cX12_wrong 30 = .ok (.if_icmp .ne 5, 3) := by decide +kernel
theorem dX12_wrong_33 : decode cX12_wrong 33 = .ok (.iload_n 3, 1) := by decide +kernel
theorem dX12_wrong_34 : decode cX12_wrong 34 = .ok (.ireturn, 1) := by decide +kernel
theorem dX12_wrong_35 : decode cX12_wrong 35 = .ok (.iinc 2 1, 3) := by decide +kernel
theorem dX12_wrong_38 : decode cX12_wrong 38 = .ok (.iinc 3 1, 3) := by decide +kernel
theorem dX12_wrong_41 : decode cX12_wrong 41 = .ok (.goto (-32), 3) := by decide +kernel
theorem dX12_wrong_44 : decode cX12_wrong 44 = .ok (.iload_n 1, 1) := by decide +kernel
theorem dX12_wrong_45 : decode cX12_wrong 45 = .ok (.iconst (-1), 1) := by decide +kernel
theorem dX12_wrong_46 : decode cX12_wrong 46 = .ok (.if_icmp .ne 7, 3) := by decide +kernel
theorem dX12_wrong_49 : decode cX12_wrong 49 = .ok (.iload_n 2, 1) := by decide +kernel
theorem dX12_wrong_50 : decode cX12_wrong 50 = .ok (.goto 4, 3) := by decide +kernel
theorem dX12_wrong_53 : decode cX12_wrong 53 = .ok (.iconst (-1), 1) := by decide +kernel
theorem dX12_wrong_54 : decode cX12_wrong 54 = .ok (.ireturn, 1) := by decide +kernel
theorem dX12_lowestReady_0 : decode cX12_lowestReady 0 = .ok (.iconst 0, 1) := by decide +kernel
theorem dX12_lowestReady_1 : decode cX12_lowestReady 1 = .ok (.istore_n 1, 1) := by decide +kernel
theorem dX12_lowestReady_2 : decode cX12_lowestReady 2 = .ok (.iload_n 1, 1) := by decide +kernel
theorem dX12_lowestReady_3 : decode cX12_lowestReady 3 = .ok (.aload_n 0, 1) := by decide +kernel
theorem dX12_lowestReady_4 : decode cX12_lowestReady 4 = .ok (.getfield 263, 3) := by decide +kernel
theorem dX12_lowestReady_7 : decode cX12_lowestReady 7 = .ok (.if_icmp .ge 20, 3) := by decide +kernel
theorem dX12_lowestReady_10 : decode cX12_lowestReady 10 = .ok (.aload_n 0, 1) := by decide +kernel
theorem dX12_lowestReady_11 : decode cX12_lowestReady 11 = .ok (.getfield 109, 3) := by decide +kernel
theorem dX12_lowestReady_14 : decode cX12_lowestReady 14 = .ok (.iload_n 1, 1) := by decide +kernel
theorem dX12_lowestReady_15 : decode cX12_lowestReady 15 = .ok (.baload, 1) := by decide +kernel
theorem dX12_lowestReady_16 : decode cX12_lowestReady 16 = .ok (.ifCond .eq 5, 3) := by decide +kernel
theorem dX12_lowestReady_19 : decode cX12_lowestReady 19 = .ok (.iload_n 1, 1) := by decide +kernel
theorem dX12_lowestReady_20 : decode cX12_lowestReady 20 = .ok (.ireturn, 1) := by decide +kernel
theorem dX12_lowestReady_21 : decode cX12_lowestReady 21 = .ok (.iinc 1 1, 3) := by decide +kernel
theorem dX12_lowestReady_24 : decode cX12_lowestReady 24 = .ok (.goto (-22), 3) := by decide +kernel
theorem dX12_lowestReady_27 : decode cX12_lowestReady 27 = .ok (.iconst (-1), 1) := by decide +kernel
theorem dX12_lowestReady_28 : decode cX12_lowestReady 28 = .ok (.ireturn, 1) := by decide +kernel
theorem dX12_goRehearsal_0 : decode cX12_goRehearsal 0 = .ok (.aload_n 0, 1) := by decide +kernel
theorem dX12_goRehearsal_1 : decode cX12_goRehearsal 1 = .ok (.iconst 0, 1) := by decide +kernel
theorem dX12_goRehearsal_2 : decode cX12_goRehearsal 2 = .ok (.putfield 371, 3) := by decide +kernel
theorem dX12_goRehearsal_5 : decode cX12_goRehearsal 5 = .ok (.iconst 0, 1) := by decide +kernel
theorem dX12_goRehearsal_6 : decode cX12_goRehearsal 6 = .ok (.istore_n 2, 1) := by decide +kernel
theorem dX12_goRehearsal_7 : decode cX12_goRehearsal 7 = .ok (.iload_n 2, 1) := by decide +kernel
theorem dX12_goRehearsal_8 : decode cX12_goRehearsal 8 = .ok (.aload_n 0, 1) := by decide +kernel
theorem dX12_goRehearsal_9 : decode cX12_goRehearsal 9 = .ok (.getfield 263, 3) := by decide +kernel
theorem dX12_goRehearsal_12 : decode cX12_goRehearsal 12 = .ok (.if_icmp .ge 47, 3) := by decide +kernel
theorem dX12_goRehearsal_15 : decode cX12_goRehearsal 15 = .ok (.aload_n 0, 1) := by decide +kernel
theorem dX12_goRehearsal_16 : decode cX12_goRehearsal 16 = .ok (.getfield 106, 3) := by decide +kernel
theorem dX12_goRehearsal_19 : decode cX12_goRehearsal 19 = .ok (.iload_n 2, 1) := by decide +kernel
theorem dX12_goRehearsal_20 : decode cX12_goRehearsal 20 = .ok (.iconst 0, 1) := by decide +kernel
theorem dX12_goRehearsal_21 : decode cX12_goRehearsal 21 = .ok (.iastore, 1) := by decide +kernel
theorem dX12_goRehearsal_22 : decode cX12_goRehearsal 22 = .ok (.aload_n 0, 1) := by decide +kernel
theorem dX12_goRehearsal_23 : decode cX12_goRehearsal 23 = .ok (.getfield 109, 3) := by decide +kernel
theorem dX12_goRehearsal_26 : decode cX12_goRehearsal 26 = .ok (.iload_n 2, 1) := by decide +kernel
theorem dX12_goRehearsal_27 : decode cX12_goRehearsal 27 = .ok (.iload_n 1, 1) := by decide +kernel
theorem dX12_goRehearsal_28 : decode cX12_goRehearsal 28 = .ok (.iload_n 2, 1) := by decide +kernel
theorem dX12_goRehearsal_29 : decode cX12_goRehearsal 29 = .ok (.invokestatic 246, 3) := by decide +kernel
theorem dX12_goRehearsal_32 : decode cX12_goRehearsal 32 = .ok (.ifCond .eq 19, 3) := by decide +kernel
theorem dX12_goRehearsal_35 : decode cX12_goRehearsal 35 = .ok (.aload_n 0, 1) := by decide +kernel
theorem dX12_goRehearsal_36 : decode cX12_goRehearsal 36 = .ok (.getfield 43, 3) := by decide +kernel
theorem dX12_goRehearsal_39 : decode cX12_goRehearsal 39 = .ok (.bipush 16, 2) := by decide +kernel
theorem dX12_goRehearsal_41 : decode cX12_goRehearsal 41 = .ok (.iload_n 2, 1) := by decide +kernel
theorem dX12_goRehearsal_42 : decode cX12_goRehearsal 42 = .ok (.imul, 1) := by decide +kernel
theorem dX12_goRehearsal_43 : decode cX12_goRehearsal 43 = .ok (.iaload, 1) := by decide +kernel
theorem dX12_goRehearsal_44 : decode cX12_goRehearsal 44 = .ok (.ifCond .ne 7, 3) := by decide +kernel
theorem dX12_goRehearsal_47 : decode cX12_goRehearsal 47 = .ok (.iconst 1, 1) := by decide +kernel
theorem dX12_goRehearsal_48 : decode cX12_goRehearsal 48 = .ok (.goto 4, 3) := by decide +kernel
theorem dX12_goRehearsal_51 : decode cX12_goRehearsal 51 = .ok (.iconst 0, 1) := by decide +kernel
theorem dX12_goRehearsal_52 : decode cX12_goRehearsal 52 = .ok (.bastore, 1) := by decide +kernel
theorem dX12_goRehearsal_53 : decode cX12_goRehearsal 53 = .ok (.iinc 2 1, 3) := by decide +kernel
theorem dX12_goRehearsal_56 : decode cX12_goRehearsal 56 = .ok (.goto (-49), 3) := by decide +kernel
theorem dX12_goRehearsal_59 : decode cX12_goRehearsal 59 = .ok (.aload_n 0, 1) := by decide +kernel
theorem dX12_goRehearsal_60 : decode cX12_goRehearsal 60 = .ok (.invokevirtual 374, 3) := by decide +kernel
theorem dX12_goRehearsal_63 : decode cX12_goRehearsal 63 = .ok (.istore_n 2, 1) := by decide +kernel
theorem dX12_goRehearsal_64 : decode cX12_goRehearsal 64 = .ok (.iload_n 2, 1) := by decide +kernel
theorem dX12_goRehearsal_65 : decode cX12_goRehearsal 65 = .ok (.iconst (-1), 1) := by decide +kernel
theorem dX12_goRehearsal_66 : decode cX12_goRehearsal 66 = .ok (.if_icmp .eq 139, 3) := by decide +kernel
theorem dX12_goRehearsal_69 : decode cX12_goRehearsal 69 = .ok (.bipush 16, 2) := by decide +kernel
theorem dX12_goRehearsal_71 : decode cX12_goRehearsal 71 = .ok (.iload_n 2, 1) := by decide +kernel
theorem dX12_goRehearsal_72 : decode cX12_goRehearsal 72 = .ok (.imul, 1) := by decide +kernel
theorem dX12_goRehearsal_73 : decode cX12_goRehearsal 73 = .ok (.aload_n 0, 1) := by decide +kernel
theorem dX12_goRehearsal_74 : decode cX12_goRehearsal 74 = .ok (.getfield 106, 3) := by decide +kernel
theorem dX12_goRehearsal_77 : decode cX12_goRehearsal 77 = .ok (.iload_n 2, 1) := by decide +kernel
theorem dX12_goRehearsal_78 : decode cX12_goRehearsal 78 = .ok (.iaload, 1) := by decide +kernel
theorem dX12_goRehearsal_79 : decode cX12_goRehearsal 79 = .ok (.iadd, 1) := by decide +kernel
theorem dX12_goRehearsal_80 : decode cX12_goRehearsal 80 = .ok (.istore_n 3, 1) := by decide +kernel
theorem dX12_goRehearsal_81 : decode cX12_goRehearsal 81 = .ok (.aload_n 0, 1) := by decide +kernel
theorem dX12_goRehearsal_82 : decode cX12_goRehearsal 82 = .ok (.getfield 103, 3) := by decide +kernel
theorem dX12_goRehearsal_85 : decode cX12_goRehearsal 85 = .ok (.aload_n 0, 1) := by decide +kernel
theorem dX12_goRehearsal_86 : decode cX12_goRehearsal 86 = .ok (.getfield 371, 3) := by decide +kernel
theorem dX12_goRehearsal_89 : decode cX12_goRehearsal 89 = .ok (.iload_n 3, 1) := by decide +kernel
theorem dX12_goRehearsal_90 : decode cX12_goRehearsal 90 = .ok (.iastore, 1) := by decide +kernel
theorem dX12_goRehearsal_91 : decode cX12_goRehearsal 91 = .ok (.aload_n 0, 1) := by decide +kernel
theorem dX12_goRehearsal_92 : decode cX12_goRehearsal 92 = .ok (.dup, 1) := by decide +kernel
theorem dX12_goRehearsal_93 : decode cX12_goRehearsal 93 = .ok (.getfield 371, 3) := by decide +kernel
theorem dX12_goRehearsal_96 : decode cX12_goRehearsal 96 = .ok (.iconst 1, 1) := by decide +kernel
theorem dX12_goRehearsal_97 : decode cX12_goRehearsal 97 = .ok (.iadd, 1) := by decide +kernel
theorem dX12_goRehearsal_98 : decode cX12_goRehearsal 98 = .ok (.putfield 371, 3) := by decide +kernel
theorem dX12_goRehearsal_101 : decode cX12_goRehearsal 101 = .ok (.aload_n 0, 1) := by decide +kernel
theorem dX12_goRehearsal_102 : decode cX12_goRehearsal 102 = .ok (.getfield 106, 3) := by decide +kernel
theorem dX12_goRehearsal_105 : decode cX12_goRehearsal 105 = .ok (.iload_n 2, 1) := by decide +kernel
theorem dX12_goRehearsal_106 : decode cX12_goRehearsal 106 = .ok (.dup2, 1) := by decide +kernel
theorem dX12_goRehearsal_107 : decode cX12_goRehearsal 107 = .ok (.iaload, 1) := by decide +kernel
theorem dX12_goRehearsal_108 : decode cX12_goRehearsal 108 = .ok (.iconst 1, 1) := by decide +kernel
theorem dX12_goRehearsal_109 : decode cX12_goRehearsal 109 = .ok (.iadd, 1) := by decide +kernel
theorem dX12_goRehearsal_110 : decode cX12_goRehearsal 110 = .ok (.iastore, 1) := by decide +kernel
theorem dX12_goRehearsal_111 : decode cX12_goRehearsal 111 = .ok (.aload_n 0, 1) := by decide +kernel
theorem dX12_goRehearsal_112 : decode cX12_goRehearsal 112 = .ok (.getfield 109, 3) := by decide +kernel
theorem dX12_goRehearsal_115 : decode cX12_goRehearsal 115 = .ok (.iload_n 2, 1) := by decide +kernel
theorem dX12_goRehearsal_116 : decode cX12_goRehearsal 116 = .ok (.iconst 0, 1) := by decide +kernel
theorem dX12_goRehearsal_117 : decode cX12_goRehearsal 117 = .ok (.bastore, 1) := by decide +kernel
theorem dX12_goRehearsal_118 : decode cX12_goRehearsal 118 = .ok (.iconst 0, 1) := by decide +kernel
theorem dX12_goRehearsal_119 : decode cX12_goRehearsal 119 = .ok (.istore 4, 2) := by decide +kernel
theorem dX12_goRehearsal_121 : decode cX12_goRehearsal 121 = .ok (.iload 4, 2) := by decide +kernel
theorem dX12_goRehearsal_123 : decode cX12_goRehearsal 123 = .ok (.aload_n 0, 1) := by decide +kernel
theorem dX12_goRehearsal_124 : decode cX12_goRehearsal 124 = .ok (.getfield 263, 3) := by decide +kernel
theorem dX12_goRehearsal_127 : decode cX12_goRehearsal 127 = .ok (.if_icmp .ge 70, 3) := by decide +kernel
theorem dX12_goRehearsal_130 : decode cX12_goRehearsal 130 = .ok (.iload 4, 2) := by decide +kernel
theorem dX12_goRehearsal_132 : decode cX12_goRehearsal 132 = .ok (.iload_n 2, 1) := by decide +kernel
theorem dX12_goRehearsal_133 : decode cX12_goRehearsal 133 = .ok (.if_icmp .eq 58, 3) := by decide +kernel
theorem dX12_goRehearsal_136 : decode cX12_goRehearsal 136 = .ok (.iload_n 1, 1) := by decide +kernel
theorem dX12_goRehearsal_137 : decode cX12_goRehearsal 137 = .ok (.iload 4, 2) := by decide +kernel
theorem dX12_goRehearsal_139 : decode cX12_goRehearsal 139 = .ok (.invokestatic 246, 3) := by decide +kernel
theorem dX12_goRehearsal_142 : decode cX12_goRehearsal 142 = .ok (.ifCond .eq 49, 3) := by decide +kernel
theorem dX12_goRehearsal_145 : decode cX12_goRehearsal 145 = .ok (.aload_n 0, 1) := by decide +kernel
theorem dX12_goRehearsal_146 : decode cX12_goRehearsal 146 = .ok (.getfield 106, 3) := by decide +kernel
theorem dX12_goRehearsal_149 : decode cX12_goRehearsal 149 = .ok (.iload 4, 2) := by decide +kernel
theorem dX12_goRehearsal_151 : decode cX12_goRehearsal 151 = .ok (.iaload, 1) := by decide +kernel
theorem dX12_goRehearsal_152 : decode cX12_goRehearsal 152 = .ok (.aload_n 0, 1) := by decide +kernel
theorem dX12_goRehearsal_153 : decode cX12_goRehearsal 153 = .ok (.getfield 40, 3) := by decide +kernel
theorem dX12_goRehearsal_156 : decode cX12_goRehearsal 156 = .ok (.iload 4, 2) := by decide +kernel
theorem dX12_goRehearsal_158 : decode cX12_goRehearsal 158 = .ok (.iaload, 1) := by decide +kernel
theorem dX12_goRehearsal_159 : decode cX12_goRehearsal 159 = .ok (.if_icmp .ge 32, 3) := by decide +kernel
theorem dX12_goRehearsal_162 : decode cX12_goRehearsal 162 = .ok (.aload_n 0, 1) := by decide +kernel
theorem dX12_goRehearsal_163 : decode cX12_goRehearsal 163 = .ok (.bipush 16, 2) := by decide +kernel
theorem dX12_goRehearsal_165 : decode cX12_goRehearsal 165 = .ok (.iload 4, 2) := by decide +kernel
theorem dX12_goRehearsal_167 : decode cX12_goRehearsal 167 = .ok (.imul, 1) := by decide +kernel
theorem dX12_goRehearsal_168 : decode cX12_goRehearsal 168 = .ok (.aload_n 0, 1) := by decide +kernel
theorem dX12_goRehearsal_169 : decode cX12_goRehearsal 169 = .ok (.getfield 106, 3) := by decide +kernel
theorem dX12_goRehearsal_172 : decode cX12_goRehearsal 172 = .ok (.iload 4, 2) := by decide +kernel
theorem dX12_goRehearsal_174 : decode cX12_goRehearsal 174 = .ok (.iaload, 1) := by decide +kernel
theorem dX12_goRehearsal_175 : decode cX12_goRehearsal 175 = .ok (.iadd, 1) := by decide +kernel
theorem dX12_goRehearsal_176 : decode cX12_goRehearsal 176 = .ok (.iload_n 3, 1) := by decide +kernel
theorem dX12_goRehearsal_177 : decode cX12_goRehearsal 177 = .ok (.invokevirtual 288, 3) := by decide +kernel
theorem dX12_goRehearsal_180 : decode cX12_goRehearsal 180 = .ok (.ifCond .eq 11, 3) := by decide +kernel
theorem dX12_goRehearsal_183 : decode cX12_goRehearsal 183 = .ok (.aload_n 0, 1) := by decide +kernel
theorem dX12_goRehearsal_184 : decode cX12_goRehearsal 184 = .ok (.getfield 109, 3) := by decide +kernel
theorem dX12_goRehearsal_187 : decode cX12_goRehearsal 187 = .ok (.iload 4, 2) := by decide +kernel
theorem dX12_goRehearsal_189 : decode cX12_goRehearsal 189 = .ok (.iconst 1, 1) := by decide +kernel
theorem dX12_goRehearsal_190 : decode cX12_goRehearsal 190 = .ok (.bastore, 1) := by decide +kernel
theorem dX12_goRehearsal_191 : decode cX12_goRehearsal 191 = .ok (.iinc 4 1, 3) := by decide +kernel
theorem dX12_goRehearsal_194 : decode cX12_goRehearsal 194 = .ok (.goto (-73), 3) := by decide +kernel
theorem dX12_goRehearsal_197 : decode cX12_goRehearsal 197 = .ok (.aload_n 0, 1) := by decide +kernel
theorem dX12_goRehearsal_198 : decode cX12_goRehearsal 198 = .ok (.invokevirtual 374, 3) := by decide +kernel
theorem dX12_goRehearsal_201 : decode cX12_goRehearsal 201 = .ok (.istore_n 2, 1) := by decide +kernel
theorem dX12_goRehearsal_202 : decode cX12_goRehearsal 202 = .ok (.goto (-138), 3) := by decide +kernel
theorem dX12_goRehearsal_205 : decode cX12_goRehearsal 205 = .ok (.return_, 1) := by decide +kernel
theorem dX12_rehearse_0 : decode cX12_rehearse 0 = .ok (.aload_n 0, 1) := by decide +kernel
theorem dX12_rehearse_1 : decode cX12_rehearse 1 = .ok (.iconst 0, 1) := by decide +kernel
theorem dX12_rehearse_2 : decode cX12_rehearse 2 = .ok (.putfield 116, 3) := by decide +kernel
theorem dX12_rehearse_5 : decode cX12_rehearse 5 = .ok (.aload_n 0, 1) := by decide +kernel
theorem dX12_rehearse_6 : decode cX12_rehearse 6 = .ok (.iload_n 1, 1) := by decide +kernel
theorem dX12_rehearse_7 : decode cX12_rehearse 7 = .ok (.invokevirtual 320, 3) := by decide +kernel
theorem dX12_rehearse_10 : decode cX12_rehearse 10 = .ok (.ifCond .ne 5, 3) := by decide +kernel
theorem dX12_rehearse_13 : decode cX12_rehearse 13 = .ok (.iconst (-1), 1) := by decide +kernel
theorem dX12_rehearse_14 : decode cX12_rehearse 14 = .ok (.ireturn, 1) := by decide +kernel
theorem dX12_rehearse_15 : decode cX12_rehearse 15 = .ok (.aload_n 0, 1) := by decide +kernel
theorem dX12_rehearse_16 : decode cX12_rehearse 16 = .ok (.iload_n 1, 1) := by decide +kernel
theorem dX12_rehearse_17 : decode cX12_rehearse 17 = .ok (.invokevirtual 377, 3) := by decide +kernel
theorem dX12_rehearse_20 : decode cX12_rehearse 20 = .ok (.iload_n 2, 1) := by decide +kernel
theorem dX12_rehearse_21 : decode cX12_rehearse 21 = .ok (.iconst (-1), 1) := by decide +kernel
theorem dX12_rehearse_22 : decode cX12_rehearse 22 = .ok (.if_icmp .ne 10, 3) := by decide +kernel
theorem dX12_rehearse_25 : decode cX12_rehearse 25 = .ok (.aload_n 0, 1) := by decide +kernel
theorem dX12_rehearse_26 : decode cX12_rehearse 26 = .ok (.getfield 371, 3) := by decide +kernel
theorem dX12_rehearse_29 : decode cX12_rehearse 29 = .ok (.goto 27, 3) := by decide +kernel
theorem dX12_rehearse_32 : decode cX12_rehearse 32 = .ok (.iload_n 2, 1) := by decide +kernel
theorem dX12_rehearse_33 : decode cX12_rehearse 33 = .ok (.iconst 0, 1) := by decide +kernel
theorem dX12_rehearse_34 : decode cX12_rehearse 34 = .ok (.aload_n 0, 1) := by decide +kernel
theorem dX12_rehearse_35 : decode cX12_rehearse 35 = .ok (.getfield 371, 3) := by decide +kernel
theorem dX12_rehearse_38 : decode cX12_rehearse 38 = .ok (.iconst 1, 1) := by decide +kernel
theorem dX12_rehearse_39 : decode cX12_rehearse 39 = .ok (.isub, 1) := by decide +kernel
theorem dX12_rehearse_40 : decode cX12_rehearse 40 = .ok (.invokestatic 250, 3) := by decide +kernel
theorem dX12_rehearse_43 : decode cX12_rehearse 43 = .ok (.ifCond .eq 12, 3) := by decide +kernel
theorem dX12_rehearse_46 : decode cX12_rehearse 46 = .ok (.aload_n 0, 1) := by decide +kernel
theorem dX12_rehearse_47 : decode cX12_rehearse 47 = .ok (.getfield 103, 3) := by decide +kernel
theorem dX12_rehearse_50 : decode cX12_rehearse 50 = .ok (.iload_n 2, 1) := by decide +kernel
theorem dX12_rehearse_51 : decode cX12_rehearse 51 = .ok (.iaload, 1) := by decide +kernel
theorem dX12_rehearse_52 : decode cX12_rehearse 52 = .ok (.goto 4, 3) := by decide +kernel
theorem dX12_rehearse_55 : decode cX12_rehearse 55 = .ok (.iconst (-1), 1) := by decide +kernel
theorem dX12_rehearse_56 : decode cX12_rehearse 56 = .ok (.ireturn, 1) := by decide +kernel
theorem dX12_soon_0 : decode cX12_soon 0 = .ok (.aload_n 0, 1) := by decide +kernel
theorem dX12_soon_1 : decode cX12_soon 1 = .ok (.iconst 0, 1) := by decide +kernel
theorem dX12_soon_2 : decode cX12_soon 2 = .ok (.putfield 116, 3) := by decide +kernel
theorem dX12_soon_5 : decode cX12_soon 5 = .ok (.aload_n 0, 1) := by decide +kernel
theorem dX12_soon_6 : decode cX12_soon 6 = .ok (.iload_n 1, 1) := by decide +kernel
theorem dX12_soon_7 : decode cX12_soon 7 = .ok (.invokevirtual 320, 3) := by decide +kernel
theorem dX12_soon_10 : decode cX12_soon 10 = .ok (.ifCond .ne 5, 3) := by decide +kernel
theorem dX12_soon_13 : decode cX12_soon 13 = .ok (.iconst (-1), 1) := by decide +kernel
theorem dX12_soon_14 : decode cX12_soon 14 = .ok (.ireturn, 1) := by decide +kernel
theorem dX12_soon_15 : decode cX12_soon 15 = .ok (.aload_n 0, 1) := by decide +kernel
theorem dX12_soon_16 : decode cX12_soon 16 = .ok (.iload_n 1, 1) := by decide +kernel
theorem dX12_soon_17 : decode cX12_soon 17 = .ok (.invokevirtual 377, 3) := by decide +kernel
theorem dX12_soon_20 : decode cX12_soon 20 = .ok (.iconst 0, 1) := by decide +kernel
theorem dX12_soon_21 : decode cX12_soon 21 = .ok (.istore_n 2, 1) := by decide +kernel
theorem dX12_soon_22 : decode cX12_soon 22 = .ok (.iconst 0, 1) := by decide +kernel
theorem dX12_soon_23 : decode cX12_soon 23 = .ok (.istore_n 3, 1) := by decide +kernel
theorem dX12_soon_24 : decode cX12_soon 24 = .ok (.iload_n 3, 1) := by decide +kernel
theorem dX12_soon_25 : decode cX12_soon 25 = .ok (.aload_n 0, 1) := by decide +kernel
theorem dX12_soon_26 : decode cX12_soon 26 = .ok (.getfield 365, 3) := by decide +kernel
theorem dX12_soon_29 : decode cX12_soon 29 = .ok (.if_icmp .ge 40, 3) := by decide +kernel
theorem dX12_soon_32 : decode cX12_soon 32 = .ok (.iload_n 2, 1) := by decide +kernel
theorem dX12_soon_33 : decode cX12_soon 33 = .ok (.iload_n 3, 1) := by decide +kernel
theorem dX12_soon_34 : decode cX12_soon 34 = .ok (.aload_n 0, 1) := by decide +kernel
theorem dX12_soon_35 : decode cX12_soon 35 = .ok (.getfield 371, 3) := by decide +kernel
theorem dX12_soon_38 : decode cX12_soon 38 = .ok (.if_icmp .ge 18, 3) := by decide +kernel
theorem dX12_soon_41 : decode cX12_soon 41 = .ok (.aload_n 0, 1) := by decide +kernel
theorem dX12_soon_42 : decode cX12_soon 42 = .ok (.getfield 103, 3) := by decide +kernel
theorem dX12_soon_45 : decode cX12_soon 45 = .ok (.iload_n 3, 1) := by decide +kernel
theorem dX12_soon_46 : decode cX12_soon 46 = .ok (.iaload, 1) := by decide +kernel
theorem dX12_soon_47 : decode cX12_soon 47 = .ok (.aload_n 0, 1) := by decide +kernel
theorem dX12_soon_48 : decode cX12_soon 48 = .ok (.getfield 100, 3) := by decide +kernel
theorem dX12_soon_51 : decode cX12_soon 51 = .ok (.iload_n 3, 1) := by decide +kernel
theorem dX12_soon_52 : decode cX12_soon 52 = .ok (.iaload, 1) := by decide +kernel
theorem dX12_soon_53 : decode cX12_soon 53 = .ok (.if_icmp .eq 7, 3) := by decide +kernel
theorem dX12_soon_56 : decode cX12_soon 56 = .ok (.iconst 1, 1) := by decide +kernel
theorem dX12_soon_57 : decode cX12_soon 57 = .ok (.goto 4, 3) := by decide +kernel
theorem dX12_soon_60 : decode cX12_soon 60 = .ok (.iconst 0, 1) := by decide +kernel
theorem dX12_soon_61 : decode cX12_soon 61 = .ok (.iadd, 1) := by decide +kernel
theorem dX12_soon_62 : decode cX12_soon 62 = .ok (.istore_n 2, 1) := by decide +kernel
theorem dX12_soon_63 : decode cX12_soon 63 = .ok (.iinc 3 1, 3) := by decide +kernel
theorem dX12_soon_66 : decode cX12_soon 66 = .ok (.goto (-42), 3) := by decide +kernel
theorem dX12_soon_69 : decode cX12_soon 69 = .ok (.iload_n 2, 1) := by decide +kernel
theorem dX12_soon_70 : decode cX12_soon 70 = .ok (.ireturn, 1) := by decide +kernel
theorem dX12_insideOf_0 : decode cX12_insideOf 0 = .ok (.aload_n 0, 1) := by decide +kernel
theorem dX12_insideOf_1 : decode cX12_insideOf 1 = .ok (.getfield 43, 3) := by decide +kernel
theorem dX12_insideOf_4 : decode cX12_insideOf 4 = .ok (.iload_n 1, 1) := by decide +kernel
theorem dX12_insideOf_5 : decode cX12_insideOf 5 = .ok (.iaload, 1) := by decide +kernel
theorem dX12_insideOf_6 : decode cX12_insideOf 6 = .ok (.iconst 2, 1) := by decide +kernel
theorem dX12_insideOf_7 : decode cX12_insideOf 7 = .ok (.if_icmp .ne 14, 3) := by decide +kernel
theorem dX12_insideOf_10 : decode cX12_insideOf 10 = .ok (.iload_n 1, 1) := by decide +kernel
theorem dX12_insideOf_11 : decode cX12_insideOf 11 = .ok (.bipush 16, 2) := by decide +kernel
theorem dX12_insideOf_13 : decode cX12_insideOf 13 = .ok (.idiv, 1) := by decide +kernel
theorem dX12_insideOf_14 : decode cX12_insideOf 14 = .ok (.iload_n 2, 1) := by decide +kernel
theorem dX12_insideOf_15 : decode cX12_insideOf 15 = .ok (.bipush 16, 2) := by decide +kernel
theorem dX12_insideOf_17 : decode cX12_insideOf 17 = .ok (.idiv, 1) := by decide +kernel
theorem dX12_insideOf_18 : decode cX12_insideOf 18 = .ok (.if_icmp .ne 5, 3) := by decide +kernel
theorem dX12_insideOf_21 : decode cX12_insideOf 21 = .ok (.iconst (-1), 1) := by decide +kernel
theorem dX12_insideOf_22 : decode cX12_insideOf 22 = .ok (.ireturn, 1) := by decide +kernel
theorem dX12_insideOf_23 : decode cX12_insideOf 23 = .ok (.iconst 0, 1) := by decide +kernel
theorem dX12_insideOf_24 : decode cX12_insideOf 24 = .ok (.istore_n 3, 1) := by decide +kernel
theorem dX12_insideOf_25 : decode cX12_insideOf 25 = .ok (.iload_n 3, 1) := by decide +kernel
theorem dX12_insideOf_26 : decode cX12_insideOf 26 = .ok (.iconst 2, 1) := by decide +kernel
theorem dX12_insideOf_27 : decode cX12_insideOf 27 = .ok (.iadd, 1) := by decide +kernel
theorem dX12_insideOf_28 : decode cX12_insideOf 28 = .ok (.aload_n 0, 1) := by decide +kernel
theorem dX12_insideOf_29 : decode cX12_insideOf 29 = .ok (.getfield 46, 3) := by decide +kernel
theorem dX12_insideOf_32 : decode cX12_insideOf 32 = .ok (.iload_n 2, 1) := by decide +kernel
theorem dX12_insideOf_33 : decode cX12_insideOf 33 = .ok (.iaload, 1) := by decide +kernel
theorem dX12_insideOf_34 : decode cX12_insideOf 34 = .ok (.if_icmp .ge 35, 3) := by decide +kernel
theorem dX12_insideOf_37 : decode cX12_insideOf 37 = .ok (.aload_n 0, 1) := by decide +kernel
theorem dX12_insideOf_38 : decode cX12_insideOf 38 = .ok (.iload_n 1, 1) := by decide +kernel
theorem dX12_insideOf_39 : decode cX12_insideOf 39 = .ok (.iconst 0, 1) := by decide +kernel
theorem dX12_insideOf_40 : decode cX12_insideOf 40 = .ok (.iload_n 2, 1) := by decide +kernel
theorem dX12_insideOf_41 : decode cX12_insideOf 41 = .ok (.iload_n 3, 1) := by decide +kernel
theorem dX12_insideOf_42 : decode cX12_insideOf 42 = .ok (.invokevirtual 284, 3) := by decide +kernel
theorem dX12_insideOf_45 : decode cX12_insideOf 45 = .ok (.ifCond .eq 18, 3) := by decide +kernel
theorem dX12_insideOf_48 : decode cX12_insideOf 48 = .ok (.aload_n 0, 1) := by decide +kernel
theorem dX12_insideOf_49 : decode cX12_insideOf 49 = .ok (.iload_n 1, 1) := by decide +kernel
theorem dX12_insideOf_50 : decode cX12_insideOf 50 = .ok (.iconst 1, 1) := by decide +kernel
theorem dX12_insideOf_51 : decode cX12_insideOf 51 = .ok (.iload_n 2, 1) := by decide +kernel
theorem dX12_insideOf_52 : decode cX12_insideOf 52 = .ok (.iload_n 3, 1) := by decide +kernel
theorem dX12_insideOf_53 : decode cX12_insideOf 53 = .ok (.iconst 1, 1) := by decide +kernel
theorem dX12_insideOf_54 : decode cX12_insideOf 54 = .ok (.iadd, 1) := by decide +kernel
theorem dX12_insideOf_55 : decode cX12_insideOf 55 = .ok (.invokevirtual 284, 3) := by decide +kernel
theorem dX12_insideOf_58 : decode cX12_insideOf 58 = .ok (.ifCond .eq 5, 3) := by decide +kernel
theorem dX12_insideOf_61 : decode cX12_insideOf 61 = .ok (.iload_n 3, 1) := by decide +kernel
theorem dX12_insideOf_62 : decode cX12_insideOf 62 = .ok (.ireturn, 1) := by decide +kernel
theorem dX12_insideOf_63 : decode cX12_insideOf 63 = .ok (.iinc 3 1, 3) := by decide +kernel
theorem dX12_insideOf_66 : decode cX12_insideOf 66 = .ok (.goto (-41), 3) := by decide +kernel
theorem dX12_insideOf_69 : decode cX12_insideOf 69 = .ok (.iconst (-1), 1) := by decide +kernel
theorem dX12_insideOf_70 : decode cX12_insideOf 70 = .ok (.ireturn, 1) := by decide +kernel
theorem dX12_inside_0 : decode cX12_inside 0 = .ok (.aload_n 0, 1) := by decide +kernel
theorem dX12_inside_1 : decode cX12_inside 1 = .ok (.iconst 0, 1) := by decide +kernel
theorem dX12_inside_2 : decode cX12_inside 2 = .ok (.putfield 116, 3) := by decide +kernel
theorem dX12_inside_5 : decode cX12_inside 5 = .ok (.aload_n 0, 1) := by decide +kernel
theorem dX12_inside_6 : decode cX12_inside 6 = .ok (.iload_n 1, 1) := by decide +kernel
theorem dX12_inside_7 : decode cX12_inside 7 = .ok (.invokevirtual 277, 3) := by decide +kernel
theorem dX12_inside_10 : decode cX12_inside 10 = .ok (.ifCond .eq 20, 3) := by decide +kernel
theorem dX12_inside_13 : decode cX12_inside 13 = .ok (.aload_n 0, 1) := by decide +kernel
theorem dX12_inside_14 : decode cX12_inside 14 = .ok (.iload_n 2, 1) := by decide +kernel
theorem dX12_inside_15 : decode cX12_inside 15 = .ok (.invokevirtual 277, 3) := by decide +kernel
theorem dX12_inside_18 : decode cX12_inside 18 = .ok (.ifCond .eq 12, 3) := by decide +kernel
theorem dX12_inside_21 : decode cX12_inside 21 = .ok (.aload_n 0, 1) := by decide +kernel
theorem dX12_inside_22 : decode cX12_inside 22 = .ok (.iload_n 1, 1) := by decide +kernel
theorem dX12_inside_23 : decode cX12_inside 23 = .ok (.iload_n 2, 1) := by decide +kernel
theorem dX12_inside_24 : decode cX12_inside 24 = .ok (.invokevirtual 380, 3) := by decide +kernel
theorem dX12_inside_27 : decode cX12_inside 27 = .ok (.goto 4, 3) := by decide +kernel
theorem dX12_inside_30 : decode cX12_inside 30 = .ok (.iconst (-1), 1) := by decide +kernel
theorem dX12_inside_31 : decode cX12_inside 31 = .ok (.ireturn, 1) := by decide +kernel
theorem dX12_tempted_0 : decode cX12_tempted 0 = .ok (.aload_n 0, 1) := by decide +kernel
theorem dX12_tempted_1 : decode cX12_tempted 1 = .ok (.iconst 0, 1) := by decide +kernel
theorem dX12_tempted_2 : decode cX12_tempted 2 = .ok (.putfield 116, 3) := by decide +kernel
theorem dX12_tempted_5 : decode cX12_tempted 5 = .ok (.aload_n 0, 1) := by decide +kernel
theorem dX12_tempted_6 : decode cX12_tempted 6 = .ok (.iload_n 1, 1) := by decide +kernel
theorem dX12_tempted_7 : decode cX12_tempted 7 = .ok (.invokevirtual 320, 3) := by decide +kernel
theorem dX12_tempted_10 : decode cX12_tempted 10 = .ok (.ifCond .ne 5, 3) := by decide +kernel
theorem dX12_tempted_13 : decode cX12_tempted 13 = .ok (.iconst (-1), 1) := by decide +kernel
theorem dX12_tempted_14 : decode cX12_tempted 14 = .ok (.ireturn, 1) := by decide +kernel
theorem dX12_tempted_15 : decode cX12_tempted 15 = .ok (.iconst 0, 1) := by decide +kernel
theorem dX12_tempted_16 : decode cX12_tempted 16 = .ok (.istore_n 2, 1) := by decide +kernel
theorem dX12_tempted_17 : decode cX12_tempted 17 = .ok (.iconst 0, 1) := by decide +kernel
theorem dX12_tempted_18 : decode cX12_tempted 18 = .ok (.istore_n 3, 1) := by decide +kernel
theorem dX12_tempted_19 : decode cX12_tempted 19 = .ok (.iload_n 3, 1) := by decide +kernel
theorem dX12_tempted_20 : decode cX12_tempted 20 = .ok (.sipush 128, 3) := by decide +kernel
theorem dX12_tempted_23 : decode cX12_tempted 23 = .ok (.if_icmp .ge 64, 3) := by decide +kernel
theorem dX12_tempted_26 : decode cX12_tempted 26 = .ok (.iconst 0, 1) := by decide +kernel
theorem dX12_tempted_27 : decode cX12_tempted 27 = .ok (.istore 4, 2) := by decide +kernel
theorem dX12_tempted_29 : decode cX12_tempted 29 = .ok (.iload 4, 2) := by decide +kernel
theorem dX12_tempted_31 : decode cX12_tempted 31 = .ok (.sipush 128, 3) := by decide +kernel
theorem dX12_tempted_34 : decode cX12_tempted 34 = .ok (.if_icmp .ge 47, 3) := by decide +kernel
theorem dX12_tempted_37 : decode cX12_tempted 37 = .ok (.iload_n 2, 1) := by decide +kernel
theorem dX12_tempted_38 : decode cX12_tempted 38 = .ok (.aload_n 0, 1) := by decide +kernel
theorem dX12_tempted_39 : decode cX12_tempted 39 = .ok (.iload_n 3, 1) := by decide +kernel
theorem dX12_tempted_40 : decode cX12_tempted 40 = .ok (.iload_n 1, 1) := by decide +kernel
theorem dX12_tempted_41 : decode cX12_tempted 41 = .ok (.invokevirtual 323, 3) := by decide +kernel
theorem dX12_tempted_44 : decode cX12_tempted 44 = .ok (.ifCond .eq 28, 3) := by decide +kernel
theorem dX12_tempted_47 : decode cX12_tempted 47 = .ok (.aload_n 0, 1) := by decide +kernel
theorem dX12_tempted_48 : decode cX12_tempted 48 = .ok (.iload 4, 2) := by decide +kernel
theorem dX12_tempted_50 : decode cX12_tempted 50 = .ok (.iload_n 1, 1) := by decide +kernel
theorem dX12_tempted_51 : decode cX12_tempted 51 = .ok (.invokevirtual 323, 3) := by decide +kernel
theorem dX12_tempted_54 : decode cX12_tempted 54 = .ok (.ifCond .eq 18, 3) := by decide +kernel
theorem dX12_tempted_57 : decode cX12_tempted 57 = .ok (.aload_n 0, 1) := by decide +kernel
theorem dX12_tempted_58 : decode cX12_tempted 58 = .ok (.iload_n 3, 1) := by decide +kernel
theorem dX12_tempted_59 : decode cX12_tempted 59 = .ok (.iload 4, 2) := by decide +kernel
theorem dX12_tempted_61 : decode cX12_tempted 61 = .ok (.invokevirtual 380, 3) := by decide +kernel
theorem dX12_tempted_64 : decode cX12_tempted 64 = .ok (.iconst (-1), 1) := by decide +kernel
theorem dX12_tempted_65 : decode cX12_tempted 65 = .ok (.if_icmp .eq 7, 3) := by decide +kernel
theorem dX12_tempted_68 : decode cX12_tempted 68 = .ok (.iconst 1, 1) := by decide +kernel
theorem dX12_tempted_69 : decode cX12_tempted 69 = .ok (.goto 4, 3) := by decide +kernel
theorem dX12_tempted_72 : decode cX12_tempted 72 = .ok (.iconst 0, 1) := by decide +kernel
theorem dX12_tempted_73 : decode cX12_tempted 73 = .ok (.iadd, 1) := by decide +kernel
theorem dX12_tempted_74 : decode cX12_tempted 74 = .ok (.istore_n 2, 1) := by decide +kernel
theorem dX12_tempted_75 : decode cX12_tempted 75 = .ok (.iinc 4 1, 3) := by decide +kernel
theorem dX12_tempted_78 : decode cX12_tempted 78 = .ok (.goto (-49), 3) := by decide +kernel
theorem dX12_tempted_81 : decode cX12_tempted 81 = .ok (.iinc 3 1, 3) := by decide +kernel
theorem dX12_tempted_84 : decode cX12_tempted 84 = .ok (.goto (-65), 3) := by decide +kernel
theorem dX12_tempted_87 : decode cX12_tempted 87 = .ok (.iload_n 2, 1) := by decide +kernel
theorem dX12_tempted_88 : decode cX12_tempted 88 = .ok (.ireturn, 1) := by decide +kernel
theorem dX12_boys_0 : decode cX12_boys 0 = .ok (.aload_n 0, 1) := by decide +kernel
theorem dX12_boys_1 : decode cX12_boys 1 = .ok (.iconst 0, 1) := by decide +kernel
theorem dX12_boys_2 : decode cX12_boys 2 = .ok (.putfield 116, 3) := by decide +kernel
theorem dX12_boys_5 : decode cX12_boys 5 = .ok (.iload_n 1, 1) := by decide +kernel
theorem dX12_boys_6 : decode cX12_boys 6 = .ok (.iconst 0, 1) := by decide +kernel
theorem dX12_boys_7 : decode cX12_boys 7 = .ok (.sipush 1023, 3) := by decide +kernel
theorem dX12_boys_10 : decode cX12_boys 10 = .ok (.invokestatic 250, 3) := by decide +kernel
theorem dX12_boys_13 : decode cX12_boys 13 = .ok (.ifCond .ne 5, 3) := by decide +kernel
theorem dX12_boys_16 : decode cX12_boys 16 = .ok (.iconst 0, 1) := by decide +kernel
theorem dX12_boys_17 : decode cX12_boys 17 = .ok (.ireturn, 1) := by decide +kernel
theorem dX12_boys_18 : decode cX12_boys 18 = .ok (.aload_n 0, 1) := by decide +kernel
theorem dX12_boys_19 : decode cX12_boys 19 = .ok (.iload_n 1, 1) := by decide +kernel
theorem dX12_boys_20 : decode cX12_boys 20 = .ok (.putfield 383, 3) := by decide +kernel
theorem dX12_boys_23 : decode cX12_boys 23 = .ok (.iconst 1, 1) := by decide +kernel
theorem dX12_boys_24 : decode cX12_boys 24 = .ok (.ireturn, 1) := by decide +kernel
theorem dX12_isPlot_0 : decode cX12_isPlot 0 = .ok (.iload_n 1, 1) := by decide +kernel
theorem dX12_isPlot_1 : decode cX12_isPlot 1 = .ok (.ifCond .lt 15, 3) := by decide +kernel
theorem dX12_isPlot_4 : decode cX12_isPlot 4 = .ok (.iload_n 1, 1) := by decide +kernel
theorem dX12_isPlot_5 : decode cX12_isPlot 5 = .ok (.aload_n 0, 1) := by decide +kernel
theorem dX12_isPlot_6 : decode cX12_isPlot 6 = .ok (.getfield 266, 3) := by decide +kernel
theorem dX12_isPlot_9 : decode cX12_isPlot 9 = .ok (.if_icmp .ge 7, 3) := by decide +kernel
theorem dX12_isPlot_12 : decode cX12_isPlot 12 = .ok (.iconst 1, 1) := by decide +kernel
theorem dX12_isPlot_13 : decode cX12_isPlot 13 = .ok (.goto 4, 3) := by decide +kernel
theorem dX12_isPlot_16 : decode cX12_isPlot 16 = .ok (.iconst 0, 1) := by decide +kernel
theorem dX12_isPlot_17 : decode cX12_isPlot 17 = .ok (.ireturn, 1) := by decide +kernel
theorem dX12_partsOf_0 : decode cX12_partsOf 0 = .ok (.iconst 0, 1) := by decide +kernel
theorem dX12_partsOf_1 : decode cX12_partsOf 1 = .ok (.istore_n 2, 1) := by decide +kernel
theorem dX12_partsOf_2 : decode cX12_partsOf 2 = .ok (.iconst 0, 1) := by decide +kernel
theorem dX12_partsOf_3 : decode cX12_partsOf 3 = .ok (.istore_n 3, 1) := by decide +kernel
theorem dX12_partsOf_4 : decode cX12_partsOf 4 = .ok (.iload_n 3, 1) := by decide +kernel
theorem dX12_partsOf_5 : decode cX12_partsOf 5 = .ok (.aload_n 0, 1) := by decide +kernel
theorem dX12_partsOf_6 : decode cX12_partsOf 6 = .ok (.getfield 61, 3) := by decide +kernel
theorem dX12_partsOf_9 : decode cX12_partsOf 9 = .ok (.iload_n 1, 1) := by decide +kernel
theorem dX12_partsOf_10 : decode cX12_partsOf 10 = .ok (.iaload, 1) := by decide +kernel
theorem dX12_partsOf_11 : decode cX12_partsOf 11 = .ok (.if_icmp .ge 23, 3) := by decide +kernel
theorem dX12_partsOf_14 : decode cX12_partsOf 14 = .ok (.iload_n 2, 1) := by decide +kernel
theorem dX12_partsOf_15 : decode cX12_partsOf 15 = .ok (.aload_n 0, 1) := by decide +kernel
theorem dX12_partsOf_16 : decode cX12_partsOf 16 = .ok (.getfield 64, 3) := by decide +kernel
theorem dX12_partsOf_19 : decode cX12_partsOf 19 = .ok (.bipush 20, 2) := by decide +kernel
theorem dX12_partsOf_21 : decode cX12_partsOf 21 = .ok (.iload_n 1, 1) := by decide +kernel
theorem dX12_partsOf_22 : decode cX12_partsOf 22 = .ok (.imul, 1) := by decide +kernel
theorem dX12_partsOf_23 : decode cX12_partsOf 23 = .ok (.iload_n 3, 1) := by decide +kernel
theorem dX12_partsOf_24 : decode cX12_partsOf 24 = .ok (.iadd, 1) := by decide +kernel
theorem dX12_partsOf_25 : decode cX12_partsOf 25 = .ok (.iaload, 1) := by decide +kernel
theorem dX12_partsOf_26 : decode cX12_partsOf 26 = .ok (.ior, 1) := by decide +kernel
theorem dX12_partsOf_27 : decode cX12_partsOf 27 = .ok (.istore_n 2, 1) := by decide +kernel
theorem dX12_partsOf_28 : decode cX12_partsOf 28 = .ok (.iinc 3 1, 3) := by decide +kernel
theorem dX12_partsOf_31 : decode cX12_partsOf 31 = .ok (.goto (-27), 3) := by decide +kernel
theorem dX12_partsOf_34 : decode cX12_partsOf 34 = .ok (.iload_n 2, 1) := by decide +kernel
theorem dX12_partsOf_35 : decode cX12_partsOf 35 = .ok (.ireturn, 1) := by decide +kernel
theorem dX12_plot_0 : decode cX12_plot 0 = .ok (.aload_n 0, 1) := by decide +kernel
theorem dX12_plot_1 : decode cX12_plot 1 = .ok (.iconst 0, 1) := by decide +kernel
theorem dX12_plot_2 : decode cX12_plot 2 = .ok (.putfield 116, 3) := by decide +kernel
theorem dX12_plot_5 : decode cX12_plot 5 = .ok (.aload_n 0, 1) := by decide +kernel
theorem dX12_plot_6 : decode cX12_plot 6 = .ok (.iload_n 1, 1) := by decide +kernel
theorem dX12_plot_7 : decode cX12_plot 7 = .ok (.invokevirtual 386, 3) := by decide +kernel
theorem dX12_plot_10 : decode cX12_plot 10 = .ok (.ifCond .ne 5, 3) := by decide +kernel
theorem dX12_plot_13 : decode cX12_plot 13 = .ok (.iconst (-1), 1) := by decide +kernel
theorem dX12_plot_14 : decode cX12_plot 14 = .ok (.ireturn, 1) := by decide +kernel
theorem dX12_plot_15 : decode cX12_plot 15 = .ok (.iload_n 2, 1) := by decide +kernel
theorem dX12_plot_16 : decode cX12_plot 16 = .ok (.iconst (-1), 1) := by decide +kernel
theorem dX12_plot_17 : decode cX12_plot 17 = .ok (.if_icmp .ne 11, 3) := by decide +kernel
theorem dX12_plot_20 : decode cX12_plot 20 = .ok (.aload_n 0, 1) := by decide +kernel
theorem dX12_plot_21 : decode cX12_plot 21 = .ok (.iload_n 1, 1) := by decide +kernel
theorem dX12_plot_22 : decode cX12_plot 22 = .ok (.invokevirtual 389, 3) := by decide +kernel
theorem dX12_plot_25 : decode cX12_plot 25 = .ok (.goto 34, 3) := by decide +kernel
theorem dX12_plot_28 : decode cX12_plot 28 = .ok (.iload_n 2, 1) := by decide +kernel
theorem dX12_plot_29 : decode cX12_plot 29 = .ok (.iconst 0, 1) := by decide +kernel
theorem dX12_plot_30 : decode cX12_plot 30 = .ok (.aload_n 0, 1) := by decide +kernel
theorem dX12_plot_31 : decode cX12_plot 31 = .ok (.getfield 61, 3) := by decide +kernel
theorem dX12_plot_34 : decode cX12_plot 34 = .ok (.iload_n 1, 1) := by decide +kernel
theorem dX12_plot_35 : decode cX12_plot 35 = .ok (.iaload, 1) := by decide +kernel
theorem dX12_plot_36 : decode cX12_plot 36 = .ok (.iconst 1, 1) := by decide +kernel
theorem dX12_plot_37 : decode cX12_plot 37 = .ok (.isub, 1) := by decide +kernel
theorem dX12_plot_38 : decode cX12_plot 38 = .ok (.invokestatic 250, 3) := by decide +kernel
theorem dX12_plot_41 : decode cX12_plot 41 = .ok (.ifCond .eq 17, 3) := by decide +kernel
theorem dX12_plot_44 : decode cX12_plot 44 = .ok (.aload_n 0, 1) := by decide +kernel
theorem dX12_plot_45 : decode cX12_plot 45 = .ok (.getfield 64, 3) := by decide +kernel
theorem dX12_plot_48 : decode cX12_plot 48 = .ok (.bipush 20, 2) := by decide +kernel
theorem dX12_plot_50 : decode cX12_plot 50 = .ok (.iload_n 1, 1) := by decide +kernel
theorem dX12_plot_51 : decode cX12_plot 51 = .ok (.imul, 1) := by decide +kernel
theorem dX12_plot_52 : decode cX12_plot 52 = .ok (.iload_n 2, 1) := by decide +kernel
theorem dX12_plot_53 : decode cX12_plot 53 = .ok (.iadd, 1) := by decide +kernel
theorem dX12_plot_54 : decode cX12_plot 54 = .ok (.iaload, 1) := by decide +kernel
theorem dX12_plot_55 : decode cX12_plot 55 = .ok (.goto 4, 3) := by decide +kernel
theorem dX12_plot_58 : decode cX12_plot 58 = .ok (.iconst (-1), 1) := by decide +kernel
theorem dX12_plot_59 : decode cX12_plot 59 = .ok (.ireturn, 1) := by decide +kernel
theorem dX12_barsIt_0 : decode cX12_barsIt 0 = .ok (.aload_n 0, 1) := by decide +kernel
theorem dX12_barsIt_1 : decode cX12_barsIt 1 = .ok (.getfield 383, 3) := by decide +kernel
theorem dX12_barsIt_4 : decode cX12_barsIt 4 = .ok (.iload_n 2, 1) := by decide +kernel
theorem dX12_barsIt_5 : decode cX12_barsIt 5 = .ok (.invokestatic 246, 3) := by decide +kernel
theorem dX12_barsIt_8 : decode cX12_barsIt 8 = .ok (.aload_n 0, 1) := by decide +kernel
theorem dX12_barsIt_9 : decode cX12_barsIt 9 = .ok (.getfield 383, 3) := by decide +kernel
theorem dX12_barsIt_12 : decode cX12_barsIt 12 = .ok (.iload_n 3, 1) := by decide +kernel
theorem dX12_barsIt_13 : decode cX12_barsIt 13 = .ok (.invokestatic 246, 3) := by decide +kernel
theorem dX12_barsIt_16 : decode cX12_barsIt 16 = .ok (.if_icmp .eq 5, 3) := by decide +kernel
theorem dX12_barsIt_19 : decode cX12_barsIt 19 = .ok (.iconst 0, 1) := by decide +kernel
theorem dX12_barsIt_20 : decode cX12_barsIt 20 = .ok (.ireturn, 1) := by decide +kernel
theorem dX12_barsIt_21 : decode cX12_barsIt 21 = .ok (.iconst 0, 1) := by decide +kernel
theorem dX12_barsIt_22 : decode cX12_barsIt 22 = .ok (.istore 5, 2) := by decide +kernel
theorem dX12_barsIt_24 : decode cX12_barsIt 24 = .ok (.iload 5, 2) := by decide +kernel
theorem dX12_barsIt_26 : decode cX12_barsIt 26 = .ok (.aload_n 0, 1) := by decide +kernel
theorem dX12_barsIt_27 : decode cX12_barsIt 27 = .ok (.getfield 61, 3) := by decide +kernel
theorem dX12_barsIt_30 : decode cX12_barsIt 30 = .ok (.iload_n 1, 1) := by decide +kernel
theorem dX12_barsIt_31 : decode cX12_barsIt 31 = .ok (.iaload, 1) := by decide +kernel
theorem dX12_barsIt_32 : decode cX12_barsIt 32 = .ok (.if_icmp .ge 82, 3) := by decide +kernel
theorem dX12_barsIt_35 : decode cX12_barsIt 35 = .ok (.iconst 0, 1) := by decide +kernel
theorem dX12_barsIt_36 : decode cX12_barsIt 36 = .ok (.istore 6, 2) := by decide +kernel
theorem dX12_barsIt_38 : decode cX12_barsIt 38 = .ok (.iload 6, 2) := by decide +kernel
theorem dX12_barsIt_40 : decode cX12_barsIt 40 = .ok (.aload_n 0, 1) := by decide +kernel
theorem dX12_barsIt_41 : decode cX12_barsIt 41 = .ok (.getfield 61, 3) := by decide +kernel
theorem dX12_barsIt_44 : decode cX12_barsIt 44 = .ok (.iload_n 1, 1) := by decide +kernel
theorem dX12_barsIt_45 : decode cX12_barsIt 45 = .ok (.iaload, 1) := by decide +kernel
theorem dX12_barsIt_46 : decode cX12_barsIt 46 = .ok (.if_icmp .ge 62, 3) := by decide +kernel
theorem dX12_barsIt_49 : decode cX12_barsIt 49 = .ok (.iload 5, 2) := by decide +kernel
theorem dX12_barsIt_51 : decode cX12_barsIt 51 = .ok (.iload 6, 2) := by decide +kernel
theorem dX12_barsIt_53 : decode cX12_barsIt 53 = .ok (.isub, 1) := by decide +kernel
theorem dX12_barsIt_54 : decode cX12_barsIt 54 = .ok (.invokestatic 392, 3) := by decide +kernel
theorem dX12_barsIt_57 : decode cX12_barsIt 57 = .ok (.iload 4, 2) := by decide +kernel
theorem dX12_barsIt_59 : decode cX12_barsIt 59 = .ok (.if_icmp .gt 43, 3) := by decide +kernel
theorem dX12_barsIt_62 : decode cX12_barsIt 62 = .ok (.aload_n 0, 1) := by decide +kernel
theorem dX12_barsIt_63 : decode cX12_barsIt 63 = .ok (.getfield 64, 3) := by decide +kernel
theorem dX12_barsIt_66 : decode cX12_barsIt 66 = .ok (.bipush 20, 2) := by decide +kernel
theorem dX12_barsIt_68 : decode cX12_barsIt 68 = .ok (.iload_n 1, 1) := by decide +kernel
theorem dX12_barsIt_69 : decode cX12_barsIt 69 = .ok (.imul, 1) := by decide +kernel
theorem dX12_barsIt_70 : decode cX12_barsIt 70 = .ok (.iload 5, 2) := by decide +kernel
theorem dX12_barsIt_72 : decode cX12_barsIt 72 = .ok (.iadd, 1) := by decide +kernel
theorem dX12_barsIt_73 : decode cX12_barsIt 73 = .ok (.iaload, 1) := by decide +kernel
theorem dX12_barsIt_74 : decode cX12_barsIt 74 = .ok (.iload_n 2, 1) := by decide +kernel
theorem dX12_barsIt_75 : decode cX12_barsIt 75 = .ok (.invokestatic 246, 3) := by decide +kernel
theorem dX12_barsIt_78 : decode cX12_barsIt 78 = .ok (.ifCond .eq 24, 3) := by decide +kernel
theorem dX12_barsIt_81 : decode cX12_barsIt 81 = .ok (.aload_n 0, 1) := by decide +kernel
theorem dX12_barsIt_82 : decode cX12_barsIt 82 = .ok (.getfield 64, 3) := by decide +kernel
theorem dX12_barsIt_85 : decode cX12_barsIt 85 = .ok (.bipush 20, 2) := by decide +kernel
theorem dX12_barsIt_87 : decode cX12_barsIt 87 = .ok (.iload_n 1, 1) := by decide +kernel
theorem dX12_barsIt_88 : decode cX12_barsIt 88 = .ok (.imul, 1) := by decide +kernel
theorem dX12_barsIt_89 : decode cX12_barsIt 89 = .ok (.iload 6, 2) := by decide +kernel
theorem dX12_barsIt_91 : decode cX12_barsIt 91 = .ok (.iadd, 1) := by decide +kernel
theorem dX12_barsIt_92 : decode cX12_barsIt 92 = .ok (.iaload, 1) := by decide +kernel
theorem dX12_barsIt_93 : decode cX12_barsIt 93 = .ok (.iload_n 3, 1) := by decide +kernel
theorem dX12_barsIt_94 : decode cX12_barsIt 94 = .ok (.invokestatic 246, 3) := by decide +kernel
theorem dX12_barsIt_97 : decode cX12_barsIt 97 = .ok (.ifCond .eq 5, 3) := by decide +kernel
theorem dX12_barsIt_100 : decode cX12_barsIt 100 = .ok (.iconst 1, 1) := by decide +kernel
theorem dX12_barsIt_101 : decode cX12_barsIt 101 = .ok (.ireturn, 1) := by decide +kernel
theorem dX12_barsIt_102 : decode cX12_barsIt 102 = .ok (.iinc 6 1, 3) := by decide +kernel
theorem dX12_barsIt_105 : decode cX12_barsIt 105 = .ok (.goto (-67), 3) := by decide +kernel
theorem dX12_barsIt_108 : decode cX12_barsIt 108 = .ok (.iinc 5 1, 3) := by decide +kernel
theorem dX12_barsIt_111 : decode cX12_barsIt 111 = .ok (.goto (-87), 3) := by decide +kernel
theorem dX12_barsIt_114 : decode cX12_barsIt 114 = .ok (.iconst 0, 1) := by decide +kernel
theorem dX12_barsIt_115 : decode cX12_barsIt 115 = .ok (.ireturn, 1) := by decide +kernel
theorem dX12_isPart_0 : decode cX12_isPart 0 = .ok (.aload_n 0, 1) := by decide +kernel
theorem dX12_isPart_1 : decode cX12_isPart 1 = .ok (.iload_n 1, 1) := by decide +kernel
theorem dX12_isPart_2 : decode cX12_isPart 2 = .ok (.invokevirtual 386, 3) := by decide +kernel
theorem dX12_isPart_5 : decode cX12_isPart 5 = .ok (.ifCond .eq 29, 3) := by decide +kernel
theorem dX12_isPart_8 : decode cX12_isPart 8 = .ok (.iload_n 2, 1) := by decide +kernel
theorem dX12_isPart_9 : decode cX12_isPart 9 = .ok (.iconst 0, 1) := by decide +kernel
theorem dX12_isPart_10 : decode cX12_isPart 10 = .ok (.bipush 9, 2) := by decide +kernel
theorem dX12_isPart_12 : decode cX12_isPart 12 = .ok (.invokestatic 250, 3) := by decide +kernel
theorem dX12_isPart_15 : decode cX12_isPart 15 = .ok (.ifCond .eq 19, 3) := by decide +kernel
theorem dX12_isPart_18 : decode cX12_isPart 18 = .ok (.aload_n 0, 1) := by decide +kernel
theorem dX12_isPart_19 : decode cX12_isPart 19 = .ok (.iload_n 1, 1) := by decide +kernel
theorem dX12_isPart_20 : decode cX12_isPart 20 = .ok (.invokevirtual 389, 3) := by decide +kernel
theorem dX12_isPart_23 : decode cX12_isPart 23 = .ok (.iload_n 2, 1) := by decide +kernel
theorem dX12_isPart_24 : decode cX12_isPart 24 = .ok (.invokestatic 246, 3) := by decide +kernel
theorem dX12_isPart_27 : decode cX12_isPart 27 = .ok (.ifCond .eq 7, 3) := by decide +kernel
theorem dX12_isPart_30 : decode cX12_isPart 30 = .ok (.iconst 1, 1) := by decide +kernel
theorem dX12_isPart_31 : decode cX12_isPart 31 = .ok (.goto 4, 3) := by decide +kernel
theorem dX12_isPart_34 : decode cX12_isPart 34 = .ok (.iconst 0, 1) := by decide +kernel
theorem dX12_isPart_35 : decode cX12_isPart 35 = .ok (.ireturn, 1) := by decide +kernel
theorem dX12_bars_0 : decode cX12_bars 0 = .ok (.aload_n 0, 1) := by decide +kernel
theorem dX12_bars_1 : decode cX12_bars 1 = .ok (.iconst 0, 1) := by decide +kernel
theorem dX12_bars_2 : decode cX12_bars 2 = .ok (.putfield 116, 3) := by decide +kernel
theorem dX12_bars_5 : decode cX12_bars 5 = .ok (.aload_n 0, 1) := by decide +kernel
theorem dX12_bars_6 : decode cX12_bars 6 = .ok (.iload_n 1, 1) := by decide +kernel
theorem dX12_bars_7 : decode cX12_bars 7 = .ok (.iload_n 2, 1) := by decide +kernel
theorem dX12_bars_8 : decode cX12_bars 8 = .ok (.invokevirtual 395, 3) := by decide +kernel
theorem dX12_bars_11 : decode cX12_bars 11 = .ok (.ifCond .eq 27, 3) := by decide +kernel
theorem dX12_bars_14 : decode cX12_bars 14 = .ok (.aload_n 0, 1) := by decide +kernel
theorem dX12_bars_15 : decode cX12_bars 15 = .ok (.iload_n 1, 1) := by decide +kernel
theorem dX12_bars_16 : decode cX12_bars 16 = .ok (.iload_n 3, 1) := by decide +kernel
theorem dX12_bars_17 : decode cX12_bars 17 = .ok (.invokevirtual 395, 3) := by decide +kernel
theorem dX12_bars_20 : decode cX12_bars 20 = .ok (.ifCond .eq 18, 3) := by decide +kernel
theorem dX12_bars_23 : decode cX12_bars 23 = .ok (.iload_n 2, 1) := by decide +kernel
theorem dX12_bars_24 : decode cX12_bars 24 = .ok (.iload_n 3, 1) := by decide +kernel
theorem dX12_bars_25 : decode cX12_bars 25 = .ok (.if_icmp .eq 13, 3) := by decide +kernel
theorem dX12_bars_28 : decode cX12_bars 28 = .ok (.iload 4, 2) := by decide +kernel
theorem dX12_bars_30 : decode cX12_bars 30 = .ok (.iconst 0, 1) := by decide +kernel
theorem dX12_bars_31 : decode cX12_bars 31 = .ok (.iconst 3, 1) := by decide +kernel
theorem dX12_bars_32 : decode cX12_bars 32 = .ok (.invokestatic 250, 3) := by decide +kernel
theorem dX12_bars_35 : decode cX12_bars 35 = .ok (.ifCond .ne 7, 3) := by decide +kernel
theorem dX12_bars_38 : decode cX12_bars 38 = .ok (.iconst (-1), 1) := by decide +kernel
theorem dX12_bars_39 : decode cX12_bars 39 = .ok (.goto 20, 3) := by decide +kernel
theorem dX12_bars_42 : decode cX12_bars 42 = .ok (.aload_n 0, 1) := by decide +kernel
theorem dX12_bars_43 : decode cX12_bars 43 = .ok (.iload_n 1, 1) := by decide +kernel
theorem dX12_bars_44 : decode cX12_bars 44 = .ok (.iload_n 2, 1) := by decide +kernel
theorem dX12_bars_45 : decode cX12_bars 45 = .ok (.iload_n 3, 1) := by decide +kernel
theorem dX12_bars_46 : decode cX12_bars 46 = .ok (.iload 4, 2) := by decide +kernel
theorem dX12_bars_48 : decode cX12_bars 48 = .ok (.invokevirtual 398, 3) := by decide +kernel
theorem dX12_bars_51 : decode cX12_bars 51 = .ok (.ifCond .eq 7, 3) := by decide +kernel
theorem dX12_bars_54 : decode cX12_bars 54 = .ok (.iconst 1, 1) := by decide +kernel
theorem dX12_bars_55 : decode cX12_bars 55 = .ok (.goto 4, 3) := by decide +kernel
theorem dX12_bars_58 : decode cX12_bars 58 = .ok (.iconst 0, 1) := by decide +kernel
theorem dX12_bars_59 : decode cX12_bars 59 = .ok (.ireturn, 1) := by decide +kernel
theorem dX12_dress_0 : decode cX12_dress 0 = .ok (.iload_n 3, 1) := by decide +kernel
theorem dX12_dress_1 : decode cX12_dress 1 = .ok (.bipush 10, 2) := by decide +kernel
theorem dX12_dress_3 : decode cX12_dress 3 = .ok (.if_icmp .ne 5, 3) := by decide +kernel
theorem dX12_dress_6 : decode cX12_dress 6 = .ok (.iconst 1, 1) := by decide +kernel
theorem dX12_dress_7 : decode cX12_dress 7 = .ok (.ireturn, 1) := by decide +kernel
theorem dX12_dress_8 : decode cX12_dress 8 = .ok (.iload_n 2, 1) := by decide +kernel
theorem dX12_dress_9 : decode cX12_dress 9 = .ok (.iload_n 3, 1) := by decide +kernel
theorem dX12_dress_10 : decode cX12_dress 10 = .ok (.invokestatic 246, 3) := by decide +kernel
theorem dX12_dress_13 : decode cX12_dress 13 = .ok (.ifCond .ne 17, 3) := by decide +kernel
theorem dX12_dress_16 : decode cX12_dress 16 = .ok (.aload_n 0, 1) := by decide +kernel
theorem dX12_dress_17 : decode cX12_dress 17 = .ok (.iload_n 1, 1) := by decide +kernel
theorem dX12_dress_18 : decode cX12_dress 18 = .ok (.iload_n 2, 1) := by decide +kernel
theorem dX12_dress_19 : decode cX12_dress 19 = .ok (.iload_n 3, 1) := by decide +kernel
theorem dX12_dress_20 : decode cX12_dress 20 = .ok (.iconst 1, 1) := by decide +kernel
theorem dX12_dress_21 : decode cX12_dress 21 = .ok (.iadd, 1) := by decide +kernel
theorem dX12_dress_22 : decode cX12_dress 22 = .ok (.iload 4, 2) := by decide +kernel
theorem dX12_dress_24 : decode cX12_dress 24 = .ok (.iload 5, 2) := by decide +kernel
theorem dX12_dress_26 : decode cX12_dress 26 = .ok (.invokevirtual 401, 3) := by decide +kernel
theorem dX12_dress_29 : decode cX12_dress 29 = .ok (.ireturn, 1) := by decide +kernel
theorem dX12_dress_30 : decode cX12_dress 30 = .ok (.iconst 0, 1) := by decide +kernel
theorem dX12_dress_31 : decode cX12_dress 31 = .ok (.istore 6, 2) := by decide +kernel
theorem dX12_dress_33 : decode cX12_dress 33 = .ok (.iload 6, 2) := by decide +kernel
theorem dX12_dress_35 : decode cX12_dress 35 = .ok (.iload 4, 2) := by decide +kernel
theorem dX12_dress_37 : decode cX12_dress 37 = .ok (.if_icmp .ge 127, 3) := by decide +kernel
theorem dX12_dress_40 : decode cX12_dress 40 = .ok (.iconst 1, 1) := by decide +kernel
theorem dX12_dress_41 : decode cX12_dress 41 = .ok (.istore 7, 2) := by decide +kernel
theorem dX12_dress_43 : decode cX12_dress 43 = .ok (.iconst 0, 1) := by decide +kernel
theorem dX12_dress_44 : decode cX12_dress 44 = .ok (.istore 8, 2) := by decide +kernel
theorem dX12_dress_46 : decode cX12_dress 46 = .ok (.iload 8, 2) := by decide +kernel
theorem dX12_dress_48 : decode cX12_dress 48 = .ok (.iload_n 3, 1) := by decide +kernel
theorem dX12_dress_49 : decode cX12_dress 49 = .ok (.if_icmp .ge 75, 3) := by decide +kernel
theorem dX12_dress_52 : decode cX12_dress 52 = .ok (.iload 7, 2) := by decide +kernel
theorem dX12_dress_54 : decode cX12_dress 54 = .ok (.ifCond .eq 61, 3) := by decide +kernel
theorem dX12_dress_57 : decode cX12_dress 57 = .ok (.iload_n 2, 1) := by decide +kernel
theorem dX12_dress_58 : decode cX12_dress 58 = .ok (.iload 8, 2) := by decide +kernel
theorem dX12_dress_60 : decode cX12_dress 60 = .ok (.invokestatic 246, 3) := by decide +kernel
theorem dX12_dress_63 : decode cX12_dress 63 = .ok (.ifCond .eq 48, 3) := by decide +kernel
theorem dX12_dress_66 : decode cX12_dress 66 = .ok (.aload_n 0, 1) := by decide +kernel
theorem dX12_dress_67 : decode cX12_dress 67 = .ok (.getfield 113, 3) := by decide +kernel
theorem dX12_dress_70 : decode cX12_dress 70 = .ok (.iload 8, 2) := by decide +kernel
theorem dX12_dress_72 : decode cX12_dress 72 = .ok (.iaload, 1) := by decide +kernel
theorem dX12_dress_73 : decode cX12_dress 73 = .ok (.iload 6, 2) := by decide +kernel
theorem dX12_dress_75 : decode cX12_dress 75 = .ok (.if_icmp .ne 36, 3) := by decide +kernel
theorem dX12_dress_78 : decode cX12_dress 78 = .ok (.aload_n 0, 1) := by decide +kernel
theorem dX12_dress_79 : decode cX12_dress 79 = .ok (.getfield 383, 3) := by decide +kernel
theorem dX12_dress_82 : decode cX12_dress 82 = .ok (.iload 8, 2) := by decide +kernel
theorem dX12_dress_84 : decode cX12_dress 84 = .ok (.invokestatic 246, 3) := by decide +kernel
theorem dX12_dress_87 : decode cX12_dress 87 = .ok (.aload_n 0, 1) := by decide +kernel
theorem dX12_dress_88 : decode cX12_dress 88 = .ok (.getfield 383, 3) := by decide +kernel
theorem dX12_dress_91 : decode cX12_dress 91 = .ok (.iload_n 3, 1) := by decide +kernel
theorem dX12_dress_92 : decode cX12_dress 92 = .ok (.invokestatic 246, 3) := by decide +kernel
theorem dX12_dress_95 : decode cX12_dress 95 = .ok (.if_icmp .ne 20, 3) := by decide +kernel
theorem dX12_dress_98 : decode cX12_dress 98 = .ok (.aload_n 0, 1) := by decide +kernel
theorem dX12_dress_99 : decode cX12_dress 99 = .ok (.iload_n 1, 1) := by decide +kernel
theorem dX12_dress_100 : decode cX12_dress 100 = .ok (.iload 8, 2) := by decide +kernel
theorem dX12_dress_102 : decode cX12_dress 102 = .ok (.iload_n 3, 1) := by decide +kernel
theorem dX12_dress_103 : decode cX12_dress 103 = .ok (.iload 5, 2) := by decide +kernel
theorem dX12_dress_105 : decode cX12_dress 105 = .ok (.invokevirtual 398, 3) := by decide +kernel
theorem dX12_dress_108 : decode cX12_dress 108 = .ok (.ifCond .ne 7, 3) := by decide +kernel
theorem dX12_dress_111 : decode cX12_dress 111 = .ok (.iconst 1, 1) := by decide +kernel
theorem dX12_dress_112 : decode cX12_dress 112 = .ok (.goto 4, 3) := by decide +kernel
theorem dX12_dress_115 : decode cX12_dress 115 = .ok (.iconst 0, 1) := by decide +kernel
theorem dX12_dress_116 : decode cX12_dress 116 = .ok (.istore 7, 2) := by decide +kernel
theorem dX12_dress_118 : decode cX12_dress 118 = .ok (.iinc 8 1, 3) := by decide +kernel
theorem dX12_dress_121 : decode cX12_dress 121 = .ok (.goto (-75), 3) := by decide +kernel
theorem dX12_dress_124 : decode cX12_dress 124 = .ok (.iload 7, 2) := by decide +kernel
theorem dX12_dress_126 : decode cX12_dress 126 = .ok (.ifCond .ne 6, 3) := by decide +kernel
theorem dX12_dress_129 : decode cX12_dress 129 = .ok (.goto 29, 3) := by decide +kernel
theorem dX12_dress_132 : decode cX12_dress 132 = .ok (.aload_n 0, 1) := by decide +kernel
theorem dX12_dress_133 : decode cX12_dress 133 = .ok (.getfield 113, 3) := by decide +kernel
theorem dX12_dress_136 : decode cX12_dress 136 = .ok (.iload_n 3, 1) := by decide +kernel
theorem dX12_dress_137 : decode cX12_dress 137 = .ok (.iload 6, 2) := by decide +kernel
theorem dX12_dress_139 : decode cX12_dress 139 = .ok (.iastore, 1) := by decide +kernel
theorem dX12_dress_140 : decode cX12_dress 140 = .ok (.aload_n 0, 1) := by decide +kernel
theorem dX12_dress_141 : decode cX12_dress 141 = .ok (.iload_n 1, 1) := by decide +kernel
theorem dX12_dress_142 : decode cX12_dress 142 = .ok (.iload_n 2, 1) := by decide +kernel
theorem dX12_dress_143 : decode cX12_dress 143 = .ok (.iload_n 3, 1) := by decide +kernel
theorem dX12_dress_144 : decode cX12_dress 144 = .ok (.iconst 1, 1) := by decide +kernel
theorem dX12_dress_145 : decode cX12_dress 145 = .ok (.iadd, 1) := by decide +kernel
theorem dX12_dress_146 : decode cX12_dress 146 = .ok (.iload 4, 2) := by decide +kernel
theorem dX12_dress_148 : decode cX12_dress 148 = .ok (.iload 5, 2) := by decide +kernel
theorem dX12_dress_150 : decode cX12_dress 150 = .ok (.invokevirtual 401, 3) := by decide +kernel
theorem dX12_dress_153 : decode cX12_dress 153 = .ok (.ifCond .eq 5, 3) := by decide +kernel
theorem dX12_dress_156 : decode cX12_dress 156 = .ok (.iconst 1, 1) := by decide +kernel
theorem dX12_dress_157 : decode cX12_dress 157 = .ok (.ireturn, 1) := by decide +kernel
theorem dX12_dress_158 : decode cX12_dress 158 = .ok (.iinc 6 1, 3) := by decide +kernel
theorem dX12_dress_161 : decode cX12_dress 161 = .ok (.goto (-128), 3) := by decide +kernel
theorem dX12_dress_164 : decode cX12_dress 164 = .ok (.iconst 0, 1) := by decide +kernel
theorem dX12_dress_165 : decode cX12_dress 165 = .ok (.ireturn, 1) := by decide +kernel
theorem dX12_need_0 : decode cX12_need 0 = .ok (.iconst 0, 1) := by decide +kernel
theorem dX12_need_1 : decode cX12_need 1 = .ok (.istore 4, 2) := by decide +kernel
theorem dX12_need_3 : decode cX12_need 3 = .ok (.aload_n 0, 1) := by decide +kernel
theorem dX12_need_4 : decode cX12_need 4 = .ok (.iload_n 1, 1) := by decide +kernel
theorem dX12_need_5 : decode cX12_need 5 = .ok (.iload_n 2, 1) := by decide +kernel
theorem dX12_need_6 : decode cX12_need 6 = .ok (.iconst 0, 1) := by decide +kernel
theorem dX12_need_7 : decode cX12_need 7 = .ok (.iload 4, 2) := by decide +kernel
theorem dX12_need_9 : decode cX12_need 9 = .ok (.iload_n 3, 1) := by decide +kernel
theorem dX12_need_10 : decode cX12_need 10 = .ok (.invokevirtual 401, 3) := by decide +kernel
theorem dX12_need_13 : decode cX12_need 13 = .ok (.ifCond .ne 9, 3) := by decide +kernel
theorem dX12_need_16 : decode cX12_need 16 = .ok (.iinc 4 1, 3) := by decide +kernel
theorem dX12_need_19 : decode cX12_need 19 = .ok (.goto (-16), 3) := by decide +kernel
theorem dX12_need_22 : decode cX12_need 22 = .ok (.iload 4, 2) := by decide +kernel
theorem dX12_need_24 : decode cX12_need 24 = .ok (.ireturn, 1) := by decide +kernel
theorem dX12_cast_0 : decode cX12_cast 0 = .ok (.aload_n 0, 1) := by decide +kernel
theorem dX12_cast_1 : decode cX12_cast 1 = .ok (.iconst 0, 1) := by decide +kernel
theorem dX12_cast_2 : decode cX12_cast 2 = .ok (.putfield 116, 3) := by decide +kernel
theorem dX12_cast_5 : decode cX12_cast 5 = .ok (.aload_n 0, 1) := by decide +kernel
theorem dX12_cast_6 : decode cX12_cast 6 = .ok (.iload_n 1, 1) := by decide +kernel
theorem dX12_cast_7 : decode cX12_cast 7 = .ok (.invokevirtual 386, 3) := by decide +kernel
theorem dX12_cast_10 : decode cX12_cast 10 = .ok (.ifCond .eq 26, 3) := by decide +kernel
theorem dX12_cast_13 : decode cX12_cast 13 = .ok (.iload_n 3, 1) := by decide +kernel
theorem dX12_cast_14 : decode cX12_cast 14 = .ok (.iconst 0, 1) := by decide +kernel
theorem dX12_cast_15 : decode cX12_cast 15 = .ok (.iconst 3, 1) := by decide +kernel
theorem dX12_cast_16 : decode cX12_cast 16 = .ok (.invokestatic 250, 3) := by decide +kernel
theorem dX12_cast_19 : decode cX12_cast 19 = .ok (.ifCond .eq 17, 3) := by decide +kernel
theorem dX12_cast_22 : decode cX12_cast 22 = .ok (.iload_n 2, 1) := by decide +kernel
theorem dX12_cast_23 : decode cX12_cast 23 = .ok (.iconst (-1), 1) := by decide +kernel
theorem dX12_cast_24 : decode cX12_cast 24 = .ok (.if_icmp .eq 14, 3) := by decide +kernel
theorem dX12_cast_27 : decode cX12_cast 27 = .ok (.aload_n 0, 1) := by decide +kernel
theorem dX12_cast_28 : decode cX12_cast 28 = .ok (.iload_n 1, 1) := by decide +kernel
theorem dX12_cast_29 : decode cX12_cast 29 = .ok (.iload_n 2, 1) := by decide +kernel
theorem dX12_cast_30 : decode cX12_cast 30 = .ok (.invokevirtual 395, 3) := by decide +kernel
theorem dX12_cast_33 : decode cX12_cast 33 = .ok (.ifCond .ne 5, 3) := by decide +kernel
theorem dX12_cast_36 : decode cX12_cast 36 = .ok (.iconst (-1), 1) := by decide +kernel
theorem dX12_cast_37 : decode cX12_cast 37 = .ok (.ireturn, 1) := by decide +kernel
theorem dX12_cast_38 : decode cX12_cast 38 = .ok (.aload_n 0, 1) := by decide +kernel
theorem dX12_cast_39 : decode cX12_cast 39 = .ok (.iload_n 1, 1) := by decide +kernel
theorem dX12_cast_40 : decode cX12_cast 40 = .ok (.aload_n 0, 1) := by decide +kernel
theorem dX12_cast_41 : decode cX12_cast 41 = .ok (.iload_n 1, 1) := by decide +kernel
theorem dX12_cast_42 : decode cX12_cast 42 = .ok (.invokevirtual 389, 3) := by decide +kernel
theorem dX12_cast_45 : decode cX12_cast 45 = .ok (.iload_n 3, 1) := by decide +kernel
theorem dX12_cast_46 : decode cX12_cast 46 = .ok (.invokevirtual 405, 3) := by decide +kernel
theorem dX12_cast_49 : decode cX12_cast 49 = .ok (.istore 4, 2) := by decide +kernel
theorem dX12_cast_51 : decode cX12_cast 51 = .ok (.iload_n 2, 1) := by decide +kernel
theorem dX12_cast_52 : decode cX12_cast 52 = .ok (.iconst (-1), 1) := by decide +kernel
theorem dX12_cast_53 : decode cX12_cast 53 = .ok (.if_icmp .ne 8, 3) := by decide +kernel
theorem dX12_cast_56 : decode cX12_cast 56 = .ok (.iload 4, 2) := by decide +kernel
theorem dX12_cast_58 : decode cX12_cast 58 = .ok (.goto 9, 3) := by decide +kernel
theorem dX12_cast_61 : decode cX12_cast 61 = .ok (.aload_n 0, 1) := by decide +kernel
theorem dX12_cast_62 : decode cX12_cast 62 = .ok (.getfield 113, 3) := by decide +kernel
theorem dX12_cast_65 : decode cX12_cast 65 = .ok (.iload_n 2, 1) := by decide +kernel
theorem dX12_cast_66 : decode cX12_cast 66 = .ok (.iaload, 1) := by decide +kernel
theorem dX12_cast_67 : decode cX12_cast 67 = .ok (.ireturn, 1) := by decide +kernel
theorem dX12_crowd_0 : decode cX12_crowd 0 = .ok (.aload_n 0, 1) := by decide +kernel
theorem dX12_crowd_1 : decode cX12_crowd 1 = .ok (.iconst 0, 1) := by decide +kernel
theorem dX12_crowd_2 : decode cX12_crowd 2 = .ok (.putfield 116, 3) := by decide +kernel
theorem dX12_crowd_5 : decode cX12_crowd 5 = .ok (.aload_n 0, 1) := by decide +kernel
theorem dX12_crowd_6 : decode cX12_crowd 6 = .ok (.iload_n 1, 1) := by decide +kernel
theorem dX12_crowd_7 : decode cX12_crowd 7 = .ok (.invokevirtual 386, 3) := by decide +kernel
theorem dX12_crowd_10 : decode cX12_crowd 10 = .ok (.ifCond .eq 12, 3) := by decide +kernel
theorem dX12_crowd_13 : decode cX12_crowd 13 = .ok (.iload_n 2, 1) := by decide +kernel
theorem dX12_crowd_14 : decode cX12_crowd 14 = .ok (.iconst 0, 1) := by decide +kernel
theorem dX12_crowd_15 : decode cX12_crowd 15 = .ok (.iconst 1, 1) := by decide +kernel
theorem dX12_crowd_16 : decode cX12_crowd 16 = .ok (.invokestatic 250, 3) := by decide +kernel
theorem dX12_crowd_19 : decode cX12_crowd 19 = .ok (.ifCond .ne 5, 3) := by decide +kernel
theorem dX12_crowd_22 : decode cX12_crowd 22 = .ok (.iconst (-1), 1) := by decide +kernel
theorem dX12_crowd_23 : decode cX12_crowd 23 = .ok (.ireturn, 1) := by decide +kernel
theorem dX12_crowd_24 : decode cX12_crowd 24 = .ok (.iconst 0, 1) := by decide +kernel
theorem dX12_crowd_25 : decode cX12_crowd 25 = .ok (.istore_n 3, 1) := by decide +kernel
theorem dX12_crowd_26 : decode cX12_crowd 26 = .ok (.iconst 1, 1) := by decide +kernel
theorem dX12_crowd_27 : decode cX12_crowd 27 = .ok (.istore 4, 2) := by decide +kernel
theorem dX12_crowd_29 : decode cX12_crowd 29 = .ok (.iload 4, 2) := by decide +kernel
theorem dX12_crowd_31 : decode cX12_crowd 31 = .ok (.aload_n 0, 1) := by decide +kernel
theorem dX12_crowd_32 : decode cX12_crowd 32 = .ok (.getfield 61, 3) := by decide +kernel
theorem dX12_crowd_35 : decode cX12_crowd 35 = .ok (.iload_n 1, 1) := by decide +kernel
theorem dX12_crowd_36 : decode cX12_crowd 36 = .ok (.iaload, 1) := by decide +kernel
theorem dX12_crowd_37 : decode cX12_crowd 37 = .ok (.if_icmp .ge 44, 3) := by decide +kernel
theorem dX12_crowd_40 : decode cX12_crowd 40 = .ok (.aload_n 0, 1) := by decide +kernel
theorem dX12_crowd_41 : decode cX12_crowd 41 = .ok (.getfield 64, 3) := by decide +kernel
theorem dX12_crowd_44 : decode cX12_crowd 44 = .ok (.bipush 20, 2) := by decide +kernel
theorem dX12_crowd_46 : decode cX12_crowd 46 = .ok (.iload_n 1, 1) := by decide +kernel
theorem dX12_crowd_47 : decode cX12_crowd 47 = .ok (.imul, 1) := by decide +kernel
theorem dX12_crowd_48 : decode cX12_crowd 48 = .ok (.iload 4, 2) := by decide +kernel
theorem dX12_crowd_50 : decode cX12_crowd 50 = .ok (.iadd, 1) := by decide +kernel
theorem dX12_crowd_51 : decode cX12_crowd 51 = .ok (.iaload, 1) := by decide +kernel
theorem dX12_crowd_52 : decode cX12_crowd 52 = .ok (.invokestatic 408, 3) := by decide +kernel
theorem dX12_crowd_55 : decode cX12_crowd 55 = .ok (.aload_n 0, 1) := by decide +kernel
theorem dX12_crowd_56 : decode cX12_crowd 56 = .ok (.getfield 64, 3) := by decide +kernel
theorem dX12_crowd_59 : decode cX12_crowd 59 = .ok (.bipush 20, 2) := by decide +kernel
theorem dX12_crowd_61 : decode cX12_crowd 61 = .ok (.iload_n 1, 1) := by decide +kernel
theorem dX12_crowd_62 : decode cX12_crowd 62 = .ok (.imul, 1) := by decide +kernel
theorem dX12_crowd_63 : decode cX12_crowd 63 = .ok (.iload_n 3, 1) := by decide +kernel
theorem dX12_crowd_64 : decode cX12_crowd 64 = .ok (.iadd, 1) := by decide +kernel
theorem dX12_crowd_65 : decode cX12_crowd 65 = .ok (.iaload, 1) := by decide +kernel
theorem dX12_crowd_66 : decode cX12_crowd 66 = .ok (.invokestatic 408, 3) := by decide +kernel
theorem dX12_crowd_69 : decode cX12_crowd 69 = .ok (.if_icmp .le 6, 3) := by decide +kernel
theorem dX12_crowd_72 : decode cX12_crowd 72 = .ok (.iload 4, 2) := by decide +kernel
theorem dX12_crowd_74 : decode cX12_crowd 74 = .ok (.istore_n 3, 1) := by decide +kernel
theorem dX12_crowd_75 : decode cX12_crowd 75 = .ok (.iinc 4 1, 3) := by decide +kernel
theorem dX12_crowd_78 : decode cX12_crowd 78 = .ok (.goto (-49), 3) := by decide +kernel
theorem dX12_crowd_81 : decode cX12_crowd 81 = .ok (.iload_n 2, 1) := by decide +kernel
theorem dX12_crowd_82 : decode cX12_crowd 82 = .ok (.ifCond .ne 7, 3) := by decide +kernel
theorem dX12_crowd_85 : decode cX12_crowd 85 = .ok (.iload_n 3, 1) := by decide +kernel
theorem dX12_crowd_86 : decode cX12_crowd 86 = .ok (.goto 17, 3) := by decide +kernel
theorem dX12_crowd_89 : decode cX12_crowd 89 = .ok (.aload_n 0, 1) := by decide +kernel
theorem dX12_crowd_90 : decode cX12_crowd 90 = .ok (.getfield 64, 3) := by decide +kernel
theorem dX12_crowd_93 : decode cX12_crowd 93 = .ok (.bipush 20, 2) := by decide +kernel
theorem dX12_crowd_95 : decode cX12_crowd 95 = .ok (.iload_n 1, 1) := by decide +kernel
theorem dX12_crowd_96 : decode cX12_crowd 96 = .ok (.imul, 1) := by decide +kernel
theorem dX12_crowd_97 : decode cX12_crowd 97 = .ok (.iload_n 3, 1) := by decide +kernel
theorem dX12_crowd_98 : decode cX12_crowd 98 = .ok (.iadd, 1) := by decide +kernel
theorem dX12_crowd_99 : decode cX12_crowd 99 = .ok (.iaload, 1) := by decide +kernel
theorem dX12_crowd_100 : decode cX12_crowd 100 = .ok (.invokestatic 408, 3) := by decide +kernel
theorem dX12_crowd_103 : decode cX12_crowd 103 = .ok (.ireturn, 1) := by decide +kernel
theorem dX12_could_0 : decode cX12_could 0 = .ok (.aload_n 0, 1) := by decide +kernel
theorem dX12_could_1 : decode cX12_could 1 = .ok (.iconst 0, 1) := by decide +kernel
theorem dX12_could_2 : decode cX12_could 2 = .ok (.putfield 116, 3) := by decide +kernel
theorem dX12_could_5 : decode cX12_could 5 = .ok (.aload_n 0, 1) := by decide +kernel
theorem dX12_could_6 : decode cX12_could 6 = .ok (.iload_n 1, 1) := by decide +kernel
theorem dX12_could_7 : decode cX12_could 7 = .ok (.invokevirtual 386, 3) := by decide +kernel
theorem dX12_could_10 : decode cX12_could 10 = .ok (.ifCond .eq 33, 3) := by decide +kernel
theorem dX12_could_13 : decode cX12_could 13 = .ok (.iload_n 2, 1) := by decide +kernel
theorem dX12_could_14 : decode cX12_could 14 = .ok (.iconst 0, 1) := by decide +kernel
theorem dX12_could_15 : decode cX12_could 15 = .ok (.iconst 3, 1) := by decide +kernel
theorem dX12_could_16 : decode cX12_could 16 = .ok (.invokestatic 250, 3) := by decide +kernel
theorem dX12_could_19 : decode cX12_could 19 = .ok (.ifCond .eq 24, 3) := by decide +kernel
theorem dX12_could_22 : decode cX12_could 22 = .ok (.iload_n 3, 1) := by decide +kernel
theorem dX12_could_23 : decode cX12_could 23 = .ok (.iconst 0, 1) := by decide +kernel
theorem dX12_could_24 : decode cX12_could 24 = .ok (.bipush 10, 2) := by decide +kernel
theorem dX12_could_26 : decode cX12_could 26 = .ok (.invokestatic 250, 3) := by decide +kernel
theorem dX12_could_29 : decode cX12_could 29 = .ok (.ifCond .eq 14, 3) := by decide +kernel
theorem dX12_could_32 : decode cX12_could 32 = .ok (.iload 4, 2) := by decide +kernel
theorem dX12_could_34 : decode cX12_could 34 = .ok (.iconst 0, 1) := by decide +kernel
theorem dX12_could_35 : decode cX12_could 35 = .ok (.bipush 10, 2) := by decide +kernel
theorem dX12_could_37 : decode cX12_could 37 = .ok (.invokestatic 250, 3) := by decide +kernel
theorem dX12_could_40 : decode cX12_could 40 = .ok (.ifCond .ne 5, 3) := by decide +kernel
theorem dX12_could_43 : decode cX12_could 43 = .ok (.iconst (-1), 1) := by decide +kernel
theorem dX12_could_44 : decode cX12_could 44 = .ok (.ireturn, 1) := by decide +kernel
theorem dX12_could_45 : decode cX12_could 45 = .ok (.aload_n 0, 1) := by decide +kernel
theorem dX12_could_46 : decode cX12_could 46 = .ok (.iload_n 1, 1) := by decide +kernel
theorem dX12_could_47 : decode cX12_could 47 = .ok (.aload_n 0, 1) := by decide +kernel
theorem dX12_could_48 : decode cX12_could 48 = .ok (.iload_n 1, 1) := by decide +kernel
theorem dX12_could_49 : decode cX12_could 49 = .ok (.invokevirtual 389, 3) := by decide +kernel
theorem dX12_could_52 : decode cX12_could 52 = .ok (.aload_n 0, 1) := by decide +kernel
theorem dX12_could_53 : decode cX12_could 53 = .ok (.getfield 383, 3) := by decide +kernel
theorem dX12_could_56 : decode cX12_could 56 = .ok (.iconst (-1), 1) := by decide +kernel
theorem dX12_could_57 : decode cX12_could 57 = .ok (.ixor, 1) := by decide +kernel
theorem dX12_could_58 : decode cX12_could 58 = .ok (.iand, 1) := by decide +kernel
theorem dX12_could_59 : decode cX12_could 59 = .ok (.iload_n 2, 1) := by decide +kernel
theorem dX12_could_60 : decode cX12_could 60 = .ok (.invokevirtual 405, 3) := by decide +kernel
theorem dX12_could_63 : decode cX12_could 63 = .ok (.iload_n 3, 1) := by decide +kernel
theorem dX12_could_64 : decode cX12_could 64 = .ok (.if_icmp .gt 28, 3) := by decide +kernel
theorem dX12_could_67 : decode cX12_could 67 = .ok (.aload_n 0, 1) := by decide +kernel
theorem dX12_could_68 : decode cX12_could 68 = .ok (.iload_n 1, 1) := by decide +kernel
theorem dX12_could_69 : decode cX12_could 69 = .ok (.aload_n 0, 1) := by decide +kernel
theorem dX12_could_70 : decode cX12_could 70 = .ok (.iload_n 1, 1) := by decide +kernel
theorem dX12_could_71 : decode cX12_could 71 = .ok (.invokevirtual 389, 3) := by decide +kernel
theorem dX12_could_74 : decode cX12_could 74 = .ok (.aload_n 0, 1) := by decide +kernel
theorem dX12_could_75 : decode cX12_could 75 = .ok (.getfield 383, 3) := by decide +kernel
theorem dX12_could_78 : decode cX12_could 78 = .ok (.iand, 1) := by decide +kernel
theorem dX12_could_79 : decode cX12_could 79 = .ok (.iload_n 2, 1) := by decide +kernel
theorem dX12_could_80 : decode cX12_could 80 = .ok (.invokevirtual 405, 3) := by decide +kernel
theorem dX12_could_83 : decode cX12_could 83 = .ok (.iload 4, 2) := by decide +kernel
theorem dX12_could_85 : decode cX12_could 85 = .ok (.if_icmp .gt 7, 3) := by decide +kernel
theorem dX12_could_88 : decode cX12_could 88 = .ok (.iconst 1, 1) := by decide +kernel
theorem dX12_could_89 : decode cX12_could 89 = .ok (.goto 4, 3) := by decide +kernel
theorem dX12_could_92 : decode cX12_could 92 = .ok (.iconst 0, 1) := by decide +kernel
theorem dX12_could_93 : decode cX12_could 93 = .ok (.ireturn, 1) := by decide +kernel
theorem dX12_isHabit_0 : decode cX12_isHabit 0 = .ok (.iload_n 1, 1) := by decide +kernel
theorem dX12_isHabit_1 : decode cX12_isHabit 1 = .ok (.ifCond .lt 15, 3) := by decide +kernel
theorem dX12_isHabit_4 : decode cX12_isHabit 4 = .ok (.iload_n 1, 1) := by decide +kernel
theorem dX12_isHabit_5 : decode cX12_isHabit 5 = .ok (.aload_n 0, 1) := by decide +kernel
theorem dX12_isHabit_6 : decode cX12_isHabit 6 = .ok (.getfield 269, 3) := by decide +kernel
theorem dX12_isHabit_9 : decode cX12_isHabit 9 = .ok (.if_icmp .ge 7, 3) := by decide +kernel
theorem dX12_isHabit_12 : decode cX12_isHabit 12 = .ok (.iconst 1, 1) := by decide +kernel
theorem dX12_isHabit_13 : decode cX12_isHabit 13 = .ok (.goto 4, 3) := by decide +kernel
theorem dX12_isHabit_16 : decode cX12_isHabit 16 = .ok (.iconst 0, 1) := by decide +kernel
theorem dX12_isHabit_17 : decode cX12_isHabit 17 = .ok (.ireturn, 1) := by decide +kernel
theorem dX12_habit_0 : decode cX12_habit 0 = .ok (.aload_n 0, 1) := by decide +kernel
theorem dX12_habit_1 : decode cX12_habit 1 = .ok (.iconst 0, 1) := by decide +kernel
theorem dX12_habit_2 : decode cX12_habit 2 = .ok (.putfield 116, 3) := by decide +kernel
theorem dX12_habit_5 : decode cX12_habit 5 = .ok (.aload_n 0, 1) := by decide +kernel
theorem dX12_habit_6 : decode cX12_habit 6 = .ok (.iload_n 1, 1) := by decide +kernel
theorem dX12_habit_7 : decode cX12_habit 7 = .ok (.invokevirtual 274, 3) := by decide +kernel
theorem dX12_habit_10 : decode cX12_habit 10 = .ok (.ifCond .eq 16, 3) := by decide +kernel
theorem dX12_habit_13 : decode cX12_habit 13 = .ok (.iload_n 2, 1) := by decide +kernel
theorem dX12_habit_14 : decode cX12_habit 14 = .ok (.iconst (-1), 1) := by decide +kernel
theorem dX12_habit_15 : decode cX12_habit 15 = .ok (.if_icmp .eq 13, 3) := by decide +kernel
theorem dX12_habit_18 : decode cX12_habit 18 = .ok (.aload_n 0, 1) := by decide +kernel
theorem dX12_habit_19 : decode cX12_habit 19 = .ok (.iload_n 2, 1) := by decide +kernel
theorem dX12_habit_20 : decode cX12_habit 20 = .ok (.invokevirtual 413, 3) := by decide +kernel
theorem dX12_habit_23 : decode cX12_habit 23 = .ok (.ifCond .ne 5, 3) := by decide +kernel
theorem dX12_habit_26 : decode cX12_habit 26 = .ok (.iconst 0, 1) := by decide +kernel
theorem dX12_habit_27 : decode cX12_habit 27 = .ok (.ireturn, 1) := by decide +kernel
theorem dX12_habit_28 : decode cX12_habit 28 = .ok (.aload_n 0, 1) := by decide +kernel
theorem dX12_habit_29 : decode cX12_habit 29 = .ok (.getfield 67, 3) := by decide +kernel
theorem dX12_habit_32 : decode cX12_habit 32 = .ok (.iload_n 1, 1) := by decide +kernel
theorem dX12_habit_33 : decode cX12_habit 33 = .ok (.iload_n 2, 1) := by decide +kernel
theorem dX12_habit_34 : decode cX12_habit 34 = .ok (.iastore, 1) := by decide +kernel
theorem dX12_habit_35 : decode cX12_habit 35 = .ok (.iconst 1, 1) := by decide +kernel
theorem dX12_habit_36 : decode cX12_habit 36 = .ok (.ireturn, 1) := by decide +kernel
theorem dX12_worthOf_0 : decode cX12_worthOf 0 = .ok (.iconst 0, 1) := by decide +kernel
theorem dX12_worthOf_1 : decode cX12_worthOf 1 = .ok (.istore 6, 2) := by decide +kernel
theorem dX12_worthOf_3 : decode cX12_worthOf 3 = .ok (.iconst 0, 1) := by decide +kernel
theorem dX12_worthOf_4 : decode cX12_worthOf 4 = .ok (.istore 7, 2) := by decide +kernel
theorem dX12_worthOf_6 : decode cX12_worthOf 6 = .ok (.iload 7, 2) := by decide +kernel
theorem dX12_worthOf_8 : decode cX12_worthOf 8 = .ok (.iload 4, 2) := by decide +kernel
theorem dX12_worthOf_10 : decode cX12_worthOf 10 = .ok (.if_icmp .ge 43, 3) := by decide +kernel
theorem dX12_worthOf_13 : decode cX12_worthOf 13 = .ok (.iload 6, 2) := by decide +kernel
theorem dX12_worthOf_15 : decode cX12_worthOf 15 = .ok (.ldc_w 416, 3) := by decide +kernel
theorem dX12_worthOf_18 : decode cX12_worthOf 18 = .ok (.aload_n 0, 1) := by decide +kernel
theorem dX12_worthOf_19 : decode cX12_worthOf 19 = .ok (.getfield 13, 3) := by decide +kernel
theorem dX12_worthOf_22 : decode cX12_worthOf 22 = .ok (.sipush 200, 3) := by decide +kernel
theorem dX12_worthOf_25 : decode cX12_worthOf 25 = .ok (.iload_n 2, 1) := by decide +kernel
theorem dX12_worthOf_26 : decode cX12_worthOf 26 = .ok (.imul, 1) := by decide +kernel
theorem dX12_worthOf_27 : decode cX12_worthOf 27 = .ok (.iload_n 3, 1) := by decide +kernel
theorem dX12_worthOf_28 : decode cX12_worthOf 28 = .ok (.iadd, 1) := by decide +kernel
theorem dX12_worthOf_29 : decode cX12_worthOf 29 = .ok (.iload 7, 2) := by decide +kernel
theorem dX12_worthOf_31 : decode cX12_worthOf 31 = .ok (.iadd, 1) := by decide +kernel
theorem dX12_worthOf_32 : decode cX12_worthOf 32 = .ok (.baload, 1) := by decide +kernel
theorem dX12_worthOf_33 : decode cX12_worthOf 33 = .ok (.invokestatic 174, 3) := by decide +kernel
theorem dX12_worthOf_36 : decode cX12_worthOf 36 = .ok (.ifCond .eq 7, 3) := by decide +kernel
theorem dX12_worthOf_39 : decode cX12_worthOf 39 = .ok (.iconst 1, 1) := by decide +kernel
theorem dX12_worthOf_40 : decode cX12_worthOf 40 = .ok (.goto 4, 3) := by decide +kernel
theorem dX12_worthOf_43 : decode cX12_worthOf 43 = .ok (.iconst 0, 1) := by decide +kernel
theorem dX12_worthOf_44 : decode cX12_worthOf 44 = .ok (.iadd, 1) := by decide +kernel
theorem dX12_worthOf_45 : decode cX12_worthOf 45 = .ok (.istore 6, 2) := by decide +kernel
theorem dX12_worthOf_47 : decode cX12_worthOf 47 = .ok (.iinc 7 1, 3) := by decide +kernel
theorem dX12_worthOf_50 : decode cX12_worthOf 50 = .ok (.goto (-44), 3) := by decide +kernel
theorem dX12_worthOf_53 : decode cX12_worthOf 53 = .ok (.aload_n 0, 1) := by decide +kernel
theorem dX12_worthOf_54 : decode cX12_worthOf 54 = .ok (.getfield 23, 3) := by decide +kernel
theorem dX12_worthOf_57 : decode cX12_worthOf 57 = .ok (.bipush 110, 2) := by decide +kernel
theorem dX12_worthOf_59 : decode cX12_worthOf 59 = .ok (.iload 4, 2) := by decide +kernel
theorem dX12_worthOf_61 : decode cX12_worthOf 61 = .ok (.iastore, 1) := by decide +kernel
theorem dX12_worthOf_62 : decode cX12_worthOf 62 = .ok (.aload_n 0, 1) := by decide +kernel
theorem dX12_worthOf_63 : decode cX12_worthOf 63 = .ok (.getfield 23, 3) := by decide +kernel
theorem dX12_worthOf_66 : decode cX12_worthOf 66 = .ok (.bipush 118, 2) := by decide +kernel
theorem dX12_worthOf_68 : decode cX12_worthOf 68 = .ok (.iload 6, 2) := by decide +kernel
theorem dX12_worthOf_70 : decode cX12_worthOf 70 = .ok (.iastore, 1) := by decide +kernel
theorem dX12_worthOf_71 : decode cX12_worthOf 71 = .ok (.aload_n 0, 1) := by decide +kernel
theorem dX12_worthOf_72 : decode cX12_worthOf 72 = .ok (.getfield 23, 3) := by decide +kernel
theorem dX12_worthOf_75 : decode cX12_worthOf 75 = .ok (.bipush 102, 2) := by decide +kernel
theorem dX12_worthOf_77 : decode cX12_worthOf 77 = .ok (.aload_n 0, 1) := by decide +kernel
theorem dX12_worthOf_78 : decode cX12_worthOf 78 = .ok (.getfield 13, 3) := by decide +kernel
theorem dX12_worthOf_81 : decode cX12_worthOf 81 = .ok (.sipush 200, 3) := by decide +kernel
theorem dX12_worthOf_84 : decode cX12_worthOf 84 = .ok (.iload_n 2, 1) := by decide +kernel
theorem dX12_worthOf_85 : decode cX12_worthOf 85 = .ok (.imul, 1) := by decide +kernel
theorem dX12_worthOf_86 : decode cX12_worthOf 86 = .ok (.iload_n 3, 1) := by decide +kernel
theorem dX12_worthOf_87 : decode cX12_worthOf 87 = .ok (.iadd, 1) := by decide +kernel
theorem dX12_worthOf_88 : decode cX12_worthOf 88 = .ok (.baload, 1) := by decide +kernel
theorem dX12_worthOf_89 : decode cX12_worthOf 89 = .ok (.bipush 97, 2) := by decide +kernel
theorem dX12_worthOf_91 : decode cX12_worthOf 91 = .ok (.isub, 1) := by decide +kernel
theorem dX12_worthOf_92 : decode cX12_worthOf 92 = .ok (.iconst 1, 1) := by decide +kernel
theorem dX12_worthOf_93 : decode cX12_worthOf 93 = .ok (.iadd, 1) := by decide +kernel
theorem dX12_worthOf_94 : decode cX12_worthOf 94 = .ok (.iastore, 1) := by decide +kernel
theorem dX12_worthOf_95 : decode cX12_worthOf 95 = .ok (.aload_n 0, 1) := by decide +kernel
theorem dX12_worthOf_96 : decode cX12_worthOf 96 = .ok (.getfield 23, 3) := by decide +kernel
theorem dX12_worthOf_99 : decode cX12_worthOf 99 = .ok (.bipush 108, 2) := by decide +kernel
theorem dX12_worthOf_101 : decode cX12_worthOf 101 = .ok (.aload_n 0, 1) := by decide +kernel
theorem dX12_worthOf_102 : decode cX12_worthOf 102 = .ok (.getfield 13, 3) := by decide +kernel
theorem dX12_worthOf_105 : decode cX12_worthOf 105 = .ok (.sipush 200, 3) := by decide +kernel
theorem dX12_worthOf_108 : decode cX12_worthOf 108 = .ok (.iload_n 2, 1) := by decide +kernel
theorem dX12_worthOf_109 : decode cX12_worthOf 109 = .ok (.imul, 1) := by decide +kernel
theorem dX12_worthOf_110 : decode cX12_worthOf 110 = .ok (.iload_n 3, 1) := by decide +kernel
theorem dX12_worthOf_111 : decode cX12_worthOf 111 = .ok (.iadd, 1) := by decide +kernel
theorem dX12_worthOf_112 : decode cX12_worthOf 112 = .ok (.iload 4, 2) := by decide +kernel
theorem dX12_worthOf_114 : decode cX12_worthOf 114 = .ok (.iadd, 1) := by decide +kernel
theorem dX12_worthOf_115 : decode cX12_worthOf 115 = .ok (.iconst 1, 1) := by decide +kernel
theorem dX12_worthOf_116 : decode cX12_worthOf 116 = .ok (.isub, 1) := by decide +kernel
theorem dX12_worthOf_117 : decode cX12_worthOf 117 = .ok (.baload, 1) := by decide +kernel
theorem dX12_worthOf_118 : decode cX12_worthOf 118 = .ok (.bipush 97, 2) := by decide +kernel
theorem dX12_worthOf_120 : decode cX12_worthOf 120 = .ok (.isub, 1) := by decide +kernel
theorem dX12_worthOf_121 : decode cX12_worthOf 121 = .ok (.iconst 1, 1) := by decide +kernel
theorem dX12_worthOf_122 : decode cX12_worthOf 122 = .ok (.iadd, 1) := by decide +kernel
theorem dX12_worthOf_123 : decode cX12_worthOf 123 = .ok (.iastore, 1) := by decide +kernel
theorem dX12_worthOf_124 : decode cX12_worthOf 124 = .ok (.aload_n 0, 1) := by decide +kernel
theorem dX12_worthOf_125 : decode cX12_worthOf 125 = .ok (.getfield 23, 3) := by decide +kernel
theorem dX12_worthOf_128 : decode cX12_worthOf 128 = .ok (.bipush 119, 2) := by decide +kernel
theorem dX12_worthOf_130 : decode cX12_worthOf 130 = .ok (.iload 5, 2) := by decide +kernel
theorem dX12_worthOf_132 : decode cX12_worthOf 132 = .ok (.iastore, 1) := by decide +kernel
theorem dX12_worthOf_133 : decode cX12_worthOf 133 = .ok (.aload_n 0, 1) := by decide +kernel
theorem dX12_worthOf_134 : decode cX12_worthOf 134 = .ok (.aload_n 0, 1) := by decide +kernel
theorem dX12_worthOf_135 : decode cX12_worthOf 135 = .ok (.getfield 16, 3) := by decide +kernel
theorem dX12_worthOf_138 : decode cX12_worthOf 138 = .ok (.sipush 200, 3) := by decide +kernel
theorem dX12_worthOf_141 : decode cX12_worthOf 141 = .ok (.iload_n 1, 1) := by decide +kernel
theorem dX12_worthOf_142 : decode cX12_worthOf 142 = .ok (.imul, 1) := by decide +kernel
theorem dX12_worthOf_143 : decode cX12_worthOf 143 = .ok (.aload_n 0, 1) := by decide +kernel
theorem dX12_worthOf_144 : decode cX12_worthOf 144 = .ok (.getfield 19, 3) := by decide +kernel
theorem dX12_worthOf_147 : decode cX12_worthOf 147 = .ok (.iload_n 1, 1) := by decide +kernel
theorem dX12_worthOf_148 : decode cX12_worthOf 148 = .ok (.iaload, 1) := by decide +kernel
theorem dX12_worthOf_149 : decode cX12_worthOf 149 = .ok (.invokevirtual 260, 3) := by decide +kernel
theorem dX12_worthOf_152 : decode cX12_worthOf 152 = .ok (.iconst 0, 1) := by decide +kernel
theorem dX12_worthOf_153 : decode cX12_worthOf 153 = .ok (.bipush 100, 2) := by decide +kernel
theorem dX12_worthOf_155 : decode cX12_worthOf 155 = .ok (.aload_n 0, 1) := by decide +kernel
theorem dX12_worthOf_156 : decode cX12_worthOf 156 = .ok (.getfield 224, 3) := by decide +kernel
theorem dX12_worthOf_159 : decode cX12_worthOf 159 = .ok (.invokestatic 309, 3) := by decide +kernel
theorem dX12_worthOf_162 : decode cX12_worthOf 162 = .ok (.invokestatic 300, 3) := by decide +kernel
theorem dX12_worthOf_165 : decode cX12_worthOf 165 = .ok (.ireturn, 1) := by decide +kernel
theorem dX12_worth_0 : decode cX12_worth 0 = .ok (.aload_n 0, 1) := by decide +kernel
theorem dX12_worth_1 : decode cX12_worth 1 = .ok (.iconst 0, 1) := by decide +kernel
theorem dX12_worth_2 : decode cX12_worth 2 = .ok (.putfield 116, 3) := by decide +kernel
theorem dX12_worth_5 : decode cX12_worth 5 = .ok (.aload_n 0, 1) := by decide +kernel
theorem dX12_worth_6 : decode cX12_worth 6 = .ok (.iload_n 1, 1) := by decide +kernel
theorem dX12_worth_7 : decode cX12_worth 7 = .ok (.invokevirtual 274, 3) := by decide +kernel
theorem dX12_worth_10 : decode cX12_worth 10 = .ok (.ifCond .eq 11, 3) := by decide +kernel
theorem dX12_worth_13 : decode cX12_worth 13 = .ok (.aload_n 0, 1) := by decide +kernel
theorem dX12_worth_14 : decode cX12_worth 14 = .ok (.iload_n 2, 1) := by decide +kernel
theorem dX12_worth_15 : decode cX12_worth 15 = .ok (.invokevirtual 413, 3) := by decide +kernel
theorem dX12_worth_18 : decode cX12_worth 18 = .ok (.ifCond .ne 5, 3) := by decide +kernel
theorem dX12_worth_21 : decode cX12_worth 21 = .ok (.iconst (-1), 1) := by decide +kernel
theorem dX12_worth_22 : decode cX12_worth 22 = .ok (.ireturn, 1) := by decide +kernel
theorem dX12_worth_23 : decode cX12_worth 23 = .ok (.iconst 0, 1) := by decide +kernel
theorem dX12_worth_24 : decode cX12_worth 24 = .ok (.istore_n 3, 1) := by decide +kernel
theorem dX12_worth_25 : decode cX12_worth 25 = .ok (.iconst 0, 1) := by decide +kernel
theorem dX12_worth_26 : decode cX12_worth 26 = .ok (.istore 4, 2) := by decide +kernel
theorem dX12_worth_28 : decode cX12_worth 28 = .ok (.iload 4, 2) := by decide +kernel
theorem dX12_worth_30 : decode cX12_worth 30 = .ok (.aload_n 0, 1) := by decide +kernel
theorem dX12_worth_31 : decode cX12_worth 31 = .ok (.getfield 40, 3) := by decide +kernel
theorem dX12_worth_34 : decode cX12_worth 34 = .ok (.iload_n 1, 1) := by decide +kernel
theorem dX12_worth_35 : decode cX12_worth 35 = .ok (.iaload, 1) := by decide +kernel
theorem dX12_worth_36 : decode cX12_worth 36 = .ok (.if_icmp .ge 88, 3) := by decide +kernel
theorem dX12_worth_39 : decode cX12_worth 39 = .ok (.bipush 12, 2) := by decide +kernel
theorem dX12_worth_41 : decode cX12_worth 41 = .ok (.bipush 16, 2) := by decide +kernel
theorem dX12_worth_43 : decode cX12_worth 43 = .ok (.iload_n 1, 1) := by decide +kernel
theorem dX12_worth_44 : decode cX12_worth 44 = .ok (.imul, 1) := by decide +kernel
theorem dX12_worth_45 : decode cX12_worth 45 = .ok (.iload 4, 2) := by decide +kernel
theorem dX12_worth_47 : decode cX12_worth 47 = .ok (.iadd, 1) := by decide +kernel
theorem dX12_worth_48 : decode cX12_worth 48 = .ok (.imul, 1) := by decide +kernel
theorem dX12_worth_49 : decode cX12_worth 49 = .ok (.aload_n 0, 1) := by decide +kernel
theorem dX12_worth_50 : decode cX12_worth 50 = .ok (.getfield 46, 3) := by decide +kernel
theorem dX12_worth_53 : decode cX12_worth 53 = .ok (.bipush 16, 2) := by decide +kernel
theorem dX12_worth_55 : decode cX12_worth 55 = .ok (.iload_n 1, 1) := by decide +kernel
theorem dX12_worth_56 : decode cX12_worth 56 = .ok (.imul, 1) := by decide +kernel
theorem dX12_worth_57 : decode cX12_worth 57 = .ok (.iload 4, 2) := by decide +kernel
theorem dX12_worth_59 : decode cX12_worth 59 = .ok (.iadd, 1) := by decide +kernel
theorem dX12_worth_60 : decode cX12_worth 60 = .ok (.iaload, 1) := by decide +kernel
theorem dX12_worth_61 : decode cX12_worth 61 = .ok (.iadd, 1) := by decide +kernel
theorem dX12_worth_62 : decode cX12_worth 62 = .ok (.iconst 1, 1) := by decide +kernel
theorem dX12_worth_63 : decode cX12_worth 63 = .ok (.isub, 1) := by decide +kernel
theorem dX12_worth_64 : decode cX12_worth 64 = .ok (.istore 5, 2) := by decide +kernel
theorem dX12_worth_66 : decode cX12_worth 66 = .ok (.iload_n 3, 1) := by decide +kernel
theorem dX12_worth_67 : decode cX12_worth 67 = .ok (.aload_n 0, 1) := by decide +kernel
theorem dX12_worth_68 : decode cX12_worth 68 = .ok (.iload_n 2, 1) := by decide +kernel
theorem dX12_worth_69 : decode cX12_worth 69 = .ok (.iload_n 1, 1) := by decide +kernel
theorem dX12_worth_70 : decode cX12_worth 70 = .ok (.aload_n 0, 1) := by decide +kernel
theorem dX12_worth_71 : decode cX12_worth 71 = .ok (.getfield 55, 3) := by decide +kernel
theorem dX12_worth_74 : decode cX12_worth 74 = .ok (.iload 5, 2) := by decide +kernel
theorem dX12_worth_76 : decode cX12_worth 76 = .ok (.iaload, 1) := by decide +kernel
theorem dX12_worth_77 : decode cX12_worth 77 = .ok (.aload_n 0, 1) := by decide +kernel
theorem dX12_worth_78 : decode cX12_worth 78 = .ok (.getfield 58, 3) := by decide +kernel
theorem dX12_worth_81 : decode cX12_worth 81 = .ok (.iload 5, 2) := by decide +kernel
theorem dX12_worth_83 : decode cX12_worth 83 = .ok (.iaload, 1) := by decide +kernel
theorem dX12_worth_84 : decode cX12_worth 84 = .ok (.aload_n 0, 1) := by decide +kernel
theorem dX12_worth_85 : decode cX12_worth 85 = .ok (.getfield 46, 3) := by decide +kernel
theorem dX12_worth_88 : decode cX12_worth 88 = .ok (.bipush 16, 2) := by decide +kernel
theorem dX12_worth_90 : decode cX12_worth 90 = .ok (.iload_n 1, 1) := by decide +kernel
theorem dX12_worth_91 : decode cX12_worth 91 = .ok (.imul, 1) := by decide +kernel
theorem dX12_worth_92 : decode cX12_worth 92 = .ok (.iload 4, 2) := by decide +kernel
theorem dX12_worth_94 : decode cX12_worth 94 = .ok (.iadd, 1) := by decide +kernel
theorem dX12_worth_95 : decode cX12_worth 95 = .ok (.iaload, 1) := by decide +kernel
theorem dX12_worth_96 : decode cX12_worth 96 = .ok (.iconst 1, 1) := by decide +kernel
theorem dX12_worth_97 : decode cX12_worth 97 = .ok (.if_icmp .le 15, 3) := by decide +kernel
theorem dX12_worth_100 : decode cX12_worth 100 = .ok (.aload_n 0, 1) := by decide +kernel
theorem dX12_worth_101 : decode cX12_worth 101 = .ok (.getfield 58, 3) := by decide +kernel
theorem dX12_worth_104 : decode cX12_worth 104 = .ok (.iload 5, 2) := by decide +kernel
theorem dX12_worth_106 : decode cX12_worth 106 = .ok (.iconst 1, 1) := by decide +kernel
theorem dX12_worth_107 : decode cX12_worth 107 = .ok (.isub, 1) := by decide +kernel
theorem dX12_worth_108 : decode cX12_worth 108 = .ok (.iaload, 1) := by decide +kernel
theorem dX12_worth_109 : decode cX12_worth 109 = .ok (.goto 4, 3) := by decide +kernel
theorem dX12_worth_112 : decode cX12_worth 112 = .ok (.iconst 0, 1) := by decide +kernel
theorem dX12_worth_113 : decode cX12_worth 113 = .ok (.invokevirtual 418, 3) := by decide +kernel
theorem dX12_worth_116 : decode cX12_worth 116 = .ok (.iadd, 1) := by decide +kernel
theorem dX12_worth_117 : decode cX12_worth 117 = .ok (.istore_n 3, 1) := by decide +kernel
theorem dX12_worth_118 : decode cX12_worth 118 = .ok (.iinc 4 1, 3) := by decide +kernel
theorem dX12_worth_121 : decode cX12_worth 121 = .ok (.goto (-93), 3) := by decide +kernel
theorem dX12_worth_124 : decode cX12_worth 124 = .ok (.iload_n 3, 1) := by decide +kernel
theorem dX12_worth_125 : decode cX12_worth 125 = .ok (.ireturn, 1) := by decide +kernel
theorem dX12_likely_0 : decode cX12_likely 0 = .ok (.aload_n 0, 1) := by decide +kernel
theorem dX12_likely_1 : decode cX12_likely 1 = .ok (.iconst 0, 1) := by decide +kernel
theorem dX12_likely_2 : decode cX12_likely 2 = .ok (.putfield 116, 3) := by decide +kernel
theorem dX12_likely_5 : decode cX12_likely 5 = .ok (.aload_n 0, 1) := by decide +kernel
theorem dX12_likely_6 : decode cX12_likely 6 = .ok (.iload_n 1, 1) := by decide +kernel
theorem dX12_likely_7 : decode cX12_likely 7 = .ok (.invokevirtual 277, 3) := by decide +kernel
theorem dX12_likely_10 : decode cX12_likely 10 = .ok (.ifCond .eq 38, 3) := by decide +kernel
theorem dX12_likely_13 : decode cX12_likely 13 = .ok (.aload_n 0, 1) := by decide +kernel
theorem dX12_likely_14 : decode cX12_likely 14 = .ok (.iload_n 2, 1) := by decide +kernel
theorem dX12_likely_15 : decode cX12_likely 15 = .ok (.invokevirtual 274, 3) := by decide +kernel
theorem dX12_likely_18 : decode cX12_likely 18 = .ok (.ifCond .eq 30, 3) := by decide +kernel
theorem dX12_likely_21 : decode cX12_likely 21 = .ok (.aload_n 0, 1) := by decide +kernel
theorem dX12_likely_22 : decode cX12_likely 22 = .ok (.getfield 43, 3) := by decide +kernel
theorem dX12_likely_25 : decode cX12_likely 25 = .ok (.iload_n 1, 1) := by decide +kernel
theorem dX12_likely_26 : decode cX12_likely 26 = .ok (.iaload, 1) := by decide +kernel
theorem dX12_likely_27 : decode cX12_likely 27 = .ok (.ifCond .eq 21, 3) := by decide +kernel
theorem dX12_likely_30 : decode cX12_likely 30 = .ok (.iload_n 1, 1) := by decide +kernel
theorem dX12_likely_31 : decode cX12_likely 31 = .ok (.bipush 16, 2) := by decide +kernel
theorem dX12_likely_33 : decode cX12_likely 33 = .ok (.idiv, 1) := by decide +kernel
theorem dX12_likely_34 : decode cX12_likely 34 = .ok (.iload_n 2, 1) := by decide +kernel
theorem dX12_likely_35 : decode cX12_likely 35 = .ok (.if_icmp .eq 13, 3) := by decide +kernel
theorem dX12_likely_38 : decode cX12_likely 38 = .ok (.aload_n 0, 1) := by decide +kernel
theorem dX12_likely_39 : decode cX12_likely 39 = .ok (.getfield 67, 3) := by decide +kernel
theorem dX12_likely_42 : decode cX12_likely 42 = .ok (.iload_n 2, 1) := by decide +kernel
theorem dX12_likely_43 : decode cX12_likely 43 = .ok (.iaload, 1) := by decide +kernel
theorem dX12_likely_44 : decode cX12_likely 44 = .ok (.iconst (-1), 1) := by decide +kernel
theorem dX12_likely_45 : decode cX12_likely 45 = .ok (.if_icmp .ne 5, 3) := by decide +kernel
theorem dX12_likely_48 : decode cX12_likely 48 = .ok (.iconst (-1), 1) := by decide +kernel
theorem dX12_likely_49 : decode cX12_likely 49 = .ok (.ireturn, 1) := by decide +kernel
theorem dX12_likely_50 : decode cX12_likely 50 = .ok (.iconst 2, 1) := by decide +kernel
theorem dX12_likely_51 : decode cX12_likely 51 = .ok (.iload_n 1, 1) := by decide +kernel
theorem dX12_likely_52 : decode cX12_likely 52 = .ok (.imul, 1) := by decide +kernel
theorem dX12_likely_53 : decode cX12_likely 53 = .ok (.aload_n 0, 1) := by decide +kernel
theorem dX12_likely_54 : decode cX12_likely 54 = .ok (.getfield 43, 3) := by decide +kernel
theorem dX12_likely_57 : decode cX12_likely 57 = .ok (.iload_n 1, 1) := by decide +kernel
theorem dX12_likely_58 : decode cX12_likely 58 = .ok (.iaload, 1) := by decide +kernel
theorem dX12_likely_59 : decode cX12_likely 59 = .ok (.iadd, 1) := by decide +kernel
theorem dX12_likely_60 : decode cX12_likely 60 = .ok (.iconst 1, 1) := by decide +kernel
theorem dX12_likely_61 : decode cX12_likely 61 = .ok (.isub, 1) := by decide +kernel
theorem dX12_likely_62 : decode cX12_likely 62 = .ok (.istore_n 3, 1) := by decide +kernel
theorem dX12_likely_63 : decode cX12_likely 63 = .ok (.aload_n 0, 1) := by decide +kernel
theorem dX12_likely_64 : decode cX12_likely 64 = .ok (.aload_n 0, 1) := by decide +kernel
theorem dX12_likely_65 : decode cX12_likely 65 = .ok (.getfield 67, 3) := by decide +kernel
theorem dX12_likely_68 : decode cX12_likely 68 = .ok (.iload_n 2, 1) := by decide +kernel
theorem dX12_likely_69 : decode cX12_likely 69 = .ok (.iaload, 1) := by decide +kernel
theorem dX12_likely_70 : decode cX12_likely 70 = .ok (.iload_n 1, 1) := by decide +kernel
theorem dX12_likely_71 : decode cX12_likely 71 = .ok (.bipush 16, 2) := by decide +kernel
theorem dX12_likely_73 : decode cX12_likely 73 = .ok (.idiv, 1) := by decide +kernel
theorem dX12_likely_74 : decode cX12_likely 74 = .ok (.aload_n 0, 1) := by decide +kernel
theorem dX12_likely_75 : decode cX12_likely 75 = .ok (.getfield 49, 3) := by decide +kernel
theorem dX12_likely_78 : decode cX12_likely 78 = .ok (.iload_n 3, 1) := by decide +kernel
theorem dX12_likely_79 : decode cX12_likely 79 = .ok (.iaload, 1) := by decide +kernel
theorem dX12_likely_80 : decode cX12_likely 80 = .ok (.aload_n 0, 1) := by decide +kernel
theorem dX12_likely_81 : decode cX12_likely 81 = .ok (.getfield 52, 3) := by decide +kernel
theorem dX12_likely_84 : decode cX12_likely 84 = .ok (.iload_n 3, 1) := by decide +kernel
theorem dX12_likely_85 : decode cX12_likely 85 = .ok (.iaload, 1) := by decide +kernel
theorem dX12_likely_86 : decode cX12_likely 86 = .ok (.aload_n 0, 1) := by decide +kernel
theorem dX12_likely_87 : decode cX12_likely 87 = .ok (.getfield 43, 3) := by decide +kernel
theorem dX12_likely_90 : decode cX12_likely 90 = .ok (.iload_n 1, 1) := by decide +kernel
theorem dX12_likely_91 : decode cX12_likely 91 = .ok (.iaload, 1) := by decide +kernel
theorem dX12_likely_92 : decode cX12_likely 92 = .ok (.iconst 1, 1) := by decide +kernel
theorem dX12_likely_93 : decode cX12_likely 93 = .ok (.if_icmp .le 14, 3) := by decide +kernel
theorem dX12_likely_96 : decode cX12_likely 96 = .ok (.aload_n 0, 1) := by decide +kernel
theorem dX12_likely_97 : decode cX12_likely 97 = .ok (.getfield 52, 3) := by decide +kernel
theorem dX12_likely_100 : decode cX12_likely 100 = .ok (.iload_n 3, 1) := by decide +kernel
theorem dX12_likely_101 : decode cX12_likely 101 = .ok (.iconst 1, 1) := by decide +kernel
theorem dX12_likely_102 : decode cX12_likely 102 = .ok (.isub, 1) := by decide +kernel
theorem dX12_likely_103 : decode cX12_likely 103 = .ok (.iaload, 1) := by decide +kernel
theorem dX12_likely_104 : decode cX12_likely 104 = .ok (.goto 4, 3) := by decide +kernel
theorem dX12_likely_107 : decode cX12_likely 107 = .ok (.iconst 0, 1) := by decide +kernel
theorem dX12_likely_108 : decode cX12_likely 108 = .ok (.invokevirtual 418, 3) := by decide +kernel
theorem dX12_likely_111 : decode cX12_likely 111 = .ok (.ireturn, 1) := by decide +kernel
theorem dX12_keep_0 : decode cX12_keep 0 = .ok (.aload_n 0, 1) := by decide +kernel
theorem dX12_keep_1 : decode cX12_keep 1 = .ok (.iconst 0, 1) := by decide +kernel
theorem dX12_keep_2 : decode cX12_keep 2 = .ok (.putfield 116, 3) := by decide +kernel
theorem dX12_keep_5 : decode cX12_keep 5 = .ok (.aload_n 0, 1) := by decide +kernel
theorem dX12_keep_6 : decode cX12_keep 6 = .ok (.aload_n 0, 1) := by decide +kernel
theorem dX12_keep_7 : decode cX12_keep 7 = .ok (.getfield 263, 3) := by decide +kernel
theorem dX12_keep_10 : decode cX12_keep 10 = .ok (.putfield 422, 3) := by decide +kernel
theorem dX12_keep_13 : decode cX12_keep 13 = .ok (.aload_n 0, 1) := by decide +kernel
theorem dX12_keep_14 : decode cX12_keep 14 = .ok (.aload_n 0, 1) := by decide +kernel
theorem dX12_keep_15 : decode cX12_keep 15 = .ok (.getfield 365, 3) := by decide +kernel
theorem dX12_keep_18 : decode cX12_keep 18 = .ok (.putfield 425, 3) := by decide +kernel
theorem dX12_keep_21 : decode cX12_keep 21 = .ok (.aload_n 0, 1) := by decide +kernel
theorem dX12_keep_22 : decode cX12_keep 22 = .ok (.getfield 263, 3) := by decide +kernel
theorem dX12_keep_25 : decode cX12_keep 25 = .ok (.aload_n 0, 1) := by decide +kernel
theorem dX12_keep_26 : decode cX12_keep 26 = .ok (.getfield 365, 3) := by decide +kernel
theorem dX12_keep_29 : decode cX12_keep 29 = .ok (.iadd, 1) := by decide +kernel
theorem dX12_keep_30 : decode cX12_keep 30 = .ok (.ireturn, 1) := by decide +kernel
theorem dX12_back_0 : decode cX12_back 0 = .ok (.aload_n 0, 1) := by decide +kernel
theorem dX12_back_1 : decode cX12_back 1 = .ok (.iconst 0, 1) := by decide +kernel
theorem dX12_back_2 : decode cX12_back 2 = .ok (.putfield 116, 3) := by decide +kernel
theorem dX12_back_5 : decode cX12_back 5 = .ok (.aload_n 0, 1) := by decide +kernel
theorem dX12_back_6 : decode cX12_back 6 = .ok (.aload_n 0, 1) := by decide +kernel
theorem dX12_back_7 : decode cX12_back 7 = .ok (.getfield 263, 3) := by decide +kernel
theorem dX12_back_10 : decode cX12_back 10 = .ok (.aload_n 0, 1) := by decide +kernel
theorem dX12_back_11 : decode cX12_back 11 = .ok (.getfield 422, 3) := by decide +kernel
theorem dX12_back_14 : decode cX12_back 14 = .ok (.invokestatic 309, 3) := by decide +kernel
theorem dX12_back_17 : decode cX12_back 17 = .ok (.putfield 263, 3) := by decide +kernel
theorem dX12_back_20 : decode cX12_back 20 = .ok (.aload_n 0, 1) := by decide +kernel
theorem dX12_back_21 : decode cX12_back 21 = .ok (.aload_n 0, 1) := by decide +kernel
theorem dX12_back_22 : decode cX12_back 22 = .ok (.getfield 365, 3) := by decide +kernel
theorem dX12_back_25 : decode cX12_back 25 = .ok (.aload_n 0, 1) := by decide +kernel
theorem dX12_back_26 : decode cX12_back 26 = .ok (.getfield 425, 3) := by decide +kernel
theorem dX12_back_29 : decode cX12_back 29 = .ok (.invokestatic 309, 3) := by decide +kernel
theorem dX12_back_32 : decode cX12_back 32 = .ok (.putfield 365, 3) := by decide +kernel
theorem dX12_back_35 : decode cX12_back 35 = .ok (.iconst 0, 1) := by decide +kernel
theorem dX12_back_36 : decode cX12_back 36 = .ok (.istore_n 1, 1) := by decide +kernel
theorem dX12_back_37 : decode cX12_back 37 = .ok (.iload_n 1, 1) := by decide +kernel
theorem dX12_back_38 : decode cX12_back 38 = .ok (.aload_n 0, 1) := by decide +kernel
theorem dX12_back_39 : decode cX12_back 39 = .ok (.getfield 365, 3) := by decide +kernel
theorem dX12_back_42 : decode cX12_back 42 = .ok (.if_icmp .ge 30, 3) := by decide +kernel
theorem dX12_back_45 : decode cX12_back 45 = .ok (.aload_n 0, 1) := by decide +kernel
theorem dX12_back_46 : decode cX12_back 46 = .ok (.getfield 100, 3) := by decide +kernel
theorem dX12_back_49 : decode cX12_back 49 = .ok (.iload_n 1, 1) := by decide +kernel
theorem dX12_back_50 : decode cX12_back 50 = .ok (.iaload, 1) := by decide +kernel
theorem dX12_back_51 : decode cX12_back 51 = .ok (.bipush 16, 2) := by decide +kernel
theorem dX12_back_53 : decode cX12_back 53 = .ok (.idiv, 1) := by decide +kernel
theorem dX12_back_54 : decode cX12_back 54 = .ok (.aload_n 0, 1) := by decide +kernel
theorem dX12_back_55 : decode cX12_back 55 = .ok (.getfield 263, 3) := by decide +kernel
theorem dX12_back_58 : decode cX12_back 58 = .ok (.if_icmp .lt 8, 3) := by decide +kernel
theorem dX12_back_61 : decode cX12_back 61 = .ok (.aload_n 0, 1) := by decide +kernel
theorem dX12_back_62 : decode cX12_back 62 = .ok (.iload_n 1, 1) := by decide +kernel
theorem dX12_back_63 : decode cX12_back 63 = .ok (.putfield 365, 3) := by decide +kernel
theorem dX12_back_66 : decode cX12_back 66 = .ok (.iinc 1 1, 3) := by decide +kernel
theorem dX12_back_69 : decode cX12_back 69 = .ok (.goto (-32), 3) := by decide +kernel
theorem dX12_back_72 : decode cX12_back 72 = .ok (.aload_n 0, 1) := by decide +kernel
theorem dX12_back_73 : decode cX12_back 73 = .ok (.getfield 263, 3) := by decide +kernel
theorem dX12_back_76 : decode cX12_back 76 = .ok (.aload_n 0, 1) := by decide +kernel
theorem dX12_back_77 : decode cX12_back 77 = .ok (.getfield 365, 3) := by decide +kernel
theorem dX12_back_80 : decode cX12_back 80 = .ok (.iadd, 1) := by decide +kernel
theorem dX12_back_81 : decode cX12_back 81 = .ok (.ireturn, 1) := by decide +kernel
theorem dX12_count_0 : decode cX12_count 0 = .ok (.aload_n 0, 1) := by decide +kernel
theorem dX12_count_1 : decode cX12_count 1 = .ok (.iconst 0, 1) := by decide +kernel
theorem dX12_count_2 : decode cX12_count 2 = .ok (.putfield 116, 3) := by decide +kernel
theorem dX12_count_5 : decode cX12_count 5 = .ok (.iconst 0, 1) := by decide +kernel
theorem dX12_count_6 : decode cX12_count 6 = .ok (.istore_n 2, 1) := by decide +kernel
theorem dX12_count_7 : decode cX12_count 7 = .ok (.iload_n 1, 1) := by decide +kernel
theorem dX12_count_8 : decode cX12_count 8 = .ok (.tableswitch 101 0 6 #[44, 49, 54, 59, 86, 91, 96], 44) := by decide +kernel
theorem dX12_count_52 : decode cX12_count 52 = .ok (.aload_n 0, 1) := by decide +kernel
theorem dX12_count_53 : decode cX12_count 53 = .ok (.getfield 263, 3) := by decide +kernel
theorem dX12_count_56 : decode cX12_count 56 = .ok (.ireturn, 1) := by decide +kernel
theorem dX12_count_57 : decode cX12_count 57 = .ok (.aload_n 0, 1) := by decide +kernel
theorem dX12_count_58 : decode cX12_count 58 = .ok (.getfield 266, 3) := by decide +kernel
theorem dX12_count_61 : decode cX12_count 61 = .ok (.ireturn, 1) := by decide +kernel
theorem dX12_count_62 : decode cX12_count 62 = .ok (.aload_n 0, 1) := by decide +kernel
theorem dX12_count_63 : decode cX12_count 63 = .ok (.getfield 269, 3) := by decide +kernel
theorem dX12_count_66 : decode cX12_count 66 = .ok (.ireturn, 1) := by decide +kernel
theorem dX12_count_67 : decode cX12_count 67 = .ok (.iconst 0, 1) := by decide +kernel
theorem dX12_count_68 : decode cX12_count 68 = .ok (.istore_n 3, 1) := by decide +kernel
theorem dX12_count_69 : decode cX12_count 69 = .ok (.iload_n 3, 1) := by decide +kernel
theorem dX12_count_70 : decode cX12_count 70 = .ok (.aload_n 0, 1) := by decide +kernel
theorem dX12_count_71 : decode cX12_count 71 = .ok (.getfield 263, 3) := by decide +kernel
theorem dX12_count_74 : decode cX12_count 74 = .ok (.if_icmp .ge 18, 3) := by decide +kernel
theorem dX12_count_77 : decode cX12_count 77 = .ok (.iload_n 2, 1) := by decide +kernel
theorem dX12_count_78 : decode cX12_count 78 = .ok (.aload_n 0, 1) := by decide +kernel
theorem dX12_count_79 : decode cX12_count 79 = .ok (.getfield 40, 3) := by decide +kernel
theorem dX12_count_82 : decode cX12_count 82 = .ok (.iload_n 3, 1) := by decide +kernel
theorem dX12_count_83 : decode cX12_count 83 = .ok (.iaload, 1) := by decide +kernel
theorem dX12_count_84 : decode cX12_count 84 = .ok (.iadd, 1) := by decide +kernel
theorem dX12_count_85 : decode cX12_count 85 = .ok (.istore_n 2, 1) := by decide +kernel
theorem dX12_count_86 : decode cX12_count 86 = .ok (.iinc 3 1, 3) := by decide +kernel
theorem dX12_count_89 : decode cX12_count 89 = .ok (.goto (-20), 3) := by decide +kernel
theorem dX12_count_92 : decode cX12_count 92 = .ok (.iload_n 2, 1) := by decide +kernel
theorem dX12_count_93 : decode cX12_count 93 = .ok (.ireturn, 1) := by decide +kernel
theorem dX12_count_94 : decode cX12_count 94 = .ok (.aload_n 0, 1) := by decide +kernel
theorem dX12_count_95 : decode cX12_count 95 = .ok (.getfield 129, 3) := by decide +kernel
theorem dX12_count_98 : decode cX12_count 98 = .ok (.ireturn, 1) := by decide +kernel
theorem dX12_count_99 : decode cX12_count 99 = .ok (.aload_n 0, 1) := by decide +kernel
theorem dX12_count_100 : decode cX12_count 100 = .ok (.getfield 79, 3) := by decide +kernel
theorem dX12_count_103 : decode cX12_count 103 = .ok (.ireturn, 1) := by decide +kernel
theorem dX12_count_104 : decode cX12_count 104 = .ok (.aload_n 0, 1) := by decide +kernel
theorem dX12_count_105 : decode cX12_count 105 = .ok (.getfield 383, 3) := by decide +kernel
theorem dX12_count_108 : decode cX12_count 108 = .ok (.ireturn, 1) := by decide +kernel
theorem dX12_count_109 : decode cX12_count 109 = .ok (.iconst (-1), 1) := by decide +kernel
theorem dX12_count_110 : decode cX12_count 110 = .ok (.ireturn, 1) := by decide +kernel
theorem dJ6_bitCount_0f7a4_0 : decode cJ6_bitCount_0f7a4 0 = .ok (.iload_n 0, 1) := by decide +kernel
theorem dJ6_bitCount_0f7a4_1 : decode cJ6_bitCount_0f7a4 1 = .ok (.iload_n 0, 1) := by decide +kernel
theorem dJ6_bitCount_0f7a4_2 : decode cJ6_bitCount_0f7a4 2 = .ok (.iconst 1, 1) := by decide +kernel
theorem dJ6_bitCount_0f7a4_3 : decode cJ6_bitCount_0f7a4 3 = .ok (.iushr, 1) := by decide +kernel
theorem dJ6_bitCount_0f7a4_4 : decode cJ6_bitCount_0f7a4 4 = .ok (.ldc_w 265, 3) := by decide +kernel
theorem dJ6_bitCount_0f7a4_7 : decode cJ6_bitCount_0f7a4 7 = .ok (.iand, 1) := by decide +kernel
theorem dJ6_bitCount_0f7a4_8 : decode cJ6_bitCount_0f7a4 8 = .ok (.isub, 1) := by decide +kernel
theorem dJ6_bitCount_0f7a4_9 : decode cJ6_bitCount_0f7a4 9 = .ok (.istore_n 0, 1) := by decide +kernel
theorem dJ6_bitCount_0f7a4_10 : decode cJ6_bitCount_0f7a4 10 = .ok (.iload_n 0, 1) := by decide +kernel
theorem dJ6_bitCount_0f7a4_11 : decode cJ6_bitCount_0f7a4 11 = .ok (.ldc_w 266, 3) := by decide +kernel
theorem dJ6_bitCount_0f7a4_14 : decode cJ6_bitCount_0f7a4 14 = .ok (.iand, 1) := by decide +kernel
theorem dJ6_bitCount_0f7a4_15 : decode cJ6_bitCount_0f7a4 15 = .ok (.iload_n 0, 1) := by decide +kernel
theorem dJ6_bitCount_0f7a4_16 : decode cJ6_bitCount_0f7a4 16 = .ok (.iconst 2, 1) := by decide +kernel
theorem dJ6_bitCount_0f7a4_17 : decode cJ6_bitCount_0f7a4 17 = .ok (.iushr, 1) := by decide +kernel
theorem dJ6_bitCount_0f7a4_18 : decode cJ6_bitCount_0f7a4 18 = .ok (.ldc_w 266, 3) := by decide +kernel
theorem dJ6_bitCount_0f7a4_21 : decode cJ6_bitCount_0f7a4 21 = .ok (.iand, 1) := by decide +kernel
theorem dJ6_bitCount_0f7a4_22 : decode cJ6_bitCount_0f7a4 22 = .ok (.iadd, 1) := by decide +kernel
theorem dJ6_bitCount_0f7a4_23 : decode cJ6_bitCount_0f7a4 23 = .ok (.istore_n 0, 1) := by decide +kernel
theorem dJ6_bitCount_0f7a4_24 : decode cJ6_bitCount_0f7a4 24 = .ok (.iload_n 0, 1) := by decide +kernel
theorem dJ6_bitCount_0f7a4_25 : decode cJ6_bitCount_0f7a4 25 = .ok (.iload_n 0, 1) := by decide +kernel
theorem dJ6_bitCount_0f7a4_26 : decode cJ6_bitCount_0f7a4 26 = .ok (.iconst 4, 1) := by decide +kernel
theorem dJ6_bitCount_0f7a4_27 : decode cJ6_bitCount_0f7a4 27 = .ok (.iushr, 1) := by decide +kernel
theorem dJ6_bitCount_0f7a4_28 : decode cJ6_bitCount_0f7a4 28 = .ok (.iadd, 1) := by decide +kernel
theorem dJ6_bitCount_0f7a4_29 : decode cJ6_bitCount_0f7a4 29 = .ok (.ldc_w 267, 3) := by decide +kernel
theorem dJ6_bitCount_0f7a4_32 : decode cJ6_bitCount_0f7a4 32 = .ok (.iand, 1) := by decide +kernel
theorem dJ6_bitCount_0f7a4_33 : decode cJ6_bitCount_0f7a4 33 = .ok (.istore_n 0, 1) := by decide +kernel
theorem dJ6_bitCount_0f7a4_34 : decode cJ6_bitCount_0f7a4 34 = .ok (.iload_n 0, 1) := by decide +kernel
theorem dJ6_bitCount_0f7a4_35 : decode cJ6_bitCount_0f7a4 35 = .ok (.iload_n 0, 1) := by decide +kernel
theorem dJ6_bitCount_0f7a4_36 : decode cJ6_bitCount_0f7a4 36 = .ok (.bipush 8, 2) := by decide +kernel
theorem dJ6_bitCount_0f7a4_38 : decode cJ6_bitCount_0f7a4 38 = .ok (.iushr, 1) := by decide +kernel
theorem dJ6_bitCount_0f7a4_39 : decode cJ6_bitCount_0f7a4 39 = .ok (.iadd, 1) := by decide +kernel
theorem dJ6_bitCount_0f7a4_40 : decode cJ6_bitCount_0f7a4 40 = .ok (.istore_n 0, 1) := by decide +kernel
theorem dJ6_bitCount_0f7a4_41 : decode cJ6_bitCount_0f7a4 41 = .ok (.iload_n 0, 1) := by decide +kernel
theorem dJ6_bitCount_0f7a4_42 : decode cJ6_bitCount_0f7a4 42 = .ok (.iload_n 0, 1) := by decide +kernel
theorem dJ6_bitCount_0f7a4_43 : decode cJ6_bitCount_0f7a4 43 = .ok (.bipush 16, 2) := by decide +kernel
theorem dJ6_bitCount_0f7a4_45 : decode cJ6_bitCount_0f7a4 45 = .ok (.iushr, 1) := by decide +kernel
theorem dJ6_bitCount_0f7a4_46 : decode cJ6_bitCount_0f7a4 46 = .ok (.iadd, 1) := by decide +kernel
theorem dJ6_bitCount_0f7a4_47 : decode cJ6_bitCount_0f7a4 47 = .ok (.istore_n 0, 1) := by decide +kernel
theorem dJ6_bitCount_0f7a4_48 : decode cJ6_bitCount_0f7a4 48 = .ok (.iload_n 0, 1) := by decide +kernel
theorem dJ6_bitCount_0f7a4_49 : decode cJ6_bitCount_0f7a4 49 = .ok (.bipush 63, 2) := by decide +kernel
theorem dJ6_bitCount_0f7a4_51 : decode cJ6_bitCount_0f7a4 51 = .ok (.iand, 1) := by decide +kernel
theorem dJ6_bitCount_0f7a4_52 : decode cJ6_bitCount_0f7a4 52 = .ok (.ireturn, 1) := by decide +kernel
theorem dJ9_abs_0f7a4_0 : decode cJ9_abs_0f7a4 0 = .ok (.iload_n 0, 1) := by decide +kernel
theorem dJ9_abs_0f7a4_1 : decode cJ9_abs_0f7a4 1 = .ok (.ifCond .ge 8, 3) := by decide +kernel
theorem dJ9_abs_0f7a4_4 : decode cJ9_abs_0f7a4 4 = .ok (.iload_n 0, 1) := by decide +kernel
theorem dJ9_abs_0f7a4_5 : decode cJ9_abs_0f7a4 5 = .ok (.ineg, 1) := by decide +kernel
theorem dJ9_abs_0f7a4_6 : decode cJ9_abs_0f7a4 6 = .ok (.goto 4, 3) := by decide +kernel
theorem dJ9_abs_0f7a4_9 : decode cJ9_abs_0f7a4 9 = .ok (.iload_n 0, 1) := by decide +kernel
theorem dJ9_abs_0f7a4_10 : decode cJ9_abs_0f7a4 10 = .ok (.ireturn, 1) := by decide +kernel
theorem dJ9_max_7cf53_0 : decode cJ9_max_7cf53 0 = .ok (.iload_n 0, 1) := by decide +kernel
theorem dJ9_max_7cf53_1 : decode cJ9_max_7cf53 1 = .ok (.iload_n 1, 1) := by decide +kernel
theorem dJ9_max_7cf53_2 : decode cJ9_max_7cf53 2 = .ok (.if_icmp .lt 7, 3) := by decide +kernel
theorem dJ9_max_7cf53_5 : decode cJ9_max_7cf53 5 = .ok (.iload_n 0, 1) := by decide +kernel
theorem dJ9_max_7cf53_6 : decode cJ9_max_7cf53 6 = .ok (.goto 4, 3) := by decide +kernel
theorem dJ9_max_7cf53_9 : decode cJ9_max_7cf53 9 = .ok (.iload_n 1, 1) := by decide +kernel
theorem dJ9_max_7cf53_10 : decode cJ9_max_7cf53 10 = .ok (.ireturn, 1) := by decide +kernel
theorem dJ9_max_f86c9_0 : decode cJ9_max_f86c9 0 = .ok (.lload_n 0, 1) := by decide +kernel
theorem dJ9_max_f86c9_1 : decode cJ9_max_f86c9 1 = .ok (.lload_n 2, 1) := by decide +kernel
theorem dJ9_max_f86c9_2 : decode cJ9_max_f86c9 2 = .ok (.lcmp, 1) := by decide +kernel
theorem dJ9_max_f86c9_3 : decode cJ9_max_f86c9 3 = .ok (.ifCond .lt 7, 3) := by decide +kernel
theorem dJ9_max_f86c9_6 : decode cJ9_max_f86c9 6 = .ok (.lload_n 0, 1) := by decide +kernel
theorem dJ9_max_f86c9_7 : decode cJ9_max_f86c9 7 = .ok (.goto 4, 3) := by decide +kernel
theorem dJ9_max_f86c9_10 : decode cJ9_max_f86c9 10 = .ok (.lload_n 2, 1) := by decide +kernel
theorem dJ9_max_f86c9_11 : decode cJ9_max_f86c9 11 = .ok (.lreturn, 1) := by decide +kernel
theorem dJ9_min_7cf53_0 : decode cJ9_min_7cf53 0 = .ok (.iload_n 0, 1) := by decide +kernel
theorem dJ9_min_7cf53_1 : decode cJ9_min_7cf53 1 = .ok (.iload_n 1, 1) := by decide +kernel
theorem dJ9_min_7cf53_2 : decode cJ9_min_7cf53 2 = .ok (.if_icmp .gt 7, 3) := by decide +kernel
theorem dJ9_min_7cf53_5 : decode cJ9_min_7cf53 5 = .ok (.iload_n 0, 1) := by decide +kernel
theorem dJ9_min_7cf53_6 : decode cJ9_min_7cf53 6 = .ok (.goto 4, 3) := by decide +kernel
theorem dJ9_min_7cf53_9 : decode cJ9_min_7cf53 9 = .ok (.iload_n 1, 1) := by decide +kernel
theorem dJ9_min_7cf53_10 : decode cJ9_min_7cf53 10 = .ok (.ireturn, 1) := by decide +kernel
theorem dJ9_min_f86c9_0 : decode cJ9_min_f86c9 0 = .ok (.lload_n 0, 1) := by decide +kernel
theorem dJ9_min_f86c9_1 : decode cJ9_min_f86c9 1 = .ok (.lload_n 2, 1) := by decide +kernel
theorem dJ9_min_f86c9_2 : decode cJ9_min_f86c9 2 = .ok (.lcmp, 1) := by decide +kernel
theorem dJ9_min_f86c9_3 : decode cJ9_min_f86c9 3 = .ok (.ifCond .gt 7, 3) := by decide +kernel
theorem dJ9_min_f86c9_6 : decode cJ9_min_f86c9 6 = .ok (.lload_n 0, 1) := by decide +kernel
theorem dJ9_min_f86c9_7 : decode cJ9_min_f86c9 7 = .ok (.goto 4, 3) := by decide +kernel
theorem dJ9_min_f86c9_10 : decode cJ9_min_f86c9 10 = .ok (.lload_n 2, 1) := by decide +kernel
theorem dJ9_min_f86c9_11 : decode cJ9_min_f86c9 11 = .ok (.lreturn, 1) := by decide +kernel
theorem dJ0_length_8abf5_0 : decode cJ0_length_8abf5 0 = .ok (.aload_n 0, 1) := by decide +kernel
theorem dJ0_length_8abf5_1 : decode cJ0_length_8abf5 1 = .ok (.getfield 9, 3) := by decide +kernel
theorem dJ0_length_8abf5_4 : decode cJ0_length_8abf5 4 = .ok (.arraylength, 1) := by decide +kernel
theorem dJ0_length_8abf5_5 : decode cJ0_length_8abf5 5 = .ok (.aload_n 0, 1) := by decide +kernel
theorem dJ0_length_8abf5_6 : decode cJ0_length_8abf5 6 = .ok (.invokevirtual 335, 3) := by decide +kernel
theorem dJ0_length_8abf5_9 : decode cJ0_length_8abf5 9 = .ok (.ishr, 1) := by decide +kernel
theorem dJ0_length_8abf5_10 : decode cJ0_length_8abf5 10 = .ok (.ireturn, 1) := by decide +kernel
theorem dJ0_charAt_5068e_0 : decode cJ0_charAt_5068e 0 = .ok (.aload_n 0, 1) := by decide +kernel
theorem dJ0_charAt_5068e_1 : decode cJ0_charAt_5068e 1 = .ok (.invokevirtual 492, 3) := by decide +kernel
theorem dJ0_charAt_5068e_4 : decode cJ0_charAt_5068e 4 = .ok (.ifCond .eq 12, 3) := by decide +kernel
theorem dJ0_charAt_5068e_7 : decode cJ0_charAt_5068e 7 = .ok (.aload_n 0, 1) := by decide +kernel
theorem dJ0_charAt_5068e_8 : decode cJ0_charAt_5068e 8 = .ok (.getfield 9, 3) := by decide +kernel
theorem dJ0_charAt_5068e_11 : decode cJ0_charAt_5068e 11 = .ok (.iload_n 1, 1) := by decide +kernel
theorem dJ0_charAt_5068e_12 : decode cJ0_charAt_5068e 12 = .ok (.invokestatic 495, 3) := by decide +kernel
theorem dJ0_charAt_5068e_15 : decode cJ0_charAt_5068e 15 = .ok (.ireturn, 1) := by decide +kernel
theorem dJ0_charAt_5068e_16 : decode cJ0_charAt_5068e 16 = .ok (.aload_n 0, 1) := by decide +kernel
theorem dJ0_charAt_5068e_17 : decode cJ0_charAt_5068e 17 = .ok (.getfield 9, 3) := by decide +kernel
theorem dJ0_charAt_5068e_20 : decode cJ0_charAt_5068e 20 = .ok (.iload_n 1, 1) := by decide +kernel
theorem dJ0_charAt_5068e_21 : decode cJ0_charAt_5068e 21 = .ok (.invokestatic 498, 3) := by decide +kernel
theorem dJ0_charAt_5068e_24 : decode cJ0_charAt_5068e 24 = .ok (.ireturn, 1) := by decide +kernel
theorem dJ0_coder_7d493_0 : decode cJ0_coder_7d493 0 = .ok (.getstatic 38, 3) := by decide +kernel
theorem dJ0_coder_7d493_3 : decode cJ0_coder_7d493 3 = .ok (.ifCond .eq 10, 3) := by decide +kernel
theorem dJ0_coder_7d493_6 : decode cJ0_coder_7d493 6 = .ok (.aload_n 0, 1) := by decide +kernel
theorem dJ0_coder_7d493_7 : decode cJ0_coder_7d493 7 = .ok (.getfield 15, 3) := by decide +kernel
theorem dJ0_coder_7d493_10 : decode cJ0_coder_7d493 10 = .ok (.goto 4, 3) := by decide +kernel
theorem dJ0_coder_7d493_13 : decode cJ0_coder_7d493 13 = .ok (.iconst 1, 1) := by decide +kernel
theorem dJ0_coder_7d493_14 : decode cJ0_coder_7d493 14 = .ok (.ireturn, 1) := by decide +kernel
theorem dJ0_isLatin1_aae02_0 : decode cJ0_isLatin1_aae02 0 = .ok (.getstatic 38, 3) := by decide +kernel
theorem dJ0_isLatin1_aae02_3 : decode cJ0_isLatin1_aae02 3 = .ok (.ifCond .eq 14, 3) := by decide +kernel
theorem dJ0_isLatin1_aae02_6 : decode cJ0_isLatin1_aae02 6 = .ok (.aload_n 0, 1) := by decide +kernel
theorem dJ0_isLatin1_aae02_7 : decode cJ0_isLatin1_aae02 7 = .ok (.getfield 15, 3) := by decide +kernel
theorem dJ0_isLatin1_aae02_10 : decode cJ0_isLatin1_aae02 10 = .ok (.ifCond .ne 7, 3) := by decide +kernel
theorem dJ0_isLatin1_aae02_13 : decode cJ0_isLatin1_aae02 13 = .ok (.iconst 1, 1) := by decide +kernel
theorem dJ0_isLatin1_aae02_14 : decode cJ0_isLatin1_aae02 14 = .ok (.goto 4, 3) := by decide +kernel
theorem dJ0_isLatin1_aae02_17 : decode cJ0_isLatin1_aae02 17 = .ok (.iconst 0, 1) := by decide +kernel
theorem dJ0_isLatin1_aae02_18 : decode cJ0_isLatin1_aae02 18 = .ok (.ireturn, 1) := by decide +kernel
theorem dJ0_checkIndex_df160_0 : decode cJ0_checkIndex_df160 0 = .ok (.iload_n 0, 1) := by decide +kernel
theorem dJ0_checkIndex_df160_1 : decode cJ0_checkIndex_df160 1 = .ok (.iload_n 1, 1) := by decide +kernel
theorem dJ0_checkIndex_df160_2 : decode cJ0_checkIndex_df160 2 = .ok (.getstatic 1053, 3) := by decide +kernel
theorem dJ0_checkIndex_df160_5 : decode cJ0_checkIndex_df160 5 = .ok (.invokestatic 1059, 3) := by decide +kernel
theorem dJ0_checkIndex_df160_8 : decode cJ0_checkIndex_df160 8 = .ok (.pop, 1) := by decide +kernel
theorem dJ0_checkIndex_df160_9 : decode cJ0_checkIndex_df160 9 = .ok (.return_, 1) := by decide +kernel
theorem dJ1_charAt_3b067_0 : decode cJ1_charAt_3b067 0 = .ok (.iload_n 1, 1) := by decide +kernel
theorem dJ1_charAt_3b067_1 : decode cJ1_charAt_3b067 1 = .ok (.aload_n 0, 1) := by decide +kernel
theorem dJ1_charAt_3b067_2 : decode cJ1_charAt_3b067 2 = .ok (.arraylength, 1) := by decide +kernel
theorem dJ1_charAt_3b067_3 : decode cJ1_charAt_3b067 3 = .ok (.invokestatic 9, 3) := by decide +kernel
theorem dJ1_charAt_3b067_6 : decode cJ1_charAt_3b067 6 = .ok (.aload_n 0, 1) := by decide +kernel
theorem dJ1_charAt_3b067_7 : decode cJ1_charAt_3b067 7 = .ok (.iload_n 1, 1) := by decide +kernel
theorem dJ1_charAt_3b067_8 : decode cJ1_charAt_3b067 8 = .ok (.baload, 1) := by decide +kernel
theorem dJ1_charAt_3b067_9 : decode cJ1_charAt_3b067 9 = .ok (.sipush 255, 3) := by decide +kernel
theorem dJ1_charAt_3b067_12 : decode cJ1_charAt_3b067 12 = .ok (.iand, 1) := by decide +kernel
theorem dJ1_charAt_3b067_13 : decode cJ1_charAt_3b067 13 = .ok (.i2c, 1) := by decide +kernel
theorem dJ1_charAt_3b067_14 : decode cJ1_charAt_3b067 14 = .ok (.ireturn, 1) := by decide +kernel
theorem dJ2_getChar_3b067_0 : decode cJ2_getChar_3b067 0 = .ok (.getstatic 44, 3) := by decide +kernel
theorem dJ2_getChar_3b067_3 : decode cJ2_getChar_3b067 3 = .ok (.ifCond .ne 25, 3) := by decide +kernel
theorem dJ2_getChar_3b067_6 : decode cJ2_getChar_3b067 6 = .ok (.iload_n 1, 1) := by decide +kernel
theorem dJ2_getChar_3b067_7 : decode cJ2_getChar_3b067 7 = .ok (.ifCond .lt 11, 3) := by decide +kernel
theorem dJ2_getChar_3b067_10 : decode cJ2_getChar_3b067 10 = .ok (.iload_n 1, 1) := by decide +kernel
theorem dJ2_getChar_3b067_11 : decode cJ2_getChar_3b067 11 = .ok (.aload_n 0, 1) := by decide +kernel
theorem dJ2_getChar_3b067_12 : decode cJ2_getChar_3b067 12 = .ok (.invokestatic 48, 3) := by decide +kernel
theorem dJ2_getChar_3b067_15 : decode cJ2_getChar_3b067 15 = .ok (.if_icmp .lt 13, 3) := by decide +kernel
theorem dJ2_getChar_3b067_18 : decode cJ2_getChar_3b067 18 = .ok (.new 52, 3) := by decide +kernel
theorem dJ2_getChar_3b067_21 : decode cJ2_getChar_3b067 21 = .ok (.dup, 1) := by decide +kernel
theorem dJ2_getChar_3b067_22 : decode cJ2_getChar_3b067 22 = .ok (.ldc 54, 2) := by decide +kernel
theorem dJ2_getChar_3b067_24 : decode cJ2_getChar_3b067 24 = .ok (.invokespecial 56, 3) := by decide +kernel
theorem dJ2_getChar_3b067_27 : decode cJ2_getChar_3b067 27 = .ok (.athrow, 1) := by decide +kernel
theorem dJ2_getChar_3b067_28 : decode cJ2_getChar_3b067 28 = .ok (.iload_n 1, 1) := by decide +kernel
theorem dJ2_getChar_3b067_29 : decode cJ2_getChar_3b067 29 = .ok (.iconst 1, 1) := by decide +kernel
theorem dJ2_getChar_3b067_30 : decode cJ2_getChar_3b067 30 = .ok (.ishl, 1) := by decide +kernel
theorem dJ2_getChar_3b067_31 : decode cJ2_getChar_3b067 31 = .ok (.istore_n 1, 1) := by decide +kernel
theorem dJ2_getChar_3b067_32 : decode cJ2_getChar_3b067 32 = .ok (.aload_n 0, 1) := by decide +kernel
theorem dJ2_getChar_3b067_33 : decode cJ2_getChar_3b067 33 = .ok (.iload_n 1, 1) := by decide +kernel
theorem dJ2_getChar_3b067_34 : decode cJ2_getChar_3b067 34 = .ok (.iinc 1 1, 3) := by decide +kernel
theorem dJ2_getChar_3b067_37 : decode cJ2_getChar_3b067 37 = .ok (.baload, 1) := by decide +kernel
theorem dJ2_getChar_3b067_38 : decode cJ2_getChar_3b067 38 = .ok (.sipush 255, 3) := by decide +kernel
theorem dJ2_getChar_3b067_41 : decode cJ2_getChar_3b067 41 = .ok (.iand, 1) := by decide +kernel
theorem dJ2_getChar_3b067_42 : decode cJ2_getChar_3b067 42 = .ok (.getstatic 59, 3) := by decide +kernel
theorem dJ2_getChar_3b067_45 : decode cJ2_getChar_3b067 45 = .ok (.ishl, 1) := by decide +kernel
theorem dJ2_getChar_3b067_46 : decode cJ2_getChar_3b067 46 = .ok (.aload_n 0, 1) := by decide +kernel
theorem dJ2_getChar_3b067_47 : decode cJ2_getChar_3b067 47 = .ok (.iload_n 1, 1) := by decide +kernel
theorem dJ2_getChar_3b067_48 : decode cJ2_getChar_3b067 48 = .ok (.baload, 1) := by decide +kernel
theorem dJ2_getChar_3b067_49 : decode cJ2_getChar_3b067 49 = .ok (.sipush 255, 3) := by decide +kernel
theorem dJ2_getChar_3b067_52 : decode cJ2_getChar_3b067 52 = .ok (.iand, 1) := by decide +kernel
theorem dJ2_getChar_3b067_53 : decode cJ2_getChar_3b067 53 = .ok (.getstatic 63, 3) := by decide +kernel
theorem dJ2_getChar_3b067_56 : decode cJ2_getChar_3b067 56 = .ok (.ishl, 1) := by decide +kernel
theorem dJ2_getChar_3b067_57 : decode cJ2_getChar_3b067 57 = .ok (.ior, 1) := by decide +kernel
theorem dJ2_getChar_3b067_58 : decode cJ2_getChar_3b067 58 = .ok (.i2c, 1) := by decide +kernel
theorem dJ2_getChar_3b067_59 : decode cJ2_getChar_3b067 59 = .ok (.ireturn, 1) := by decide +kernel
theorem dJ2_length_9d52b_0 : decode cJ2_length_9d52b 0 = .ok (.aload_n 0, 1) := by decide +kernel
theorem dJ2_length_9d52b_1 : decode cJ2_length_9d52b 1 = .ok (.arraylength, 1) := by decide +kernel
theorem dJ2_length_9d52b_2 : decode cJ2_length_9d52b 2 = .ok (.iconst 1, 1) := by decide +kernel
theorem dJ2_length_9d52b_3 : decode cJ2_length_9d52b 3 = .ok (.ishr, 1) := by decide +kernel
theorem dJ2_length_9d52b_4 : decode cJ2_length_9d52b 4 = .ok (.ireturn, 1) := by decide +kernel
theorem dJ2_charAt_3b067_0 : decode cJ2_charAt_3b067 0 = .ok (.iload_n 1, 1) := by decide +kernel
theorem dJ2_charAt_3b067_1 : decode cJ2_charAt_3b067 1 = .ok (.aload_n 0, 1) := by decide +kernel
theorem dJ2_charAt_3b067_2 : decode cJ2_charAt_3b067 2 = .ok (.invokestatic 67, 3) := by decide +kernel
theorem dJ2_charAt_3b067_5 : decode cJ2_charAt_3b067 5 = .ok (.aload_n 0, 1) := by decide +kernel
theorem dJ2_charAt_3b067_6 : decode cJ2_charAt_3b067 6 = .ok (.iload_n 1, 1) := by decide +kernel
theorem dJ2_charAt_3b067_7 : decode cJ2_charAt_3b067 7 = .ok (.invokestatic 71, 3) := by decide +kernel
theorem dJ2_charAt_3b067_10 : decode cJ2_charAt_3b067 10 = .ok (.ireturn, 1) := by decide +kernel
theorem dJ2_checkIndex_2214a_0 : decode cJ2_checkIndex_2214a 0 = .ok (.iload_n 0, 1) := by decide +kernel
theorem dJ2_checkIndex_2214a_1 : decode cJ2_checkIndex_2214a 1 = .ok (.aload_n 1, 1) := by decide +kernel
theorem dJ2_checkIndex_2214a_2 : decode cJ2_checkIndex_2214a 2 = .ok (.invokestatic 48, 3) := by decide +kernel
theorem dJ2_checkIndex_2214a_5 : decode cJ2_checkIndex_2214a 5 = .ok (.invokestatic 414, 3) := by decide +kernel
theorem dJ2_checkIndex_2214a_8 : decode cJ2_checkIndex_2214a 8 = .ok (.return_, 1) := by decide +kernel
theorem dJ3_checkIndex_8e157_0 : decode cJ3_checkIndex_8e157 0 = .ok (.iload_n 0, 1) := by decide +kernel
theorem dJ3_checkIndex_8e157_1 : decode cJ3_checkIndex_8e157 1 = .ok (.ifCond .lt 8, 3) := by decide +kernel
theorem dJ3_checkIndex_8e157_4 : decode cJ3_checkIndex_8e157 4 = .ok (.iload_n 0, 1) := by decide +kernel
theorem dJ3_checkIndex_8e157_5 : decode cJ3_checkIndex_8e157 5 = .ok (.iload_n 1, 1) := by decide +kernel
theorem dJ3_checkIndex_8e157_6 : decode cJ3_checkIndex_8e157 6 = .ok (.if_icmp .lt 10, 3) := by decide +kernel
theorem dJ3_checkIndex_8e157_9 : decode cJ3_checkIndex_8e157 9 = .ok (.aload_n 2, 1) := by decide +kernel
theorem dJ3_checkIndex_8e157_10 : decode cJ3_checkIndex_8e157 10 = .ok (.iload_n 0, 1) := by decide +kernel
theorem dJ3_checkIndex_8e157_11 : decode cJ3_checkIndex_8e157 11 = .ok (.iload_n 1, 1) := by decide +kernel
theorem dJ3_checkIndex_8e157_12 : decode cJ3_checkIndex_8e157 12 = .ok (.invokestatic 95, 3) := by decide +kernel
theorem dJ3_checkIndex_8e157_15 : decode cJ3_checkIndex_8e157 15 = .ok (.athrow, 1) := by decide +kernel
theorem dJ3_checkIndex_8e157_16 : decode cJ3_checkIndex_8e157 16 = .ok (.iload_n 0, 1) := by decide +kernel
theorem dJ3_checkIndex_8e157_17 : decode cJ3_checkIndex_8e157 17 = .ok (.ireturn, 1) := by decide +kernel
theorem dL_speech_0 : decode cL_speech 0 = .ok (.aload_n 3, 1) := by decide +kernel
theorem dL_speech_1 : decode cL_speech 1 = .ok (.iconst 0, 1) := by decide +kernel
theorem dL_speech_2 : decode cL_speech 2 = .ok (.aload_n 0, 1) := by decide +kernel
theorem dL_speech_3 : decode cL_speech 3 = .ok (.iload_n 1, 1) := by decide +kernel
theorem dL_speech_4 : decode cL_speech 4 = .ok (.iload_n 2, 1) := by decide +kernel
theorem dL_speech_5 : decode cL_speech 5 = .ok (.invokevirtual 7, 3) := by decide +kernel
theorem dL_speech_8 : decode cL_speech 8 = .ok (.i2l, 1) := by decide +kernel
theorem dL_speech_9 : decode cL_speech 9 = .ok (.lastore, 1) := by decide +kernel
theorem dL_speech_10 : decode cL_speech 10 = .ok (.goto 7, 3) := by decide +kernel
theorem dL_speech_13 : decode cL_speech 13 = .ok (.astore 4, 2) := by decide +kernel
theorem dL_speech_15 : decode cL_speech 15 = .ok (.iconst 1, 1) := by decide +kernel
theorem dL_speech_16 : decode cL_speech 16 = .ok (.ireturn, 1) := by decide +kernel
theorem dL_speech_17 : decode cL_speech 17 = .ok (.iconst 0, 1) := by decide +kernel
theorem dL_speech_18 : decode cL_speech 18 = .ok (.ireturn, 1) := by decide +kernel
theorem dL_law_0 : decode cL_law 0 = .ok (.new 8, 3) := by decide +kernel
theorem dL_law_3 : decode cL_law 3 = .ok (.dup, 1) := by decide +kernel
theorem dL_law_4 : decode cL_law 4 = .ok (.invokespecial 15, 3) := by decide +kernel
theorem dL_law_7 : decode cL_law 7 = .ok (.astore_n 1, 1) := by decide +kernel
theorem dL_law_8 : decode cL_law 8 = .ok (.new 16, 3) := by decide +kernel
theorem dL_law_11 : decode cL_law 11 = .ok (.dup, 1) := by decide +kernel
theorem dL_law_12 : decode cL_law 12 = .ok (.invokespecial 18, 3) := by decide +kernel
theorem dL_law_15 : decode cL_law 15 = .ok (.astore_n 2, 1) := by decide +kernel
theorem dL_law_16 : decode cL_law 16 = .ok (.iconst 1, 1) := by decide +kernel
theorem dL_law_17 : decode cL_law 17 = .ok (.newarray .long, 2) := by decide +kernel
theorem dL_law_19 : decode cL_law 19 = .ok (.astore_n 3, 1) := by decide +kernel
theorem dL_law_20 : decode cL_law 20 = .ok (.iconst 0, 1) := by decide +kernel
theorem dL_law_21 : decode cL_law 21 = .ok (.istore 4, 2) := by decide +kernel
theorem dL_law_23 : decode cL_law 23 = .ok (.iload 4, 2) := by decide +kernel
theorem dL_law_25 : decode cL_law 25 = .ok (.aload_n 0, 1) := by decide +kernel
theorem dL_law_26 : decode cL_law 26 = .ok (.arraylength, 1) := by decide +kernel
theorem dL_law_27 : decode cL_law 27 = .ok (.bipush 6, 2) := by decide +kernel
theorem dL_law_29 : decode cL_law 29 = .ok (.isub, 1) := by decide +kernel
theorem dL_law_30 : decode cL_law 30 = .ok (.if_icmp .gt 1519, 3) := by decide +kernel
theorem dL_law_33 : decode cL_law 33 = .ok (.aload_n 0, 1) := by decide +kernel
theorem dL_law_34 : decode cL_law 34 = .ok (.iload 4, 2) := by decide +kernel
theorem dL_law_36 : decode cL_law 36 = .ok (.iaload, 1) := by decide +kernel
theorem dL_law_37 : decode cL_law 37 = .ok (.bipush 63, 2) := by decide +kernel
theorem dL_law_39 : decode cL_law 39 = .ok (.iand, 1) := by decide +kernel
theorem dL_law_40 : decode cL_law 40 = .ok (.tableswitch 1503 0 38 #[172, 245, 270, 295, 320, 388, 413, 450, 487, 512, 549, 586, 623, 648, 674, 711, 760, 785, 810, 847, 872, 897, 922, 947, 984, 1009, 1046, 1071, 1096, 1133, 1194, 1243, 1280, 1341, 1378, 1415, 1452, 1465, 1478], 172) := by decide +kernel
theorem dL_law_212 : decode cL_law 212 = .ok (.aload_n 1, 1) := by decide +kernel
theorem dL_law_213 : decode cL_law 213 = .ok (.aload_n 0, 1) := by decide +kernel
theorem dL_law_214 : decode cL_law 214 = .ok (.iload 4, 2) := by decide +kernel
theorem dL_law_216 : decode cL_law 216 = .ok (.iconst 1, 1) := by decide +kernel
theorem dL_law_217 : decode cL_law 217 = .ok (.iadd, 1) := by decide +kernel
theorem dL_law_218 : decode cL_law 218 = .ok (.iaload, 1) := by decide +kernel
theorem dL_law_219 : decode cL_law 219 = .ok (.aload_n 0, 1) := by decide +kernel
theorem dL_law_220 : decode cL_law 220 = .ok (.iload 4, 2) := by decide +kernel
theorem dL_law_222 : decode cL_law 222 = .ok (.iconst 2, 1) := by decide +kernel
theorem dL_law_223 : decode cL_law 223 = .ok (.iadd, 1) := by decide +kernel
theorem dL_law_224 : decode cL_law 224 = .ok (.iaload, 1) := by decide +kernel
theorem dL_law_225 : decode cL_law 225 = .ok (.aload_n 0, 1) := by decide +kernel
theorem dL_law_226 : decode cL_law 226 = .ok (.iload 4, 2) := by decide +kernel
theorem dL_law_228 : decode cL_law 228 = .ok (.iconst 3, 1) := by decide +kernel
theorem dL_law_229 : decode cL_law 229 = .ok (.iadd, 1) := by decide +kernel
theorem dL_law_230 : decode cL_law 230 = .ok (.iaload, 1) := by decide +kernel
theorem dL_law_231 : decode cL_law 231 = .ok (.aload_n 0, 1) := by decide +kernel
theorem dL_law_232 : decode cL_law 232 = .ok (.iload 4, 2) := by decide +kernel
theorem dL_law_234 : decode cL_law 234 = .ok (.iconst 4, 1) := by decide +kernel
theorem dL_law_235 : decode cL_law 235 = .ok (.iadd, 1) := by decide +kernel
theorem dL_law_236 : decode cL_law 236 = .ok (.iaload, 1) := by decide +kernel
theorem dL_law_237 : decode cL_law 237 = .ok (.aload_n 0, 1) := by decide +kernel
theorem dL_law_238 : decode cL_law 238 = .ok (.iload 4, 2) := by decide +kernel
theorem dL_law_240 : decode cL_law 240 = .ok (.iconst 5, 1) := by decide +kernel
theorem dL_law_241 : decode cL_law 241 = .ok (.iadd, 1) := by decide +kernel
theorem dL_law_242 : decode cL_law 242 = .ok (.iaload, 1) := by decide +kernel
theorem dL_law_243 : decode cL_law 243 = .ok (.invokevirtual 19, 3) := by decide +kernel
theorem dL_law_246 : decode cL_law 246 = .ok (.aload_n 2, 1) := by decide +kernel
theorem dL_law_247 : decode cL_law 247 = .ok (.aload_n 0, 1) := by decide +kernel
theorem dL_law_248 : decode cL_law 248 = .ok (.iload 4, 2) := by decide +kernel
theorem dL_law_250 : decode cL_law 250 = .ok (.iconst 1, 1) := by decide +kernel
theorem dL_law_251 : decode cL_law 251 = .ok (.iadd, 1) := by decide +kernel
theorem dL_law_252 : decode cL_law 252 = .ok (.iaload, 1) := by decide +kernel
theorem dL_law_253 : decode cL_law 253 = .ok (.aload_n 0, 1) := by decide +kernel
theorem dL_law_254 : decode cL_law 254 = .ok (.iload 4, 2) := by decide +kernel
theorem dL_law_256 : decode cL_law 256 = .ok (.iconst 2, 1) := by decide +kernel
theorem dL_law_257 : decode cL_law 257 = .ok (.iadd, 1) := by decide +kernel
theorem dL_law_258 : decode cL_law 258 = .ok (.iaload, 1) := by decide +kernel
theorem dL_law_259 : decode cL_law 259 = .ok (.aload_n 0, 1) := by decide +kernel
theorem dL_law_260 : decode cL_law 260 = .ok (.iload 4, 2) := by decide +kernel
theorem dL_law_262 : decode cL_law 262 = .ok (.iconst 3, 1) := by decide +kernel
theorem dL_law_263 : decode cL_law 263 = .ok (.iadd, 1) := by decide +kernel
theorem dL_law_264 : decode cL_law 264 = .ok (.iaload, 1) := by decide +kernel
theorem dL_law_265 : decode cL_law 265 = .ok (.aload_n 0, 1) := by decide +kernel
theorem dL_law_266 : decode cL_law 266 = .ok (.iload 4, 2) := by decide +kernel
theorem dL_law_268 : decode cL_law 268 = .ok (.iconst 4, 1) := by decide +kernel
theorem dL_law_269 : decode cL_law 269 = .ok (.iadd, 1) := by decide +kernel
theorem dL_law_270 : decode cL_law 270 = .ok (.iaload, 1) := by decide +kernel
theorem dL_law_271 : decode cL_law 271 = .ok (.aload_n 0, 1) := by decide +kernel
theorem dL_law_272 : decode cL_law 272 = .ok (.iload 4, 2) := by decide +kernel
theorem dL_law_274 : decode cL_law 274 = .ok (.iconst 5, 1) := by decide +kernel
theorem dL_law_275 : decode cL_law 275 = .ok (.iadd, 1) := by decide +kernel
theorem dL_law_276 : decode cL_law 276 = .ok (.iaload, 1) := by decide +kernel
theorem dL_law_277 : decode cL_law 277 = .ok (.invokevirtual 23, 3) := by decide +kernel
theorem dL_law_280 : decode cL_law 280 = .ok (.if_icmp .eq 1263, 3) := by decide +kernel
theorem dL_law_283 : decode cL_law 283 = .ok (.iconst 0, 1) := by decide +kernel
theorem dL_law_284 : decode cL_law 284 = .ok (.ireturn, 1) := by decide +kernel
theorem dL_law_285 : decode cL_law 285 = .ok (.aload_n 1, 1) := by decide +kernel
theorem dL_law_286 : decode cL_law 286 = .ok (.aload_n 0, 1) := by decide +kernel
theorem dL_law_287 : decode cL_law 287 = .ok (.iload 4, 2) := by decide +kernel
theorem dL_law_289 : decode cL_law 289 = .ok (.iconst 1, 1) := by decide +kernel
theorem dL_law_290 : decode cL_law 290 = .ok (.iadd, 1) := by decide +kernel
theorem dL_law_291 : decode cL_law 291 = .ok (.iaload, 1) := by decide +kernel
theorem dL_law_292 : decode cL_law 292 = .ok (.invokevirtual 24, 3) := by decide +kernel
theorem dL_law_295 : decode cL_law 295 = .ok (.aload_n 2, 1) := by decide +kernel
theorem dL_law_296 : decode cL_law 296 = .ok (.aload_n 0, 1) := by decide +kernel
theorem dL_law_297 : decode cL_law 297 = .ok (.iload 4, 2) := by decide +kernel
theorem dL_law_299 : decode cL_law 299 = .ok (.iconst 1, 1) := by decide +kernel
theorem dL_law_300 : decode cL_law 300 = .ok (.iadd, 1) := by decide +kernel
theorem dL_law_301 : decode cL_law 301 = .ok (.iaload, 1) := by decide +kernel
theorem dL_law_302 : decode cL_law 302 = .ok (.invokevirtual 28, 3) := by decide +kernel
theorem dL_law_305 : decode cL_law 305 = .ok (.if_icmp .eq 1238, 3) := by decide +kernel
theorem dL_law_308 : decode cL_law 308 = .ok (.iconst 0, 1) := by decide +kernel
theorem dL_law_309 : decode cL_law 309 = .ok (.ireturn, 1) := by decide +kernel
theorem dL_law_310 : decode cL_law 310 = .ok (.aload_n 1, 1) := by decide +kernel
theorem dL_law_311 : decode cL_law 311 = .ok (.aload_n 0, 1) := by decide +kernel
theorem dL_law_312 : decode cL_law 312 = .ok (.iload 4, 2) := by decide +kernel
theorem dL_law_314 : decode cL_law 314 = .ok (.iconst 1, 1) := by decide +kernel
theorem dL_law_315 : decode cL_law 315 = .ok (.iadd, 1) := by decide +kernel
theorem dL_law_316 : decode cL_law 316 = .ok (.iaload, 1) := by decide +kernel
theorem dL_law_317 : decode cL_law 317 = .ok (.invokevirtual 29, 3) := by decide +kernel
theorem dL_law_320 : decode cL_law 320 = .ok (.aload_n 2, 1) := by decide +kernel
theorem dL_law_321 : decode cL_law 321 = .ok (.aload_n 0, 1) := by decide +kernel
theorem dL_law_322 : decode cL_law 322 = .ok (.iload 4, 2) := by decide +kernel
theorem dL_law_324 : decode cL_law 324 = .ok (.iconst 1, 1) := by decide +kernel
theorem dL_law_325 : decode cL_law 325 = .ok (.iadd, 1) := by decide +kernel
theorem dL_law_326 : decode cL_law 326 = .ok (.iaload, 1) := by decide +kernel
theorem dL_law_327 : decode cL_law 327 = .ok (.invokevirtual 33, 3) := by decide +kernel
theorem dL_law_330 : decode cL_law 330 = .ok (.if_icmp .eq 1213, 3) := by decide +kernel
theorem dL_law_333 : decode cL_law 333 = .ok (.iconst 0, 1) := by decide +kernel
theorem dL_law_334 : decode cL_law 334 = .ok (.ireturn, 1) := by decide +kernel
theorem dL_law_335 : decode cL_law 335 = .ok (.aload_n 1, 1) := by decide +kernel
theorem dL_law_336 : decode cL_law 336 = .ok (.aload_n 0, 1) := by decide +kernel
theorem dL_law_337 : decode cL_law 337 = .ok (.iload 4, 2) := by decide +kernel
theorem dL_law_339 : decode cL_law 339 = .ok (.iconst 1, 1) := by decide +kernel
theorem dL_law_340 : decode cL_law 340 = .ok (.iadd, 1) := by decide +kernel
theorem dL_law_341 : decode cL_law 341 = .ok (.iaload, 1) := by decide +kernel
theorem dL_law_342 : decode cL_law 342 = .ok (.invokevirtual 34, 3) := by decide +kernel
theorem dL_law_345 : decode cL_law 345 = .ok (.aload_n 2, 1) := by decide +kernel
theorem dL_law_346 : decode cL_law 346 = .ok (.aload_n 0, 1) := by decide +kernel
theorem dL_law_347 : decode cL_law 347 = .ok (.iload 4, 2) := by decide +kernel
theorem dL_law_349 : decode cL_law 349 = .ok (.iconst 1, 1) := by decide +kernel
theorem dL_law_350 : decode cL_law 350 = .ok (.iadd, 1) := by decide +kernel
theorem dL_law_351 : decode cL_law 351 = .ok (.iaload, 1) := by decide +kernel
theorem dL_law_352 : decode cL_law 352 = .ok (.invokevirtual 37, 3) := by decide +kernel
theorem dL_law_355 : decode cL_law 355 = .ok (.if_icmp .eq 1188, 3) := by decide +kernel
theorem dL_law_358 : decode cL_law 358 = .ok (.iconst 0, 1) := by decide +kernel
theorem dL_law_359 : decode cL_law 359 = .ok (.ireturn, 1) := by decide +kernel
theorem dL_law_360 : decode cL_law 360 = .ok (.aload_n 1, 1) := by decide +kernel
theorem dL_law_361 : decode cL_law 361 = .ok (.aload_n 0, 1) := by decide +kernel
theorem dL_law_362 : decode cL_law 362 = .ok (.iload 4, 2) := by decide +kernel
theorem dL_law_364 : decode cL_law 364 = .ok (.iconst 1, 1) := by decide +kernel
theorem dL_law_365 : decode cL_law 365 = .ok (.iadd, 1) := by decide +kernel
theorem dL_law_366 : decode cL_law 366 = .ok (.iaload, 1) := by decide +kernel
theorem dL_law_367 : decode cL_law 367 = .ok (.aload_n 0, 1) := by decide +kernel
theorem dL_law_368 : decode cL_law 368 = .ok (.iload 4, 2) := by decide +kernel
theorem dL_law_370 : decode cL_law 370 = .ok (.iconst 2, 1) := by decide +kernel
theorem dL_law_371 : decode cL_law 371 = .ok (.iadd, 1) := by decide +kernel
theorem dL_law_372 : decode cL_law 372 = .ok (.iaload, 1) := by decide +kernel
theorem dL_law_373 : decode cL_law 373 = .ok (.aload_n 3, 1) := by decide +kernel
theorem dL_law_374 : decode cL_law 374 = .ok (.invokestatic 38, 3) := by decide +kernel
theorem dL_law_377 : decode cL_law 377 = .ok (.istore 5, 2) := by decide +kernel
theorem dL_law_379 : decode cL_law 379 = .ok (.aload_n 2, 1) := by decide +kernel
theorem dL_law_380 : decode cL_law 380 = .ok (.aload_n 0, 1) := by decide +kernel
theorem dL_law_381 : decode cL_law 381 = .ok (.iload 4, 2) := by decide +kernel
theorem dL_law_383 : decode cL_law 383 = .ok (.iconst 1, 1) := by decide +kernel
theorem dL_law_384 : decode cL_law 384 = .ok (.iadd, 1) := by decide +kernel
theorem dL_law_385 : decode cL_law 385 = .ok (.iaload, 1) := by decide +kernel
theorem dL_law_386 : decode cL_law 386 = .ok (.aload_n 0, 1) := by decide +kernel
theorem dL_law_387 : decode cL_law 387 = .ok (.iload 4, 2) := by decide +kernel
theorem dL_law_389 : decode cL_law 389 = .ok (.iconst 2, 1) := by decide +kernel
theorem dL_law_390 : decode cL_law 390 = .ok (.iadd, 1) := by decide +kernel
theorem dL_law_391 : decode cL_law 391 = .ok (.iaload, 1) := by decide +kernel
theorem dL_law_392 : decode cL_law 392 = .ok (.invokevirtual 43, 3) := by decide +kernel
theorem dL_law_395 : decode cL_law 395 = .ok (.istore 6, 2) := by decide +kernel
theorem dL_law_397 : decode cL_law 397 = .ok (.aload_n 2, 1) := by decide +kernel
theorem dL_law_398 : decode cL_law 398 = .ok (.invokevirtual 44, 3) := by decide +kernel
theorem dL_law_401 : decode cL_law 401 = .ok (.iload 5, 2) := by decide +kernel
theorem dL_law_403 : decode cL_law 403 = .ok (.if_icmp .eq 5, 3) := by decide +kernel
theorem dL_law_406 : decode cL_law 406 = .ok (.iconst 0, 1) := by decide +kernel
theorem dL_law_407 : decode cL_law 407 = .ok (.ireturn, 1) := by decide +kernel
theorem dL_law_408 : decode cL_law 408 = .ok (.iload 5, 2) := by decide +kernel
theorem dL_law_410 : decode cL_law 410 = .ok (.ifCond .ne 15, 3) := by decide +kernel
theorem dL_law_413 : decode cL_law 413 = .ok (.aload_n 3, 1) := by decide +kernel
theorem dL_law_414 : decode cL_law 414 = .ok (.iconst 0, 1) := by decide +kernel
theorem dL_law_415 : decode cL_law 415 = .ok (.laload, 1) := by decide +kernel
theorem dL_law_416 : decode cL_law 416 = .ok (.iload 6, 2) := by decide +kernel
theorem dL_law_418 : decode cL_law 418 = .ok (.i2l, 1) := by decide +kernel
theorem dL_law_419 : decode cL_law 419 = .ok (.lcmp, 1) := by decide +kernel
theorem dL_law_420 : decode cL_law 420 = .ok (.ifCond .eq 5, 3) := by decide +kernel
theorem dL_law_423 : decode cL_law 423 = .ok (.iconst 0, 1) := by decide +kernel
theorem dL_law_424 : decode cL_law 424 = .ok (.ireturn, 1) := by decide +kernel
theorem dL_law_425 : decode cL_law 425 = .ok (.goto 1118, 3) := by decide +kernel
theorem dL_law_428 : decode cL_law 428 = .ok (.aload_n 1, 1) := by decide +kernel
theorem dL_law_429 : decode cL_law 429 = .ok (.aload_n 0, 1) := by decide +kernel
theorem dL_law_430 : decode cL_law 430 = .ok (.iload 4, 2) := by decide +kernel
theorem dL_law_432 : decode cL_law 432 = .ok (.iconst 1, 1) := by decide +kernel
theorem dL_law_433 : decode cL_law 433 = .ok (.iadd, 1) := by decide +kernel
theorem dL_law_434 : decode cL_law 434 = .ok (.iaload, 1) := by decide +kernel
theorem dL_law_435 : decode cL_law 435 = .ok (.invokevirtual 48, 3) := by decide +kernel
theorem dL_law_438 : decode cL_law 438 = .ok (.aload_n 2, 1) := by decide +kernel
theorem dL_law_439 : decode cL_law 439 = .ok (.aload_n 0, 1) := by decide +kernel
theorem dL_law_440 : decode cL_law 440 = .ok (.iload 4, 2) := by decide +kernel
theorem dL_law_442 : decode cL_law 442 = .ok (.iconst 1, 1) := by decide +kernel
theorem dL_law_443 : decode cL_law 443 = .ok (.iadd, 1) := by decide +kernel
theorem dL_law_444 : decode cL_law 444 = .ok (.iaload, 1) := by decide +kernel
theorem dL_law_445 : decode cL_law 445 = .ok (.invokevirtual 51, 3) := by decide +kernel
theorem dL_law_448 : decode cL_law 448 = .ok (.if_icmp .eq 1095, 3) := by decide +kernel
theorem dL_law_451 : decode cL_law 451 = .ok (.iconst 0, 1) := by decide +kernel
theorem dL_law_452 : decode cL_law 452 = .ok (.ireturn, 1) := by decide +kernel
theorem dL_law_453 : decode cL_law 453 = .ok (.aload_n 1, 1) := by decide +kernel
theorem dL_law_454 : decode cL_law 454 = .ok (.aload_n 0, 1) := by decide +kernel
theorem dL_law_455 : decode cL_law 455 = .ok (.iload 4, 2) := by decide +kernel
theorem dL_law_457 : decode cL_law 457 = .ok (.iconst 1, 1) := by decide +kernel
theorem dL_law_458 : decode cL_law 458 = .ok (.iadd, 1) := by decide +kernel
theorem dL_law_459 : decode cL_law 459 = .ok (.iaload, 1) := by decide +kernel
theorem dL_law_460 : decode cL_law 460 = .ok (.aload_n 0, 1) := by decide +kernel
theorem dL_law_461 : decode cL_law 461 = .ok (.iload 4, 2) := by decide +kernel
theorem dL_law_463 : decode cL_law 463 = .ok (.iconst 2, 1) := by decide +kernel
theorem dL_law_464 : decode cL_law 464 = .ok (.iadd, 1) := by decide +kernel
theorem dL_law_465 : decode cL_law 465 = .ok (.iaload, 1) := by decide +kernel
theorem dL_law_466 : decode cL_law 466 = .ok (.invokevirtual 52, 3) := by decide +kernel
theorem dL_law_469 : decode cL_law 469 = .ok (.aload_n 2, 1) := by decide +kernel
theorem dL_law_470 : decode cL_law 470 = .ok (.aload_n 0, 1) := by decide +kernel
theorem dL_law_471 : decode cL_law 471 = .ok (.iload 4, 2) := by decide +kernel
theorem dL_law_473 : decode cL_law 473 = .ok (.iconst 1, 1) := by decide +kernel
theorem dL_law_474 : decode cL_law 474 = .ok (.iadd, 1) := by decide +kernel
theorem dL_law_475 : decode cL_law 475 = .ok (.iaload, 1) := by decide +kernel
theorem dL_law_476 : decode cL_law 476 = .ok (.aload_n 0, 1) := by decide +kernel
theorem dL_law_477 : decode cL_law 477 = .ok (.iload 4, 2) := by decide +kernel
theorem dL_law_479 : decode cL_law 479 = .ok (.iconst 2, 1) := by decide +kernel
theorem dL_law_480 : decode cL_law 480 = .ok (.iadd, 1) := by decide +kernel
theorem dL_law_481 : decode cL_law 481 = .ok (.iaload, 1) := by decide +kernel
theorem dL_law_482 : decode cL_law 482 = .ok (.invokevirtual 55, 3) := by decide +kernel
theorem dL_law_485 : decode cL_law 485 = .ok (.if_icmp .eq 1058, 3) := by decide +kernel
theorem dL_law_488 : decode cL_law 488 = .ok (.iconst 0, 1) := by decide +kernel
theorem dL_law_489 : decode cL_law 489 = .ok (.ireturn, 1) := by decide +kernel
theorem dL_law_490 : decode cL_law 490 = .ok (.aload_n 1, 1) := by decide +kernel
theorem dL_law_491 : decode cL_law 491 = .ok (.aload_n 0, 1) := by decide +kernel
theorem dL_law_492 : decode cL_law 492 = .ok (.iload 4, 2) := by decide +kernel
theorem dL_law_494 : decode cL_law 494 = .ok (.iconst 1, 1) := by decide +kernel
theorem dL_law_495 : decode cL_law 495 = .ok (.iadd, 1) := by decide +kernel
theorem dL_law_496 : decode cL_law 496 = .ok (.iaload, 1) := by decide +kernel
theorem dL_law_497 : decode cL_law 497 = .ok (.aload_n 0, 1) := by decide +kernel
theorem dL_law_498 : decode cL_law 498 = .ok (.iload 4, 2) := by decide +kernel
theorem dL_law_500 : decode cL_law 500 = .ok (.iconst 2, 1) := by decide +kernel
theorem dL_law_501 : decode cL_law 501 = .ok (.iadd, 1) := by decide +kernel
theorem dL_law_502 : decode cL_law 502 = .ok (.iaload, 1) := by decide +kernel
theorem dL_law_503 : decode cL_law 503 = .ok (.invokevirtual 56, 3) := by decide +kernel
theorem dL_law_506 : decode cL_law 506 = .ok (.aload_n 2, 1) := by decide +kernel
theorem dL_law_507 : decode cL_law 507 = .ok (.aload_n 0, 1) := by decide +kernel
theorem dL_law_508 : decode cL_law 508 = .ok (.iload 4, 2) := by decide +kernel
theorem dL_law_510 : decode cL_law 510 = .ok (.iconst 1, 1) := by decide +kernel
theorem dL_law_511 : decode cL_law 511 = .ok (.iadd, 1) := by decide +kernel
theorem dL_law_512 : decode cL_law 512 = .ok (.iaload, 1) := by decide +kernel
theorem dL_law_513 : decode cL_law 513 = .ok (.aload_n 0, 1) := by decide +kernel
theorem dL_law_514 : decode cL_law 514 = .ok (.iload 4, 2) := by decide +kernel
theorem dL_law_516 : decode cL_law 516 = .ok (.iconst 2, 1) := by decide +kernel
theorem dL_law_517 : decode cL_law 517 = .ok (.iadd, 1) := by decide +kernel
theorem dL_law_518 : decode cL_law 518 = .ok (.iaload, 1) := by decide +kernel
theorem dL_law_519 : decode cL_law 519 = .ok (.invokevirtual 59, 3) := by decide +kernel
theorem dL_law_522 : decode cL_law 522 = .ok (.if_icmp .eq 1021, 3) := by decide +kernel
theorem dL_law_525 : decode cL_law 525 = .ok (.iconst 0, 1) := by decide +kernel
theorem dL_law_526 : decode cL_law 526 = .ok (.ireturn, 1) := by decide +kernel
theorem dL_law_527 : decode cL_law 527 = .ok (.aload_n 1, 1) := by decide +kernel
theorem dL_law_528 : decode cL_law 528 = .ok (.aload_n 0, 1) := by decide +kernel
theorem dL_law_529 : decode cL_law 529 = .ok (.iload 4, 2) := by decide +kernel
theorem dL_law_531 : decode cL_law 531 = .ok (.iconst 1, 1) := by decide +kernel
theorem dL_law_532 : decode cL_law 532 = .ok (.iadd, 1) := by decide +kernel
theorem dL_law_533 : decode cL_law 533 = .ok (.iaload, 1) := by decide +kernel
theorem dL_law_534 : decode cL_law 534 = .ok (.invokevirtual 60, 3) := by decide +kernel
theorem dL_law_537 : decode cL_law 537 = .ok (.aload_n 2, 1) := by decide +kernel
theorem dL_law_538 : decode cL_law 538 = .ok (.aload_n 0, 1) := by decide +kernel
theorem dL_law_539 : decode cL_law 539 = .ok (.iload 4, 2) := by decide +kernel
theorem dL_law_541 : decode cL_law 541 = .ok (.iconst 1, 1) := by decide +kernel
theorem dL_law_542 : decode cL_law 542 = .ok (.iadd, 1) := by decide +kernel
theorem dL_law_543 : decode cL_law 543 = .ok (.iaload, 1) := by decide +kernel
theorem dL_law_544 : decode cL_law 544 = .ok (.invokevirtual 63, 3) := by decide +kernel
theorem dL_law_547 : decode cL_law 547 = .ok (.if_icmp .eq 996, 3) := by decide +kernel
theorem dL_law_550 : decode cL_law 550 = .ok (.iconst 0, 1) := by decide +kernel
theorem dL_law_551 : decode cL_law 551 = .ok (.ireturn, 1) := by decide +kernel
theorem dL_law_552 : decode cL_law 552 = .ok (.aload_n 1, 1) := by decide +kernel
theorem dL_law_553 : decode cL_law 553 = .ok (.aload_n 0, 1) := by decide +kernel
theorem dL_law_554 : decode cL_law 554 = .ok (.iload 4, 2) := by decide +kernel
theorem dL_law_556 : decode cL_law 556 = .ok (.iconst 1, 1) := by decide +kernel
theorem dL_law_557 : decode cL_law 557 = .ok (.iadd, 1) := by decide +kernel
theorem dL_law_558 : decode cL_law 558 = .ok (.iaload, 1) := by decide +kernel
theorem dL_law_559 : decode cL_law 559 = .ok (.aload_n 0, 1) := by decide +kernel
theorem dL_law_560 : decode cL_law 560 = .ok (.iload 4, 2) := by decide +kernel
theorem dL_law_562 : decode cL_law 562 = .ok (.iconst 2, 1) := by decide +kernel
theorem dL_law_563 : decode cL_law 563 = .ok (.iadd, 1) := by decide +kernel
theorem dL_law_564 : decode cL_law 564 = .ok (.iaload, 1) := by decide +kernel
theorem dL_law_565 : decode cL_law 565 = .ok (.invokevirtual 64, 3) := by decide +kernel
theorem dL_law_568 : decode cL_law 568 = .ok (.aload_n 2, 1) := by decide +kernel
theorem dL_law_569 : decode cL_law 569 = .ok (.aload_n 0, 1) := by decide +kernel
theorem dL_law_570 : decode cL_law 570 = .ok (.iload 4, 2) := by decide +kernel
theorem dL_law_572 : decode cL_law 572 = .ok (.iconst 1, 1) := by decide +kernel
theorem dL_law_573 : decode cL_law 573 = .ok (.iadd, 1) := by decide +kernel
theorem dL_law_574 : decode cL_law 574 = .ok (.iaload, 1) := by decide +kernel
theorem dL_law_575 : decode cL_law 575 = .ok (.aload_n 0, 1) := by decide +kernel
theorem dL_law_576 : decode cL_law 576 = .ok (.iload 4, 2) := by decide +kernel
theorem dL_law_578 : decode cL_law 578 = .ok (.iconst 2, 1) := by decide +kernel
theorem dL_law_579 : decode cL_law 579 = .ok (.iadd, 1) := by decide +kernel
theorem dL_law_580 : decode cL_law 580 = .ok (.iaload, 1) := by decide +kernel
theorem dL_law_581 : decode cL_law 581 = .ok (.invokevirtual 67, 3) := by decide +kernel
theorem dL_law_584 : decode cL_law 584 = .ok (.if_icmp .eq 959, 3) := by decide +kernel
theorem dL_law_587 : decode cL_law 587 = .ok (.iconst 0, 1) := by decide +kernel
theorem dL_law_588 : decode cL_law 588 = .ok (.ireturn, 1) := by decide +kernel
theorem dL_law_589 : decode cL_law 589 = .ok (.aload_n 1, 1) := by decide +kernel
theorem dL_law_590 : decode cL_law 590 = .ok (.aload_n 0, 1) := by decide +kernel
theorem dL_law_591 : decode cL_law 591 = .ok (.iload 4, 2) := by decide +kernel
theorem dL_law_593 : decode cL_law 593 = .ok (.iconst 1, 1) := by decide +kernel
theorem dL_law_594 : decode cL_law 594 = .ok (.iadd, 1) := by decide +kernel
theorem dL_law_595 : decode cL_law 595 = .ok (.iaload, 1) := by decide +kernel
theorem dL_law_596 : decode cL_law 596 = .ok (.aload_n 0, 1) := by decide +kernel
theorem dL_law_597 : decode cL_law 597 = .ok (.iload 4, 2) := by decide +kernel
theorem dL_law_599 : decode cL_law 599 = .ok (.iconst 2, 1) := by decide +kernel
theorem dL_law_600 : decode cL_law 600 = .ok (.iadd, 1) := by decide +kernel
theorem dL_law_601 : decode cL_law 601 = .ok (.iaload, 1) := by decide +kernel
theorem dL_law_602 : decode cL_law 602 = .ok (.invokevirtual 68, 3) := by decide +kernel
theorem dL_law_605 : decode cL_law 605 = .ok (.aload_n 2, 1) := by decide +kernel
theorem dL_law_606 : decode cL_law 606 = .ok (.aload_n 0, 1) := by decide +kernel
theorem dL_law_607 : decode cL_law 607 = .ok (.iload 4, 2) := by decide +kernel
theorem dL_law_609 : decode cL_law 609 = .ok (.iconst 1, 1) := by decide +kernel
theorem dL_law_610 : decode cL_law 610 = .ok (.iadd, 1) := by decide +kernel
theorem dL_law_611 : decode cL_law 611 = .ok (.iaload, 1) := by decide +kernel
theorem dL_law_612 : decode cL_law 612 = .ok (.aload_n 0, 1) := by decide +kernel
theorem dL_law_613 : decode cL_law 613 = .ok (.iload 4, 2) := by decide +kernel
theorem dL_law_615 : decode cL_law 615 = .ok (.iconst 2, 1) := by decide +kernel
theorem dL_law_616 : decode cL_law 616 = .ok (.iadd, 1) := by decide +kernel
theorem dL_law_617 : decode cL_law 617 = .ok (.iaload, 1) := by decide +kernel
theorem dL_law_618 : decode cL_law 618 = .ok (.invokevirtual 71, 3) := by decide +kernel
theorem dL_law_621 : decode cL_law 621 = .ok (.if_icmp .eq 922, 3) := by decide +kernel
theorem dL_law_624 : decode cL_law 624 = .ok (.iconst 0, 1) := by decide +kernel
theorem dL_law_625 : decode cL_law 625 = .ok (.ireturn, 1) := by decide +kernel
theorem dL_law_626 : decode cL_law 626 = .ok (.aload_n 1, 1) := by decide +kernel
theorem dL_law_627 : decode cL_law 627 = .ok (.aload_n 0, 1) := by decide +kernel
theorem dL_law_628 : decode cL_law 628 = .ok (.iload 4, 2) := by decide +kernel
theorem dL_law_630 : decode cL_law 630 = .ok (.iconst 1, 1) := by decide +kernel
theorem dL_law_631 : decode cL_law 631 = .ok (.iadd, 1) := by decide +kernel
theorem dL_law_632 : decode cL_law 632 = .ok (.iaload, 1) := by decide +kernel
theorem dL_law_633 : decode cL_law 633 = .ok (.aload_n 0, 1) := by decide +kernel
theorem dL_law_634 : decode cL_law 634 = .ok (.iload 4, 2) := by decide +kernel
theorem dL_law_636 : decode cL_law 636 = .ok (.iconst 2, 1) := by decide +kernel
theorem dL_law_637 : decode cL_law 637 = .ok (.iadd, 1) := by decide +kernel
theorem dL_law_638 : decode cL_law 638 = .ok (.iaload, 1) := by decide +kernel
theorem dL_law_639 : decode cL_law 639 = .ok (.invokevirtual 72, 3) := by decide +kernel
theorem dL_law_642 : decode cL_law 642 = .ok (.aload_n 2, 1) := by decide +kernel
theorem dL_law_643 : decode cL_law 643 = .ok (.aload_n 0, 1) := by decide +kernel
theorem dL_law_644 : decode cL_law 644 = .ok (.iload 4, 2) := by decide +kernel
theorem dL_law_646 : decode cL_law 646 = .ok (.iconst 1, 1) := by decide +kernel
theorem dL_law_647 : decode cL_law 647 = .ok (.iadd, 1) := by decide +kernel
theorem dL_law_648 : decode cL_law 648 = .ok (.iaload, 1) := by decide +kernel
theorem dL_law_649 : decode cL_law 649 = .ok (.aload_n 0, 1) := by decide +kernel
theorem dL_law_650 : decode cL_law 650 = .ok (.iload 4, 2) := by decide +kernel
theorem dL_law_652 : decode cL_law 652 = .ok (.iconst 2, 1) := by decide +kernel
theorem dL_law_653 : decode cL_law 653 = .ok (.iadd, 1) := by decide +kernel
theorem dL_law_654 : decode cL_law 654 = .ok (.iaload, 1) := by decide +kernel
theorem dL_law_655 : decode cL_law 655 = .ok (.invokevirtual 75, 3) := by decide +kernel
theorem dL_law_658 : decode cL_law 658 = .ok (.if_icmp .eq 885, 3) := by decide +kernel
theorem dL_law_661 : decode cL_law 661 = .ok (.iconst 0, 1) := by decide +kernel
theorem dL_law_662 : decode cL_law 662 = .ok (.ireturn, 1) := by decide +kernel
theorem dL_law_663 : decode cL_law 663 = .ok (.aload_n 1, 1) := by decide +kernel
theorem dL_law_664 : decode cL_law 664 = .ok (.aload_n 0, 1) := by decide +kernel
theorem dL_law_665 : decode cL_law 665 = .ok (.iload 4, 2) := by decide +kernel
theorem dL_law_667 : decode cL_law 667 = .ok (.iconst 1, 1) := by decide +kernel
theorem dL_law_668 : decode cL_law 668 = .ok (.iadd, 1) := by decide +kernel
theorem dL_law_669 : decode cL_law 669 = .ok (.iaload, 1) := by decide +kernel
theorem dL_law_670 : decode cL_law 670 = .ok (.invokevirtual 76, 3) := by decide +kernel
theorem dL_law_673 : decode cL_law 673 = .ok (.aload_n 2, 1) := by decide +kernel
theorem dL_law_674 : decode cL_law 674 = .ok (.aload_n 0, 1) := by decide +kernel
theorem dL_law_675 : decode cL_law 675 = .ok (.iload 4, 2) := by decide +kernel
theorem dL_law_677 : decode cL_law 677 = .ok (.iconst 1, 1) := by decide +kernel
theorem dL_law_678 : decode cL_law 678 = .ok (.iadd, 1) := by decide +kernel
theorem dL_law_679 : decode cL_law 679 = .ok (.iaload, 1) := by decide +kernel
theorem dL_law_680 : decode cL_law 680 = .ok (.invokevirtual 79, 3) := by decide +kernel
theorem dL_law_683 : decode cL_law 683 = .ok (.if_icmp .eq 860, 3) := by decide +kernel
theorem dL_law_686 : decode cL_law 686 = .ok (.iconst 0, 1) := by decide +kernel
theorem dL_law_687 : decode cL_law 687 = .ok (.ireturn, 1) := by decide +kernel
theorem dL_law_688 : decode cL_law 688 = .ok (.aload_n 1, 1) := by decide +kernel
theorem dL_law_689 : decode cL_law 689 = .ok (.aload_n 0, 1) := by decide +kernel
theorem dL_law_690 : decode cL_law 690 = .ok (.iload 4, 2) := by decide +kernel
theorem dL_law_692 : decode cL_law 692 = .ok (.iconst 1, 1) := by decide +kernel
theorem dL_law_693 : decode cL_law 693 = .ok (.iadd, 1) := by decide +kernel
theorem dL_law_694 : decode cL_law 694 = .ok (.iaload, 1) := by decide +kernel
theorem dL_law_695 : decode cL_law 695 = .ok (.invokevirtual 80, 3) := by decide +kernel
theorem dL_law_698 : decode cL_law 698 = .ok (.aload_n 2, 1) := by decide +kernel
theorem dL_law_699 : decode cL_law 699 = .ok (.aload_n 0, 1) := by decide +kernel
theorem dL_law_700 : decode cL_law 700 = .ok (.iload 4, 2) := by decide +kernel
theorem dL_law_702 : decode cL_law 702 = .ok (.iconst 1, 1) := by decide +kernel
theorem dL_law_703 : decode cL_law 703 = .ok (.iadd, 1) := by decide +kernel
theorem dL_law_704 : decode cL_law 704 = .ok (.iaload, 1) := by decide +kernel
theorem dL_law_705 : decode cL_law 705 = .ok (.invokevirtual 84, 3) := by decide +kernel
theorem dL_law_708 : decode cL_law 708 = .ok (.lcmp, 1) := by decide +kernel
theorem dL_law_709 : decode cL_law 709 = .ok (.ifCond .eq 834, 3) := by decide +kernel
theorem dL_law_712 : decode cL_law 712 = .ok (.iconst 0, 1) := by decide +kernel
theorem dL_law_713 : decode cL_law 713 = .ok (.ireturn, 1) := by decide +kernel
theorem dL_law_714 : decode cL_law 714 = .ok (.aload_n 1, 1) := by decide +kernel
theorem dL_law_715 : decode cL_law 715 = .ok (.aload_n 0, 1) := by decide +kernel
theorem dL_law_716 : decode cL_law 716 = .ok (.iload 4, 2) := by decide +kernel
theorem dL_law_718 : decode cL_law 718 = .ok (.iconst 1, 1) := by decide +kernel
theorem dL_law_719 : decode cL_law 719 = .ok (.iadd, 1) := by decide +kernel
theorem dL_law_720 : decode cL_law 720 = .ok (.iaload, 1) := by decide +kernel
theorem dL_law_721 : decode cL_law 721 = .ok (.aload_n 0, 1) := by decide +kernel
theorem dL_law_722 : decode cL_law 722 = .ok (.iload 4, 2) := by decide +kernel
theorem dL_law_724 : decode cL_law 724 = .ok (.iconst 2, 1) := by decide +kernel
theorem dL_law_725 : decode cL_law 725 = .ok (.iadd, 1) := by decide +kernel
theorem dL_law_726 : decode cL_law 726 = .ok (.iaload, 1) := by decide +kernel
theorem dL_law_727 : decode cL_law 727 = .ok (.invokevirtual 85, 3) := by decide +kernel
theorem dL_law_730 : decode cL_law 730 = .ok (.aload_n 2, 1) := by decide +kernel
theorem dL_law_731 : decode cL_law 731 = .ok (.aload_n 0, 1) := by decide +kernel
theorem dL_law_732 : decode cL_law 732 = .ok (.iload 4, 2) := by decide +kernel
theorem dL_law_734 : decode cL_law 734 = .ok (.iconst 1, 1) := by decide +kernel
theorem dL_law_735 : decode cL_law 735 = .ok (.iadd, 1) := by decide +kernel
theorem dL_law_736 : decode cL_law 736 = .ok (.iaload, 1) := by decide +kernel
theorem dL_law_737 : decode cL_law 737 = .ok (.aload_n 0, 1) := by decide +kernel
theorem dL_law_738 : decode cL_law 738 = .ok (.iload 4, 2) := by decide +kernel
theorem dL_law_740 : decode cL_law 740 = .ok (.iconst 2, 1) := by decide +kernel
theorem dL_law_741 : decode cL_law 741 = .ok (.iadd, 1) := by decide +kernel
theorem dL_law_742 : decode cL_law 742 = .ok (.iaload, 1) := by decide +kernel
theorem dL_law_743 : decode cL_law 743 = .ok (.invokevirtual 88, 3) := by decide +kernel
theorem dL_law_746 : decode cL_law 746 = .ok (.if_icmp .eq 797, 3) := by decide +kernel
theorem dL_law_749 : decode cL_law 749 = .ok (.iconst 0, 1) := by decide +kernel
theorem dL_law_750 : decode cL_law 750 = .ok (.ireturn, 1) := by decide +kernel
theorem dL_law_751 : decode cL_law 751 = .ok (.aload_n 1, 1) := by decide +kernel
theorem dL_law_752 : decode cL_law 752 = .ok (.aload_n 0, 1) := by decide +kernel
theorem dL_law_753 : decode cL_law 753 = .ok (.iload 4, 2) := by decide +kernel
theorem dL_law_755 : decode cL_law 755 = .ok (.iconst 1, 1) := by decide +kernel
theorem dL_law_756 : decode cL_law 756 = .ok (.iadd, 1) := by decide +kernel
theorem dL_law_757 : decode cL_law 757 = .ok (.iaload, 1) := by decide +kernel
theorem dL_law_758 : decode cL_law 758 = .ok (.aload_n 0, 1) := by decide +kernel
theorem dL_law_759 : decode cL_law 759 = .ok (.iload 4, 2) := by decide +kernel
theorem dL_law_761 : decode cL_law 761 = .ok (.iconst 2, 1) := by decide +kernel
theorem dL_law_762 : decode cL_law 762 = .ok (.iadd, 1) := by decide +kernel
theorem dL_law_763 : decode cL_law 763 = .ok (.iaload, 1) := by decide +kernel
theorem dL_law_764 : decode cL_law 764 = .ok (.aload_n 0, 1) := by decide +kernel
theorem dL_law_765 : decode cL_law 765 = .ok (.iload 4, 2) := by decide +kernel
theorem dL_law_767 : decode cL_law 767 = .ok (.iconst 3, 1) := by decide +kernel
theorem dL_law_768 : decode cL_law 768 = .ok (.iadd, 1) := by decide +kernel
theorem dL_law_769 : decode cL_law 769 = .ok (.iaload, 1) := by decide +kernel
theorem dL_law_770 : decode cL_law 770 = .ok (.invokevirtual 89, 3) := by decide +kernel
theorem dL_law_773 : decode cL_law 773 = .ok (.aload_n 2, 1) := by decide +kernel
theorem dL_law_774 : decode cL_law 774 = .ok (.aload_n 0, 1) := by decide +kernel
theorem dL_law_775 : decode cL_law 775 = .ok (.iload 4, 2) := by decide +kernel
theorem dL_law_777 : decode cL_law 777 = .ok (.iconst 1, 1) := by decide +kernel
theorem dL_law_778 : decode cL_law 778 = .ok (.iadd, 1) := by decide +kernel
theorem dL_law_779 : decode cL_law 779 = .ok (.iaload, 1) := by decide +kernel
theorem dL_law_780 : decode cL_law 780 = .ok (.aload_n 0, 1) := by decide +kernel
theorem dL_law_781 : decode cL_law 781 = .ok (.iload 4, 2) := by decide +kernel
theorem dL_law_783 : decode cL_law 783 = .ok (.iconst 2, 1) := by decide +kernel
theorem dL_law_784 : decode cL_law 784 = .ok (.iadd, 1) := by decide +kernel
theorem dL_law_785 : decode cL_law 785 = .ok (.iaload, 1) := by decide +kernel
theorem dL_law_786 : decode cL_law 786 = .ok (.aload_n 0, 1) := by decide +kernel
theorem dL_law_787 : decode cL_law 787 = .ok (.iload 4, 2) := by decide +kernel
theorem dL_law_789 : decode cL_law 789 = .ok (.iconst 3, 1) := by decide +kernel
theorem dL_law_790 : decode cL_law 790 = .ok (.iadd, 1) := by decide +kernel
theorem dL_law_791 : decode cL_law 791 = .ok (.iaload, 1) := by decide +kernel
theorem dL_law_792 : decode cL_law 792 = .ok (.invokevirtual 93, 3) := by decide +kernel
theorem dL_law_795 : decode cL_law 795 = .ok (.if_icmp .eq 748, 3) := by decide +kernel
theorem dL_law_798 : decode cL_law 798 = .ok (.iconst 0, 1) := by decide +kernel
theorem dL_law_799 : decode cL_law 799 = .ok (.ireturn, 1) := by decide +kernel
theorem dL_law_800 : decode cL_law 800 = .ok (.aload_n 1, 1) := by decide +kernel
theorem dL_law_801 : decode cL_law 801 = .ok (.aload_n 0, 1) := by decide +kernel
theorem dL_law_802 : decode cL_law 802 = .ok (.iload 4, 2) := by decide +kernel
theorem dL_law_804 : decode cL_law 804 = .ok (.iconst 1, 1) := by decide +kernel
theorem dL_law_805 : decode cL_law 805 = .ok (.iadd, 1) := by decide +kernel
theorem dL_law_806 : decode cL_law 806 = .ok (.iaload, 1) := by decide +kernel
theorem dL_law_807 : decode cL_law 807 = .ok (.invokevirtual 94, 3) := by decide +kernel
theorem dL_law_810 : decode cL_law 810 = .ok (.aload_n 2, 1) := by decide +kernel
theorem dL_law_811 : decode cL_law 811 = .ok (.aload_n 0, 1) := by decide +kernel
theorem dL_law_812 : decode cL_law 812 = .ok (.iload 4, 2) := by decide +kernel
theorem dL_law_814 : decode cL_law 814 = .ok (.iconst 1, 1) := by decide +kernel
theorem dL_law_815 : decode cL_law 815 = .ok (.iadd, 1) := by decide +kernel
theorem dL_law_816 : decode cL_law 816 = .ok (.iaload, 1) := by decide +kernel
theorem dL_law_817 : decode cL_law 817 = .ok (.invokevirtual 97, 3) := by decide +kernel
theorem dL_law_820 : decode cL_law 820 = .ok (.if_icmp .eq 723, 3) := by decide +kernel
theorem dL_law_823 : decode cL_law 823 = .ok (.iconst 0, 1) := by decide +kernel
theorem dL_law_824 : decode cL_law 824 = .ok (.ireturn, 1) := by decide +kernel
theorem dL_law_825 : decode cL_law 825 = .ok (.aload_n 1, 1) := by decide +kernel
theorem dL_law_826 : decode cL_law 826 = .ok (.aload_n 0, 1) := by decide +kernel
theorem dL_law_827 : decode cL_law 827 = .ok (.iload 4, 2) := by decide +kernel
theorem dL_law_829 : decode cL_law 829 = .ok (.iconst 1, 1) := by decide +kernel
theorem dL_law_830 : decode cL_law 830 = .ok (.iadd, 1) := by decide +kernel
theorem dL_law_831 : decode cL_law 831 = .ok (.iaload, 1) := by decide +kernel
theorem dL_law_832 : decode cL_law 832 = .ok (.invokevirtual 98, 3) := by decide +kernel
theorem dL_law_835 : decode cL_law 835 = .ok (.aload_n 2, 1) := by decide +kernel
theorem dL_law_836 : decode cL_law 836 = .ok (.aload_n 0, 1) := by decide +kernel
theorem dL_law_837 : decode cL_law 837 = .ok (.iload 4, 2) := by decide +kernel
theorem dL_law_839 : decode cL_law 839 = .ok (.iconst 1, 1) := by decide +kernel
theorem dL_law_840 : decode cL_law 840 = .ok (.iadd, 1) := by decide +kernel
theorem dL_law_841 : decode cL_law 841 = .ok (.iaload, 1) := by decide +kernel
theorem dL_law_842 : decode cL_law 842 = .ok (.invokevirtual 101, 3) := by decide +kernel
theorem dL_law_845 : decode cL_law 845 = .ok (.if_icmp .eq 698, 3) := by decide +kernel
theorem dL_law_848 : decode cL_law 848 = .ok (.iconst 0, 1) := by decide +kernel
theorem dL_law_849 : decode cL_law 849 = .ok (.ireturn, 1) := by decide +kernel
theorem dL_law_850 : decode cL_law 850 = .ok (.aload_n 1, 1) := by decide +kernel
theorem dL_law_851 : decode cL_law 851 = .ok (.aload_n 0, 1) := by decide +kernel
theorem dL_law_852 : decode cL_law 852 = .ok (.iload 4, 2) := by decide +kernel
theorem dL_law_854 : decode cL_law 854 = .ok (.iconst 1, 1) := by decide +kernel
theorem dL_law_855 : decode cL_law 855 = .ok (.iadd, 1) := by decide +kernel
theorem dL_law_856 : decode cL_law 856 = .ok (.iaload, 1) := by decide +kernel
theorem dL_law_857 : decode cL_law 857 = .ok (.aload_n 0, 1) := by decide +kernel
theorem dL_law_858 : decode cL_law 858 = .ok (.iload 4, 2) := by decide +kernel
theorem dL_law_860 : decode cL_law 860 = .ok (.iconst 2, 1) := by decide +kernel
theorem dL_law_861 : decode cL_law 861 = .ok (.iadd, 1) := by decide +kernel
theorem dL_law_862 : decode cL_law 862 = .ok (.iaload, 1) := by decide +kernel
theorem dL_law_863 : decode cL_law 863 = .ok (.invokevirtual 102, 3) := by decide +kernel
theorem dL_law_866 : decode cL_law 866 = .ok (.aload_n 2, 1) := by decide +kernel
theorem dL_law_867 : decode cL_law 867 = .ok (.aload_n 0, 1) := by decide +kernel
theorem dL_law_868 : decode cL_law 868 = .ok (.iload 4, 2) := by decide +kernel
theorem dL_law_870 : decode cL_law 870 = .ok (.iconst 1, 1) := by decide +kernel
theorem dL_law_871 : decode cL_law 871 = .ok (.iadd, 1) := by decide +kernel
theorem dL_law_872 : decode cL_law 872 = .ok (.iaload, 1) := by decide +kernel
theorem dL_law_873 : decode cL_law 873 = .ok (.aload_n 0, 1) := by decide +kernel
theorem dL_law_874 : decode cL_law 874 = .ok (.iload 4, 2) := by decide +kernel
theorem dL_law_876 : decode cL_law 876 = .ok (.iconst 2, 1) := by decide +kernel
theorem dL_law_877 : decode cL_law 877 = .ok (.iadd, 1) := by decide +kernel
theorem dL_law_878 : decode cL_law 878 = .ok (.iaload, 1) := by decide +kernel
theorem dL_law_879 : decode cL_law 879 = .ok (.invokevirtual 105, 3) := by decide +kernel
theorem dL_law_882 : decode cL_law 882 = .ok (.if_icmp .eq 661, 3) := by decide +kernel
theorem dL_law_885 : decode cL_law 885 = .ok (.iconst 0, 1) := by decide +kernel
theorem dL_law_886 : decode cL_law 886 = .ok (.ireturn, 1) := by decide +kernel
theorem dL_law_887 : decode cL_law 887 = .ok (.aload_n 1, 1) := by decide +kernel
theorem dL_law_888 : decode cL_law 888 = .ok (.aload_n 0, 1) := by decide +kernel
theorem dL_law_889 : decode cL_law 889 = .ok (.iload 4, 2) := by decide +kernel
theorem dL_law_891 : decode cL_law 891 = .ok (.iconst 1, 1) := by decide +kernel
theorem dL_law_892 : decode cL_law 892 = .ok (.iadd, 1) := by decide +kernel
theorem dL_law_893 : decode cL_law 893 = .ok (.iaload, 1) := by decide +kernel
theorem dL_law_894 : decode cL_law 894 = .ok (.invokevirtual 106, 3) := by decide +kernel
theorem dL_law_897 : decode cL_law 897 = .ok (.aload_n 2, 1) := by decide +kernel
theorem dL_law_898 : decode cL_law 898 = .ok (.aload_n 0, 1) := by decide +kernel
theorem dL_law_899 : decode cL_law 899 = .ok (.iload 4, 2) := by decide +kernel
theorem dL_law_901 : decode cL_law 901 = .ok (.iconst 1, 1) := by decide +kernel
theorem dL_law_902 : decode cL_law 902 = .ok (.iadd, 1) := by decide +kernel
theorem dL_law_903 : decode cL_law 903 = .ok (.iaload, 1) := by decide +kernel
theorem dL_law_904 : decode cL_law 904 = .ok (.invokevirtual 109, 3) := by decide +kernel
theorem dL_law_907 : decode cL_law 907 = .ok (.if_icmp .eq 636, 3) := by decide +kernel
theorem dL_law_910 : decode cL_law 910 = .ok (.iconst 0, 1) := by decide +kernel
theorem dL_law_911 : decode cL_law 911 = .ok (.ireturn, 1) := by decide +kernel
theorem dL_law_912 : decode cL_law 912 = .ok (.aload_n 1, 1) := by decide +kernel
theorem dL_law_913 : decode cL_law 913 = .ok (.aload_n 0, 1) := by decide +kernel
theorem dL_law_914 : decode cL_law 914 = .ok (.iload 4, 2) := by decide +kernel
theorem dL_law_916 : decode cL_law 916 = .ok (.iconst 1, 1) := by decide +kernel
theorem dL_law_917 : decode cL_law 917 = .ok (.iadd, 1) := by decide +kernel
theorem dL_law_918 : decode cL_law 918 = .ok (.iaload, 1) := by decide +kernel
theorem dL_law_919 : decode cL_law 919 = .ok (.invokevirtual 110, 3) := by decide +kernel
theorem dL_law_922 : decode cL_law 922 = .ok (.aload_n 2, 1) := by decide +kernel
theorem dL_law_923 : decode cL_law 923 = .ok (.aload_n 0, 1) := by decide +kernel
theorem dL_law_924 : decode cL_law 924 = .ok (.iload 4, 2) := by decide +kernel
theorem dL_law_926 : decode cL_law 926 = .ok (.iconst 1, 1) := by decide +kernel
theorem dL_law_927 : decode cL_law 927 = .ok (.iadd, 1) := by decide +kernel
theorem dL_law_928 : decode cL_law 928 = .ok (.iaload, 1) := by decide +kernel
theorem dL_law_929 : decode cL_law 929 = .ok (.invokevirtual 113, 3) := by decide +kernel
theorem dL_law_932 : decode cL_law 932 = .ok (.if_icmp .eq 611, 3) := by decide +kernel
theorem dL_law_935 : decode cL_law 935 = .ok (.iconst 0, 1) := by decide +kernel
theorem dL_law_936 : decode cL_law 936 = .ok (.ireturn, 1) := by decide +kernel
theorem dL_law_937 : decode cL_law 937 = .ok (.aload_n 1, 1) := by decide +kernel
theorem dL_law_938 : decode cL_law 938 = .ok (.aload_n 0, 1) := by decide +kernel
theorem dL_law_939 : decode cL_law 939 = .ok (.iload 4, 2) := by decide +kernel
theorem dL_law_941 : decode cL_law 941 = .ok (.iconst 1, 1) := by decide +kernel
theorem dL_law_942 : decode cL_law 942 = .ok (.iadd, 1) := by decide +kernel
theorem dL_law_943 : decode cL_law 943 = .ok (.iaload, 1) := by decide +kernel
theorem dL_law_944 : decode cL_law 944 = .ok (.invokevirtual 114, 3) := by decide +kernel
theorem dL_law_947 : decode cL_law 947 = .ok (.aload_n 2, 1) := by decide +kernel
theorem dL_law_948 : decode cL_law 948 = .ok (.aload_n 0, 1) := by decide +kernel
theorem dL_law_949 : decode cL_law 949 = .ok (.iload 4, 2) := by decide +kernel
theorem dL_law_951 : decode cL_law 951 = .ok (.iconst 1, 1) := by decide +kernel
theorem dL_law_952 : decode cL_law 952 = .ok (.iadd, 1) := by decide +kernel
theorem dL_law_953 : decode cL_law 953 = .ok (.iaload, 1) := by decide +kernel
theorem dL_law_954 : decode cL_law 954 = .ok (.invokevirtual 117, 3) := by decide +kernel
theorem dL_law_957 : decode cL_law 957 = .ok (.if_icmp .eq 586, 3) := by decide +kernel
theorem dL_law_960 : decode cL_law 960 = .ok (.iconst 0, 1) := by decide +kernel
theorem dL_law_961 : decode cL_law 961 = .ok (.ireturn, 1) := by decide +kernel
theorem dL_law_962 : decode cL_law 962 = .ok (.aload_n 1, 1) := by decide +kernel
theorem dL_law_963 : decode cL_law 963 = .ok (.aload_n 0, 1) := by decide +kernel
theorem dL_law_964 : decode cL_law 964 = .ok (.iload 4, 2) := by decide +kernel
theorem dL_law_966 : decode cL_law 966 = .ok (.iconst 1, 1) := by decide +kernel
theorem dL_law_967 : decode cL_law 967 = .ok (.iadd, 1) := by decide +kernel
theorem dL_law_968 : decode cL_law 968 = .ok (.iaload, 1) := by decide +kernel
theorem dL_law_969 : decode cL_law 969 = .ok (.invokevirtual 118, 3) := by decide +kernel
theorem dL_law_972 : decode cL_law 972 = .ok (.aload_n 2, 1) := by decide +kernel
theorem dL_law_973 : decode cL_law 973 = .ok (.aload_n 0, 1) := by decide +kernel
theorem dL_law_974 : decode cL_law 974 = .ok (.iload 4, 2) := by decide +kernel
theorem dL_law_976 : decode cL_law 976 = .ok (.iconst 1, 1) := by decide +kernel
theorem dL_law_977 : decode cL_law 977 = .ok (.iadd, 1) := by decide +kernel
theorem dL_law_978 : decode cL_law 978 = .ok (.iaload, 1) := by decide +kernel
theorem dL_law_979 : decode cL_law 979 = .ok (.invokevirtual 121, 3) := by decide +kernel
theorem dL_law_982 : decode cL_law 982 = .ok (.if_icmp .eq 561, 3) := by decide +kernel
theorem dL_law_985 : decode cL_law 985 = .ok (.iconst 0, 1) := by decide +kernel
theorem dL_law_986 : decode cL_law 986 = .ok (.ireturn, 1) := by decide +kernel
theorem dL_law_987 : decode cL_law 987 = .ok (.aload_n 1, 1) := by decide +kernel
theorem dL_law_988 : decode cL_law 988 = .ok (.aload_n 0, 1) := by decide +kernel
theorem dL_law_989 : decode cL_law 989 = .ok (.iload 4, 2) := by decide +kernel
theorem dL_law_991 : decode cL_law 991 = .ok (.iconst 1, 1) := by decide +kernel
theorem dL_law_992 : decode cL_law 992 = .ok (.iadd, 1) := by decide +kernel
theorem dL_law_993 : decode cL_law 993 = .ok (.iaload, 1) := by decide +kernel
theorem dL_law_994 : decode cL_law 994 = .ok (.aload_n 0, 1) := by decide +kernel
theorem dL_law_995 : decode cL_law 995 = .ok (.iload 4, 2) := by decide +kernel
theorem dL_law_997 : decode cL_law 997 = .ok (.iconst 2, 1) := by decide +kernel
theorem dL_law_998 : decode cL_law 998 = .ok (.iadd, 1) := by decide +kernel
theorem dL_law_999 : decode cL_law 999 = .ok (.iaload, 1) := by decide +kernel
theorem dL_law_1000 : decode cL_law 1000 = .ok (.invokevirtual 122, 3) := by decide +kernel
theorem dL_law_1003 : decode cL_law 1003 = .ok (.aload_n 2, 1) := by decide +kernel
theorem dL_law_1004 : decode cL_law 1004 = .ok (.aload_n 0, 1) := by decide +kernel
theorem dL_law_1005 : decode cL_law 1005 = .ok (.iload 4, 2) := by decide +kernel
theorem dL_law_1007 : decode cL_law 1007 = .ok (.iconst 1, 1) := by decide +kernel
theorem dL_law_1008 : decode cL_law 1008 = .ok (.iadd, 1) := by decide +kernel
theorem dL_law_1009 : decode cL_law 1009 = .ok (.iaload, 1) := by decide +kernel
theorem dL_law_1010 : decode cL_law 1010 = .ok (.aload_n 0, 1) := by decide +kernel
theorem dL_law_1011 : decode cL_law 1011 = .ok (.iload 4, 2) := by decide +kernel
theorem dL_law_1013 : decode cL_law 1013 = .ok (.iconst 2, 1) := by decide +kernel
theorem dL_law_1014 : decode cL_law 1014 = .ok (.iadd, 1) := by decide +kernel
theorem dL_law_1015 : decode cL_law 1015 = .ok (.iaload, 1) := by decide +kernel
theorem dL_law_1016 : decode cL_law 1016 = .ok (.invokevirtual 125, 3) := by decide +kernel
theorem dL_law_1019 : decode cL_law 1019 = .ok (.if_icmp .eq 524, 3) := by decide +kernel
theorem dL_law_1022 : decode cL_law 1022 = .ok (.iconst 0, 1) := by decide +kernel
theorem dL_law_1023 : decode cL_law 1023 = .ok (.ireturn, 1) := by decide +kernel
theorem dL_law_1024 : decode cL_law 1024 = .ok (.aload_n 1, 1) := by decide +kernel
theorem dL_law_1025 : decode cL_law 1025 = .ok (.aload_n 0, 1) := by decide +kernel
theorem dL_law_1026 : decode cL_law 1026 = .ok (.iload 4, 2) := by decide +kernel
theorem dL_law_1028 : decode cL_law 1028 = .ok (.iconst 1, 1) := by decide +kernel
theorem dL_law_1029 : decode cL_law 1029 = .ok (.iadd, 1) := by decide +kernel
theorem dL_law_1030 : decode cL_law 1030 = .ok (.iaload, 1) := by decide +kernel
theorem dL_law_1031 : decode cL_law 1031 = .ok (.invokevirtual 126, 3) := by decide +kernel
theorem dL_law_1034 : decode cL_law 1034 = .ok (.aload_n 2, 1) := by decide +kernel
theorem dL_law_1035 : decode cL_law 1035 = .ok (.aload_n 0, 1) := by decide +kernel
theorem dL_law_1036 : decode cL_law 1036 = .ok (.iload 4, 2) := by decide +kernel
theorem dL_law_1038 : decode cL_law 1038 = .ok (.iconst 1, 1) := by decide +kernel
theorem dL_law_1039 : decode cL_law 1039 = .ok (.iadd, 1) := by decide +kernel
theorem dL_law_1040 : decode cL_law 1040 = .ok (.iaload, 1) := by decide +kernel
theorem dL_law_1041 : decode cL_law 1041 = .ok (.invokevirtual 129, 3) := by decide +kernel
theorem dL_law_1044 : decode cL_law 1044 = .ok (.if_icmp .eq 499, 3) := by decide +kernel
theorem dL_law_1047 : decode cL_law 1047 = .ok (.iconst 0, 1) := by decide +kernel
theorem dL_law_1048 : decode cL_law 1048 = .ok (.ireturn, 1) := by decide +kernel
theorem dL_law_1049 : decode cL_law 1049 = .ok (.aload_n 1, 1) := by decide +kernel
theorem dL_law_1050 : decode cL_law 1050 = .ok (.aload_n 0, 1) := by decide +kernel
theorem dL_law_1051 : decode cL_law 1051 = .ok (.iload 4, 2) := by decide +kernel
theorem dL_law_1053 : decode cL_law 1053 = .ok (.iconst 1, 1) := by decide +kernel
theorem dL_law_1054 : decode cL_law 1054 = .ok (.iadd, 1) := by decide +kernel
theorem dL_law_1055 : decode cL_law 1055 = .ok (.iaload, 1) := by decide +kernel
theorem dL_law_1056 : decode cL_law 1056 = .ok (.aload_n 0, 1) := by decide +kernel
theorem dL_law_1057 : decode cL_law 1057 = .ok (.iload 4, 2) := by decide +kernel
theorem dL_law_1059 : decode cL_law 1059 = .ok (.iconst 2, 1) := by decide +kernel
theorem dL_law_1060 : decode cL_law 1060 = .ok (.iadd, 1) := by decide +kernel
theorem dL_law_1061 : decode cL_law 1061 = .ok (.iaload, 1) := by decide +kernel
theorem dL_law_1062 : decode cL_law 1062 = .ok (.invokevirtual 130, 3) := by decide +kernel
theorem dL_law_1065 : decode cL_law 1065 = .ok (.aload_n 2, 1) := by decide +kernel
theorem dL_law_1066 : decode cL_law 1066 = .ok (.aload_n 0, 1) := by decide +kernel
theorem dL_law_1067 : decode cL_law 1067 = .ok (.iload 4, 2) := by decide +kernel
theorem dL_law_1069 : decode cL_law 1069 = .ok (.iconst 1, 1) := by decide +kernel
theorem dL_law_1070 : decode cL_law 1070 = .ok (.iadd, 1) := by decide +kernel
theorem dL_law_1071 : decode cL_law 1071 = .ok (.iaload, 1) := by decide +kernel
theorem dL_law_1072 : decode cL_law 1072 = .ok (.aload_n 0, 1) := by decide +kernel
theorem dL_law_1073 : decode cL_law 1073 = .ok (.iload 4, 2) := by decide +kernel
theorem dL_law_1075 : decode cL_law 1075 = .ok (.iconst 2, 1) := by decide +kernel
theorem dL_law_1076 : decode cL_law 1076 = .ok (.iadd, 1) := by decide +kernel
theorem dL_law_1077 : decode cL_law 1077 = .ok (.iaload, 1) := by decide +kernel
theorem dL_law_1078 : decode cL_law 1078 = .ok (.invokevirtual 133, 3) := by decide +kernel
theorem dL_law_1081 : decode cL_law 1081 = .ok (.if_icmp .eq 462, 3) := by decide +kernel
theorem dL_law_1084 : decode cL_law 1084 = .ok (.iconst 0, 1) := by decide +kernel
theorem dL_law_1085 : decode cL_law 1085 = .ok (.ireturn, 1) := by decide +kernel
theorem dL_law_1086 : decode cL_law 1086 = .ok (.aload_n 1, 1) := by decide +kernel
theorem dL_law_1087 : decode cL_law 1087 = .ok (.aload_n 0, 1) := by decide +kernel
theorem dL_law_1088 : decode cL_law 1088 = .ok (.iload 4, 2) := by decide +kernel
theorem dL_law_1090 : decode cL_law 1090 = .ok (.iconst 1, 1) := by decide +kernel
theorem dL_law_1091 : decode cL_law 1091 = .ok (.iadd, 1) := by decide +kernel
theorem dL_law_1092 : decode cL_law 1092 = .ok (.iaload, 1) := by decide +kernel
theorem dL_law_1093 : decode cL_law 1093 = .ok (.invokevirtual 134, 3) := by decide +kernel
theorem dL_law_1096 : decode cL_law 1096 = .ok (.aload_n 2, 1) := by decide +kernel
theorem dL_law_1097 : decode cL_law 1097 = .ok (.aload_n 0, 1) := by decide +kernel
theorem dL_law_1098 : decode cL_law 1098 = .ok (.iload 4, 2) := by decide +kernel
theorem dL_law_1100 : decode cL_law 1100 = .ok (.iconst 1, 1) := by decide +kernel
theorem dL_law_1101 : decode cL_law 1101 = .ok (.iadd, 1) := by decide +kernel
theorem dL_law_1102 : decode cL_law 1102 = .ok (.iaload, 1) := by decide +kernel
theorem dL_law_1103 : decode cL_law 1103 = .ok (.invokevirtual 137, 3) := by decide +kernel
theorem dL_law_1106 : decode cL_law 1106 = .ok (.if_icmp .eq 437, 3) := by decide +kernel
theorem dL_law_1109 : decode cL_law 1109 = .ok (.iconst 0, 1) := by decide +kernel
theorem dL_law_1110 : decode cL_law 1110 = .ok (.ireturn, 1) := by decide +kernel
theorem dL_law_1111 : decode cL_law 1111 = .ok (.aload_n 1, 1) := by decide +kernel
theorem dL_law_1112 : decode cL_law 1112 = .ok (.aload_n 0, 1) := by decide +kernel
theorem dL_law_1113 : decode cL_law 1113 = .ok (.iload 4, 2) := by decide +kernel
theorem dL_law_1115 : decode cL_law 1115 = .ok (.iconst 1, 1) := by decide +kernel
theorem dL_law_1116 : decode cL_law 1116 = .ok (.iadd, 1) := by decide +kernel
theorem dL_law_1117 : decode cL_law 1117 = .ok (.iaload, 1) := by decide +kernel
theorem dL_law_1118 : decode cL_law 1118 = .ok (.invokevirtual 138, 3) := by decide +kernel
theorem dL_law_1121 : decode cL_law 1121 = .ok (.aload_n 2, 1) := by decide +kernel
theorem dL_law_1122 : decode cL_law 1122 = .ok (.aload_n 0, 1) := by decide +kernel
theorem dL_law_1123 : decode cL_law 1123 = .ok (.iload 4, 2) := by decide +kernel
theorem dL_law_1125 : decode cL_law 1125 = .ok (.iconst 1, 1) := by decide +kernel
theorem dL_law_1126 : decode cL_law 1126 = .ok (.iadd, 1) := by decide +kernel
theorem dL_law_1127 : decode cL_law 1127 = .ok (.iaload, 1) := by decide +kernel
theorem dL_law_1128 : decode cL_law 1128 = .ok (.invokevirtual 141, 3) := by decide +kernel
theorem dL_law_1131 : decode cL_law 1131 = .ok (.if_icmp .eq 412, 3) := by decide +kernel
theorem dL_law_1134 : decode cL_law 1134 = .ok (.iconst 0, 1) := by decide +kernel
theorem dL_law_1135 : decode cL_law 1135 = .ok (.ireturn, 1) := by decide +kernel
theorem dL_law_1136 : decode cL_law 1136 = .ok (.aload_n 1, 1) := by decide +kernel
theorem dL_law_1137 : decode cL_law 1137 = .ok (.aload_n 0, 1) := by decide +kernel
theorem dL_law_1138 : decode cL_law 1138 = .ok (.iload 4, 2) := by decide +kernel
theorem dL_law_1140 : decode cL_law 1140 = .ok (.iconst 1, 1) := by decide +kernel
theorem dL_law_1141 : decode cL_law 1141 = .ok (.iadd, 1) := by decide +kernel
theorem dL_law_1142 : decode cL_law 1142 = .ok (.iaload, 1) := by decide +kernel
theorem dL_law_1143 : decode cL_law 1143 = .ok (.aload_n 0, 1) := by decide +kernel
theorem dL_law_1144 : decode cL_law 1144 = .ok (.iload 4, 2) := by decide +kernel
theorem dL_law_1146 : decode cL_law 1146 = .ok (.iconst 2, 1) := by decide +kernel
theorem dL_law_1147 : decode cL_law 1147 = .ok (.iadd, 1) := by decide +kernel
theorem dL_law_1148 : decode cL_law 1148 = .ok (.iaload, 1) := by decide +kernel
theorem dL_law_1149 : decode cL_law 1149 = .ok (.invokevirtual 142, 3) := by decide +kernel
theorem dL_law_1152 : decode cL_law 1152 = .ok (.aload_n 2, 1) := by decide +kernel
theorem dL_law_1153 : decode cL_law 1153 = .ok (.aload_n 0, 1) := by decide +kernel
theorem dL_law_1154 : decode cL_law 1154 = .ok (.iload 4, 2) := by decide +kernel
theorem dL_law_1156 : decode cL_law 1156 = .ok (.iconst 1, 1) := by decide +kernel
theorem dL_law_1157 : decode cL_law 1157 = .ok (.iadd, 1) := by decide +kernel
theorem dL_law_1158 : decode cL_law 1158 = .ok (.iaload, 1) := by decide +kernel
theorem dL_law_1159 : decode cL_law 1159 = .ok (.aload_n 0, 1) := by decide +kernel
theorem dL_law_1160 : decode cL_law 1160 = .ok (.iload 4, 2) := by decide +kernel
theorem dL_law_1162 : decode cL_law 1162 = .ok (.iconst 2, 1) := by decide +kernel
theorem dL_law_1163 : decode cL_law 1163 = .ok (.iadd, 1) := by decide +kernel
theorem dL_law_1164 : decode cL_law 1164 = .ok (.iaload, 1) := by decide +kernel
theorem dL_law_1165 : decode cL_law 1165 = .ok (.invokevirtual 145, 3) := by decide +kernel
theorem dL_law_1168 : decode cL_law 1168 = .ok (.if_icmp .eq 375, 3) := by decide +kernel
theorem dL_law_1171 : decode cL_law 1171 = .ok (.iconst 0, 1) := by decide +kernel
theorem dL_law_1172 : decode cL_law 1172 = .ok (.ireturn, 1) := by decide +kernel
theorem dL_law_1173 : decode cL_law 1173 = .ok (.aload_n 1, 1) := by decide +kernel
theorem dL_law_1174 : decode cL_law 1174 = .ok (.aload_n 0, 1) := by decide +kernel
theorem dL_law_1175 : decode cL_law 1175 = .ok (.iload 4, 2) := by decide +kernel
theorem dL_law_1177 : decode cL_law 1177 = .ok (.iconst 1, 1) := by decide +kernel
theorem dL_law_1178 : decode cL_law 1178 = .ok (.iadd, 1) := by decide +kernel
theorem dL_law_1179 : decode cL_law 1179 = .ok (.iaload, 1) := by decide +kernel
theorem dL_law_1180 : decode cL_law 1180 = .ok (.aload_n 0, 1) := by decide +kernel
theorem dL_law_1181 : decode cL_law 1181 = .ok (.iload 4, 2) := by decide +kernel
theorem dL_law_1183 : decode cL_law 1183 = .ok (.iconst 2, 1) := by decide +kernel
theorem dL_law_1184 : decode cL_law 1184 = .ok (.iadd, 1) := by decide +kernel
theorem dL_law_1185 : decode cL_law 1185 = .ok (.iaload, 1) := by decide +kernel
theorem dL_law_1186 : decode cL_law 1186 = .ok (.aload_n 0, 1) := by decide +kernel
theorem dL_law_1187 : decode cL_law 1187 = .ok (.iload 4, 2) := by decide +kernel
theorem dL_law_1189 : decode cL_law 1189 = .ok (.iconst 3, 1) := by decide +kernel
theorem dL_law_1190 : decode cL_law 1190 = .ok (.iadd, 1) := by decide +kernel
theorem dL_law_1191 : decode cL_law 1191 = .ok (.iaload, 1) := by decide +kernel
theorem dL_law_1192 : decode cL_law 1192 = .ok (.aload_n 0, 1) := by decide +kernel
theorem dL_law_1193 : decode cL_law 1193 = .ok (.iload 4, 2) := by decide +kernel
theorem dL_law_1195 : decode cL_law 1195 = .ok (.iconst 4, 1) := by decide +kernel
theorem dL_law_1196 : decode cL_law 1196 = .ok (.iadd, 1) := by decide +kernel
theorem dL_law_1197 : decode cL_law 1197 = .ok (.iaload, 1) := by decide +kernel
theorem dL_law_1198 : decode cL_law 1198 = .ok (.invokevirtual 146, 3) := by decide +kernel
theorem dL_law_1201 : decode cL_law 1201 = .ok (.aload_n 2, 1) := by decide +kernel
theorem dL_law_1202 : decode cL_law 1202 = .ok (.aload_n 0, 1) := by decide +kernel
theorem dL_law_1203 : decode cL_law 1203 = .ok (.iload 4, 2) := by decide +kernel
theorem dL_law_1205 : decode cL_law 1205 = .ok (.iconst 1, 1) := by decide +kernel
theorem dL_law_1206 : decode cL_law 1206 = .ok (.iadd, 1) := by decide +kernel
theorem dL_law_1207 : decode cL_law 1207 = .ok (.iaload, 1) := by decide +kernel
theorem dL_law_1208 : decode cL_law 1208 = .ok (.aload_n 0, 1) := by decide +kernel
theorem dL_law_1209 : decode cL_law 1209 = .ok (.iload 4, 2) := by decide +kernel
theorem dL_law_1211 : decode cL_law 1211 = .ok (.iconst 2, 1) := by decide +kernel
theorem dL_law_1212 : decode cL_law 1212 = .ok (.iadd, 1) := by decide +kernel
theorem dL_law_1213 : decode cL_law 1213 = .ok (.iaload, 1) := by decide +kernel
theorem dL_law_1214 : decode cL_law 1214 = .ok (.aload_n 0, 1) := by decide +kernel
theorem dL_law_1215 : decode cL_law 1215 = .ok (.iload 4, 2) := by decide +kernel
theorem dL_law_1217 : decode cL_law 1217 = .ok (.iconst 3, 1) := by decide +kernel
theorem dL_law_1218 : decode cL_law 1218 = .ok (.iadd, 1) := by decide +kernel
theorem dL_law_1219 : decode cL_law 1219 = .ok (.iaload, 1) := by decide +kernel
theorem dL_law_1220 : decode cL_law 1220 = .ok (.aload_n 0, 1) := by decide +kernel
theorem dL_law_1221 : decode cL_law 1221 = .ok (.iload 4, 2) := by decide +kernel
theorem dL_law_1223 : decode cL_law 1223 = .ok (.iconst 4, 1) := by decide +kernel
theorem dL_law_1224 : decode cL_law 1224 = .ok (.iadd, 1) := by decide +kernel
theorem dL_law_1225 : decode cL_law 1225 = .ok (.iaload, 1) := by decide +kernel
theorem dL_law_1226 : decode cL_law 1226 = .ok (.invokevirtual 150, 3) := by decide +kernel
theorem dL_law_1229 : decode cL_law 1229 = .ok (.if_icmp .eq 314, 3) := by decide +kernel
theorem dL_law_1232 : decode cL_law 1232 = .ok (.iconst 0, 1) := by decide +kernel
theorem dL_law_1233 : decode cL_law 1233 = .ok (.ireturn, 1) := by decide +kernel
theorem dL_law_1234 : decode cL_law 1234 = .ok (.aload_n 1, 1) := by decide +kernel
theorem dL_law_1235 : decode cL_law 1235 = .ok (.aload_n 0, 1) := by decide +kernel
theorem dL_law_1236 : decode cL_law 1236 = .ok (.iload 4, 2) := by decide +kernel
theorem dL_law_1238 : decode cL_law 1238 = .ok (.iconst 1, 1) := by decide +kernel
theorem dL_law_1239 : decode cL_law 1239 = .ok (.iadd, 1) := by decide +kernel
theorem dL_law_1240 : decode cL_law 1240 = .ok (.iaload, 1) := by decide +kernel
theorem dL_law_1241 : decode cL_law 1241 = .ok (.aload_n 0, 1) := by decide +kernel
theorem dL_law_1242 : decode cL_law 1242 = .ok (.iload 4, 2) := by decide +kernel
theorem dL_law_1244 : decode cL_law 1244 = .ok (.iconst 2, 1) := by decide +kernel
theorem dL_law_1245 : decode cL_law 1245 = .ok (.iadd, 1) := by decide +kernel
theorem dL_law_1246 : decode cL_law 1246 = .ok (.iaload, 1) := by decide +kernel
theorem dL_law_1247 : decode cL_law 1247 = .ok (.aload_n 0, 1) := by decide +kernel
theorem dL_law_1248 : decode cL_law 1248 = .ok (.iload 4, 2) := by decide +kernel
theorem dL_law_1250 : decode cL_law 1250 = .ok (.iconst 3, 1) := by decide +kernel
theorem dL_law_1251 : decode cL_law 1251 = .ok (.iadd, 1) := by decide +kernel
theorem dL_law_1252 : decode cL_law 1252 = .ok (.iaload, 1) := by decide +kernel
theorem dL_law_1253 : decode cL_law 1253 = .ok (.invokevirtual 151, 3) := by decide +kernel
theorem dL_law_1256 : decode cL_law 1256 = .ok (.aload_n 2, 1) := by decide +kernel
theorem dL_law_1257 : decode cL_law 1257 = .ok (.aload_n 0, 1) := by decide +kernel
theorem dL_law_1258 : decode cL_law 1258 = .ok (.iload 4, 2) := by decide +kernel
theorem dL_law_1260 : decode cL_law 1260 = .ok (.iconst 1, 1) := by decide +kernel
theorem dL_law_1261 : decode cL_law 1261 = .ok (.iadd, 1) := by decide +kernel
theorem dL_law_1262 : decode cL_law 1262 = .ok (.iaload, 1) := by decide +kernel
theorem dL_law_1263 : decode cL_law 1263 = .ok (.aload_n 0, 1) := by decide +kernel
theorem dL_law_1264 : decode cL_law 1264 = .ok (.iload 4, 2) := by decide +kernel
theorem dL_law_1266 : decode cL_law 1266 = .ok (.iconst 2, 1) := by decide +kernel
theorem dL_law_1267 : decode cL_law 1267 = .ok (.iadd, 1) := by decide +kernel
theorem dL_law_1268 : decode cL_law 1268 = .ok (.iaload, 1) := by decide +kernel
theorem dL_law_1269 : decode cL_law 1269 = .ok (.aload_n 0, 1) := by decide +kernel
theorem dL_law_1270 : decode cL_law 1270 = .ok (.iload 4, 2) := by decide +kernel
theorem dL_law_1272 : decode cL_law 1272 = .ok (.iconst 3, 1) := by decide +kernel
theorem dL_law_1273 : decode cL_law 1273 = .ok (.iadd, 1) := by decide +kernel
theorem dL_law_1274 : decode cL_law 1274 = .ok (.iaload, 1) := by decide +kernel
theorem dL_law_1275 : decode cL_law 1275 = .ok (.invokevirtual 154, 3) := by decide +kernel
theorem dL_law_1278 : decode cL_law 1278 = .ok (.if_icmp .eq 265, 3) := by decide +kernel
theorem dL_law_1281 : decode cL_law 1281 = .ok (.iconst 0, 1) := by decide +kernel
theorem dL_law_1282 : decode cL_law 1282 = .ok (.ireturn, 1) := by decide +kernel
theorem dL_law_1283 : decode cL_law 1283 = .ok (.aload_n 1, 1) := by decide +kernel
theorem dL_law_1284 : decode cL_law 1284 = .ok (.aload_n 0, 1) := by decide +kernel
theorem dL_law_1285 : decode cL_law 1285 = .ok (.iload 4, 2) := by decide +kernel
theorem dL_law_1287 : decode cL_law 1287 = .ok (.iconst 1, 1) := by decide +kernel
theorem dL_law_1288 : decode cL_law 1288 = .ok (.iadd, 1) := by decide +kernel
theorem dL_law_1289 : decode cL_law 1289 = .ok (.iaload, 1) := by decide +kernel
theorem dL_law_1290 : decode cL_law 1290 = .ok (.aload_n 0, 1) := by decide +kernel
theorem dL_law_1291 : decode cL_law 1291 = .ok (.iload 4, 2) := by decide +kernel
theorem dL_law_1293 : decode cL_law 1293 = .ok (.iconst 2, 1) := by decide +kernel
theorem dL_law_1294 : decode cL_law 1294 = .ok (.iadd, 1) := by decide +kernel
theorem dL_law_1295 : decode cL_law 1295 = .ok (.iaload, 1) := by decide +kernel
theorem dL_law_1296 : decode cL_law 1296 = .ok (.invokevirtual 155, 3) := by decide +kernel
theorem dL_law_1299 : decode cL_law 1299 = .ok (.aload_n 2, 1) := by decide +kernel
theorem dL_law_1300 : decode cL_law 1300 = .ok (.aload_n 0, 1) := by decide +kernel
theorem dL_law_1301 : decode cL_law 1301 = .ok (.iload 4, 2) := by decide +kernel
theorem dL_law_1303 : decode cL_law 1303 = .ok (.iconst 1, 1) := by decide +kernel
theorem dL_law_1304 : decode cL_law 1304 = .ok (.iadd, 1) := by decide +kernel
theorem dL_law_1305 : decode cL_law 1305 = .ok (.iaload, 1) := by decide +kernel
theorem dL_law_1306 : decode cL_law 1306 = .ok (.aload_n 0, 1) := by decide +kernel
theorem dL_law_1307 : decode cL_law 1307 = .ok (.iload 4, 2) := by decide +kernel
theorem dL_law_1309 : decode cL_law 1309 = .ok (.iconst 2, 1) := by decide +kernel
theorem dL_law_1310 : decode cL_law 1310 = .ok (.iadd, 1) := by decide +kernel
theorem dL_law_1311 : decode cL_law 1311 = .ok (.iaload, 1) := by decide +kernel
theorem dL_law_1312 : decode cL_law 1312 = .ok (.invokevirtual 158, 3) := by decide +kernel
theorem dL_law_1315 : decode cL_law 1315 = .ok (.if_icmp .eq 228, 3) := by decide +kernel
theorem dL_law_1318 : decode cL_law 1318 = .ok (.iconst 0, 1) := by decide +kernel
theorem dL_law_1319 : decode cL_law 1319 = .ok (.ireturn, 1) := by decide +kernel
theorem dL_law_1320 : decode cL_law 1320 = .ok (.aload_n 1, 1) := by decide +kernel
theorem dL_law_1321 : decode cL_law 1321 = .ok (.aload_n 0, 1) := by decide +kernel
theorem dL_law_1322 : decode cL_law 1322 = .ok (.iload 4, 2) := by decide +kernel
theorem dL_law_1324 : decode cL_law 1324 = .ok (.iconst 1, 1) := by decide +kernel
theorem dL_law_1325 : decode cL_law 1325 = .ok (.iadd, 1) := by decide +kernel
theorem dL_law_1326 : decode cL_law 1326 = .ok (.iaload, 1) := by decide +kernel
theorem dL_law_1327 : decode cL_law 1327 = .ok (.aload_n 0, 1) := by decide +kernel
theorem dL_law_1328 : decode cL_law 1328 = .ok (.iload 4, 2) := by decide +kernel
theorem dL_law_1330 : decode cL_law 1330 = .ok (.iconst 2, 1) := by decide +kernel
theorem dL_law_1331 : decode cL_law 1331 = .ok (.iadd, 1) := by decide +kernel
theorem dL_law_1332 : decode cL_law 1332 = .ok (.iaload, 1) := by decide +kernel
theorem dL_law_1333 : decode cL_law 1333 = .ok (.aload_n 0, 1) := by decide +kernel
theorem dL_law_1334 : decode cL_law 1334 = .ok (.iload 4, 2) := by decide +kernel
theorem dL_law_1336 : decode cL_law 1336 = .ok (.iconst 3, 1) := by decide +kernel
theorem dL_law_1337 : decode cL_law 1337 = .ok (.iadd, 1) := by decide +kernel
theorem dL_law_1338 : decode cL_law 1338 = .ok (.iaload, 1) := by decide +kernel
theorem dL_law_1339 : decode cL_law 1339 = .ok (.aload_n 0, 1) := by decide +kernel
theorem dL_law_1340 : decode cL_law 1340 = .ok (.iload 4, 2) := by decide +kernel
theorem dL_law_1342 : decode cL_law 1342 = .ok (.iconst 4, 1) := by decide +kernel
theorem dL_law_1343 : decode cL_law 1343 = .ok (.iadd, 1) := by decide +kernel
theorem dL_law_1344 : decode cL_law 1344 = .ok (.iaload, 1) := by decide +kernel
theorem dL_law_1345 : decode cL_law 1345 = .ok (.invokevirtual 159, 3) := by decide +kernel
theorem dL_law_1348 : decode cL_law 1348 = .ok (.aload_n 2, 1) := by decide +kernel
theorem dL_law_1349 : decode cL_law 1349 = .ok (.aload_n 0, 1) := by decide +kernel
theorem dL_law_1350 : decode cL_law 1350 = .ok (.iload 4, 2) := by decide +kernel
theorem dL_law_1352 : decode cL_law 1352 = .ok (.iconst 1, 1) := by decide +kernel
theorem dL_law_1353 : decode cL_law 1353 = .ok (.iadd, 1) := by decide +kernel
theorem dL_law_1354 : decode cL_law 1354 = .ok (.iaload, 1) := by decide +kernel
theorem dL_law_1355 : decode cL_law 1355 = .ok (.aload_n 0, 1) := by decide +kernel
theorem dL_law_1356 : decode cL_law 1356 = .ok (.iload 4, 2) := by decide +kernel
theorem dL_law_1358 : decode cL_law 1358 = .ok (.iconst 2, 1) := by decide +kernel
theorem dL_law_1359 : decode cL_law 1359 = .ok (.iadd, 1) := by decide +kernel
theorem dL_law_1360 : decode cL_law 1360 = .ok (.iaload, 1) := by decide +kernel
theorem dL_law_1361 : decode cL_law 1361 = .ok (.aload_n 0, 1) := by decide +kernel
theorem dL_law_1362 : decode cL_law 1362 = .ok (.iload 4, 2) := by decide +kernel
theorem dL_law_1364 : decode cL_law 1364 = .ok (.iconst 3, 1) := by decide +kernel
theorem dL_law_1365 : decode cL_law 1365 = .ok (.iadd, 1) := by decide +kernel
theorem dL_law_1366 : decode cL_law 1366 = .ok (.iaload, 1) := by decide +kernel
theorem dL_law_1367 : decode cL_law 1367 = .ok (.aload_n 0, 1) := by decide +kernel
theorem dL_law_1368 : decode cL_law 1368 = .ok (.iload 4, 2) := by decide +kernel
theorem dL_law_1370 : decode cL_law 1370 = .ok (.iconst 4, 1) := by decide +kernel
theorem dL_law_1371 : decode cL_law 1371 = .ok (.iadd, 1) := by decide +kernel
theorem dL_law_1372 : decode cL_law 1372 = .ok (.iaload, 1) := by decide +kernel
theorem dL_law_1373 : decode cL_law 1373 = .ok (.invokevirtual 162, 3) := by decide +kernel
theorem dL_law_1376 : decode cL_law 1376 = .ok (.if_icmp .eq 167, 3) := by decide +kernel
theorem dL_law_1379 : decode cL_law 1379 = .ok (.iconst 0, 1) := by decide +kernel
theorem dL_law_1380 : decode cL_law 1380 = .ok (.ireturn, 1) := by decide +kernel
theorem dL_law_1381 : decode cL_law 1381 = .ok (.aload_n 1, 1) := by decide +kernel
theorem dL_law_1382 : decode cL_law 1382 = .ok (.aload_n 0, 1) := by decide +kernel
theorem dL_law_1383 : decode cL_law 1383 = .ok (.iload 4, 2) := by decide +kernel
theorem dL_law_1385 : decode cL_law 1385 = .ok (.iconst 1, 1) := by decide +kernel
theorem dL_law_1386 : decode cL_law 1386 = .ok (.iadd, 1) := by decide +kernel
theorem dL_law_1387 : decode cL_law 1387 = .ok (.iaload, 1) := by decide +kernel
theorem dL_law_1388 : decode cL_law 1388 = .ok (.aload_n 0, 1) := by decide +kernel
theorem dL_law_1389 : decode cL_law 1389 = .ok (.iload 4, 2) := by decide +kernel
theorem dL_law_1391 : decode cL_law 1391 = .ok (.iconst 2, 1) := by decide +kernel
theorem dL_law_1392 : decode cL_law 1392 = .ok (.iadd, 1) := by decide +kernel
theorem dL_law_1393 : decode cL_law 1393 = .ok (.iaload, 1) := by decide +kernel
theorem dL_law_1394 : decode cL_law 1394 = .ok (.invokevirtual 163, 3) := by decide +kernel
theorem dL_law_1397 : decode cL_law 1397 = .ok (.aload_n 2, 1) := by decide +kernel
theorem dL_law_1398 : decode cL_law 1398 = .ok (.aload_n 0, 1) := by decide +kernel
theorem dL_law_1399 : decode cL_law 1399 = .ok (.iload 4, 2) := by decide +kernel
theorem dL_law_1401 : decode cL_law 1401 = .ok (.iconst 1, 1) := by decide +kernel
theorem dL_law_1402 : decode cL_law 1402 = .ok (.iadd, 1) := by decide +kernel
theorem dL_law_1403 : decode cL_law 1403 = .ok (.iaload, 1) := by decide +kernel
theorem dL_law_1404 : decode cL_law 1404 = .ok (.aload_n 0, 1) := by decide +kernel
theorem dL_law_1405 : decode cL_law 1405 = .ok (.iload 4, 2) := by decide +kernel
theorem dL_law_1407 : decode cL_law 1407 = .ok (.iconst 2, 1) := by decide +kernel
theorem dL_law_1408 : decode cL_law 1408 = .ok (.iadd, 1) := by decide +kernel
theorem dL_law_1409 : decode cL_law 1409 = .ok (.iaload, 1) := by decide +kernel
theorem dL_law_1410 : decode cL_law 1410 = .ok (.invokevirtual 167, 3) := by decide +kernel
theorem dL_law_1413 : decode cL_law 1413 = .ok (.if_icmp .eq 130, 3) := by decide +kernel
theorem dL_law_1416 : decode cL_law 1416 = .ok (.iconst 0, 1) := by decide +kernel
theorem dL_law_1417 : decode cL_law 1417 = .ok (.ireturn, 1) := by decide +kernel
theorem dL_law_1418 : decode cL_law 1418 = .ok (.aload_n 1, 1) := by decide +kernel
theorem dL_law_1419 : decode cL_law 1419 = .ok (.aload_n 0, 1) := by decide +kernel
theorem dL_law_1420 : decode cL_law 1420 = .ok (.iload 4, 2) := by decide +kernel
theorem dL_law_1422 : decode cL_law 1422 = .ok (.iconst 1, 1) := by decide +kernel
theorem dL_law_1423 : decode cL_law 1423 = .ok (.iadd, 1) := by decide +kernel
theorem dL_law_1424 : decode cL_law 1424 = .ok (.iaload, 1) := by decide +kernel
theorem dL_law_1425 : decode cL_law 1425 = .ok (.aload_n 0, 1) := by decide +kernel
theorem dL_law_1426 : decode cL_law 1426 = .ok (.iload 4, 2) := by decide +kernel
theorem dL_law_1428 : decode cL_law 1428 = .ok (.iconst 2, 1) := by decide +kernel
theorem dL_law_1429 : decode cL_law 1429 = .ok (.iadd, 1) := by decide +kernel
theorem dL_law_1430 : decode cL_law 1430 = .ok (.iaload, 1) := by decide +kernel
theorem dL_law_1431 : decode cL_law 1431 = .ok (.invokevirtual 168, 3) := by decide +kernel
theorem dL_law_1434 : decode cL_law 1434 = .ok (.aload_n 2, 1) := by decide +kernel
theorem dL_law_1435 : decode cL_law 1435 = .ok (.aload_n 0, 1) := by decide +kernel
theorem dL_law_1436 : decode cL_law 1436 = .ok (.iload 4, 2) := by decide +kernel
theorem dL_law_1438 : decode cL_law 1438 = .ok (.iconst 1, 1) := by decide +kernel
theorem dL_law_1439 : decode cL_law 1439 = .ok (.iadd, 1) := by decide +kernel
theorem dL_law_1440 : decode cL_law 1440 = .ok (.iaload, 1) := by decide +kernel
theorem dL_law_1441 : decode cL_law 1441 = .ok (.aload_n 0, 1) := by decide +kernel
theorem dL_law_1442 : decode cL_law 1442 = .ok (.iload 4, 2) := by decide +kernel
theorem dL_law_1444 : decode cL_law 1444 = .ok (.iconst 2, 1) := by decide +kernel
theorem dL_law_1445 : decode cL_law 1445 = .ok (.iadd, 1) := by decide +kernel
theorem dL_law_1446 : decode cL_law 1446 = .ok (.iaload, 1) := by decide +kernel
theorem dL_law_1447 : decode cL_law 1447 = .ok (.invokevirtual 171, 3) := by decide +kernel
theorem dL_law_1450 : decode cL_law 1450 = .ok (.if_icmp .eq 93, 3) := by decide +kernel
theorem dL_law_1453 : decode cL_law 1453 = .ok (.iconst 0, 1) := by decide +kernel
theorem dL_law_1454 : decode cL_law 1454 = .ok (.ireturn, 1) := by decide +kernel
theorem dL_law_1455 : decode cL_law 1455 = .ok (.aload_n 1, 1) := by decide +kernel
theorem dL_law_1456 : decode cL_law 1456 = .ok (.aload_n 0, 1) := by decide +kernel
theorem dL_law_1457 : decode cL_law 1457 = .ok (.iload 4, 2) := by decide +kernel
theorem dL_law_1459 : decode cL_law 1459 = .ok (.iconst 1, 1) := by decide +kernel
theorem dL_law_1460 : decode cL_law 1460 = .ok (.iadd, 1) := by decide +kernel
theorem dL_law_1461 : decode cL_law 1461 = .ok (.iaload, 1) := by decide +kernel
theorem dL_law_1462 : decode cL_law 1462 = .ok (.aload_n 0, 1) := by decide +kernel
theorem dL_law_1463 : decode cL_law 1463 = .ok (.iload 4, 2) := by decide +kernel
theorem dL_law_1465 : decode cL_law 1465 = .ok (.iconst 2, 1) := by decide +kernel
theorem dL_law_1466 : decode cL_law 1466 = .ok (.iadd, 1) := by decide +kernel
theorem dL_law_1467 : decode cL_law 1467 = .ok (.iaload, 1) := by decide +kernel
theorem dL_law_1468 : decode cL_law 1468 = .ok (.invokevirtual 172, 3) := by decide +kernel
theorem dL_law_1471 : decode cL_law 1471 = .ok (.aload_n 2, 1) := by decide +kernel
theorem dL_law_1472 : decode cL_law 1472 = .ok (.aload_n 0, 1) := by decide +kernel
theorem dL_law_1473 : decode cL_law 1473 = .ok (.iload 4, 2) := by decide +kernel
theorem dL_law_1475 : decode cL_law 1475 = .ok (.iconst 1, 1) := by decide +kernel
theorem dL_law_1476 : decode cL_law 1476 = .ok (.iadd, 1) := by decide +kernel
theorem dL_law_1477 : decode cL_law 1477 = .ok (.iaload, 1) := by decide +kernel
theorem dL_law_1478 : decode cL_law 1478 = .ok (.aload_n 0, 1) := by decide +kernel
theorem dL_law_1479 : decode cL_law 1479 = .ok (.iload 4, 2) := by decide +kernel
theorem dL_law_1481 : decode cL_law 1481 = .ok (.iconst 2, 1) := by decide +kernel
theorem dL_law_1482 : decode cL_law 1482 = .ok (.iadd, 1) := by decide +kernel
theorem dL_law_1483 : decode cL_law 1483 = .ok (.iaload, 1) := by decide +kernel
theorem dL_law_1484 : decode cL_law 1484 = .ok (.invokevirtual 175, 3) := by decide +kernel
theorem dL_law_1487 : decode cL_law 1487 = .ok (.if_icmp .eq 56, 3) := by decide +kernel
theorem dL_law_1490 : decode cL_law 1490 = .ok (.iconst 0, 1) := by decide +kernel
theorem dL_law_1491 : decode cL_law 1491 = .ok (.ireturn, 1) := by decide +kernel
theorem dL_law_1492 : decode cL_law 1492 = .ok (.aload_n 1, 1) := by decide +kernel
theorem dL_law_1493 : decode cL_law 1493 = .ok (.invokevirtual 176, 3) := by decide +kernel
theorem dL_law_1496 : decode cL_law 1496 = .ok (.aload_n 2, 1) := by decide +kernel
theorem dL_law_1497 : decode cL_law 1497 = .ok (.invokevirtual 179, 3) := by decide +kernel
theorem dL_law_1500 : decode cL_law 1500 = .ok (.if_icmp .eq 43, 3) := by decide +kernel
theorem dL_law_1503 : decode cL_law 1503 = .ok (.iconst 0, 1) := by decide +kernel
theorem dL_law_1504 : decode cL_law 1504 = .ok (.ireturn, 1) := by decide +kernel
theorem dL_law_1505 : decode cL_law 1505 = .ok (.aload_n 1, 1) := by decide +kernel
theorem dL_law_1506 : decode cL_law 1506 = .ok (.invokevirtual 180, 3) := by decide +kernel
theorem dL_law_1509 : decode cL_law 1509 = .ok (.aload_n 2, 1) := by decide +kernel
theorem dL_law_1510 : decode cL_law 1510 = .ok (.invokevirtual 183, 3) := by decide +kernel
theorem dL_law_1513 : decode cL_law 1513 = .ok (.if_icmp .eq 30, 3) := by decide +kernel
theorem dL_law_1516 : decode cL_law 1516 = .ok (.iconst 0, 1) := by decide +kernel
theorem dL_law_1517 : decode cL_law 1517 = .ok (.ireturn, 1) := by decide +kernel
theorem dL_law_1518 : decode cL_law 1518 = .ok (.aload_n 1, 1) := by decide +kernel
theorem dL_law_1519 : decode cL_law 1519 = .ok (.aload_n 0, 1) := by decide +kernel
theorem dL_law_1520 : decode cL_law 1520 = .ok (.iload 4, 2) := by decide +kernel
theorem dL_law_1522 : decode cL_law 1522 = .ok (.iconst 1, 1) := by decide +kernel
theorem dL_law_1523 : decode cL_law 1523 = .ok (.iadd, 1) := by decide +kernel
theorem dL_law_1524 : decode cL_law 1524 = .ok (.iaload, 1) := by decide +kernel
theorem dL_law_1525 : decode cL_law 1525 = .ok (.invokevirtual 184, 3) := by decide +kernel
theorem dL_law_1528 : decode cL_law 1528 = .ok (.aload_n 2, 1) := by decide +kernel
theorem dL_law_1529 : decode cL_law 1529 = .ok (.aload_n 0, 1) := by decide +kernel
theorem dL_law_1530 : decode cL_law 1530 = .ok (.iload 4, 2) := by decide +kernel
theorem dL_law_1532 : decode cL_law 1532 = .ok (.iconst 1, 1) := by decide +kernel
theorem dL_law_1533 : decode cL_law 1533 = .ok (.iadd, 1) := by decide +kernel
theorem dL_law_1534 : decode cL_law 1534 = .ok (.iaload, 1) := by decide +kernel
theorem dL_law_1535 : decode cL_law 1535 = .ok (.invokevirtual 187, 3) := by decide +kernel
theorem dL_law_1538 : decode cL_law 1538 = .ok (.if_icmp .eq 5, 3) := by decide +kernel
theorem dL_law_1541 : decode cL_law 1541 = .ok (.iconst 0, 1) := by decide +kernel
theorem dL_law_1542 : decode cL_law 1542 = .ok (.ireturn, 1) := by decide +kernel
theorem dL_law_1543 : decode cL_law 1543 = .ok (.iinc 4 6, 3) := by decide +kernel
theorem dL_law_1546 : decode cL_law 1546 = .ok (.goto (-1523), 3) := by decide +kernel
theorem dL_law_1549 : decode cL_law 1549 = .ok (.iconst 1, 1) := by decide +kernel
theorem dL_law_1550 : decode cL_law 1550 = .ok (.ireturn, 1) := by decide +kernel
