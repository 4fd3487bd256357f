theorem dX4_bar_46 : decode cX4_bar 46 = .ok (.invokestatic 53, 3) := by decide +kernel
theorem dX4_bar_49 : decode cX4_bar 49 = .ok (.ifCond .eq 7, 3) := by decide +kernel
theorem dX4_bar_52 : decode cX4_bar 52 = .ok (.iconst 1, 1) := by decide +kernel
theorem dX4_bar_53 : decode cX4_bar 53 = .ok (.goto 4, 3) := by decide +kernel
theorem dX4_bar_56 : decode cX4_bar 56 = .ok (.iconst 0, 1) := by decide +kernel
theorem dX4_bar_57 : decode cX4_bar 57 = .ok (.ireturn, 1) := by decide +kernel
theorem dX4_layNear_0 : decode cX4_layNear 0 = .ok (.iconst 0, 1) := by decide +kernel
theorem dX4_layNear_1 : decode cX4_layNear 1 = .ok (.istore_n 3, 1) := by decide +kernel
theorem dX4_layNear_2 : decode cX4_layNear 2 = .ok (.iload_n 3, 1) := by decide +kernel
theorem dX4_layNear_3 : decode cX4_layNear 3 = .ok (.aload_n 0, 1) := by decide +kernel
theorem dX4_layNear_4 : decode cX4_layNear 4 = .ok (.getfield 18, 3) := by decide +kernel
theorem dX4_layNear_7 : decode cX4_layNear 7 = .ok (.arraylength, 1) := by decide +kernel
theorem dX4_layNear_8 : decode cX4_layNear 8 = .ok (.if_icmp .ge 16, 3) := by decide +kernel
theorem dX4_layNear_11 : decode cX4_layNear 11 = .ok (.aload_n 0, 1) := by decide +kernel
theorem dX4_layNear_12 : decode cX4_layNear 12 = .ok (.getfield 18, 3) := by decide +kernel
theorem dX4_layNear_15 : decode cX4_layNear 15 = .ok (.iload_n 3, 1) := by decide +kernel
theorem dX4_layNear_16 : decode cX4_layNear 16 = .ok (.iconst 0, 1) := by decide +kernel
theorem dX4_layNear_17 : decode cX4_layNear 17 = .ok (.iastore, 1) := by decide +kernel
theorem dX4_layNear_18 : decode cX4_layNear 18 = .ok (.iinc 3 1, 3) := by decide +kernel
theorem dX4_layNear_21 : decode cX4_layNear 21 = .ok (.goto (-19), 3) := by decide +kernel
theorem dX4_layNear_24 : decode cX4_layNear 24 = .ok (.aload_n 0, 1) := by decide +kernel
theorem dX4_layNear_25 : decode cX4_layNear 25 = .ok (.iload_n 1, 1) := by decide +kernel
theorem dX4_layNear_26 : decode cX4_layNear 26 = .ok (.invokevirtual 44, 3) := by decide +kernel
theorem dX4_layNear_29 : decode cX4_layNear 29 = .ok (.iconst 1, 1) := by decide +kernel
theorem dX4_layNear_30 : decode cX4_layNear 30 = .ok (.isub, 1) := by decide +kernel
theorem dX4_layNear_31 : decode cX4_layNear 31 = .ok (.istore_n 3, 1) := by decide +kernel
theorem dX4_layNear_32 : decode cX4_layNear 32 = .ok (.iconst 0, 1) := by decide +kernel
theorem dX4_layNear_33 : decode cX4_layNear 33 = .ok (.istore 4, 2) := by decide +kernel
theorem dX4_layNear_35 : decode cX4_layNear 35 = .ok (.iload 4, 2) := by decide +kernel
theorem dX4_layNear_37 : decode cX4_layNear 37 = .ok (.iload_n 3, 1) := by decide +kernel
theorem dX4_layNear_38 : decode cX4_layNear 38 = .ok (.if_icmp .gt 111, 3) := by decide +kernel
theorem dX4_layNear_41 : decode cX4_layNear 41 = .ok (.iconst 0, 1) := by decide +kernel
theorem dX4_layNear_42 : decode cX4_layNear 42 = .ok (.istore 5, 2) := by decide +kernel
theorem dX4_layNear_44 : decode cX4_layNear 44 = .ok (.iload_n 3, 1) := by decide +kernel
theorem dX4_layNear_45 : decode cX4_layNear 45 = .ok (.iload 4, 2) := by decide +kernel
theorem dX4_layNear_47 : decode cX4_layNear 47 = .ok (.iload_n 2, 1) := by decide +kernel
theorem dX4_layNear_48 : decode cX4_layNear 48 = .ok (.iadd, 1) := by decide +kernel
theorem dX4_layNear_49 : decode cX4_layNear 49 = .ok (.invokestatic 66, 3) := by decide +kernel
theorem dX4_layNear_52 : decode cX4_layNear 52 = .ok (.istore 6, 2) := by decide +kernel
theorem dX4_layNear_54 : decode cX4_layNear 54 = .ok (.iconst 0, 1) := by decide +kernel
theorem dX4_layNear_55 : decode cX4_layNear 55 = .ok (.iload 4, 2) := by decide +kernel
theorem dX4_layNear_57 : decode cX4_layNear 57 = .ok (.iload_n 2, 1) := by decide +kernel
theorem dX4_layNear_58 : decode cX4_layNear 58 = .ok (.isub, 1) := by decide +kernel
theorem dX4_layNear_59 : decode cX4_layNear 59 = .ok (.invokestatic 71, 3) := by decide +kernel
theorem dX4_layNear_62 : decode cX4_layNear 62 = .ok (.istore 7, 2) := by decide +kernel
theorem dX4_layNear_64 : decode cX4_layNear 64 = .ok (.iload 7, 2) := by decide +kernel
theorem dX4_layNear_66 : decode cX4_layNear 66 = .ok (.iload 6, 2) := by decide +kernel
theorem dX4_layNear_68 : decode cX4_layNear 68 = .ok (.if_icmp .gt 21, 3) := by decide +kernel
theorem dX4_layNear_71 : decode cX4_layNear 71 = .ok (.iload 5, 2) := by decide +kernel
theorem dX4_layNear_73 : decode cX4_layNear 73 = .ok (.aload_n 0, 1) := by decide +kernel
theorem dX4_layNear_74 : decode cX4_layNear 74 = .ok (.iload_n 1, 1) := by decide +kernel
theorem dX4_layNear_75 : decode cX4_layNear 75 = .ok (.iload 7, 2) := by decide +kernel
theorem dX4_layNear_77 : decode cX4_layNear 77 = .ok (.invokevirtual 47, 3) := by decide +kernel
theorem dX4_layNear_80 : decode cX4_layNear 80 = .ok (.ior, 1) := by decide +kernel
theorem dX4_layNear_81 : decode cX4_layNear 81 = .ok (.istore 5, 2) := by decide +kernel
theorem dX4_layNear_83 : decode cX4_layNear 83 = .ok (.iinc 7 1, 3) := by decide +kernel
theorem dX4_layNear_86 : decode cX4_layNear 86 = .ok (.goto (-22), 3) := by decide +kernel
theorem dX4_layNear_89 : decode cX4_layNear 89 = .ok (.aload_n 0, 1) := by decide +kernel
theorem dX4_layNear_90 : decode cX4_layNear 90 = .ok (.iload_n 1, 1) := by decide +kernel
theorem dX4_layNear_91 : decode cX4_layNear 91 = .ok (.iload 4, 2) := by decide +kernel
theorem dX4_layNear_93 : decode cX4_layNear 93 = .ok (.invokevirtual 47, 3) := by decide +kernel
theorem dX4_layNear_96 : decode cX4_layNear 96 = .ok (.istore 7, 2) := by decide +kernel
theorem dX4_layNear_98 : decode cX4_layNear 98 = .ok (.iconst 0, 1) := by decide +kernel
theorem dX4_layNear_99 : decode cX4_layNear 99 = .ok (.istore 8, 2) := by decide +kernel
theorem dX4_layNear_101 : decode cX4_layNear 101 = .ok (.iload 8, 2) := by decide +kernel
theorem dX4_layNear_103 : decode cX4_layNear 103 = .ok (.aload_n 0, 1) := by decide +kernel
theorem dX4_layNear_104 : decode cX4_layNear 104 = .ok (.getfield 18, 3) := by decide +kernel
theorem dX4_layNear_107 : decode cX4_layNear 107 = .ok (.arraylength, 1) := by decide +kernel
theorem dX4_layNear_108 : decode cX4_layNear 108 = .ok (.if_icmp .ge 35, 3) := by decide +kernel
theorem dX4_layNear_111 : decode cX4_layNear 111 = .ok (.aload_n 0, 1) := by decide +kernel
theorem dX4_layNear_112 : decode cX4_layNear 112 = .ok (.getfield 18, 3) := by decide +kernel
theorem dX4_layNear_115 : decode cX4_layNear 115 = .ok (.iload 8, 2) := by decide +kernel
theorem dX4_layNear_117 : decode cX4_layNear 117 = .ok (.dup2, 1) := by decide +kernel
theorem dX4_layNear_118 : decode cX4_layNear 118 = .ok (.iaload, 1) := by decide +kernel
theorem dX4_layNear_119 : decode cX4_layNear 119 = .ok (.iload 8, 2) := by decide +kernel
theorem dX4_layNear_121 : decode cX4_layNear 121 = .ok (.iload 7, 2) := by decide +kernel
theorem dX4_layNear_123 : decode cX4_layNear 123 = .ok (.invokestatic 53, 3) := by decide +kernel
theorem dX4_layNear_126 : decode cX4_layNear 126 = .ok (.ifCond .eq 8, 3) := by decide +kernel
theorem dX4_layNear_129 : decode cX4_layNear 129 = .ok (.iload 5, 2) := by decide +kernel
theorem dX4_layNear_131 : decode cX4_layNear 131 = .ok (.goto 4, 3) := by decide +kernel
theorem dX4_layNear_134 : decode cX4_layNear 134 = .ok (.iconst 0, 1) := by decide +kernel
theorem dX4_layNear_135 : decode cX4_layNear 135 = .ok (.ior, 1) := by decide +kernel
theorem dX4_layNear_136 : decode cX4_layNear 136 = .ok (.iastore, 1) := by decide +kernel
theorem dX4_layNear_137 : decode cX4_layNear 137 = .ok (.iinc 8 1, 3) := by decide +kernel
theorem dX4_layNear_140 : decode cX4_layNear 140 = .ok (.goto (-39), 3) := by decide +kernel
theorem dX4_layNear_143 : decode cX4_layNear 143 = .ok (.iinc 4 1, 3) := by decide +kernel
theorem dX4_layNear_146 : decode cX4_layNear 146 = .ok (.goto (-111), 3) := by decide +kernel
theorem dX4_layNear_149 : decode cX4_layNear 149 = .ok (.return_, 1) := by decide +kernel
theorem dX4_layClashes_0 : decode cX4_layClashes 0 = .ok (.aload_n 0, 1) := by decide +kernel
theorem dX4_layClashes_1 : decode cX4_layClashes 1 = .ok (.iload_n 1, 1) := by decide +kernel
theorem dX4_layClashes_2 : decode cX4_layClashes 2 = .ok (.iload_n 2, 1) := by decide +kernel
theorem dX4_layClashes_3 : decode cX4_layClashes 3 = .ok (.invokevirtual 62, 3) := by decide +kernel
theorem dX4_layClashes_6 : decode cX4_layClashes 6 = .ok (.iconst 0, 1) := by decide +kernel
theorem dX4_layClashes_7 : decode cX4_layClashes 7 = .ok (.istore_n 3, 1) := by decide +kernel
theorem dX4_layClashes_8 : decode cX4_layClashes 8 = .ok (.iload_n 3, 1) := by decide +kernel
theorem dX4_layClashes_9 : decode cX4_layClashes 9 = .ok (.aload_n 0, 1) := by decide +kernel
theorem dX4_layClashes_10 : decode cX4_layClashes 10 = .ok (.getfield 18, 3) := by decide +kernel
theorem dX4_layClashes_13 : decode cX4_layClashes 13 = .ok (.arraylength, 1) := by decide +kernel
theorem dX4_layClashes_14 : decode cX4_layClashes 14 = .ok (.if_icmp .ge 55, 3) := by decide +kernel
theorem dX4_layClashes_17 : decode cX4_layClashes 17 = .ok (.iload_n 3, 1) := by decide +kernel
theorem dX4_layClashes_18 : decode cX4_layClashes 18 = .ok (.aload_n 0, 1) := by decide +kernel
theorem dX4_layClashes_19 : decode cX4_layClashes 19 = .ok (.getfield 21, 3) := by decide +kernel
theorem dX4_layClashes_22 : decode cX4_layClashes 22 = .ok (.arraylength, 1) := by decide +kernel
theorem dX4_layClashes_23 : decode cX4_layClashes 23 = .ok (.if_icmp .ge 46, 3) := by decide +kernel
theorem dX4_layClashes_26 : decode cX4_layClashes 26 = .ok (.aload_n 0, 1) := by decide +kernel
theorem dX4_layClashes_27 : decode cX4_layClashes 27 = .ok (.getfield 21, 3) := by decide +kernel
theorem dX4_layClashes_30 : decode cX4_layClashes 30 = .ok (.iload_n 3, 1) := by decide +kernel
theorem dX4_layClashes_31 : decode cX4_layClashes 31 = .ok (.aload_n 0, 1) := by decide +kernel
theorem dX4_layClashes_32 : decode cX4_layClashes 32 = .ok (.getfield 18, 3) := by decide +kernel
theorem dX4_layClashes_35 : decode cX4_layClashes 35 = .ok (.iload_n 3, 1) := by decide +kernel
theorem dX4_layClashes_36 : decode cX4_layClashes 36 = .ok (.iaload, 1) := by decide +kernel
theorem dX4_layClashes_37 : decode cX4_layClashes 37 = .ok (.iload_n 3, 1) := by decide +kernel
theorem dX4_layClashes_38 : decode cX4_layClashes 38 = .ok (.aload_n 0, 1) := by decide +kernel
theorem dX4_layClashes_39 : decode cX4_layClashes 39 = .ok (.getfield 31, 3) := by decide +kernel
theorem dX4_layClashes_42 : decode cX4_layClashes 42 = .ok (.invokestatic 53, 3) := by decide +kernel
theorem dX4_layClashes_45 : decode cX4_layClashes 45 = .ok (.ifCond .eq 12, 3) := by decide +kernel
theorem dX4_layClashes_48 : decode cX4_layClashes 48 = .ok (.aload_n 0, 1) := by decide +kernel
theorem dX4_layClashes_49 : decode cX4_layClashes 49 = .ok (.getfield 31, 3) := by decide +kernel
theorem dX4_layClashes_52 : decode cX4_layClashes 52 = .ok (.iconst (-1), 1) := by decide +kernel
theorem dX4_layClashes_53 : decode cX4_layClashes 53 = .ok (.ixor, 1) := by decide +kernel
theorem dX4_layClashes_54 : decode cX4_layClashes 54 = .ok (.goto 7, 3) := by decide +kernel
theorem dX4_layClashes_57 : decode cX4_layClashes 57 = .ok (.aload_n 0, 1) := by decide +kernel
theorem dX4_layClashes_58 : decode cX4_layClashes 58 = .ok (.getfield 31, 3) := by decide +kernel
theorem dX4_layClashes_61 : decode cX4_layClashes 61 = .ok (.ior, 1) := by decide +kernel
theorem dX4_layClashes_62 : decode cX4_layClashes 62 = .ok (.iastore, 1) := by decide +kernel
theorem dX4_layClashes_63 : decode cX4_layClashes 63 = .ok (.iinc 3 1, 3) := by decide +kernel
theorem dX4_layClashes_66 : decode cX4_layClashes 66 = .ok (.goto (-58), 3) := by decide +kernel
theorem dX4_layClashes_69 : decode cX4_layClashes 69 = .ok (.return_, 1) := by decide +kernel
theorem dX4_dressAll_0 : decode cX4_dressAll 0 = .ok (.aload_n 0, 1) := by decide +kernel
theorem dX4_dressAll_1 : decode cX4_dressAll 1 = .ok (.iload_n 1, 1) := by decide +kernel
theorem dX4_dressAll_2 : decode cX4_dressAll 2 = .ok (.iload_n 2, 1) := by decide +kernel
theorem dX4_dressAll_3 : decode cX4_dressAll 3 = .ok (.invokevirtual 74, 3) := by decide +kernel
theorem dX4_dressAll_6 : decode cX4_dressAll 6 = .ok (.aload_n 0, 1) := by decide +kernel
theorem dX4_dressAll_7 : decode cX4_dressAll 7 = .ok (.aload_n 0, 1) := by decide +kernel
theorem dX4_dressAll_8 : decode cX4_dressAll 8 = .ok (.iload_n 1, 1) := by decide +kernel
theorem dX4_dressAll_9 : decode cX4_dressAll 9 = .ok (.invokevirtual 50, 3) := by decide +kernel
theorem dX4_dressAll_12 : decode cX4_dressAll 12 = .ok (.invokevirtual 77, 3) := by decide +kernel
theorem dX4_dressAll_15 : decode cX4_dressAll 15 = .ok (.ireturn, 1) := by decide +kernel
theorem dX4_coatOf_0 : decode cX4_coatOf 0 = .ok (.iload_n 1, 1) := by decide +kernel
theorem dX4_coatOf_1 : decode cX4_coatOf 1 = .ok (.ifCond .lt 21, 3) := by decide +kernel
theorem dX4_coatOf_4 : decode cX4_coatOf 4 = .ok (.iload_n 1, 1) := by decide +kernel
theorem dX4_coatOf_5 : decode cX4_coatOf 5 = .ok (.aload_n 0, 1) := by decide +kernel
theorem dX4_coatOf_6 : decode cX4_coatOf 6 = .ok (.getfield 24, 3) := by decide +kernel
theorem dX4_coatOf_9 : decode cX4_coatOf 9 = .ok (.arraylength, 1) := by decide +kernel
theorem dX4_coatOf_10 : decode cX4_coatOf 10 = .ok (.if_icmp .ge 12, 3) := by decide +kernel
theorem dX4_coatOf_13 : decode cX4_coatOf 13 = .ok (.aload_n 0, 1) := by decide +kernel
theorem dX4_coatOf_14 : decode cX4_coatOf 14 = .ok (.getfield 24, 3) := by decide +kernel
theorem dX4_coatOf_17 : decode cX4_coatOf 17 = .ok (.iload_n 1, 1) := by decide +kernel
theorem dX4_coatOf_18 : decode cX4_coatOf 18 = .ok (.iaload, 1) := by decide +kernel
theorem dX4_coatOf_19 : decode cX4_coatOf 19 = .ok (.goto 4, 3) := by decide +kernel
theorem dX4_coatOf_22 : decode cX4_coatOf 22 = .ok (.iconst (-1), 1) := by decide +kernel
theorem dX4_coatOf_23 : decode cX4_coatOf 23 = .ok (.ireturn, 1) := by decide +kernel
theorem dX4_suffice_0 : decode cX4_suffice 0 = .ok (.aload_n 0, 1) := by decide +kernel
theorem dX4_suffice_1 : decode cX4_suffice 1 = .ok (.iload_n 1, 1) := by decide +kernel
theorem dX4_suffice_2 : decode cX4_suffice 2 = .ok (.iload_n 2, 1) := by decide +kernel
theorem dX4_suffice_3 : decode cX4_suffice 3 = .ok (.invokevirtual 74, 3) := by decide +kernel
theorem dX4_suffice_6 : decode cX4_suffice 6 = .ok (.aload_n 0, 1) := by decide +kernel
theorem dX4_suffice_7 : decode cX4_suffice 7 = .ok (.iload_n 1, 1) := by decide +kernel
theorem dX4_suffice_8 : decode cX4_suffice 8 = .ok (.invokevirtual 50, 3) := by decide +kernel
theorem dX4_suffice_11 : decode cX4_suffice 11 = .ok (.istore 5, 2) := by decide +kernel
theorem dX4_suffice_13 : decode cX4_suffice 13 = .ok (.aload_n 0, 1) := by decide +kernel
theorem dX4_suffice_14 : decode cX4_suffice 14 = .ok (.iload 5, 2) := by decide +kernel
theorem dX4_suffice_16 : decode cX4_suffice 16 = .ok (.aload_n 0, 1) := by decide +kernel
theorem dX4_suffice_17 : decode cX4_suffice 17 = .ok (.getfield 31, 3) := by decide +kernel
theorem dX4_suffice_20 : decode cX4_suffice 20 = .ok (.iconst (-1), 1) := by decide +kernel
theorem dX4_suffice_21 : decode cX4_suffice 21 = .ok (.ixor, 1) := by decide +kernel
theorem dX4_suffice_22 : decode cX4_suffice 22 = .ok (.iand, 1) := by decide +kernel
theorem dX4_suffice_23 : decode cX4_suffice 23 = .ok (.invokevirtual 77, 3) := by decide +kernel
theorem dX4_suffice_26 : decode cX4_suffice 26 = .ok (.iload_n 3, 1) := by decide +kernel
theorem dX4_suffice_27 : decode cX4_suffice 27 = .ok (.if_icmp .gt 23, 3) := by decide +kernel
theorem dX4_suffice_30 : decode cX4_suffice 30 = .ok (.aload_n 0, 1) := by decide +kernel
theorem dX4_suffice_31 : decode cX4_suffice 31 = .ok (.iload 5, 2) := by decide +kernel
theorem dX4_suffice_33 : decode cX4_suffice 33 = .ok (.aload_n 0, 1) := by decide +kernel
theorem dX4_suffice_34 : decode cX4_suffice 34 = .ok (.getfield 31, 3) := by decide +kernel
theorem dX4_suffice_37 : decode cX4_suffice 37 = .ok (.iand, 1) := by decide +kernel
theorem dX4_suffice_38 : decode cX4_suffice 38 = .ok (.invokevirtual 77, 3) := by decide +kernel
theorem dX4_suffice_41 : decode cX4_suffice 41 = .ok (.iload 4, 2) := by decide +kernel
theorem dX4_suffice_43 : decode cX4_suffice 43 = .ok (.if_icmp .gt 7, 3) := by decide +kernel
theorem dX4_suffice_46 : decode cX4_suffice 46 = .ok (.iconst 1, 1) := by decide +kernel
theorem dX4_suffice_47 : decode cX4_suffice 47 = .ok (.goto 4, 3) := by decide +kernel
theorem dX4_suffice_50 : decode cX4_suffice 50 = .ok (.iconst 0, 1) := by decide +kernel
theorem dX4_suffice_51 : decode cX4_suffice 51 = .ok (.ireturn, 1) := by decide +kernel
theorem dX4_fewestCoats_0 : decode cX4_fewestCoats 0 = .ok (.iconst 0, 1) := by decide +kernel
theorem dX4_fewestCoats_1 : decode cX4_fewestCoats 1 = .ok (.istore_n 2, 1) := by decide +kernel
theorem dX4_fewestCoats_2 : decode cX4_fewestCoats 2 = .ok (.iload_n 2, 1) := by decide +kernel
theorem dX4_fewestCoats_3 : decode cX4_fewestCoats 3 = .ok (.bipush 10, 2) := by decide +kernel
theorem dX4_fewestCoats_5 : decode cX4_fewestCoats 5 = .ok (.if_icmp .gt 29, 3) := by decide +kernel
theorem dX4_fewestCoats_8 : decode cX4_fewestCoats 8 = .ok (.aload_n 0, 1) := by decide +kernel
theorem dX4_fewestCoats_9 : decode cX4_fewestCoats 9 = .ok (.getfield 21, 3) := by decide +kernel
theorem dX4_fewestCoats_12 : decode cX4_fewestCoats 12 = .ok (.aload_n 0, 1) := by decide +kernel
theorem dX4_fewestCoats_13 : decode cX4_fewestCoats 13 = .ok (.getfield 24, 3) := by decide +kernel
theorem dX4_fewestCoats_16 : decode cX4_fewestCoats 16 = .ok (.iload_n 1, 1) := by decide +kernel
theorem dX4_fewestCoats_17 : decode cX4_fewestCoats 17 = .ok (.iconst 0, 1) := by decide +kernel
theorem dX4_fewestCoats_18 : decode cX4_fewestCoats 18 = .ok (.iconst 0, 1) := by decide +kernel
theorem dX4_fewestCoats_19 : decode cX4_fewestCoats 19 = .ok (.iload_n 2, 1) := by decide +kernel
theorem dX4_fewestCoats_20 : decode cX4_fewestCoats 20 = .ok (.invokestatic 80, 3) := by decide +kernel
theorem dX4_fewestCoats_23 : decode cX4_fewestCoats 23 = .ok (.ifCond .eq 5, 3) := by decide +kernel
theorem dX4_fewestCoats_26 : decode cX4_fewestCoats 26 = .ok (.iload_n 2, 1) := by decide +kernel
theorem dX4_fewestCoats_27 : decode cX4_fewestCoats 27 = .ok (.ireturn, 1) := by decide +kernel
theorem dX4_fewestCoats_28 : decode cX4_fewestCoats 28 = .ok (.iinc 2 1, 3) := by decide +kernel
theorem dX4_fewestCoats_31 : decode cX4_fewestCoats 31 = .ok (.goto (-29), 3) := by decide +kernel
theorem dX4_fewestCoats_34 : decode cX4_fewestCoats 34 = .ok (.iconst (-1), 1) := by decide +kernel
theorem dX4_fewestCoats_35 : decode cX4_fewestCoats 35 = .ok (.ireturn, 1) := by decide +kernel
theorem dX4_dress_0 : decode cX4_dress 0 = .ok (.iload_n 3, 1) := by decide +kernel
theorem dX4_dress_1 : decode cX4_dress 1 = .ok (.aload_n 1, 1) := by decide +kernel
theorem dX4_dress_2 : decode cX4_dress 2 = .ok (.arraylength, 1) := by decide +kernel
theorem dX4_dress_3 : decode cX4_dress 3 = .ok (.if_icmp .ge 9, 3) := by decide +kernel
theorem dX4_dress_6 : decode cX4_dress 6 = .ok (.iload_n 3, 1) := by decide +kernel
theorem dX4_dress_7 : decode cX4_dress 7 = .ok (.aload_n 0, 1) := by decide +kernel
theorem dX4_dress_8 : decode cX4_dress 8 = .ok (.arraylength, 1) := by decide +kernel
theorem dX4_dress_9 : decode cX4_dress 9 = .ok (.if_icmp .lt 5, 3) := by decide +kernel
theorem dX4_dress_12 : decode cX4_dress 12 = .ok (.iconst 1, 1) := by decide +kernel
theorem dX4_dress_13 : decode cX4_dress 13 = .ok (.ireturn, 1) := by decide +kernel
theorem dX4_dress_14 : decode cX4_dress 14 = .ok (.iload_n 3, 1) := by decide +kernel
theorem dX4_dress_15 : decode cX4_dress 15 = .ok (.iload_n 2, 1) := by decide +kernel
theorem dX4_dress_16 : decode cX4_dress 16 = .ok (.invokestatic 53, 3) := by decide +kernel
theorem dX4_dress_19 : decode cX4_dress 19 = .ok (.ifCond .ne 17, 3) := by decide +kernel
theorem dX4_dress_22 : decode cX4_dress 22 = .ok (.aload_n 0, 1) := by decide +kernel
theorem dX4_dress_23 : decode cX4_dress 23 = .ok (.aload_n 1, 1) := by decide +kernel
theorem dX4_dress_24 : decode cX4_dress 24 = .ok (.iload_n 2, 1) := by decide +kernel
theorem dX4_dress_25 : decode cX4_dress 25 = .ok (.iload_n 3, 1) := by decide +kernel
theorem dX4_dress_26 : decode cX4_dress 26 = .ok (.iconst 1, 1) := by decide +kernel
theorem dX4_dress_27 : decode cX4_dress 27 = .ok (.iadd, 1) := by decide +kernel
theorem dX4_dress_28 : decode cX4_dress 28 = .ok (.iload 4, 2) := by decide +kernel
theorem dX4_dress_30 : decode cX4_dress 30 = .ok (.iload 5, 2) := by decide +kernel
theorem dX4_dress_32 : decode cX4_dress 32 = .ok (.invokestatic 80, 3) := by decide +kernel
theorem dX4_dress_35 : decode cX4_dress 35 = .ok (.ireturn, 1) := by decide +kernel
theorem dX4_dress_36 : decode cX4_dress 36 = .ok (.iconst 0, 1) := by decide +kernel
theorem dX4_dress_37 : decode cX4_dress 37 = .ok (.istore 6, 2) := by decide +kernel
theorem dX4_dress_39 : decode cX4_dress 39 = .ok (.iload 6, 2) := by decide +kernel
theorem dX4_dress_41 : decode cX4_dress 41 = .ok (.iload 4, 2) := by decide +kernel
theorem dX4_dress_43 : decode cX4_dress 43 = .ok (.if_icmp .gt 61, 3) := by decide +kernel
theorem dX4_dress_46 : decode cX4_dress 46 = .ok (.iload 6, 2) := by decide +kernel
theorem dX4_dress_48 : decode cX4_dress 48 = .ok (.iload 5, 2) := by decide +kernel
theorem dX4_dress_50 : decode cX4_dress 50 = .ok (.if_icmp .ge 54, 3) := by decide +kernel
theorem dX4_dress_53 : decode cX4_dress 53 = .ok (.aload_n 1, 1) := by decide +kernel
theorem dX4_dress_54 : decode cX4_dress 54 = .ok (.iload_n 2, 1) := by decide +kernel
theorem dX4_dress_55 : decode cX4_dress 55 = .ok (.aload_n 0, 1) := by decide +kernel
theorem dX4_dress_56 : decode cX4_dress 56 = .ok (.iload_n 3, 1) := by decide +kernel
theorem dX4_dress_57 : decode cX4_dress 57 = .ok (.iaload, 1) := by decide +kernel
theorem dX4_dress_58 : decode cX4_dress 58 = .ok (.iand, 1) := by decide +kernel
theorem dX4_dress_59 : decode cX4_dress 59 = .ok (.iload_n 3, 1) := by decide +kernel
theorem dX4_dress_60 : decode cX4_dress 60 = .ok (.iload 6, 2) := by decide +kernel
theorem dX4_dress_62 : decode cX4_dress 62 = .ok (.invokestatic 84, 3) := by decide +kernel
theorem dX4_dress_65 : decode cX4_dress 65 = .ok (.ifCond .eq 33, 3) := by decide +kernel
theorem dX4_dress_68 : decode cX4_dress 68 = .ok (.aload_n 1, 1) := by decide +kernel
theorem dX4_dress_69 : decode cX4_dress 69 = .ok (.iload_n 3, 1) := by decide +kernel
theorem dX4_dress_70 : decode cX4_dress 70 = .ok (.iload 6, 2) := by decide +kernel
theorem dX4_dress_72 : decode cX4_dress 72 = .ok (.iastore, 1) := by decide +kernel
theorem dX4_dress_73 : decode cX4_dress 73 = .ok (.aload_n 0, 1) := by decide +kernel
theorem dX4_dress_74 : decode cX4_dress 74 = .ok (.aload_n 1, 1) := by decide +kernel
theorem dX4_dress_75 : decode cX4_dress 75 = .ok (.iload_n 2, 1) := by decide +kernel
theorem dX4_dress_76 : decode cX4_dress 76 = .ok (.iload_n 3, 1) := by decide +kernel
theorem dX4_dress_77 : decode cX4_dress 77 = .ok (.iconst 1, 1) := by decide +kernel
theorem dX4_dress_78 : decode cX4_dress 78 = .ok (.iadd, 1) := by decide +kernel
theorem dX4_dress_79 : decode cX4_dress 79 = .ok (.iload 4, 2) := by decide +kernel
theorem dX4_dress_81 : decode cX4_dress 81 = .ok (.iload 6, 2) := by decide +kernel
theorem dX4_dress_83 : decode cX4_dress 83 = .ok (.iconst 1, 1) := by decide +kernel
theorem dX4_dress_84 : decode cX4_dress 84 = .ok (.iadd, 1) := by decide +kernel
theorem dX4_dress_85 : decode cX4_dress 85 = .ok (.invokestatic 71, 3) := by decide +kernel
theorem dX4_dress_88 : decode cX4_dress 88 = .ok (.iload 5, 2) := by decide +kernel
theorem dX4_dress_90 : decode cX4_dress 90 = .ok (.invokestatic 80, 3) := by decide +kernel
theorem dX4_dress_93 : decode cX4_dress 93 = .ok (.ifCond .eq 5, 3) := by decide +kernel
theorem dX4_dress_96 : decode cX4_dress 96 = .ok (.iconst 1, 1) := by decide +kernel
theorem dX4_dress_97 : decode cX4_dress 97 = .ok (.ireturn, 1) := by decide +kernel
theorem dX4_dress_98 : decode cX4_dress 98 = .ok (.iinc 6 1, 3) := by decide +kernel
theorem dX4_dress_101 : decode cX4_dress 101 = .ok (.goto (-62), 3) := by decide +kernel
theorem dX4_dress_104 : decode cX4_dress 104 = .ok (.iconst 0, 1) := by decide +kernel
theorem dX4_dress_105 : decode cX4_dress 105 = .ok (.ireturn, 1) := by decide +kernel
theorem dX4_isFree_0 : decode cX4_isFree 0 = .ok (.iconst 0, 1) := by decide +kernel
theorem dX4_isFree_1 : decode cX4_isFree 1 = .ok (.istore 4, 2) := by decide +kernel
theorem dX4_isFree_3 : decode cX4_isFree 3 = .ok (.iload 4, 2) := by decide +kernel
theorem dX4_isFree_5 : decode cX4_isFree 5 = .ok (.iload_n 2, 1) := by decide +kernel
theorem dX4_isFree_6 : decode cX4_isFree 6 = .ok (.if_icmp .ge 35, 3) := by decide +kernel
theorem dX4_isFree_9 : decode cX4_isFree 9 = .ok (.iload 4, 2) := by decide +kernel
theorem dX4_isFree_11 : decode cX4_isFree 11 = .ok (.aload_n 0, 1) := by decide +kernel
theorem dX4_isFree_12 : decode cX4_isFree 12 = .ok (.arraylength, 1) := by decide +kernel
theorem dX4_isFree_13 : decode cX4_isFree 13 = .ok (.if_icmp .ge 28, 3) := by decide +kernel
theorem dX4_isFree_16 : decode cX4_isFree 16 = .ok (.iload 4, 2) := by decide +kernel
theorem dX4_isFree_18 : decode cX4_isFree 18 = .ok (.iload_n 1, 1) := by decide +kernel
theorem dX4_isFree_19 : decode cX4_isFree 19 = .ok (.invokestatic 53, 3) := by decide +kernel
theorem dX4_isFree_22 : decode cX4_isFree 22 = .ok (.ifCond .eq 13, 3) := by decide +kernel
theorem dX4_isFree_25 : decode cX4_isFree 25 = .ok (.aload_n 0, 1) := by decide +kernel
theorem dX4_isFree_26 : decode cX4_isFree 26 = .ok (.iload 4, 2) := by decide +kernel
theorem dX4_isFree_28 : decode cX4_isFree 28 = .ok (.iaload, 1) := by decide +kernel
theorem dX4_isFree_29 : decode cX4_isFree 29 = .ok (.iload_n 3, 1) := by decide +kernel
theorem dX4_isFree_30 : decode cX4_isFree 30 = .ok (.if_icmp .ne 5, 3) := by decide +kernel
theorem dX4_isFree_33 : decode cX4_isFree 33 = .ok (.iconst 0, 1) := by decide +kernel
theorem dX4_isFree_34 : decode cX4_isFree 34 = .ok (.ireturn, 1) := by decide +kernel
theorem dX4_isFree_35 : decode cX4_isFree 35 = .ok (.iinc 4 1, 3) := by decide +kernel
theorem dX4_isFree_38 : decode cX4_isFree 38 = .ok (.goto (-35), 3) := by decide +kernel
theorem dX4_isFree_41 : decode cX4_isFree 41 = .ok (.iconst 1, 1) := by decide +kernel
theorem dX4_isFree_42 : decode cX4_isFree 42 = .ok (.ireturn, 1) := by decide +kernel
theorem dX5_init_0 : decode cX5_init 0 = .ok (.aload_n 0, 1) := by decide +kernel
theorem dX5_init_1 : decode cX5_init 1 = .ok (.invokespecial 5, 3) := by decide +kernel
theorem dX5_init_4 : decode cX5_init 4 = .ok (.aload_n 0, 1) := by decide +kernel
theorem dX5_init_5 : decode cX5_init 5 = .ok (.sipush 201, 3) := by decide +kernel
theorem dX5_init_8 : decode cX5_init 8 = .ok (.newarray .long, 2) := by decide +kernel
theorem dX5_init_10 : decode cX5_init 10 = .ok (.putfield 13, 3) := by decide +kernel
theorem dX5_init_13 : decode cX5_init 13 = .ok (.aload_n 0, 1) := by decide +kernel
theorem dX5_init_14 : decode cX5_init 14 = .ok (.sipush 201, 3) := by decide +kernel
theorem dX5_init_17 : decode cX5_init 17 = .ok (.newarray .int, 2) := by decide +kernel
theorem dX5_init_19 : decode cX5_init 19 = .ok (.putfield 17, 3) := by decide +kernel
theorem dX5_init_22 : decode cX5_init 22 = .ok (.aload_n 0, 1) := by decide +kernel
theorem dX5_init_23 : decode cX5_init 23 = .ok (.aload_n 0, 1) := by decide +kernel
theorem dX5_init_24 : decode cX5_init 24 = .ok (.getfield 13, 3) := by decide +kernel
theorem dX5_init_27 : decode cX5_init 27 = .ok (.putfield 21, 3) := by decide +kernel
theorem dX5_init_30 : decode cX5_init 30 = .ok (.aload_n 0, 1) := by decide +kernel
theorem dX5_init_31 : decode cX5_init 31 = .ok (.iconst 0, 1) := by decide +kernel
theorem dX5_init_32 : decode cX5_init 32 = .ok (.putfield 24, 3) := by decide +kernel
theorem dX5_init_35 : decode cX5_init 35 = .ok (.aload_n 0, 1) := by decide +kernel
theorem dX5_init_36 : decode cX5_init 36 = .ok (.iconst (-1), 1) := by decide +kernel
theorem dX5_init_37 : decode cX5_init 37 = .ok (.putfield 28, 3) := by decide +kernel
theorem dX5_init_40 : decode cX5_init 40 = .ok (.return_, 1) := by decide +kernel
theorem dX5_faultOf_0 : decode cX5_faultOf 0 = .ok (.aload_n 0, 1) := by decide +kernel
theorem dX5_faultOf_1 : decode cX5_faultOf 1 = .ok (.aload_n 1, 1) := by decide +kernel
theorem dX5_faultOf_2 : decode cX5_faultOf 2 = .ok (.invokevirtual 31, 3) := by decide +kernel
theorem dX5_faultOf_5 : decode cX5_faultOf 5 = .ok (.aload_n 0, 1) := by decide +kernel
theorem dX5_faultOf_6 : decode cX5_faultOf 6 = .ok (.aload_n 0, 1) := by decide +kernel
theorem dX5_faultOf_7 : decode cX5_faultOf 7 = .ok (.getfield 13, 3) := by decide +kernel
theorem dX5_faultOf_10 : decode cX5_faultOf 10 = .ok (.invokevirtual 35, 3) := by decide +kernel
theorem dX5_faultOf_13 : decode cX5_faultOf 13 = .ok (.aload_n 0, 1) := by decide +kernel
theorem dX5_faultOf_14 : decode cX5_faultOf 14 = .ok (.invokevirtual 39, 3) := by decide +kernel
theorem dX5_faultOf_17 : decode cX5_faultOf 17 = .ok (.aload_n 0, 1) := by decide +kernel
theorem dX5_faultOf_18 : decode cX5_faultOf 18 = .ok (.invokevirtual 42, 3) := by decide +kernel
theorem dX5_faultOf_21 : decode cX5_faultOf 21 = .ok (.sipush 256, 3) := by decide +kernel
theorem dX5_faultOf_24 : decode cX5_faultOf 24 = .ok (.if_icmp .eq 7, 3) := by decide +kernel
theorem dX5_faultOf_27 : decode cX5_faultOf 27 = .ok (.aload_n 0, 1) := by decide +kernel
theorem dX5_faultOf_28 : decode cX5_faultOf 28 = .ok (.invokevirtual 46, 3) := by decide +kernel
theorem dX5_faultOf_31 : decode cX5_faultOf 31 = .ok (.aload_n 0, 1) := by decide +kernel
theorem dX5_faultOf_32 : decode cX5_faultOf 32 = .ok (.getfield 28, 3) := by decide +kernel
theorem dX5_faultOf_35 : decode cX5_faultOf 35 = .ok (.ireturn, 1) := by decide +kernel
theorem dX5_cutUp_0 : decode cX5_cutUp 0 = .ok (.iconst 0, 1) := by decide +kernel
theorem dX5_cutUp_1 : decode cX5_cutUp 1 = .ok (.istore_n 2, 1) := by decide +kernel
theorem dX5_cutUp_2 : decode cX5_cutUp 2 = .ok (.iconst 0, 1) := by decide +kernel
theorem dX5_cutUp_3 : decode cX5_cutUp 3 = .ok (.istore_n 3, 1) := by decide +kernel
theorem dX5_cutUp_4 : decode cX5_cutUp 4 = .ok (.iconst 0, 1) := by decide +kernel
theorem dX5_cutUp_5 : decode cX5_cutUp 5 = .ok (.istore 4, 2) := by decide +kernel
theorem dX5_cutUp_7 : decode cX5_cutUp 7 = .ok (.iload 4, 2) := by decide +kernel
theorem dX5_cutUp_9 : decode cX5_cutUp 9 = .ok (.aload_n 1, 1) := by decide +kernel
theorem dX5_cutUp_10 : decode cX5_cutUp 10 = .ok (.invokevirtual 49, 3) := by decide +kernel
theorem dX5_cutUp_13 : decode cX5_cutUp 13 = .ok (.if_icmp .ge 172, 3) := by decide +kernel
theorem dX5_cutUp_16 : decode cX5_cutUp 16 = .ok (.iload_n 2, 1) := by decide +kernel
theorem dX5_cutUp_17 : decode cX5_cutUp 17 = .ok (.sipush 200, 3) := by decide +kernel
theorem dX5_cutUp_20 : decode cX5_cutUp 20 = .ok (.if_icmp .ge 165, 3) := by decide +kernel
theorem dX5_cutUp_23 : decode cX5_cutUp 23 = .ok (.aload_n 1, 1) := by decide +kernel
theorem dX5_cutUp_24 : decode cX5_cutUp 24 = .ok (.iload 4, 2) := by decide +kernel
theorem dX5_cutUp_26 : decode cX5_cutUp 26 = .ok (.invokevirtual 52, 3) := by decide +kernel
theorem dX5_cutUp_29 : decode cX5_cutUp 29 = .ok (.istore 5, 2) := by decide +kernel
theorem dX5_cutUp_31 : decode cX5_cutUp 31 = .ok (.aload_n 0, 1) := by decide +kernel
theorem dX5_cutUp_32 : decode cX5_cutUp 32 = .ok (.iload 5, 2) := by decide +kernel
theorem dX5_cutUp_34 : decode cX5_cutUp 34 = .ok (.invokevirtual 55, 3) := by decide +kernel
theorem dX5_cutUp_37 : decode cX5_cutUp 37 = .ok (.istore 6, 2) := by decide +kernel
theorem dX5_cutUp_39 : decode cX5_cutUp 39 = .ok (.iload 6, 2) := by decide +kernel
theorem dX5_cutUp_41 : decode cX5_cutUp 41 = .ok (.ifCond .eq 52, 3) := by decide +kernel
theorem dX5_cutUp_44 : decode cX5_cutUp 44 = .ok (.iload_n 3, 1) := by decide +kernel
theorem dX5_cutUp_45 : decode cX5_cutUp 45 = .ok (.ifCond .le 48, 3) := by decide +kernel
theorem dX5_cutUp_48 : decode cX5_cutUp 48 = .ok (.iload_n 3, 1) := by decide +kernel
theorem dX5_cutUp_49 : decode cX5_cutUp 49 = .ok (.aload_n 0, 1) := by decide +kernel
theorem dX5_cutUp_50 : decode cX5_cutUp 50 = .ok (.invokevirtual 59, 3) := by decide +kernel
theorem dX5_cutUp_53 : decode cX5_cutUp 53 = .ok (.if_icmp .ge 40, 3) := by decide +kernel
theorem dX5_cutUp_56 : decode cX5_cutUp 56 = .ok (.iload_n 2, 1) := by decide +kernel
theorem dX5_cutUp_57 : decode cX5_cutUp 57 = .ok (.ifCond .le 36, 3) := by decide +kernel
theorem dX5_cutUp_60 : decode cX5_cutUp 60 = .ok (.aload_n 0, 1) := by decide +kernel
theorem dX5_cutUp_61 : decode cX5_cutUp 61 = .ok (.getfield 13, 3) := by decide +kernel
theorem dX5_cutUp_64 : decode cX5_cutUp 64 = .ok (.iload_n 2, 1) := by decide +kernel
theorem dX5_cutUp_65 : decode cX5_cutUp 65 = .ok (.iconst 1, 1) := by decide +kernel
theorem dX5_cutUp_66 : decode cX5_cutUp 66 = .ok (.isub, 1) := by decide +kernel
theorem dX5_cutUp_67 : decode cX5_cutUp 67 = .ok (.ldc2_w 62, 3) := by decide +kernel
theorem dX5_cutUp_70 : decode cX5_cutUp 70 = .ok (.aload_n 0, 1) := by decide +kernel
theorem dX5_cutUp_71 : decode cX5_cutUp 71 = .ok (.aload_n 0, 1) := by decide +kernel
theorem dX5_cutUp_72 : decode cX5_cutUp 72 = .ok (.getfield 13, 3) := by decide +kernel
theorem dX5_cutUp_75 : decode cX5_cutUp 75 = .ok (.iload_n 2, 1) := by decide +kernel
theorem dX5_cutUp_76 : decode cX5_cutUp 76 = .ok (.iconst 1, 1) := by decide +kernel
theorem dX5_cutUp_77 : decode cX5_cutUp 77 = .ok (.isub, 1) := by decide +kernel
theorem dX5_cutUp_78 : decode cX5_cutUp 78 = .ok (.laload, 1) := by decide +kernel
theorem dX5_cutUp_79 : decode cX5_cutUp 79 = .ok (.ldc2_w 62, 3) := by decide +kernel
theorem dX5_cutUp_82 : decode cX5_cutUp 82 = .ok (.lsub, 1) := by decide +kernel
theorem dX5_cutUp_83 : decode cX5_cutUp 83 = .ok (.iload 5, 2) := by decide +kernel
theorem dX5_cutUp_85 : decode cX5_cutUp 85 = .ok (.invokevirtual 64, 3) := by decide +kernel
theorem dX5_cutUp_88 : decode cX5_cutUp 88 = .ok (.ladd, 1) := by decide +kernel
theorem dX5_cutUp_89 : decode cX5_cutUp 89 = .ok (.lastore, 1) := by decide +kernel
theorem dX5_cutUp_90 : decode cX5_cutUp 90 = .ok (.goto 76, 3) := by decide +kernel
theorem dX5_cutUp_93 : decode cX5_cutUp 93 = .ok (.iload 5, 2) := by decide +kernel
theorem dX5_cutUp_95 : decode cX5_cutUp 95 = .ok (.bipush 32, 2) := by decide +kernel
theorem dX5_cutUp_97 : decode cX5_cutUp 97 = .ok (.if_icmp .eq 69, 3) := by decide +kernel
theorem dX5_cutUp_100 : decode cX5_cutUp 100 = .ok (.iload 6, 2) := by decide +kernel
theorem dX5_cutUp_102 : decode cX5_cutUp 102 = .ok (.ifCond .eq 11, 3) := by decide +kernel
theorem dX5_cutUp_105 : decode cX5_cutUp 105 = .ok (.iload_n 3, 1) := by decide +kernel
theorem dX5_cutUp_106 : decode cX5_cutUp 106 = .ok (.ifCond .le 7, 3) := by decide +kernel
theorem dX5_cutUp_109 : decode cX5_cutUp 109 = .ok (.iconst 1, 1) := by decide +kernel
theorem dX5_cutUp_110 : decode cX5_cutUp 110 = .ok (.goto 4, 3) := by decide +kernel
theorem dX5_cutUp_113 : decode cX5_cutUp 113 = .ok (.iconst 0, 1) := by decide +kernel
theorem dX5_cutUp_114 : decode cX5_cutUp 114 = .ok (.istore 7, 2) := by decide +kernel
theorem dX5_cutUp_116 : decode cX5_cutUp 116 = .ok (.aload_n 0, 1) := by decide +kernel
theorem dX5_cutUp_117 : decode cX5_cutUp 117 = .ok (.getfield 13, 3) := by decide +kernel
theorem dX5_cutUp_120 : decode cX5_cutUp 120 = .ok (.iload_n 2, 1) := by decide +kernel
theorem dX5_cutUp_121 : decode cX5_cutUp 121 = .ok (.iload 7, 2) := by decide +kernel
theorem dX5_cutUp_123 : decode cX5_cutUp 123 = .ok (.ifCond .eq 9, 3) := by decide +kernel
theorem dX5_cutUp_126 : decode cX5_cutUp 126 = .ok (.ldc2_w 68, 3) := by decide +kernel
theorem dX5_cutUp_129 : decode cX5_cutUp 129 = .ok (.goto 25, 3) := by decide +kernel
theorem dX5_cutUp_132 : decode cX5_cutUp 132 = .ok (.iload 6, 2) := by decide +kernel
theorem dX5_cutUp_134 : decode cX5_cutUp 134 = .ok (.ifCond .eq 17, 3) := by decide +kernel
theorem dX5_cutUp_137 : decode cX5_cutUp 137 = .ok (.ldc2_w 62, 3) := by decide +kernel
theorem dX5_cutUp_140 : decode cX5_cutUp 140 = .ok (.aload_n 0, 1) := by decide +kernel
theorem dX5_cutUp_141 : decode cX5_cutUp 141 = .ok (.lconst 0, 1) := by decide +kernel
theorem dX5_cutUp_142 : decode cX5_cutUp 142 = .ok (.iload 5, 2) := by decide +kernel
theorem dX5_cutUp_144 : decode cX5_cutUp 144 = .ok (.invokevirtual 64, 3) := by decide +kernel
theorem dX5_cutUp_147 : decode cX5_cutUp 147 = .ok (.ladd, 1) := by decide +kernel
theorem dX5_cutUp_148 : decode cX5_cutUp 148 = .ok (.goto 6, 3) := by decide +kernel
theorem dX5_cutUp_151 : decode cX5_cutUp 151 = .ok (.iload 5, 2) := by decide +kernel
theorem dX5_cutUp_153 : decode cX5_cutUp 153 = .ok (.i2l, 1) := by decide +kernel
theorem dX5_cutUp_154 : decode cX5_cutUp 154 = .ok (.lastore, 1) := by decide +kernel
theorem dX5_cutUp_155 : decode cX5_cutUp 155 = .ok (.aload_n 0, 1) := by decide +kernel
theorem dX5_cutUp_156 : decode cX5_cutUp 156 = .ok (.getfield 17, 3) := by decide +kernel
theorem dX5_cutUp_159 : decode cX5_cutUp 159 = .ok (.iload_n 2, 1) := by decide +kernel
theorem dX5_cutUp_160 : decode cX5_cutUp 160 = .ok (.iload 4, 2) := by decide +kernel
theorem dX5_cutUp_162 : decode cX5_cutUp 162 = .ok (.iastore, 1) := by decide +kernel
theorem dX5_cutUp_163 : decode cX5_cutUp 163 = .ok (.iinc 2 1, 3) := by decide +kernel
theorem dX5_cutUp_166 : decode cX5_cutUp 166 = .ok (.iload 6, 2) := by decide +kernel
theorem dX5_cutUp_168 : decode cX5_cutUp 168 = .ok (.ifCond .eq 9, 3) := by decide +kernel
theorem dX5_cutUp_171 : decode cX5_cutUp 171 = .ok (.iload_n 3, 1) := by decide +kernel
theorem dX5_cutUp_172 : decode cX5_cutUp 172 = .ok (.iconst 1, 1) := by decide +kernel
theorem dX5_cutUp_173 : decode cX5_cutUp 173 = .ok (.iadd, 1) := by decide +kernel
theorem dX5_cutUp_174 : decode cX5_cutUp 174 = .ok (.goto 4, 3) := by decide +kernel
theorem dX5_cutUp_177 : decode cX5_cutUp 177 = .ok (.iconst 0, 1) := by decide +kernel
theorem dX5_cutUp_178 : decode cX5_cutUp 178 = .ok (.istore_n 3, 1) := by decide +kernel
theorem dX5_cutUp_179 : decode cX5_cutUp 179 = .ok (.iinc 4 1, 3) := by decide +kernel
theorem dX5_cutUp_182 : decode cX5_cutUp 182 = .ok (.goto (-175), 3) := by decide +kernel
theorem dX5_cutUp_185 : decode cX5_cutUp 185 = .ok (.aload_n 0, 1) := by decide +kernel
theorem dX5_cutUp_186 : decode cX5_cutUp 186 = .ok (.getfield 13, 3) := by decide +kernel
theorem dX5_cutUp_189 : decode cX5_cutUp 189 = .ok (.iload_n 2, 1) := by decide +kernel
theorem dX5_cutUp_190 : decode cX5_cutUp 190 = .ok (.ldc2_w 70, 3) := by decide +kernel
theorem dX5_cutUp_193 : decode cX5_cutUp 193 = .ok (.lastore, 1) := by decide +kernel
theorem dX5_cutUp_194 : decode cX5_cutUp 194 = .ok (.aload_n 0, 1) := by decide +kernel
theorem dX5_cutUp_195 : decode cX5_cutUp 195 = .ok (.getfield 17, 3) := by decide +kernel
theorem dX5_cutUp_198 : decode cX5_cutUp 198 = .ok (.iload_n 2, 1) := by decide +kernel
theorem dX5_cutUp_199 : decode cX5_cutUp 199 = .ok (.aload_n 1, 1) := by decide +kernel
theorem dX5_cutUp_200 : decode cX5_cutUp 200 = .ok (.invokevirtual 49, 3) := by decide +kernel
theorem dX5_cutUp_203 : decode cX5_cutUp 203 = .ok (.iastore, 1) := by decide +kernel
theorem dX5_cutUp_204 : decode cX5_cutUp 204 = .ok (.return_, 1) := by decide +kernel
theorem dX5_begin_0 : decode cX5_begin 0 = .ok (.aload_n 0, 1) := by decide +kernel
theorem dX5_begin_1 : decode cX5_begin 1 = .ok (.aload_n 1, 1) := by decide +kernel
theorem dX5_begin_2 : decode cX5_begin 2 = .ok (.putfield 21, 3) := by decide +kernel
theorem dX5_begin_5 : decode cX5_begin 5 = .ok (.aload_n 0, 1) := by decide +kernel
theorem dX5_begin_6 : decode cX5_begin 6 = .ok (.iconst 0, 1) := by decide +kernel
theorem dX5_begin_7 : decode cX5_begin 7 = .ok (.putfield 24, 3) := by decide +kernel
theorem dX5_begin_10 : decode cX5_begin 10 = .ok (.aload_n 0, 1) := by decide +kernel
theorem dX5_begin_11 : decode cX5_begin 11 = .ok (.iconst (-1), 1) := by decide +kernel
theorem dX5_begin_12 : decode cX5_begin 12 = .ok (.putfield 28, 3) := by decide +kernel
theorem dX5_begin_15 : decode cX5_begin 15 = .ok (.return_, 1) := by decide +kernel
theorem dX5_copyTo_0 : decode cX5_copyTo 0 = .ok (.iconst 0, 1) := by decide +kernel
theorem dX5_copyTo_1 : decode cX5_copyTo 1 = .ok (.istore_n 2, 1) := by decide +kernel
theorem dX5_copyTo_2 : decode cX5_copyTo 2 = .ok (.aload_n 1, 1) := by decide +kernel
theorem dX5_copyTo_3 : decode cX5_copyTo 3 = .ok (.ifnull 33, 3) := by decide +kernel
theorem dX5_copyTo_6 : decode cX5_copyTo 6 = .ok (.iload_n 2, 1) := by decide +kernel
theorem dX5_copyTo_7 : decode cX5_copyTo 7 = .ok (.aload_n 1, 1) := by decide +kernel
theorem dX5_copyTo_8 : decode cX5_copyTo 8 = .ok (.arraylength, 1) := by decide +kernel
theorem dX5_copyTo_9 : decode cX5_copyTo 9 = .ok (.if_icmp .ge 27, 3) := by decide +kernel
theorem dX5_copyTo_12 : decode cX5_copyTo 12 = .ok (.iload_n 2, 1) := by decide +kernel
theorem dX5_copyTo_13 : decode cX5_copyTo 13 = .ok (.aload_n 0, 1) := by decide +kernel
theorem dX5_copyTo_14 : decode cX5_copyTo 14 = .ok (.getfield 13, 3) := by decide +kernel
theorem dX5_copyTo_17 : decode cX5_copyTo 17 = .ok (.arraylength, 1) := by decide +kernel
theorem dX5_copyTo_18 : decode cX5_copyTo 18 = .ok (.if_icmp .ge 18, 3) := by decide +kernel
theorem dX5_copyTo_21 : decode cX5_copyTo 21 = .ok (.aload_n 1, 1) := by decide +kernel
theorem dX5_copyTo_22 : decode cX5_copyTo 22 = .ok (.iload_n 2, 1) := by decide +kernel
theorem dX5_copyTo_23 : decode cX5_copyTo 23 = .ok (.aload_n 0, 1) := by decide +kernel
theorem dX5_copyTo_24 : decode cX5_copyTo 24 = .ok (.getfield 13, 3) := by decide +kernel
theorem dX5_copyTo_27 : decode cX5_copyTo 27 = .ok (.iload_n 2, 1) := by decide +kernel
theorem dX5_copyTo_28 : decode cX5_copyTo 28 = .ok (.laload, 1) := by decide +kernel
theorem dX5_copyTo_29 : decode cX5_copyTo 29 = .ok (.lastore, 1) := by decide +kernel
theorem dX5_copyTo_30 : decode cX5_copyTo 30 = .ok (.iinc 2 1, 3) := by decide +kernel
theorem dX5_copyTo_33 : decode cX5_copyTo 33 = .ok (.goto (-31), 3) := by decide +kernel
theorem dX5_copyTo_36 : decode cX5_copyTo 36 = .ok (.return_, 1) := by decide +kernel
theorem dX5_sign_0 : decode cX5_sign 0 = .ok (.aload_n 0, 1) := by decide +kernel
theorem dX5_sign_1 : decode cX5_sign 1 = .ok (.getfield 28, 3) := by decide +kernel
theorem dX5_sign_4 : decode cX5_sign 4 = .ok (.iconst (-1), 1) := by decide +kernel
theorem dX5_sign_5 : decode cX5_sign 5 = .ok (.if_icmp .ne 29, 3) := by decide +kernel
theorem dX5_sign_8 : decode cX5_sign 8 = .ok (.aload_n 0, 1) := by decide +kernel
theorem dX5_sign_9 : decode cX5_sign 9 = .ok (.getfield 21, 3) := by decide +kernel
theorem dX5_sign_12 : decode cX5_sign 12 = .ok (.ifnull 22, 3) := by decide +kernel
theorem dX5_sign_15 : decode cX5_sign 15 = .ok (.aload_n 0, 1) := by decide +kernel
theorem dX5_sign_16 : decode cX5_sign 16 = .ok (.getfield 24, 3) := by decide +kernel
theorem dX5_sign_19 : decode cX5_sign 19 = .ok (.ifCond .lt 15, 3) := by decide +kernel
theorem dX5_sign_22 : decode cX5_sign 22 = .ok (.aload_n 0, 1) := by decide +kernel
theorem dX5_sign_23 : decode cX5_sign 23 = .ok (.getfield 24, 3) := by decide +kernel
theorem dX5_sign_26 : decode cX5_sign 26 = .ok (.aload_n 0, 1) := by decide +kernel
theorem dX5_sign_27 : decode cX5_sign 27 = .ok (.getfield 21, 3) := by decide +kernel
theorem dX5_sign_30 : decode cX5_sign 30 = .ok (.arraylength, 1) := by decide +kernel
theorem dX5_sign_31 : decode cX5_sign 31 = .ok (.if_icmp .lt 7, 3) := by decide +kernel
theorem dX5_sign_34 : decode cX5_sign 34 = .ok (.sipush 257, 3) := by decide +kernel
theorem dX5_sign_37 : decode cX5_sign 37 = .ok (.ireturn, 1) := by decide +kernel
theorem dX5_sign_38 : decode cX5_sign 38 = .ok (.aload_n 0, 1) := by decide +kernel
theorem dX5_sign_39 : decode cX5_sign 39 = .ok (.getfield 21, 3) := by decide +kernel
theorem dX5_sign_42 : decode cX5_sign 42 = .ok (.aload_n 0, 1) := by decide +kernel
theorem dX5_sign_43 : decode cX5_sign 43 = .ok (.getfield 24, 3) := by decide +kernel
theorem dX5_sign_46 : decode cX5_sign 46 = .ok (.laload, 1) := by decide +kernel
theorem dX5_sign_47 : decode cX5_sign 47 = .ok (.ldc2_w 62, 3) := by decide +kernel
theorem dX5_sign_50 : decode cX5_sign 50 = .ok (.lcmp, 1) := by decide +kernel
theorem dX5_sign_51 : decode cX5_sign 51 = .ok (.ifCond .lt 9, 3) := by decide +kernel
theorem dX5_sign_54 : decode cX5_sign 54 = .ok (.sipush 1000, 3) := by decide +kernel
theorem dX5_sign_57 : decode cX5_sign 57 = .ok (.goto 13, 3) := by decide +kernel
theorem dX5_sign_60 : decode cX5_sign 60 = .ok (.aload_n 0, 1) := by decide +kernel
theorem dX5_sign_61 : decode cX5_sign 61 = .ok (.getfield 21, 3) := by decide +kernel
theorem dX5_sign_64 : decode cX5_sign 64 = .ok (.aload_n 0, 1) := by decide +kernel
theorem dX5_sign_65 : decode cX5_sign 65 = .ok (.getfield 24, 3) := by decide +kernel
theorem dX5_sign_68 : decode cX5_sign 68 = .ok (.laload, 1) := by decide +kernel
theorem dX5_sign_69 : decode cX5_sign 69 = .ok (.l2i, 1) := by decide +kernel
theorem dX5_sign_70 : decode cX5_sign 70 = .ok (.ireturn, 1) := by decide +kernel
theorem dX5_value_0 : decode cX5_value 0 = .ok (.aload_n 0, 1) := by decide +kernel
theorem dX5_value_1 : decode cX5_value 1 = .ok (.getfield 21, 3) := by decide +kernel
theorem dX5_value_4 : decode cX5_value 4 = .ok (.ifnull 38, 3) := by decide +kernel
theorem dX5_value_7 : decode cX5_value 7 = .ok (.aload_n 0, 1) := by decide +kernel
theorem dX5_value_8 : decode cX5_value 8 = .ok (.getfield 24, 3) := by decide +kernel
theorem dX5_value_11 : decode cX5_value 11 = .ok (.ifCond .lt 31, 3) := by decide +kernel
theorem dX5_value_14 : decode cX5_value 14 = .ok (.aload_n 0, 1) := by decide +kernel
theorem dX5_value_15 : decode cX5_value 15 = .ok (.getfield 24, 3) := by decide +kernel
theorem dX5_value_18 : decode cX5_value 18 = .ok (.aload_n 0, 1) := by decide +kernel
theorem dX5_value_19 : decode cX5_value 19 = .ok (.getfield 21, 3) := by decide +kernel
theorem dX5_value_22 : decode cX5_value 22 = .ok (.arraylength, 1) := by decide +kernel
theorem dX5_value_23 : decode cX5_value 23 = .ok (.if_icmp .ge 19, 3) := by decide +kernel
theorem dX5_value_26 : decode cX5_value 26 = .ok (.aload_n 0, 1) := by decide +kernel
theorem dX5_value_27 : decode cX5_value 27 = .ok (.getfield 21, 3) := by decide +kernel
theorem dX5_value_30 : decode cX5_value 30 = .ok (.aload_n 0, 1) := by decide +kernel
theorem dX5_value_31 : decode cX5_value 31 = .ok (.getfield 24, 3) := by decide +kernel
theorem dX5_value_34 : decode cX5_value 34 = .ok (.laload, 1) := by decide +kernel
theorem dX5_value_35 : decode cX5_value 35 = .ok (.ldc2_w 62, 3) := by decide +kernel
theorem dX5_value_38 : decode cX5_value 38 = .ok (.lsub, 1) := by decide +kernel
theorem dX5_value_39 : decode cX5_value 39 = .ok (.goto 4, 3) := by decide +kernel
theorem dX5_value_42 : decode cX5_value 42 = .ok (.lconst 0, 1) := by decide +kernel
theorem dX5_value_43 : decode cX5_value 43 = .ok (.lreturn, 1) := by decide +kernel
theorem dX5_step_0 : decode cX5_step 0 = .ok (.aload_n 0, 1) := by decide +kernel
theorem dX5_step_1 : decode cX5_step 1 = .ok (.dup, 1) := by decide +kernel
theorem dX5_step_2 : decode cX5_step 2 = .ok (.getfield 24, 3) := by decide +kernel
theorem dX5_step_5 : decode cX5_step 5 = .ok (.iconst 1, 1) := by decide +kernel
theorem dX5_step_6 : decode cX5_step 6 = .ok (.iadd, 1) := by decide +kernel
theorem dX5_step_7 : decode cX5_step 7 = .ok (.putfield 24, 3) := by decide +kernel
theorem dX5_step_10 : decode cX5_step 10 = .ok (.return_, 1) := by decide +kernel
theorem dX5_takes_0 : decode cX5_takes 0 = .ok (.aload_n 0, 1) := by decide +kernel
theorem dX5_takes_1 : decode cX5_takes 1 = .ok (.invokevirtual 42, 3) := by decide +kernel
theorem dX5_takes_4 : decode cX5_takes 4 = .ok (.iload_n 1, 1) := by decide +kernel
theorem dX5_takes_5 : decode cX5_takes 5 = .ok (.if_icmp .eq 5, 3) := by decide +kernel
theorem dX5_takes_8 : decode cX5_takes 8 = .ok (.iconst 0, 1) := by decide +kernel
theorem dX5_takes_9 : decode cX5_takes 9 = .ok (.ireturn, 1) := by decide +kernel
theorem dX5_takes_10 : decode cX5_takes 10 = .ok (.aload_n 0, 1) := by decide +kernel
theorem dX5_takes_11 : decode cX5_takes 11 = .ok (.dup, 1) := by decide +kernel
theorem dX5_takes_12 : decode cX5_takes 12 = .ok (.getfield 24, 3) := by decide +kernel
theorem dX5_takes_15 : decode cX5_takes 15 = .ok (.iconst 1, 1) := by decide +kernel
theorem dX5_takes_16 : decode cX5_takes 16 = .ok (.iadd, 1) := by decide +kernel
theorem dX5_takes_17 : decode cX5_takes 17 = .ok (.putfield 24, 3) := by decide +kernel
theorem dX5_takes_20 : decode cX5_takes 20 = .ok (.iconst 1, 1) := by decide +kernel
theorem dX5_takes_21 : decode cX5_takes 21 = .ok (.ireturn, 1) := by decide +kernel
theorem dX5_needs_0 : decode cX5_needs 0 = .ok (.aload_n 0, 1) := by decide +kernel
theorem dX5_needs_1 : decode cX5_needs 1 = .ok (.invokevirtual 42, 3) := by decide +kernel
theorem dX5_needs_4 : decode cX5_needs 4 = .ok (.iload_n 1, 1) := by decide +kernel
theorem dX5_needs_5 : decode cX5_needs 5 = .ok (.if_icmp .ne 16, 3) := by decide +kernel
theorem dX5_needs_8 : decode cX5_needs 8 = .ok (.aload_n 0, 1) := by decide +kernel
theorem dX5_needs_9 : decode cX5_needs 9 = .ok (.dup, 1) := by decide +kernel
theorem dX5_needs_10 : decode cX5_needs 10 = .ok (.getfield 24, 3) := by decide +kernel
theorem dX5_needs_13 : decode cX5_needs 13 = .ok (.iconst 1, 1) := by decide +kernel
theorem dX5_needs_14 : decode cX5_needs 14 = .ok (.iadd, 1) := by decide +kernel
theorem dX5_needs_15 : decode cX5_needs 15 = .ok (.putfield 24, 3) := by decide +kernel
theorem dX5_needs_18 : decode cX5_needs 18 = .ok (.goto 7, 3) := by decide +kernel
theorem dX5_needs_21 : decode cX5_needs 21 = .ok (.aload_n 0, 1) := by decide +kernel
theorem dX5_needs_22 : decode cX5_needs 22 = .ok (.invokevirtual 46, 3) := by decide +kernel
theorem dX5_needs_25 : decode cX5_needs 25 = .ok (.return_, 1) := by decide +kernel
theorem dX5_spoil_0 : decode cX5_spoil 0 = .ok (.aload_n 0, 1) := by decide +kernel
theorem dX5_spoil_1 : decode cX5_spoil 1 = .ok (.getfield 28, 3) := by decide +kernel
theorem dX5_spoil_4 : decode cX5_spoil 4 = .ok (.iconst (-1), 1) := by decide +kernel
theorem dX5_spoil_5 : decode cX5_spoil 5 = .ok (.if_icmp .ne 35, 3) := by decide +kernel
theorem dX5_spoil_8 : decode cX5_spoil 8 = .ok (.aload_n 0, 1) := by decide +kernel
theorem dX5_spoil_9 : decode cX5_spoil 9 = .ok (.getfield 24, 3) := by decide +kernel
theorem dX5_spoil_12 : decode cX5_spoil 12 = .ok (.ifCond .lt 28, 3) := by decide +kernel
theorem dX5_spoil_15 : decode cX5_spoil 15 = .ok (.aload_n 0, 1) := by decide +kernel
theorem dX5_spoil_16 : decode cX5_spoil 16 = .ok (.getfield 24, 3) := by decide +kernel
theorem dX5_spoil_19 : decode cX5_spoil 19 = .ok (.aload_n 0, 1) := by decide +kernel
theorem dX5_spoil_20 : decode cX5_spoil 20 = .ok (.getfield 17, 3) := by decide +kernel
theorem dX5_spoil_23 : decode cX5_spoil 23 = .ok (.arraylength, 1) := by decide +kernel
theorem dX5_spoil_24 : decode cX5_spoil 24 = .ok (.if_icmp .ge 16, 3) := by decide +kernel
theorem dX5_spoil_27 : decode cX5_spoil 27 = .ok (.aload_n 0, 1) := by decide +kernel
theorem dX5_spoil_28 : decode cX5_spoil 28 = .ok (.aload_n 0, 1) := by decide +kernel
theorem dX5_spoil_29 : decode cX5_spoil 29 = .ok (.getfield 17, 3) := by decide +kernel
theorem dX5_spoil_32 : decode cX5_spoil 32 = .ok (.aload_n 0, 1) := by decide +kernel
theorem dX5_spoil_33 : decode cX5_spoil 33 = .ok (.getfield 24, 3) := by decide +kernel
theorem dX5_spoil_36 : decode cX5_spoil 36 = .ok (.iaload, 1) := by decide +kernel
theorem dX5_spoil_37 : decode cX5_spoil 37 = .ok (.putfield 28, 3) := by decide +kernel
theorem dX5_spoil_40 : decode cX5_spoil 40 = .ok (.return_, 1) := by decide +kernel
theorem dX6_init_0 : decode cX6_init 0 = .ok (.aload_n 0, 1) := by decide +kernel
theorem dX6_init_1 : decode cX6_init 1 = .ok (.invokespecial 1, 3) := by decide +kernel
theorem dX6_init_4 : decode cX6_init 4 = .ok (.aload_n 0, 1) := by decide +kernel
theorem dX6_init_5 : decode cX6_init 5 = .ok (.bipush 12, 2) := by decide +kernel
theorem dX6_init_7 : decode cX6_init 7 = .ok (.newarray .int, 2) := by decide +kernel
theorem dX6_init_9 : decode cX6_init 9 = .ok (.putfield 9, 3) := by decide +kernel
theorem dX6_init_12 : decode cX6_init 12 = .ok (.aload_n 0, 1) := by decide +kernel
theorem dX6_init_13 : decode cX6_init 13 = .ok (.bipush 24, 2) := by decide +kernel
theorem dX6_init_15 : decode cX6_init 15 = .ok (.newarray .long, 2) := by decide +kernel
theorem dX6_init_17 : decode cX6_init 17 = .ok (.putfield 15, 3) := by decide +kernel
theorem dX6_init_20 : decode cX6_init 20 = .ok (.aload_n 0, 1) := by decide +kernel
theorem dX6_init_21 : decode cX6_init 21 = .ok (.bipush 12, 2) := by decide +kernel
theorem dX6_init_23 : decode cX6_init 23 = .ok (.newarray .int, 2) := by decide +kernel
theorem dX6_init_25 : decode cX6_init 25 = .ok (.putfield 19, 3) := by decide +kernel
theorem dX6_init_28 : decode cX6_init 28 = .ok (.aload_n 0, 1) := by decide +kernel
theorem dX6_init_29 : decode cX6_init 29 = .ok (.sipush 144, 3) := by decide +kernel
theorem dX6_init_32 : decode cX6_init 32 = .ok (.newarray .long, 2) := by decide +kernel
theorem dX6_init_34 : decode cX6_init 34 = .ok (.putfield 22, 3) := by decide +kernel
theorem dX6_init_37 : decode cX6_init 37 = .ok (.aload_n 0, 1) := by decide +kernel
theorem dX6_init_38 : decode cX6_init 38 = .ok (.iconst 0, 1) := by decide +kernel
theorem dX6_init_39 : decode cX6_init 39 = .ok (.putfield 25, 3) := by decide +kernel
theorem dX6_init_42 : decode cX6_init 42 = .ok (.return_, 1) := by decide +kernel
theorem dX6_joins_0 : decode cX6_joins 0 = .ok (.iload_n 1, 1) := by decide +kernel
theorem dX6_joins_1 : decode cX6_joins 1 = .ok (.bipush 97, 2) := by decide +kernel
theorem dX6_joins_3 : decode cX6_joins 3 = .ok (.if_icmp .lt 13, 3) := by decide +kernel
theorem dX6_joins_6 : decode cX6_joins 6 = .ok (.iload_n 1, 1) := by decide +kernel
theorem dX6_joins_7 : decode cX6_joins 7 = .ok (.bipush 122, 2) := by decide +kernel
theorem dX6_joins_9 : decode cX6_joins 9 = .ok (.if_icmp .gt 7, 3) := by decide +kernel
theorem dX6_joins_12 : decode cX6_joins 12 = .ok (.iconst 1, 1) := by decide +kernel
theorem dX6_joins_13 : decode cX6_joins 13 = .ok (.goto 4, 3) := by decide +kernel
theorem dX6_joins_16 : decode cX6_joins 16 = .ok (.iconst 0, 1) := by decide +kernel
theorem dX6_joins_17 : decode cX6_joins 17 = .ok (.ireturn, 1) := by decide +kernel
theorem dX6_mostJoined_0 : decode cX6_mostJoined 0 = .ok (.bipush 8, 2) := by decide +kernel
theorem dX6_mostJoined_2 : decode cX6_mostJoined 2 = .ok (.ireturn, 1) := by decide +kernel
theorem dX6_grown_0 : decode cX6_grown 0 = .ok (.lload_n 1, 1) := by decide +kernel
theorem dX6_grown_1 : decode cX6_grown 1 = .ok (.iload_n 3, 1) := by decide +kernel
theorem dX6_grown_2 : decode cX6_grown 2 = .ok (.invokestatic 31, 3) := by decide +kernel
theorem dX6_grown_5 : decode cX6_grown 5 = .ok (.lreturn, 1) := by decide +kernel
theorem dX6_takeAll_0 : decode cX6_takeAll 0 = .ok (.aload_n 0, 1) := by decide +kernel
theorem dX6_takeAll_1 : decode cX6_takeAll 1 = .ok (.iconst 0, 1) := by decide +kernel
theorem dX6_takeAll_2 : decode cX6_takeAll 2 = .ok (.putfield 25, 3) := by decide +kernel
theorem dX6_takeAll_5 : decode cX6_takeAll 5 = .ok (.iconst 1, 1) := by decide +kernel
theorem dX6_takeAll_6 : decode cX6_takeAll 6 = .ok (.istore_n 1, 1) := by decide +kernel
theorem dX6_takeAll_7 : decode cX6_takeAll 7 = .ok (.iconst 0, 1) := by decide +kernel
theorem dX6_takeAll_8 : decode cX6_takeAll 8 = .ok (.istore_n 2, 1) := by decide +kernel
theorem dX6_takeAll_9 : decode cX6_takeAll 9 = .ok (.iload_n 2, 1) := by decide +kernel
theorem dX6_takeAll_10 : decode cX6_takeAll 10 = .ok (.bipush 12, 2) := by decide +kernel
theorem dX6_takeAll_12 : decode cX6_takeAll 12 = .ok (.if_icmp .ge 103, 3) := by decide +kernel
theorem dX6_takeAll_15 : decode cX6_takeAll 15 = .ok (.iload_n 1, 1) := by decide +kernel
theorem dX6_takeAll_16 : decode cX6_takeAll 16 = .ok (.ifCond .eq 99, 3) := by decide +kernel
theorem dX6_takeAll_19 : decode cX6_takeAll 19 = .ok (.aload_n 0, 1) := by decide +kernel
theorem dX6_takeAll_20 : decode cX6_takeAll 20 = .ok (.getfield 9, 3) := by decide +kernel
theorem dX6_takeAll_23 : decode cX6_takeAll 23 = .ok (.iload_n 2, 1) := by decide +kernel
theorem dX6_takeAll_24 : decode cX6_takeAll 24 = .ok (.aload_n 0, 1) := by decide +kernel
theorem dX6_takeAll_25 : decode cX6_takeAll 25 = .ok (.bipush 45, 2) := by decide +kernel
theorem dX6_takeAll_27 : decode cX6_takeAll 27 = .ok (.invokevirtual 35, 3) := by decide +kernel
theorem dX6_takeAll_30 : decode cX6_takeAll 30 = .ok (.ifCond .eq 7, 3) := by decide +kernel
theorem dX6_takeAll_33 : decode cX6_takeAll 33 = .ok (.iconst 0, 1) := by decide +kernel
theorem dX6_takeAll_34 : decode cX6_takeAll 34 = .ok (.goto 15, 3) := by decide +kernel
theorem dX6_takeAll_37 : decode cX6_takeAll 37 = .ok (.aload_n 0, 1) := by decide +kernel
theorem dX6_takeAll_38 : decode cX6_takeAll 38 = .ok (.aload_n 0, 1) := by decide +kernel
theorem dX6_takeAll_39 : decode cX6_takeAll 39 = .ok (.getfield 15, 3) := by decide +kernel
theorem dX6_takeAll_42 : decode cX6_takeAll 42 = .ok (.iconst 2, 1) := by decide +kernel
theorem dX6_takeAll_43 : decode cX6_takeAll 43 = .ok (.iload_n 2, 1) := by decide +kernel
theorem dX6_takeAll_44 : decode cX6_takeAll 44 = .ok (.imul, 1) := by decide +kernel
theorem dX6_takeAll_45 : decode cX6_takeAll 45 = .ok (.iconst 2, 1) := by decide +kernel
theorem dX6_takeAll_46 : decode cX6_takeAll 46 = .ok (.invokevirtual 39, 3) := by decide +kernel
theorem dX6_takeAll_49 : decode cX6_takeAll 49 = .ok (.iastore, 1) := by decide +kernel
theorem dX6_takeAll_50 : decode cX6_takeAll 50 = .ok (.aload_n 0, 1) := by decide +kernel
theorem dX6_takeAll_51 : decode cX6_takeAll 51 = .ok (.bipush 62, 2) := by decide +kernel
theorem dX6_takeAll_53 : decode cX6_takeAll 53 = .ok (.invokevirtual 43, 3) := by decide +kernel
theorem dX6_takeAll_56 : decode cX6_takeAll 56 = .ok (.aload_n 0, 1) := by decide +kernel
theorem dX6_takeAll_57 : decode cX6_takeAll 57 = .ok (.getfield 19, 3) := by decide +kernel
theorem dX6_takeAll_60 : decode cX6_takeAll 60 = .ok (.iload_n 2, 1) := by decide +kernel
theorem dX6_takeAll_61 : decode cX6_takeAll 61 = .ok (.aload_n 0, 1) := by decide +kernel
theorem dX6_takeAll_62 : decode cX6_takeAll 62 = .ok (.aload_n 0, 1) := by decide +kernel
theorem dX6_takeAll_63 : decode cX6_takeAll 63 = .ok (.getfield 22, 3) := by decide +kernel
theorem dX6_takeAll_66 : decode cX6_takeAll 66 = .ok (.bipush 12, 2) := by decide +kernel
theorem dX6_takeAll_68 : decode cX6_takeAll 68 = .ok (.iload_n 2, 1) := by decide +kernel
theorem dX6_takeAll_69 : decode cX6_takeAll 69 = .ok (.imul, 1) := by decide +kernel
theorem dX6_takeAll_70 : decode cX6_takeAll 70 = .ok (.bipush 12, 2) := by decide +kernel
theorem dX6_takeAll_72 : decode cX6_takeAll 72 = .ok (.invokevirtual 39, 3) := by decide +kernel
theorem dX6_takeAll_75 : decode cX6_takeAll 75 = .ok (.iastore, 1) := by decide +kernel
theorem dX6_takeAll_76 : decode cX6_takeAll 76 = .ok (.aload_n 0, 1) := by decide +kernel
theorem dX6_takeAll_77 : decode cX6_takeAll 77 = .ok (.dup, 1) := by decide +kernel
theorem dX6_takeAll_78 : decode cX6_takeAll 78 = .ok (.getfield 25, 3) := by decide +kernel
theorem dX6_takeAll_81 : decode cX6_takeAll 81 = .ok (.iconst 1, 1) := by decide +kernel
theorem dX6_takeAll_82 : decode cX6_takeAll 82 = .ok (.iadd, 1) := by decide +kernel
theorem dX6_takeAll_83 : decode cX6_takeAll 83 = .ok (.putfield 25, 3) := by decide +kernel
theorem dX6_takeAll_86 : decode cX6_takeAll 86 = .ok (.iload_n 2, 1) := by decide +kernel
theorem dX6_takeAll_87 : decode cX6_takeAll 87 = .ok (.iconst 1, 1) := by decide +kernel
theorem dX6_takeAll_88 : decode cX6_takeAll 88 = .ok (.iadd, 1) := by decide +kernel
theorem dX6_takeAll_89 : decode cX6_takeAll 89 = .ok (.bipush 12, 2) := by decide +kernel
theorem dX6_takeAll_91 : decode cX6_takeAll 91 = .ok (.if_icmp .ge 16, 3) := by decide +kernel
theorem dX6_takeAll_94 : decode cX6_takeAll 94 = .ok (.aload_n 0, 1) := by decide +kernel
theorem dX6_takeAll_95 : decode cX6_takeAll 95 = .ok (.bipush 59, 2) := by decide +kernel
theorem dX6_takeAll_97 : decode cX6_takeAll 97 = .ok (.invokevirtual 35, 3) := by decide +kernel
theorem dX6_takeAll_100 : decode cX6_takeAll 100 = .ok (.ifCond .eq 7, 3) := by decide +kernel
theorem dX6_takeAll_103 : decode cX6_takeAll 103 = .ok (.iconst 1, 1) := by decide +kernel
theorem dX6_takeAll_104 : decode cX6_takeAll 104 = .ok (.goto 4, 3) := by decide +kernel
theorem dX6_takeAll_107 : decode cX6_takeAll 107 = .ok (.iconst 0, 1) := by decide +kernel
theorem dX6_takeAll_108 : decode cX6_takeAll 108 = .ok (.istore_n 1, 1) := by decide +kernel
theorem dX6_takeAll_109 : decode cX6_takeAll 109 = .ok (.iinc 2 1, 3) := by decide +kernel
theorem dX6_takeAll_112 : decode cX6_takeAll 112 = .ok (.goto (-103), 3) := by decide +kernel
theorem dX6_takeAll_115 : decode cX6_takeAll 115 = .ok (.return_, 1) := by decide +kernel
theorem dX6_takeWords_0 : decode cX6_takeWords 0 = .ok (.iconst 0, 1) := by decide +kernel
theorem dX6_takeWords_1 : decode cX6_takeWords 1 = .ok (.istore 4, 2) := by decide +kernel
theorem dX6_takeWords_3 : decode cX6_takeWords 3 = .ok (.iconst 0, 1) := by decide +kernel
theorem dX6_takeWords_4 : decode cX6_takeWords 4 = .ok (.istore 5, 2) := by decide +kernel
theorem dX6_takeWords_6 : decode cX6_takeWords 6 = .ok (.iload 5, 2) := by decide +kernel
theorem dX6_takeWords_8 : decode cX6_takeWords 8 = .ok (.iload_n 3, 1) := by decide +kernel
theorem dX6_takeWords_9 : decode cX6_takeWords 9 = .ok (.if_icmp .ge 45, 3) := by decide +kernel
theorem dX6_takeWords_12 : decode cX6_takeWords 12 = .ok (.iload_n 2, 1) := by decide +kernel
theorem dX6_takeWords_13 : decode cX6_takeWords 13 = .ok (.iload 5, 2) := by decide +kernel
theorem dX6_takeWords_15 : decode cX6_takeWords 15 = .ok (.iadd, 1) := by decide +kernel
theorem dX6_takeWords_16 : decode cX6_takeWords 16 = .ok (.aload_n 1, 1) := by decide +kernel
theorem dX6_takeWords_17 : decode cX6_takeWords 17 = .ok (.arraylength, 1) := by decide +kernel
theorem dX6_takeWords_18 : decode cX6_takeWords 18 = .ok (.if_icmp .ge 36, 3) := by decide +kernel
theorem dX6_takeWords_21 : decode cX6_takeWords 21 = .ok (.aload_n 0, 1) := by decide +kernel
theorem dX6_takeWords_22 : decode cX6_takeWords 22 = .ok (.invokevirtual 47, 3) := by decide +kernel
theorem dX6_takeWords_25 : decode cX6_takeWords 25 = .ok (.sipush 1000, 3) := by decide +kernel
theorem dX6_takeWords_28 : decode cX6_takeWords 28 = .ok (.if_icmp .ne 26, 3) := by decide +kernel
theorem dX6_takeWords_31 : decode cX6_takeWords 31 = .ok (.aload_n 1, 1) := by decide +kernel
theorem dX6_takeWords_32 : decode cX6_takeWords 32 = .ok (.iload_n 2, 1) := by decide +kernel
theorem dX6_takeWords_33 : decode cX6_takeWords 33 = .ok (.iload 5, 2) := by decide +kernel
theorem dX6_takeWords_35 : decode cX6_takeWords 35 = .ok (.iadd, 1) := by decide +kernel
theorem dX6_takeWords_36 : decode cX6_takeWords 36 = .ok (.aload_n 0, 1) := by decide +kernel
theorem dX6_takeWords_37 : decode cX6_takeWords 37 = .ok (.invokevirtual 51, 3) := by decide +kernel
theorem dX6_takeWords_40 : decode cX6_takeWords 40 = .ok (.lastore, 1) := by decide +kernel
theorem dX6_takeWords_41 : decode cX6_takeWords 41 = .ok (.iinc 4 1, 3) := by decide +kernel
theorem dX6_takeWords_44 : decode cX6_takeWords 44 = .ok (.aload_n 0, 1) := by decide +kernel
theorem dX6_takeWords_45 : decode cX6_takeWords 45 = .ok (.invokevirtual 55, 3) := by decide +kernel
theorem dX6_takeWords_48 : decode cX6_takeWords 48 = .ok (.iinc 5 1, 3) := by decide +kernel
theorem dX6_takeWords_51 : decode cX6_takeWords 51 = .ok (.goto (-45), 3) := by decide +kernel
theorem dX6_takeWords_54 : decode cX6_takeWords 54 = .ok (.iload 4, 2) := by decide +kernel
theorem dX6_takeWords_56 : decode cX6_takeWords 56 = .ok (.ifCond .ne 7, 3) := by decide +kernel
theorem dX6_takeWords_59 : decode cX6_takeWords 59 = .ok (.aload_n 0, 1) := by decide +kernel
theorem dX6_takeWords_60 : decode cX6_takeWords 60 = .ok (.invokevirtual 58, 3) := by decide +kernel
theorem dX6_takeWords_63 : decode cX6_takeWords 63 = .ok (.iload 4, 2) := by decide +kernel
theorem dX6_takeWords_65 : decode cX6_takeWords 65 = .ok (.ireturn, 1) := by decide +kernel
theorem dX6_items_0 : decode cX6_items 0 = .ok (.aload_n 0, 1) := by decide +kernel
theorem dX6_items_1 : decode cX6_items 1 = .ok (.getfield 25, 3) := by decide +kernel
theorem dX6_items_4 : decode cX6_items 4 = .ok (.ireturn, 1) := by decide +kernel
theorem dX6_cueWordsOf_0 : decode cX6_cueWordsOf 0 = .ok (.iload_n 1, 1) := by decide +kernel
theorem dX6_cueWordsOf_1 : decode cX6_cueWordsOf 1 = .ok (.ifCond .lt 21, 3) := by decide +kernel
theorem dX6_cueWordsOf_4 : decode cX6_cueWordsOf 4 = .ok (.iload_n 1, 1) := by decide +kernel
theorem dX6_cueWordsOf_5 : decode cX6_cueWordsOf 5 = .ok (.aload_n 0, 1) := by decide +kernel
theorem dX6_cueWordsOf_6 : decode cX6_cueWordsOf 6 = .ok (.getfield 9, 3) := by decide +kernel
theorem dX6_cueWordsOf_9 : decode cX6_cueWordsOf 9 = .ok (.arraylength, 1) := by decide +kernel
theorem dX6_cueWordsOf_10 : decode cX6_cueWordsOf 10 = .ok (.if_icmp .ge 12, 3) := by decide +kernel
theorem dX6_cueWordsOf_13 : decode cX6_cueWordsOf 13 = .ok (.aload_n 0, 1) := by decide +kernel
theorem dX6_cueWordsOf_14 : decode cX6_cueWordsOf 14 = .ok (.getfield 9, 3) := by decide +kernel
theorem dX6_cueWordsOf_17 : decode cX6_cueWordsOf 17 = .ok (.iload_n 1, 1) := by decide +kernel
theorem dX6_cueWordsOf_18 : decode cX6_cueWordsOf 18 = .ok (.iaload, 1) := by decide +kernel
theorem dX6_cueWordsOf_19 : decode cX6_cueWordsOf 19 = .ok (.goto 4, 3) := by decide +kernel
theorem dX6_cueWordsOf_22 : decode cX6_cueWordsOf 22 = .ok (.iconst 0, 1) := by decide +kernel
theorem dX6_cueWordsOf_23 : decode cX6_cueWordsOf 23 = .ok (.ireturn, 1) := by decide +kernel
theorem dX6_cueWord_0 : decode cX6_cueWord 0 = .ok (.iconst 2, 1) := by decide +kernel
theorem dX6_cueWord_1 : decode cX6_cueWord 1 = .ok (.iload_n 1, 1) := by decide +kernel
theorem dX6_cueWord_2 : decode cX6_cueWord 2 = .ok (.imul, 1) := by decide +kernel
theorem dX6_cueWord_3 : decode cX6_cueWord 3 = .ok (.iload_n 2, 1) := by decide +kernel
theorem dX6_cueWord_4 : decode cX6_cueWord 4 = .ok (.iadd, 1) := by decide +kernel
theorem dX6_cueWord_5 : decode cX6_cueWord 5 = .ok (.istore_n 3, 1) := by decide +kernel
theorem dX6_cueWord_6 : decode cX6_cueWord 6 = .ok (.iload_n 3, 1) := by decide +kernel
theorem dX6_cueWord_7 : decode cX6_cueWord 7 = .ok (.ifCond .lt 21, 3) := by decide +kernel
theorem dX6_cueWord_10 : decode cX6_cueWord 10 = .ok (.iload_n 3, 1) := by decide +kernel
theorem dX6_cueWord_11 : decode cX6_cueWord 11 = .ok (.aload_n 0, 1) := by decide +kernel
theorem dX6_cueWord_12 : decode cX6_cueWord 12 = .ok (.getfield 15, 3) := by decide +kernel
theorem dX6_cueWord_15 : decode cX6_cueWord 15 = .ok (.arraylength, 1) := by decide +kernel
theorem dX6_cueWord_16 : decode cX6_cueWord 16 = .ok (.if_icmp .ge 12, 3) := by decide +kernel
theorem dX6_cueWord_19 : decode cX6_cueWord 19 = .ok (.aload_n 0, 1) := by decide +kernel
theorem dX6_cueWord_20 : decode cX6_cueWord 20 = .ok (.getfield 15, 3) := by decide +kernel
theorem dX6_cueWord_23 : decode cX6_cueWord 23 = .ok (.iload_n 3, 1) := by decide +kernel
theorem dX6_cueWord_24 : decode cX6_cueWord 24 = .ok (.laload, 1) := by decide +kernel
theorem dX6_cueWord_25 : decode cX6_cueWord 25 = .ok (.goto 4, 3) := by decide +kernel
theorem dX6_cueWord_28 : decode cX6_cueWord 28 = .ok (.lconst 0, 1) := by decide +kernel
theorem dX6_cueWord_29 : decode cX6_cueWord 29 = .ok (.lreturn, 1) := by decide +kernel
theorem dX6_wordsOf_0 : decode cX6_wordsOf 0 = .ok (.iload_n 1, 1) := by decide +kernel
theorem dX6_wordsOf_1 : decode cX6_wordsOf 1 = .ok (.ifCond .lt 21, 3) := by decide +kernel
theorem dX6_wordsOf_4 : decode cX6_wordsOf 4 = .ok (.iload_n 1, 1) := by decide +kernel
theorem dX6_wordsOf_5 : decode cX6_wordsOf 5 = .ok (.aload_n 0, 1) := by decide +kernel
theorem dX6_wordsOf_6 : decode cX6_wordsOf 6 = .ok (.getfield 19, 3) := by decide +kernel
theorem dX6_wordsOf_9 : decode cX6_wordsOf 9 = .ok (.arraylength, 1) := by decide +kernel
theorem dX6_wordsOf_10 : decode cX6_wordsOf 10 = .ok (.if_icmp .ge 12, 3) := by decide +kernel
theorem dX6_wordsOf_13 : decode cX6_wordsOf 13 = .ok (.aload_n 0, 1) := by decide +kernel
theorem dX6_wordsOf_14 : decode cX6_wordsOf 14 = .ok (.getfield 19, 3) := by decide +kernel
theorem dX6_wordsOf_17 : decode cX6_wordsOf 17 = .ok (.iload_n 1, 1) := by decide +kernel
theorem dX6_wordsOf_18 : decode cX6_wordsOf 18 = .ok (.iaload, 1) := by decide +kernel
theorem dX6_wordsOf_19 : decode cX6_wordsOf 19 = .ok (.goto 4, 3) := by decide +kernel
theorem dX6_wordsOf_22 : decode cX6_wordsOf 22 = .ok (.iconst 0, 1) := by decide +kernel
theorem dX6_wordsOf_23 : decode cX6_wordsOf 23 = .ok (.ireturn, 1) := by decide +kernel
theorem dX6_word_0 : decode cX6_word 0 = .ok (.bipush 12, 2) := by decide +kernel
theorem dX6_word_2 : decode cX6_word 2 = .ok (.iload_n 1, 1) := by decide +kernel
theorem dX6_word_3 : decode cX6_word 3 = .ok (.imul, 1) := by decide +kernel
theorem dX6_word_4 : decode cX6_word 4 = .ok (.iload_n 2, 1) := by decide +kernel
theorem dX6_word_5 : decode cX6_word 5 = .ok (.iadd, 1) := by decide +kernel
theorem dX6_word_6 : decode cX6_word 6 = .ok (.istore_n 3, 1) := by decide +kernel
theorem dX6_word_7 : decode cX6_word 7 = .ok (.iload_n 3, 1) := by decide +kernel
theorem dX6_word_8 : decode cX6_word 8 = .ok (.ifCond .lt 21, 3) := by decide +kernel
theorem dX6_word_11 : decode cX6_word 11 = .ok (.iload_n 3, 1) := by decide +kernel
theorem dX6_word_12 : decode cX6_word 12 = .ok (.aload_n 0, 1) := by decide +kernel
theorem dX6_word_13 : decode cX6_word 13 = .ok (.getfield 22, 3) := by decide +kernel
theorem dX6_word_16 : decode cX6_word 16 = .ok (.arraylength, 1) := by decide +kernel
theorem dX6_word_17 : decode cX6_word 17 = .ok (.if_icmp .ge 12, 3) := by decide +kernel
theorem dX6_word_20 : decode cX6_word 20 = .ok (.aload_n 0, 1) := by decide +kernel
theorem dX6_word_21 : decode cX6_word 21 = .ok (.getfield 22, 3) := by decide +kernel
theorem dX6_word_24 : decode cX6_word 24 = .ok (.iload_n 3, 1) := by decide +kernel
theorem dX6_word_25 : decode cX6_word 25 = .ok (.laload, 1) := by decide +kernel
theorem dX6_word_26 : decode cX6_word 26 = .ok (.goto 4, 3) := by decide +kernel
theorem dX6_word_29 : decode cX6_word 29 = .ok (.lconst 0, 1) := by decide +kernel
theorem dX6_word_30 : decode cX6_word 30 = .ok (.lreturn, 1) := by decide +kernel
theorem dX7_init_0 : decode cX7_init 0 = .ok (.aload_n 0, 1) := by decide +kernel
theorem dX7_init_1 : decode cX7_init 1 = .ok (.invokespecial 5, 3) := by decide +kernel
theorem dX7_init_4 : decode cX7_init 4 = .ok (.aload_n 0, 1) := by decide +kernel
theorem dX7_init_5 : decode cX7_init 5 = .ok (.bipush 8, 2) := by decide +kernel
theorem dX7_init_7 : decode cX7_init 7 = .ok (.newarray .int, 2) := by decide +kernel
theorem dX7_init_9 : decode cX7_init 9 = .ok (.putfield 11, 3) := by decide +kernel
theorem dX7_init_12 : decode cX7_init 12 = .ok (.aload_n 0, 1) := by decide +kernel
theorem dX7_init_13 : decode cX7_init 13 = .ok (.bipush 8, 2) := by decide +kernel
theorem dX7_init_15 : decode cX7_init 15 = .ok (.newarray .int, 2) := by decide +kernel
theorem dX7_init_17 : decode cX7_init 17 = .ok (.putfield 15, 3) := by decide +kernel
theorem dX7_init_20 : decode cX7_init 20 = .ok (.aload_n 0, 1) := by decide +kernel
theorem dX7_init_21 : decode cX7_init 21 = .ok (.sipush 128, 3) := by decide +kernel
theorem dX7_init_24 : decode cX7_init 24 = .ok (.newarray .int, 2) := by decide +kernel
theorem dX7_init_26 : decode cX7_init 26 = .ok (.putfield 18, 3) := by decide +kernel
theorem dX7_init_29 : decode cX7_init 29 = .ok (.aload_n 0, 1) := by decide +kernel
theorem dX7_init_30 : decode cX7_init 30 = .ok (.sipush 256, 3) := by decide +kernel
theorem dX7_init_33 : decode cX7_init 33 = .ok (.newarray .long, 2) := by decide +kernel
theorem dX7_init_35 : decode cX7_init 35 = .ok (.putfield 21, 3) := by decide +kernel
theorem dX7_init_38 : decode cX7_init 38 = .ok (.aload_n 0, 1) := by decide +kernel
theorem dX7_init_39 : decode cX7_init 39 = .ok (.sipush 128, 3) := by decide +kernel
theorem dX7_init_42 : decode cX7_init 42 = .ok (.newarray .int, 2) := by decide +kernel
theorem dX7_init_44 : decode cX7_init 44 = .ok (.putfield 25, 3) := by decide +kernel
theorem dX7_init_47 : decode cX7_init 47 = .ok (.aload_n 0, 1) := by decide +kernel
theorem dX7_init_48 : decode cX7_init 48 = .ok (.sipush 1536, 3) := by decide +kernel
theorem dX7_init_51 : decode cX7_init 51 = .ok (.newarray .long, 2) := by decide +kernel
theorem dX7_init_53 : decode cX7_init 53 = .ok (.putfield 28, 3) := by decide +kernel
theorem dX7_init_56 : decode cX7_init 56 = .ok (.aload_n 0, 1) := by decide +kernel
theorem dX7_init_57 : decode cX7_init 57 = .ok (.bipush 96, 2) := by decide +kernel
theorem dX7_init_59 : decode cX7_init 59 = .ok (.newarray .int, 2) := by decide +kernel
theorem dX7_init_61 : decode cX7_init 61 = .ok (.putfield 31, 3) := by decide +kernel
theorem dX7_init_64 : decode cX7_init 64 = .ok (.aload_n 0, 1) := by decide +kernel
theorem dX7_init_65 : decode cX7_init 65 = .ok (.iconst 0, 1) := by decide +kernel
theorem dX7_init_66 : decode cX7_init 66 = .ok (.putfield 34, 3) := by decide +kernel
theorem dX7_init_69 : decode cX7_init 69 = .ok (.aload_n 0, 1) := by decide +kernel
theorem dX7_init_70 : decode cX7_init 70 = .ok (.iconst 0, 1) := by decide +kernel
theorem dX7_init_71 : decode cX7_init 71 = .ok (.putfield 38, 3) := by decide +kernel
theorem dX7_init_74 : decode cX7_init 74 = .ok (.aload_n 0, 1) := by decide +kernel
theorem dX7_init_75 : decode cX7_init 75 = .ok (.iconst 0, 1) := by decide +kernel
theorem dX7_init_76 : decode cX7_init 76 = .ok (.putfield 41, 3) := by decide +kernel
theorem dX7_init_79 : decode cX7_init 79 = .ok (.return_, 1) := by decide +kernel
theorem dX7_rollOf_0 : decode cX7_rollOf 0 = .ok (.iload_n 0, 1) := by decide +kernel
theorem dX7_rollOf_1 : decode cX7_rollOf 1 = .ok (.bipush 16, 2) := by decide +kernel
theorem dX7_rollOf_3 : decode cX7_rollOf 3 = .ok (.idiv, 1) := by decide +kernel
theorem dX7_rollOf_4 : decode cX7_rollOf 4 = .ok (.ireturn, 1) := by decide +kernel
theorem dX7_isIn_0 : decode cX7_isIn 0 = .ok (.iload_n 0, 1) := by decide +kernel
theorem dX7_isIn_1 : decode cX7_isIn 1 = .ok (.ifCond .lt 21, 3) := by decide +kernel
theorem dX7_isIn_4 : decode cX7_isIn 4 = .ok (.iload_n 0, 1) := by decide +kernel
theorem dX7_isIn_5 : decode cX7_isIn 5 = .ok (.bipush 8, 2) := by decide +kernel
theorem dX7_isIn_7 : decode cX7_isIn 7 = .ok (.if_icmp .ge 15, 3) := by decide +kernel
theorem dX7_isIn_10 : decode cX7_isIn 10 = .ok (.iload_n 1, 1) := by decide +kernel
theorem dX7_isIn_11 : decode cX7_isIn 11 = .ok (.iload_n 0, 1) := by decide +kernel
theorem dX7_isIn_12 : decode cX7_isIn 12 = .ok (.ishr, 1) := by decide +kernel
theorem dX7_isIn_13 : decode cX7_isIn 13 = .ok (.iconst 1, 1) := by decide +kernel
theorem dX7_isIn_14 : decode cX7_isIn 14 = .ok (.iand, 1) := by decide +kernel
theorem dX7_isIn_15 : decode cX7_isIn 15 = .ok (.ifCond .eq 7, 3) := by decide +kernel
theorem dX7_isIn_18 : decode cX7_isIn 18 = .ok (.iconst 1, 1) := by decide +kernel
theorem dX7_isIn_19 : decode cX7_isIn 19 = .ok (.goto 4, 3) := by decide +kernel
theorem dX7_isIn_22 : decode cX7_isIn 22 = .ok (.iconst 0, 1) := by decide +kernel
theorem dX7_isIn_23 : decode cX7_isIn 23 = .ok (.ireturn, 1) := by decide +kernel
theorem dX7_isOf_0 : decode cX7_isOf 0 = .ok (.iload_n 0, 1) := by decide +kernel
theorem dX7_isOf_1 : decode cX7_isOf 1 = .ok (.ifCond .lt 18, 3) := by decide +kernel
theorem dX7_isOf_4 : decode cX7_isOf 4 = .ok (.iload_n 0, 1) := by decide +kernel
theorem dX7_isOf_5 : decode cX7_isOf 5 = .ok (.invokestatic 44, 3) := by decide +kernel
theorem dX7_isOf_8 : decode cX7_isOf 8 = .ok (.iload_n 1, 1) := by decide +kernel
theorem dX7_isOf_9 : decode cX7_isOf 9 = .ok (.invokestatic 48, 3) := by decide +kernel
theorem dX7_isOf_12 : decode cX7_isOf 12 = .ok (.ifCond .eq 7, 3) := by decide +kernel
theorem dX7_isOf_15 : decode cX7_isOf 15 = .ok (.iconst 1, 1) := by decide +kernel
theorem dX7_isOf_16 : decode cX7_isOf 16 = .ok (.goto 4, 3) := by decide +kernel
theorem dX7_isOf_19 : decode cX7_isOf 19 = .ok (.iconst 0, 1) := by decide +kernel
theorem dX7_isOf_20 : decode cX7_isOf 20 = .ok (.ireturn, 1) := by decide +kernel
theorem dX7_number_0 : decode cX7_number 0 = .ok (.aload_n 0, 1) := by decide +kernel
theorem dX7_number_1 : decode cX7_number 1 = .ok (.getfield 38, 3) := by decide +kernel
theorem dX7_number_4 : decode cX7_number 4 = .ok (.ireturn, 1) := by decide +kernel
theorem dX7_changes_0 : decode cX7_changes 0 = .ok (.aload_n 0, 1) := by decide +kernel
theorem dX7_changes_1 : decode cX7_changes 1 = .ok (.getfield 41, 3) := by decide +kernel
theorem dX7_changes_4 : decode cX7_changes 4 = .ok (.ireturn, 1) := by decide +kernel
theorem dX7_hasRoll_0 : decode cX7_hasRoll 0 = .ok (.iload_n 1, 1) := by decide +kernel
theorem dX7_hasRoll_1 : decode cX7_hasRoll 1 = .ok (.ifCond .lt 21, 3) := by decide +kernel
theorem dX7_hasRoll_4 : decode cX7_hasRoll 4 = .ok (.iload_n 1, 1) := by decide +kernel
theorem dX7_hasRoll_5 : decode cX7_hasRoll 5 = .ok (.aload_n 0, 1) := by decide +kernel
theorem dX7_hasRoll_6 : decode cX7_hasRoll 6 = .ok (.getfield 38, 3) := by decide +kernel
theorem dX7_hasRoll_9 : decode cX7_hasRoll 9 = .ok (.if_icmp .ge 13, 3) := by decide +kernel
theorem dX7_hasRoll_12 : decode cX7_hasRoll 12 = .ok (.iload_n 1, 1) := by decide +kernel
theorem dX7_hasRoll_13 : decode cX7_hasRoll 13 = .ok (.bipush 8, 2) := by decide +kernel
theorem dX7_hasRoll_15 : decode cX7_hasRoll 15 = .ok (.if_icmp .ge 7, 3) := by decide +kernel
theorem dX7_hasRoll_18 : decode cX7_hasRoll 18 = .ok (.iconst 1, 1) := by decide +kernel
theorem dX7_hasRoll_19 : decode cX7_hasRoll 19 = .ok (.goto 4, 3) := by decide +kernel
theorem dX7_hasRoll_22 : decode cX7_hasRoll 22 = .ok (.iconst 0, 1) := by decide +kernel
theorem dX7_hasRoll_23 : decode cX7_hasRoll 23 = .ok (.ireturn, 1) := by decide +kernel
theorem dX7_haveAll_0 : decode cX7_haveAll 0 = .ok (.iload_n 1, 1) := by decide +kernel
theorem dX7_haveAll_1 : decode cX7_haveAll 1 = .ok (.ifCond .le 17, 3) := by decide +kernel
theorem dX7_haveAll_4 : decode cX7_haveAll 4 = .ok (.iload_n 1, 1) := by decide +kernel
theorem dX7_haveAll_5 : decode cX7_haveAll 5 = .ok (.iconst 1, 1) := by decide +kernel
theorem dX7_haveAll_6 : decode cX7_haveAll 6 = .ok (.aload_n 0, 1) := by decide +kernel
theorem dX7_haveAll_7 : decode cX7_haveAll 7 = .ok (.getfield 38, 3) := by decide +kernel
theorem dX7_haveAll_10 : decode cX7_haveAll 10 = .ok (.ishl, 1) := by decide +kernel
theorem dX7_haveAll_11 : decode cX7_haveAll 11 = .ok (.if_icmp .ge 7, 3) := by decide +kernel
theorem dX7_haveAll_14 : decode cX7_haveAll 14 = .ok (.iconst 1, 1) := by decide +kernel
theorem dX7_haveAll_15 : decode cX7_haveAll 15 = .ok (.goto 4, 3) := by decide +kernel
theorem dX7_haveAll_18 : decode cX7_haveAll 18 = .ok (.iconst 0, 1) := by decide +kernel
theorem dX7_haveAll_19 : decode cX7_haveAll 19 = .ok (.ireturn, 1) := by decide +kernel
theorem dX7_has_0 : decode cX7_has 0 = .ok (.iload_n 1, 1) := by decide +kernel
theorem dX7_has_1 : decode cX7_has 1 = .ok (.invokestatic 44, 3) := by decide +kernel
theorem dX7_has_4 : decode cX7_has 4 = .ok (.istore_n 2, 1) := by decide +kernel
theorem dX7_has_5 : decode cX7_has 5 = .ok (.iload_n 1, 1) := by decide +kernel
theorem dX7_has_6 : decode cX7_has 6 = .ok (.ifCond .lt 37, 3) := by decide +kernel
theorem dX7_has_9 : decode cX7_has 9 = .ok (.iload_n 2, 1) := by decide +kernel
theorem dX7_has_10 : decode cX7_has 10 = .ok (.aload_n 0, 1) := by decide +kernel
theorem dX7_has_11 : decode cX7_has 11 = .ok (.getfield 38, 3) := by decide +kernel
theorem dX7_has_14 : decode cX7_has 14 = .ok (.if_icmp .ge 29, 3) := by decide +kernel
theorem dX7_has_17 : decode cX7_has 17 = .ok (.iload_n 2, 1) := by decide +kernel
theorem dX7_has_18 : decode cX7_has 18 = .ok (.aload_n 0, 1) := by decide +kernel
theorem dX7_has_19 : decode cX7_has 19 = .ok (.getfield 11, 3) := by decide +kernel
theorem dX7_has_22 : decode cX7_has 22 = .ok (.arraylength, 1) := by decide +kernel
theorem dX7_has_23 : decode cX7_has 23 = .ok (.if_icmp .ge 20, 3) := by decide +kernel
theorem dX7_has_26 : decode cX7_has 26 = .ok (.iload_n 1, 1) := by decide +kernel
theorem dX7_has_27 : decode cX7_has 27 = .ok (.bipush 16, 2) := by decide +kernel
theorem dX7_has_29 : decode cX7_has 29 = .ok (.irem, 1) := by decide +kernel
theorem dX7_has_30 : decode cX7_has 30 = .ok (.aload_n 0, 1) := by decide +kernel
theorem dX7_has_31 : decode cX7_has 31 = .ok (.getfield 11, 3) := by decide +kernel
theorem dX7_has_34 : decode cX7_has 34 = .ok (.iload_n 2, 1) := by decide +kernel
theorem dX7_has_35 : decode cX7_has 35 = .ok (.iaload, 1) := by decide +kernel
theorem dX7_has_36 : decode cX7_has 36 = .ok (.if_icmp .ge 7, 3) := by decide +kernel
theorem dX7_has_39 : decode cX7_has 39 = .ok (.iconst 1, 1) := by decide +kernel
theorem dX7_has_40 : decode cX7_has 40 = .ok (.goto 4, 3) := by decide +kernel
theorem dX7_has_43 : decode cX7_has 43 = .ok (.iconst 0, 1) := by decide +kernel
theorem dX7_has_44 : decode cX7_has 44 = .ok (.ireturn, 1) := by decide +kernel
theorem dX7_hasCue_0 : decode cX7_hasCue 0 = .ok (.aload_n 0, 1) := by decide +kernel
theorem dX7_hasCue_1 : decode cX7_hasCue 1 = .ok (.iload_n 1, 1) := by decide +kernel
theorem dX7_hasCue_2 : decode cX7_hasCue 2 = .ok (.invokevirtual 52, 3) := by decide +kernel
theorem dX7_hasCue_5 : decode cX7_hasCue 5 = .ok (.ifCond .eq 16, 3) := by decide +kernel
theorem dX7_hasCue_8 : decode cX7_hasCue 8 = .ok (.aload_n 0, 1) := by decide +kernel
theorem dX7_hasCue_9 : decode cX7_hasCue 9 = .ok (.getfield 18, 3) := by decide +kernel
theorem dX7_hasCue_12 : decode cX7_hasCue 12 = .ok (.iload_n 1, 1) := by decide +kernel
theorem dX7_hasCue_13 : decode cX7_hasCue 13 = .ok (.iaload, 1) := by decide +kernel
theorem dX7_hasCue_14 : decode cX7_hasCue 14 = .ok (.ifCond .le 7, 3) := by decide +kernel
theorem dX7_hasCue_17 : decode cX7_hasCue 17 = .ok (.iconst 1, 1) := by decide +kernel
theorem dX7_hasCue_18 : decode cX7_hasCue 18 = .ok (.goto 4, 3) := by decide +kernel
theorem dX7_hasCue_21 : decode cX7_hasCue 21 = .ok (.iconst 0, 1) := by decide +kernel
theorem dX7_hasCue_22 : decode cX7_hasCue 22 = .ok (.ireturn, 1) := by decide +kernel
theorem dX7_sizeOf_0 : decode cX7_sizeOf 0 = .ok (.iload_n 1, 1) := by decide +kernel
theorem dX7_sizeOf_1 : decode cX7_sizeOf 1 = .ok (.ifCond .lt 29, 3) := by decide +kernel
theorem dX7_sizeOf_4 : decode cX7_sizeOf 4 = .ok (.iload_n 1, 1) := by decide +kernel
theorem dX7_sizeOf_5 : decode cX7_sizeOf 5 = .ok (.aload_n 0, 1) := by decide +kernel
theorem dX7_sizeOf_6 : decode cX7_sizeOf 6 = .ok (.getfield 38, 3) := by decide +kernel
theorem dX7_sizeOf_9 : decode cX7_sizeOf 9 = .ok (.if_icmp .ge 21, 3) := by decide +kernel
theorem dX7_sizeOf_12 : decode cX7_sizeOf 12 = .ok (.iload_n 1, 1) := by decide +kernel
theorem dX7_sizeOf_13 : decode cX7_sizeOf 13 = .ok (.aload_n 0, 1) := by decide +kernel
theorem dX7_sizeOf_14 : decode cX7_sizeOf 14 = .ok (.getfield 11, 3) := by decide +kernel
theorem dX7_sizeOf_17 : decode cX7_sizeOf 17 = .ok (.arraylength, 1) := by decide +kernel
theorem dX7_sizeOf_18 : decode cX7_sizeOf 18 = .ok (.if_icmp .ge 12, 3) := by decide +kernel
theorem dX7_sizeOf_21 : decode cX7_sizeOf 21 = .ok (.aload_n 0, 1) := by decide +kernel
theorem dX7_sizeOf_22 : decode cX7_sizeOf 22 = .ok (.getfield 11, 3) := by decide +kernel
theorem dX7_sizeOf_25 : decode cX7_sizeOf 25 = .ok (.iload_n 1, 1) := by decide +kernel
theorem dX7_sizeOf_26 : decode cX7_sizeOf 26 = .ok (.iaload, 1) := by decide +kernel
theorem dX7_sizeOf_27 : decode cX7_sizeOf 27 = .ok (.goto 4, 3) := by decide +kernel
theorem dX7_sizeOf_30 : decode cX7_sizeOf 30 = .ok (.iconst 0, 1) := by decide +kernel
theorem dX7_sizeOf_31 : decode cX7_sizeOf 31 = .ok (.ireturn, 1) := by decide +kernel
theorem dX7_speeches_0 : decode cX7_speeches 0 = .ok (.aload_n 0, 1) := by decide +kernel
theorem dX7_speeches_1 : decode cX7_speeches 1 = .ok (.getfield 34, 3) := by decide +kernel
theorem dX7_speeches_4 : decode cX7_speeches 4 = .ok (.ireturn, 1) := by decide +kernel
theorem dX7_speechAt_0 : decode cX7_speechAt 0 = .ok (.iload_n 1, 1) := by decide +kernel
theorem dX7_speechAt_1 : decode cX7_speechAt 1 = .ok (.ifCond .lt 29, 3) := by decide +kernel
theorem dX7_speechAt_4 : decode cX7_speechAt 4 = .ok (.iload_n 1, 1) := by decide +kernel
theorem dX7_speechAt_5 : decode cX7_speechAt 5 = .ok (.aload_n 0, 1) := by decide +kernel
theorem dX7_speechAt_6 : decode cX7_speechAt 6 = .ok (.getfield 34, 3) := by decide +kernel
theorem dX7_speechAt_9 : decode cX7_speechAt 9 = .ok (.if_icmp .ge 21, 3) := by decide +kernel
theorem dX7_speechAt_12 : decode cX7_speechAt 12 = .ok (.iload_n 1, 1) := by decide +kernel
theorem dX7_speechAt_13 : decode cX7_speechAt 13 = .ok (.aload_n 0, 1) := by decide +kernel
theorem dX7_speechAt_14 : decode cX7_speechAt 14 = .ok (.getfield 31, 3) := by decide +kernel
theorem dX7_speechAt_17 : decode cX7_speechAt 17 = .ok (.arraylength, 1) := by decide +kernel
theorem dX7_speechAt_18 : decode cX7_speechAt 18 = .ok (.if_icmp .ge 12, 3) := by decide +kernel
theorem dX7_speechAt_21 : decode cX7_speechAt 21 = .ok (.aload_n 0, 1) := by decide +kernel
theorem dX7_speechAt_22 : decode cX7_speechAt 22 = .ok (.getfield 31, 3) := by decide +kernel
theorem dX7_speechAt_25 : decode cX7_speechAt 25 = .ok (.iload_n 1, 1) := by decide +kernel
theorem dX7_speechAt_26 : decode cX7_speechAt 26 = .ok (.iaload, 1) := by decide +kernel
theorem dX7_speechAt_27 : decode cX7_speechAt 27 = .ok (.goto 4, 3) := by decide +kernel
theorem dX7_speechAt_30 : decode cX7_speechAt 30 = .ok (.iconst (-1), 1) := by decide +kernel
theorem dX7_speechAt_31 : decode cX7_speechAt 31 = .ok (.ireturn, 1) := by decide +kernel
theorem dX7_wordsOf_0 : decode cX7_wordsOf 0 = .ok (.iload_n 1, 1) := by decide +kernel
theorem dX7_wordsOf_1 : decode cX7_wordsOf 1 = .ok (.ifCond .lt 21, 3) := by decide +kernel
theorem dX7_wordsOf_4 : decode cX7_wordsOf 4 = .ok (.iload_n 1, 1) := by decide +kernel
theorem dX7_wordsOf_5 : decode cX7_wordsOf 5 = .ok (.aload_n 0, 1) := by decide +kernel
theorem dX7_wordsOf_6 : decode cX7_wordsOf 6 = .ok (.getfield 25, 3) := by decide +kernel
theorem dX7_wordsOf_9 : decode cX7_wordsOf 9 = .ok (.arraylength, 1) := by decide +kernel
theorem dX7_wordsOf_10 : decode cX7_wordsOf 10 = .ok (.if_icmp .ge 12, 3) := by decide +kernel
theorem dX7_wordsOf_13 : decode cX7_wordsOf 13 = .ok (.aload_n 0, 1) := by decide +kernel
theorem dX7_wordsOf_14 : decode cX7_wordsOf 14 = .ok (.getfield 25, 3) := by decide +kernel
theorem dX7_wordsOf_17 : decode cX7_wordsOf 17 = .ok (.iload_n 1, 1) := by decide +kernel
theorem dX7_wordsOf_18 : decode cX7_wordsOf 18 = .ok (.iaload, 1) := by decide +kernel
theorem dX7_wordsOf_19 : decode cX7_wordsOf 19 = .ok (.goto 4, 3) := by decide +kernel
theorem dX7_wordsOf_22 : decode cX7_wordsOf 22 = .ok (.iconst 0, 1) := by decide +kernel
theorem dX7_wordsOf_23 : decode cX7_wordsOf 23 = .ok (.ireturn, 1) := by decide +kernel
theorem dX7_word_0 : decode cX7_word 0 = .ok (.iload_n 1, 1) := by decide +kernel
theorem dX7_word_1 : decode cX7_word 1 = .ok (.ifCond .lt 23, 3) := by decide +kernel
theorem dX7_word_4 : decode cX7_word 4 = .ok (.iload_n 1, 1) := by decide +kernel
theorem dX7_word_5 : decode cX7_word 5 = .ok (.sipush 128, 3) := by decide +kernel
theorem dX7_word_8 : decode cX7_word 8 = .ok (.if_icmp .ge 16, 3) := by decide +kernel
theorem dX7_word_11 : decode cX7_word 11 = .ok (.iload_n 2, 1) := by decide +kernel
theorem dX7_word_12 : decode cX7_word 12 = .ok (.ifCond .lt 12, 3) := by decide +kernel
theorem dX7_word_15 : decode cX7_word 15 = .ok (.iload_n 2, 1) := by decide +kernel
theorem dX7_word_16 : decode cX7_word 16 = .ok (.aload_n 0, 1) := by decide +kernel
theorem dX7_word_17 : decode cX7_word 17 = .ok (.iload_n 1, 1) := by decide +kernel
theorem dX7_word_18 : decode cX7_word 18 = .ok (.invokevirtual 56, 3) := by decide +kernel
theorem dX7_word_21 : decode cX7_word 21 = .ok (.if_icmp .lt 5, 3) := by decide +kernel
theorem dX7_word_24 : decode cX7_word 24 = .ok (.lconst 0, 1) := by decide +kernel
theorem dX7_word_25 : decode cX7_word 25 = .ok (.lreturn, 1) := by decide +kernel
theorem dX7_word_26 : decode cX7_word 26 = .ok (.bipush 12, 2) := by decide +kernel
theorem dX7_word_28 : decode cX7_word 28 = .ok (.iload_n 1, 1) := by decide +kernel
theorem dX7_word_29 : decode cX7_word 29 = .ok (.imul, 1) := by decide +kernel
theorem dX7_word_30 : decode cX7_word 30 = .ok (.iload_n 2, 1) := by decide +kernel
theorem dX7_word_31 : decode cX7_word 31 = .ok (.iadd, 1) := by decide +kernel
theorem dX7_word_32 : decode cX7_word 32 = .ok (.istore_n 3, 1) := by decide +kernel
theorem dX7_word_33 : decode cX7_word 33 = .ok (.iload_n 3, 1) := by decide +kernel
theorem dX7_word_34 : decode cX7_word 34 = .ok (.aload_n 0, 1) := by decide +kernel
theorem dX7_word_35 : decode cX7_word 35 = .ok (.getfield 28, 3) := by decide +kernel
theorem dX7_word_38 : decode cX7_word 38 = .ok (.arraylength, 1) := by decide +kernel
theorem dX7_word_39 : decode cX7_word 39 = .ok (.if_icmp .ge 12, 3) := by decide +kernel
theorem dX7_word_42 : decode cX7_word 42 = .ok (.aload_n 0, 1) := by decide +kernel
theorem dX7_word_43 : decode cX7_word 43 = .ok (.getfield 28, 3) := by decide +kernel
theorem dX7_word_46 : decode cX7_word 46 = .ok (.iload_n 3, 1) := by decide +kernel
theorem dX7_word_47 : decode cX7_word 47 = .ok (.laload, 1) := by decide +kernel
theorem dX7_word_48 : decode cX7_word 48 = .ok (.goto 4, 3) := by decide +kernel
theorem dX7_word_51 : decode cX7_word 51 = .ok (.lconst 0, 1) := by decide +kernel
theorem dX7_word_52 : decode cX7_word 52 = .ok (.lreturn, 1) := by decide +kernel
theorem dX7_lastWord_0 : decode cX7_lastWord 0 = .ok (.aload_n 0, 1) := by decide +kernel
theorem dX7_lastWord_1 : decode cX7_lastWord 1 = .ok (.iload_n 1, 1) := by decide +kernel
theorem dX7_lastWord_2 : decode cX7_lastWord 2 = .ok (.aload_n 0, 1) := by decide +kernel
theorem dX7_lastWord_3 : decode cX7_lastWord 3 = .ok (.iload_n 1, 1) := by decide +kernel
theorem dX7_lastWord_4 : decode cX7_lastWord 4 = .ok (.invokevirtual 56, 3) := by decide +kernel
theorem dX7_lastWord_7 : decode cX7_lastWord 7 = .ok (.iconst 1, 1) := by decide +kernel
theorem dX7_lastWord_8 : decode cX7_lastWord 8 = .ok (.isub, 1) := by decide +kernel
theorem dX7_lastWord_9 : decode cX7_lastWord 9 = .ok (.invokevirtual 59, 3) := by decide +kernel
theorem dX7_lastWord_12 : decode cX7_lastWord 12 = .ok (.lreturn, 1) := by decide +kernel
theorem dX7_lastButOne_0 : decode cX7_lastButOne 0 = .ok (.aload_n 0, 1) := by decide +kernel
theorem dX7_lastButOne_1 : decode cX7_lastButOne 1 = .ok (.iload_n 1, 1) := by decide +kernel
theorem dX7_lastButOne_2 : decode cX7_lastButOne 2 = .ok (.aload_n 0, 1) := by decide +kernel
theorem dX7_lastButOne_3 : decode cX7_lastButOne 3 = .ok (.iload_n 1, 1) := by decide +kernel
theorem dX7_lastButOne_4 : decode cX7_lastButOne 4 = .ok (.invokevirtual 56, 3) := by decide +kernel
theorem dX7_lastButOne_7 : decode cX7_lastButOne 7 = .ok (.iconst 2, 1) := by decide +kernel
theorem dX7_lastButOne_8 : decode cX7_lastButOne 8 = .ok (.isub, 1) := by decide +kernel
theorem dX7_lastButOne_9 : decode cX7_lastButOne 9 = .ok (.invokevirtual 59, 3) := by decide +kernel
theorem dX7_lastButOne_12 : decode cX7_lastButOne 12 = .ok (.lreturn, 1) := by decide +kernel
theorem dX7_cueWordsOf_0 : decode cX7_cueWordsOf 0 = .ok (.iload_n 1, 1) := by decide +kernel
theorem dX7_cueWordsOf_1 : decode cX7_cueWordsOf 1 = .ok (.ifCond .lt 21, 3) := by decide +kernel
theorem dX7_cueWordsOf_4 : decode cX7_cueWordsOf 4 = .ok (.iload_n 1, 1) := by decide +kernel
theorem dX7_cueWordsOf_5 : decode cX7_cueWordsOf 5 = .ok (.aload_n 0, 1) := by decide +kernel
theorem dX7_cueWordsOf_6 : decode cX7_cueWordsOf 6 = .ok (.getfield 18, 3) := by decide +kernel
theorem dX7_cueWordsOf_9 : decode cX7_cueWordsOf 9 = .ok (.arraylength, 1) := by decide +kernel
theorem dX7_cueWordsOf_10 : decode cX7_cueWordsOf 10 = .ok (.if_icmp .ge 12, 3) := by decide +kernel
theorem dX7_cueWordsOf_13 : decode cX7_cueWordsOf 13 = .ok (.aload_n 0, 1) := by decide +kernel
theorem dX7_cueWordsOf_14 : decode cX7_cueWordsOf 14 = .ok (.getfield 18, 3) := by decide +kernel
theorem dX7_cueWordsOf_17 : decode cX7_cueWordsOf 17 = .ok (.iload_n 1, 1) := by decide +kernel
theorem dX7_cueWordsOf_18 : decode cX7_cueWordsOf 18 = .ok (.iaload, 1) := by decide +kernel
theorem dX7_cueWordsOf_19 : decode cX7_cueWordsOf 19 = .ok (.goto 4, 3) := by decide +kernel
theorem dX7_cueWordsOf_22 : decode cX7_cueWordsOf 22 = .ok (.iconst 0, 1) := by decide +kernel
theorem dX7_cueWordsOf_23 : decode cX7_cueWordsOf 23 = .ok (.ireturn, 1) := by decide +kernel
theorem dX7_cueWord_0 : decode cX7_cueWord 0 = .ok (.iload_n 1, 1) := by decide +kernel
theorem dX7_cueWord_1 : decode cX7_cueWord 1 = .ok (.ifCond .lt 23, 3) := by decide +kernel
theorem dX7_cueWord_4 : decode cX7_cueWord 4 = .ok (.iload_n 1, 1) := by decide +kernel
theorem dX7_cueWord_5 : decode cX7_cueWord 5 = .ok (.sipush 128, 3) := by decide +kernel
theorem dX7_cueWord_8 : decode cX7_cueWord 8 = .ok (.if_icmp .ge 16, 3) := by decide +kernel
theorem dX7_cueWord_11 : decode cX7_cueWord 11 = .ok (.iload_n 2, 1) := by decide +kernel
theorem dX7_cueWord_12 : decode cX7_cueWord 12 = .ok (.ifCond .lt 12, 3) := by decide +kernel
theorem dX7_cueWord_15 : decode cX7_cueWord 15 = .ok (.iload_n 2, 1) := by decide +kernel
theorem dX7_cueWord_16 : decode cX7_cueWord 16 = .ok (.aload_n 0, 1) := by decide +kernel
theorem dX7_cueWord_17 : decode cX7_cueWord 17 = .ok (.iload_n 1, 1) := by decide +kernel
theorem dX7_cueWord_18 : decode cX7_cueWord 18 = .ok (.invokevirtual 63, 3) := by decide +kernel
theorem dX7_cueWord_21 : decode cX7_cueWord 21 = .ok (.if_icmp .lt 5, 3) := by decide +kernel
theorem dX7_cueWord_24 : decode cX7_cueWord 24 = .ok (.lconst 0, 1) := by decide +kernel
theorem dX7_cueWord_25 : decode cX7_cueWord 25 = .ok (.lreturn, 1) := by decide +kernel
theorem dX7_cueWord_26 : decode cX7_cueWord 26 = .ok (.iconst 2, 1) := by decide +kernel
theorem dX7_cueWord_27 : decode cX7_cueWord 27 = .ok (.iload_n 1, 1) := by decide +kernel
theorem dX7_cueWord_28 : decode cX7_cueWord 28 = .ok (.imul, 1) := by decide +kernel
theorem dX7_cueWord_29 : decode cX7_cueWord 29 = .ok (.iload_n 2, 1) := by decide +kernel
theorem dX7_cueWord_30 : decode cX7_cueWord 30 = .ok (.iadd, 1) := by decide +kernel
theorem dX7_cueWord_31 : decode cX7_cueWord 31 = .ok (.istore_n 3, 1) := by decide +kernel
theorem dX7_cueWord_32 : decode cX7_cueWord 32 = .ok (.iload_n 3, 1) := by decide +kernel
theorem dX7_cueWord_33 : decode cX7_cueWord 33 = .ok (.aload_n 0, 1) := by decide +kernel
theorem dX7_cueWord_34 : decode cX7_cueWord 34 = .ok (.getfield 21, 3) := by decide +kernel
theorem dX7_cueWord_37 : decode cX7_cueWord 37 = .ok (.arraylength, 1) := by decide +kernel
theorem dX7_cueWord_38 : decode cX7_cueWord 38 = .ok (.if_icmp .ge 12, 3) := by decide +kernel
theorem dX7_cueWord_41 : decode cX7_cueWord 41 = .ok (.aload_n 0, 1) := by decide +kernel
theorem dX7_cueWord_42 : decode cX7_cueWord 42 = .ok (.getfield 21, 3) := by decide +kernel
theorem dX7_cueWord_45 : decode cX7_cueWord 45 = .ok (.iload_n 3, 1) := by decide +kernel
theorem dX7_cueWord_46 : decode cX7_cueWord 46 = .ok (.laload, 1) := by decide +kernel
theorem dX7_cueWord_47 : decode cX7_cueWord 47 = .ok (.goto 4, 3) := by decide +kernel
theorem dX7_cueWord_50 : decode cX7_cueWord 50 = .ok (.lconst 0, 1) := by decide +kernel
theorem dX7_cueWord_51 : decode cX7_cueWord 51 = .ok (.lreturn, 1) := by decide +kernel
theorem dX7_lastCueWord_0 : decode cX7_lastCueWord 0 = .ok (.aload_n 0, 1) := by decide +kernel
theorem dX7_lastCueWord_1 : decode cX7_lastCueWord 1 = .ok (.iload_n 1, 1) := by decide +kernel
theorem dX7_lastCueWord_2 : decode cX7_lastCueWord 2 = .ok (.aload_n 0, 1) := by decide +kernel
theorem dX7_lastCueWord_3 : decode cX7_lastCueWord 3 = .ok (.iload_n 1, 1) := by decide +kernel
theorem dX7_lastCueWord_4 : decode cX7_lastCueWord 4 = .ok (.invokevirtual 63, 3) := by decide +kernel
theorem dX7_lastCueWord_7 : decode cX7_lastCueWord 7 = .ok (.iconst 1, 1) := by decide +kernel
theorem dX7_lastCueWord_8 : decode cX7_lastCueWord 8 = .ok (.isub, 1) := by decide +kernel
theorem dX7_lastCueWord_9 : decode cX7_lastCueWord 9 = .ok (.invokevirtual 66, 3) := by decide +kernel
theorem dX7_lastCueWord_12 : decode cX7_lastCueWord 12 = .ok (.lreturn, 1) := by decide +kernel
theorem dX7_lastCueWordButOne_0 : decode cX7_lastCueWordButOne 0 = .ok (.aload_n 0, 1) := by decide +kernel
theorem dX7_lastCueWordButOne_1 : decode cX7_lastCueWordButOne 1 = .ok (.iload_n 1, 1) := by decide +kernel
theorem dX7_lastCueWordButOne_2 : decode cX7_lastCueWordButOne 2 = .ok (.aload_n 0, 1) := by decide +kernel
theorem dX7_lastCueWordButOne_3 : decode cX7_lastCueWordButOne 3 = .ok (.iload_n 1, 1) := by decide +kernel
theorem dX7_lastCueWordButOne_4 : decode cX7_lastCueWordButOne 4 = .ok (.invokevirtual 63, 3) := by decide +kernel
theorem dX7_lastCueWordButOne_7 : decode cX7_lastCueWordButOne 7 = .ok (.iconst 2, 1) := by decide +kernel
theorem dX7_lastCueWordButOne_8 : decode cX7_lastCueWordButOne 8 = .ok (.isub, 1) := by decide +kernel
theorem dX7_lastCueWordButOne_9 : decode cX7_lastCueWordButOne 9 = .ok (.invokevirtual 66, 3) := by decide +kernel
theorem dX7_lastCueWordButOne_12 : decode cX7_lastCueWordButOne 12 = .ok (.lreturn, 1) := by decide +kernel
theorem dX7_habitOf_0 : decode cX7_habitOf 0 = .ok (.aload_n 0, 1) := by decide +kernel
theorem dX7_habitOf_1 : decode cX7_habitOf 1 = .ok (.iload_n 1, 1) := by decide +kernel
theorem dX7_habitOf_2 : decode cX7_habitOf 2 = .ok (.invokevirtual 69, 3) := by decide +kernel
theorem dX7_habitOf_5 : decode cX7_habitOf 5 = .ok (.ifCond .eq 12, 3) := by decide +kernel
theorem dX7_habitOf_8 : decode cX7_habitOf 8 = .ok (.aload_n 0, 1) := by decide +kernel
theorem dX7_habitOf_9 : decode cX7_habitOf 9 = .ok (.getfield 15, 3) := by decide +kernel
theorem dX7_habitOf_12 : decode cX7_habitOf 12 = .ok (.iload_n 1, 1) := by decide +kernel
theorem dX7_habitOf_13 : decode cX7_habitOf 13 = .ok (.iaload, 1) := by decide +kernel
theorem dX7_habitOf_14 : decode cX7_habitOf 14 = .ok (.goto 4, 3) := by decide +kernel
theorem dX7_habitOf_17 : decode cX7_habitOf 17 = .ok (.iconst (-1), 1) := by decide +kernel
theorem dX7_habitOf_18 : decode cX7_habitOf 18 = .ok (.ireturn, 1) := by decide +kernel
theorem dX7_setHabit_0 : decode cX7_setHabit 0 = .ok (.aload_n 0, 1) := by decide +kernel
theorem dX7_setHabit_1 : decode cX7_setHabit 1 = .ok (.iload_n 1, 1) := by decide +kernel
theorem dX7_setHabit_2 : decode cX7_setHabit 2 = .ok (.invokevirtual 69, 3) := by decide +kernel
theorem dX7_setHabit_5 : decode cX7_setHabit 5 = .ok (.ifCond .eq 10, 3) := by decide +kernel
theorem dX7_setHabit_8 : decode cX7_setHabit 8 = .ok (.aload_n 0, 1) := by decide +kernel
theorem dX7_setHabit_9 : decode cX7_setHabit 9 = .ok (.getfield 15, 3) := by decide +kernel
theorem dX7_setHabit_12 : decode cX7_setHabit 12 = .ok (.iload_n 1, 1) := by decide +kernel
theorem dX7_setHabit_13 : decode cX7_setHabit 13 = .ok (.iload_n 2, 1) := by decide +kernel
theorem dX7_setHabit_14 : decode cX7_setHabit 14 = .ok (.iastore, 1) := by decide +kernel
theorem dX7_setHabit_15 : decode cX7_setHabit 15 = .ok (.return_, 1) := by decide +kernel
theorem dX7_add_0 : decode cX7_add 0 = .ok (.aload_n 1, 1) := by decide +kernel
theorem dX7_add_1 : decode cX7_add 1 = .ok (.ifnull 19, 3) := by decide +kernel
theorem dX7_add_4 : decode cX7_add 4 = .ok (.aload_n 0, 1) := by decide +kernel
theorem dX7_add_5 : decode cX7_add 5 = .ok (.getfield 38, 3) := by decide +kernel
theorem dX7_add_8 : decode cX7_add 8 = .ok (.ifCond .lt 12, 3) := by decide +kernel
theorem dX7_add_11 : decode cX7_add 11 = .ok (.aload_n 0, 1) := by decide +kernel
theorem dX7_add_12 : decode cX7_add 12 = .ok (.getfield 38, 3) := by decide +kernel
theorem dX7_add_15 : decode cX7_add 15 = .ok (.bipush 8, 2) := by decide +kernel
theorem dX7_add_17 : decode cX7_add 17 = .ok (.if_icmp .lt 5, 3) := by decide +kernel
theorem dX7_add_20 : decode cX7_add 20 = .ok (.iconst (-1), 1) := by decide +kernel
theorem dX7_add_21 : decode cX7_add 21 = .ok (.ireturn, 1) := by decide +kernel
theorem dX7_add_22 : decode cX7_add 22 = .ok (.iconst 0, 1) := by decide +kernel
theorem dX7_add_23 : decode cX7_add 23 = .ok (.istore_n 2, 1) := by decide +kernel
theorem dX7_add_24 : decode cX7_add 24 = .ok (.iload_n 2, 1) := by decide +kernel
theorem dX7_add_25 : decode cX7_add 25 = .ok (.aload_n 1, 1) := by decide +kernel
theorem dX7_add_26 : decode cX7_add 26 = .ok (.invokevirtual 72, 3) := by decide +kernel
theorem dX7_add_29 : decode cX7_add 29 = .ok (.if_icmp .ge 77, 3) := by decide +kernel
theorem dX7_add_32 : decode cX7_add 32 = .ok (.iload_n 2, 1) := by decide +kernel
theorem dX7_add_33 : decode cX7_add 33 = .ok (.bipush 12, 2) := by decide +kernel
theorem dX7_add_35 : decode cX7_add 35 = .ok (.if_icmp .ge 71, 3) := by decide +kernel
theorem dX7_add_38 : decode cX7_add 38 = .ok (.aload_n 0, 1) := by decide +kernel
theorem dX7_add_39 : decode cX7_add 39 = .ok (.bipush 16, 2) := by decide +kernel
theorem dX7_add_41 : decode cX7_add 41 = .ok (.aload_n 0, 1) := by decide +kernel
theorem dX7_add_42 : decode cX7_add 42 = .ok (.getfield 38, 3) := by decide +kernel
theorem dX7_add_45 : decode cX7_add 45 = .ok (.imul, 1) := by decide +kernel
theorem dX7_add_46 : decode cX7_add 46 = .ok (.iload_n 2, 1) := by decide +kernel
theorem dX7_add_47 : decode cX7_add 47 = .ok (.iadd, 1) := by decide +kernel
theorem dX7_add_48 : decode cX7_add 48 = .ok (.aload_n 1, 1) := by decide +kernel
theorem dX7_add_49 : decode cX7_add 49 = .ok (.iload_n 2, 1) := by decide +kernel
theorem dX7_add_50 : decode cX7_add 50 = .ok (.invokevirtual 78, 3) := by decide +kernel
theorem dX7_add_53 : decode cX7_add 53 = .ok (.aload_n 0, 1) := by decide +kernel
theorem dX7_add_54 : decode cX7_add 54 = .ok (.getfield 34, 3) := by decide +kernel
theorem dX7_add_57 : decode cX7_add 57 = .ok (.ifCond .lt 43, 3) := by decide +kernel
theorem dX7_add_60 : decode cX7_add 60 = .ok (.aload_n 0, 1) := by decide +kernel
theorem dX7_add_61 : decode cX7_add 61 = .ok (.getfield 34, 3) := by decide +kernel
theorem dX7_add_64 : decode cX7_add 64 = .ok (.aload_n 0, 1) := by decide +kernel
theorem dX7_add_65 : decode cX7_add 65 = .ok (.getfield 31, 3) := by decide +kernel
theorem dX7_add_68 : decode cX7_add 68 = .ok (.arraylength, 1) := by decide +kernel
theorem dX7_add_69 : decode cX7_add 69 = .ok (.if_icmp .ge 31, 3) := by decide +kernel
theorem dX7_add_72 : decode cX7_add 72 = .ok (.aload_n 0, 1) := by decide +kernel
theorem dX7_add_73 : decode cX7_add 73 = .ok (.getfield 31, 3) := by decide +kernel
theorem dX7_add_76 : decode cX7_add 76 = .ok (.aload_n 0, 1) := by decide +kernel
theorem dX7_add_77 : decode cX7_add 77 = .ok (.getfield 34, 3) := by decide +kernel
theorem dX7_add_80 : decode cX7_add 80 = .ok (.bipush 16, 2) := by decide +kernel
theorem dX7_add_82 : decode cX7_add 82 = .ok (.aload_n 0, 1) := by decide +kernel
theorem dX7_add_83 : decode cX7_add 83 = .ok (.getfield 38, 3) := by decide +kernel
theorem dX7_add_86 : decode cX7_add 86 = .ok (.imul, 1) := by decide +kernel
theorem dX7_add_87 : decode cX7_add 87 = .ok (.iload_n 2, 1) := by decide +kernel
theorem dX7_add_88 : decode cX7_add 88 = .ok (.iadd, 1) := by decide +kernel
theorem dX7_add_89 : decode cX7_add 89 = .ok (.iastore, 1) := by decide +kernel
theorem dX7_add_90 : decode cX7_add 90 = .ok (.aload_n 0, 1) := by decide +kernel
theorem dX7_add_91 : decode cX7_add 91 = .ok (.dup, 1) := by decide +kernel
theorem dX7_add_92 : decode cX7_add 92 = .ok (.getfield 34, 3) := by decide +kernel
theorem dX7_add_95 : decode cX7_add 95 = .ok (.iconst 1, 1) := by decide +kernel
theorem dX7_add_96 : decode cX7_add 96 = .ok (.iadd, 1) := by decide +kernel
theorem dX7_add_97 : decode cX7_add 97 = .ok (.putfield 34, 3) := by decide +kernel
theorem dX7_add_100 : decode cX7_add 100 = .ok (.iinc 2 1, 3) := by decide +kernel
theorem dX7_add_103 : decode cX7_add 103 = .ok (.goto (-79), 3) := by decide +kernel
theorem dX7_add_106 : decode cX7_add 106 = .ok (.aload_n 0, 1) := by decide +kernel
theorem dX7_add_107 : decode cX7_add 107 = .ok (.getfield 11, 3) := by decide +kernel
theorem dX7_add_110 : decode cX7_add 110 = .ok (.aload_n 0, 1) := by decide +kernel
theorem dX7_add_111 : decode cX7_add 111 = .ok (.getfield 38, 3) := by decide +kernel
theorem dX7_add_114 : decode cX7_add 114 = .ok (.aload_n 1, 1) := by decide +kernel
theorem dX7_add_115 : decode cX7_add 115 = .ok (.invokevirtual 72, 3) := by decide +kernel
theorem dX7_add_118 : decode cX7_add 118 = .ok (.iastore, 1) := by decide +kernel
theorem dX7_add_119 : decode cX7_add 119 = .ok (.aload_n 0, 1) := by decide +kernel
theorem dX7_add_120 : decode cX7_add 120 = .ok (.getfield 15, 3) := by decide +kernel
theorem dX7_add_123 : decode cX7_add 123 = .ok (.aload_n 0, 1) := by decide +kernel
theorem dX7_add_124 : decode cX7_add 124 = .ok (.getfield 38, 3) := by decide +kernel
theorem dX7_add_127 : decode cX7_add 127 = .ok (.iconst (-1), 1) := by decide +kernel
theorem dX7_add_128 : decode cX7_add 128 = .ok (.iastore, 1) := by decide +kernel
theorem dX7_add_129 : decode cX7_add 129 = .ok (.aload_n 0, 1) := by decide +kernel
theorem dX7_add_130 : decode cX7_add 130 = .ok (.dup, 1) := by decide +kernel
theorem dX7_add_131 : decode cX7_add 131 = .ok (.getfield 38, 3) := by decide +kernel
theorem dX7_add_134 : decode cX7_add 134 = .ok (.iconst 1, 1) := by decide +kernel
theorem dX7_add_135 : decode cX7_add 135 = .ok (.iadd, 1) := by decide +kernel
theorem dX7_add_136 : decode cX7_add 136 = .ok (.putfield 38, 3) := by decide +kernel
theorem dX7_add_139 : decode cX7_add 139 = .ok (.aload_n 0, 1) := by decide +kernel
theorem dX7_add_140 : decode cX7_add 140 = .ok (.dup, 1) := by decide +kernel
theorem dX7_add_141 : decode cX7_add 141 = .ok (.getfield 41, 3) := by decide +kernel
theorem dX7_add_144 : decode cX7_add 144 = .ok (.iconst 1, 1) := by decide +kernel
theorem dX7_add_145 : decode cX7_add 145 = .ok (.iadd, 1) := by decide +kernel
theorem dX7_add_146 : decode cX7_add 146 = .ok (.putfield 41, 3) := by decide +kernel
theorem dX7_add_149 : decode cX7_add 149 = .ok (.aload_n 0, 1) := by decide +kernel
theorem dX7_add_150 : decode cX7_add 150 = .ok (.getfield 38, 3) := by decide +kernel
theorem dX7_add_153 : decode cX7_add 153 = .ok (.iconst 1, 1) := by decide +kernel
theorem dX7_add_154 : decode cX7_add 154 = .ok (.isub, 1) := by decide +kernel
theorem dX7_add_155 : decode cX7_add 155 = .ok (.ireturn, 1) := by decide +kernel
theorem dX7_fill_0 : decode cX7_fill 0 = .ok (.iload_n 1, 1) := by decide +kernel
theorem dX7_fill_1 : decode cX7_fill 1 = .ok (.ifCond .lt 10, 3) := by decide +kernel
theorem dX7_fill_4 : decode cX7_fill 4 = .ok (.iload_n 1, 1) := by decide +kernel
theorem dX7_fill_5 : decode cX7_fill 5 = .ok (.sipush 128, 3) := by decide +kernel
theorem dX7_fill_8 : decode cX7_fill 8 = .ok (.if_icmp .lt 4, 3) := by decide +kernel
theorem dX7_fill_11 : decode cX7_fill 11 = .ok (.return_, 1) := by decide +kernel
theorem dX7_fill_12 : decode cX7_fill 12 = .ok (.aload_n 0, 1) := by decide +kernel
theorem dX7_fill_13 : decode cX7_fill 13 = .ok (.getfield 18, 3) := by decide +kernel
theorem dX7_fill_16 : decode cX7_fill 16 = .ok (.iload_n 1, 1) := by decide +kernel
theorem dX7_fill_17 : decode cX7_fill 17 = .ok (.aload_n 2, 1) := by decide +kernel
theorem dX7_fill_18 : decode cX7_fill 18 = .ok (.iload_n 3, 1) := by decide +kernel
theorem dX7_fill_19 : decode cX7_fill 19 = .ok (.invokevirtual 82, 3) := by decide +kernel
theorem dX7_fill_22 : decode cX7_fill 22 = .ok (.iastore, 1) := by decide +kernel
theorem dX7_fill_23 : decode cX7_fill 23 = .ok (.iconst 0, 1) := by decide +kernel
theorem dX7_fill_24 : decode cX7_fill 24 = .ok (.istore 4, 2) := by decide +kernel
theorem dX7_fill_26 : decode cX7_fill 26 = .ok (.iload 4, 2) := by decide +kernel
theorem dX7_fill_28 : decode cX7_fill 28 = .ok (.iconst 2, 1) := by decide +kernel
theorem dX7_fill_29 : decode cX7_fill 29 = .ok (.if_icmp .ge 27, 3) := by decide +kernel
theorem dX7_fill_32 : decode cX7_fill 32 = .ok (.aload_n 0, 1) := by decide +kernel
theorem dX7_fill_33 : decode cX7_fill 33 = .ok (.getfield 21, 3) := by decide +kernel
theorem dX7_fill_36 : decode cX7_fill 36 = .ok (.iconst 2, 1) := by decide +kernel
theorem dX7_fill_37 : decode cX7_fill 37 = .ok (.iload_n 1, 1) := by decide +kernel
theorem dX7_fill_38 : decode cX7_fill 38 = .ok (.imul, 1) := by decide +kernel
theorem dX7_fill_39 : decode cX7_fill 39 = .ok (.iload 4, 2) := by decide +kernel
theorem dX7_fill_41 : decode cX7_fill 41 = .ok (.iadd, 1) := by decide +kernel
theorem dX7_fill_42 : decode cX7_fill 42 = .ok (.aload_n 2, 1) := by decide +kernel
theorem dX7_fill_43 : decode cX7_fill 43 = .ok (.iload_n 3, 1) := by decide +kernel
theorem dX7_fill_44 : decode cX7_fill 44 = .ok (.iload 4, 2) := by decide +kernel
theorem dX7_fill_46 : decode cX7_fill 46 = .ok (.invokevirtual 83, 3) := by decide +kernel
theorem dX7_fill_49 : decode cX7_fill 49 = .ok (.lastore, 1) := by decide +kernel
theorem dX7_fill_50 : decode cX7_fill 50 = .ok (.iinc 4 1, 3) := by decide +kernel
theorem dX7_fill_53 : decode cX7_fill 53 = .ok (.goto (-27), 3) := by decide +kernel
theorem dX7_fill_56 : decode cX7_fill 56 = .ok (.aload_n 0, 1) := by decide +kernel
theorem dX7_fill_57 : decode cX7_fill 57 = .ok (.getfield 25, 3) := by decide +kernel
theorem dX7_fill_60 : decode cX7_fill 60 = .ok (.iload_n 1, 1) := by decide +kernel
theorem dX7_fill_61 : decode cX7_fill 61 = .ok (.aload_n 2, 1) := by decide +kernel
theorem dX7_fill_62 : decode cX7_fill 62 = .ok (.iload_n 3, 1) := by decide +kernel
theorem dX7_fill_63 : decode cX7_fill 63 = .ok (.invokevirtual 84, 3) := by decide +kernel
theorem dX7_fill_66 : decode cX7_fill 66 = .ok (.iastore, 1) := by decide +kernel
theorem dX7_fill_67 : decode cX7_fill 67 = .ok (.iconst 0, 1) := by decide +kernel
theorem dX7_fill_68 : decode cX7_fill 68 = .ok (.istore 4, 2) := by decide +kernel
theorem dX7_fill_70 : decode cX7_fill 70 = .ok (.iload 4, 2) := by decide +kernel
theorem dX7_fill_72 : decode cX7_fill 72 = .ok (.bipush 12, 2) := by decide +kernel
theorem dX7_fill_74 : decode cX7_fill 74 = .ok (.if_icmp .ge 28, 3) := by decide +kernel
theorem dX7_fill_77 : decode cX7_fill 77 = .ok (.aload_n 0, 1) := by decide +kernel
theorem dX7_fill_78 : decode cX7_fill 78 = .ok (.getfield 28, 3) := by decide +kernel
theorem dX7_fill_81 : decode cX7_fill 81 = .ok (.bipush 12, 2) := by decide +kernel
theorem dX7_fill_83 : decode cX7_fill 83 = .ok (.iload_n 1, 1) := by decide +kernel
theorem dX7_fill_84 : decode cX7_fill 84 = .ok (.imul, 1) := by decide +kernel
theorem dX7_fill_85 : decode cX7_fill 85 = .ok (.iload 4, 2) := by decide +kernel
theorem dX7_fill_87 : decode cX7_fill 87 = .ok (.iadd, 1) := by decide +kernel
theorem dX7_fill_88 : decode cX7_fill 88 = .ok (.aload_n 2, 1) := by decide +kernel
theorem dX7_fill_89 : decode cX7_fill 89 = .ok (.iload_n 3, 1) := by decide +kernel
theorem dX7_fill_90 : decode cX7_fill 90 = .ok (.iload 4, 2) := by decide +kernel
theorem dX7_fill_92 : decode cX7_fill 92 = .ok (.invokevirtual 85, 3) := by decide +kernel
theorem dX7_fill_95 : decode cX7_fill 95 = .ok (.lastore, 1) := by decide +kernel
theorem dX7_fill_96 : decode cX7_fill 96 = .ok (.iinc 4 1, 3) := by decide +kernel
theorem dX7_fill_99 : decode cX7_fill 99 = .ok (.goto (-29), 3) := by decide +kernel
theorem dX7_fill_102 : decode cX7_fill 102 = .ok (.return_, 1) := by decide +kernel
theorem dX7_cutTo_0 : decode cX7_cutTo 0 = .ok (.iload_n 1, 1) := by decide +kernel
theorem dX7_cutTo_1 : decode cX7_cutTo 1 = .ok (.ifCond .lt 11, 3) := by decide +kernel
theorem dX7_cutTo_4 : decode cX7_cutTo 4 = .ok (.iload_n 1, 1) := by decide +kernel
theorem dX7_cutTo_5 : decode cX7_cutTo 5 = .ok (.aload_n 0, 1) := by decide +kernel
theorem dX7_cutTo_6 : decode cX7_cutTo 6 = .ok (.getfield 38, 3) := by decide +kernel
theorem dX7_cutTo_9 : decode cX7_cutTo 9 = .ok (.if_icmp .lt 4, 3) := by decide +kernel
theorem dX7_cutTo_12 : decode cX7_cutTo 12 = .ok (.return_, 1) := by decide +kernel
theorem dX7_cutTo_13 : decode cX7_cutTo 13 = .ok (.iload_n 1, 1) := by decide +kernel
theorem dX7_cutTo_14 : decode cX7_cutTo 14 = .ok (.istore_n 2, 1) := by decide +kernel
theorem dX7_cutTo_15 : decode cX7_cutTo 15 = .ok (.iload_n 2, 1) := by decide +kernel
theorem dX7_cutTo_16 : decode cX7_cutTo 16 = .ok (.aload_n 0, 1) := by decide +kernel
theorem dX7_cutTo_17 : decode cX7_cutTo 17 = .ok (.getfield 38, 3) := by decide +kernel
theorem dX7_cutTo_20 : decode cX7_cutTo 20 = .ok (.if_icmp .ge 33, 3) := by decide +kernel
theorem dX7_cutTo_23 : decode cX7_cutTo 23 = .ok (.iload_n 2, 1) := by decide +kernel
theorem dX7_cutTo_24 : decode cX7_cutTo 24 = .ok (.aload_n 0, 1) := by decide +kernel
theorem dX7_cutTo_25 : decode cX7_cutTo 25 = .ok (.getfield 11, 3) := by decide +kernel
theorem dX7_cutTo_28 : decode cX7_cutTo 28 = .ok (.arraylength, 1) := by decide +kernel
theorem dX7_cutTo_29 : decode cX7_cutTo 29 = .ok (.if_icmp .ge 24, 3) := by decide +kernel
theorem dX7_cutTo_32 : decode cX7_cutTo 32 = .ok (.aload_n 0, 1) := by decide +kernel
theorem dX7_cutTo_33 : decode cX7_cutTo 33 = .ok (.dup, 1) := by decide +kernel
theorem dX7_cutTo_34 : decode cX7_cutTo 34 = .ok (.getfield 34, 3) := by decide +kernel
theorem dX7_cutTo_37 : decode cX7_cutTo 37 = .ok (.aload_n 0, 1) := by decide +kernel
theorem dX7_cutTo_38 : decode cX7_cutTo 38 = .ok (.getfield 11, 3) := by decide +kernel
theorem dX7_cutTo_41 : decode cX7_cutTo 41 = .ok (.iload_n 2, 1) := by decide +kernel
theorem dX7_cutTo_42 : decode cX7_cutTo 42 = .ok (.iaload, 1) := by decide +kernel
theorem dX7_cutTo_43 : decode cX7_cutTo 43 = .ok (.isub, 1) := by decide +kernel
theorem dX7_cutTo_44 : decode cX7_cutTo 44 = .ok (.putfield 34, 3) := by decide +kernel
theorem dX7_cutTo_47 : decode cX7_cutTo 47 = .ok (.iinc 2 1, 3) := by decide +kernel
theorem dX7_cutTo_50 : decode cX7_cutTo 50 = .ok (.goto (-35), 3) := by decide +kernel
theorem dX7_cutTo_53 : decode cX7_cutTo 53 = .ok (.aload_n 0, 1) := by decide +kernel
theorem dX7_cutTo_54 : decode cX7_cutTo 54 = .ok (.iload_n 1, 1) := by decide +kernel
theorem dX7_cutTo_55 : decode cX7_cutTo 55 = .ok (.putfield 38, 3) := by decide +kernel
theorem dX7_cutTo_58 : decode cX7_cutTo 58 = .ok (.aload_n 0, 1) := by decide +kernel
theorem dX7_cutTo_59 : decode cX7_cutTo 59 = .ok (.dup, 1) := by decide +kernel
theorem dX7_cutTo_60 : decode cX7_cutTo 60 = .ok (.getfield 41, 3) := by decide +kernel
theorem dX7_cutTo_63 : decode cX7_cutTo 63 = .ok (.iconst 1, 1) := by decide +kernel
theorem dX7_cutTo_64 : decode cX7_cutTo 64 = .ok (.iadd, 1) := by decide +kernel
theorem dX7_cutTo_65 : decode cX7_cutTo 65 = .ok (.putfield 41, 3) := by decide +kernel
theorem dX7_cutTo_68 : decode cX7_cutTo 68 = .ok (.return_, 1) := by decide +kernel
theorem dX8_init_0 : decode cX8_init 0 = .ok (.aload_n 0, 1) := by decide +kernel
theorem dX8_init_1 : decode cX8_init 1 = .ok (.invokespecial 5, 3) := by decide +kernel
theorem dX8_init_4 : decode cX8_init 4 = .ok (.aload_n 0, 1) := by decide +kernel
theorem dX8_init_5 : decode cX8_init 5 = .ok (.aload_n 1, 1) := by decide +kernel
theorem dX8_init_6 : decode cX8_init 6 = .ok (.putfield 11, 3) := by decide +kernel
theorem dX8_init_9 : decode cX8_init 9 = .ok (.aload_n 0, 1) := by decide +kernel
theorem dX8_init_10 : decode cX8_init 10 = .ok (.aload_n 2, 1) := by decide +kernel
theorem dX8_init_11 : decode cX8_init 11 = .ok (.putfield 17, 3) := by decide +kernel
theorem dX8_init_14 : decode cX8_init 14 = .ok (.aload_n 0, 1) := by decide +kernel
theorem dX8_init_15 : decode cX8_init 15 = .ok (.bipush 96, 2) := by decide +kernel
theorem dX8_init_17 : decode cX8_init 17 = .ok (.newarray .int, 2) := by decide +kernel
theorem dX8_init_19 : decode cX8_init 19 = .ok (.putfield 21, 3) := by decide +kernel
theorem dX8_init_22 : decode cX8_init 22 = .ok (.aload_n 0, 1) := by decide +kernel
theorem dX8_init_23 : decode cX8_init 23 = .ok (.bipush 96, 2) := by decide +kernel
theorem dX8_init_25 : decode cX8_init 25 = .ok (.newarray .int, 2) := by decide +kernel
theorem dX8_init_27 : decode cX8_init 27 = .ok (.putfield 25, 3) := by decide +kernel
theorem dX8_init_30 : decode cX8_init 30 = .ok (.aload_n 0, 1) := by decide +kernel
theorem dX8_init_31 : decode cX8_init 31 = .ok (.bipush 8, 2) := by decide +kernel
theorem dX8_init_33 : decode cX8_init 33 = .ok (.newarray .int, 2) := by decide +kernel
theorem dX8_init_35 : decode cX8_init 35 = .ok (.putfield 28, 3) := by decide +kernel
theorem dX8_init_38 : decode cX8_init 38 = .ok (.aload_n 0, 1) := by decide +kernel
theorem dX8_init_39 : decode cX8_init 39 = .ok (.iconst 0, 1) := by decide +kernel
theorem dX8_init_40 : decode cX8_init 40 = .ok (.putfield 31, 3) := by decide +kernel
theorem dX8_init_43 : decode cX8_init 43 = .ok (.aload_n 0, 1) := by decide +kernel
theorem dX8_init_44 : decode cX8_init 44 = .ok (.iconst 0, 1) := by decide +kernel
theorem dX8_init_45 : decode cX8_init 45 = .ok (.putfield 35, 3) := by decide +kernel
theorem dX8_init_48 : decode cX8_init 48 = .ok (.return_, 1) := by decide +kernel
theorem dX8_played_0 : decode cX8_played 0 = .ok (.aload_n 0, 1) := by decide +kernel
theorem dX8_played_1 : decode cX8_played 1 = .ok (.getfield 31, 3) := by decide +kernel
theorem dX8_played_4 : decode cX8_played 4 = .ok (.ireturn, 1) := by decide +kernel
theorem dX8_playedAt_0 : decode cX8_playedAt 0 = .ok (.iload_n 1, 1) := by decide +kernel
theorem dX8_playedAt_1 : decode cX8_playedAt 1 = .ok (.ifCond .lt 29, 3) := by decide +kernel
theorem dX8_playedAt_4 : decode cX8_playedAt 4 = .ok (.iload_n 1, 1) := by decide +kernel
theorem dX8_playedAt_5 : decode cX8_playedAt 5 = .ok (.aload_n 0, 1) := by decide +kernel
theorem dX8_playedAt_6 : decode cX8_playedAt 6 = .ok (.getfield 31, 3) := by decide +kernel
theorem dX8_playedAt_9 : decode cX8_playedAt 9 = .ok (.if_icmp .ge 21, 3) := by decide +kernel
theorem dX8_playedAt_12 : decode cX8_playedAt 12 = .ok (.iload_n 1, 1) := by decide +kernel
theorem dX8_playedAt_13 : decode cX8_playedAt 13 = .ok (.aload_n 0, 1) := by decide +kernel
theorem dX8_playedAt_14 : decode cX8_playedAt 14 = .ok (.getfield 21, 3) := by decide +kernel
theorem dX8_playedAt_17 : decode cX8_playedAt 17 = .ok (.arraylength, 1) := by decide +kernel
theorem dX8_playedAt_18 : decode cX8_playedAt 18 = .ok (.if_icmp .ge 12, 3) := by decide +kernel
theorem dX8_playedAt_21 : decode cX8_playedAt 21 = .ok (.aload_n 0, 1) := by decide +kernel
theorem dX8_playedAt_22 : decode cX8_playedAt 22 = .ok (.getfield 21, 3) := by decide +kernel
theorem dX8_playedAt_25 : decode cX8_playedAt 25 = .ok (.iload_n 1, 1) := by decide +kernel
theorem dX8_playedAt_26 : decode cX8_playedAt 26 = .ok (.iaload, 1) := by decide +kernel
theorem dX8_playedAt_27 : decode cX8_playedAt 27 = .ok (.goto 4, 3) := by decide +kernel
theorem dX8_playedAt_30 : decode cX8_playedAt 30 = .ok (.iconst (-1), 1) := by decide +kernel
theorem dX8_playedAt_31 : decode cX8_playedAt 31 = .ok (.ireturn, 1) := by decide +kernel
theorem dX8_cutTo_0 : decode cX8_cutTo 0 = .ok (.iload_n 1, 1) := by decide +kernel
theorem dX8_cutTo_1 : decode cX8_cutTo 1 = .ok (.ifCond .lt 16, 3) := by decide +kernel
theorem dX8_cutTo_4 : decode cX8_cutTo 4 = .ok (.iload_n 1, 1) := by decide +kernel
theorem dX8_cutTo_5 : decode cX8_cutTo 5 = .ok (.aload_n 0, 1) := by decide +kernel
theorem dX8_cutTo_6 : decode cX8_cutTo 6 = .ok (.getfield 31, 3) := by decide +kernel
theorem dX8_cutTo_9 : decode cX8_cutTo 9 = .ok (.if_icmp .ge 8, 3) := by decide +kernel
theorem dX8_cutTo_12 : decode cX8_cutTo 12 = .ok (.aload_n 0, 1) := by decide +kernel
theorem dX8_cutTo_13 : decode cX8_cutTo 13 = .ok (.iload_n 1, 1) := by decide +kernel
theorem dX8_cutTo_14 : decode cX8_cutTo 14 = .ok (.putfield 31, 3) := by decide +kernel
theorem dX8_cutTo_17 : decode cX8_cutTo 17 = .ok (.return_, 1) := by decide +kernel
theorem dX8_goOn_0 : decode cX8_goOn 0 = .ok (.iconst 0, 1) := by decide +kernel
theorem dX8_goOn_1 : decode cX8_goOn 1 = .ok (.istore_n 2, 1) := by decide +kernel
theorem dX8_goOn_2 : decode cX8_goOn 2 = .ok (.iconst 0, 1) := by decide +kernel
theorem dX8_goOn_3 : decode cX8_goOn 3 = .ok (.istore_n 3, 1) := by decide +kernel
theorem dX8_goOn_4 : decode cX8_goOn 4 = .ok (.iload_n 3, 1) := by decide +kernel
theorem dX8_goOn_5 : decode cX8_goOn 5 = .ok (.aload_n 0, 1) := by decide +kernel
theorem dX8_goOn_6 : decode cX8_goOn 6 = .ok (.getfield 31, 3) := by decide +kernel
theorem dX8_goOn_9 : decode cX8_goOn 9 = .ok (.if_icmp .ge 24, 3) := by decide +kernel
theorem dX8_goOn_12 : decode cX8_goOn 12 = .ok (.aload_n 0, 1) := by decide +kernel
theorem dX8_goOn_13 : decode cX8_goOn 13 = .ok (.iload_n 3, 1) := by decide +kernel
theorem dX8_goOn_14 : decode cX8_goOn 14 = .ok (.invokevirtual 38, 3) := by decide +kernel
theorem dX8_goOn_17 : decode cX8_goOn 17 = .ok (.invokestatic 42, 3) := by decide +kernel
theorem dX8_goOn_20 : decode cX8_goOn 20 = .ok (.iload_n 1, 1) := by decide +kernel
theorem dX8_goOn_21 : decode cX8_goOn 21 = .ok (.if_icmp .ne 6, 3) := by decide +kernel
theorem dX8_goOn_24 : decode cX8_goOn 24 = .ok (.iinc 2 1, 3) := by decide +kernel
theorem dX8_goOn_27 : decode cX8_goOn 27 = .ok (.iinc 3 1, 3) := by decide +kernel
theorem dX8_goOn_30 : decode cX8_goOn 30 = .ok (.goto (-26), 3) := by decide +kernel
theorem dX8_goOn_33 : decode cX8_goOn 33 = .ok (.iload_n 2, 1) := by decide +kernel
theorem dX8_goOn_34 : decode cX8_goOn 34 = .ok (.aload_n 0, 1) := by decide +kernel
theorem dX8_goOn_35 : decode cX8_goOn 35 = .ok (.getfield 11, 3) := by decide +kernel
theorem dX8_goOn_38 : decode cX8_goOn 38 = .ok (.iload_n 1, 1) := by decide +kernel
theorem dX8_goOn_39 : decode cX8_goOn 39 = .ok (.invokevirtual 45, 3) := by decide +kernel
theorem dX8_goOn_42 : decode cX8_goOn 42 = .ok (.if_icmp .ge 22, 3) := by decide +kernel
theorem dX8_goOn_45 : decode cX8_goOn 45 = .ok (.aload_n 0, 1) := by decide +kernel
theorem dX8_goOn_46 : decode cX8_goOn 46 = .ok (.getfield 31, 3) := by decide +kernel
theorem dX8_goOn_49 : decode cX8_goOn 49 = .ok (.ifCond .lt 15, 3) := by decide +kernel
theorem dX8_goOn_52 : decode cX8_goOn 52 = .ok (.aload_n 0, 1) := by decide +kernel
theorem dX8_goOn_53 : decode cX8_goOn 53 = .ok (.getfield 31, 3) := by decide +kernel
theorem dX8_goOn_56 : decode cX8_goOn 56 = .ok (.aload_n 0, 1) := by decide +kernel
theorem dX8_goOn_57 : decode cX8_goOn 57 = .ok (.getfield 21, 3) := by decide +kernel
theorem dX8_goOn_60 : decode cX8_goOn 60 = .ok (.arraylength, 1) := by decide +kernel
theorem dX8_goOn_61 : decode cX8_goOn 61 = .ok (.if_icmp .lt 5, 3) := by decide +kernel
theorem dX8_goOn_64 : decode cX8_goOn 64 = .ok (.iconst (-1), 1) := by decide +kernel
theorem dX8_goOn_65 : decode cX8_goOn 65 = .ok (.ireturn, 1) := by decide +kernel
theorem dX8_goOn_66 : decode cX8_goOn 66 = .ok (.aload_n 0, 1) := by decide +kernel
theorem dX8_goOn_67 : decode cX8_goOn 67 = .ok (.getfield 21, 3) := by decide +kernel
theorem dX8_goOn_70 : decode cX8_goOn 70 = .ok (.aload_n 0, 1) := by decide +kernel
theorem dX8_goOn_71 : decode cX8_goOn 71 = .ok (.getfield 31, 3) := by decide +kernel
theorem dX8_goOn_74 : decode cX8_goOn 74 = .ok (.bipush 16, 2) := by decide +kernel
theorem dX8_goOn_76 : decode cX8_goOn 76 = .ok (.iload_n 1, 1) := by decide +kernel
theorem dX8_goOn_77 : decode cX8_goOn 77 = .ok (.imul, 1) := by decide +kernel
theorem dX8_goOn_78 : decode cX8_goOn 78 = .ok (.iload_n 2, 1) := by decide +kernel
theorem dX8_goOn_79 : decode cX8_goOn 79 = .ok (.iadd, 1) := by decide +kernel
theorem dX8_goOn_80 : decode cX8_goOn 80 = .ok (.iastore, 1) := by decide +kernel
theorem dX8_goOn_81 : decode cX8_goOn 81 = .ok (.aload_n 0, 1) := by decide +kernel
theorem dX8_goOn_82 : decode cX8_goOn 82 = .ok (.dup, 1) := by decide +kernel
theorem dX8_goOn_83 : decode cX8_goOn 83 = .ok (.getfield 31, 3) := by decide +kernel
theorem dX8_goOn_86 : decode cX8_goOn 86 = .ok (.iconst 1, 1) := by decide +kernel
theorem dX8_goOn_87 : decode cX8_goOn 87 = .ok (.iadd, 1) := by decide +kernel
theorem dX8_goOn_88 : decode cX8_goOn 88 = .ok (.putfield 31, 3) := by decide +kernel
theorem dX8_goOn_91 : decode cX8_goOn 91 = .ok (.aload_n 0, 1) := by decide +kernel
theorem dX8_goOn_92 : decode cX8_goOn 92 = .ok (.getfield 21, 3) := by decide +kernel
theorem dX8_goOn_95 : decode cX8_goOn 95 = .ok (.aload_n 0, 1) := by decide +kernel
theorem dX8_goOn_96 : decode cX8_goOn 96 = .ok (.getfield 31, 3) := by decide +kernel
theorem dX8_goOn_99 : decode cX8_goOn 99 = .ok (.iconst 1, 1) := by decide +kernel
theorem dX8_goOn_100 : decode cX8_goOn 100 = .ok (.isub, 1) := by decide +kernel
theorem dX8_goOn_101 : decode cX8_goOn 101 = .ok (.iaload, 1) := by decide +kernel
theorem dX8_goOn_102 : decode cX8_goOn 102 = .ok (.ireturn, 1) := by decide +kernel
theorem dX8_hasGapAhead_0 : decode cX8_hasGapAhead 0 = .ok (.aload_n 0, 1) := by decide +kernel
theorem dX8_hasGapAhead_1 : decode cX8_hasGapAhead 1 = .ok (.iload_n 1, 1) := by decide +kernel
theorem dX8_hasGapAhead_2 : decode cX8_hasGapAhead 2 = .ok (.invokevirtual 38, 3) := by decide +kernel
theorem dX8_hasGapAhead_5 : decode cX8_hasGapAhead 5 = .ok (.istore_n 2, 1) := by decide +kernel
theorem dX8_hasGapAhead_6 : decode cX8_hasGapAhead 6 = .ok (.iload_n 1, 1) := by decide +kernel
theorem dX8_hasGapAhead_7 : decode cX8_hasGapAhead 7 = .ok (.ifCond .ne 12, 3) := by decide +kernel
theorem dX8_hasGapAhead_10 : decode cX8_hasGapAhead 10 = .ok (.aload_n 0, 1) := by decide +kernel
theorem dX8_hasGapAhead_11 : decode cX8_hasGapAhead 11 = .ok (.getfield 11, 3) := by decide +kernel
theorem dX8_hasGapAhead_14 : decode cX8_hasGapAhead 14 = .ok (.iload_n 2, 1) := by decide +kernel
theorem dX8_hasGapAhead_15 : decode cX8_hasGapAhead 15 = .ok (.invokevirtual 48, 3) := by decide +kernel
theorem dX8_hasGapAhead_18 : decode cX8_hasGapAhead 18 = .ok (.ireturn, 1) := by decide +kernel
theorem dX8_hasGapAhead_19 : decode cX8_hasGapAhead 19 = .ok (.aload_n 0, 1) := by decide +kernel
theorem dX8_hasGapAhead_20 : decode cX8_hasGapAhead 20 = .ok (.iload_n 1, 1) := by decide +kernel
theorem dX8_hasGapAhead_21 : decode cX8_hasGapAhead 21 = .ok (.iconst 1, 1) := by decide +kernel
theorem dX8_hasGapAhead_22 : decode cX8_hasGapAhead 22 = .ok (.isub, 1) := by decide +kernel
theorem dX8_hasGapAhead_23 : decode cX8_hasGapAhead 23 = .ok (.invokevirtual 38, 3) := by decide +kernel
theorem dX8_hasGapAhead_26 : decode cX8_hasGapAhead 26 = .ok (.istore_n 3, 1) := by decide +kernel
theorem dX8_hasGapAhead_27 : decode cX8_hasGapAhead 27 = .ok (.iload_n 3, 1) := by decide +kernel
theorem dX8_hasGapAhead_28 : decode cX8_hasGapAhead 28 = .ok (.invokestatic 42, 3) := by decide +kernel
theorem dX8_hasGapAhead_31 : decode cX8_hasGapAhead 31 = .ok (.iload_n 2, 1) := by decide +kernel
theorem dX8_hasGapAhead_32 : decode cX8_hasGapAhead 32 = .ok (.invokestatic 42, 3) := by decide +kernel
theorem dX8_hasGapAhead_35 : decode cX8_hasGapAhead 35 = .ok (.if_icmp .eq 15, 3) := by decide +kernel
theorem dX8_hasGapAhead_38 : decode cX8_hasGapAhead 38 = .ok (.aload_n 0, 1) := by decide +kernel
theorem dX8_hasGapAhead_39 : decode cX8_hasGapAhead 39 = .ok (.getfield 17, 3) := by decide +kernel
theorem dX8_hasGapAhead_42 : decode cX8_hasGapAhead 42 = .ok (.iload_n 2, 1) := by decide +kernel
theorem dX8_hasGapAhead_43 : decode cX8_hasGapAhead 43 = .ok (.iload_n 3, 1) := by decide +kernel
theorem dX8_hasGapAhead_44 : decode cX8_hasGapAhead 44 = .ok (.invokevirtual 52, 3) := by decide +kernel
theorem dX8_hasGapAhead_47 : decode cX8_hasGapAhead 47 = .ok (.ifCond .ne 7, 3) := by decide +kernel
theorem dX8_hasGapAhead_50 : decode cX8_hasGapAhead 50 = .ok (.iconst 1, 1) := by decide +kernel
theorem dX8_hasGapAhead_51 : decode cX8_hasGapAhead 51 = .ok (.goto 4, 3) := by decide +kernel
theorem dX8_hasGapAhead_54 : decode cX8_hasGapAhead 54 = .ok (.iconst 0, 1) := by decide +kernel
theorem dX8_hasGapAhead_55 : decode cX8_hasGapAhead 55 = .ok (.ireturn, 1) := by decide +kernel
theorem dX8_gapOfPlay_0 : decode cX8_gapOfPlay 0 = .ok (.iconst 0, 1) := by decide +kernel
theorem dX8_gapOfPlay_1 : decode cX8_gapOfPlay 1 = .ok (.istore_n 2, 1) := by decide +kernel
theorem dX8_gapOfPlay_2 : decode cX8_gapOfPlay 2 = .ok (.iconst 0, 1) := by decide +kernel
theorem dX8_gapOfPlay_3 : decode cX8_gapOfPlay 3 = .ok (.istore_n 3, 1) := by decide +kernel
theorem dX8_gapOfPlay_4 : decode cX8_gapOfPlay 4 = .ok (.iload_n 3, 1) := by decide +kernel
theorem dX8_gapOfPlay_5 : decode cX8_gapOfPlay 5 = .ok (.aload_n 0, 1) := by decide +kernel
theorem dX8_gapOfPlay_6 : decode cX8_gapOfPlay 6 = .ok (.getfield 31, 3) := by decide +kernel
theorem dX8_gapOfPlay_9 : decode cX8_gapOfPlay 9 = .ok (.if_icmp .ge 27, 3) := by decide +kernel
theorem dX8_gapOfPlay_12 : decode cX8_gapOfPlay 12 = .ok (.aload_n 0, 1) := by decide +kernel
theorem dX8_gapOfPlay_13 : decode cX8_gapOfPlay 13 = .ok (.iload_n 3, 1) := by decide +kernel
theorem dX8_gapOfPlay_14 : decode cX8_gapOfPlay 14 = .ok (.invokevirtual 58, 3) := by decide +kernel
theorem dX8_gapOfPlay_17 : decode cX8_gapOfPlay 17 = .ok (.ifCond .eq 13, 3) := by decide +kernel
theorem dX8_gapOfPlay_20 : decode cX8_gapOfPlay 20 = .ok (.iload_n 2, 1) := by decide +kernel
theorem dX8_gapOfPlay_21 : decode cX8_gapOfPlay 21 = .ok (.iload_n 1, 1) := by decide +kernel
theorem dX8_gapOfPlay_22 : decode cX8_gapOfPlay 22 = .ok (.if_icmp .ne 5, 3) := by decide +kernel
theorem dX8_gapOfPlay_25 : decode cX8_gapOfPlay 25 = .ok (.iload_n 3, 1) := by decide +kernel
theorem dX8_gapOfPlay_26 : decode cX8_gapOfPlay 26 = .ok (.ireturn, 1) := by decide +kernel
theorem dX8_gapOfPlay_27 : decode cX8_gapOfPlay 27 = .ok (.iinc 2 1, 3) := by decide +kernel
theorem dX8_gapOfPlay_30 : decode cX8_gapOfPlay 30 = .ok (.iinc 3 1, 3) := by decide +kernel
theorem dX8_gapOfPlay_33 : decode cX8_gapOfPlay 33 = .ok (.goto (-29), 3) := by decide +kernel
theorem dX8_gapOfPlay_36 : decode cX8_gapOfPlay 36 = .ok (.iload_n 1, 1) := by decide +kernel
theorem dX8_gapOfPlay_37 : decode cX8_gapOfPlay 37 = .ok (.iconst (-1), 1) := by decide +kernel
theorem dX8_gapOfPlay_38 : decode cX8_gapOfPlay 38 = .ok (.if_icmp .ne 7, 3) := by decide +kernel
theorem dX8_gapOfPlay_41 : decode cX8_gapOfPlay 41 = .ok (.iload_n 2, 1) := by decide +kernel
theorem dX8_gapOfPlay_42 : decode cX8_gapOfPlay 42 = .ok (.goto 4, 3) := by decide +kernel
theorem dX8_gapOfPlay_45 : decode cX8_gapOfPlay 45 = .ok (.iconst (-1), 1) := by decide +kernel
theorem dX8_gapOfPlay_46 : decode cX8_gapOfPlay 46 = .ok (.ireturn, 1) := by decide +kernel
theorem dX8_rehearseAll_0 : decode cX8_rehearseAll 0 = .ok (.iconst 0, 1) := by decide +kernel
theorem dX8_rehearseAll_1 : decode cX8_rehearseAll 1 = .ok (.istore_n 2, 1) := by decide +kernel
theorem dX8_rehearseAll_2 : decode cX8_rehearseAll 2 = .ok (.iconst 0, 1) := by decide +kernel
theorem dX8_rehearseAll_3 : decode cX8_rehearseAll 3 = .ok (.istore_n 3, 1) := by decide +kernel
theorem dX8_rehearseAll_4 : decode cX8_rehearseAll 4 = .ok (.iload_n 3, 1) := by decide +kernel
theorem dX8_rehearseAll_5 : decode cX8_rehearseAll 5 = .ok (.aload_n 0, 1) := by decide +kernel
theorem dX8_rehearseAll_6 : decode cX8_rehearseAll 6 = .ok (.getfield 28, 3) := by decide +kernel
theorem dX8_rehearseAll_9 : decode cX8_rehearseAll 9 = .ok (.arraylength, 1) := by decide +kernel
theorem dX8_rehearseAll_10 : decode cX8_rehearseAll 10 = .ok (.if_icmp .ge 44, 3) := by decide +kernel
theorem dX8_rehearseAll_13 : decode cX8_rehearseAll 13 = .ok (.aload_n 0, 1) := by decide +kernel
theorem dX8_rehearseAll_14 : decode cX8_rehearseAll 14 = .ok (.getfield 28, 3) := by decide +kernel
theorem dX8_rehearseAll_17 : decode cX8_rehearseAll 17 = .ok (.iload_n 3, 1) := by decide +kernel
theorem dX8_rehearseAll_18 : decode cX8_rehearseAll 18 = .ok (.iconst 0, 1) := by decide +kernel
theorem dX8_rehearseAll_19 : decode cX8_rehearseAll 19 = .ok (.iastore, 1) := by decide +kernel
theorem dX8_rehearseAll_20 : decode cX8_rehearseAll 20 = .ok (.iload_n 3, 1) := by decide +kernel
theorem dX8_rehearseAll_21 : decode cX8_rehearseAll 21 = .ok (.iload_n 1, 1) := by decide +kernel
theorem dX8_rehearseAll_22 : decode cX8_rehearseAll 22 = .ok (.invokestatic 61, 3) := by decide +kernel
theorem dX8_rehearseAll_25 : decode cX8_rehearseAll 25 = .ok (.ifCond .eq 23, 3) := by decide +kernel
theorem dX8_rehearseAll_28 : decode cX8_rehearseAll 28 = .ok (.aload_n 0, 1) := by decide +kernel
theorem dX8_rehearseAll_29 : decode cX8_rehearseAll 29 = .ok (.getfield 11, 3) := by decide +kernel
theorem dX8_rehearseAll_32 : decode cX8_rehearseAll 32 = .ok (.bipush 16, 2) := by decide +kernel
theorem dX8_rehearseAll_34 : decode cX8_rehearseAll 34 = .ok (.iload_n 3, 1) := by decide +kernel
theorem dX8_rehearseAll_35 : decode cX8_rehearseAll 35 = .ok (.imul, 1) := by decide +kernel
theorem dX8_rehearseAll_36 : decode cX8_rehearseAll 36 = .ok (.invokevirtual 48, 3) := by decide +kernel
theorem dX8_rehearseAll_39 : decode cX8_rehearseAll 39 = .ok (.ifCond .ne 9, 3) := by decide +kernel
theorem dX8_rehearseAll_42 : decode cX8_rehearseAll 42 = .ok (.iload_n 2, 1) := by decide +kernel
theorem dX8_rehearseAll_43 : decode cX8_rehearseAll 43 = .ok (.iconst 1, 1) := by decide +kernel
theorem dX8_rehearseAll_44 : decode cX8_rehearseAll 44 = .ok (.iload_n 3, 1) := by decide +kernel
theorem dX8_rehearseAll_45 : decode cX8_rehearseAll 45 = .ok (.ishl, 1) := by decide +kernel
theorem dX8_rehearseAll_46 : decode cX8_rehearseAll 46 = .ok (.ior, 1) := by decide +kernel
theorem dX8_rehearseAll_47 : decode cX8_rehearseAll 47 = .ok (.istore_n 2, 1) := by decide +kernel
theorem dX8_rehearseAll_48 : decode cX8_rehearseAll 48 = .ok (.iinc 3 1, 3) := by decide +kernel
theorem dX8_rehearseAll_51 : decode cX8_rehearseAll 51 = .ok (.goto (-47), 3) := by decide +kernel
theorem dX8_rehearseAll_54 : decode cX8_rehearseAll 54 = .ok (.aload_n 0, 1) := by decide +kernel
theorem dX8_rehearseAll_55 : decode cX8_rehearseAll 55 = .ok (.iconst 0, 1) := by decide +kernel
theorem dX8_rehearseAll_56 : decode cX8_rehearseAll 56 = .ok (.putfield 35, 3) := by decide +kernel
theorem dX8_rehearseAll_59 : decode cX8_rehearseAll 59 = .ok (.iconst 0, 1) := by decide +kernel
theorem dX8_rehearseAll_60 : decode cX8_rehearseAll 60 = .ok (.istore_n 3, 1) := by decide +kernel
theorem dX8_rehearseAll_61 : decode cX8_rehearseAll 61 = .ok (.iload_n 3, 1) := by decide +kernel
theorem dX8_rehearseAll_62 : decode cX8_rehearseAll 62 = .ok (.aload_n 0, 1) := by decide +kernel
theorem dX8_rehearseAll_63 : decode cX8_rehearseAll 63 = .ok (.getfield 25, 3) := by decide +kernel
theorem dX8_rehearseAll_66 : decode cX8_rehearseAll 66 = .ok (.arraylength, 1) := by decide +kernel
theorem dX8_rehearseAll_67 : decode cX8_rehearseAll 67 = .ok (.if_icmp .ge 87, 3) := by decide +kernel
theorem dX8_rehearseAll_70 : decode cX8_rehearseAll 70 = .ok (.iload_n 2, 1) := by decide +kernel
theorem dX8_rehearseAll_71 : decode cX8_rehearseAll 71 = .ok (.ifCond .eq 83, 3) := by decide +kernel
theorem dX8_rehearseAll_74 : decode cX8_rehearseAll 74 = .ok (.iload_n 2, 1) := by decide +kernel
theorem dX8_rehearseAll_75 : decode cX8_rehearseAll 75 = .ok (.invokestatic 64, 3) := by decide +kernel
theorem dX8_rehearseAll_78 : decode cX8_rehearseAll 78 = .ok (.istore 4, 2) := by decide +kernel
theorem dX8_rehearseAll_80 : decode cX8_rehearseAll 80 = .ok (.aload_n 0, 1) := by decide +kernel
theorem dX8_rehearseAll_81 : decode cX8_rehearseAll 81 = .ok (.getfield 25, 3) := by decide +kernel
theorem dX8_rehearseAll_84 : decode cX8_rehearseAll 84 = .ok (.iload_n 3, 1) := by decide +kernel
theorem dX8_rehearseAll_85 : decode cX8_rehearseAll 85 = .ok (.bipush 16, 2) := by decide +kernel
theorem dX8_rehearseAll_87 : decode cX8_rehearseAll 87 = .ok (.iload 4, 2) := by decide +kernel
theorem dX8_rehearseAll_89 : decode cX8_rehearseAll 89 = .ok (.imul, 1) := by decide +kernel
theorem dX8_rehearseAll_90 : decode cX8_rehearseAll 90 = .ok (.aload_n 0, 1) := by decide +kernel
theorem dX8_rehearseAll_91 : decode cX8_rehearseAll 91 = .ok (.getfield 28, 3) := by decide +kernel
theorem dX8_rehearseAll_94 : decode cX8_rehearseAll 94 = .ok (.iload 4, 2) := by decide +kernel
theorem dX8_rehearseAll_96 : decode cX8_rehearseAll 96 = .ok (.iaload, 1) := by decide +kernel
theorem dX8_rehearseAll_97 : decode cX8_rehearseAll 97 = .ok (.iadd, 1) := by decide +kernel
theorem dX8_rehearseAll_98 : decode cX8_rehearseAll 98 = .ok (.iastore, 1) := by decide +kernel
theorem dX8_rehearseAll_99 : decode cX8_rehearseAll 99 = .ok (.aload_n 0, 1) := by decide +kernel
theorem dX8_rehearseAll_100 : decode cX8_rehearseAll 100 = .ok (.dup, 1) := by decide +kernel
theorem dX8_rehearseAll_101 : decode cX8_rehearseAll 101 = .ok (.getfield 35, 3) := by decide +kernel
theorem dX8_rehearseAll_104 : decode cX8_rehearseAll 104 = .ok (.iconst 1, 1) := by decide +kernel
theorem dX8_rehearseAll_105 : decode cX8_rehearseAll 105 = .ok (.iadd, 1) := by decide +kernel
theorem dX8_rehearseAll_106 : decode cX8_rehearseAll 106 = .ok (.putfield 35, 3) := by decide +kernel
theorem dX8_rehearseAll_109 : decode cX8_rehearseAll 109 = .ok (.aload_n 0, 1) := by decide +kernel
theorem dX8_rehearseAll_110 : decode cX8_rehearseAll 110 = .ok (.getfield 28, 3) := by decide +kernel
theorem dX8_rehearseAll_113 : decode cX8_rehearseAll 113 = .ok (.iload 4, 2) := by decide +kernel
theorem dX8_rehearseAll_115 : decode cX8_rehearseAll 115 = .ok (.dup2, 1) := by decide +kernel
theorem dX8_rehearseAll_116 : decode cX8_rehearseAll 116 = .ok (.iaload, 1) := by decide +kernel
theorem dX8_rehearseAll_117 : decode cX8_rehearseAll 117 = .ok (.iconst 1, 1) := by decide +kernel
theorem dX8_rehearseAll_118 : decode cX8_rehearseAll 118 = .ok (.iadd, 1) := by decide +kernel
theorem dX8_rehearseAll_119 : decode cX8_rehearseAll 119 = .ok (.iastore, 1) := by decide +kernel
theorem dX8_rehearseAll_120 : decode cX8_rehearseAll 120 = .ok (.iload_n 2, 1) := by decide +kernel
theorem dX8_rehearseAll_121 : decode cX8_rehearseAll 121 = .ok (.iconst 1, 1) := by decide +kernel
theorem dX8_rehearseAll_122 : decode cX8_rehearseAll 122 = .ok (.iload 4, 2) := by decide +kernel
theorem dX8_rehearseAll_124 : decode cX8_rehearseAll 124 = .ok (.ishl, 1) := by decide +kernel
theorem dX8_rehearseAll_125 : decode cX8_rehearseAll 125 = .ok (.iconst (-1), 1) := by decide +kernel
theorem dX8_rehearseAll_126 : decode cX8_rehearseAll 126 = .ok (.ixor, 1) := by decide +kernel
theorem dX8_rehearseAll_127 : decode cX8_rehearseAll 127 = .ok (.iand, 1) := by decide +kernel
theorem dX8_rehearseAll_128 : decode cX8_rehearseAll 128 = .ok (.aload_n 0, 1) := by decide +kernel
theorem dX8_rehearseAll_129 : decode cX8_rehearseAll 129 = .ok (.aload_n 0, 1) := by decide +kernel
theorem dX8_rehearseAll_130 : decode cX8_rehearseAll 130 = .ok (.getfield 25, 3) := by decide +kernel
theorem dX8_rehearseAll_133 : decode cX8_rehearseAll 133 = .ok (.iload_n 3, 1) := by decide +kernel
theorem dX8_rehearseAll_134 : decode cX8_rehearseAll 134 = .ok (.iaload, 1) := by decide +kernel
theorem dX8_rehearseAll_135 : decode cX8_rehearseAll 135 = .ok (.iload_n 1, 1) := by decide +kernel
theorem dX8_rehearseAll_136 : decode cX8_rehearseAll 136 = .ok (.iconst 1, 1) := by decide +kernel
theorem dX8_rehearseAll_137 : decode cX8_rehearseAll 137 = .ok (.iload 4, 2) := by decide +kernel
theorem dX8_rehearseAll_139 : decode cX8_rehearseAll 139 = .ok (.ishl, 1) := by decide +kernel
theorem dX8_rehearseAll_140 : decode cX8_rehearseAll 140 = .ok (.iconst (-1), 1) := by decide +kernel
theorem dX8_rehearseAll_141 : decode cX8_rehearseAll 141 = .ok (.ixor, 1) := by decide +kernel
theorem dX8_rehearseAll_142 : decode cX8_rehearseAll 142 = .ok (.iand, 1) := by decide +kernel
theorem dX8_rehearseAll_143 : decode cX8_rehearseAll 143 = .ok (.invokevirtual 67, 3) := by decide +kernel
theorem dX8_rehearseAll_146 : decode cX8_rehearseAll 146 = .ok (.ior, 1) := by decide +kernel
theorem dX8_rehearseAll_147 : decode cX8_rehearseAll 147 = .ok (.istore_n 2, 1) := by decide +kernel
theorem dX8_rehearseAll_148 : decode cX8_rehearseAll 148 = .ok (.iinc 3 1, 3) := by decide +kernel
theorem dX8_rehearseAll_151 : decode cX8_rehearseAll 151 = .ok (.goto (-90), 3) := by decide +kernel
theorem dX8_rehearseAll_154 : decode cX8_rehearseAll 154 = .ok (.return_, 1) := by decide +kernel
theorem dX8_lowest_0 : decode cX8_lowest 0 = .ok (.iconst 0, 1) := by decide +kernel
theorem dX8_lowest_1 : decode cX8_lowest 1 = .ok (.istore_n 1, 1) := by decide +kernel
theorem dX8_lowest_2 : decode cX8_lowest 2 = .ok (.iload_n 1, 1) := by decide +kernel
theorem dX8_lowest_3 : decode cX8_lowest 3 = .ok (.bipush 8, 2) := by decide +kernel
theorem dX8_lowest_5 : decode cX8_lowest 5 = .ok (.if_icmp .ge 19, 3) := by decide +kernel
theorem dX8_lowest_8 : decode cX8_lowest 8 = .ok (.iload_n 1, 1) := by decide +kernel
theorem dX8_lowest_9 : decode cX8_lowest 9 = .ok (.iload_n 0, 1) := by decide +kernel
theorem dX8_lowest_10 : decode cX8_lowest 10 = .ok (.invokestatic 61, 3) := by decide +kernel
theorem dX8_lowest_13 : decode cX8_lowest 13 = .ok (.ifCond .eq 5, 3) := by decide +kernel
theorem dX8_lowest_16 : decode cX8_lowest 16 = .ok (.iload_n 1, 1) := by decide +kernel
theorem dX8_lowest_17 : decode cX8_lowest 17 = .ok (.ireturn, 1) := by decide +kernel
theorem dX8_lowest_18 : decode cX8_lowest 18 = .ok (.iinc 1 1, 3) := by decide +kernel
theorem dX8_lowest_21 : decode cX8_lowest 21 = .ok (.goto (-19), 3) := by decide +kernel
theorem dX8_lowest_24 : decode cX8_lowest 24 = .ok (.iconst 0, 1) := by decide +kernel
theorem dX8_lowest_25 : decode cX8_lowest 25 = .ok (.ireturn, 1) := by decide +kernel
theorem dX8_readyBehind_0 : decode cX8_readyBehind 0 = .ok (.iconst 0, 1) := by decide +kernel
theorem dX8_readyBehind_1 : decode cX8_readyBehind 1 = .ok (.istore_n 3, 1) := by decide +kernel
theorem dX8_readyBehind_2 : decode cX8_readyBehind 2 = .ok (.iconst 0, 1) := by decide +kernel
theorem dX8_readyBehind_3 : decode cX8_readyBehind 3 = .ok (.istore 4, 2) := by decide +kernel
theorem dX8_readyBehind_5 : decode cX8_readyBehind 5 = .ok (.iload 4, 2) := by decide +kernel
theorem dX8_readyBehind_7 : decode cX8_readyBehind 7 = .ok (.aload_n 0, 1) := by decide +kernel
theorem dX8_readyBehind_8 : decode cX8_readyBehind 8 = .ok (.getfield 28, 3) := by decide +kernel
theorem dX8_readyBehind_11 : decode cX8_readyBehind 11 = .ok (.arraylength, 1) := by decide +kernel
theorem dX8_readyBehind_12 : decode cX8_readyBehind 12 = .ok (.if_icmp .ge 72, 3) := by decide +kernel
theorem dX8_readyBehind_15 : decode cX8_readyBehind 15 = .ok (.bipush 16, 2) := by decide +kernel
theorem dX8_readyBehind_17 : decode cX8_readyBehind 17 = .ok (.iload 4, 2) := by decide +kernel
theorem dX8_readyBehind_19 : decode cX8_readyBehind 19 = .ok (.imul, 1) := by decide +kernel
theorem dX8_readyBehind_20 : decode cX8_readyBehind 20 = .ok (.aload_n 0, 1) := by decide +kernel
theorem dX8_readyBehind_21 : decode cX8_readyBehind 21 = .ok (.getfield 28, 3) := by decide +kernel
theorem dX8_readyBehind_24 : decode cX8_readyBehind 24 = .ok (.iload 4, 2) := by decide +kernel
theorem dX8_readyBehind_26 : decode cX8_readyBehind 26 = .ok (.iaload, 1) := by decide +kernel
theorem dX8_readyBehind_27 : decode cX8_readyBehind 27 = .ok (.iadd, 1) := by decide +kernel
theorem dX8_readyBehind_28 : decode cX8_readyBehind 28 = .ok (.istore 5, 2) := by decide +kernel
theorem dX8_readyBehind_30 : decode cX8_readyBehind 30 = .ok (.iload 4, 2) := by decide +kernel
theorem dX8_readyBehind_32 : decode cX8_readyBehind 32 = .ok (.iload_n 2, 1) := by decide +kernel
theorem dX8_readyBehind_33 : decode cX8_readyBehind 33 = .ok (.invokestatic 61, 3) := by decide +kernel
theorem dX8_readyBehind_36 : decode cX8_readyBehind 36 = .ok (.ifCond .eq 42, 3) := by decide +kernel
theorem dX8_readyBehind_39 : decode cX8_readyBehind 39 = .ok (.aload_n 0, 1) := by decide +kernel
theorem dX8_readyBehind_40 : decode cX8_readyBehind 40 = .ok (.getfield 28, 3) := by decide +kernel
theorem dX8_readyBehind_43 : decode cX8_readyBehind 43 = .ok (.iload 4, 2) := by decide +kernel
theorem dX8_readyBehind_45 : decode cX8_readyBehind 45 = .ok (.iaload, 1) := by decide +kernel
theorem dX8_readyBehind_46 : decode cX8_readyBehind 46 = .ok (.aload_n 0, 1) := by decide +kernel
theorem dX8_readyBehind_47 : decode cX8_readyBehind 47 = .ok (.getfield 11, 3) := by decide +kernel
theorem dX8_readyBehind_50 : decode cX8_readyBehind 50 = .ok (.iload 4, 2) := by decide +kernel
theorem dX8_readyBehind_52 : decode cX8_readyBehind 52 = .ok (.invokevirtual 45, 3) := by decide +kernel
theorem dX8_readyBehind_55 : decode cX8_readyBehind 55 = .ok (.if_icmp .ge 23, 3) := by decide +kernel
theorem dX8_readyBehind_58 : decode cX8_readyBehind 58 = .ok (.aload_n 0, 1) := by decide +kernel
theorem dX8_readyBehind_59 : decode cX8_readyBehind 59 = .ok (.getfield 17, 3) := by decide +kernel
theorem dX8_readyBehind_62 : decode cX8_readyBehind 62 = .ok (.iload 5, 2) := by decide +kernel
theorem dX8_readyBehind_64 : decode cX8_readyBehind 64 = .ok (.iload_n 1, 1) := by decide +kernel
theorem dX8_readyBehind_65 : decode cX8_readyBehind 65 = .ok (.invokevirtual 52, 3) := by decide +kernel
theorem dX8_readyBehind_68 : decode cX8_readyBehind 68 = .ok (.ifCond .eq 10, 3) := by decide +kernel
theorem dX8_readyBehind_71 : decode cX8_readyBehind 71 = .ok (.iload_n 3, 1) := by decide +kernel
theorem dX8_readyBehind_72 : decode cX8_readyBehind 72 = .ok (.iconst 1, 1) := by decide +kernel
theorem dX8_readyBehind_73 : decode cX8_readyBehind 73 = .ok (.iload 4, 2) := by decide +kernel
theorem dX8_readyBehind_75 : decode cX8_readyBehind 75 = .ok (.ishl, 1) := by decide +kernel
theorem dX8_readyBehind_76 : decode cX8_readyBehind 76 = .ok (.ior, 1) := by decide +kernel
theorem dX8_readyBehind_77 : decode cX8_readyBehind 77 = .ok (.istore_n 3, 1) := by decide +kernel
theorem dX8_readyBehind_78 : decode cX8_readyBehind 78 = .ok (.iinc 4 1, 3) := by decide +kernel
theorem dX8_readyBehind_81 : decode cX8_readyBehind 81 = .ok (.goto (-76), 3) := by decide +kernel
theorem dX8_readyBehind_84 : decode cX8_readyBehind 84 = .ok (.iload_n 3, 1) := by decide +kernel
theorem dX8_readyBehind_85 : decode cX8_readyBehind 85 = .ok (.ireturn, 1) := by decide +kernel
theorem dX8_said_0 : decode cX8_said 0 = .ok (.aload_n 0, 1) := by decide +kernel
theorem dX8_said_1 : decode cX8_said 1 = .ok (.getfield 35, 3) := by decide +kernel
theorem dX8_said_4 : decode cX8_said 4 = .ok (.ireturn, 1) := by decide +kernel
theorem dX8_saidAt_0 : decode cX8_saidAt 0 = .ok (.iload_n 1, 1) := by decide +kernel
theorem dX8_saidAt_1 : decode cX8_saidAt 1 = .ok (.ifCond .lt 29, 3) := by decide +kernel
theorem dX8_saidAt_4 : decode cX8_saidAt 4 = .ok (.iload_n 1, 1) := by decide +kernel
theorem dX8_saidAt_5 : decode cX8_saidAt 5 = .ok (.aload_n 0, 1) := by decide +kernel
theorem dX8_saidAt_6 : decode cX8_saidAt 6 = .ok (.getfield 35, 3) := by decide +kernel
theorem dX8_saidAt_9 : decode cX8_saidAt 9 = .ok (.if_icmp .ge 21, 3) := by decide +kernel
theorem dX8_saidAt_12 : decode cX8_saidAt 12 = .ok (.iload_n 1, 1) := by decide +kernel
theorem dX8_saidAt_13 : decode cX8_saidAt 13 = .ok (.aload_n 0, 1) := by decide +kernel
theorem dX8_saidAt_14 : decode cX8_saidAt 14 = .ok (.getfield 25, 3) := by decide +kernel
theorem dX8_saidAt_17 : decode cX8_saidAt 17 = .ok (.arraylength, 1) := by decide +kernel
theorem dX8_saidAt_18 : decode cX8_saidAt 18 = .ok (.if_icmp .ge 12, 3) := by decide +kernel
theorem dX8_saidAt_21 : decode cX8_saidAt 21 = .ok (.aload_n 0, 1) := by decide +kernel
theorem dX8_saidAt_22 : decode cX8_saidAt 22 = .ok (.getfield 25, 3) := by decide +kernel
theorem dX8_saidAt_25 : decode cX8_saidAt 25 = .ok (.iload_n 1, 1) := by decide +kernel
theorem dX8_saidAt_26 : decode cX8_saidAt 26 = .ok (.iaload, 1) := by decide +kernel
theorem dX8_saidAt_27 : decode cX8_saidAt 27 = .ok (.goto 4, 3) := by decide +kernel
theorem dX8_saidAt_30 : decode cX8_saidAt 30 = .ok (.iconst (-1), 1) := by decide +kernel
theorem dX8_saidAt_31 : decode cX8_saidAt 31 = .ok (.ireturn, 1) := by decide +kernel
theorem dX8_saidOtherwise_0 : decode cX8_saidOtherwise 0 = .ok (.iconst 0, 1) := by decide +kernel
theorem dX8_saidOtherwise_1 : decode cX8_saidOtherwise 1 = .ok (.istore_n 1, 1) := by decide +kernel
theorem dX8_saidOtherwise_2 : decode cX8_saidOtherwise 2 = .ok (.iconst 0, 1) := by decide +kernel
theorem dX8_saidOtherwise_3 : decode cX8_saidOtherwise 3 = .ok (.istore_n 2, 1) := by decide +kernel
theorem dX8_saidOtherwise_4 : decode cX8_saidOtherwise 4 = .ok (.iload_n 2, 1) := by decide +kernel
theorem dX8_saidOtherwise_5 : decode cX8_saidOtherwise 5 = .ok (.aload_n 0, 1) := by decide +kernel
theorem dX8_saidOtherwise_6 : decode cX8_saidOtherwise 6 = .ok (.getfield 31, 3) := by decide +kernel
theorem dX8_saidOtherwise_9 : decode cX8_saidOtherwise 9 = .ok (.if_icmp .ge 25, 3) := by decide +kernel
theorem dX8_saidOtherwise_12 : decode cX8_saidOtherwise 12 = .ok (.aload_n 0, 1) := by decide +kernel
theorem dX8_saidOtherwise_13 : decode cX8_saidOtherwise 13 = .ok (.iload_n 2, 1) := by decide +kernel
theorem dX8_saidOtherwise_14 : decode cX8_saidOtherwise 14 = .ok (.invokevirtual 71, 3) := by decide +kernel
theorem dX8_saidOtherwise_17 : decode cX8_saidOtherwise 17 = .ok (.aload_n 0, 1) := by decide +kernel
theorem dX8_saidOtherwise_18 : decode cX8_saidOtherwise 18 = .ok (.iload_n 2, 1) := by decide +kernel
theorem dX8_saidOtherwise_19 : decode cX8_saidOtherwise 19 = .ok (.invokevirtual 38, 3) := by decide +kernel
theorem dX8_saidOtherwise_22 : decode cX8_saidOtherwise 22 = .ok (.if_icmp .eq 6, 3) := by decide +kernel
theorem dX8_saidOtherwise_25 : decode cX8_saidOtherwise 25 = .ok (.iinc 1 1, 3) := by decide +kernel
theorem dX8_saidOtherwise_28 : decode cX8_saidOtherwise 28 = .ok (.iinc 2 1, 3) := by decide +kernel
theorem dX8_saidOtherwise_31 : decode cX8_saidOtherwise 31 = .ok (.goto (-27), 3) := by decide +kernel
theorem dX8_saidOtherwise_34 : decode cX8_saidOtherwise 34 = .ok (.iload_n 1, 1) := by decide +kernel
theorem dX8_saidOtherwise_35 : decode cX8_saidOtherwise 35 = .ok (.ireturn, 1) := by decide +kernel
theorem dX9_init_0 : decode cX9_init 0 = .ok (.aload_n 0, 1) := by decide +kernel
theorem dX9_init_1 : decode cX9_init 1 = .ok (.invokespecial 3, 3) := by decide +kernel
theorem dX9_init_4 : decode cX9_init 4 = .ok (.aload_n 0, 1) := by decide +kernel
theorem dX9_init_5 : decode cX9_init 5 = .ok (.sipush 200, 3) := by decide +kernel
theorem dX9_init_8 : decode cX9_init 8 = .ok (.newarray .byte, 2) := by decide +kernel
theorem dX9_init_10 : decode cX9_init 10 = .ok (.putfield 11, 3) := by decide +kernel
theorem dX9_init_13 : decode cX9_init 13 = .ok (.aload_n 0, 1) := by decide +kernel
theorem dX9_init_14 : decode cX9_init 14 = .ok (.iconst 0, 1) := by decide +kernel
theorem dX9_init_15 : decode cX9_init 15 = .ok (.putfield 15, 3) := by decide +kernel
theorem dX9_init_18 : decode cX9_init 18 = .ok (.return_, 1) := by decide +kernel
theorem dX9_size_0 : decode cX9_size 0 = .ok (.aload_n 0, 1) := by decide +kernel
theorem dX9_size_1 : decode cX9_size 1 = .ok (.getfield 15, 3) := by decide +kernel
theorem dX9_size_4 : decode cX9_size 4 = .ok (.ireturn, 1) := by decide +kernel
theorem dX9_at_0 : decode cX9_at 0 = .ok (.iload_n 1, 1) := by decide +kernel
theorem dX9_at_1 : decode cX9_at 1 = .ok (.ifCond .lt 33, 3) := by decide +kernel
theorem dX9_at_4 : decode cX9_at 4 = .ok (.iload_n 1, 1) := by decide +kernel
theorem dX9_at_5 : decode cX9_at 5 = .ok (.aload_n 0, 1) := by decide +kernel
theorem dX9_at_6 : decode cX9_at 6 = .ok (.getfield 15, 3) := by decide +kernel
theorem dX9_at_9 : decode cX9_at 9 = .ok (.if_icmp .ge 25, 3) := by decide +kernel
theorem dX9_at_12 : decode cX9_at 12 = .ok (.iload_n 1, 1) := by decide +kernel
theorem dX9_at_13 : decode cX9_at 13 = .ok (.aload_n 0, 1) := by decide +kernel
theorem dX9_at_14 : decode cX9_at 14 = .ok (.getfield 11, 3) := by decide +kernel
theorem dX9_at_17 : decode cX9_at 17 = .ok (.arraylength, 1) := by decide +kernel
theorem dX9_at_18 : decode cX9_at 18 = .ok (.if_icmp .ge 16, 3) := by decide +kernel
theorem dX9_at_21 : decode cX9_at 21 = .ok (.aload_n 0, 1) := by decide +kernel
theorem dX9_at_22 : decode cX9_at 22 = .ok (.getfield 11, 3) := by decide +kernel
theorem dX9_at_25 : decode cX9_at 25 = .ok (.iload_n 1, 1) := by decide +kernel
theorem dX9_at_26 : decode cX9_at 26 = .ok (.baload, 1) := by decide +kernel
theorem dX9_at_27 : decode cX9_at 27 = .ok (.sipush 255, 3) := by decide +kernel
theorem dX9_at_30 : decode cX9_at 30 = .ok (.iand, 1) := by decide +kernel
theorem dX9_at_31 : decode cX9_at 31 = .ok (.goto 4, 3) := by decide +kernel
theorem dX9_at_34 : decode cX9_at 34 = .ok (.iconst (-1), 1) := by decide +kernel
theorem dX9_at_35 : decode cX9_at 35 = .ok (.ireturn, 1) := by decide +kernel
theorem dX9_told_0 : decode cX9_told 0 = .ok (.iconst 0, 1) := by decide +kernel
theorem dX9_told_1 : decode cX9_told 1 = .ok (.istore_n 1, 1) := by decide +kernel
theorem dX9_told_2 : decode cX9_told 2 = .ok (.bipush 24, 2) := by decide +kernel
theorem dX9_told_4 : decode cX9_told 4 = .ok (.istore_n 2, 1) := by decide +kernel
theorem dX9_told_5 : decode cX9_told 5 = .ok (.iload_n 2, 1) := by decide +kernel
theorem dX9_told_6 : decode cX9_told 6 = .ok (.ifCond .lt 22, 3) := by decide +kernel
theorem dX9_told_9 : decode cX9_told 9 = .ok (.iload_n 0, 1) := by decide +kernel
theorem dX9_told_10 : decode cX9_told 10 = .ok (.iload_n 2, 1) := by decide +kernel
theorem dX9_told_11 : decode cX9_told 11 = .ok (.iushr, 1) := by decide +kernel
theorem dX9_told_12 : decode cX9_told 12 = .ok (.sipush 255, 3) := by decide +kernel
theorem dX9_told_15 : decode cX9_told 15 = .ok (.iand, 1) := by decide +kernel
theorem dX9_told_16 : decode cX9_told 16 = .ok (.ifCond .eq 6, 3) := by decide +kernel
theorem dX9_told_19 : decode cX9_told 19 = .ok (.iinc 1 1, 3) := by decide +kernel
theorem dX9_told_22 : decode cX9_told 22 = .ok (.iinc 2 (-8), 3) := by decide +kernel
theorem dX9_told_25 : decode cX9_told 25 = .ok (.goto (-20), 3) := by decide +kernel
theorem dX9_told_28 : decode cX9_told 28 = .ok (.iload_n 1, 1) := by decide +kernel
theorem dX9_told_29 : decode cX9_told 29 = .ok (.ireturn, 1) := by decide +kernel
theorem dX9_put_0 : decode cX9_put 0 = .ok (.bipush 24, 2) := by decide +kernel
theorem dX9_put_2 : decode cX9_put 2 = .ok (.istore_n 2, 1) := by decide +kernel
theorem dX9_put_3 : decode cX9_put 3 = .ok (.iload_n 2, 1) := by decide +kernel
theorem dX9_put_4 : decode cX9_put 4 = .ok (.ifCond .lt 61, 3) := by decide +kernel
theorem dX9_put_7 : decode cX9_put 7 = .ok (.iload_n 1, 1) := by decide +kernel
theorem dX9_put_8 : decode cX9_put 8 = .ok (.iload_n 2, 1) := by decide +kernel
theorem dX9_put_9 : decode cX9_put 9 = .ok (.iushr, 1) := by decide +kernel
theorem dX9_put_10 : decode cX9_put 10 = .ok (.sipush 255, 3) := by decide +kernel
theorem dX9_put_13 : decode cX9_put 13 = .ok (.iand, 1) := by decide +kernel
theorem dX9_put_14 : decode cX9_put 14 = .ok (.istore_n 3, 1) := by decide +kernel
theorem dX9_put_15 : decode cX9_put 15 = .ok (.iload_n 3, 1) := by decide +kernel
theorem dX9_put_16 : decode cX9_put 16 = .ok (.ifCond .eq 43, 3) := by decide +kernel
theorem dX9_put_19 : decode cX9_put 19 = .ok (.aload_n 0, 1) := by decide +kernel
theorem dX9_put_20 : decode cX9_put 20 = .ok (.getfield 15, 3) := by decide +kernel
theorem dX9_put_23 : decode cX9_put 23 = .ok (.ifCond .lt 36, 3) := by decide +kernel
theorem dX9_put_26 : decode cX9_put 26 = .ok (.aload_n 0, 1) := by decide +kernel
theorem dX9_put_27 : decode cX9_put 27 = .ok (.getfield 15, 3) := by decide +kernel
theorem dX9_put_30 : decode cX9_put 30 = .ok (.aload_n 0, 1) := by decide +kernel
theorem dX9_put_31 : decode cX9_put 31 = .ok (.getfield 11, 3) := by decide +kernel
theorem dX9_put_34 : decode cX9_put 34 = .ok (.arraylength, 1) := by decide +kernel
theorem dX9_put_35 : decode cX9_put 35 = .ok (.if_icmp .ge 24, 3) := by decide +kernel
theorem dX9_put_38 : decode cX9_put 38 = .ok (.aload_n 0, 1) := by decide +kernel
theorem dX9_put_39 : decode cX9_put 39 = .ok (.getfield 11, 3) := by decide +kernel
theorem dX9_put_42 : decode cX9_put 42 = .ok (.aload_n 0, 1) := by decide +kernel
theorem dX9_put_43 : decode cX9_put 43 = .ok (.getfield 15, 3) := by decide +kernel
theorem dX9_put_46 : decode cX9_put 46 = .ok (.iload_n 3, 1) := by decide +kernel
theorem dX9_put_47 : decode cX9_put 47 = .ok (.i2b, 1) := by decide +kernel
theorem dX9_put_48 : decode cX9_put 48 = .ok (.bastore, 1) := by decide +kernel
theorem dX9_put_49 : decode cX9_put 49 = .ok (.aload_n 0, 1) := by decide +kernel
theorem dX9_put_50 : decode cX9_put 50 = .ok (.dup, 1) := by decide +kernel
theorem dX9_put_51 : decode cX9_put 51 = .ok (.getfield 15, 3) := by decide +kernel
theorem dX9_put_54 : decode cX9_put 54 = .ok (.iconst 1, 1) := by decide +kernel
theorem dX9_put_55 : decode cX9_put 55 = .ok (.iadd, 1) := by decide +kernel
theorem dX9_put_56 : decode cX9_put 56 = .ok (.putfield 15, 3) := by decide +kernel
theorem dX9_put_59 : decode cX9_put 59 = .ok (.iinc 2 (-8), 3) := by decide +kernel
theorem dX9_put_62 : decode cX9_put 62 = .ok (.goto (-59), 3) := by decide +kernel
theorem dX9_put_65 : decode cX9_put 65 = .ok (.return_, 1) := by decide +kernel
theorem dX9_cut_0 : decode cX9_cut 0 = .ok (.iload_n 1, 1) := by decide +kernel
theorem dX9_cut_1 : decode cX9_cut 1 = .ok (.ifCond .lt 11, 3) := by decide +kernel
theorem dX9_cut_4 : decode cX9_cut 4 = .ok (.iload_n 1, 1) := by decide +kernel
theorem dX9_cut_5 : decode cX9_cut 5 = .ok (.aload_n 0, 1) := by decide +kernel
theorem dX9_cut_6 : decode cX9_cut 6 = .ok (.getfield 15, 3) := by decide +kernel
theorem dX9_cut_9 : decode cX9_cut 9 = .ok (.if_icmp .le 5, 3) := by decide +kernel
theorem dX9_cut_12 : decode cX9_cut 12 = .ok (.iconst 0, 1) := by decide +kernel
theorem dX9_cut_13 : decode cX9_cut 13 = .ok (.ireturn, 1) := by decide +kernel
theorem dX9_cut_14 : decode cX9_cut 14 = .ok (.aload_n 0, 1) := by decide +kernel
theorem dX9_cut_15 : decode cX9_cut 15 = .ok (.iload_n 1, 1) := by decide +kernel
theorem dX9_cut_16 : decode cX9_cut 16 = .ok (.putfield 15, 3) := by decide +kernel
theorem dX9_cut_19 : decode cX9_cut 19 = .ok (.iconst 1, 1) := by decide +kernel
theorem dX9_cut_20 : decode cX9_cut 20 = .ok (.ireturn, 1) := by decide +kernel
theorem dX10_with_0 : decode cX10_with 0 = .ok (.lload_n 0, 1) := by decide +kernel
theorem dX10_with_1 : decode cX10_with 1 = .ok (.iconst 5, 1) := by decide +kernel
theorem dX10_with_2 : decode cX10_with 2 = .ok (.lshl, 1) := by decide +kernel
theorem dX10_with_3 : decode cX10_with 3 = .ok (.iload_n 2, 1) := by decide +kernel
theorem dX10_with_4 : decode cX10_with 4 = .ok (.bipush 97, 2) := by decide +kernel
theorem dX10_with_6 : decode cX10_with 6 = .ok (.isub, 1) := by decide +kernel
theorem dX10_with_7 : decode cX10_with 7 = .ok (.iconst 1, 1) := by decide +kernel
theorem dX10_with_8 : decode cX10_with 8 = .ok (.iadd, 1) := by decide +kernel
theorem dX10_with_9 : decode cX10_with 9 = .ok (.i2l, 1) := by decide +kernel
theorem dX10_with_10 : decode cX10_with 10 = .ok (.lor, 1) := by decide +kernel
theorem dX10_with_11 : decode cX10_with 11 = .ok (.lreturn, 1) := by decide +kernel
theorem dX10_letter_0 : decode cX10_letter 0 = .ok (.lload_n 0, 1) := by decide +kernel
theorem dX10_letter_1 : decode cX10_letter 1 = .ok (.iconst 5, 1) := by decide +kernel
theorem dX10_letter_2 : decode cX10_letter 2 = .ok (.iload_n 2, 1) := by decide +kernel
theorem dX10_letter_3 : decode cX10_letter 3 = .ok (.imul, 1) := by decide +kernel
theorem dX10_letter_4 : decode cX10_letter 4 = .ok (.lushr, 1) := by decide +kernel
theorem dX10_letter_5 : decode cX10_letter 5 = .ok (.l2i, 1) := by decide +kernel
theorem dX10_letter_6 : decode cX10_letter 6 = .ok (.bipush 31, 2) := by decide +kernel
theorem dX10_letter_8 : decode cX10_letter 8 = .ok (.iand, 1) := by decide +kernel
theorem dX10_letter_9 : decode cX10_letter 9 = .ok (.ireturn, 1) := by decide +kernel
theorem dX10_letters_0 : decode cX10_letters 0 = .ok (.iconst 0, 1) := by decide +kernel
theorem dX10_letters_1 : decode cX10_letters 1 = .ok (.istore_n 2, 1) := by decide +kernel
theorem dX10_letters_2 : decode cX10_letters 2 = .ok (.iconst 0, 1) := by decide +kernel
theorem dX10_letters_3 : decode cX10_letters 3 = .ok (.istore_n 3, 1) := by decide +kernel
theorem dX10_letters_4 : decode cX10_letters 4 = .ok (.iload_n 3, 1) := by decide +kernel
theorem dX10_letters_5 : decode cX10_letters 5 = .ok (.bipush 8, 2) := by decide +kernel
theorem dX10_letters_7 : decode cX10_letters 7 = .ok (.if_icmp .ge 22, 3) := by decide +kernel
theorem dX10_letters_10 : decode cX10_letters 10 = .ok (.lload_n 0, 1) := by decide +kernel
theorem dX10_letters_11 : decode cX10_letters 11 = .ok (.iconst 5, 1) := by decide +kernel
theorem dX10_letters_12 : decode cX10_letters 12 = .ok (.iload_n 3, 1) := by decide +kernel
theorem dX10_letters_13 : decode cX10_letters 13 = .ok (.imul, 1) := by decide +kernel
theorem dX10_letters_14 : decode cX10_letters 14 = .ok (.lushr, 1) := by decide +kernel
theorem dX10_letters_15 : decode cX10_letters 15 = .ok (.lconst 0, 1) := by decide +kernel
theorem dX10_letters_16 : decode cX10_letters 16 = .ok (.lcmp, 1) := by decide +kernel
theorem dX10_letters_17 : decode cX10_letters 17 = .ok (.ifCond .eq 12, 3) := by decide +kernel
theorem dX10_letters_20 : decode cX10_letters 20 = .ok (.iinc 2 1, 3) := by decide +kernel
theorem dX10_letters_23 : decode cX10_letters 23 = .ok (.iinc 3 1, 3) := by decide +kernel
theorem dX10_letters_26 : decode cX10_letters 26 = .ok (.goto (-22), 3) := by decide +kernel
theorem dX10_letters_29 : decode cX10_letters 29 = .ok (.iload_n 2, 1) := by decide +kernel
theorem dX10_letters_30 : decode cX10_letters 30 = .ok (.ireturn, 1) := by decide +kernel
theorem dX10_vowels_0 : decode cX10_vowels 0 = .ok (.iconst 0, 1) := by decide +kernel
theorem dX10_vowels_1 : decode cX10_vowels 1 = .ok (.istore_n 2, 1) := by decide +kernel
theorem dX10_vowels_2 : decode cX10_vowels 2 = .ok (.iconst 0, 1) := by decide +kernel
theorem dX10_vowels_3 : decode cX10_vowels 3 = .ok (.istore_n 3, 1) := by decide +kernel
theorem dX10_vowels_4 : decode cX10_vowels 4 = .ok (.iload_n 3, 1) := by decide +kernel
theorem dX10_vowels_5 : decode cX10_vowels 5 = .ok (.bipush 8, 2) := by decide +kernel
theorem dX10_vowels_7 : decode cX10_vowels 7 = .ok (.if_icmp .ge 77, 3) := by decide +kernel
theorem dX10_vowels_10 : decode cX10_vowels 10 = .ok (.lload_n 0, 1) := by decide +kernel
theorem dX10_vowels_11 : decode cX10_vowels 11 = .ok (.iload_n 3, 1) := by decide +kernel
theorem dX10_vowels_12 : decode cX10_vowels 12 = .ok (.invokestatic 9, 3) := by decide +kernel
theorem dX10_vowels_15 : decode cX10_vowels 15 = .ok (.bipush 97, 2) := by decide +kernel
theorem dX10_vowels_17 : decode cX10_vowels 17 = .ok (.iadd, 1) := by decide +kernel
theorem dX10_vowels_18 : decode cX10_vowels 18 = .ok (.iconst 1, 1) := by decide +kernel
theorem dX10_vowels_19 : decode cX10_vowels 19 = .ok (.isub, 1) := by decide +kernel
theorem dX10_vowels_20 : decode cX10_vowels 20 = .ok (.lookupswitch 58 #[(97, 52), (101, 52), (105, 52), (111, 52), (117, 52)], 52) := by decide +kernel
theorem dX10_vowels_72 : decode cX10_vowels 72 = .ok (.iinc 2 1, 3) := by decide +kernel
theorem dX10_vowels_75 : decode cX10_vowels 75 = .ok (.goto 3, 3) := by decide +kernel
theorem dX10_vowels_78 : decode cX10_vowels 78 = .ok (.iinc 3 1, 3) := by decide +kernel
theorem dX10_vowels_81 : decode cX10_vowels 81 = .ok (.goto (-77), 3) := by decide +kernel
theorem dX10_vowels_84 : decode cX10_vowels 84 = .ok (.iload_n 2, 1) := by decide +kernel
theorem dX10_vowels_85 : decode cX10_vowels 85 = .ok (.ireturn, 1) := by decide +kernel
theorem dX10_firstLetter_0 : decode cX10_firstLetter 0 = .ok (.lload_n 0, 1) := by decide +kernel
theorem dX10_firstLetter_1 : decode cX10_firstLetter 1 = .ok (.invokestatic 13, 3) := by decide +kernel
theorem dX10_firstLetter_4 : decode cX10_firstLetter 4 = .ok (.istore_n 2, 1) := by decide +kernel
theorem dX10_firstLetter_5 : decode cX10_firstLetter 5 = .ok (.iload_n 2, 1) := by decide +kernel
theorem dX10_firstLetter_6 : decode cX10_firstLetter 6 = .ok (.ifCond .ne 7, 3) := by decide +kernel
theorem dX10_firstLetter_9 : decode cX10_firstLetter 9 = .ok (.iconst 0, 1) := by decide +kernel
theorem dX10_firstLetter_10 : decode cX10_firstLetter 10 = .ok (.goto 10, 3) := by decide +kernel
theorem dX10_firstLetter_13 : decode cX10_firstLetter 13 = .ok (.lload_n 0, 1) := by decide +kernel
theorem dX10_firstLetter_14 : decode cX10_firstLetter 14 = .ok (.iload_n 2, 1) := by decide +kernel
theorem dX10_firstLetter_15 : decode cX10_firstLetter 15 = .ok (.iconst 1, 1) := by decide +kernel
theorem dX10_firstLetter_16 : decode cX10_firstLetter 16 = .ok (.isub, 1) := by decide +kernel
theorem dX10_firstLetter_17 : decode cX10_firstLetter 17 = .ok (.invokestatic 9, 3) := by decide +kernel
theorem dX10_firstLetter_20 : decode cX10_firstLetter 20 = .ok (.ireturn, 1) := by decide +kernel
theorem dX11_init_0 : decode cX11_init 0 = .ok (.aload_n 0, 1) := by decide +kernel
theorem dX11_init_1 : decode cX11_init 1 = .ok (.invokespecial 1, 3) := by decide +kernel
theorem dX11_init_4 : decode cX11_init 4 = .ok (.new 7, 3) := by decide +kernel
theorem dX11_init_7 : decode cX11_init 7 = .ok (.dup, 1) := by decide +kernel
theorem dX11_init_8 : decode cX11_init 8 = .ok (.invokespecial 9, 3) := by decide +kernel
theorem dX11_init_11 : decode cX11_init 11 = .ok (.astore_n 1, 1) := by decide +kernel
theorem dX11_init_12 : decode cX11_init 12 = .ok (.new 10, 3) := by decide +kernel
theorem dX11_init_15 : decode cX11_init 15 = .ok (.dup, 1) := by decide +kernel
theorem dX11_init_16 : decode cX11_init 16 = .ok (.aload_n 1, 1) := by decide +kernel
theorem dX11_init_17 : decode cX11_init 17 = .ok (.invokespecial 12, 3) := by decide +kernel
theorem dX11_init_20 : decode cX11_init 20 = .ok (.astore_n 2, 1) := by decide +kernel
theorem dX11_init_21 : decode cX11_init 21 = .ok (.aload_n 0, 1) := by decide +kernel
theorem dX11_init_22 : decode cX11_init 22 = .ok (.new 15, 3) := by decide +kernel
theorem dX11_init_25 : decode cX11_init 25 = .ok (.dup, 1) := by decide +kernel
theorem dX11_init_26 : decode cX11_init 26 = .ok (.invokespecial 17, 3) := by decide +kernel
theorem dX11_init_29 : decode cX11_init 29 = .ok (.putfield 18, 3) := by decide +kernel
theorem dX11_init_32 : decode cX11_init 32 = .ok (.aload_n 0, 1) := by decide +kernel
theorem dX11_init_33 : decode cX11_init 33 = .ok (.new 24, 3) := by decide +kernel
theorem dX11_init_36 : decode cX11_init 36 = .ok (.dup, 1) := by decide +kernel
theorem dX11_init_37 : decode cX11_init 37 = .ok (.invokespecial 26, 3) := by decide +kernel
theorem dX11_init_40 : decode cX11_init 40 = .ok (.putfield 27, 3) := by decide +kernel
theorem dX11_init_43 : decode cX11_init 43 = .ok (.aload_n 0, 1) := by decide +kernel
theorem dX11_init_44 : decode cX11_init 44 = .ok (.new 31, 3) := by decide +kernel
theorem dX11_init_47 : decode cX11_init 47 = .ok (.dup, 1) := by decide +kernel
theorem dX11_init_48 : decode cX11_init 48 = .ok (.invokespecial 33, 3) := by decide +kernel
theorem dX11_init_51 : decode cX11_init 51 = .ok (.putfield 34, 3) := by decide +kernel
theorem dX11_init_54 : decode cX11_init 54 = .ok (.aload_n 0, 1) := by decide +kernel
theorem dX11_init_55 : decode cX11_init 55 = .ok (.new 38, 3) := by decide +kernel
theorem dX11_init_58 : decode cX11_init 58 = .ok (.dup, 1) := by decide +kernel
theorem dX11_init_59 : decode cX11_init 59 = .ok (.invokespecial 40, 3) := by decide +kernel
theorem dX11_init_62 : decode cX11_init 62 = .ok (.putfield 41, 3) := by decide +kernel
theorem dX11_init_65 : decode cX11_init 65 = .ok (.aload_n 0, 1) := by decide +kernel
theorem dX11_init_66 : decode cX11_init 66 = .ok (.aload_n 1, 1) := by decide +kernel
theorem dX11_init_67 : decode cX11_init 67 = .ok (.putfield 45, 3) := by decide +kernel
theorem dX11_init_70 : decode cX11_init 70 = .ok (.aload_n 0, 1) := by decide +kernel
theorem dX11_init_71 : decode cX11_init 71 = .ok (.aload_n 2, 1) := by decide +kernel
theorem dX11_init_72 : decode cX11_init 72 = .ok (.putfield 49, 3) := by decide +kernel
theorem dX11_init_75 : decode cX11_init 75 = .ok (.aload_n 0, 1) := by decide +kernel
theorem dX11_init_76 : decode cX11_init 76 = .ok (.new 53, 3) := by decide +kernel
theorem dX11_init_79 : decode cX11_init 79 = .ok (.dup, 1) := by decide +kernel
theorem dX11_init_80 : decode cX11_init 80 = .ok (.aload_n 1, 1) := by decide +kernel
theorem dX11_init_81 : decode cX11_init 81 = .ok (.aload_n 2, 1) := by decide +kernel
theorem dX11_init_82 : decode cX11_init 82 = .ok (.invokespecial 55, 3) := by decide +kernel
theorem dX11_init_85 : decode cX11_init 85 = .ok (.putfield 58, 3) := by decide +kernel
theorem dX11_init_88 : decode cX11_init 88 = .ok (.aload_n 0, 1) := by decide +kernel
theorem dX11_init_89 : decode cX11_init 89 = .ok (.new 62, 3) := by decide +kernel
theorem dX11_init_92 : decode cX11_init 92 = .ok (.dup, 1) := by decide +kernel
theorem dX11_init_93 : decode cX11_init 93 = .ok (.aload_n 1, 1) := by decide +kernel
theorem dX11_init_94 : decode cX11_init 94 = .ok (.aload_n 2, 1) := by decide +kernel
theorem dX11_init_95 : decode cX11_init 95 = .ok (.invokespecial 64, 3) := by decide +kernel
theorem dX11_init_98 : decode cX11_init 98 = .ok (.putfield 65, 3) := by decide +kernel
theorem dX11_init_101 : decode cX11_init 101 = .ok (.aload_n 0, 1) := by decide +kernel
theorem dX11_init_102 : decode cX11_init 102 = .ok (.new 69, 3) := by decide +kernel
theorem dX11_init_105 : decode cX11_init 105 = .ok (.dup, 1) := by decide +kernel
theorem dX11_init_106 : decode cX11_init 106 = .ok (.invokespecial 71, 3) := by decide +kernel
theorem dX11_init_109 : decode cX11_init 109 = .ok (.putfield 72, 3) := by decide +kernel
theorem dX11_init_112 : decode cX11_init 112 = .ok (.aload_n 0, 1) := by decide +kernel
theorem dX11_init_113 : decode cX11_init 113 = .ok (.iconst 0, 1) := by decide +kernel
theorem dX11_init_114 : decode cX11_init 114 = .ok (.putfield 76, 3) := by decide +kernel
theorem dX11_init_117 : decode cX11_init 117 = .ok (.aload_n 0, 1) := by decide +kernel
theorem dX11_init_118 : decode cX11_init 118 = .ok (.iconst 0, 1) := by decide +kernel
theorem dX11_init_119 : decode cX11_init 119 = .ok (.putfield 80, 3) := by decide +kernel
theorem dX11_init_122 : decode cX11_init 122 = .ok (.return_, 1) := by decide +kernel
theorem dX11_feed_0 : decode cX11_feed 0 = .ok (.iload_n 1, 1) := by decide +kernel
theorem dX11_feed_1 : decode cX11_feed 1 = .ok (.invokestatic 83, 3) := by decide +kernel
theorem dX11_feed_4 : decode cX11_feed 4 = .ok (.iload_n 2, 1) := by decide +kernel
theorem dX11_feed_5 : decode cX11_feed 5 = .ok (.invokestatic 83, 3) := by decide +kernel
theorem dX11_feed_8 : decode cX11_feed 8 = .ok (.iadd, 1) := by decide +kernel
theorem dX11_feed_9 : decode cX11_feed 9 = .ok (.iload_n 3, 1) := by decide +kernel
theorem dX11_feed_10 : decode cX11_feed 10 = .ok (.invokestatic 83, 3) := by decide +kernel
theorem dX11_feed_13 : decode cX11_feed 13 = .ok (.iadd, 1) := by decide +kernel
theorem dX11_feed_14 : decode cX11_feed 14 = .ok (.iload 4, 2) := by decide +kernel
theorem dX11_feed_16 : decode cX11_feed 16 = .ok (.invokestatic 83, 3) := by decide +kernel
theorem dX11_feed_19 : decode cX11_feed 19 = .ok (.iadd, 1) := by decide +kernel
theorem dX11_feed_20 : decode cX11_feed 20 = .ok (.iload 5, 2) := by decide +kernel
theorem dX11_feed_22 : decode cX11_feed 22 = .ok (.invokestatic 83, 3) := by decide +kernel
theorem dX11_feed_25 : decode cX11_feed 25 = .ok (.iadd, 1) := by decide +kernel
theorem dX11_feed_26 : decode cX11_feed 26 = .ok (.istore 6, 2) := by decide +kernel
theorem dX11_feed_28 : decode cX11_feed 28 = .ok (.aload_n 0, 1) := by decide +kernel
theorem dX11_feed_29 : decode cX11_feed 29 = .ok (.getfield 18, 3) := by decide +kernel
theorem dX11_feed_32 : decode cX11_feed 32 = .ok (.invokevirtual 87, 3) := by decide +kernel
theorem dX11_feed_35 : decode cX11_feed 35 = .ok (.iload 6, 2) := by decide +kernel
theorem dX11_feed_37 : decode cX11_feed 37 = .ok (.iadd, 1) := by decide +kernel
theorem dX11_feed_38 : decode cX11_feed 38 = .ok (.sipush 200, 3) := by decide +kernel
theorem dX11_feed_41 : decode cX11_feed 41 = .ok (.if_icmp .le 5, 3) := by decide +kernel
theorem dX11_feed_44 : decode cX11_feed 44 = .ok (.iconst (-1), 1) := by decide +kernel
theorem dX11_feed_45 : decode cX11_feed 45 = .ok (.ireturn, 1) := by decide +kernel
theorem dX11_feed_46 : decode cX11_feed 46 = .ok (.aload_n 0, 1) := by decide +kernel
theorem dX11_feed_47 : decode cX11_feed 47 = .ok (.getfield 18, 3) := by decide +kernel
theorem dX11_feed_50 : decode cX11_feed 50 = .ok (.iload_n 1, 1) := by decide +kernel
theorem dX11_feed_51 : decode cX11_feed 51 = .ok (.invokevirtual 91, 3) := by decide +kernel
theorem dX11_feed_54 : decode cX11_feed 54 = .ok (.aload_n 0, 1) := by decide +kernel
theorem dX11_feed_55 : decode cX11_feed 55 = .ok (.getfield 18, 3) := by decide +kernel
theorem dX11_feed_58 : decode cX11_feed 58 = .ok (.iload_n 2, 1) := by decide +kernel
theorem dX11_feed_59 : decode cX11_feed 59 = .ok (.invokevirtual 91, 3) := by decide +kernel
theorem dX11_feed_62 : decode cX11_feed 62 = .ok (.aload_n 0, 1) := by decide +kernel
theorem dX11_feed_63 : decode cX11_feed 63 = .ok (.getfield 18, 3) := by decide +kernel
theorem dX11_feed_66 : decode cX11_feed 66 = .ok (.iload_n 3, 1) := by decide +kernel
theorem dX11_feed_67 : decode cX11_feed 67 = .ok (.invokevirtual 91, 3) := by decide +kernel
theorem dX11_feed_70 : decode cX11_feed 70 = .ok (.aload_n 0, 1) := by decide +kernel
theorem dX11_feed_71 : decode cX11_feed 71 = .ok (.getfield 18, 3) := by decide +kernel
theorem dX11_feed_74 : decode cX11_feed 74 = .ok (.iload 4, 2) := by decide +kernel
theorem dX11_feed_76 : decode cX11_feed 76 = .ok (.invokevirtual 91, 3) := by decide +kernel
theorem dX11_feed_79 : decode cX11_feed 79 = .ok (.aload_n 0, 1) := by decide +kernel
theorem dX11_feed_80 : decode cX11_feed 80 = .ok (.getfield 18, 3) := by decide +kernel
theorem dX11_feed_83 : decode cX11_feed 83 = .ok (.iload 5, 2) := by decide +kernel
theorem dX11_feed_85 : decode cX11_feed 85 = .ok (.invokevirtual 91, 3) := by decide +kernel
theorem dX11_feed_88 : decode cX11_feed 88 = .ok (.aload_n 0, 1) := by decide +kernel
theorem dX11_feed_89 : decode cX11_feed 89 = .ok (.getfield 18, 3) := by decide +kernel
theorem dX11_feed_92 : decode cX11_feed 92 = .ok (.invokevirtual 87, 3) := by decide +kernel
theorem dX11_feed_95 : decode cX11_feed 95 = .ok (.ireturn, 1) := by decide +kernel
theorem dX11_end_0 : decode cX11_end 0 = .ok (.aload_n 0, 1) := by decide +kernel
theorem dX11_end_1 : decode cX11_end 1 = .ok (.getfield 18, 3) := by decide +kernel
theorem dX11_end_4 : decode cX11_end 4 = .ok (.iload_n 1, 1) := by decide +kernel
theorem dX11_end_5 : decode cX11_end 5 = .ok (.invokevirtual 95, 3) := by decide +kernel
theorem dX11_end_8 : decode cX11_end 8 = .ok (.ireturn, 1) := by decide +kernel
theorem dX11_fault_0 : decode cX11_fault 0 = .ok (.aload_n 0, 1) := by decide +kernel
theorem dX11_fault_1 : decode cX11_fault 1 = .ok (.iload_n 1, 1) := by decide +kernel
theorem dX11_fault_2 : decode cX11_fault 2 = .ok (.invokevirtual 99, 3) := by decide +kernel
theorem dX11_fault_5 : decode cX11_fault 5 = .ok (.astore_n 2, 1) := by decide +kernel
theorem dX11_fault_6 : decode cX11_fault 6 = .ok (.aload_n 2, 1) := by decide +kernel
theorem dX11_fault_7 : decode cX11_fault 7 = .ok (.ifnonnull 8, 3) := by decide +kernel
theorem dX11_fault_10 : decode cX11_fault 10 = .ok (.bipush (-2), 2) := by decide +kernel
theorem dX11_fault_12 : decode cX11_fault 12 = .ok (.goto 11, 3) := by decide +kernel
theorem dX11_fault_15 : decode cX11_fault 15 = .ok (.aload_n 2, 1) := by decide +kernel
theorem dX11_fault_16 : decode cX11_fault 16 = .ok (.aload_n 0, 1) := by decide +kernel
theorem dX11_fault_17 : decode cX11_fault 17 = .ok (.getfield 18, 3) := by decide +kernel
theorem dX11_fault_20 : decode cX11_fault 20 = .ok (.invokevirtual 103, 3) := by decide +kernel
theorem dX11_fault_23 : decode cX11_fault 23 = .ok (.ireturn, 1) := by decide +kernel
theorem dX11_text_0 : decode cX11_text 0 = .ok (.aload_n 0, 1) := by decide +kernel
theorem dX11_text_1 : decode cX11_text 1 = .ok (.iload_n 1, 1) := by decide +kernel
theorem dX11_text_2 : decode cX11_text 2 = .ok (.invokevirtual 99, 3) := by decide +kernel
theorem dX11_text_5 : decode cX11_text 5 = .ok (.astore_n 2, 1) := by decide +kernel
theorem dX11_text_6 : decode cX11_text 6 = .ok (.aload_n 2, 1) := by decide +kernel
theorem dX11_text_7 : decode cX11_text 7 = .ok (.ifnull 15, 3) := by decide +kernel
theorem dX11_text_10 : decode cX11_text 10 = .ok (.aload_n 2, 1) := by decide +kernel
theorem dX11_text_11 : decode cX11_text 11 = .ok (.aload_n 0, 1) := by decide +kernel
theorem dX11_text_12 : decode cX11_text 12 = .ok (.getfield 18, 3) := by decide +kernel
theorem dX11_text_15 : decode cX11_text 15 = .ok (.invokevirtual 103, 3) := by decide +kernel
theorem dX11_text_18 : decode cX11_text 18 = .ok (.iconst (-1), 1) := by decide +kernel
theorem dX11_text_19 : decode cX11_text 19 = .ok (.if_icmp .eq 5, 3) := by decide +kernel
theorem dX11_text_22 : decode cX11_text 22 = .ok (.iconst (-1), 1) := by decide +kernel
theorem dX11_text_23 : decode cX11_text 23 = .ok (.ireturn, 1) := by decide +kernel
theorem dX11_text_24 : decode cX11_text 24 = .ok (.aload_n 0, 1) := by decide +kernel
theorem dX11_text_25 : decode cX11_text 25 = .ok (.iload_n 1, 1) := by decide +kernel
theorem dX11_text_26 : decode cX11_text 26 = .ok (.invokevirtual 109, 3) := by decide +kernel
theorem dX11_text_29 : decode cX11_text 29 = .ok (.istore_n 3, 1) := by decide +kernel
theorem dX11_text_30 : decode cX11_text 30 = .ok (.iload_n 3, 1) := by decide +kernel
theorem dX11_text_31 : decode cX11_text 31 = .ok (.iconst (-1), 1) := by decide +kernel
theorem dX11_text_32 : decode cX11_text 32 = .ok (.if_icmp .eq 12, 3) := by decide +kernel
theorem dX11_text_35 : decode cX11_text 35 = .ok (.aload_n 0, 1) := by decide +kernel
theorem dX11_text_36 : decode cX11_text 36 = .ok (.getfield 18, 3) := by decide +kernel
theorem dX11_text_39 : decode cX11_text 39 = .ok (.iconst 0, 1) := by decide +kernel
theorem dX11_text_40 : decode cX11_text 40 = .ok (.invokevirtual 95, 3) := by decide +kernel
theorem dX11_text_43 : decode cX11_text 43 = .ok (.pop, 1) := by decide +kernel
theorem dX11_text_44 : decode cX11_text 44 = .ok (.iload_n 3, 1) := by decide +kernel
theorem dX11_text_45 : decode cX11_text 45 = .ok (.ireturn, 1) := by decide +kernel
theorem dX11_readerOf_0 : decode cX11_readerOf 0 = .ok (.iload_n 1, 1) := by decide +kernel
theorem dX11_readerOf_1 : decode cX11_readerOf 1 = .ok (.tableswitch 42 0 2 #[27, 32, 37], 27) := by decide +kernel
theorem dX11_readerOf_28 : decode cX11_readerOf 28 = .ok (.aload_n 0, 1) := by decide +kernel
theorem dX11_readerOf_29 : decode cX11_readerOf 29 = .ok (.getfield 27, 3) := by decide +kernel
theorem dX11_readerOf_32 : decode cX11_readerOf 32 = .ok (.areturn, 1) := by decide +kernel
theorem dX11_readerOf_33 : decode cX11_readerOf 33 = .ok (.aload_n 0, 1) := by decide +kernel
theorem dX11_readerOf_34 : decode cX11_readerOf 34 = .ok (.getfield 34, 3) := by decide +kernel
theorem dX11_readerOf_37 : decode cX11_readerOf 37 = .ok (.areturn, 1) := by decide +kernel
theorem dX11_readerOf_38 : decode cX11_readerOf 38 = .ok (.aload_n 0, 1) := by decide +kernel
theorem dX11_readerOf_39 : decode cX11_readerOf 39 = .ok (.getfield 41, 3) := by decide +kernel
theorem dX11_readerOf_42 : decode cX11_readerOf 42 = .ok (.areturn, 1) := by decide +kernel
theorem dX11_readerOf_43 : decode cX11_readerOf 43 = .ok (.aconst_null, 1) := by decide +kernel
theorem dX11_readerOf_44 : decode cX11_readerOf 44 = .ok (.areturn, 1) := by decide +kernel
theorem dX11_stored_0 : decode cX11_stored 0 = .ok (.iload_n 1, 1) := by decide +kernel
theorem dX11_stored_1 : decode cX11_stored 1 = .ok (.lookupswitch 51 #[(0, 27), (1, 39)], 27) := by decide +kernel
theorem dX11_stored_28 : decode cX11_stored 28 = .ok (.aload_n 0, 1) := by decide +kernel
theorem dX11_stored_29 : decode cX11_stored 29 = .ok (.getfield 45, 3) := by decide +kernel
theorem dX11_stored_32 : decode cX11_stored 32 = .ok (.aload_n 0, 1) := by decide +kernel
theorem dX11_stored_33 : decode cX11_stored 33 = .ok (.getfield 27, 3) := by decide +kernel
theorem dX11_stored_36 : decode cX11_stored 36 = .ok (.invokevirtual 112, 3) := by decide +kernel
theorem dX11_stored_39 : decode cX11_stored 39 = .ok (.ireturn, 1) := by decide +kernel
theorem dX11_stored_40 : decode cX11_stored 40 = .ok (.aload_n 0, 1) := by decide +kernel
theorem dX11_stored_41 : decode cX11_stored 41 = .ok (.getfield 72, 3) := by decide +kernel
theorem dX11_stored_44 : decode cX11_stored 44 = .ok (.aload_n 0, 1) := by decide +kernel
theorem dX11_stored_45 : decode cX11_stored 45 = .ok (.getfield 34, 3) := by decide +kernel
theorem dX11_stored_48 : decode cX11_stored 48 = .ok (.invokevirtual 116, 3) := by decide +kernel
theorem dX11_stored_51 : decode cX11_stored 51 = .ok (.ireturn, 1) := by decide +kernel
theorem dX11_stored_52 : decode cX11_stored 52 = .ok (.aload_n 0, 1) := by decide +kernel
theorem dX11_stored_53 : decode cX11_stored 53 = .ok (.getfield 41, 3) := by decide +kernel
theorem dX11_stored_56 : decode cX11_stored 56 = .ok (.invokevirtual 119, 3) := by decide +kernel
theorem dX11_stored_59 : decode cX11_stored 59 = .ok (.ireturn, 1) := by decide +kernel
theorem dX11_speech_0 : decode cX11_speech 0 = .ok (.aload_n 0, 1) := by decide +kernel
theorem dX11_speech_1 : decode cX11_speech 1 = .ok (.getfield 45, 3) := by decide +kernel
theorem dX11_speech_4 : decode cX11_speech 4 = .ok (.iload_n 1, 1) := by decide +kernel
theorem dX11_speech_5 : decode cX11_speech 5 = .ok (.invokevirtual 121, 3) := by decide +kernel
theorem dX11_speech_8 : decode cX11_speech 8 = .ok (.ifCond .eq 12, 3) := by decide +kernel
theorem dX11_speech_11 : decode cX11_speech 11 = .ok (.iload_n 2, 1) := by decide +kernel
theorem dX11_speech_12 : decode cX11_speech 12 = .ok (.ifCond .lt 8, 3) := by decide +kernel
theorem dX11_speech_15 : decode cX11_speech 15 = .ok (.iload_n 2, 1) := by decide +kernel
theorem dX11_speech_16 : decode cX11_speech 16 = .ok (.iconst 2, 1) := by decide +kernel
theorem dX11_speech_17 : decode cX11_speech 17 = .ok (.if_icmp .le 13, 3) := by decide +kernel
theorem dX11_speech_20 : decode cX11_speech 20 = .ok (.new 124, 3) := by decide +kernel
theorem dX11_speech_23 : decode cX11_speech 23 = .ok (.dup, 1) := by decide +kernel
theorem dX11_speech_24 : decode cX11_speech 24 = .ok (.ldc 126, 2) := by decide +kernel
theorem dX11_speech_26 : decode cX11_speech 26 = .ok (.invokespecial 128, 3) := by decide +kernel
theorem dX11_speech_29 : decode cX11_speech 29 = .ok (.athrow, 1) := by decide +kernel
theorem dX11_speech_30 : decode cX11_speech 30 = .ok (.iload_n 2, 1) := by decide +kernel
theorem dX11_speech_31 : decode cX11_speech 31 = .ok (.ifCond .ne 12, 3) := by decide +kernel
theorem dX11_speech_34 : decode cX11_speech 34 = .ok (.aload_n 0, 1) := by decide +kernel
theorem dX11_speech_35 : decode cX11_speech 35 = .ok (.getfield 45, 3) := by decide +kernel
theorem dX11_speech_38 : decode cX11_speech 38 = .ok (.iload_n 1, 1) := by decide +kernel
theorem dX11_speech_39 : decode cX11_speech 39 = .ok (.invokevirtual 131, 3) := by decide +kernel
theorem dX11_speech_42 : decode cX11_speech 42 = .ok (.ireturn, 1) := by decide +kernel
theorem dX11_speech_43 : decode cX11_speech 43 = .ok (.iload_n 2, 1) := by decide +kernel
theorem dX11_speech_44 : decode cX11_speech 44 = .ok (.iconst 1, 1) := by decide +kernel
theorem dX11_speech_45 : decode cX11_speech 45 = .ok (.if_icmp .ne 14, 3) := by decide +kernel
theorem dX11_speech_48 : decode cX11_speech 48 = .ok (.aload_n 0, 1) := by decide +kernel
theorem dX11_speech_49 : decode cX11_speech 49 = .ok (.getfield 45, 3) := by decide +kernel
theorem dX11_speech_52 : decode cX11_speech 52 = .ok (.iload_n 1, 1) := by decide +kernel
theorem dX11_speech_53 : decode cX11_speech 53 = .ok (.invokevirtual 134, 3) := by decide +kernel
theorem dX11_speech_56 : decode cX11_speech 56 = .ok (.goto 14, 3) := by decide +kernel
theorem dX11_speech_59 : decode cX11_speech 59 = .ok (.aload_n 0, 1) := by decide +kernel
theorem dX11_speech_60 : decode cX11_speech 60 = .ok (.getfield 45, 3) := by decide +kernel
theorem dX11_speech_63 : decode cX11_speech 63 = .ok (.iload_n 1, 1) := by decide +kernel
theorem dX11_speech_64 : decode cX11_speech 64 = .ok (.invokevirtual 137, 3) := by decide +kernel
theorem dX11_speech_67 : decode cX11_speech 67 = .ok (.invokestatic 141, 3) := by decide +kernel
theorem dX11_speech_70 : decode cX11_speech 70 = .ok (.ireturn, 1) := by decide +kernel
theorem dX11_many_0 : decode cX11_many 0 = .ok (.aload_n 0, 1) := by decide +kernel
theorem dX11_many_1 : decode cX11_many 1 = .ok (.getfield 45, 3) := by decide +kernel
theorem dX11_many_4 : decode cX11_many 4 = .ok (.iload_n 1, 1) := by decide +kernel
theorem dX11_many_5 : decode cX11_many 5 = .ok (.invokevirtual 147, 3) := by decide +kernel
theorem dX11_many_8 : decode cX11_many 8 = .ok (.ifCond .eq 14, 3) := by decide +kernel
theorem dX11_many_11 : decode cX11_many 11 = .ok (.aload_n 0, 1) := by decide +kernel
theorem dX11_many_12 : decode cX11_many 12 = .ok (.getfield 45, 3) := by decide +kernel
theorem dX11_many_15 : decode cX11_many 15 = .ok (.iload_n 1, 1) := by decide +kernel
theorem dX11_many_16 : decode cX11_many 16 = .ok (.invokevirtual 150, 3) := by decide +kernel
theorem dX11_many_19 : decode cX11_many 19 = .ok (.goto 4, 3) := by decide +kernel
theorem dX11_many_22 : decode cX11_many 22 = .ok (.iconst (-1), 1) := by decide +kernel
theorem dX11_many_23 : decode cX11_many 23 = .ok (.ireturn, 1) := by decide +kernel
theorem dX11_ends_0 : decode cX11_ends 0 = .ok (.aload_n 0, 1) := by decide +kernel
theorem dX11_ends_1 : decode cX11_ends 1 = .ok (.getfield 45, 3) := by decide +kernel
theorem dX11_ends_4 : decode cX11_ends 4 = .ok (.iload_n 1, 1) := by decide +kernel
theorem dX11_ends_5 : decode cX11_ends 5 = .ok (.invokevirtual 121, 3) := by decide +kernel
theorem dX11_ends_8 : decode cX11_ends 8 = .ok (.ifCond .eq 14, 3) := by decide +kernel
theorem dX11_ends_11 : decode cX11_ends 11 = .ok (.aload_n 0, 1) := by decide +kernel
theorem dX11_ends_12 : decode cX11_ends 12 = .ok (.getfield 45, 3) := by decide +kernel
theorem dX11_ends_15 : decode cX11_ends 15 = .ok (.iload_n 2, 1) := by decide +kernel
theorem dX11_ends_16 : decode cX11_ends 16 = .ok (.invokevirtual 121, 3) := by decide +kernel
theorem dX11_ends_19 : decode cX11_ends 19 = .ok (.ifCond .ne 5, 3) := by decide +kernel
theorem dX11_ends_22 : decode cX11_ends 22 = .ok (.iconst (-1), 1) := by decide +kernel
theorem dX11_ends_23 : decode cX11_ends 23 = .ok (.ireturn, 1) := by decide +kernel
theorem dX11_ends_24 : decode cX11_ends 24 = .ok (.aload_n 0, 1) := by decide +kernel
theorem dX11_ends_25 : decode cX11_ends 25 = .ok (.getfield 49, 3) := by decide +kernel
theorem dX11_ends_28 : decode cX11_ends 28 = .ok (.iload_n 1, 1) := by decide +kernel
theorem dX11_ends_29 : decode cX11_ends 29 = .ok (.iload_n 2, 1) := by decide +kernel
theorem dX11_ends_30 : decode cX11_ends 30 = .ok (.invokevirtual 153, 3) := by decide +kernel
theorem dX11_ends_33 : decode cX11_ends 33 = .ok (.ifCond .eq 7, 3) := by decide +kernel
theorem dX11_ends_36 : decode cX11_ends 36 = .ok (.iconst 1, 1) := by decide +kernel
theorem dX11_ends_37 : decode cX11_ends 37 = .ok (.goto 4, 3) := by decide +kernel
theorem dX11_ends_40 : decode cX11_ends 40 = .ok (.iconst 0, 1) := by decide +kernel
theorem dX11_ends_41 : decode cX11_ends 41 = .ok (.ireturn, 1) := by decide +kernel
theorem dX11_far_0 : decode cX11_far 0 = .ok (.aload_n 0, 1) := by decide +kernel
theorem dX11_far_1 : decode cX11_far 1 = .ok (.getfield 45, 3) := by decide +kernel
theorem dX11_far_4 : decode cX11_far 4 = .ok (.iload_n 1, 1) := by decide +kernel
theorem dX11_far_5 : decode cX11_far 5 = .ok (.invokevirtual 157, 3) := by decide +kernel
theorem dX11_far_8 : decode cX11_far 8 = .ok (.ifCond .eq 14, 3) := by decide +kernel
theorem dX11_far_11 : decode cX11_far 11 = .ok (.aload_n 0, 1) := by decide +kernel
theorem dX11_far_12 : decode cX11_far 12 = .ok (.getfield 45, 3) := by decide +kernel
theorem dX11_far_15 : decode cX11_far 15 = .ok (.iload_n 2, 1) := by decide +kernel
theorem dX11_far_16 : decode cX11_far 16 = .ok (.invokevirtual 121, 3) := by decide +kernel
theorem dX11_far_19 : decode cX11_far 19 = .ok (.ifCond .ne 5, 3) := by decide +kernel
theorem dX11_far_22 : decode cX11_far 22 = .ok (.iconst (-1), 1) := by decide +kernel
theorem dX11_far_23 : decode cX11_far 23 = .ok (.ireturn, 1) := by decide +kernel
theorem dX11_far_24 : decode cX11_far 24 = .ok (.aload_n 0, 1) := by decide +kernel
theorem dX11_far_25 : decode cX11_far 25 = .ok (.getfield 49, 3) := by decide +kernel
theorem dX11_far_28 : decode cX11_far 28 = .ok (.iload_n 1, 1) := by decide +kernel
theorem dX11_far_29 : decode cX11_far 29 = .ok (.iload_n 2, 1) := by decide +kernel
theorem dX11_far_30 : decode cX11_far 30 = .ok (.invokevirtual 160, 3) := by decide +kernel
theorem dX11_far_33 : decode cX11_far 33 = .ok (.ireturn, 1) := by decide +kernel
theorem dX11_limit_0 : decode cX11_limit 0 = .ok (.aload_n 0, 1) := by decide +kernel
theorem dX11_limit_1 : decode cX11_limit 1 = .ok (.getfield 49, 3) := by decide +kernel
theorem dX11_limit_4 : decode cX11_limit 4 = .ok (.iload_n 1, 1) := by decide +kernel
theorem dX11_limit_5 : decode cX11_limit 5 = .ok (.invokevirtual 164, 3) := by decide +kernel
theorem dX11_limit_8 : decode cX11_limit 8 = .ok (.ireturn, 1) := by decide +kernel
theorem dX11_kind_0 : decode cX11_kind 0 = .ok (.aload_n 0, 1) := by decide +kernel
theorem dX11_kind_1 : decode cX11_kind 1 = .ok (.getfield 45, 3) := by decide +kernel
theorem dX11_kind_4 : decode cX11_kind 4 = .ok (.iload_n 1, 1) := by decide +kernel
theorem dX11_kind_5 : decode cX11_kind 5 = .ok (.invokevirtual 121, 3) := by decide +kernel
theorem dX11_kind_8 : decode cX11_kind 8 = .ok (.ifCond .eq 22, 3) := by decide +kernel
theorem dX11_kind_11 : decode cX11_kind 11 = .ok (.aload_n 0, 1) := by decide +kernel
theorem dX11_kind_12 : decode cX11_kind 12 = .ok (.getfield 45, 3) := by decide +kernel
theorem dX11_kind_15 : decode cX11_kind 15 = .ok (.iload_n 2, 1) := by decide +kernel
theorem dX11_kind_16 : decode cX11_kind 16 = .ok (.invokevirtual 167, 3) := by decide +kernel
theorem dX11_kind_19 : decode cX11_kind 19 = .ok (.ifCond .eq 11, 3) := by decide +kernel
theorem dX11_kind_22 : decode cX11_kind 22 = .ok (.iload_n 1, 1) := by decide +kernel
theorem dX11_kind_23 : decode cX11_kind 23 = .ok (.iload_n 2, 1) := by decide +kernel
theorem dX11_kind_24 : decode cX11_kind 24 = .ok (.invokestatic 170, 3) := by decide +kernel
theorem dX11_kind_27 : decode cX11_kind 27 = .ok (.ifCond .ne 5, 3) := by decide +kernel
theorem dX11_kind_30 : decode cX11_kind 30 = .ok (.iconst (-1), 1) := by decide +kernel
theorem dX11_kind_31 : decode cX11_kind 31 = .ok (.ireturn, 1) := by decide +kernel
theorem dX11_kind_32 : decode cX11_kind 32 = .ok (.aload_n 0, 1) := by decide +kernel
theorem dX11_kind_33 : decode cX11_kind 33 = .ok (.getfield 49, 3) := by decide +kernel
theorem dX11_kind_36 : decode cX11_kind 36 = .ok (.iload_n 1, 1) := by decide +kernel
theorem dX11_kind_37 : decode cX11_kind 37 = .ok (.iload_n 2, 1) := by decide +kernel
theorem dX11_kind_38 : decode cX11_kind 38 = .ok (.invokevirtual 173, 3) := by decide +kernel
theorem dX11_kind_41 : decode cX11_kind 41 = .ok (.ireturn, 1) := by decide +kernel
theorem dX11_kinds_0 : decode cX11_kinds 0 = .ok (.aload_n 0, 1) := by decide +kernel
theorem dX11_kinds_1 : decode cX11_kinds 1 = .ok (.getfield 45, 3) := by decide +kernel
theorem dX11_kinds_4 : decode cX11_kinds 4 = .ok (.iload_n 1, 1) := by decide +kernel
theorem dX11_kinds_5 : decode cX11_kinds 5 = .ok (.invokevirtual 167, 3) := by decide +kernel
theorem dX11_kinds_8 : decode cX11_kinds 8 = .ok (.ifCond .eq 12, 3) := by decide +kernel
theorem dX11_kinds_11 : decode cX11_kinds 11 = .ok (.iload_n 2, 1) := by decide +kernel
theorem dX11_kinds_12 : decode cX11_kinds 12 = .ok (.ifCond .lt 8, 3) := by decide +kernel
theorem dX11_kinds_15 : decode cX11_kinds 15 = .ok (.iload_n 2, 1) := by decide +kernel
theorem dX11_kinds_16 : decode cX11_kinds 16 = .ok (.iconst 5, 1) := by decide +kernel
theorem dX11_kinds_17 : decode cX11_kinds 17 = .ok (.if_icmp .le 5, 3) := by decide +kernel
theorem dX11_kinds_20 : decode cX11_kinds 20 = .ok (.iconst (-1), 1) := by decide +kernel
theorem dX11_kinds_21 : decode cX11_kinds 21 = .ok (.ireturn, 1) := by decide +kernel
theorem dX11_kinds_22 : decode cX11_kinds 22 = .ok (.aload_n 0, 1) := by decide +kernel
theorem dX11_kinds_23 : decode cX11_kinds 23 = .ok (.getfield 49, 3) := by decide +kernel
theorem dX11_kinds_26 : decode cX11_kinds 26 = .ok (.iload_n 1, 1) := by decide +kernel
theorem dX11_kinds_27 : decode cX11_kinds 27 = .ok (.iload_n 2, 1) := by decide +kernel
theorem dX11_kinds_28 : decode cX11_kinds 28 = .ok (.invokevirtual 176, 3) := by decide +kernel
theorem dX11_kinds_31 : decode cX11_kinds 31 = .ok (.ireturn, 1) := by decide +kernel
theorem dX11_nearest_0 : decode cX11_nearest 0 = .ok (.aload_n 0, 1) := by decide +kernel
theorem dX11_nearest_1 : decode cX11_nearest 1 = .ok (.getfield 45, 3) := by decide +kernel
theorem dX11_nearest_4 : decode cX11_nearest 4 = .ok (.iload_n 1, 1) := by decide +kernel
theorem dX11_nearest_5 : decode cX11_nearest 5 = .ok (.invokevirtual 157, 3) := by decide +kernel
theorem dX11_nearest_8 : decode cX11_nearest 8 = .ok (.ifCond .eq 22, 3) := by decide +kernel
theorem dX11_nearest_11 : decode cX11_nearest 11 = .ok (.aload_n 0, 1) := by decide +kernel
theorem dX11_nearest_12 : decode cX11_nearest 12 = .ok (.getfield 45, 3) := by decide +kernel
theorem dX11_nearest_15 : decode cX11_nearest 15 = .ok (.iload_n 2, 1) := by decide +kernel
theorem dX11_nearest_16 : decode cX11_nearest 16 = .ok (.invokevirtual 167, 3) := by decide +kernel
theorem dX11_nearest_19 : decode cX11_nearest 19 = .ok (.ifCond .eq 11, 3) := by decide +kernel
theorem dX11_nearest_22 : decode cX11_nearest 22 = .ok (.iload_n 1, 1) := by decide +kernel
theorem dX11_nearest_23 : decode cX11_nearest 23 = .ok (.iload_n 2, 1) := by decide +kernel
theorem dX11_nearest_24 : decode cX11_nearest 24 = .ok (.invokestatic 170, 3) := by decide +kernel
theorem dX11_nearest_27 : decode cX11_nearest 27 = .ok (.ifCond .ne 5, 3) := by decide +kernel
theorem dX11_nearest_30 : decode cX11_nearest 30 = .ok (.iconst (-1), 1) := by decide +kernel
theorem dX11_nearest_31 : decode cX11_nearest 31 = .ok (.ireturn, 1) := by decide +kernel
theorem dX11_nearest_32 : decode cX11_nearest 32 = .ok (.aload_n 0, 1) := by decide +kernel
theorem dX11_nearest_33 : decode cX11_nearest 33 = .ok (.getfield 49, 3) := by decide +kernel
theorem dX11_nearest_36 : decode cX11_nearest 36 = .ok (.iload_n 1, 1) := by decide +kernel
theorem dX11_nearest_37 : decode cX11_nearest 37 = .ok (.iload_n 2, 1) := by decide +kernel
theorem dX11_nearest_38 : decode cX11_nearest 38 = .ok (.invokevirtual 179, 3) := by decide +kernel
theorem dX11_nearest_41 : decode cX11_nearest 41 = .ok (.ireturn, 1) := by decide +kernel
theorem dX11_least_0 : decode cX11_least 0 = .ok (.aload_n 0, 1) := by decide +kernel
theorem dX11_least_1 : decode cX11_least 1 = .ok (.getfield 58, 3) := by decide +kernel
theorem dX11_least_4 : decode cX11_least 4 = .ok (.iload_n 1, 1) := by decide +kernel
theorem dX11_least_5 : decode cX11_least 5 = .ok (.invokevirtual 182, 3) := by decide +kernel
theorem dX11_least_8 : decode cX11_least 8 = .ok (.ifCond .eq 13, 3) := by decide +kernel
theorem dX11_least_11 : decode cX11_least 11 = .ok (.aload_n 0, 1) := by decide +kernel
theorem dX11_least_12 : decode cX11_least 12 = .ok (.getfield 58, 3) := by decide +kernel
theorem dX11_least_15 : decode cX11_least 15 = .ok (.invokevirtual 185, 3) := by decide +kernel
theorem dX11_least_18 : decode cX11_least 18 = .ok (.goto 4, 3) := by decide +kernel
theorem dX11_least_21 : decode cX11_least 21 = .ok (.iconst (-1), 1) := by decide +kernel
theorem dX11_least_22 : decode cX11_least 22 = .ok (.ireturn, 1) := by decide +kernel
theorem dX11_orders_0 : decode cX11_orders 0 = .ok (.aload_n 0, 1) := by decide +kernel
theorem dX11_orders_1 : decode cX11_orders 1 = .ok (.getfield 58, 3) := by decide +kernel
theorem dX11_orders_4 : decode cX11_orders 4 = .ok (.iload_n 1, 1) := by decide +kernel
theorem dX11_orders_5 : decode cX11_orders 5 = .ok (.invokevirtual 182, 3) := by decide +kernel
theorem dX11_orders_8 : decode cX11_orders 8 = .ok (.ifCond .eq 13, 3) := by decide +kernel
theorem dX11_orders_11 : decode cX11_orders 11 = .ok (.aload_n 0, 1) := by decide +kernel
theorem dX11_orders_12 : decode cX11_orders 12 = .ok (.getfield 58, 3) := by decide +kernel
theorem dX11_orders_15 : decode cX11_orders 15 = .ok (.invokevirtual 188, 3) := by decide +kernel
theorem dX11_orders_18 : decode cX11_orders 18 = .ok (.goto 6, 3) := by decide +kernel
theorem dX11_orders_21 : decode cX11_orders 21 = .ok (.ldc2_w 192, 3) := by decide +kernel
theorem dX11_orders_24 : decode cX11_orders 24 = .ok (.lreturn, 1) := by decide +kernel
theorem dX11_first_0 : decode cX11_first 0 = .ok (.aload_n 0, 1) := by decide +kernel
theorem dX11_first_1 : decode cX11_first 1 = .ok (.getfield 58, 3) := by decide +kernel
theorem dX11_first_4 : decode cX11_first 4 = .ok (.iload_n 1, 1) := by decide +kernel
theorem dX11_first_5 : decode cX11_first 5 = .ok (.invokevirtual 182, 3) := by decide +kernel
theorem dX11_first_8 : decode cX11_first 8 = .ok (.ifCond .eq 14, 3) := by decide +kernel
theorem dX11_first_11 : decode cX11_first 11 = .ok (.aload_n 0, 1) := by decide +kernel
theorem dX11_first_12 : decode cX11_first 12 = .ok (.getfield 58, 3) := by decide +kernel
theorem dX11_first_15 : decode cX11_first 15 = .ok (.iload_n 2, 1) := by decide +kernel
theorem dX11_first_16 : decode cX11_first 16 = .ok (.invokevirtual 194, 3) := by decide +kernel
theorem dX11_first_19 : decode cX11_first 19 = .ok (.goto 4, 3) := by decide +kernel
theorem dX11_first_22 : decode cX11_first 22 = .ok (.iconst (-1), 1) := by decide +kernel
theorem dX11_first_23 : decode cX11_first 23 = .ok (.ireturn, 1) := by decide +kernel
theorem dX11_sure_0 : decode cX11_sure 0 = .ok (.iload_n 2, 1) := by decide +kernel
theorem dX11_sure_1 : decode cX11_sure 1 = .ok (.iload_n 3, 1) := by decide +kernel
theorem dX11_sure_2 : decode cX11_sure 2 = .ok (.if_icmp .eq 25, 3) := by decide +kernel
theorem dX11_sure_5 : decode cX11_sure 5 = .ok (.aload_n 0, 1) := by decide +kernel
theorem dX11_sure_6 : decode cX11_sure 6 = .ok (.getfield 45, 3) := by decide +kernel
theorem dX11_sure_9 : decode cX11_sure 9 = .ok (.iload_n 2, 1) := by decide +kernel
theorem dX11_sure_10 : decode cX11_sure 10 = .ok (.invokevirtual 121, 3) := by decide +kernel
theorem dX11_sure_13 : decode cX11_sure 13 = .ok (.ifCond .eq 14, 3) := by decide +kernel
theorem dX11_sure_16 : decode cX11_sure 16 = .ok (.aload_n 0, 1) := by decide +kernel
theorem dX11_sure_17 : decode cX11_sure 17 = .ok (.getfield 45, 3) := by decide +kernel
theorem dX11_sure_20 : decode cX11_sure 20 = .ok (.iload_n 3, 1) := by decide +kernel
theorem dX11_sure_21 : decode cX11_sure 21 = .ok (.invokevirtual 121, 3) := by decide +kernel
theorem dX11_sure_24 : decode cX11_sure 24 = .ok (.ifCond .ne 6, 3) := by decide +kernel
theorem dX11_sure_27 : decode cX11_sure 27 = .ok (.bipush (-2), 2) := by decide +kernel
theorem dX11_sure_29 : decode cX11_sure 29 = .ok (.ireturn, 1) := by decide +kernel
theorem dX11_sure_30 : decode cX11_sure 30 = .ok (.iload_n 2, 1) := by decide +kernel
theorem dX11_sure_31 : decode cX11_sure 31 = .ok (.iload_n 1, 1) := by decide +kernel
theorem dX11_sure_32 : decode cX11_sure 32 = .ok (.invokestatic 170, 3) := by decide +kernel
theorem dX11_sure_35 : decode cX11_sure 35 = .ok (.ifCond .eq 22, 3) := by decide +kernel
theorem dX11_sure_38 : decode cX11_sure 38 = .ok (.iload_n 3, 1) := by decide +kernel
theorem dX11_sure_39 : decode cX11_sure 39 = .ok (.iload_n 1, 1) := by decide +kernel
theorem dX11_sure_40 : decode cX11_sure 40 = .ok (.invokestatic 170, 3) := by decide +kernel
theorem dX11_sure_43 : decode cX11_sure 43 = .ok (.ifCond .eq 14, 3) := by decide +kernel
theorem dX11_sure_46 : decode cX11_sure 46 = .ok (.aload_n 0, 1) := by decide +kernel
theorem dX11_sure_47 : decode cX11_sure 47 = .ok (.getfield 58, 3) := by decide +kernel
theorem dX11_sure_50 : decode cX11_sure 50 = .ok (.iload_n 1, 1) := by decide +kernel
theorem dX11_sure_51 : decode cX11_sure 51 = .ok (.invokevirtual 182, 3) := by decide +kernel
theorem dX11_sure_54 : decode cX11_sure 54 = .ok (.ifCond .ne 6, 3) := by decide +kernel
theorem dX11_sure_57 : decode cX11_sure 57 = .ok (.bipush (-2), 2) := by decide +kernel
theorem dX11_sure_59 : decode cX11_sure 59 = .ok (.ireturn, 1) := by decide +kernel
theorem dX11_sure_60 : decode cX11_sure 60 = .ok (.aload_n 0, 1) := by decide +kernel
theorem dX11_sure_61 : decode cX11_sure 61 = .ok (.getfield 58, 3) := by decide +kernel
theorem dX11_sure_64 : decode cX11_sure 64 = .ok (.iload_n 2, 1) := by decide +kernel
theorem dX11_sure_65 : decode cX11_sure 65 = .ok (.iload_n 3, 1) := by decide +kernel
theorem dX11_sure_66 : decode cX11_sure 66 = .ok (.invokevirtual 197, 3) := by decide +kernel
theorem dX11_sure_69 : decode cX11_sure 69 = .ok (.ireturn, 1) := by decide +kernel
theorem dX11_length_0 : decode cX11_length 0 = .ok (.aload_n 0, 1) := by decide +kernel
theorem dX11_length_1 : decode cX11_length 1 = .ok (.getfield 45, 3) := by decide +kernel
theorem dX11_length_4 : decode cX11_length 4 = .ok (.iload_n 1, 1) := by decide +kernel
theorem dX11_length_5 : decode cX11_length 5 = .ok (.invokevirtual 167, 3) := by decide +kernel
theorem dX11_length_8 : decode cX11_length 8 = .ok (.ifCond .eq 14, 3) := by decide +kernel
theorem dX11_length_11 : decode cX11_length 11 = .ok (.aload_n 0, 1) := by decide +kernel
theorem dX11_length_12 : decode cX11_length 12 = .ok (.getfield 49, 3) := by decide +kernel
theorem dX11_length_15 : decode cX11_length 15 = .ok (.iload_n 1, 1) := by decide +kernel
theorem dX11_length_16 : decode cX11_length 16 = .ok (.invokevirtual 200, 3) := by decide +kernel
theorem dX11_length_19 : decode cX11_length 19 = .ok (.goto 4, 3) := by decide +kernel
theorem dX11_length_22 : decode cX11_length 22 = .ok (.iconst (-1), 1) := by decide +kernel
theorem dX11_length_23 : decode cX11_length 23 = .ok (.ireturn, 1) := by decide +kernel
theorem dX11_one_0 : decode cX11_one 0 = .ok (.aload_n 0, 1) := by decide +kernel
theorem dX11_one_1 : decode cX11_one 1 = .ok (.getfield 45, 3) := by decide +kernel
theorem dX11_one_4 : decode cX11_one 4 = .ok (.iload_n 1, 1) := by decide +kernel
theorem dX11_one_5 : decode cX11_one 5 = .ok (.invokevirtual 147, 3) := by decide +kernel
theorem dX11_one_8 : decode cX11_one 8 = .ok (.ifCond .eq 14, 3) := by decide +kernel
theorem dX11_one_11 : decode cX11_one 11 = .ok (.aload_n 0, 1) := by decide +kernel
theorem dX11_one_12 : decode cX11_one 12 = .ok (.getfield 49, 3) := by decide +kernel
theorem dX11_one_15 : decode cX11_one 15 = .ok (.iload_n 1, 1) := by decide +kernel
theorem dX11_one_16 : decode cX11_one 16 = .ok (.invokevirtual 203, 3) := by decide +kernel
theorem dX11_one_19 : decode cX11_one 19 = .ok (.goto 4, 3) := by decide +kernel
theorem dX11_one_22 : decode cX11_one 22 = .ok (.iconst (-1), 1) := by decide +kernel
theorem dX11_one_23 : decode cX11_one 23 = .ok (.ireturn, 1) := by decide +kernel
theorem dX11_settles_0 : decode cX11_settles 0 = .ok (.aload_n 0, 1) := by decide +kernel
theorem dX11_settles_1 : decode cX11_settles 1 = .ok (.getfield 45, 3) := by decide +kernel
theorem dX11_settles_4 : decode cX11_settles 4 = .ok (.iload_n 1, 1) := by decide +kernel
theorem dX11_settles_5 : decode cX11_settles 5 = .ok (.invokevirtual 147, 3) := by decide +kernel
theorem dX11_settles_8 : decode cX11_settles 8 = .ok (.ifCond .eq 22, 3) := by decide +kernel
theorem dX11_settles_11 : decode cX11_settles 11 = .ok (.aload_n 0, 1) := by decide +kernel
theorem dX11_settles_12 : decode cX11_settles 12 = .ok (.getfield 45, 3) := by decide +kernel
theorem dX11_settles_15 : decode cX11_settles 15 = .ok (.iload_n 2, 1) := by decide +kernel
theorem dX11_settles_16 : decode cX11_settles 16 = .ok (.invokevirtual 167, 3) := by decide +kernel
theorem dX11_settles_19 : decode cX11_settles 19 = .ok (.ifCond .eq 11, 3) := by decide +kernel
theorem dX11_settles_22 : decode cX11_settles 22 = .ok (.iload_n 1, 1) := by decide +kernel
theorem dX11_settles_23 : decode cX11_settles 23 = .ok (.iload_n 2, 1) := by decide +kernel
theorem dX11_settles_24 : decode cX11_settles 24 = .ok (.invokestatic 206, 3) := by decide +kernel
theorem dX11_settles_27 : decode cX11_settles 27 = .ok (.ifCond .eq 5, 3) := by decide +kernel
theorem dX11_settles_30 : decode cX11_settles 30 = .ok (.iconst (-1), 1) := by decide +kernel
theorem dX11_settles_31 : decode cX11_settles 31 = .ok (.ireturn, 1) := by decide +kernel
theorem dX11_settles_32 : decode cX11_settles 32 = .ok (.aload_n 0, 1) := by decide +kernel
theorem dX11_settles_33 : decode cX11_settles 33 = .ok (.getfield 49, 3) := by decide +kernel
theorem dX11_settles_36 : decode cX11_settles 36 = .ok (.iload_n 1, 1) := by decide +kernel
theorem dX11_settles_37 : decode cX11_settles 37 = .ok (.iload_n 2, 1) := by decide +kernel
theorem dX11_settles_38 : decode cX11_settles 38 = .ok (.invokevirtual 209, 3) := by decide +kernel
theorem dX11_settles_41 : decode cX11_settles 41 = .ok (.ireturn, 1) := by decide +kernel
theorem dX11_next_0 : decode cX11_next 0 = .ok (.aload_n 0, 1) := by decide +kernel
theorem dX11_next_1 : decode cX11_next 1 = .ok (.getfield 45, 3) := by decide +kernel
theorem dX11_next_4 : decode cX11_next 4 = .ok (.iload_n 1, 1) := by decide +kernel
theorem dX11_next_5 : decode cX11_next 5 = .ok (.invokevirtual 167, 3) := by decide +kernel
theorem dX11_next_8 : decode cX11_next 8 = .ok (.ifCond .eq 14, 3) := by decide +kernel
theorem dX11_next_11 : decode cX11_next 11 = .ok (.aload_n 0, 1) := by decide +kernel
theorem dX11_next_12 : decode cX11_next 12 = .ok (.getfield 49, 3) := by decide +kernel
theorem dX11_next_15 : decode cX11_next 15 = .ok (.iload_n 1, 1) := by decide +kernel
theorem dX11_next_16 : decode cX11_next 16 = .ok (.invokevirtual 212, 3) := by decide +kernel
theorem dX11_next_19 : decode cX11_next 19 = .ok (.goto 4, 3) := by decide +kernel
theorem dX11_next_22 : decode cX11_next 22 = .ok (.iconst (-1), 1) := by decide +kernel
theorem dX11_next_23 : decode cX11_next 23 = .ok (.ireturn, 1) := by decide +kernel
theorem dX11_act_0 : decode cX11_act 0 = .ok (.aload_n 0, 1) := by decide +kernel
theorem dX11_act_1 : decode cX11_act 1 = .ok (.getfield 45, 3) := by decide +kernel
theorem dX11_act_4 : decode cX11_act 4 = .ok (.iload_n 1, 1) := by decide +kernel
theorem dX11_act_5 : decode cX11_act 5 = .ok (.invokevirtual 147, 3) := by decide +kernel
theorem dX11_act_8 : decode cX11_act 8 = .ok (.ifCond .eq 14, 3) := by decide +kernel
theorem dX11_act_11 : decode cX11_act 11 = .ok (.aload_n 0, 1) := by decide +kernel
theorem dX11_act_12 : decode cX11_act 12 = .ok (.getfield 65, 3) := by decide +kernel
theorem dX11_act_15 : decode cX11_act 15 = .ok (.iload_n 1, 1) := by decide +kernel
theorem dX11_act_16 : decode cX11_act 16 = .ok (.invokevirtual 215, 3) := by decide +kernel
theorem dX11_act_19 : decode cX11_act 19 = .ok (.goto 4, 3) := by decide +kernel
theorem dX11_act_22 : decode cX11_act 22 = .ok (.iconst (-1), 1) := by decide +kernel
theorem dX11_act_23 : decode cX11_act 23 = .ok (.ireturn, 1) := by decide +kernel
theorem dX11_play_0 : decode cX11_play 0 = .ok (.iload_n 1, 1) := by decide +kernel
theorem dX11_play_1 : decode cX11_play 1 = .ok (.iconst (-1), 1) := by decide +kernel
theorem dX11_play_2 : decode cX11_play 2 = .ok (.if_icmp .ne 13, 3) := by decide +kernel
theorem dX11_play_5 : decode cX11_play 5 = .ok (.aload_n 0, 1) := by decide +kernel
theorem dX11_play_6 : decode cX11_play 6 = .ok (.getfield 65, 3) := by decide +kernel
theorem dX11_play_9 : decode cX11_play 9 = .ok (.invokevirtual 218, 3) := by decide +kernel
theorem dX11_play_12 : decode cX11_play 12 = .ok (.goto 11, 3) := by decide +kernel
theorem dX11_play_15 : decode cX11_play 15 = .ok (.aload_n 0, 1) := by decide +kernel
theorem dX11_play_16 : decode cX11_play 16 = .ok (.getfield 65, 3) := by decide +kernel
theorem dX11_play_19 : decode cX11_play 19 = .ok (.iload_n 1, 1) := by decide +kernel
theorem dX11_play_20 : decode cX11_play 20 = .ok (.invokevirtual 221, 3) := by decide +kernel
theorem dX11_play_23 : decode cX11_play 23 = .ok (.ireturn, 1) := by decide +kernel
theorem dX11_wrong_0 : decode cX11_wrong 0 = .ok (.aload_n 0, 1) := by decide +kernel
theorem dX11_wrong_1 : decode cX11_wrong 1 = .ok (.getfield 65, 3) := by decide +kernel
theorem dX11_wrong_4 : decode cX11_wrong 4 = .ok (.iload_n 1, 1) := by decide +kernel
theorem dX11_wrong_5 : decode cX11_wrong 5 = .ok (.invokevirtual 224, 3) := by decide +kernel
theorem dX11_wrong_8 : decode cX11_wrong 8 = .ok (.ireturn, 1) := by decide +kernel
theorem dX11_rehearse_0 : decode cX11_rehearse 0 = .ok (.aload_n 0, 1) := by decide +kernel
theorem dX11_rehearse_1 : decode cX11_rehearse 1 = .ok (.getfield 45, 3) := by decide +kernel
theorem dX11_rehearse_4 : decode cX11_rehearse 4 = .ok (.iload_n 1, 1) := by decide +kernel
theorem dX11_rehearse_5 : decode cX11_rehearse 5 = .ok (.invokevirtual 167, 3) := by decide +kernel
theorem dX11_rehearse_8 : decode cX11_rehearse 8 = .ok (.ifCond .ne 5, 3) := by decide +kernel
theorem dX11_rehearse_11 : decode cX11_rehearse 11 = .ok (.iconst (-1), 1) := by decide +kernel
theorem dX11_rehearse_12 : decode cX11_rehearse 12 = .ok (.ireturn, 1) := by decide +kernel
theorem dX11_rehearse_13 : decode cX11_rehearse 13 = .ok (.aload_n 0, 1) := by decide +kernel
theorem dX11_rehearse_14 : decode cX11_rehearse 14 = .ok (.getfield 65, 3) := by decide +kernel
theorem dX11_rehearse_17 : decode cX11_rehearse 17 = .ok (.iload_n 1, 1) := by decide +kernel
theorem dX11_rehearse_18 : decode cX11_rehearse 18 = .ok (.invokevirtual 227, 3) := by decide +kernel
theorem dX11_rehearse_21 : decode cX11_rehearse 21 = .ok (.iload_n 2, 1) := by decide +kernel
theorem dX11_rehearse_22 : decode cX11_rehearse 22 = .ok (.iconst (-1), 1) := by decide +kernel
theorem dX11_rehearse_23 : decode cX11_rehearse 23 = .ok (.if_icmp .ne 13, 3) := by decide +kernel
theorem dX11_rehearse_26 : decode cX11_rehearse 26 = .ok (.aload_n 0, 1) := by decide +kernel
theorem dX11_rehearse_27 : decode cX11_rehearse 27 = .ok (.getfield 65, 3) := by decide +kernel
theorem dX11_rehearse_30 : decode cX11_rehearse 30 = .ok (.invokevirtual 230, 3) := by decide +kernel
theorem dX11_rehearse_33 : decode cX11_rehearse 33 = .ok (.goto 11, 3) := by decide +kernel
theorem dX11_rehearse_36 : decode cX11_rehearse 36 = .ok (.aload_n 0, 1) := by decide +kernel
theorem dX11_rehearse_37 : decode cX11_rehearse 37 = .ok (.getfield 65, 3) := by decide +kernel
theorem dX11_rehearse_40 : decode cX11_rehearse 40 = .ok (.iload_n 2, 1) := by decide +kernel
theorem dX11_rehearse_41 : decode cX11_rehearse 41 = .ok (.invokevirtual 233, 3) := by decide +kernel
theorem dX11_rehearse_44 : decode cX11_rehearse 44 = .ok (.ireturn, 1) := by decide +kernel
theorem dX11_soon_0 : decode cX11_soon 0 = .ok (.aload_n 0, 1) := by decide +kernel
theorem dX11_soon_1 : decode cX11_soon 1 = .ok (.getfield 45, 3) := by decide +kernel
theorem dX11_soon_4 : decode cX11_soon 4 = .ok (.iload_n 1, 1) := by decide +kernel
theorem dX11_soon_5 : decode cX11_soon 5 = .ok (.invokevirtual 167, 3) := by decide +kernel
theorem dX11_soon_8 : decode cX11_soon 8 = .ok (.ifCond .ne 5, 3) := by decide +kernel
theorem dX11_soon_11 : decode cX11_soon 11 = .ok (.iconst (-1), 1) := by decide +kernel
theorem dX11_soon_12 : decode cX11_soon 12 = .ok (.ireturn, 1) := by decide +kernel
theorem dX11_soon_13 : decode cX11_soon 13 = .ok (.aload_n 0, 1) := by decide +kernel
theorem dX11_soon_14 : decode cX11_soon 14 = .ok (.getfield 65, 3) := by decide +kernel
theorem dX11_soon_17 : decode cX11_soon 17 = .ok (.iload_n 1, 1) := by decide +kernel
theorem dX11_soon_18 : decode cX11_soon 18 = .ok (.invokevirtual 227, 3) := by decide +kernel
theorem dX11_soon_21 : decode cX11_soon 21 = .ok (.aload_n 0, 1) := by decide +kernel
theorem dX11_soon_22 : decode cX11_soon 22 = .ok (.getfield 65, 3) := by decide +kernel
theorem dX11_soon_25 : decode cX11_soon 25 = .ok (.invokevirtual 236, 3) := by decide +kernel
theorem dX11_soon_28 : decode cX11_soon 28 = .ok (.ireturn, 1) := by decide +kernel
theorem dX11_inside_0 : decode cX11_inside 0 = .ok (.aload_n 0, 1) := by decide +kernel
theorem dX11_inside_1 : decode cX11_inside 1 = .ok (.getfield 45, 3) := by decide +kernel
theorem dX11_inside_4 : decode cX11_inside 4 = .ok (.iload_n 1, 1) := by decide +kernel
theorem dX11_inside_5 : decode cX11_inside 5 = .ok (.invokevirtual 121, 3) := by decide +kernel
theorem dX11_inside_8 : decode cX11_inside 8 = .ok (.ifCond .eq 25, 3) := by decide +kernel
theorem dX11_inside_11 : decode cX11_inside 11 = .ok (.aload_n 0, 1) := by decide +kernel
theorem dX11_inside_12 : decode cX11_inside 12 = .ok (.getfield 45, 3) := by decide +kernel
theorem dX11_inside_15 : decode cX11_inside 15 = .ok (.iload_n 2, 1) := by decide +kernel
theorem dX11_inside_16 : decode cX11_inside 16 = .ok (.invokevirtual 121, 3) := by decide +kernel
theorem dX11_inside_19 : decode cX11_inside 19 = .ok (.ifCond .eq 14, 3) := by decide +kernel
theorem dX11_inside_22 : decode cX11_inside 22 = .ok (.iload_n 1, 1) := by decide +kernel
theorem dX11_inside_23 : decode cX11_inside 23 = .ok (.invokestatic 239, 3) := by decide +kernel
theorem dX11_inside_26 : decode cX11_inside 26 = .ok (.iload_n 2, 1) := by decide +kernel
theorem dX11_inside_27 : decode cX11_inside 27 = .ok (.invokestatic 239, 3) := by decide +kernel
theorem dX11_inside_30 : decode cX11_inside 30 = .ok (.if_icmp .ne 5, 3) := by decide +kernel
theorem dX11_inside_33 : decode cX11_inside 33 = .ok (.iconst (-1), 1) := by decide +kernel
theorem dX11_inside_34 : decode cX11_inside 34 = .ok (.ireturn, 1) := by decide +kernel
theorem dX11_inside_35 : decode cX11_inside 35 = .ok (.aload_n 0, 1) := by decide +kernel
theorem dX11_inside_36 : decode cX11_inside 36 = .ok (.getfield 49, 3) := by decide +kernel
theorem dX11_inside_39 : decode cX11_inside 39 = .ok (.iload_n 1, 1) := by decide +kernel
theorem dX11_inside_40 : decode cX11_inside 40 = .ok (.iload_n 2, 1) := by decide +kernel
theorem dX11_inside_41 : decode cX11_inside 41 = .ok (.invokevirtual 242, 3) := by decide +kernel
theorem dX11_inside_44 : decode cX11_inside 44 = .ok (.ireturn, 1) := by decide +kernel
theorem dX11_tempted_0 : decode cX11_tempted 0 = .ok (.aload_n 0, 1) := by decide +kernel
theorem dX11_tempted_1 : decode cX11_tempted 1 = .ok (.getfield 45, 3) := by decide +kernel
theorem dX11_tempted_4 : decode cX11_tempted 4 = .ok (.iload_n 1, 1) := by decide +kernel
theorem dX11_tempted_5 : decode cX11_tempted 5 = .ok (.invokevirtual 167, 3) := by decide +kernel
theorem dX11_tempted_8 : decode cX11_tempted 8 = .ok (.ifCond .eq 14, 3) := by decide +kernel
theorem dX11_tempted_11 : decode cX11_tempted 11 = .ok (.aload_n 0, 1) := by decide +kernel
theorem dX11_tempted_12 : decode cX11_tempted 12 = .ok (.getfield 49, 3) := by decide +kernel
theorem dX11_tempted_15 : decode cX11_tempted 15 = .ok (.iload_n 1, 1) := by decide +kernel
theorem dX11_tempted_16 : decode cX11_tempted 16 = .ok (.invokevirtual 245, 3) := by decide +kernel
theorem dX11_tempted_19 : decode cX11_tempted 19 = .ok (.goto 4, 3) := by decide +kernel
theorem dX11_tempted_22 : decode cX11_tempted 22 = .ok (.iconst (-1), 1) := by decide +kernel
theorem dX11_tempted_23 : decode cX11_tempted 23 = .ok (.ireturn, 1) := by decide +kernel
theorem dX11_boys_0 : decode cX11_boys 0 = .ok (.aload_n 0, 1) := by decide +kernel
theorem dX11_boys_1 : decode cX11_boys 1 = .ok (.getfield 72, 3) := by decide +kernel
theorem dX11_boys_4 : decode cX11_boys 4 = .ok (.iload_n 1, 1) := by decide +kernel
theorem dX11_boys_5 : decode cX11_boys 5 = .ok (.invokevirtual 248, 3) := by decide +kernel
theorem dX11_boys_8 : decode cX11_boys 8 = .ok (.ireturn, 1) := by decide +kernel
theorem dX11_plot_0 : decode cX11_plot 0 = .ok (.aload_n 0, 1) := by decide +kernel
theorem dX11_plot_1 : decode cX11_plot 1 = .ok (.getfield 72, 3) := by decide +kernel
theorem dX11_plot_4 : decode cX11_plot 4 = .ok (.iload_n 1, 1) := by decide +kernel
theorem dX11_plot_5 : decode cX11_plot 5 = .ok (.invokevirtual 251, 3) := by decide +kernel
theorem dX11_plot_8 : decode cX11_plot 8 = .ok (.ifCond .ne 5, 3) := by decide +kernel
theorem dX11_plot_11 : decode cX11_plot 11 = .ok (.iconst (-1), 1) := by decide +kernel
theorem dX11_plot_12 : decode cX11_plot 12 = .ok (.ireturn, 1) := by decide +kernel
theorem dX11_plot_13 : decode cX11_plot 13 = .ok (.iload_n 2, 1) := by decide +kernel
theorem dX11_plot_14 : decode cX11_plot 14 = .ok (.iconst (-1), 1) := by decide +kernel
theorem dX11_plot_15 : decode cX11_plot 15 = .ok (.if_icmp .ne 14, 3) := by decide +kernel
theorem dX11_plot_18 : decode cX11_plot 18 = .ok (.aload_n 0, 1) := by decide +kernel
theorem dX11_plot_19 : decode cX11_plot 19 = .ok (.getfield 72, 3) := by decide +kernel
theorem dX11_plot_22 : decode cX11_plot 22 = .ok (.iload_n 1, 1) := by decide +kernel
theorem dX11_plot_23 : decode cX11_plot 23 = .ok (.invokevirtual 252, 3) := by decide +kernel
theorem dX11_plot_26 : decode cX11_plot 26 = .ok (.goto 12, 3) := by decide +kernel
theorem dX11_plot_29 : decode cX11_plot 29 = .ok (.aload_n 0, 1) := by decide +kernel
theorem dX11_plot_30 : decode cX11_plot 30 = .ok (.getfield 72, 3) := by decide +kernel
theorem dX11_plot_33 : decode cX11_plot 33 = .ok (.iload_n 1, 1) := by decide +kernel
theorem dX11_plot_34 : decode cX11_plot 34 = .ok (.iload_n 2, 1) := by decide +kernel
theorem dX11_plot_35 : decode cX11_plot 35 = .ok (.invokevirtual 255, 3) := by decide +kernel
theorem dX11_plot_38 : decode cX11_plot 38 = .ok (.ireturn, 1) := by decide +kernel
theorem dX11_bars_0 : decode cX11_bars 0 = .ok (.aload_n 0, 1) := by decide +kernel
theorem dX11_bars_1 : decode cX11_bars 1 = .ok (.getfield 72, 3) := by decide +kernel
theorem dX11_bars_4 : decode cX11_bars 4 = .ok (.iload_n 1, 1) := by decide +kernel
theorem dX11_bars_5 : decode cX11_bars 5 = .ok (.invokevirtual 251, 3) := by decide +kernel
theorem dX11_bars_8 : decode cX11_bars 8 = .ok (.ifCond .eq 16, 3) := by decide +kernel
theorem dX11_bars_11 : decode cX11_bars 11 = .ok (.iload 4, 2) := by decide +kernel
theorem dX11_bars_13 : decode cX11_bars 13 = .ok (.invokestatic 258, 3) := by decide +kernel
theorem dX11_bars_16 : decode cX11_bars 16 = .ok (.ifCond .eq 8, 3) := by decide +kernel
theorem dX11_bars_19 : decode cX11_bars 19 = .ok (.iload_n 2, 1) := by decide +kernel
theorem dX11_bars_20 : decode cX11_bars 20 = .ok (.iload_n 3, 1) := by decide +kernel
theorem dX11_bars_21 : decode cX11_bars 21 = .ok (.if_icmp .ne 5, 3) := by decide +kernel
theorem dX11_bars_24 : decode cX11_bars 24 = .ok (.iconst (-1), 1) := by decide +kernel
theorem dX11_bars_25 : decode cX11_bars 25 = .ok (.ireturn, 1) := by decide +kernel
theorem dX11_bars_26 : decode cX11_bars 26 = .ok (.aload_n 0, 1) := by decide +kernel
theorem dX11_bars_27 : decode cX11_bars 27 = .ok (.getfield 72, 3) := by decide +kernel
theorem dX11_bars_30 : decode cX11_bars 30 = .ok (.iload_n 1, 1) := by decide +kernel
theorem dX11_bars_31 : decode cX11_bars 31 = .ok (.iload_n 2, 1) := by decide +kernel
theorem dX11_bars_32 : decode cX11_bars 32 = .ok (.invokevirtual 261, 3) := by decide +kernel
theorem dX11_bars_35 : decode cX11_bars 35 = .ok (.ifCond .eq 15, 3) := by decide +kernel
theorem dX11_bars_38 : decode cX11_bars 38 = .ok (.aload_n 0, 1) := by decide +kernel
theorem dX11_bars_39 : decode cX11_bars 39 = .ok (.getfield 72, 3) := by decide +kernel
theorem dX11_bars_42 : decode cX11_bars 42 = .ok (.iload_n 1, 1) := by decide +kernel
theorem dX11_bars_43 : decode cX11_bars 43 = .ok (.iload_n 3, 1) := by decide +kernel
theorem dX11_bars_44 : decode cX11_bars 44 = .ok (.invokevirtual 261, 3) := by decide +kernel
theorem dX11_bars_47 : decode cX11_bars 47 = .ok (.ifCond .ne 5, 3) := by decide +kernel
theorem dX11_bars_50 : decode cX11_bars 50 = .ok (.iconst (-1), 1) := by decide +kernel
theorem dX11_bars_51 : decode cX11_bars 51 = .ok (.ireturn, 1) := by decide +kernel
theorem dX11_bars_52 : decode cX11_bars 52 = .ok (.aload_n 0, 1) := by decide +kernel
theorem dX11_bars_53 : decode cX11_bars 53 = .ok (.getfield 72, 3) := by decide +kernel
theorem dX11_bars_56 : decode cX11_bars 56 = .ok (.iload_n 1, 1) := by decide +kernel
theorem dX11_bars_57 : decode cX11_bars 57 = .ok (.iload_n 2, 1) := by decide +kernel
theorem dX11_bars_58 : decode cX11_bars 58 = .ok (.iload_n 3, 1) := by decide +kernel
theorem dX11_bars_59 : decode cX11_bars 59 = .ok (.iload 4, 2) := by decide +kernel
theorem dX11_bars_61 : decode cX11_bars 61 = .ok (.invokevirtual 264, 3) := by decide +kernel
theorem dX11_bars_64 : decode cX11_bars 64 = .ok (.ifCond .eq 7, 3) := by decide +kernel
theorem dX11_bars_67 : decode cX11_bars 67 = .ok (.iconst 1, 1) := by decide +kernel
theorem dX11_bars_68 : decode cX11_bars 68 = .ok (.goto 4, 3) := by decide +kernel
theorem dX11_bars_71 : decode cX11_bars 71 = .ok (.iconst 0, 1) := by decide +kernel
theorem dX11_bars_72 : decode cX11_bars 72 = .ok (.ireturn, 1) := by decide +kernel
theorem dX11_cast_0 : decode cX11_cast 0 = .ok (.aload_n 0, 1) := by decide +kernel
theorem dX11_cast_1 : decode cX11_cast 1 = .ok (.getfield 72, 3) := by decide +kernel
theorem dX11_cast_4 : decode cX11_cast 4 = .ok (.iload_n 1, 1) := by decide +kernel
theorem dX11_cast_5 : decode cX11_cast 5 = .ok (.invokevirtual 251, 3) := by decide +kernel
theorem dX11_cast_8 : decode cX11_cast 8 = .ok (.ifCond .eq 27, 3) := by decide +kernel
theorem dX11_cast_11 : decode cX11_cast 11 = .ok (.iload_n 3, 1) := by decide +kernel
theorem dX11_cast_12 : decode cX11_cast 12 = .ok (.invokestatic 258, 3) := by decide +kernel
theorem dX11_cast_15 : decode cX11_cast 15 = .ok (.ifCond .eq 20, 3) := by decide +kernel
theorem dX11_cast_18 : decode cX11_cast 18 = .ok (.iload_n 2, 1) := by decide +kernel
theorem dX11_cast_19 : decode cX11_cast 19 = .ok (.iconst (-1), 1) := by decide +kernel
theorem dX11_cast_20 : decode cX11_cast 20 = .ok (.if_icmp .eq 17, 3) := by decide +kernel
theorem dX11_cast_23 : decode cX11_cast 23 = .ok (.aload_n 0, 1) := by decide +kernel
theorem dX11_cast_24 : decode cX11_cast 24 = .ok (.getfield 72, 3) := by decide +kernel
theorem dX11_cast_27 : decode cX11_cast 27 = .ok (.iload_n 1, 1) := by decide +kernel
theorem dX11_cast_28 : decode cX11_cast 28 = .ok (.iload_n 2, 1) := by decide +kernel
theorem dX11_cast_29 : decode cX11_cast 29 = .ok (.invokevirtual 261, 3) := by decide +kernel
theorem dX11_cast_32 : decode cX11_cast 32 = .ok (.ifCond .ne 5, 3) := by decide +kernel
theorem dX11_cast_35 : decode cX11_cast 35 = .ok (.iconst (-1), 1) := by decide +kernel
theorem dX11_cast_36 : decode cX11_cast 36 = .ok (.ireturn, 1) := by decide +kernel
theorem dX11_cast_37 : decode cX11_cast 37 = .ok (.aload_n 0, 1) := by decide +kernel
theorem dX11_cast_38 : decode cX11_cast 38 = .ok (.getfield 72, 3) := by decide +kernel
theorem dX11_cast_41 : decode cX11_cast 41 = .ok (.iload_n 1, 1) := by decide +kernel
theorem dX11_cast_42 : decode cX11_cast 42 = .ok (.iload_n 3, 1) := by decide +kernel
theorem dX11_cast_43 : decode cX11_cast 43 = .ok (.invokevirtual 268, 3) := by decide +kernel
theorem dX11_cast_46 : decode cX11_cast 46 = .ok (.istore 4, 2) := by decide +kernel
theorem dX11_cast_48 : decode cX11_cast 48 = .ok (.iload_n 2, 1) := by decide +kernel
theorem dX11_cast_49 : decode cX11_cast 49 = .ok (.iconst (-1), 1) := by decide +kernel
theorem dX11_cast_50 : decode cX11_cast 50 = .ok (.if_icmp .ne 8, 3) := by decide +kernel
theorem dX11_cast_53 : decode cX11_cast 53 = .ok (.iload 4, 2) := by decide +kernel
theorem dX11_cast_55 : decode cX11_cast 55 = .ok (.goto 11, 3) := by decide +kernel
theorem dX11_cast_58 : decode cX11_cast 58 = .ok (.aload_n 0, 1) := by decide +kernel
theorem dX11_cast_59 : decode cX11_cast 59 = .ok (.getfield 72, 3) := by decide +kernel
theorem dX11_cast_62 : decode cX11_cast 62 = .ok (.iload_n 2, 1) := by decide +kernel
theorem dX11_cast_63 : decode cX11_cast 63 = .ok (.invokevirtual 271, 3) := by decide +kernel
theorem dX11_cast_66 : decode cX11_cast 66 = .ok (.ireturn, 1) := by decide +kernel
theorem dX11_crowd_0 : decode cX11_crowd 0 = .ok (.aload_n 0, 1) := by decide +kernel
theorem dX11_crowd_1 : decode cX11_crowd 1 = .ok (.getfield 72, 3) := by decide +kernel
theorem dX11_crowd_4 : decode cX11_crowd 4 = .ok (.iload_n 1, 1) := by decide +kernel
theorem dX11_crowd_5 : decode cX11_crowd 5 = .ok (.invokevirtual 251, 3) := by decide +kernel
theorem dX11_crowd_8 : decode cX11_crowd 8 = .ok (.ifCond .eq 12, 3) := by decide +kernel
theorem dX11_crowd_11 : decode cX11_crowd 11 = .ok (.iload_n 2, 1) := by decide +kernel
theorem dX11_crowd_12 : decode cX11_crowd 12 = .ok (.ifCond .lt 8, 3) := by decide +kernel
theorem dX11_crowd_15 : decode cX11_crowd 15 = .ok (.iload_n 2, 1) := by decide +kernel
theorem dX11_crowd_16 : decode cX11_crowd 16 = .ok (.iconst 1, 1) := by decide +kernel
theorem dX11_crowd_17 : decode cX11_crowd 17 = .ok (.if_icmp .le 5, 3) := by decide +kernel
theorem dX11_crowd_20 : decode cX11_crowd 20 = .ok (.iconst (-1), 1) := by decide +kernel
theorem dX11_crowd_21 : decode cX11_crowd 21 = .ok (.ireturn, 1) := by decide +kernel
theorem dX11_crowd_22 : decode cX11_crowd 22 = .ok (.aload_n 0, 1) := by decide +kernel
theorem dX11_crowd_23 : decode cX11_crowd 23 = .ok (.getfield 72, 3) := by decide +kernel
theorem dX11_crowd_26 : decode cX11_crowd 26 = .ok (.iload_n 1, 1) := by decide +kernel
theorem dX11_crowd_27 : decode cX11_crowd 27 = .ok (.invokevirtual 274, 3) := by decide +kernel
theorem dX11_crowd_30 : decode cX11_crowd 30 = .ok (.istore_n 3, 1) := by decide +kernel
theorem dX11_crowd_31 : decode cX11_crowd 31 = .ok (.iload_n 2, 1) := by decide +kernel
theorem dX11_crowd_32 : decode cX11_crowd 32 = .ok (.ifCond .ne 7, 3) := by decide +kernel
theorem dX11_crowd_35 : decode cX11_crowd 35 = .ok (.iload_n 3, 1) := by decide +kernel
theorem dX11_crowd_36 : decode cX11_crowd 36 = .ok (.goto 15, 3) := by decide +kernel
theorem dX11_crowd_39 : decode cX11_crowd 39 = .ok (.aload_n 0, 1) := by decide +kernel
theorem dX11_crowd_40 : decode cX11_crowd 40 = .ok (.getfield 72, 3) := by decide +kernel
theorem dX11_crowd_43 : decode cX11_crowd 43 = .ok (.iload_n 1, 1) := by decide +kernel
theorem dX11_crowd_44 : decode cX11_crowd 44 = .ok (.iload_n 3, 1) := by decide +kernel
theorem dX11_crowd_45 : decode cX11_crowd 45 = .ok (.invokevirtual 255, 3) := by decide +kernel
theorem dX11_crowd_48 : decode cX11_crowd 48 = .ok (.invokestatic 277, 3) := by decide +kernel
theorem dX11_crowd_51 : decode cX11_crowd 51 = .ok (.ireturn, 1) := by decide +kernel
theorem dX11_could_0 : decode cX11_could 0 = .ok (.aload_n 0, 1) := by decide +kernel
theorem dX11_could_1 : decode cX11_could 1 = .ok (.getfield 72, 3) := by decide +kernel
theorem dX11_could_4 : decode cX11_could 4 = .ok (.iload_n 1, 1) := by decide +kernel
theorem dX11_could_5 : decode cX11_could 5 = .ok (.invokevirtual 251, 3) := by decide +kernel
theorem dX11_could_8 : decode cX11_could 8 = .ok (.ifCond .eq 25, 3) := by decide +kernel
theorem dX11_could_11 : decode cX11_could 11 = .ok (.iload_n 2, 1) := by decide +kernel
theorem dX11_could_12 : decode cX11_could 12 = .ok (.invokestatic 258, 3) := by decide +kernel
theorem dX11_could_15 : decode cX11_could 15 = .ok (.ifCond .eq 18, 3) := by decide +kernel
theorem dX11_could_18 : decode cX11_could 18 = .ok (.iload_n 3, 1) := by decide +kernel
theorem dX11_could_19 : decode cX11_could 19 = .ok (.invokestatic 282, 3) := by decide +kernel
theorem dX11_could_22 : decode cX11_could 22 = .ok (.ifCond .eq 11, 3) := by decide +kernel
theorem dX11_could_25 : decode cX11_could 25 = .ok (.iload 4, 2) := by decide +kernel
theorem dX11_could_27 : decode cX11_could 27 = .ok (.invokestatic 282, 3) := by decide +kernel
theorem dX11_could_30 : decode cX11_could 30 = .ok (.ifCond .ne 5, 3) := by decide +kernel
theorem dX11_could_33 : decode cX11_could 33 = .ok (.iconst (-1), 1) := by decide +kernel
theorem dX11_could_34 : decode cX11_could 34 = .ok (.ireturn, 1) := by decide +kernel
theorem dX11_could_35 : decode cX11_could 35 = .ok (.aload_n 0, 1) := by decide +kernel
theorem dX11_could_36 : decode cX11_could 36 = .ok (.getfield 72, 3) := by decide +kernel
theorem dX11_could_39 : decode cX11_could 39 = .ok (.iload_n 1, 1) := by decide +kernel
theorem dX11_could_40 : decode cX11_could 40 = .ok (.iload_n 2, 1) := by decide +kernel
theorem dX11_could_41 : decode cX11_could 41 = .ok (.iload_n 3, 1) := by decide +kernel
theorem dX11_could_42 : decode cX11_could 42 = .ok (.iload 4, 2) := by decide +kernel
theorem dX11_could_44 : decode cX11_could 44 = .ok (.invokevirtual 285, 3) := by decide +kernel
theorem dX11_could_47 : decode cX11_could 47 = .ok (.ifCond .eq 7, 3) := by decide +kernel
theorem dX11_could_50 : decode cX11_could 50 = .ok (.iconst 1, 1) := by decide +kernel
theorem dX11_could_51 : decode cX11_could 51 = .ok (.goto 4, 3) := by decide +kernel
theorem dX11_could_54 : decode cX11_could 54 = .ok (.iconst 0, 1) := by decide +kernel
theorem dX11_could_55 : decode cX11_could 55 = .ok (.ireturn, 1) := by decide +kernel
theorem dX11_habit_0 : decode cX11_habit 0 = .ok (.aload_n 0, 1) := by decide +kernel
theorem dX11_habit_1 : decode cX11_habit 1 = .ok (.getfield 45, 3) := by decide +kernel
theorem dX11_habit_4 : decode cX11_habit 4 = .ok (.iload_n 1, 1) := by decide +kernel
theorem dX11_habit_5 : decode cX11_habit 5 = .ok (.invokevirtual 147, 3) := by decide +kernel
theorem dX11_habit_8 : decode cX11_habit 8 = .ok (.ifCond .eq 19, 3) := by decide +kernel
theorem dX11_habit_11 : decode cX11_habit 11 = .ok (.iload_n 2, 1) := by decide +kernel
theorem dX11_habit_12 : decode cX11_habit 12 = .ok (.iconst (-1), 1) := by decide +kernel
theorem dX11_habit_13 : decode cX11_habit 13 = .ok (.if_icmp .eq 16, 3) := by decide +kernel
theorem dX11_habit_16 : decode cX11_habit 16 = .ok (.aload_n 0, 1) := by decide +kernel
theorem dX11_habit_17 : decode cX11_habit 17 = .ok (.getfield 41, 3) := by decide +kernel
theorem dX11_habit_20 : decode cX11_habit 20 = .ok (.iload_n 2, 1) := by decide +kernel
theorem dX11_habit_21 : decode cX11_habit 21 = .ok (.invokevirtual 288, 3) := by decide +kernel
theorem dX11_habit_24 : decode cX11_habit 24 = .ok (.ifCond .ne 5, 3) := by decide +kernel
theorem dX11_habit_27 : decode cX11_habit 27 = .ok (.iconst 0, 1) := by decide +kernel
theorem dX11_habit_28 : decode cX11_habit 28 = .ok (.ireturn, 1) := by decide +kernel
theorem dX11_habit_29 : decode cX11_habit 29 = .ok (.aload_n 0, 1) := by decide +kernel
theorem dX11_habit_30 : decode cX11_habit 30 = .ok (.getfield 45, 3) := by decide +kernel
theorem dX11_habit_33 : decode cX11_habit 33 = .ok (.iload_n 1, 1) := by decide +kernel
theorem dX11_habit_34 : decode cX11_habit 34 = .ok (.iload_n 2, 1) := by decide +kernel
theorem dX11_habit_35 : decode cX11_habit 35 = .ok (.invokevirtual 289, 3) := by decide +kernel
theorem dX11_habit_38 : decode cX11_habit 38 = .ok (.iconst 1, 1) := by decide +kernel
theorem dX11_habit_39 : decode cX11_habit 39 = .ok (.ireturn, 1) := by decide +kernel
theorem dX11_worth_0 : decode cX11_worth 0 = .ok (.aload_n 0, 1) := by decide +kernel
theorem dX11_worth_1 : decode cX11_worth 1 = .ok (.getfield 45, 3) := by decide +kernel
theorem dX11_worth_4 : decode cX11_worth 4 = .ok (.iload_n 1, 1) := by decide +kernel
theorem dX11_worth_5 : decode cX11_worth 5 = .ok (.invokevirtual 147, 3) := by decide +kernel
theorem dX11_worth_8 : decode cX11_worth 8 = .ok (.ifCond .eq 14, 3) := by decide +kernel
theorem dX11_worth_11 : decode cX11_worth 11 = .ok (.aload_n 0, 1) := by decide +kernel
theorem dX11_worth_12 : decode cX11_worth 12 = .ok (.getfield 41, 3) := by decide +kernel
theorem dX11_worth_15 : decode cX11_worth 15 = .ok (.iload_n 2, 1) := by decide +kernel
theorem dX11_worth_16 : decode cX11_worth 16 = .ok (.invokevirtual 288, 3) := by decide +kernel
theorem dX11_worth_19 : decode cX11_worth 19 = .ok (.ifCond .ne 5, 3) := by decide +kernel
theorem dX11_worth_22 : decode cX11_worth 22 = .ok (.iconst (-1), 1) := by decide +kernel
theorem dX11_worth_23 : decode cX11_worth 23 = .ok (.ireturn, 1) := by decide +kernel
theorem dX11_worth_24 : decode cX11_worth 24 = .ok (.iconst 0, 1) := by decide +kernel
theorem dX11_worth_25 : decode cX11_worth 25 = .ok (.istore_n 3, 1) := by decide +kernel
theorem dX11_worth_26 : decode cX11_worth 26 = .ok (.iconst 0, 1) := by decide +kernel
theorem dX11_worth_27 : decode cX11_worth 27 = .ok (.istore 4, 2) := by decide +kernel
theorem dX11_worth_29 : decode cX11_worth 29 = .ok (.iload 4, 2) := by decide +kernel
theorem dX11_worth_31 : decode cX11_worth 31 = .ok (.aload_n 0, 1) := by decide +kernel
theorem dX11_worth_32 : decode cX11_worth 32 = .ok (.getfield 45, 3) := by decide +kernel
theorem dX11_worth_35 : decode cX11_worth 35 = .ok (.iload_n 1, 1) := by decide +kernel
theorem dX11_worth_36 : decode cX11_worth 36 = .ok (.invokevirtual 150, 3) := by decide +kernel
theorem dX11_worth_39 : decode cX11_worth 39 = .ok (.if_icmp .ge 47, 3) := by decide +kernel
theorem dX11_worth_42 : decode cX11_worth 42 = .ok (.bipush 16, 2) := by decide +kernel
theorem dX11_worth_44 : decode cX11_worth 44 = .ok (.iload_n 1, 1) := by decide +kernel
theorem dX11_worth_45 : decode cX11_worth 45 = .ok (.imul, 1) := by decide +kernel
theorem dX11_worth_46 : decode cX11_worth 46 = .ok (.iload 4, 2) := by decide +kernel
theorem dX11_worth_48 : decode cX11_worth 48 = .ok (.iadd, 1) := by decide +kernel
theorem dX11_worth_49 : decode cX11_worth 49 = .ok (.istore 5, 2) := by decide +kernel
theorem dX11_worth_51 : decode cX11_worth 51 = .ok (.iload_n 3, 1) := by decide +kernel
theorem dX11_worth_52 : decode cX11_worth 52 = .ok (.aload_n 0, 1) := by decide +kernel
theorem dX11_worth_53 : decode cX11_worth 53 = .ok (.getfield 41, 3) := by decide +kernel
theorem dX11_worth_56 : decode cX11_worth 56 = .ok (.iload_n 2, 1) := by decide +kernel
theorem dX11_worth_57 : decode cX11_worth 57 = .ok (.aload_n 0, 1) := by decide +kernel
theorem dX11_worth_58 : decode cX11_worth 58 = .ok (.getfield 45, 3) := by decide +kernel
theorem dX11_worth_61 : decode cX11_worth 61 = .ok (.iload 5, 2) := by decide +kernel
theorem dX11_worth_63 : decode cX11_worth 63 = .ok (.invokevirtual 137, 3) := by decide +kernel
theorem dX11_worth_66 : decode cX11_worth 66 = .ok (.aload_n 0, 1) := by decide +kernel
theorem dX11_worth_67 : decode cX11_worth 67 = .ok (.getfield 45, 3) := by decide +kernel
theorem dX11_worth_70 : decode cX11_worth 70 = .ok (.iload 5, 2) := by decide +kernel
theorem dX11_worth_72 : decode cX11_worth 72 = .ok (.invokevirtual 293, 3) := by decide +kernel
theorem dX11_worth_75 : decode cX11_worth 75 = .ok (.invokevirtual 296, 3) := by decide +kernel
theorem dX11_worth_78 : decode cX11_worth 78 = .ok (.iadd, 1) := by decide +kernel
theorem dX11_worth_79 : decode cX11_worth 79 = .ok (.istore_n 3, 1) := by decide +kernel
theorem dX11_worth_80 : decode cX11_worth 80 = .ok (.iinc 4 1, 3) := by decide +kernel
theorem dX11_worth_83 : decode cX11_worth 83 = .ok (.goto (-54), 3) := by decide +kernel
theorem dX11_worth_86 : decode cX11_worth 86 = .ok (.iload_n 3, 1) := by decide +kernel
theorem dX11_worth_87 : decode cX11_worth 87 = .ok (.ireturn, 1) := by decide +kernel
theorem dX11_likely_0 : decode cX11_likely 0 = .ok (.aload_n 0, 1) := by decide +kernel
theorem dX11_likely_1 : decode cX11_likely 1 = .ok (.getfield 45, 3) := by decide +kernel
theorem dX11_likely_4 : decode cX11_likely 4 = .ok (.iload_n 1, 1) := by decide +kernel
theorem dX11_likely_5 : decode cX11_likely 5 = .ok (.invokevirtual 157, 3) := by decide +kernel
theorem dX11_likely_8 : decode cX11_likely 8 = .ok (.ifCond .eq 22, 3) := by decide +kernel
theorem dX11_likely_11 : decode cX11_likely 11 = .ok (.aload_n 0, 1) := by decide +kernel
theorem dX11_likely_12 : decode cX11_likely 12 = .ok (.getfield 45, 3) := by decide +kernel
theorem dX11_likely_15 : decode cX11_likely 15 = .ok (.iload_n 2, 1) := by decide +kernel
theorem dX11_likely_16 : decode cX11_likely 16 = .ok (.invokevirtual 147, 3) := by decide +kernel
theorem dX11_likely_19 : decode cX11_likely 19 = .ok (.ifCond .eq 11, 3) := by decide +kernel
theorem dX11_likely_22 : decode cX11_likely 22 = .ok (.iload_n 1, 1) := by decide +kernel
theorem dX11_likely_23 : decode cX11_likely 23 = .ok (.invokestatic 239, 3) := by decide +kernel
theorem dX11_likely_26 : decode cX11_likely 26 = .ok (.iload_n 2, 1) := by decide +kernel
theorem dX11_likely_27 : decode cX11_likely 27 = .ok (.if_icmp .ne 5, 3) := by decide +kernel
theorem dX11_likely_30 : decode cX11_likely 30 = .ok (.iconst (-1), 1) := by decide +kernel
theorem dX11_likely_31 : decode cX11_likely 31 = .ok (.ireturn, 1) := by decide +kernel
theorem dX11_likely_32 : decode cX11_likely 32 = .ok (.aload_n 0, 1) := by decide +kernel
theorem dX11_likely_33 : decode cX11_likely 33 = .ok (.getfield 45, 3) := by decide +kernel
theorem dX11_likely_36 : decode cX11_likely 36 = .ok (.iload_n 2, 1) := by decide +kernel
theorem dX11_likely_37 : decode cX11_likely 37 = .ok (.invokevirtual 300, 3) := by decide +kernel
theorem dX11_likely_40 : decode cX11_likely 40 = .ok (.istore_n 3, 1) := by decide +kernel
theorem dX11_likely_41 : decode cX11_likely 41 = .ok (.iload_n 3, 1) := by decide +kernel
theorem dX11_likely_42 : decode cX11_likely 42 = .ok (.iconst (-1), 1) := by decide +kernel
theorem dX11_likely_43 : decode cX11_likely 43 = .ok (.if_icmp .ne 5, 3) := by decide +kernel
theorem dX11_likely_46 : decode cX11_likely 46 = .ok (.iconst (-1), 1) := by decide +kernel
theorem dX11_likely_47 : decode cX11_likely 47 = .ok (.ireturn, 1) := by decide +kernel
theorem dX11_likely_48 : decode cX11_likely 48 = .ok (.aload_n 0, 1) := by decide +kernel
theorem dX11_likely_49 : decode cX11_likely 49 = .ok (.getfield 41, 3) := by decide +kernel
theorem dX11_likely_52 : decode cX11_likely 52 = .ok (.iload_n 3, 1) := by decide +kernel
theorem dX11_likely_53 : decode cX11_likely 53 = .ok (.aload_n 0, 1) := by decide +kernel
theorem dX11_likely_54 : decode cX11_likely 54 = .ok (.getfield 45, 3) := by decide +kernel
theorem dX11_likely_57 : decode cX11_likely 57 = .ok (.iload_n 1, 1) := by decide +kernel
theorem dX11_likely_58 : decode cX11_likely 58 = .ok (.invokevirtual 303, 3) := by decide +kernel
theorem dX11_likely_61 : decode cX11_likely 61 = .ok (.aload_n 0, 1) := by decide +kernel
theorem dX11_likely_62 : decode cX11_likely 62 = .ok (.getfield 45, 3) := by decide +kernel
theorem dX11_likely_65 : decode cX11_likely 65 = .ok (.iload_n 1, 1) := by decide +kernel
theorem dX11_likely_66 : decode cX11_likely 66 = .ok (.invokevirtual 306, 3) := by decide +kernel
theorem dX11_likely_69 : decode cX11_likely 69 = .ok (.invokevirtual 296, 3) := by decide +kernel
theorem dX11_likely_72 : decode cX11_likely 72 = .ok (.ireturn, 1) := by decide +kernel
theorem dX11_keep_0 : decode cX11_keep 0 = .ok (.aload_n 0, 1) := by decide +kernel
theorem dX11_keep_1 : decode cX11_keep 1 = .ok (.aload_n 0, 1) := by decide +kernel
theorem dX11_keep_2 : decode cX11_keep 2 = .ok (.getfield 45, 3) := by decide +kernel
theorem dX11_keep_5 : decode cX11_keep 5 = .ok (.invokevirtual 309, 3) := by decide +kernel
theorem dX11_keep_8 : decode cX11_keep 8 = .ok (.putfield 76, 3) := by decide +kernel
theorem dX11_keep_11 : decode cX11_keep 11 = .ok (.aload_n 0, 1) := by decide +kernel
theorem dX11_keep_12 : decode cX11_keep 12 = .ok (.aload_n 0, 1) := by decide +kernel
theorem dX11_keep_13 : decode cX11_keep 13 = .ok (.getfield 65, 3) := by decide +kernel
theorem dX11_keep_16 : decode cX11_keep 16 = .ok (.invokevirtual 218, 3) := by decide +kernel
theorem dX11_keep_19 : decode cX11_keep 19 = .ok (.putfield 80, 3) := by decide +kernel
theorem dX11_keep_22 : decode cX11_keep 22 = .ok (.aload_n 0, 1) := by decide +kernel
theorem dX11_keep_23 : decode cX11_keep 23 = .ok (.getfield 76, 3) := by decide +kernel
theorem dX11_keep_26 : decode cX11_keep 26 = .ok (.aload_n 0, 1) := by decide +kernel
theorem dX11_keep_27 : decode cX11_keep 27 = .ok (.getfield 80, 3) := by decide +kernel
theorem dX11_keep_30 : decode cX11_keep 30 = .ok (.iadd, 1) := by decide +kernel
theorem dX11_keep_31 : decode cX11_keep 31 = .ok (.ireturn, 1) := by decide +kernel
theorem dX11_back_0 : decode cX11_back 0 = .ok (.aload_n 0, 1) := by decide +kernel
theorem dX11_back_1 : decode cX11_back 1 = .ok (.getfield 45, 3) := by decide +kernel
theorem dX11_back_4 : decode cX11_back 4 = .ok (.aload_n 0, 1) := by decide +kernel
theorem dX11_back_5 : decode cX11_back 5 = .ok (.getfield 76, 3) := by decide +kernel
theorem dX11_back_8 : decode cX11_back 8 = .ok (.invokevirtual 312, 3) := by decide +kernel
theorem dX11_back_11 : decode cX11_back 11 = .ok (.aload_n 0, 1) := by decide +kernel
theorem dX11_back_12 : decode cX11_back 12 = .ok (.getfield 65, 3) := by decide +kernel
theorem dX11_back_15 : decode cX11_back 15 = .ok (.aload_n 0, 1) := by decide +kernel
theorem dX11_back_16 : decode cX11_back 16 = .ok (.getfield 80, 3) := by decide +kernel
theorem dX11_back_19 : decode cX11_back 19 = .ok (.invokevirtual 315, 3) := by decide +kernel
theorem dX11_back_22 : decode cX11_back 22 = .ok (.aload_n 0, 1) := by decide +kernel
theorem dX11_back_23 : decode cX11_back 23 = .ok (.getfield 45, 3) := by decide +kernel
theorem dX11_back_26 : decode cX11_back 26 = .ok (.invokevirtual 309, 3) := by decide +kernel
theorem dX11_back_29 : decode cX11_back 29 = .ok (.aload_n 0, 1) := by decide +kernel
theorem dX11_back_30 : decode cX11_back 30 = .ok (.getfield 65, 3) := by decide +kernel
theorem dX11_back_33 : decode cX11_back 33 = .ok (.invokevirtual 218, 3) := by decide +kernel
theorem dX11_back_36 : decode cX11_back 36 = .ok (.iadd, 1) := by decide +kernel
theorem dX11_back_37 : decode cX11_back 37 = .ok (.ireturn, 1) := by decide +kernel
theorem dX11_count_0 : decode cX11_count 0 = .ok (.iload_n 1, 1) := by decide +kernel
theorem dX11_count_1 : decode cX11_count 1 = .ok (.tableswitch 99 0 6 #[43, 51, 59, 67, 75, 83, 91], 43) := by decide +kernel
theorem dX11_count_44 : decode cX11_count 44 = .ok (.aload_n 0, 1) := by decide +kernel
theorem dX11_count_45 : decode cX11_count 45 = .ok (.getfield 45, 3) := by decide +kernel
theorem dX11_count_48 : decode cX11_count 48 = .ok (.invokevirtual 309, 3) := by decide +kernel
theorem dX11_count_51 : decode cX11_count 51 = .ok (.ireturn, 1) := by decide +kernel
theorem dX11_count_52 : decode cX11_count 52 = .ok (.aload_n 0, 1) := by decide +kernel
theorem dX11_count_53 : decode cX11_count 53 = .ok (.getfield 72, 3) := by decide +kernel
theorem dX11_count_56 : decode cX11_count 56 = .ok (.invokevirtual 316, 3) := by decide +kernel
theorem dX11_count_59 : decode cX11_count 59 = .ok (.ireturn, 1) := by decide +kernel
theorem dX11_count_60 : decode cX11_count 60 = .ok (.aload_n 0, 1) := by decide +kernel
theorem dX11_count_61 : decode cX11_count 61 = .ok (.getfield 41, 3) := by decide +kernel
theorem dX11_count_64 : decode cX11_count 64 = .ok (.invokevirtual 317, 3) := by decide +kernel
theorem dX11_count_67 : decode cX11_count 67 = .ok (.ireturn, 1) := by decide +kernel
theorem dX11_count_68 : decode cX11_count 68 = .ok (.aload_n 0, 1) := by decide +kernel
theorem dX11_count_69 : decode cX11_count 69 = .ok (.getfield 45, 3) := by decide +kernel
theorem dX11_count_72 : decode cX11_count 72 = .ok (.invokevirtual 318, 3) := by decide +kernel
theorem dX11_count_75 : decode cX11_count 75 = .ok (.ireturn, 1) := by decide +kernel
theorem dX11_count_76 : decode cX11_count 76 = .ok (.aload_n 0, 1) := by decide +kernel
theorem dX11_count_77 : decode cX11_count 77 = .ok (.getfield 18, 3) := by decide +kernel
theorem dX11_count_80 : decode cX11_count 80 = .ok (.invokevirtual 87, 3) := by decide +kernel
theorem dX11_count_83 : decode cX11_count 83 = .ok (.ireturn, 1) := by decide +kernel
theorem dX11_count_84 : decode cX11_count 84 = .ok (.aload_n 0, 1) := by decide +kernel
theorem dX11_count_85 : decode cX11_count 85 = .ok (.getfield 49, 3) := by decide +kernel
theorem dX11_count_88 : decode cX11_count 88 = .ok (.invokevirtual 321, 3) := by decide +kernel
theorem dX11_count_91 : decode cX11_count 91 = .ok (.ireturn, 1) := by decide +kernel
theorem dX11_count_92 : decode cX11_count 92 = .ok (.aload_n 0, 1) := by decide +kernel
theorem dX11_count_93 : decode cX11_count 93 = .ok (.getfield 72, 3) := by decide +kernel
theorem dX11_count_96 : decode cX11_count 96 = .ok (.invokevirtual 324, 3) := by decide +kernel
theorem dX11_count_99 : decode cX11_count 99 = .ok (.ireturn, 1) := by decide +kernel
theorem dX11_count_100 : decode cX11_count 100 = .ok (.iconst (-1), 1) := by decide +kernel
theorem dX11_count_101 : decode cX11_count 101 = .ok (.ireturn, 1) := by decide +kernel
theorem dX12_init_0 : decode cX12_init 0 = .ok (.aload_n 0, 1) := by decide +kernel
theorem dX12_init_1 : decode cX12_init 1 = .ok (.invokespecial 1, 3) := by decide +kernel
theorem dX12_init_4 : decode cX12_init 4 = .ok (.aload_n 0, 1) := by decide +kernel
theorem dX12_init_5 : decode cX12_init 5 = .ok (.sipush 200, 3) := by decide +kernel
theorem dX12_init_8 : decode cX12_init 8 = .ok (.newarray .byte, 2) := by decide +kernel
theorem dX12_init_10 : decode cX12_init 10 = .ok (.putfield 9, 3) := by decide +kernel
theorem dX12_init_13 : decode cX12_init 13 = .ok (.aload_n 0, 1) := by decide +kernel
theorem dX12_init_14 : decode cX12_init 14 = .ok (.sipush 1800, 3) := by decide +kernel
theorem dX12_init_17 : decode cX12_init 17 = .ok (.newarray .byte, 2) := by decide +kernel
theorem dX12_init_19 : decode cX12_init 19 = .ok (.putfield 13, 3) := by decide +kernel
theorem dX12_init_22 : decode cX12_init 22 = .ok (.aload_n 0, 1) := by decide +kernel
theorem dX12_init_23 : decode cX12_init 23 = .ok (.sipush 800, 3) := by decide +kernel
theorem dX12_init_26 : decode cX12_init 26 = .ok (.newarray .byte, 2) := by decide +kernel
theorem dX12_init_28 : decode cX12_init 28 = .ok (.putfield 16, 3) := by decide +kernel
theorem dX12_init_31 : decode cX12_init 31 = .ok (.aload_n 0, 1) := by decide +kernel
theorem dX12_init_32 : decode cX12_init 32 = .ok (.iconst 4, 1) := by decide +kernel
theorem dX12_init_33 : decode cX12_init 33 = .ok (.newarray .int, 2) := by decide +kernel
theorem dX12_init_35 : decode cX12_init 35 = .ok (.putfield 19, 3) := by decide +kernel
theorem dX12_init_38 : decode cX12_init 38 = .ok (.aload_n 0, 1) := by decide +kernel
theorem dX12_init_39 : decode cX12_init 39 = .ok (.sipush 128, 3) := by decide +kernel
theorem dX12_init_42 : decode cX12_init 42 = .ok (.newarray .int, 2) := by decide +kernel
theorem dX12_init_44 : decode cX12_init 44 = .ok (.putfield 23, 3) := by decide +kernel
theorem dX12_init_47 : decode cX12_init 47 = .ok (.aload_n 0, 1) := by decide +kernel
theorem dX12_init_48 : decode cX12_init 48 = .ok (.aload_n 0, 1) := by decide +kernel
theorem dX12_init_49 : decode cX12_init 49 = .ok (.getfield 9, 3) := by decide +kernel
theorem dX12_init_52 : decode cX12_init 52 = .ok (.putfield 26, 3) := by decide +kernel
theorem dX12_init_55 : decode cX12_init 55 = .ok (.aload_n 0, 1) := by decide +kernel
theorem dX12_init_56 : decode cX12_init 56 = .ok (.ldc 29, 2) := by decide +kernel
theorem dX12_init_58 : decode cX12_init 58 = .ok (.putfield 31, 3) := by decide +kernel
theorem dX12_init_61 : decode cX12_init 61 = .ok (.aload_n 0, 1) := by decide +kernel
theorem dX12_init_62 : decode cX12_init 62 = .ok (.ldc 35, 2) := by decide +kernel
theorem dX12_init_64 : decode cX12_init 64 = .ok (.putfield 37, 3) := by decide +kernel
theorem dX12_init_67 : decode cX12_init 67 = .ok (.aload_n 0, 1) := by decide +kernel
theorem dX12_init_68 : decode cX12_init 68 = .ok (.bipush 9, 2) := by decide +kernel
theorem dX12_init_70 : decode cX12_init 70 = .ok (.newarray .int, 2) := by decide +kernel
theorem dX12_init_72 : decode cX12_init 72 = .ok (.putfield 40, 3) := by decide +kernel
theorem dX12_init_75 : decode cX12_init 75 = .ok (.aload_n 0, 1) := by decide +kernel
theorem dX12_init_76 : decode cX12_init 76 = .ok (.sipush 144, 3) := by decide +kernel
theorem dX12_init_79 : decode cX12_init 79 = .ok (.newarray .int, 2) := by decide +kernel
theorem dX12_init_81 : decode cX12_init 81 = .ok (.putfield 43, 3) := by decide +kernel
theorem dX12_init_84 : decode cX12_init 84 = .ok (.aload_n 0, 1) := by decide +kernel
theorem dX12_init_85 : decode cX12_init 85 = .ok (.sipush 144, 3) := by decide +kernel
theorem dX12_init_88 : decode cX12_init 88 = .ok (.newarray .int, 2) := by decide +kernel
theorem dX12_init_90 : decode cX12_init 90 = .ok (.putfield 46, 3) := by decide +kernel
theorem dX12_init_93 : decode cX12_init 93 = .ok (.aload_n 0, 1) := by decide +kernel
theorem dX12_init_94 : decode cX12_init 94 = .ok (.sipush 288, 3) := by decide +kernel
theorem dX12_init_97 : decode cX12_init 97 = .ok (.newarray .int, 2) := by decide +kernel
theorem dX12_init_99 : decode cX12_init 99 = .ok (.putfield 49, 3) := by decide +kernel
theorem dX12_init_102 : decode cX12_init 102 = .ok (.aload_n 0, 1) := by decide +kernel
theorem dX12_init_103 : decode cX12_init 103 = .ok (.sipush 288, 3) := by decide +kernel
theorem dX12_init_106 : decode cX12_init 106 = .ok (.newarray .int, 2) := by decide +kernel
theorem dX12_init_108 : decode cX12_init 108 = .ok (.putfield 52, 3) := by decide +kernel
theorem dX12_init_111 : decode cX12_init 111 = .ok (.aload_n 0, 1) := by decide +kernel
theorem dX12_init_112 : decode cX12_init 112 = .ok (.sipush 1728, 3) := by decide +kernel
theorem dX12_init_115 : decode cX12_init 115 = .ok (.newarray .int, 2) := by decide +kernel
theorem dX12_init_117 : decode cX12_init 117 = .ok (.putfield 55, 3) := by decide +kernel
theorem dX12_init_120 : decode cX12_init 120 = .ok (.aload_n 0, 1) := by decide +kernel
theorem dX12_init_121 : decode cX12_init 121 = .ok (.sipush 1728, 3) := by decide +kernel
theorem dX12_init_124 : decode cX12_init 124 = .ok (.newarray .int, 2) := by decide +kernel
theorem dX12_init_126 : decode cX12_init 126 = .ok (.putfield 58, 3) := by decide +kernel
theorem dX12_init_129 : decode cX12_init 129 = .ok (.aload_n 0, 1) := by decide +kernel
theorem dX12_init_130 : decode cX12_init 130 = .ok (.iconst 5, 1) := by decide +kernel
theorem dX12_init_131 : decode cX12_init 131 = .ok (.newarray .int, 2) := by decide +kernel
theorem dX12_init_133 : decode cX12_init 133 = .ok (.putfield 61, 3) := by decide +kernel
theorem dX12_init_136 : decode cX12_init 136 = .ok (.aload_n 0, 1) := by decide +kernel
theorem dX12_init_137 : decode cX12_init 137 = .ok (.bipush 100, 2) := by decide +kernel
theorem dX12_init_139 : decode cX12_init 139 = .ok (.newarray .int, 2) := by decide +kernel
theorem dX12_init_141 : decode cX12_init 141 = .ok (.putfield 64, 3) := by decide +kernel
theorem dX12_init_144 : decode cX12_init 144 = .ok (.aload_n 0, 1) := by decide +kernel
theorem dX12_init_145 : decode cX12_init 145 = .ok (.bipush 8, 2) := by decide +kernel
theorem dX12_init_147 : decode cX12_init 147 = .ok (.newarray .int, 2) := by decide +kernel
theorem dX12_init_149 : decode cX12_init 149 = .ok (.putfield 67, 3) := by decide +kernel
theorem dX12_init_152 : decode cX12_init 152 = .ok (.aload_n 0, 1) := by decide +kernel
theorem dX12_init_153 : decode cX12_init 153 = .ok (.bipush 20, 2) := by decide +kernel
theorem dX12_init_155 : decode cX12_init 155 = .ok (.newarray .int, 2) := by decide +kernel
theorem dX12_init_157 : decode cX12_init 157 = .ok (.putfield 70, 3) := by decide +kernel
theorem dX12_init_160 : decode cX12_init 160 = .ok (.aload_n 0, 1) := by decide +kernel
theorem dX12_init_161 : decode cX12_init 161 = .ok (.bipush 20, 2) := by decide +kernel
theorem dX12_init_163 : decode cX12_init 163 = .ok (.newarray .int, 2) := by decide +kernel
theorem dX12_init_165 : decode cX12_init 165 = .ok (.putfield 73, 3) := by decide +kernel
theorem dX12_init_168 : decode cX12_init 168 = .ok (.aload_n 0, 1) := by decide +kernel
theorem dX12_init_169 : decode cX12_init 169 = .ok (.sipush 441, 3) := by decide +kernel
theorem dX12_init_172 : decode cX12_init 172 = .ok (.newarray .int, 2) := by decide +kernel
theorem dX12_init_174 : decode cX12_init 174 = .ok (.putfield 76, 3) := by decide +kernel
theorem dX12_init_177 : decode cX12_init 177 = .ok (.aload_n 0, 1) := by decide +kernel
theorem dX12_init_178 : decode cX12_init 178 = .ok (.iconst 1, 1) := by decide +kernel
theorem dX12_init_179 : decode cX12_init 179 = .ok (.putfield 79, 3) := by decide +kernel
theorem dX12_init_182 : decode cX12_init 182 = .ok (.aload_n 0, 1) := by decide +kernel
theorem dX12_init_183 : decode cX12_init 183 = .ok (.bipush 9, 2) := by decide +kernel
theorem dX12_init_185 : decode cX12_init 185 = .ok (.newarray .int, 2) := by decide +kernel
theorem dX12_init_187 : decode cX12_init 187 = .ok (.putfield 83, 3) := by decide +kernel
theorem dX12_init_190 : decode cX12_init 190 = .ok (.aload_n 0, 1) := by decide +kernel
theorem dX12_init_191 : decode cX12_init 191 = .ok (.ldc 86, 2) := by decide +kernel
theorem dX12_init_193 : decode cX12_init 193 = .ok (.newarray .int, 2) := by decide +kernel
theorem dX12_init_195 : decode cX12_init 195 = .ok (.putfield 87, 3) := by decide +kernel
theorem dX12_init_198 : decode cX12_init 198 = .ok (.aload_n 0, 1) := by decide +kernel
theorem dX12_init_199 : decode cX12_init 199 = .ok (.ldc 86, 2) := by decide +kernel
theorem dX12_init_201 : decode cX12_init 201 = .ok (.newarray .int, 2) := by decide +kernel
theorem dX12_init_203 : decode cX12_init 203 = .ok (.putfield 90, 3) := by decide +kernel
theorem dX12_init_206 : decode cX12_init 206 = .ok (.aload_n 0, 1) := by decide +kernel
theorem dX12_init_207 : decode cX12_init 207 = .ok (.ldc 86, 2) := by decide +kernel
theorem dX12_init_209 : decode cX12_init 209 = .ok (.newarray .long, 2) := by decide +kernel
theorem dX12_init_211 : decode cX12_init 211 = .ok (.putfield 93, 3) := by decide +kernel
theorem dX12_init_214 : decode cX12_init 214 = .ok (.aload_n 0, 1) := by decide +kernel
theorem dX12_init_215 : decode cX12_init 215 = .ok (.ldc 86, 2) := by decide +kernel
theorem dX12_init_217 : decode cX12_init 217 = .ok (.newarray .long, 2) := by decide +kernel
theorem dX12_init_219 : decode cX12_init 219 = .ok (.putfield 97, 3) := by decide +kernel
theorem dX12_init_222 : decode cX12_init 222 = .ok (.aload_n 0, 1) := by decide +kernel
theorem dX12_init_223 : decode cX12_init 223 = .ok (.bipush 96, 2) := by decide +kernel
theorem dX12_init_225 : decode cX12_init 225 = .ok (.newarray .int, 2) := by decide +kernel
theorem dX12_init_227 : decode cX12_init 227 = .ok (.putfield 100, 3) := by decide +kernel
theorem dX12_init_230 : decode cX12_init 230 = .ok (.aload_n 0, 1) := by decide +kernel
theorem dX12_init_231 : decode cX12_init 231 = .ok (.bipush 96, 2) := by decide +kernel
theorem dX12_init_233 : decode cX12_init 233 = .ok (.newarray .int, 2) := by decide +kernel
theorem dX12_init_235 : decode cX12_init 235 = .ok (.putfield 103, 3) := by decide +kernel
theorem dX12_init_238 : decode cX12_init 238 = .ok (.aload_n 0, 1) := by decide +kernel
theorem dX12_init_239 : decode cX12_init 239 = .ok (.bipush 8, 2) := by decide +kernel
theorem dX12_init_241 : decode cX12_init 241 = .ok (.newarray .int, 2) := by decide +kernel
theorem dX12_init_243 : decode cX12_init 243 = .ok (.putfield 106, 3) := by decide +kernel
theorem dX12_init_246 : decode cX12_init 246 = .ok (.aload_n 0, 1) := by decide +kernel
theorem dX12_init_247 : decode cX12_init 247 = .ok (.bipush 8, 2) := by decide +kernel
theorem dX12_init_249 : decode cX12_init 249 = .ok (.newarray .boolean, 2) := by decide +kernel
theorem dX12_init_251 : decode cX12_init 251 = .ok (.putfield 109, 3) := by decide +kernel
theorem dX12_init_254 : decode cX12_init 254 = .ok (.aload_n 0, 1) := by decide +kernel
theorem dX12_init_255 : decode cX12_init 255 = .ok (.bipush 10, 2) := by decide +kernel
theorem dX12_init_257 : decode cX12_init 257 = .ok (.newarray .int, 2) := by decide +kernel
theorem dX12_init_259 : decode cX12_init 259 = .ok (.putfield 113, 3) := by decide +kernel
theorem dX12_init_262 : decode cX12_init 262 = .ok (.return_, 1) := by decide +kernel
theorem dX12_thrown_0 : decode cX12_thrown 0 = .ok (.aload_n 0, 1) := by decide +kernel
theorem dX12_thrown_1 : decode cX12_thrown 1 = .ok (.getfield 116, 3) := by decide +kernel
theorem dX12_thrown_4 : decode cX12_thrown 4 = .ok (.ireturn, 1) := by decide +kernel
theorem dX12_isIn_0 : decode cX12_isIn 0 = .ok (.iload_n 0, 1) := by decide +kernel
theorem dX12_isIn_1 : decode cX12_isIn 1 = .ok (.iload_n 1, 1) := by decide +kernel
theorem dX12_isIn_2 : decode cX12_isIn 2 = .ok (.if_icmp .lt 12, 3) := by decide +kernel
theorem dX12_isIn_5 : decode cX12_isIn 5 = .ok (.iload_n 0, 1) := by decide +kernel
theorem dX12_isIn_6 : decode cX12_isIn 6 = .ok (.iload_n 2, 1) := by decide +kernel
theorem dX12_isIn_7 : decode cX12_isIn 7 = .ok (.if_icmp .gt 7, 3) := by decide +kernel
theorem dX12_isIn_10 : decode cX12_isIn 10 = .ok (.iconst 1, 1) := by decide +kernel
theorem dX12_isIn_11 : decode cX12_isIn 11 = .ok (.goto 4, 3) := by decide +kernel
theorem dX12_isIn_14 : decode cX12_isIn 14 = .ok (.iconst 0, 1) := by decide +kernel
theorem dX12_isIn_15 : decode cX12_isIn 15 = .ok (.ireturn, 1) := by decide +kernel
theorem dX12_has_0 : decode cX12_has 0 = .ok (.iload_n 0, 1) := by decide +kernel
theorem dX12_has_1 : decode cX12_has 1 = .ok (.iload_n 1, 1) := by decide +kernel
theorem dX12_has_2 : decode cX12_has 2 = .ok (.ishr, 1) := by decide +kernel
theorem dX12_has_3 : decode cX12_has 3 = .ok (.iconst 1, 1) := by decide +kernel
theorem dX12_has_4 : decode cX12_has 4 = .ok (.iand, 1) := by decide +kernel
theorem dX12_has_5 : decode cX12_has 5 = .ok (.iconst 1, 1) := by decide +kernel
theorem dX12_has_6 : decode cX12_has 6 = .ok (.if_icmp .ne 7, 3) := by decide +kernel
theorem dX12_has_9 : decode cX12_has 9 = .ok (.iconst 1, 1) := by decide +kernel
theorem dX12_has_10 : decode cX12_has 10 = .ok (.goto 4, 3) := by decide +kernel
theorem dX12_has_13 : decode cX12_has 13 = .ok (.iconst 0, 1) := by decide +kernel
theorem dX12_has_14 : decode cX12_has 14 = .ok (.ireturn, 1) := by decide +kernel
theorem dX12_isAmong_0 : decode cX12_isAmong 0 = .ok (.iconst 0, 1) := by decide +kernel
theorem dX12_isAmong_1 : decode cX12_isAmong 1 = .ok (.istore_n 2, 1) := by decide +kernel
theorem dX12_isAmong_2 : decode cX12_isAmong 2 = .ok (.iload_n 2, 1) := by decide +kernel
theorem dX12_isAmong_3 : decode cX12_isAmong 3 = .ok (.aload_n 0, 1) := by decide +kernel
theorem dX12_isAmong_4 : decode cX12_isAmong 4 = .ok (.invokevirtual 119, 3) := by decide +kernel
theorem dX12_isAmong_7 : decode cX12_isAmong 7 = .ok (.if_icmp .ge 20, 3) := by decide +kernel
theorem dX12_isAmong_10 : decode cX12_isAmong 10 = .ok (.aload_n 0, 1) := by decide +kernel
theorem dX12_isAmong_11 : decode cX12_isAmong 11 = .ok (.iload_n 2, 1) := by decide +kernel
theorem dX12_isAmong_12 : decode cX12_isAmong 12 = .ok (.invokevirtual 125, 3) := by decide +kernel
theorem dX12_isAmong_15 : decode cX12_isAmong 15 = .ok (.iload_n 1, 1) := by decide +kernel
theorem dX12_isAmong_16 : decode cX12_isAmong 16 = .ok (.if_icmp .ne 5, 3) := by decide +kernel
theorem dX12_isAmong_19 : decode cX12_isAmong 19 = .ok (.iconst 1, 1) := by decide +kernel
theorem dX12_isAmong_20 : decode cX12_isAmong 20 = .ok (.ireturn, 1) := by decide +kernel
theorem dX12_isAmong_21 : decode cX12_isAmong 21 = .ok (.iinc 2 1, 3) := by decide +kernel
theorem dX12_isAmong_24 : decode cX12_isAmong 24 = .ok (.goto (-22), 3) := by decide +kernel
theorem dX12_isAmong_27 : decode cX12_isAmong 27 = .ok (.iconst 0, 1) := by decide +kernel
theorem dX12_isAmong_28 : decode cX12_isAmong 28 = .ok (.ireturn, 1) := by decide +kernel
theorem dX12_bytesIn_0 : decode cX12_bytesIn 0 = .ok (.iconst 0, 1) := by decide +kernel
theorem dX12_bytesIn_1 : decode cX12_bytesIn 1 = .ok (.istore_n 1, 1) := by decide +kernel
theorem dX12_bytesIn_2 : decode cX12_bytesIn 2 = .ok (.bipush 24, 2) := by decide +kernel
theorem dX12_bytesIn_4 : decode cX12_bytesIn 4 = .ok (.istore_n 2, 1) := by decide +kernel
theorem dX12_bytesIn_5 : decode cX12_bytesIn 5 = .ok (.iload_n 2, 1) := by decide +kernel
theorem dX12_bytesIn_6 : decode cX12_bytesIn 6 = .ok (.ifCond .lt 27, 3) := by decide +kernel
theorem dX12_bytesIn_9 : decode cX12_bytesIn 9 = .ok (.iload_n 1, 1) := by decide +kernel
theorem dX12_bytesIn_10 : decode cX12_bytesIn 10 = .ok (.iload_n 0, 1) := by decide +kernel
theorem dX12_bytesIn_11 : decode cX12_bytesIn 11 = .ok (.iload_n 2, 1) := by decide +kernel
theorem dX12_bytesIn_12 : decode cX12_bytesIn 12 = .ok (.ishr, 1) := by decide +kernel
theorem dX12_bytesIn_13 : decode cX12_bytesIn 13 = .ok (.sipush 255, 3) := by decide +kernel
theorem dX12_bytesIn_16 : decode cX12_bytesIn 16 = .ok (.iand, 1) := by decide +kernel
theorem dX12_bytesIn_17 : decode cX12_bytesIn 17 = .ok (.ifCond .eq 7, 3) := by decide +kernel
theorem dX12_bytesIn_20 : decode cX12_bytesIn 20 = .ok (.iconst 1, 1) := by decide +kernel
theorem dX12_bytesIn_21 : decode cX12_bytesIn 21 = .ok (.goto 4, 3) := by decide +kernel
theorem dX12_bytesIn_24 : decode cX12_bytesIn 24 = .ok (.iconst 0, 1) := by decide +kernel
theorem dX12_bytesIn_25 : decode cX12_bytesIn 25 = .ok (.iadd, 1) := by decide +kernel
theorem dX12_bytesIn_26 : decode cX12_bytesIn 26 = .ok (.istore_n 1, 1) := by decide +kernel
theorem dX12_bytesIn_27 : decode cX12_bytesIn 27 = .ok (.iinc 2 (-8), 3) := by decide +kernel
theorem dX12_bytesIn_30 : decode cX12_bytesIn 30 = .ok (.goto (-25), 3) := by decide +kernel
theorem dX12_bytesIn_33 : decode cX12_bytesIn 33 = .ok (.iload_n 1, 1) := by decide +kernel
theorem dX12_bytesIn_34 : decode cX12_bytesIn 34 = .ok (.ireturn, 1) := by decide +kernel
theorem dX12_put_0 : decode cX12_put 0 = .ok (.bipush 24, 2) := by decide +kernel
theorem dX12_put_2 : decode cX12_put 2 = .ok (.istore_n 2, 1) := by decide +kernel
theorem dX12_put_3 : decode cX12_put 3 = .ok (.iload_n 2, 1) := by decide +kernel
theorem dX12_put_4 : decode cX12_put 4 = .ok (.ifCond .lt 45, 3) := by decide +kernel
theorem dX12_put_7 : decode cX12_put 7 = .ok (.iload_n 1, 1) := by decide +kernel
theorem dX12_put_8 : decode cX12_put 8 = .ok (.iload_n 2, 1) := by decide +kernel
theorem dX12_put_9 : decode cX12_put 9 = .ok (.ishr, 1) := by decide +kernel
theorem dX12_put_10 : decode cX12_put 10 = .ok (.sipush 255, 3) := by decide +kernel
theorem dX12_put_13 : decode cX12_put 13 = .ok (.iand, 1) := by decide +kernel
theorem dX12_put_14 : decode cX12_put 14 = .ok (.ifCond .ne 6, 3) := by decide +kernel
theorem dX12_put_17 : decode cX12_put 17 = .ok (.goto 26, 3) := by decide +kernel
theorem dX12_put_20 : decode cX12_put 20 = .ok (.aload_n 0, 1) := by decide +kernel
theorem dX12_put_21 : decode cX12_put 21 = .ok (.getfield 9, 3) := by decide +kernel
theorem dX12_put_24 : decode cX12_put 24 = .ok (.aload_n 0, 1) := by decide +kernel
theorem dX12_put_25 : decode cX12_put 25 = .ok (.getfield 129, 3) := by decide +kernel
theorem dX12_put_28 : decode cX12_put 28 = .ok (.iload_n 1, 1) := by decide +kernel
theorem dX12_put_29 : decode cX12_put 29 = .ok (.iload_n 2, 1) := by decide +kernel
theorem dX12_put_30 : decode cX12_put 30 = .ok (.ishr, 1) := by decide +kernel
theorem dX12_put_31 : decode cX12_put 31 = .ok (.i2b, 1) := by decide +kernel
theorem dX12_put_32 : decode cX12_put 32 = .ok (.bastore, 1) := by decide +kernel
theorem dX12_put_33 : decode cX12_put 33 = .ok (.aload_n 0, 1) := by decide +kernel
theorem dX12_put_34 : decode cX12_put 34 = .ok (.dup, 1) := by decide +kernel
theorem dX12_put_35 : decode cX12_put 35 = .ok (.getfield 129, 3) := by decide +kernel
theorem dX12_put_38 : decode cX12_put 38 = .ok (.iconst 1, 1) := by decide +kernel
theorem dX12_put_39 : decode cX12_put 39 = .ok (.iadd, 1) := by decide +kernel
theorem dX12_put_40 : decode cX12_put 40 = .ok (.putfield 129, 3) := by decide +kernel
theorem dX12_put_43 : decode cX12_put 43 = .ok (.iinc 2 (-8), 3) := by decide +kernel
theorem dX12_put_46 : decode cX12_put 46 = .ok (.goto (-43), 3) := by decide +kernel
theorem dX12_put_49 : decode cX12_put 49 = .ok (.return_, 1) := by decide +kernel
theorem dX12_feed_0 : decode cX12_feed 0 = .ok (.aload_n 0, 1) := by decide +kernel
theorem dX12_feed_1 : decode cX12_feed 1 = .ok (.iconst 0, 1) := by decide +kernel
theorem dX12_feed_2 : decode cX12_feed 2 = .ok (.putfield 116, 3) := by decide +kernel
theorem dX12_feed_5 : decode cX12_feed 5 = .ok (.aload_n 0, 1) := by decide +kernel
theorem dX12_feed_6 : decode cX12_feed 6 = .ok (.getfield 129, 3) := by decide +kernel
theorem dX12_feed_9 : decode cX12_feed 9 = .ok (.iload_n 1, 1) := by decide +kernel
theorem dX12_feed_10 : decode cX12_feed 10 = .ok (.invokestatic 131, 3) := by decide +kernel
theorem dX12_feed_13 : decode cX12_feed 13 = .ok (.iadd, 1) := by decide +kernel
theorem dX12_feed_14 : decode cX12_feed 14 = .ok (.iload_n 2, 1) := by decide +kernel
theorem dX12_feed_15 : decode cX12_feed 15 = .ok (.invokestatic 131, 3) := by decide +kernel
theorem dX12_feed_18 : decode cX12_feed 18 = .ok (.iadd, 1) := by decide +kernel
theorem dX12_feed_19 : decode cX12_feed 19 = .ok (.iload_n 3, 1) := by decide +kernel
theorem dX12_feed_20 : decode cX12_feed 20 = .ok (.invokestatic 131, 3) := by decide +kernel
theorem dX12_feed_23 : decode cX12_feed 23 = .ok (.iadd, 1) := by decide +kernel
