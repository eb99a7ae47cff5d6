theorem dX7_behind_2 : decode cX7_behind 2 = .ok (.invokevirtual 437, 3) := by decide +kernel
theorem dX7_behind_5 : decode cX7_behind 5 = .ok (.lstore_n 2, 1) := by decide +kernel
theorem dX7_behind_6 : decode cX7_behind 6 = .ok (.aload_n 0, 1) := by decide +kernel
theorem dX7_behind_7 : decode cX7_behind 7 = .ok (.invokevirtual 403, 3) := by decide +kernel
theorem dX7_behind_10 : decode cX7_behind 10 = .ok (.lload_n 2, 1) := by decide +kernel
theorem dX7_behind_11 : decode cX7_behind 11 = .ok (.lreturn, 1) := by decide +kernel
theorem dX7_isPerson_0 : decode cX7_isPerson 0 = .ok (.aload_n 0, 1) := by decide +kernel
theorem dX7_isPerson_1 : decode cX7_isPerson 1 = .ok (.iload_n 1, 1) := by decide +kernel
theorem dX7_isPerson_2 : decode cX7_isPerson 2 = .ok (.i2l, 1) := by decide +kernel
theorem dX7_isPerson_3 : decode cX7_isPerson 3 = .ok (.lconst 0, 1) := by decide +kernel
theorem dX7_isPerson_4 : decode cX7_isPerson 4 = .ok (.ldc2_w 377, 3) := by decide +kernel
theorem dX7_isPerson_7 : decode cX7_isPerson 7 = .ok (.invokestatic 352, 3) := by decide +kernel
theorem dX7_isPerson_10 : decode cX7_isPerson 10 = .ok (.iload_n 2, 1) := by decide +kernel
theorem dX7_isPerson_11 : decode cX7_isPerson 11 = .ok (.iconst 1, 1) := by decide +kernel
theorem dX7_isPerson_12 : decode cX7_isPerson 12 = .ok (.invokevirtual 346, 3) := by decide +kernel
theorem dX7_isPerson_15 : decode cX7_isPerson 15 = .ok (.ireturn, 1) := by decide +kernel
theorem dX7_other_0 : decode cX7_other 0 = .ok (.aload_n 0, 1) := by decide +kernel
theorem dX7_other_1 : decode cX7_other 1 = .ok (.iconst 0, 1) := by decide +kernel
theorem dX7_other_2 : decode cX7_other 2 = .ok (.putfield 1, 3) := by decide +kernel
theorem dX7_other_5 : decode cX7_other 5 = .ok (.aload_n 0, 1) := by decide +kernel
theorem dX7_other_6 : decode cX7_other 6 = .ok (.iload_n 1, 1) := by decide +kernel
theorem dX7_other_7 : decode cX7_other 7 = .ok (.iload_n 2, 1) := by decide +kernel
theorem dX7_other_8 : decode cX7_other 8 = .ok (.iload_n 3, 1) := by decide +kernel
theorem dX7_other_9 : decode cX7_other 9 = .ok (.invokestatic 384, 3) := by decide +kernel
theorem dX7_other_12 : decode cX7_other 12 = .ok (.ifCond .eq 20, 3) := by decide +kernel
theorem dX7_other_15 : decode cX7_other 15 = .ok (.iload 4, 2) := by decide +kernel
theorem dX7_other_17 : decode cX7_other 17 = .ok (.i2l, 1) := by decide +kernel
theorem dX7_other_18 : decode cX7_other 18 = .ok (.lconst 0, 1) := by decide +kernel
theorem dX7_other_19 : decode cX7_other 19 = .ok (.ldc2_w 377, 3) := by decide +kernel
theorem dX7_other_22 : decode cX7_other 22 = .ok (.invokestatic 352, 3) := by decide +kernel
theorem dX7_other_25 : decode cX7_other 25 = .ok (.ifCond .eq 7, 3) := by decide +kernel
theorem dX7_other_28 : decode cX7_other 28 = .ok (.iconst 1, 1) := by decide +kernel
theorem dX7_other_29 : decode cX7_other 29 = .ok (.goto 4, 3) := by decide +kernel
theorem dX7_other_32 : decode cX7_other 32 = .ok (.iconst 0, 1) := by decide +kernel
theorem dX7_other_33 : decode cX7_other 33 = .ok (.iconst 1, 1) := by decide +kernel
theorem dX7_other_34 : decode cX7_other 34 = .ok (.iconst 1, 1) := by decide +kernel
theorem dX7_other_35 : decode cX7_other 35 = .ok (.invokevirtual 346, 3) := by decide +kernel
theorem dX7_other_38 : decode cX7_other 38 = .ok (.ifCond .ne 5, 3) := by decide +kernel
theorem dX7_other_41 : decode cX7_other 41 = .ok (.lconst 0, 1) := by decide +kernel
theorem dX7_other_42 : decode cX7_other 42 = .ok (.lreturn, 1) := by decide +kernel
theorem dX7_other_43 : decode cX7_other 43 = .ok (.aload_n 0, 1) := by decide +kernel
theorem dX7_other_44 : decode cX7_other 44 = .ok (.iload_n 1, 1) := by decide +kernel
theorem dX7_other_45 : decode cX7_other 45 = .ok (.iload_n 2, 1) := by decide +kernel
theorem dX7_other_46 : decode cX7_other 46 = .ok (.iload_n 3, 1) := by decide +kernel
theorem dX7_other_47 : decode cX7_other 47 = .ok (.invokevirtual 453, 3) := by decide +kernel
theorem dX7_other_50 : decode cX7_other 50 = .ok (.aload_n 0, 1) := by decide +kernel
theorem dX7_other_51 : decode cX7_other 51 = .ok (.iload 4, 2) := by decide +kernel
theorem dX7_other_53 : decode cX7_other 53 = .ok (.invokevirtual 456, 3) := by decide +kernel
theorem dX7_other_56 : decode cX7_other 56 = .ok (.lreturn, 1) := by decide +kernel
theorem dX7_best_0 : decode cX7_best 0 = .ok (.aload_n 0, 1) := by decide +kernel
theorem dX7_best_1 : decode cX7_best 1 = .ok (.iconst 0, 1) := by decide +kernel
theorem dX7_best_2 : decode cX7_best 2 = .ok (.putfield 1, 3) := by decide +kernel
theorem dX7_best_5 : decode cX7_best 5 = .ok (.aload_n 0, 1) := by decide +kernel
theorem dX7_best_6 : decode cX7_best 6 = .ok (.iload_n 1, 1) := by decide +kernel
theorem dX7_best_7 : decode cX7_best 7 = .ok (.i2l, 1) := by decide +kernel
theorem dX7_best_8 : decode cX7_best 8 = .ok (.lconst 0, 1) := by decide +kernel
theorem dX7_best_9 : decode cX7_best 9 = .ok (.ldc2_w 377, 3) := by decide +kernel
theorem dX7_best_12 : decode cX7_best 12 = .ok (.invokestatic 352, 3) := by decide +kernel
theorem dX7_best_15 : decode cX7_best 15 = .ok (.ifCond .eq 19, 3) := by decide +kernel
theorem dX7_best_18 : decode cX7_best 18 = .ok (.iload_n 2, 1) := by decide +kernel
theorem dX7_best_19 : decode cX7_best 19 = .ok (.i2l, 1) := by decide +kernel
theorem dX7_best_20 : decode cX7_best 20 = .ok (.lconst 0, 1) := by decide +kernel
theorem dX7_best_21 : decode cX7_best 21 = .ok (.ldc2_w 382, 3) := by decide +kernel
theorem dX7_best_24 : decode cX7_best 24 = .ok (.invokestatic 352, 3) := by decide +kernel
theorem dX7_best_27 : decode cX7_best 27 = .ok (.ifCond .eq 7, 3) := by decide +kernel
theorem dX7_best_30 : decode cX7_best 30 = .ok (.iconst 1, 1) := by decide +kernel
theorem dX7_best_31 : decode cX7_best 31 = .ok (.goto 4, 3) := by decide +kernel
theorem dX7_best_34 : decode cX7_best 34 = .ok (.iconst 0, 1) := by decide +kernel
theorem dX7_best_35 : decode cX7_best 35 = .ok (.iconst 1, 1) := by decide +kernel
theorem dX7_best_36 : decode cX7_best 36 = .ok (.iconst 1, 1) := by decide +kernel
theorem dX7_best_37 : decode cX7_best 37 = .ok (.invokevirtual 346, 3) := by decide +kernel
theorem dX7_best_40 : decode cX7_best 40 = .ok (.ifCond .ne 5, 3) := by decide +kernel
theorem dX7_best_43 : decode cX7_best 43 = .ok (.lconst 0, 1) := by decide +kernel
theorem dX7_best_44 : decode cX7_best 44 = .ok (.lreturn, 1) := by decide +kernel
theorem dX7_best_45 : decode cX7_best 45 = .ok (.iconst (-1), 1) := by decide +kernel
theorem dX7_best_46 : decode cX7_best 46 = .ok (.istore_n 3, 1) := by decide +kernel
theorem dX7_best_47 : decode cX7_best 47 = .ok (.lconst 0, 1) := by decide +kernel
theorem dX7_best_48 : decode cX7_best 48 = .ok (.lstore 4, 2) := by decide +kernel
theorem dX7_best_50 : decode cX7_best 50 = .ok (.iconst 0, 1) := by decide +kernel
theorem dX7_best_51 : decode cX7_best 51 = .ok (.istore 6, 2) := by decide +kernel
theorem dX7_best_53 : decode cX7_best 53 = .ok (.iload 6, 2) := by decide +kernel
theorem dX7_best_55 : decode cX7_best 55 = .ok (.bipush 64, 2) := by decide +kernel
theorem dX7_best_57 : decode cX7_best 57 = .ok (.if_icmp .ge 57, 3) := by decide +kernel
theorem dX7_best_60 : decode cX7_best 60 = .ok (.aload_n 0, 1) := by decide +kernel
theorem dX7_best_61 : decode cX7_best 61 = .ok (.iload 6, 2) := by decide +kernel
theorem dX7_best_63 : decode cX7_best 63 = .ok (.bipush 16, 2) := by decide +kernel
theorem dX7_best_65 : decode cX7_best 65 = .ok (.idiv, 1) := by decide +kernel
theorem dX7_best_66 : decode cX7_best 66 = .ok (.iload 6, 2) := by decide +kernel
theorem dX7_best_68 : decode cX7_best 68 = .ok (.iconst 4, 1) := by decide +kernel
theorem dX7_best_69 : decode cX7_best 69 = .ok (.idiv, 1) := by decide +kernel
theorem dX7_best_70 : decode cX7_best 70 = .ok (.iconst 4, 1) := by decide +kernel
theorem dX7_best_71 : decode cX7_best 71 = .ok (.irem, 1) := by decide +kernel
theorem dX7_best_72 : decode cX7_best 72 = .ok (.iload 6, 2) := by decide +kernel
theorem dX7_best_74 : decode cX7_best 74 = .ok (.iconst 4, 1) := by decide +kernel
theorem dX7_best_75 : decode cX7_best 75 = .ok (.irem, 1) := by decide +kernel
theorem dX7_best_76 : decode cX7_best 76 = .ok (.invokevirtual 453, 3) := by decide +kernel
theorem dX7_best_79 : decode cX7_best 79 = .ok (.iload_n 3, 1) := by decide +kernel
theorem dX7_best_80 : decode cX7_best 80 = .ok (.iconst (-1), 1) := by decide +kernel
theorem dX7_best_81 : decode cX7_best 81 = .ok (.if_icmp .eq 17, 3) := by decide +kernel
theorem dX7_best_84 : decode cX7_best 84 = .ok (.aload_n 0, 1) := by decide +kernel
theorem dX7_best_85 : decode cX7_best 85 = .ok (.iload_n 1, 1) := by decide +kernel
theorem dX7_best_86 : decode cX7_best 86 = .ok (.invokevirtual 437, 3) := by decide +kernel
theorem dX7_best_89 : decode cX7_best 89 = .ok (.lload 4, 2) := by decide +kernel
theorem dX7_best_91 : decode cX7_best 91 = .ok (.lcmp, 1) := by decide +kernel
theorem dX7_best_92 : decode cX7_best 92 = .ok (.ifCond .lt 6, 3) := by decide +kernel
theorem dX7_best_95 : decode cX7_best 95 = .ok (.goto 13, 3) := by decide +kernel
theorem dX7_best_98 : decode cX7_best 98 = .ok (.iload 6, 2) := by decide +kernel
theorem dX7_best_100 : decode cX7_best 100 = .ok (.istore_n 3, 1) := by decide +kernel
theorem dX7_best_101 : decode cX7_best 101 = .ok (.aload_n 0, 1) := by decide +kernel
theorem dX7_best_102 : decode cX7_best 102 = .ok (.iload_n 1, 1) := by decide +kernel
theorem dX7_best_103 : decode cX7_best 103 = .ok (.invokevirtual 437, 3) := by decide +kernel
theorem dX7_best_106 : decode cX7_best 106 = .ok (.lstore 4, 2) := by decide +kernel
theorem dX7_best_108 : decode cX7_best 108 = .ok (.iinc 6 1, 3) := by decide +kernel
theorem dX7_best_111 : decode cX7_best 111 = .ok (.goto (-58), 3) := by decide +kernel
theorem dX7_best_114 : decode cX7_best 114 = .ok (.aload_n 0, 1) := by decide +kernel
theorem dX7_best_115 : decode cX7_best 115 = .ok (.invokevirtual 403, 3) := by decide +kernel
theorem dX7_best_118 : decode cX7_best 118 = .ok (.iload_n 2, 1) := by decide +kernel
theorem dX7_best_119 : decode cX7_best 119 = .ok (.ifCond .ne 11, 3) := by decide +kernel
theorem dX7_best_122 : decode cX7_best 122 = .ok (.iload_n 3, 1) := by decide +kernel
theorem dX7_best_123 : decode cX7_best 123 = .ok (.bipush 16, 2) := by decide +kernel
theorem dX7_best_125 : decode cX7_best 125 = .ok (.idiv, 1) := by decide +kernel
theorem dX7_best_126 : decode cX7_best 126 = .ok (.i2l, 1) := by decide +kernel
theorem dX7_best_127 : decode cX7_best 127 = .ok (.goto 31, 3) := by decide +kernel
theorem dX7_best_130 : decode cX7_best 130 = .ok (.iload_n 2, 1) := by decide +kernel
theorem dX7_best_131 : decode cX7_best 131 = .ok (.iconst 1, 1) := by decide +kernel
theorem dX7_best_132 : decode cX7_best 132 = .ok (.if_icmp .ne 12, 3) := by decide +kernel
theorem dX7_best_135 : decode cX7_best 135 = .ok (.iload_n 3, 1) := by decide +kernel
theorem dX7_best_136 : decode cX7_best 136 = .ok (.iconst 4, 1) := by decide +kernel
theorem dX7_best_137 : decode cX7_best 137 = .ok (.idiv, 1) := by decide +kernel
theorem dX7_best_138 : decode cX7_best 138 = .ok (.iconst 4, 1) := by decide +kernel
theorem dX7_best_139 : decode cX7_best 139 = .ok (.irem, 1) := by decide +kernel
theorem dX7_best_140 : decode cX7_best 140 = .ok (.i2l, 1) := by decide +kernel
theorem dX7_best_141 : decode cX7_best 141 = .ok (.goto 17, 3) := by decide +kernel
theorem dX7_best_144 : decode cX7_best 144 = .ok (.iload_n 2, 1) := by decide +kernel
theorem dX7_best_145 : decode cX7_best 145 = .ok (.iconst 2, 1) := by decide +kernel
theorem dX7_best_146 : decode cX7_best 146 = .ok (.if_icmp .ne 10, 3) := by decide +kernel
theorem dX7_best_149 : decode cX7_best 149 = .ok (.iload_n 3, 1) := by decide +kernel
theorem dX7_best_150 : decode cX7_best 150 = .ok (.iconst 4, 1) := by decide +kernel
theorem dX7_best_151 : decode cX7_best 151 = .ok (.irem, 1) := by decide +kernel
theorem dX7_best_152 : decode cX7_best 152 = .ok (.i2l, 1) := by decide +kernel
theorem dX7_best_153 : decode cX7_best 153 = .ok (.goto 5, 3) := by decide +kernel
theorem dX7_best_156 : decode cX7_best 156 = .ok (.lload 4, 2) := by decide +kernel
theorem dX7_best_158 : decode cX7_best 158 = .ok (.lreturn, 1) := by decide +kernel
theorem dX7_without_0 : decode cX7_without 0 = .ok (.aload_n 0, 1) := by decide +kernel
theorem dX7_without_1 : decode cX7_without 1 = .ok (.iconst 0, 1) := by decide +kernel
theorem dX7_without_2 : decode cX7_without 2 = .ok (.putfield 1, 3) := by decide +kernel
theorem dX7_without_5 : decode cX7_without 5 = .ok (.aload_n 0, 1) := by decide +kernel
theorem dX7_without_6 : decode cX7_without 6 = .ok (.iload_n 1, 1) := by decide +kernel
theorem dX7_without_7 : decode cX7_without 7 = .ok (.invokevirtual 413, 3) := by decide +kernel
theorem dX7_without_10 : decode cX7_without 10 = .ok (.ifCond .eq 12, 3) := by decide +kernel
theorem dX7_without_13 : decode cX7_without 13 = .ok (.aload_n 0, 1) := by decide +kernel
theorem dX7_without_14 : decode cX7_without 14 = .ok (.iload_n 2, 1) := by decide +kernel
theorem dX7_without_15 : decode cX7_without 15 = .ok (.iconst 2, 1) := by decide +kernel
theorem dX7_without_16 : decode cX7_without 16 = .ok (.invokevirtual 459, 3) := by decide +kernel
theorem dX7_without_19 : decode cX7_without 19 = .ok (.ifCond .ne 5, 3) := by decide +kernel
theorem dX7_without_22 : decode cX7_without 22 = .ok (.lconst 0, 1) := by decide +kernel
theorem dX7_without_23 : decode cX7_without 23 = .ok (.lreturn, 1) := by decide +kernel
theorem dX7_without_24 : decode cX7_without 24 = .ok (.aload_n 0, 1) := by decide +kernel
theorem dX7_without_25 : decode cX7_without 25 = .ok (.iload_n 1, 1) := by decide +kernel
theorem dX7_without_26 : decode cX7_without 26 = .ok (.invokevirtual 462, 3) := by decide +kernel
theorem dX7_without_29 : decode cX7_without 29 = .ok (.aload_n 0, 1) := by decide +kernel
theorem dX7_without_30 : decode cX7_without 30 = .ok (.iload_n 2, 1) := by decide +kernel
theorem dX7_without_31 : decode cX7_without 31 = .ok (.invokevirtual 456, 3) := by decide +kernel
theorem dX7_without_34 : decode cX7_without 34 = .ok (.lreturn, 1) := by decide +kernel
theorem dX7_undone_0 : decode cX7_undone 0 = .ok (.aload_n 0, 1) := by decide +kernel
theorem dX7_undone_1 : decode cX7_undone 1 = .ok (.iconst 0, 1) := by decide +kernel
theorem dX7_undone_2 : decode cX7_undone 2 = .ok (.putfield 1, 3) := by decide +kernel
theorem dX7_undone_5 : decode cX7_undone 5 = .ok (.aload_n 0, 1) := by decide +kernel
theorem dX7_undone_6 : decode cX7_undone 6 = .ok (.iload_n 1, 1) := by decide +kernel
theorem dX7_undone_7 : decode cX7_undone 7 = .ok (.invokevirtual 413, 3) := by decide +kernel
theorem dX7_undone_10 : decode cX7_undone 10 = .ok (.ifCond .ne 5, 3) := by decide +kernel
theorem dX7_undone_13 : decode cX7_undone 13 = .ok (.iconst 0, 1) := by decide +kernel
theorem dX7_undone_14 : decode cX7_undone 14 = .ok (.ireturn, 1) := by decide +kernel
theorem dX7_undone_15 : decode cX7_undone 15 = .ok (.aload_n 0, 1) := by decide +kernel
theorem dX7_undone_16 : decode cX7_undone 16 = .ok (.iload_n 1, 1) := by decide +kernel
theorem dX7_undone_17 : decode cX7_undone 17 = .ok (.invokevirtual 462, 3) := by decide +kernel
theorem dX7_undone_20 : decode cX7_undone 20 = .ok (.aload_n 0, 1) := by decide +kernel
theorem dX7_undone_21 : decode cX7_undone 21 = .ok (.getfield 334, 3) := by decide +kernel
theorem dX7_undone_24 : decode cX7_undone 24 = .ok (.istore_n 2, 1) := by decide +kernel
theorem dX7_undone_25 : decode cX7_undone 25 = .ok (.aload_n 0, 1) := by decide +kernel
theorem dX7_undone_26 : decode cX7_undone 26 = .ok (.invokevirtual 403, 3) := by decide +kernel
theorem dX7_undone_29 : decode cX7_undone 29 = .ok (.iload_n 2, 1) := by decide +kernel
theorem dX7_undone_30 : decode cX7_undone 30 = .ok (.ireturn, 1) := by decide +kernel
theorem dX7_shift_0 : decode cX7_shift 0 = .ok (.aload_n 0, 1) := by decide +kernel
theorem dX7_shift_1 : decode cX7_shift 1 = .ok (.iconst 0, 1) := by decide +kernel
theorem dX7_shift_2 : decode cX7_shift 2 = .ok (.putfield 1, 3) := by decide +kernel
theorem dX7_shift_5 : decode cX7_shift 5 = .ok (.aload_n 0, 1) := by decide +kernel
theorem dX7_shift_6 : decode cX7_shift 6 = .ok (.iload_n 1, 1) := by decide +kernel
theorem dX7_shift_7 : decode cX7_shift 7 = .ok (.invokevirtual 413, 3) := by decide +kernel
theorem dX7_shift_10 : decode cX7_shift 10 = .ok (.ifCond .eq 43, 3) := by decide +kernel
theorem dX7_shift_13 : decode cX7_shift 13 = .ok (.aload_n 0, 1) := by decide +kernel
theorem dX7_shift_14 : decode cX7_shift 14 = .ok (.iload_n 2, 1) := by decide +kernel
theorem dX7_shift_15 : decode cX7_shift 15 = .ok (.i2l, 1) := by decide +kernel
theorem dX7_shift_16 : decode cX7_shift 16 = .ok (.lconst 0, 1) := by decide +kernel
theorem dX7_shift_17 : decode cX7_shift 17 = .ok (.aload_n 0, 1) := by decide +kernel
theorem dX7_shift_18 : decode cX7_shift 18 = .ok (.getfield 17, 3) := by decide +kernel
theorem dX7_shift_21 : decode cX7_shift 21 = .ok (.i2l, 1) := by decide +kernel
theorem dX7_shift_22 : decode cX7_shift 22 = .ok (.invokestatic 352, 3) := by decide +kernel
theorem dX7_shift_25 : decode cX7_shift 25 = .ok (.ifCond .eq 19, 3) := by decide +kernel
theorem dX7_shift_28 : decode cX7_shift 28 = .ok (.iload_n 3, 1) := by decide +kernel
theorem dX7_shift_29 : decode cX7_shift 29 = .ok (.i2l, 1) := by decide +kernel
theorem dX7_shift_30 : decode cX7_shift 30 = .ok (.lconst 0, 1) := by decide +kernel
theorem dX7_shift_31 : decode cX7_shift 31 = .ok (.ldc2_w 377, 3) := by decide +kernel
theorem dX7_shift_34 : decode cX7_shift 34 = .ok (.invokestatic 352, 3) := by decide +kernel
theorem dX7_shift_37 : decode cX7_shift 37 = .ok (.ifCond .eq 7, 3) := by decide +kernel
theorem dX7_shift_40 : decode cX7_shift 40 = .ok (.iconst 1, 1) := by decide +kernel
theorem dX7_shift_41 : decode cX7_shift 41 = .ok (.goto 4, 3) := by decide +kernel
theorem dX7_shift_44 : decode cX7_shift 44 = .ok (.iconst 0, 1) := by decide +kernel
theorem dX7_shift_45 : decode cX7_shift 45 = .ok (.iconst 2, 1) := by decide +kernel
theorem dX7_shift_46 : decode cX7_shift 46 = .ok (.iconst 1, 1) := by decide +kernel
theorem dX7_shift_47 : decode cX7_shift 47 = .ok (.invokevirtual 346, 3) := by decide +kernel
theorem dX7_shift_50 : decode cX7_shift 50 = .ok (.ifCond .ne 5, 3) := by decide +kernel
theorem dX7_shift_53 : decode cX7_shift 53 = .ok (.lconst 0, 1) := by decide +kernel
theorem dX7_shift_54 : decode cX7_shift 54 = .ok (.lreturn, 1) := by decide +kernel
theorem dX7_shift_55 : decode cX7_shift 55 = .ok (.aload_n 0, 1) := by decide +kernel
theorem dX7_shift_56 : decode cX7_shift 56 = .ok (.invokevirtual 340, 3) := by decide +kernel
theorem dX7_shift_59 : decode cX7_shift 59 = .ok (.iconst 0, 1) := by decide +kernel
theorem dX7_shift_60 : decode cX7_shift 60 = .ok (.istore 4, 2) := by decide +kernel
theorem dX7_shift_62 : decode cX7_shift 62 = .ok (.iload 4, 2) := by decide +kernel
theorem dX7_shift_64 : decode cX7_shift 64 = .ok (.aload_n 0, 1) := by decide +kernel
theorem dX7_shift_65 : decode cX7_shift 65 = .ok (.getfield 17, 3) := by decide +kernel
theorem dX7_shift_68 : decode cX7_shift 68 = .ok (.if_icmp .gt 41, 3) := by decide +kernel
theorem dX7_shift_71 : decode cX7_shift 71 = .ok (.iload 4, 2) := by decide +kernel
theorem dX7_shift_73 : decode cX7_shift 73 = .ok (.iload_n 2, 1) := by decide +kernel
theorem dX7_shift_74 : decode cX7_shift 74 = .ok (.if_icmp .ne 8, 3) := by decide +kernel
theorem dX7_shift_77 : decode cX7_shift 77 = .ok (.aload_n 0, 1) := by decide +kernel
theorem dX7_shift_78 : decode cX7_shift 78 = .ok (.iload_n 1, 1) := by decide +kernel
theorem dX7_shift_79 : decode cX7_shift 79 = .ok (.invokevirtual 343, 3) := by decide +kernel
theorem dX7_shift_82 : decode cX7_shift 82 = .ok (.iload 4, 2) := by decide +kernel
theorem dX7_shift_84 : decode cX7_shift 84 = .ok (.aload_n 0, 1) := by decide +kernel
theorem dX7_shift_85 : decode cX7_shift 85 = .ok (.getfield 17, 3) := by decide +kernel
theorem dX7_shift_88 : decode cX7_shift 88 = .ok (.if_icmp .ge 15, 3) := by decide +kernel
theorem dX7_shift_91 : decode cX7_shift 91 = .ok (.iload 4, 2) := by decide +kernel
theorem dX7_shift_93 : decode cX7_shift 93 = .ok (.iload_n 1, 1) := by decide +kernel
theorem dX7_shift_94 : decode cX7_shift 94 = .ok (.if_icmp .eq 9, 3) := by decide +kernel
theorem dX7_shift_97 : decode cX7_shift 97 = .ok (.aload_n 0, 1) := by decide +kernel
theorem dX7_shift_98 : decode cX7_shift 98 = .ok (.iload 4, 2) := by decide +kernel
theorem dX7_shift_100 : decode cX7_shift 100 = .ok (.invokevirtual 343, 3) := by decide +kernel
theorem dX7_shift_103 : decode cX7_shift 103 = .ok (.iinc 4 1, 3) := by decide +kernel
theorem dX7_shift_106 : decode cX7_shift 106 = .ok (.goto (-44), 3) := by decide +kernel
theorem dX7_shift_109 : decode cX7_shift 109 = .ok (.aload_n 0, 1) := by decide +kernel
theorem dX7_shift_110 : decode cX7_shift 110 = .ok (.iload_n 3, 1) := by decide +kernel
theorem dX7_shift_111 : decode cX7_shift 111 = .ok (.invokevirtual 456, 3) := by decide +kernel
theorem dX7_shift_114 : decode cX7_shift 114 = .ok (.lreturn, 1) := by decide +kernel
theorem dX7_after_0 : decode cX7_after 0 = .ok (.aload_n 0, 1) := by decide +kernel
theorem dX7_after_1 : decode cX7_after 1 = .ok (.iconst 0, 1) := by decide +kernel
theorem dX7_after_2 : decode cX7_after 2 = .ok (.putfield 1, 3) := by decide +kernel
theorem dX7_after_5 : decode cX7_after 5 = .ok (.aload_n 0, 1) := by decide +kernel
theorem dX7_after_6 : decode cX7_after 6 = .ok (.iload_n 1, 1) := by decide +kernel
theorem dX7_after_7 : decode cX7_after 7 = .ok (.invokevirtual 413, 3) := by decide +kernel
theorem dX7_after_10 : decode cX7_after 10 = .ok (.ifCond .eq 12, 3) := by decide +kernel
theorem dX7_after_13 : decode cX7_after 13 = .ok (.aload_n 0, 1) := by decide +kernel
theorem dX7_after_14 : decode cX7_after 14 = .ok (.iload_n 2, 1) := by decide +kernel
theorem dX7_after_15 : decode cX7_after 15 = .ok (.iconst 2, 1) := by decide +kernel
theorem dX7_after_16 : decode cX7_after 16 = .ok (.invokevirtual 459, 3) := by decide +kernel
theorem dX7_after_19 : decode cX7_after 19 = .ok (.ifCond .ne 5, 3) := by decide +kernel
theorem dX7_after_22 : decode cX7_after 22 = .ok (.lconst 0, 1) := by decide +kernel
theorem dX7_after_23 : decode cX7_after 23 = .ok (.lreturn, 1) := by decide +kernel
theorem dX7_after_24 : decode cX7_after 24 = .ok (.aload_n 0, 1) := by decide +kernel
theorem dX7_after_25 : decode cX7_after 25 = .ok (.invokevirtual 340, 3) := by decide +kernel
theorem dX7_after_28 : decode cX7_after 28 = .ok (.iconst 0, 1) := by decide +kernel
theorem dX7_after_29 : decode cX7_after 29 = .ok (.istore_n 3, 1) := by decide +kernel
theorem dX7_after_30 : decode cX7_after 30 = .ok (.iload_n 3, 1) := by decide +kernel
theorem dX7_after_31 : decode cX7_after 31 = .ok (.iload_n 1, 1) := by decide +kernel
theorem dX7_after_32 : decode cX7_after 32 = .ok (.if_icmp .gt 14, 3) := by decide +kernel
theorem dX7_after_35 : decode cX7_after 35 = .ok (.aload_n 0, 1) := by decide +kernel
theorem dX7_after_36 : decode cX7_after 36 = .ok (.iload_n 3, 1) := by decide +kernel
theorem dX7_after_37 : decode cX7_after 37 = .ok (.invokevirtual 343, 3) := by decide +kernel
theorem dX7_after_40 : decode cX7_after 40 = .ok (.iinc 3 1, 3) := by decide +kernel
theorem dX7_after_43 : decode cX7_after 43 = .ok (.goto (-13), 3) := by decide +kernel
theorem dX7_after_46 : decode cX7_after 46 = .ok (.aload_n 0, 1) := by decide +kernel
theorem dX7_after_47 : decode cX7_after 47 = .ok (.iload_n 2, 1) := by decide +kernel
theorem dX7_after_48 : decode cX7_after 48 = .ok (.invokevirtual 456, 3) := by decide +kernel
theorem dX7_after_51 : decode cX7_after 51 = .ok (.lreturn, 1) := by decide +kernel
theorem dX7_usedUp_0 : decode cX7_usedUp 0 = .ok (.aload_n 0, 1) := by decide +kernel
theorem dX7_usedUp_1 : decode cX7_usedUp 1 = .ok (.iconst 0, 1) := by decide +kernel
theorem dX7_usedUp_2 : decode cX7_usedUp 2 = .ok (.putfield 1, 3) := by decide +kernel
theorem dX7_usedUp_5 : decode cX7_usedUp 5 = .ok (.aload_n 0, 1) := by decide +kernel
theorem dX7_usedUp_6 : decode cX7_usedUp 6 = .ok (.iload_n 1, 1) := by decide +kernel
theorem dX7_usedUp_7 : decode cX7_usedUp 7 = .ok (.iconst 1, 1) := by decide +kernel
theorem dX7_usedUp_8 : decode cX7_usedUp 8 = .ok (.invokevirtual 374, 3) := by decide +kernel
theorem dX7_usedUp_11 : decode cX7_usedUp 11 = .ok (.ifCond .ne 5, 3) := by decide +kernel
theorem dX7_usedUp_14 : decode cX7_usedUp 14 = .ok (.iconst 0, 1) := by decide +kernel
theorem dX7_usedUp_15 : decode cX7_usedUp 15 = .ok (.ireturn, 1) := by decide +kernel
theorem dX7_usedUp_16 : decode cX7_usedUp 16 = .ok (.iconst (-1), 1) := by decide +kernel
theorem dX7_usedUp_17 : decode cX7_usedUp 17 = .ok (.istore_n 2, 1) := by decide +kernel
theorem dX7_usedUp_18 : decode cX7_usedUp 18 = .ok (.aload_n 0, 1) := by decide +kernel
theorem dX7_usedUp_19 : decode cX7_usedUp 19 = .ok (.invokevirtual 340, 3) := by decide +kernel
theorem dX7_usedUp_22 : decode cX7_usedUp 22 = .ok (.iconst 0, 1) := by decide +kernel
theorem dX7_usedUp_23 : decode cX7_usedUp 23 = .ok (.istore_n 3, 1) := by decide +kernel
theorem dX7_usedUp_24 : decode cX7_usedUp 24 = .ok (.iload_n 3, 1) := by decide +kernel
theorem dX7_usedUp_25 : decode cX7_usedUp 25 = .ok (.aload_n 0, 1) := by decide +kernel
theorem dX7_usedUp_26 : decode cX7_usedUp 26 = .ok (.getfield 17, 3) := by decide +kernel
theorem dX7_usedUp_29 : decode cX7_usedUp 29 = .ok (.if_icmp .ge 40, 3) := by decide +kernel
theorem dX7_usedUp_32 : decode cX7_usedUp 32 = .ok (.aload_n 0, 1) := by decide +kernel
theorem dX7_usedUp_33 : decode cX7_usedUp 33 = .ok (.iload_n 3, 1) := by decide +kernel
theorem dX7_usedUp_34 : decode cX7_usedUp 34 = .ok (.invokevirtual 343, 3) := by decide +kernel
theorem dX7_usedUp_37 : decode cX7_usedUp 37 = .ok (.iload_n 2, 1) := by decide +kernel
theorem dX7_usedUp_38 : decode cX7_usedUp 38 = .ok (.iconst (-1), 1) := by decide +kernel
theorem dX7_usedUp_39 : decode cX7_usedUp 39 = .ok (.if_icmp .ne 24, 3) := by decide +kernel
theorem dX7_usedUp_42 : decode cX7_usedUp 42 = .ok (.aload_n 0, 1) := by decide +kernel
theorem dX7_usedUp_43 : decode cX7_usedUp 43 = .ok (.getfield 29, 3) := by decide +kernel
theorem dX7_usedUp_46 : decode cX7_usedUp 46 = .ok (.iload_n 1, 1) := by decide +kernel
theorem dX7_usedUp_47 : decode cX7_usedUp 47 = .ok (.baload, 1) := by decide +kernel
theorem dX7_usedUp_48 : decode cX7_usedUp 48 = .ok (.ifCond .eq 15, 3) := by decide +kernel
theorem dX7_usedUp_51 : decode cX7_usedUp 51 = .ok (.aload_n 0, 1) := by decide +kernel
theorem dX7_usedUp_52 : decode cX7_usedUp 52 = .ok (.iload_n 1, 1) := by decide +kernel
theorem dX7_usedUp_53 : decode cX7_usedUp 53 = .ok (.invokevirtual 175, 3) := by decide +kernel
theorem dX7_usedUp_56 : decode cX7_usedUp 56 = .ok (.lconst 0, 1) := by decide +kernel
theorem dX7_usedUp_57 : decode cX7_usedUp 57 = .ok (.lcmp, 1) := by decide +kernel
theorem dX7_usedUp_58 : decode cX7_usedUp 58 = .ok (.ifCond .ne 5, 3) := by decide +kernel
theorem dX7_usedUp_61 : decode cX7_usedUp 61 = .ok (.iload_n 3, 1) := by decide +kernel
theorem dX7_usedUp_62 : decode cX7_usedUp 62 = .ok (.istore_n 2, 1) := by decide +kernel
theorem dX7_usedUp_63 : decode cX7_usedUp 63 = .ok (.iinc 3 1, 3) := by decide +kernel
theorem dX7_usedUp_66 : decode cX7_usedUp 66 = .ok (.goto (-42), 3) := by decide +kernel
theorem dX7_usedUp_69 : decode cX7_usedUp 69 = .ok (.iload_n 2, 1) := by decide +kernel
theorem dX7_usedUp_70 : decode cX7_usedUp 70 = .ok (.ireturn, 1) := by decide +kernel
theorem dX7_isOf_0 : decode cX7_isOf 0 = .ok (.aload_n 0, 1) := by decide +kernel
theorem dX7_isOf_1 : decode cX7_isOf 1 = .ok (.getfield 14, 3) := by decide +kernel
theorem dX7_isOf_4 : decode cX7_isOf 4 = .ok (.iload_n 1, 1) := by decide +kernel
theorem dX7_isOf_5 : decode cX7_isOf 5 = .ok (.iaload, 1) := by decide +kernel
theorem dX7_isOf_6 : decode cX7_isOf 6 = .ok (.iconst 4, 1) := by decide +kernel
theorem dX7_isOf_7 : decode cX7_isOf 7 = .ok (.if_icmp .ne 21, 3) := by decide +kernel
theorem dX7_isOf_10 : decode cX7_isOf 10 = .ok (.aload_n 0, 1) := by decide +kernel
theorem dX7_isOf_11 : decode cX7_isOf 11 = .ok (.getfield 20, 3) := by decide +kernel
theorem dX7_isOf_14 : decode cX7_isOf 14 = .ok (.iload_n 1, 1) := by decide +kernel
theorem dX7_isOf_15 : decode cX7_isOf 15 = .ok (.iaload, 1) := by decide +kernel
theorem dX7_isOf_16 : decode cX7_isOf 16 = .ok (.iload_n 2, 1) := by decide +kernel
theorem dX7_isOf_17 : decode cX7_isOf 17 = .ok (.if_icmp .ne 7, 3) := by decide +kernel
theorem dX7_isOf_20 : decode cX7_isOf 20 = .ok (.iconst 1, 1) := by decide +kernel
theorem dX7_isOf_21 : decode cX7_isOf 21 = .ok (.goto 43, 3) := by decide +kernel
theorem dX7_isOf_24 : decode cX7_isOf 24 = .ok (.iconst 0, 1) := by decide +kernel
theorem dX7_isOf_25 : decode cX7_isOf 25 = .ok (.goto 39, 3) := by decide +kernel
theorem dX7_isOf_28 : decode cX7_isOf 28 = .ok (.aload_n 0, 1) := by decide +kernel
theorem dX7_isOf_29 : decode cX7_isOf 29 = .ok (.getfield 14, 3) := by decide +kernel
theorem dX7_isOf_32 : decode cX7_isOf 32 = .ok (.iload_n 1, 1) := by decide +kernel
theorem dX7_isOf_33 : decode cX7_isOf 33 = .ok (.iaload, 1) := by decide +kernel
theorem dX7_isOf_34 : decode cX7_isOf 34 = .ok (.iconst 5, 1) := by decide +kernel
theorem dX7_isOf_35 : decode cX7_isOf 35 = .ok (.if_icmp .eq 14, 3) := by decide +kernel
theorem dX7_isOf_38 : decode cX7_isOf 38 = .ok (.aload_n 0, 1) := by decide +kernel
theorem dX7_isOf_39 : decode cX7_isOf 39 = .ok (.getfield 14, 3) := by decide +kernel
theorem dX7_isOf_42 : decode cX7_isOf 42 = .ok (.iload_n 1, 1) := by decide +kernel
theorem dX7_isOf_43 : decode cX7_isOf 43 = .ok (.iaload, 1) := by decide +kernel
theorem dX7_isOf_44 : decode cX7_isOf 44 = .ok (.bipush 8, 2) := by decide +kernel
theorem dX7_isOf_46 : decode cX7_isOf 46 = .ok (.if_icmp .ne 17, 3) := by decide +kernel
theorem dX7_isOf_49 : decode cX7_isOf 49 = .ok (.aload_n 0, 1) := by decide +kernel
theorem dX7_isOf_50 : decode cX7_isOf 50 = .ok (.iload_n 1, 1) := by decide +kernel
theorem dX7_isOf_51 : decode cX7_isOf 51 = .ok (.iconst 0, 1) := by decide +kernel
theorem dX7_isOf_52 : decode cX7_isOf 52 = .ok (.invokevirtual 289, 3) := by decide +kernel
theorem dX7_isOf_55 : decode cX7_isOf 55 = .ok (.iload_n 2, 1) := by decide +kernel
theorem dX7_isOf_56 : decode cX7_isOf 56 = .ok (.if_icmp .ne 7, 3) := by decide +kernel
theorem dX7_isOf_59 : decode cX7_isOf 59 = .ok (.iconst 1, 1) := by decide +kernel
theorem dX7_isOf_60 : decode cX7_isOf 60 = .ok (.goto 4, 3) := by decide +kernel
theorem dX7_isOf_63 : decode cX7_isOf 63 = .ok (.iconst 0, 1) := by decide +kernel
theorem dX7_isOf_64 : decode cX7_isOf 64 = .ok (.ireturn, 1) := by decide +kernel
theorem dX7_heaviest_0 : decode cX7_heaviest 0 = .ok (.aload_n 0, 1) := by decide +kernel
theorem dX7_heaviest_1 : decode cX7_heaviest 1 = .ok (.iconst 0, 1) := by decide +kernel
theorem dX7_heaviest_2 : decode cX7_heaviest 2 = .ok (.putfield 1, 3) := by decide +kernel
theorem dX7_heaviest_5 : decode cX7_heaviest 5 = .ok (.aload_n 0, 1) := by decide +kernel
theorem dX7_heaviest_6 : decode cX7_heaviest 6 = .ok (.iload_n 1, 1) := by decide +kernel
theorem dX7_heaviest_7 : decode cX7_heaviest 7 = .ok (.i2l, 1) := by decide +kernel
theorem dX7_heaviest_8 : decode cX7_heaviest 8 = .ok (.lconst 0, 1) := by decide +kernel
theorem dX7_heaviest_9 : decode cX7_heaviest 9 = .ok (.ldc2_w 377, 3) := by decide +kernel
theorem dX7_heaviest_12 : decode cX7_heaviest 12 = .ok (.invokestatic 352, 3) := by decide +kernel
theorem dX7_heaviest_15 : decode cX7_heaviest 15 = .ok (.ifCond .eq 17, 3) := by decide +kernel
theorem dX7_heaviest_18 : decode cX7_heaviest 18 = .ok (.iload_n 2, 1) := by decide +kernel
theorem dX7_heaviest_19 : decode cX7_heaviest 19 = .ok (.i2l, 1) := by decide +kernel
theorem dX7_heaviest_20 : decode cX7_heaviest 20 = .ok (.lconst 0, 1) := by decide +kernel
theorem dX7_heaviest_21 : decode cX7_heaviest 21 = .ok (.lconst 1, 1) := by decide +kernel
theorem dX7_heaviest_22 : decode cX7_heaviest 22 = .ok (.invokestatic 352, 3) := by decide +kernel
theorem dX7_heaviest_25 : decode cX7_heaviest 25 = .ok (.ifCond .eq 7, 3) := by decide +kernel
theorem dX7_heaviest_28 : decode cX7_heaviest 28 = .ok (.iconst 1, 1) := by decide +kernel
theorem dX7_heaviest_29 : decode cX7_heaviest 29 = .ok (.goto 4, 3) := by decide +kernel
theorem dX7_heaviest_32 : decode cX7_heaviest 32 = .ok (.iconst 0, 1) := by decide +kernel
theorem dX7_heaviest_33 : decode cX7_heaviest 33 = .ok (.iconst 1, 1) := by decide +kernel
theorem dX7_heaviest_34 : decode cX7_heaviest 34 = .ok (.iconst 1, 1) := by decide +kernel
theorem dX7_heaviest_35 : decode cX7_heaviest 35 = .ok (.invokevirtual 346, 3) := by decide +kernel
theorem dX7_heaviest_38 : decode cX7_heaviest 38 = .ok (.ifCond .ne 5, 3) := by decide +kernel
theorem dX7_heaviest_41 : decode cX7_heaviest 41 = .ok (.lconst 0, 1) := by decide +kernel
theorem dX7_heaviest_42 : decode cX7_heaviest 42 = .ok (.lreturn, 1) := by decide +kernel
theorem dX7_heaviest_43 : decode cX7_heaviest 43 = .ok (.iconst (-1), 1) := by decide +kernel
theorem dX7_heaviest_44 : decode cX7_heaviest 44 = .ok (.istore_n 3, 1) := by decide +kernel
theorem dX7_heaviest_45 : decode cX7_heaviest 45 = .ok (.lconst 0, 1) := by decide +kernel
theorem dX7_heaviest_46 : decode cX7_heaviest 46 = .ok (.lstore 4, 2) := by decide +kernel
theorem dX7_heaviest_48 : decode cX7_heaviest 48 = .ok (.iconst 0, 1) := by decide +kernel
theorem dX7_heaviest_49 : decode cX7_heaviest 49 = .ok (.istore 6, 2) := by decide +kernel
theorem dX7_heaviest_51 : decode cX7_heaviest 51 = .ok (.iload 6, 2) := by decide +kernel
theorem dX7_heaviest_53 : decode cX7_heaviest 53 = .ok (.aload_n 0, 1) := by decide +kernel
theorem dX7_heaviest_54 : decode cX7_heaviest 54 = .ok (.iconst 4, 1) := by decide +kernel
theorem dX7_heaviest_55 : decode cX7_heaviest 55 = .ok (.invokevirtual 362, 3) := by decide +kernel
theorem dX7_heaviest_58 : decode cX7_heaviest 58 = .ok (.if_icmp .ge 77, 3) := by decide +kernel
theorem dX7_heaviest_61 : decode cX7_heaviest 61 = .ok (.aload_n 0, 1) := by decide +kernel
theorem dX7_heaviest_62 : decode cX7_heaviest 62 = .ok (.invokevirtual 340, 3) := by decide +kernel
theorem dX7_heaviest_65 : decode cX7_heaviest 65 = .ok (.iconst 0, 1) := by decide +kernel
theorem dX7_heaviest_66 : decode cX7_heaviest 66 = .ok (.istore 7, 2) := by decide +kernel
theorem dX7_heaviest_68 : decode cX7_heaviest 68 = .ok (.iload 7, 2) := by decide +kernel
theorem dX7_heaviest_70 : decode cX7_heaviest 70 = .ok (.aload_n 0, 1) := by decide +kernel
theorem dX7_heaviest_71 : decode cX7_heaviest 71 = .ok (.getfield 17, 3) := by decide +kernel
theorem dX7_heaviest_74 : decode cX7_heaviest 74 = .ok (.if_icmp .ge 26, 3) := by decide +kernel
theorem dX7_heaviest_77 : decode cX7_heaviest 77 = .ok (.aload_n 0, 1) := by decide +kernel
theorem dX7_heaviest_78 : decode cX7_heaviest 78 = .ok (.iload 7, 2) := by decide +kernel
theorem dX7_heaviest_80 : decode cX7_heaviest 80 = .ok (.iload 6, 2) := by decide +kernel
theorem dX7_heaviest_82 : decode cX7_heaviest 82 = .ok (.invokevirtual 465, 3) := by decide +kernel
theorem dX7_heaviest_85 : decode cX7_heaviest 85 = .ok (.ifCond .ne 9, 3) := by decide +kernel
theorem dX7_heaviest_88 : decode cX7_heaviest 88 = .ok (.aload_n 0, 1) := by decide +kernel
theorem dX7_heaviest_89 : decode cX7_heaviest 89 = .ok (.iload 7, 2) := by decide +kernel
theorem dX7_heaviest_91 : decode cX7_heaviest 91 = .ok (.invokevirtual 343, 3) := by decide +kernel
theorem dX7_heaviest_94 : decode cX7_heaviest 94 = .ok (.iinc 7 1, 3) := by decide +kernel
theorem dX7_heaviest_97 : decode cX7_heaviest 97 = .ok (.goto (-29), 3) := by decide +kernel
theorem dX7_heaviest_100 : decode cX7_heaviest 100 = .ok (.iload_n 3, 1) := by decide +kernel
theorem dX7_heaviest_101 : decode cX7_heaviest 101 = .ok (.iconst (-1), 1) := by decide +kernel
theorem dX7_heaviest_102 : decode cX7_heaviest 102 = .ok (.if_icmp .eq 17, 3) := by decide +kernel
theorem dX7_heaviest_105 : decode cX7_heaviest 105 = .ok (.aload_n 0, 1) := by decide +kernel
theorem dX7_heaviest_106 : decode cX7_heaviest 106 = .ok (.iload_n 1, 1) := by decide +kernel
theorem dX7_heaviest_107 : decode cX7_heaviest 107 = .ok (.invokevirtual 437, 3) := by decide +kernel
theorem dX7_heaviest_110 : decode cX7_heaviest 110 = .ok (.lload 4, 2) := by decide +kernel
theorem dX7_heaviest_112 : decode cX7_heaviest 112 = .ok (.lcmp, 1) := by decide +kernel
theorem dX7_heaviest_113 : decode cX7_heaviest 113 = .ok (.ifCond .lt 6, 3) := by decide +kernel
theorem dX7_heaviest_116 : decode cX7_heaviest 116 = .ok (.goto 13, 3) := by decide +kernel
theorem dX7_heaviest_119 : decode cX7_heaviest 119 = .ok (.iload 6, 2) := by decide +kernel
theorem dX7_heaviest_121 : decode cX7_heaviest 121 = .ok (.istore_n 3, 1) := by decide +kernel
theorem dX7_heaviest_122 : decode cX7_heaviest 122 = .ok (.aload_n 0, 1) := by decide +kernel
theorem dX7_heaviest_123 : decode cX7_heaviest 123 = .ok (.iload_n 1, 1) := by decide +kernel
theorem dX7_heaviest_124 : decode cX7_heaviest 124 = .ok (.invokevirtual 437, 3) := by decide +kernel
theorem dX7_heaviest_127 : decode cX7_heaviest 127 = .ok (.lstore 4, 2) := by decide +kernel
theorem dX7_heaviest_129 : decode cX7_heaviest 129 = .ok (.iinc 6 1, 3) := by decide +kernel
theorem dX7_heaviest_132 : decode cX7_heaviest 132 = .ok (.goto (-81), 3) := by decide +kernel
theorem dX7_heaviest_135 : decode cX7_heaviest 135 = .ok (.aload_n 0, 1) := by decide +kernel
theorem dX7_heaviest_136 : decode cX7_heaviest 136 = .ok (.invokevirtual 403, 3) := by decide +kernel
theorem dX7_heaviest_139 : decode cX7_heaviest 139 = .ok (.iload_n 2, 1) := by decide +kernel
theorem dX7_heaviest_140 : decode cX7_heaviest 140 = .ok (.ifCond .ne 8, 3) := by decide +kernel
theorem dX7_heaviest_143 : decode cX7_heaviest 143 = .ok (.iload_n 3, 1) := by decide +kernel
theorem dX7_heaviest_144 : decode cX7_heaviest 144 = .ok (.i2l, 1) := by decide +kernel
theorem dX7_heaviest_145 : decode cX7_heaviest 145 = .ok (.goto 5, 3) := by decide +kernel
theorem dX7_heaviest_148 : decode cX7_heaviest 148 = .ok (.lload 4, 2) := by decide +kernel
theorem dX7_heaviest_150 : decode cX7_heaviest 150 = .ok (.lreturn, 1) := by decide +kernel
theorem dX7_spared_0 : decode cX7_spared 0 = .ok (.aload_n 0, 1) := by decide +kernel
theorem dX7_spared_1 : decode cX7_spared 1 = .ok (.iconst 0, 1) := by decide +kernel
theorem dX7_spared_2 : decode cX7_spared 2 = .ok (.putfield 1, 3) := by decide +kernel
theorem dX7_spared_5 : decode cX7_spared 5 = .ok (.aload_n 0, 1) := by decide +kernel
theorem dX7_spared_6 : decode cX7_spared 6 = .ok (.iload_n 1, 1) := by decide +kernel
theorem dX7_spared_7 : decode cX7_spared 7 = .ok (.i2l, 1) := by decide +kernel
theorem dX7_spared_8 : decode cX7_spared 8 = .ok (.lconst 1, 1) := by decide +kernel
theorem dX7_spared_9 : decode cX7_spared 9 = .ok (.ldc2_w 377, 3) := by decide +kernel
theorem dX7_spared_12 : decode cX7_spared 12 = .ok (.invokestatic 352, 3) := by decide +kernel
theorem dX7_spared_15 : decode cX7_spared 15 = .ok (.iconst 1, 1) := by decide +kernel
theorem dX7_spared_16 : decode cX7_spared 16 = .ok (.iconst 1, 1) := by decide +kernel
theorem dX7_spared_17 : decode cX7_spared 17 = .ok (.invokevirtual 346, 3) := by decide +kernel
theorem dX7_spared_20 : decode cX7_spared 20 = .ok (.ifCond .ne 5, 3) := by decide +kernel
theorem dX7_spared_23 : decode cX7_spared 23 = .ok (.lconst 0, 1) := by decide +kernel
theorem dX7_spared_24 : decode cX7_spared 24 = .ok (.lreturn, 1) := by decide +kernel
theorem dX7_spared_25 : decode cX7_spared 25 = .ok (.aload_n 0, 1) := by decide +kernel
theorem dX7_spared_26 : decode cX7_spared 26 = .ok (.getfield 94, 3) := by decide +kernel
theorem dX7_spared_29 : decode cX7_spared 29 = .ok (.iload_n 1, 1) := by decide +kernel
theorem dX7_spared_30 : decode cX7_spared 30 = .ok (.iaload, 1) := by decide +kernel
theorem dX7_spared_31 : decode cX7_spared 31 = .ok (.iconst 1, 1) := by decide +kernel
theorem dX7_spared_32 : decode cX7_spared 32 = .ok (.if_icmp .eq 5, 3) := by decide +kernel
theorem dX7_spared_35 : decode cX7_spared 35 = .ok (.lconst 0, 1) := by decide +kernel
theorem dX7_spared_36 : decode cX7_spared 36 = .ok (.lreturn, 1) := by decide +kernel
theorem dX7_spared_37 : decode cX7_spared 37 = .ok (.aload_n 0, 1) := by decide +kernel
theorem dX7_spared_38 : decode cX7_spared 38 = .ok (.iload_n 1, 1) := by decide +kernel
theorem dX7_spared_39 : decode cX7_spared 39 = .ok (.invokevirtual 437, 3) := by decide +kernel
theorem dX7_spared_42 : decode cX7_spared 42 = .ok (.aload_n 0, 1) := by decide +kernel
theorem dX7_spared_43 : decode cX7_spared 43 = .ok (.getfield 97, 3) := by decide +kernel
theorem dX7_spared_46 : decode cX7_spared 46 = .ok (.iload_n 1, 1) := by decide +kernel
theorem dX7_spared_47 : decode cX7_spared 47 = .ok (.iaload, 1) := by decide +kernel
theorem dX7_spared_48 : decode cX7_spared 48 = .ok (.i2l, 1) := by decide +kernel
theorem dX7_spared_49 : decode cX7_spared 49 = .ok (.ladd, 1) := by decide +kernel
theorem dX7_spared_50 : decode cX7_spared 50 = .ok (.lstore_n 2, 1) := by decide +kernel
theorem dX7_spared_51 : decode cX7_spared 51 = .ok (.iconst (-1), 1) := by decide +kernel
theorem dX7_spared_52 : decode cX7_spared 52 = .ok (.istore 4, 2) := by decide +kernel
theorem dX7_spared_54 : decode cX7_spared 54 = .ok (.iconst 0, 1) := by decide +kernel
theorem dX7_spared_55 : decode cX7_spared 55 = .ok (.istore 5, 2) := by decide +kernel
theorem dX7_spared_57 : decode cX7_spared 57 = .ok (.iload 5, 2) := by decide +kernel
theorem dX7_spared_59 : decode cX7_spared 59 = .ok (.aload_n 0, 1) := by decide +kernel
theorem dX7_spared_60 : decode cX7_spared 60 = .ok (.getfield 17, 3) := by decide +kernel
theorem dX7_spared_63 : decode cX7_spared 63 = .ok (.if_icmp .ge 41, 3) := by decide +kernel
theorem dX7_spared_66 : decode cX7_spared 66 = .ok (.aload_n 0, 1) := by decide +kernel
theorem dX7_spared_67 : decode cX7_spared 67 = .ok (.getfield 14, 3) := by decide +kernel
theorem dX7_spared_70 : decode cX7_spared 70 = .ok (.iload 5, 2) := by decide +kernel
theorem dX7_spared_72 : decode cX7_spared 72 = .ok (.iaload, 1) := by decide +kernel
theorem dX7_spared_73 : decode cX7_spared 73 = .ok (.bipush 6, 2) := by decide +kernel
theorem dX7_spared_75 : decode cX7_spared 75 = .ok (.if_icmp .ne 19, 3) := by decide +kernel
theorem dX7_spared_78 : decode cX7_spared 78 = .ok (.aload_n 0, 1) := by decide +kernel
theorem dX7_spared_79 : decode cX7_spared 79 = .ok (.iload 5, 2) := by decide +kernel
theorem dX7_spared_81 : decode cX7_spared 81 = .ok (.iconst 0, 1) := by decide +kernel
theorem dX7_spared_82 : decode cX7_spared 82 = .ok (.invokevirtual 289, 3) := by decide +kernel
theorem dX7_spared_85 : decode cX7_spared 85 = .ok (.iload_n 1, 1) := by decide +kernel
theorem dX7_spared_86 : decode cX7_spared 86 = .ok (.if_icmp .ne 8, 3) := by decide +kernel
theorem dX7_spared_89 : decode cX7_spared 89 = .ok (.iload 5, 2) := by decide +kernel
theorem dX7_spared_91 : decode cX7_spared 91 = .ok (.goto 5, 3) := by decide +kernel
theorem dX7_spared_94 : decode cX7_spared 94 = .ok (.iload 4, 2) := by decide +kernel
theorem dX7_spared_96 : decode cX7_spared 96 = .ok (.istore 4, 2) := by decide +kernel
theorem dX7_spared_98 : decode cX7_spared 98 = .ok (.iinc 5 1, 3) := by decide +kernel
theorem dX7_spared_101 : decode cX7_spared 101 = .ok (.goto (-44), 3) := by decide +kernel
theorem dX7_spared_104 : decode cX7_spared 104 = .ok (.aload_n 0, 1) := by decide +kernel
theorem dX7_spared_105 : decode cX7_spared 105 = .ok (.iload 4, 2) := by decide +kernel
theorem dX7_spared_107 : decode cX7_spared 107 = .ok (.invokevirtual 462, 3) := by decide +kernel
theorem dX7_spared_110 : decode cX7_spared 110 = .ok (.aload_n 0, 1) := by decide +kernel
theorem dX7_spared_111 : decode cX7_spared 111 = .ok (.iload_n 1, 1) := by decide +kernel
theorem dX7_spared_112 : decode cX7_spared 112 = .ok (.invokevirtual 456, 3) := by decide +kernel
theorem dX7_spared_115 : decode cX7_spared 115 = .ok (.lload_n 2, 1) := by decide +kernel
theorem dX7_spared_116 : decode cX7_spared 116 = .ok (.lsub, 1) := by decide +kernel
theorem dX7_spared_117 : decode cX7_spared 117 = .ok (.lreturn, 1) := by decide +kernel
theorem dX7_cover_0 : decode cX7_cover 0 = .ok (.aload_n 0, 1) := by decide +kernel
theorem dX7_cover_1 : decode cX7_cover 1 = .ok (.iconst 0, 1) := by decide +kernel
theorem dX7_cover_2 : decode cX7_cover 2 = .ok (.putfield 1, 3) := by decide +kernel
theorem dX7_cover_5 : decode cX7_cover 5 = .ok (.aload_n 0, 1) := by decide +kernel
theorem dX7_cover_6 : decode cX7_cover 6 = .ok (.iload_n 1, 1) := by decide +kernel
theorem dX7_cover_7 : decode cX7_cover 7 = .ok (.i2l, 1) := by decide +kernel
theorem dX7_cover_8 : decode cX7_cover 8 = .ok (.lconst 0, 1) := by decide +kernel
theorem dX7_cover_9 : decode cX7_cover 9 = .ok (.ldc2_w 350, 3) := by decide +kernel
theorem dX7_cover_12 : decode cX7_cover 12 = .ok (.invokestatic 352, 3) := by decide +kernel
theorem dX7_cover_15 : decode cX7_cover 15 = .ok (.ifCond .eq 27, 3) := by decide +kernel
theorem dX7_cover_18 : decode cX7_cover 18 = .ok (.iload_n 2, 1) := by decide +kernel
theorem dX7_cover_19 : decode cX7_cover 19 = .ok (.invokestatic 426, 3) := by decide +kernel
theorem dX7_cover_22 : decode cX7_cover 22 = .ok (.ifCond .eq 20, 3) := by decide +kernel
theorem dX7_cover_25 : decode cX7_cover 25 = .ok (.iload_n 3, 1) := by decide +kernel
theorem dX7_cover_26 : decode cX7_cover 26 = .ok (.i2l, 1) := by decide +kernel
theorem dX7_cover_27 : decode cX7_cover 27 = .ok (.iload_n 2, 1) := by decide +kernel
theorem dX7_cover_28 : decode cX7_cover 28 = .ok (.i2l, 1) := by decide +kernel
theorem dX7_cover_29 : decode cX7_cover 29 = .ok (.ldc2_w 387, 3) := by decide +kernel
theorem dX7_cover_32 : decode cX7_cover 32 = .ok (.invokestatic 352, 3) := by decide +kernel
theorem dX7_cover_35 : decode cX7_cover 35 = .ok (.ifCond .eq 7, 3) := by decide +kernel
theorem dX7_cover_38 : decode cX7_cover 38 = .ok (.iconst 1, 1) := by decide +kernel
theorem dX7_cover_39 : decode cX7_cover 39 = .ok (.goto 4, 3) := by decide +kernel
theorem dX7_cover_42 : decode cX7_cover 42 = .ok (.iconst 0, 1) := by decide +kernel
theorem dX7_cover_43 : decode cX7_cover 43 = .ok (.iconst 1, 1) := by decide +kernel
theorem dX7_cover_44 : decode cX7_cover 44 = .ok (.iconst 1, 1) := by decide +kernel
theorem dX7_cover_45 : decode cX7_cover 45 = .ok (.invokevirtual 346, 3) := by decide +kernel
theorem dX7_cover_48 : decode cX7_cover 48 = .ok (.ifCond .ne 5, 3) := by decide +kernel
theorem dX7_cover_51 : decode cX7_cover 51 = .ok (.iconst 0, 1) := by decide +kernel
theorem dX7_cover_52 : decode cX7_cover 52 = .ok (.ireturn, 1) := by decide +kernel
theorem dX7_cover_53 : decode cX7_cover 53 = .ok (.lconst 0, 1) := by decide +kernel
theorem dX7_cover_54 : decode cX7_cover 54 = .ok (.lstore 4, 2) := by decide +kernel
theorem dX7_cover_56 : decode cX7_cover 56 = .ok (.iconst 0, 1) := by decide +kernel
theorem dX7_cover_57 : decode cX7_cover 57 = .ok (.istore 6, 2) := by decide +kernel
theorem dX7_cover_59 : decode cX7_cover 59 = .ok (.iload 6, 2) := by decide +kernel
theorem dX7_cover_61 : decode cX7_cover 61 = .ok (.bipush 40, 2) := by decide +kernel
theorem dX7_cover_63 : decode cX7_cover 63 = .ok (.if_icmp .ge 84, 3) := by decide +kernel
theorem dX7_cover_66 : decode cX7_cover 66 = .ok (.aload_n 0, 1) := by decide +kernel
theorem dX7_cover_67 : decode cX7_cover 67 = .ok (.iload 6, 2) := by decide +kernel
theorem dX7_cover_69 : decode cX7_cover 69 = .ok (.iload_n 1, 1) := by decide +kernel
theorem dX7_cover_70 : decode cX7_cover 70 = .ok (.invokevirtual 283, 3) := by decide +kernel
theorem dX7_cover_73 : decode cX7_cover 73 = .ok (.ifCond .ne 6, 3) := by decide +kernel
theorem dX7_cover_76 : decode cX7_cover 76 = .ok (.goto 65, 3) := by decide +kernel
theorem dX7_cover_79 : decode cX7_cover 79 = .ok (.aload_n 0, 1) := by decide +kernel
theorem dX7_cover_80 : decode cX7_cover 80 = .ok (.getfield 39, 3) := by decide +kernel
theorem dX7_cover_83 : decode cX7_cover 83 = .ok (.iload 6, 2) := by decide +kernel
theorem dX7_cover_85 : decode cX7_cover 85 = .ok (.iaload, 1) := by decide +kernel
theorem dX7_cover_86 : decode cX7_cover 86 = .ok (.iload_n 2, 1) := by decide +kernel
theorem dX7_cover_87 : decode cX7_cover 87 = .ok (.if_icmp .le 14, 3) := by decide +kernel
theorem dX7_cover_90 : decode cX7_cover 90 = .ok (.aload_n 0, 1) := by decide +kernel
theorem dX7_cover_91 : decode cX7_cover 91 = .ok (.getfield 39, 3) := by decide +kernel
theorem dX7_cover_94 : decode cX7_cover 94 = .ok (.iload 6, 2) := by decide +kernel
theorem dX7_cover_96 : decode cX7_cover 96 = .ok (.iaload, 1) := by decide +kernel
theorem dX7_cover_97 : decode cX7_cover 97 = .ok (.i2l, 1) := by decide +kernel
theorem dX7_cover_98 : decode cX7_cover 98 = .ok (.goto 5, 3) := by decide +kernel
theorem dX7_cover_101 : decode cX7_cover 101 = .ok (.iload_n 2, 1) := by decide +kernel
theorem dX7_cover_102 : decode cX7_cover 102 = .ok (.i2l, 1) := by decide +kernel
theorem dX7_cover_103 : decode cX7_cover 103 = .ok (.lstore 7, 2) := by decide +kernel
theorem dX7_cover_105 : decode cX7_cover 105 = .ok (.aload_n 0, 1) := by decide +kernel
theorem dX7_cover_106 : decode cX7_cover 106 = .ok (.iload 6, 2) := by decide +kernel
theorem dX7_cover_108 : decode cX7_cover 108 = .ok (.invokevirtual 165, 3) := by decide +kernel
theorem dX7_cover_111 : decode cX7_cover 111 = .ok (.i2l, 1) := by decide +kernel
theorem dX7_cover_112 : decode cX7_cover 112 = .ok (.iload_n 3, 1) := by decide +kernel
theorem dX7_cover_113 : decode cX7_cover 113 = .ok (.i2l, 1) := by decide +kernel
theorem dX7_cover_114 : decode cX7_cover 114 = .ok (.invokestatic 179, 3) := by decide +kernel
theorem dX7_cover_117 : decode cX7_cover 117 = .ok (.lstore 9, 2) := by decide +kernel
theorem dX7_cover_119 : decode cX7_cover 119 = .ok (.lload 4, 2) := by decide +kernel
theorem dX7_cover_121 : decode cX7_cover 121 = .ok (.lload 9, 2) := by decide +kernel
theorem dX7_cover_123 : decode cX7_cover 123 = .ok (.lload 7, 2) := by decide +kernel
theorem dX7_cover_125 : decode cX7_cover 125 = .ok (.lcmp, 1) := by decide +kernel
theorem dX7_cover_126 : decode cX7_cover 126 = .ok (.ifCond .le 11, 3) := by decide +kernel
theorem dX7_cover_129 : decode cX7_cover 129 = .ok (.lload 9, 2) := by decide +kernel
theorem dX7_cover_131 : decode cX7_cover 131 = .ok (.lload 7, 2) := by decide +kernel
theorem dX7_cover_133 : decode cX7_cover 133 = .ok (.lsub, 1) := by decide +kernel
theorem dX7_cover_134 : decode cX7_cover 134 = .ok (.goto 4, 3) := by decide +kernel
theorem dX7_cover_137 : decode cX7_cover 137 = .ok (.lconst 0, 1) := by decide +kernel
theorem dX7_cover_138 : decode cX7_cover 138 = .ok (.ladd, 1) := by decide +kernel
theorem dX7_cover_139 : decode cX7_cover 139 = .ok (.lstore 4, 2) := by decide +kernel
theorem dX7_cover_141 : decode cX7_cover 141 = .ok (.iinc 6 1, 3) := by decide +kernel
theorem dX7_cover_144 : decode cX7_cover 144 = .ok (.goto (-85), 3) := by decide +kernel
theorem dX7_cover_147 : decode cX7_cover 147 = .ok (.lload 4, 2) := by decide +kernel
theorem dX7_cover_149 : decode cX7_cover 149 = .ok (.l2i, 1) := by decide +kernel
theorem dX7_cover_150 : decode cX7_cover 150 = .ok (.ireturn, 1) := by decide +kernel
theorem dX7_reach_0 : decode cX7_reach 0 = .ok (.aload_n 0, 1) := by decide +kernel
theorem dX7_reach_1 : decode cX7_reach 1 = .ok (.iconst 0, 1) := by decide +kernel
theorem dX7_reach_2 : decode cX7_reach 2 = .ok (.putfield 1, 3) := by decide +kernel
theorem dX7_reach_5 : decode cX7_reach 5 = .ok (.aload_n 0, 1) := by decide +kernel
theorem dX7_reach_6 : decode cX7_reach 6 = .ok (.iload_n 1, 1) := by decide +kernel
theorem dX7_reach_7 : decode cX7_reach 7 = .ok (.iconst 1, 1) := by decide +kernel
theorem dX7_reach_8 : decode cX7_reach 8 = .ok (.invokevirtual 374, 3) := by decide +kernel
theorem dX7_reach_11 : decode cX7_reach 11 = .ok (.ifCond .ne 5, 3) := by decide +kernel
theorem dX7_reach_14 : decode cX7_reach 14 = .ok (.lconst 0, 1) := by decide +kernel
theorem dX7_reach_15 : decode cX7_reach 15 = .ok (.lreturn, 1) := by decide +kernel
theorem dX7_reach_16 : decode cX7_reach 16 = .ok (.aload_n 0, 1) := by decide +kernel
theorem dX7_reach_17 : decode cX7_reach 17 = .ok (.iload_n 1, 1) := by decide +kernel
theorem dX7_reach_18 : decode cX7_reach 18 = .ok (.invokevirtual 175, 3) := by decide +kernel
theorem dX7_reach_21 : decode cX7_reach 21 = .ok (.lconst 0, 1) := by decide +kernel
theorem dX7_reach_22 : decode cX7_reach 22 = .ok (.lcmp, 1) := by decide +kernel
theorem dX7_reach_23 : decode cX7_reach 23 = .ok (.ifCond .ne 7, 3) := by decide +kernel
theorem dX7_reach_26 : decode cX7_reach 26 = .ok (.ldc2_w 419, 3) := by decide +kernel
theorem dX7_reach_29 : decode cX7_reach 29 = .ok (.lreturn, 1) := by decide +kernel
theorem dX7_reach_30 : decode cX7_reach 30 = .ok (.aload_n 0, 1) := by decide +kernel
theorem dX7_reach_31 : decode cX7_reach 31 = .ok (.bipush 24, 2) := by decide +kernel
theorem dX7_reach_33 : decode cX7_reach 33 = .ok (.invokevirtual 145, 3) := by decide +kernel
theorem dX7_reach_36 : decode cX7_reach 36 = .ok (.aload_n 0, 1) := by decide +kernel
theorem dX7_reach_37 : decode cX7_reach 37 = .ok (.iload_n 1, 1) := by decide +kernel
theorem dX7_reach_38 : decode cX7_reach 38 = .ok (.invokevirtual 172, 3) := by decide +kernel
theorem dX7_reach_41 : decode cX7_reach 41 = .ok (.i2l, 1) := by decide +kernel
theorem dX7_reach_42 : decode cX7_reach 42 = .ok (.lconst 1, 1) := by decide +kernel
theorem dX7_reach_43 : decode cX7_reach 43 = .ok (.ladd, 1) := by decide +kernel
theorem dX7_reach_44 : decode cX7_reach 44 = .ok (.lstore_n 2, 1) := by decide +kernel
theorem dX7_reach_45 : decode cX7_reach 45 = .ok (.iconst 0, 1) := by decide +kernel
theorem dX7_reach_46 : decode cX7_reach 46 = .ok (.istore 4, 2) := by decide +kernel
theorem dX7_reach_48 : decode cX7_reach 48 = .ok (.iload 4, 2) := by decide +kernel
theorem dX7_reach_50 : decode cX7_reach 50 = .ok (.bipush 40, 2) := by decide +kernel
theorem dX7_reach_52 : decode cX7_reach 52 = .ok (.if_icmp .ge 63, 3) := by decide +kernel
theorem dX7_reach_55 : decode cX7_reach 55 = .ok (.lload_n 2, 1) := by decide +kernel
theorem dX7_reach_56 : decode cX7_reach 56 = .ok (.aload_n 0, 1) := by decide +kernel
theorem dX7_reach_57 : decode cX7_reach 57 = .ok (.iload 4, 2) := by decide +kernel
theorem dX7_reach_59 : decode cX7_reach 59 = .ok (.aload_n 0, 1) := by decide +kernel
theorem dX7_reach_60 : decode cX7_reach 60 = .ok (.getfield 36, 3) := by decide +kernel
theorem dX7_reach_63 : decode cX7_reach 63 = .ok (.iload_n 1, 1) := by decide +kernel
theorem dX7_reach_64 : decode cX7_reach 64 = .ok (.iaload, 1) := by decide +kernel
theorem dX7_reach_65 : decode cX7_reach 65 = .ok (.invokevirtual 283, 3) := by decide +kernel
theorem dX7_reach_68 : decode cX7_reach 68 = .ok (.ifCond .eq 38, 3) := by decide +kernel
theorem dX7_reach_71 : decode cX7_reach 71 = .ok (.aload_n 0, 1) := by decide +kernel
theorem dX7_reach_72 : decode cX7_reach 72 = .ok (.getfield 39, 3) := by decide +kernel
theorem dX7_reach_75 : decode cX7_reach 75 = .ok (.iload 4, 2) := by decide +kernel
theorem dX7_reach_77 : decode cX7_reach 77 = .ok (.iaload, 1) := by decide +kernel
theorem dX7_reach_78 : decode cX7_reach 78 = .ok (.aload_n 0, 1) := by decide +kernel
theorem dX7_reach_79 : decode cX7_reach 79 = .ok (.getfield 39, 3) := by decide +kernel
theorem dX7_reach_82 : decode cX7_reach 82 = .ok (.iload_n 1, 1) := by decide +kernel
theorem dX7_reach_83 : decode cX7_reach 83 = .ok (.iaload, 1) := by decide +kernel
theorem dX7_reach_84 : decode cX7_reach 84 = .ok (.if_icmp .ge 22, 3) := by decide +kernel
theorem dX7_reach_87 : decode cX7_reach 87 = .ok (.aload_n 0, 1) := by decide +kernel
theorem dX7_reach_88 : decode cX7_reach 88 = .ok (.iload 4, 2) := by decide +kernel
theorem dX7_reach_90 : decode cX7_reach 90 = .ok (.invokevirtual 172, 3) := by decide +kernel
theorem dX7_reach_93 : decode cX7_reach 93 = .ok (.i2l, 1) := by decide +kernel
theorem dX7_reach_94 : decode cX7_reach 94 = .ok (.aload_n 0, 1) := by decide +kernel
theorem dX7_reach_95 : decode cX7_reach 95 = .ok (.bipush 24, 2) := by decide +kernel
theorem dX7_reach_97 : decode cX7_reach 97 = .ok (.iload 4, 2) := by decide +kernel
theorem dX7_reach_99 : decode cX7_reach 99 = .ok (.invokevirtual 183, 3) := by decide +kernel
theorem dX7_reach_102 : decode cX7_reach 102 = .ok (.ladd, 1) := by decide +kernel
theorem dX7_reach_103 : decode cX7_reach 103 = .ok (.goto 4, 3) := by decide +kernel
theorem dX7_reach_106 : decode cX7_reach 106 = .ok (.lconst 0, 1) := by decide +kernel
theorem dX7_reach_107 : decode cX7_reach 107 = .ok (.ladd, 1) := by decide +kernel
theorem dX7_reach_108 : decode cX7_reach 108 = .ok (.lstore_n 2, 1) := by decide +kernel
theorem dX7_reach_109 : decode cX7_reach 109 = .ok (.iinc 4 1, 3) := by decide +kernel
theorem dX7_reach_112 : decode cX7_reach 112 = .ok (.goto (-64), 3) := by decide +kernel
theorem dX7_reach_115 : decode cX7_reach 115 = .ok (.lload_n 2, 1) := by decide +kernel
theorem dX7_reach_116 : decode cX7_reach 116 = .ok (.lreturn, 1) := by decide +kernel
theorem dX7_widest_0 : decode cX7_widest 0 = .ok (.aload_n 0, 1) := by decide +kernel
theorem dX7_widest_1 : decode cX7_widest 1 = .ok (.iconst 0, 1) := by decide +kernel
theorem dX7_widest_2 : decode cX7_widest 2 = .ok (.putfield 1, 3) := by decide +kernel
theorem dX7_widest_5 : decode cX7_widest 5 = .ok (.aload_n 0, 1) := by decide +kernel
theorem dX7_widest_6 : decode cX7_widest 6 = .ok (.iload_n 1, 1) := by decide +kernel
theorem dX7_widest_7 : decode cX7_widest 7 = .ok (.i2l, 1) := by decide +kernel
theorem dX7_widest_8 : decode cX7_widest 8 = .ok (.lconst 0, 1) := by decide +kernel
theorem dX7_widest_9 : decode cX7_widest 9 = .ok (.ldc2_w 350, 3) := by decide +kernel
theorem dX7_widest_12 : decode cX7_widest 12 = .ok (.invokestatic 352, 3) := by decide +kernel
theorem dX7_widest_15 : decode cX7_widest 15 = .ok (.ifCond .eq 17, 3) := by decide +kernel
theorem dX7_widest_18 : decode cX7_widest 18 = .ok (.iload_n 2, 1) := by decide +kernel
theorem dX7_widest_19 : decode cX7_widest 19 = .ok (.i2l, 1) := by decide +kernel
theorem dX7_widest_20 : decode cX7_widest 20 = .ok (.lconst 0, 1) := by decide +kernel
theorem dX7_widest_21 : decode cX7_widest 21 = .ok (.lconst 1, 1) := by decide +kernel
theorem dX7_widest_22 : decode cX7_widest 22 = .ok (.invokestatic 352, 3) := by decide +kernel
theorem dX7_widest_25 : decode cX7_widest 25 = .ok (.ifCond .eq 7, 3) := by decide +kernel
theorem dX7_widest_28 : decode cX7_widest 28 = .ok (.iconst 1, 1) := by decide +kernel
theorem dX7_widest_29 : decode cX7_widest 29 = .ok (.goto 4, 3) := by decide +kernel
theorem dX7_widest_32 : decode cX7_widest 32 = .ok (.iconst 0, 1) := by decide +kernel
theorem dX7_widest_33 : decode cX7_widest 33 = .ok (.iconst 1, 1) := by decide +kernel
theorem dX7_widest_34 : decode cX7_widest 34 = .ok (.iconst 1, 1) := by decide +kernel
theorem dX7_widest_35 : decode cX7_widest 35 = .ok (.invokevirtual 346, 3) := by decide +kernel
theorem dX7_widest_38 : decode cX7_widest 38 = .ok (.ifCond .ne 5, 3) := by decide +kernel
theorem dX7_widest_41 : decode cX7_widest 41 = .ok (.iconst 0, 1) := by decide +kernel
theorem dX7_widest_42 : decode cX7_widest 42 = .ok (.ireturn, 1) := by decide +kernel
theorem dX7_widest_43 : decode cX7_widest 43 = .ok (.iconst (-1), 1) := by decide +kernel
theorem dX7_widest_44 : decode cX7_widest 44 = .ok (.istore_n 3, 1) := by decide +kernel
theorem dX7_widest_45 : decode cX7_widest 45 = .ok (.iconst 0, 1) := by decide +kernel
theorem dX7_widest_46 : decode cX7_widest 46 = .ok (.istore 4, 2) := by decide +kernel
theorem dX7_widest_48 : decode cX7_widest 48 = .ok (.iconst 0, 1) := by decide +kernel
theorem dX7_widest_49 : decode cX7_widest 49 = .ok (.istore 5, 2) := by decide +kernel
theorem dX7_widest_51 : decode cX7_widest 51 = .ok (.iload 5, 2) := by decide +kernel
theorem dX7_widest_53 : decode cX7_widest 53 = .ok (.aload_n 0, 1) := by decide +kernel
theorem dX7_widest_54 : decode cX7_widest 54 = .ok (.iload_n 1, 1) := by decide +kernel
theorem dX7_widest_55 : decode cX7_widest 55 = .ok (.invokevirtual 169, 3) := by decide +kernel
theorem dX7_widest_58 : decode cX7_widest 58 = .ok (.if_icmp .ge 43, 3) := by decide +kernel
theorem dX7_widest_61 : decode cX7_widest 61 = .ok (.aload_n 0, 1) := by decide +kernel
theorem dX7_widest_62 : decode cX7_widest 62 = .ok (.iload_n 1, 1) := by decide +kernel
theorem dX7_widest_63 : decode cX7_widest 63 = .ok (.iload 5, 2) := by decide +kernel
theorem dX7_widest_65 : decode cX7_widest 65 = .ok (.invokevirtual 161, 3) := by decide +kernel
theorem dX7_widest_68 : decode cX7_widest 68 = .ok (.istore 6, 2) := by decide +kernel
theorem dX7_widest_70 : decode cX7_widest 70 = .ok (.aload_n 0, 1) := by decide +kernel
theorem dX7_widest_71 : decode cX7_widest 71 = .ok (.iload 6, 2) := by decide +kernel
theorem dX7_widest_73 : decode cX7_widest 73 = .ok (.invokevirtual 172, 3) := by decide +kernel
theorem dX7_widest_76 : decode cX7_widest 76 = .ok (.iload 4, 2) := by decide +kernel
theorem dX7_widest_78 : decode cX7_widest 78 = .ok (.if_icmp .gt 6, 3) := by decide +kernel
theorem dX7_widest_81 : decode cX7_widest 81 = .ok (.goto 14, 3) := by decide +kernel
theorem dX7_widest_84 : decode cX7_widest 84 = .ok (.iload 6, 2) := by decide +kernel
theorem dX7_widest_86 : decode cX7_widest 86 = .ok (.istore_n 3, 1) := by decide +kernel
theorem dX7_widest_87 : decode cX7_widest 87 = .ok (.aload_n 0, 1) := by decide +kernel
theorem dX7_widest_88 : decode cX7_widest 88 = .ok (.iload 6, 2) := by decide +kernel
theorem dX7_widest_90 : decode cX7_widest 90 = .ok (.invokevirtual 172, 3) := by decide +kernel
theorem dX7_widest_93 : decode cX7_widest 93 = .ok (.istore 4, 2) := by decide +kernel
theorem dX7_widest_95 : decode cX7_widest 95 = .ok (.iinc 5 1, 3) := by decide +kernel
theorem dX7_widest_98 : decode cX7_widest 98 = .ok (.goto (-47), 3) := by decide +kernel
theorem dX7_widest_101 : decode cX7_widest 101 = .ok (.iload_n 2, 1) := by decide +kernel
theorem dX7_widest_102 : decode cX7_widest 102 = .ok (.ifCond .ne 7, 3) := by decide +kernel
theorem dX7_widest_105 : decode cX7_widest 105 = .ok (.iload_n 3, 1) := by decide +kernel
theorem dX7_widest_106 : decode cX7_widest 106 = .ok (.goto 5, 3) := by decide +kernel
theorem dX7_widest_109 : decode cX7_widest 109 = .ok (.iload 4, 2) := by decide +kernel
theorem dX7_widest_111 : decode cX7_widest 111 = .ok (.ireturn, 1) := by decide +kernel
theorem dX7_strongest_0 : decode cX7_strongest 0 = .ok (.aload_n 0, 1) := by decide +kernel
theorem dX7_strongest_1 : decode cX7_strongest 1 = .ok (.iconst 0, 1) := by decide +kernel
theorem dX7_strongest_2 : decode cX7_strongest 2 = .ok (.putfield 1, 3) := by decide +kernel
theorem dX7_strongest_5 : decode cX7_strongest 5 = .ok (.aload_n 0, 1) := by decide +kernel
theorem dX7_strongest_6 : decode cX7_strongest 6 = .ok (.iload_n 1, 1) := by decide +kernel
theorem dX7_strongest_7 : decode cX7_strongest 7 = .ok (.i2l, 1) := by decide +kernel
theorem dX7_strongest_8 : decode cX7_strongest 8 = .ok (.lconst 0, 1) := by decide +kernel
theorem dX7_strongest_9 : decode cX7_strongest 9 = .ok (.lconst 1, 1) := by decide +kernel
theorem dX7_strongest_10 : decode cX7_strongest 10 = .ok (.invokestatic 352, 3) := by decide +kernel
theorem dX7_strongest_13 : decode cX7_strongest 13 = .ok (.iconst 1, 1) := by decide +kernel
theorem dX7_strongest_14 : decode cX7_strongest 14 = .ok (.iconst 1, 1) := by decide +kernel
theorem dX7_strongest_15 : decode cX7_strongest 15 = .ok (.invokevirtual 346, 3) := by decide +kernel
theorem dX7_strongest_18 : decode cX7_strongest 18 = .ok (.ifCond .ne 5, 3) := by decide +kernel
theorem dX7_strongest_21 : decode cX7_strongest 21 = .ok (.lconst 0, 1) := by decide +kernel
theorem dX7_strongest_22 : decode cX7_strongest 22 = .ok (.lreturn, 1) := by decide +kernel
theorem dX7_strongest_23 : decode cX7_strongest 23 = .ok (.iconst (-1), 1) := by decide +kernel
theorem dX7_strongest_24 : decode cX7_strongest 24 = .ok (.istore_n 2, 1) := by decide +kernel
theorem dX7_strongest_25 : decode cX7_strongest 25 = .ok (.lconst 0, 1) := by decide +kernel
theorem dX7_strongest_26 : decode cX7_strongest 26 = .ok (.lstore_n 3, 1) := by decide +kernel
theorem dX7_strongest_27 : decode cX7_strongest 27 = .ok (.iconst 0, 1) := by decide +kernel
theorem dX7_strongest_28 : decode cX7_strongest 28 = .ok (.istore 5, 2) := by decide +kernel
theorem dX7_strongest_30 : decode cX7_strongest 30 = .ok (.iload 5, 2) := by decide +kernel
theorem dX7_strongest_32 : decode cX7_strongest 32 = .ok (.bipush 12, 2) := by decide +kernel
theorem dX7_strongest_34 : decode cX7_strongest 34 = .ok (.if_icmp .ge 37, 3) := by decide +kernel
theorem dX7_strongest_37 : decode cX7_strongest 37 = .ok (.aload_n 0, 1) := by decide +kernel
theorem dX7_strongest_38 : decode cX7_strongest 38 = .ok (.iload 5, 2) := by decide +kernel
theorem dX7_strongest_40 : decode cX7_strongest 40 = .ok (.bipush 6, 2) := by decide +kernel
theorem dX7_strongest_42 : decode cX7_strongest 42 = .ok (.invokevirtual 423, 3) := by decide +kernel
theorem dX7_strongest_45 : decode cX7_strongest 45 = .ok (.lload_n 3, 1) := by decide +kernel
theorem dX7_strongest_46 : decode cX7_strongest 46 = .ok (.lcmp, 1) := by decide +kernel
theorem dX7_strongest_47 : decode cX7_strongest 47 = .ok (.ifCond .gt 6, 3) := by decide +kernel
theorem dX7_strongest_50 : decode cX7_strongest 50 = .ok (.goto 15, 3) := by decide +kernel
theorem dX7_strongest_53 : decode cX7_strongest 53 = .ok (.iload 5, 2) := by decide +kernel
theorem dX7_strongest_55 : decode cX7_strongest 55 = .ok (.istore_n 2, 1) := by decide +kernel
theorem dX7_strongest_56 : decode cX7_strongest 56 = .ok (.aload_n 0, 1) := by decide +kernel
theorem dX7_strongest_57 : decode cX7_strongest 57 = .ok (.iload 5, 2) := by decide +kernel
theorem dX7_strongest_59 : decode cX7_strongest 59 = .ok (.bipush 6, 2) := by decide +kernel
theorem dX7_strongest_61 : decode cX7_strongest 61 = .ok (.invokevirtual 423, 3) := by decide +kernel
theorem dX7_strongest_64 : decode cX7_strongest 64 = .ok (.lstore_n 3, 1) := by decide +kernel
theorem dX7_strongest_65 : decode cX7_strongest 65 = .ok (.iinc 5 1, 3) := by decide +kernel
theorem dX7_strongest_68 : decode cX7_strongest 68 = .ok (.goto (-38), 3) := by decide +kernel
theorem dX7_strongest_71 : decode cX7_strongest 71 = .ok (.iload_n 1, 1) := by decide +kernel
theorem dX7_strongest_72 : decode cX7_strongest 72 = .ok (.ifCond .ne 8, 3) := by decide +kernel
theorem dX7_strongest_75 : decode cX7_strongest 75 = .ok (.iload_n 2, 1) := by decide +kernel
theorem dX7_strongest_76 : decode cX7_strongest 76 = .ok (.i2l, 1) := by decide +kernel
theorem dX7_strongest_77 : decode cX7_strongest 77 = .ok (.goto 4, 3) := by decide +kernel
theorem dX7_strongest_80 : decode cX7_strongest 80 = .ok (.lload_n 3, 1) := by decide +kernel
theorem dX7_strongest_81 : decode cX7_strongest 81 = .ok (.lreturn, 1) := by decide +kernel
theorem dX7_holds_0 : decode cX7_holds 0 = .ok (.aload_n 0, 1) := by decide +kernel
theorem dX7_holds_1 : decode cX7_holds 1 = .ok (.iconst 0, 1) := by decide +kernel
theorem dX7_holds_2 : decode cX7_holds 2 = .ok (.putfield 1, 3) := by decide +kernel
theorem dX7_holds_5 : decode cX7_holds 5 = .ok (.aload_n 0, 1) := by decide +kernel
theorem dX7_holds_6 : decode cX7_holds 6 = .ok (.iload_n 1, 1) := by decide +kernel
theorem dX7_holds_7 : decode cX7_holds 7 = .ok (.i2l, 1) := by decide +kernel
theorem dX7_holds_8 : decode cX7_holds 8 = .ok (.lconst 0, 1) := by decide +kernel
theorem dX7_holds_9 : decode cX7_holds 9 = .ok (.ldc2_w 377, 3) := by decide +kernel
theorem dX7_holds_12 : decode cX7_holds 12 = .ok (.invokestatic 352, 3) := by decide +kernel
theorem dX7_holds_15 : decode cX7_holds 15 = .ok (.ifCond .eq 26, 3) := by decide +kernel
theorem dX7_holds_18 : decode cX7_holds 18 = .ok (.iload_n 2, 1) := by decide +kernel
theorem dX7_holds_19 : decode cX7_holds 19 = .ok (.i2l, 1) := by decide +kernel
theorem dX7_holds_20 : decode cX7_holds 20 = .ok (.lconst 0, 1) := by decide +kernel
theorem dX7_holds_21 : decode cX7_holds 21 = .ok (.ldc2_w 350, 3) := by decide +kernel
theorem dX7_holds_24 : decode cX7_holds 24 = .ok (.invokestatic 352, 3) := by decide +kernel
theorem dX7_holds_27 : decode cX7_holds 27 = .ok (.ifCond .eq 14, 3) := by decide +kernel
theorem dX7_holds_30 : decode cX7_holds 30 = .ok (.iload_n 3, 1) := by decide +kernel
theorem dX7_holds_31 : decode cX7_holds 31 = .ok (.invokestatic 426, 3) := by decide +kernel
theorem dX7_holds_34 : decode cX7_holds 34 = .ok (.ifCond .eq 7, 3) := by decide +kernel
theorem dX7_holds_37 : decode cX7_holds 37 = .ok (.iconst 1, 1) := by decide +kernel
theorem dX7_holds_38 : decode cX7_holds 38 = .ok (.goto 4, 3) := by decide +kernel
theorem dX7_holds_41 : decode cX7_holds 41 = .ok (.iconst 0, 1) := by decide +kernel
theorem dX7_holds_42 : decode cX7_holds 42 = .ok (.iconst 1, 1) := by decide +kernel
theorem dX7_holds_43 : decode cX7_holds 43 = .ok (.iconst 1, 1) := by decide +kernel
theorem dX7_holds_44 : decode cX7_holds 44 = .ok (.invokevirtual 346, 3) := by decide +kernel
theorem dX7_holds_47 : decode cX7_holds 47 = .ok (.ifCond .ne 5, 3) := by decide +kernel
theorem dX7_holds_50 : decode cX7_holds 50 = .ok (.iconst 0, 1) := by decide +kernel
theorem dX7_holds_51 : decode cX7_holds 51 = .ok (.ireturn, 1) := by decide +kernel
theorem dX7_holds_52 : decode cX7_holds 52 = .ok (.aload_n 0, 1) := by decide +kernel
theorem dX7_holds_53 : decode cX7_holds 53 = .ok (.iload_n 2, 1) := by decide +kernel
theorem dX7_holds_54 : decode cX7_holds 54 = .ok (.iload_n 3, 1) := by decide +kernel
theorem dX7_holds_55 : decode cX7_holds 55 = .ok (.invokevirtual 429, 3) := by decide +kernel
theorem dX7_holds_58 : decode cX7_holds 58 = .ok (.istore 4, 2) := by decide +kernel
theorem dX7_holds_60 : decode cX7_holds 60 = .ok (.iconst 0, 1) := by decide +kernel
theorem dX7_holds_61 : decode cX7_holds 61 = .ok (.istore 5, 2) := by decide +kernel
theorem dX7_holds_63 : decode cX7_holds 63 = .ok (.iload 4, 2) := by decide +kernel
theorem dX7_holds_65 : decode cX7_holds 65 = .ok (.iconst (-1), 1) := by decide +kernel
theorem dX7_holds_66 : decode cX7_holds 66 = .ok (.if_icmp .eq 50, 3) := by decide +kernel
theorem dX7_holds_69 : decode cX7_holds 69 = .ok (.iload 5, 2) := by decide +kernel
theorem dX7_holds_71 : decode cX7_holds 71 = .ok (.aload_n 0, 1) := by decide +kernel
theorem dX7_holds_72 : decode cX7_holds 72 = .ok (.getfield 48, 3) := by decide +kernel
theorem dX7_holds_75 : decode cX7_holds 75 = .ok (.iload 4, 2) := by decide +kernel
theorem dX7_holds_77 : decode cX7_holds 77 = .ok (.iaload, 1) := by decide +kernel
theorem dX7_holds_78 : decode cX7_holds 78 = .ok (.if_icmp .ge 38, 3) := by decide +kernel
theorem dX7_holds_81 : decode cX7_holds 81 = .ok (.aload_n 0, 1) := by decide +kernel
theorem dX7_holds_82 : decode cX7_holds 82 = .ok (.getfield 51, 3) := by decide +kernel
theorem dX7_holds_85 : decode cX7_holds 85 = .ok (.iconst 4, 1) := by decide +kernel
theorem dX7_holds_86 : decode cX7_holds 86 = .ok (.iload 4, 2) := by decide +kernel
theorem dX7_holds_88 : decode cX7_holds 88 = .ok (.imul, 1) := by decide +kernel
theorem dX7_holds_89 : decode cX7_holds 89 = .ok (.iload 5, 2) := by decide +kernel
theorem dX7_holds_91 : decode cX7_holds 91 = .ok (.iadd, 1) := by decide +kernel
theorem dX7_holds_92 : decode cX7_holds 92 = .ok (.iaload, 1) := by decide +kernel
theorem dX7_holds_93 : decode cX7_holds 93 = .ok (.iload_n 1, 1) := by decide +kernel
theorem dX7_holds_94 : decode cX7_holds 94 = .ok (.if_icmp .ne 16, 3) := by decide +kernel
theorem dX7_holds_97 : decode cX7_holds 97 = .ok (.aload_n 0, 1) := by decide +kernel
theorem dX7_holds_98 : decode cX7_holds 98 = .ok (.getfield 54, 3) := by decide +kernel
theorem dX7_holds_101 : decode cX7_holds 101 = .ok (.iconst 4, 1) := by decide +kernel
theorem dX7_holds_102 : decode cX7_holds 102 = .ok (.iload 4, 2) := by decide +kernel
theorem dX7_holds_104 : decode cX7_holds 104 = .ok (.imul, 1) := by decide +kernel
theorem dX7_holds_105 : decode cX7_holds 105 = .ok (.iload 5, 2) := by decide +kernel
theorem dX7_holds_107 : decode cX7_holds 107 = .ok (.iadd, 1) := by decide +kernel
theorem dX7_holds_108 : decode cX7_holds 108 = .ok (.iaload, 1) := by decide +kernel
theorem dX7_holds_109 : decode cX7_holds 109 = .ok (.ireturn, 1) := by decide +kernel
theorem dX7_holds_110 : decode cX7_holds 110 = .ok (.iinc 5 1, 3) := by decide +kernel
theorem dX7_holds_113 : decode cX7_holds 113 = .ok (.goto (-50), 3) := by decide +kernel
theorem dX7_holds_116 : decode cX7_holds 116 = .ok (.iconst 0, 1) := by decide +kernel
theorem dX7_holds_117 : decode cX7_holds 117 = .ok (.ireturn, 1) := by decide +kernel
theorem dX7_spent_0 : decode cX7_spent 0 = .ok (.aload_n 0, 1) := by decide +kernel
theorem dX7_spent_1 : decode cX7_spent 1 = .ok (.iconst 0, 1) := by decide +kernel
theorem dX7_spent_2 : decode cX7_spent 2 = .ok (.putfield 1, 3) := by decide +kernel
theorem dX7_spent_5 : decode cX7_spent 5 = .ok (.lconst 0, 1) := by decide +kernel
theorem dX7_spent_6 : decode cX7_spent 6 = .ok (.lstore_n 1, 1) := by decide +kernel
theorem dX7_spent_7 : decode cX7_spent 7 = .ok (.iconst 0, 1) := by decide +kernel
theorem dX7_spent_8 : decode cX7_spent 8 = .ok (.istore_n 3, 1) := by decide +kernel
theorem dX7_spent_9 : decode cX7_spent 9 = .ok (.iload_n 3, 1) := by decide +kernel
theorem dX7_spent_10 : decode cX7_spent 10 = .ok (.bipush 40, 2) := by decide +kernel
theorem dX7_spent_12 : decode cX7_spent 12 = .ok (.if_icmp .ge 38, 3) := by decide +kernel
theorem dX7_spent_15 : decode cX7_spent 15 = .ok (.lload_n 1, 1) := by decide +kernel
theorem dX7_spent_16 : decode cX7_spent 16 = .ok (.aload_n 0, 1) := by decide +kernel
theorem dX7_spent_17 : decode cX7_spent 17 = .ok (.getfield 29, 3) := by decide +kernel
theorem dX7_spent_20 : decode cX7_spent 20 = .ok (.iload_n 3, 1) := by decide +kernel
theorem dX7_spent_21 : decode cX7_spent 21 = .ok (.baload, 1) := by decide +kernel
theorem dX7_spent_22 : decode cX7_spent 22 = .ok (.ifCond .eq 19, 3) := by decide +kernel
theorem dX7_spent_25 : decode cX7_spent 25 = .ok (.aload_n 0, 1) := by decide +kernel
theorem dX7_spent_26 : decode cX7_spent 26 = .ok (.iload_n 3, 1) := by decide +kernel
theorem dX7_spent_27 : decode cX7_spent 27 = .ok (.invokevirtual 175, 3) := by decide +kernel
theorem dX7_spent_30 : decode cX7_spent 30 = .ok (.lconst 0, 1) := by decide +kernel
theorem dX7_spent_31 : decode cX7_spent 31 = .ok (.lcmp, 1) := by decide +kernel
theorem dX7_spent_32 : decode cX7_spent 32 = .ok (.ifCond .ne 9, 3) := by decide +kernel
theorem dX7_spent_35 : decode cX7_spent 35 = .ok (.lconst 1, 1) := by decide +kernel
theorem dX7_spent_36 : decode cX7_spent 36 = .ok (.iload_n 3, 1) := by decide +kernel
theorem dX7_spent_37 : decode cX7_spent 37 = .ok (.lshl, 1) := by decide +kernel
theorem dX7_spent_38 : decode cX7_spent 38 = .ok (.goto 4, 3) := by decide +kernel
theorem dX7_spent_41 : decode cX7_spent 41 = .ok (.lconst 0, 1) := by decide +kernel
theorem dX7_spent_42 : decode cX7_spent 42 = .ok (.lor, 1) := by decide +kernel
theorem dX7_spent_43 : decode cX7_spent 43 = .ok (.lstore_n 1, 1) := by decide +kernel
theorem dX7_spent_44 : decode cX7_spent 44 = .ok (.iinc 3 1, 3) := by decide +kernel
theorem dX7_spent_47 : decode cX7_spent 47 = .ok (.goto (-38), 3) := by decide +kernel
theorem dX7_spent_50 : decode cX7_spent 50 = .ok (.lload_n 1, 1) := by decide +kernel
theorem dX7_spent_51 : decode cX7_spent 51 = .ok (.lreturn, 1) := by decide +kernel
theorem dX7_status_0 : decode cX7_status 0 = .ok (.aload_n 0, 1) := by decide +kernel
theorem dX7_status_1 : decode cX7_status 1 = .ok (.iconst 0, 1) := by decide +kernel
theorem dX7_status_2 : decode cX7_status 2 = .ok (.putfield 1, 3) := by decide +kernel
theorem dX7_status_5 : decode cX7_status 5 = .ok (.iload_n 1, 1) := by decide +kernel
theorem dX7_status_6 : decode cX7_status 6 = .ok (.i2l, 1) := by decide +kernel
theorem dX7_status_7 : decode cX7_status 7 = .ok (.lconst 0, 1) := by decide +kernel
theorem dX7_status_8 : decode cX7_status 8 = .ok (.ldc2_w 246, 3) := by decide +kernel
theorem dX7_status_11 : decode cX7_status 11 = .ok (.invokestatic 352, 3) := by decide +kernel
theorem dX7_status_14 : decode cX7_status 14 = .ok (.ifCond .eq 12, 3) := by decide +kernel
theorem dX7_status_17 : decode cX7_status 17 = .ok (.aload_n 0, 1) := by decide +kernel
theorem dX7_status_18 : decode cX7_status 18 = .ok (.getfield 7, 3) := by decide +kernel
theorem dX7_status_21 : decode cX7_status 21 = .ok (.iload_n 1, 1) := by decide +kernel
theorem dX7_status_22 : decode cX7_status 22 = .ok (.iaload, 1) := by decide +kernel
theorem dX7_status_23 : decode cX7_status 23 = .ok (.goto 4, 3) := by decide +kernel
theorem dX7_status_26 : decode cX7_status 26 = .ok (.iconst (-1), 1) := by decide +kernel
theorem dX7_status_27 : decode cX7_status 27 = .ok (.ireturn, 1) := by decide +kernel
theorem dJ6_bitCount_0f7a4_0 : decode cJ6_bitCount_0f7a4 0 = .ok (.iload_n 0, 1) := by decide +kernel
theorem dJ6_bitCount_0f7a4_1 : decode cJ6_bitCount_0f7a4 1 = .ok (.iload_n 0, 1) := by decide +kernel
theorem dJ6_bitCount_0f7a4_2 : decode cJ6_bitCount_0f7a4 2 = .ok (.iconst 1, 1) := by decide +kernel
theorem dJ6_bitCount_0f7a4_3 : decode cJ6_bitCount_0f7a4 3 = .ok (.iushr, 1) := by decide +kernel
theorem dJ6_bitCount_0f7a4_4 : decode cJ6_bitCount_0f7a4 4 = .ok (.ldc_w 265, 3) := by decide +kernel
theorem dJ6_bitCount_0f7a4_7 : decode cJ6_bitCount_0f7a4 7 = .ok (.iand, 1) := by decide +kernel
theorem dJ6_bitCount_0f7a4_8 : decode cJ6_bitCount_0f7a4 8 = .ok (.isub, 1) := by decide +kernel
theorem dJ6_bitCount_0f7a4_9 : decode cJ6_bitCount_0f7a4 9 = .ok (.istore_n 0, 1) := by decide +kernel
theorem dJ6_bitCount_0f7a4_10 : decode cJ6_bitCount_0f7a4 10 = .ok (.iload_n 0, 1) := by decide +kernel
theorem dJ6_bitCount_0f7a4_11 : decode cJ6_bitCount_0f7a4 11 = .ok (.ldc_w 266, 3) := by decide +kernel
theorem dJ6_bitCount_0f7a4_14 : decode cJ6_bitCount_0f7a4 14 = .ok (.iand, 1) := by decide +kernel
theorem dJ6_bitCount_0f7a4_15 : decode cJ6_bitCount_0f7a4 15 = .ok (.iload_n 0, 1) := by decide +kernel
theorem dJ6_bitCount_0f7a4_16 : decode cJ6_bitCount_0f7a4 16 = .ok (.iconst 2, 1) := by decide +kernel
theorem dJ6_bitCount_0f7a4_17 : decode cJ6_bitCount_0f7a4 17 = .ok (.iushr, 1) := by decide +kernel
theorem dJ6_bitCount_0f7a4_18 : decode cJ6_bitCount_0f7a4 18 = .ok (.ldc_w 266, 3) := by decide +kernel
theorem dJ6_bitCount_0f7a4_21 : decode cJ6_bitCount_0f7a4 21 = .ok (.iand, 1) := by decide +kernel
theorem dJ6_bitCount_0f7a4_22 : decode cJ6_bitCount_0f7a4 22 = .ok (.iadd, 1) := by decide +kernel
theorem dJ6_bitCount_0f7a4_23 : decode cJ6_bitCount_0f7a4 23 = .ok (.istore_n 0, 1) := by decide +kernel
theorem dJ6_bitCount_0f7a4_24 : decode cJ6_bitCount_0f7a4 24 = .ok (.iload_n 0, 1) := by decide +kernel
theorem dJ6_bitCount_0f7a4_25 : decode cJ6_bitCount_0f7a4 25 = .ok (.iload_n 0, 1) := by decide +kernel
theorem dJ6_bitCount_0f7a4_26 : decode cJ6_bitCount_0f7a4 26 = .ok (.iconst 4, 1) := by decide +kernel
theorem dJ6_bitCount_0f7a4_27 : decode cJ6_bitCount_0f7a4 27 = .ok (.iushr, 1) := by decide +kernel
theorem dJ6_bitCount_0f7a4_28 : decode cJ6_bitCount_0f7a4 28 = .ok (.iadd, 1) := by decide +kernel
theorem dJ6_bitCount_0f7a4_29 : decode cJ6_bitCount_0f7a4 29 = .ok (.ldc_w 267, 3) := by decide +kernel
theorem dJ6_bitCount_0f7a4_32 : decode cJ6_bitCount_0f7a4 32 = .ok (.iand, 1) := by decide +kernel
theorem dJ6_bitCount_0f7a4_33 : decode cJ6_bitCount_0f7a4 33 = .ok (.istore_n 0, 1) := by decide +kernel
theorem dJ6_bitCount_0f7a4_34 : decode cJ6_bitCount_0f7a4 34 = .ok (.iload_n 0, 1) := by decide +kernel
theorem dJ6_bitCount_0f7a4_35 : decode cJ6_bitCount_0f7a4 35 = .ok (.iload_n 0, 1) := by decide +kernel
theorem dJ6_bitCount_0f7a4_36 : decode cJ6_bitCount_0f7a4 36 = .ok (.bipush 8, 2) := by decide +kernel
theorem dJ6_bitCount_0f7a4_38 : decode cJ6_bitCount_0f7a4 38 = .ok (.iushr, 1) := by decide +kernel
theorem dJ6_bitCount_0f7a4_39 : decode cJ6_bitCount_0f7a4 39 = .ok (.iadd, 1) := by decide +kernel
theorem dJ6_bitCount_0f7a4_40 : decode cJ6_bitCount_0f7a4 40 = .ok (.istore_n 0, 1) := by decide +kernel
theorem dJ6_bitCount_0f7a4_41 : decode cJ6_bitCount_0f7a4 41 = .ok (.iload_n 0, 1) := by decide +kernel
theorem dJ6_bitCount_0f7a4_42 : decode cJ6_bitCount_0f7a4 42 = .ok (.iload_n 0, 1) := by decide +kernel
theorem dJ6_bitCount_0f7a4_43 : decode cJ6_bitCount_0f7a4 43 = .ok (.bipush 16, 2) := by decide +kernel
theorem dJ6_bitCount_0f7a4_45 : decode cJ6_bitCount_0f7a4 45 = .ok (.iushr, 1) := by decide +kernel
theorem dJ6_bitCount_0f7a4_46 : decode cJ6_bitCount_0f7a4 46 = .ok (.iadd, 1) := by decide +kernel
theorem dJ6_bitCount_0f7a4_47 : decode cJ6_bitCount_0f7a4 47 = .ok (.istore_n 0, 1) := by decide +kernel
theorem dJ6_bitCount_0f7a4_48 : decode cJ6_bitCount_0f7a4 48 = .ok (.iload_n 0, 1) := by decide +kernel
theorem dJ6_bitCount_0f7a4_49 : decode cJ6_bitCount_0f7a4 49 = .ok (.bipush 63, 2) := by decide +kernel
theorem dJ6_bitCount_0f7a4_51 : decode cJ6_bitCount_0f7a4 51 = .ok (.iand, 1) := by decide +kernel
theorem dJ6_bitCount_0f7a4_52 : decode cJ6_bitCount_0f7a4 52 = .ok (.ireturn, 1) := by decide +kernel
theorem dJ9_max_7cf53_0 : decode cJ9_max_7cf53 0 = .ok (.iload_n 0, 1) := by decide +kernel
theorem dJ9_max_7cf53_1 : decode cJ9_max_7cf53 1 = .ok (.iload_n 1, 1) := by decide +kernel
theorem dJ9_max_7cf53_2 : decode cJ9_max_7cf53 2 = .ok (.if_icmp .lt 7, 3) := by decide +kernel
theorem dJ9_max_7cf53_5 : decode cJ9_max_7cf53 5 = .ok (.iload_n 0, 1) := by decide +kernel
theorem dJ9_max_7cf53_6 : decode cJ9_max_7cf53 6 = .ok (.goto 4, 3) := by decide +kernel
theorem dJ9_max_7cf53_9 : decode cJ9_max_7cf53 9 = .ok (.iload_n 1, 1) := by decide +kernel
theorem dJ9_max_7cf53_10 : decode cJ9_max_7cf53 10 = .ok (.ireturn, 1) := by decide +kernel
theorem dJ9_min_7cf53_0 : decode cJ9_min_7cf53 0 = .ok (.iload_n 0, 1) := by decide +kernel
theorem dJ9_min_7cf53_1 : decode cJ9_min_7cf53 1 = .ok (.iload_n 1, 1) := by decide +kernel
theorem dJ9_min_7cf53_2 : decode cJ9_min_7cf53 2 = .ok (.if_icmp .gt 7, 3) := by decide +kernel
theorem dJ9_min_7cf53_5 : decode cJ9_min_7cf53 5 = .ok (.iload_n 0, 1) := by decide +kernel
theorem dJ9_min_7cf53_6 : decode cJ9_min_7cf53 6 = .ok (.goto 4, 3) := by decide +kernel
theorem dJ9_min_7cf53_9 : decode cJ9_min_7cf53 9 = .ok (.iload_n 1, 1) := by decide +kernel
theorem dJ9_min_7cf53_10 : decode cJ9_min_7cf53 10 = .ok (.ireturn, 1) := by decide +kernel
theorem dJ9_min_f86c9_0 : decode cJ9_min_f86c9 0 = .ok (.lload_n 0, 1) := by decide +kernel
theorem dJ9_min_f86c9_1 : decode cJ9_min_f86c9 1 = .ok (.lload_n 2, 1) := by decide +kernel
theorem dJ9_min_f86c9_2 : decode cJ9_min_f86c9 2 = .ok (.lcmp, 1) := by decide +kernel
theorem dJ9_min_f86c9_3 : decode cJ9_min_f86c9 3 = .ok (.ifCond .gt 7, 3) := by decide +kernel
theorem dJ9_min_f86c9_6 : decode cJ9_min_f86c9 6 = .ok (.lload_n 0, 1) := by decide +kernel
theorem dJ9_min_f86c9_7 : decode cJ9_min_f86c9 7 = .ok (.goto 4, 3) := by decide +kernel
theorem dJ9_min_f86c9_10 : decode cJ9_min_f86c9 10 = .ok (.lload_n 2, 1) := by decide +kernel
theorem dJ9_min_f86c9_11 : decode cJ9_min_f86c9 11 = .ok (.lreturn, 1) := by decide +kernel
theorem dJ7_fill_d0a16_0 : decode cJ7_fill_d0a16 0 = .ok (.iconst 0, 1) := by decide +kernel
theorem dJ7_fill_d0a16_1 : decode cJ7_fill_d0a16 1 = .ok (.istore_n 3, 1) := by decide +kernel
theorem dJ7_fill_d0a16_2 : decode cJ7_fill_d0a16 2 = .ok (.aload_n 0, 1) := by decide +kernel
theorem dJ7_fill_d0a16_3 : decode cJ7_fill_d0a16 3 = .ok (.arraylength, 1) := by decide +kernel
theorem dJ7_fill_d0a16_4 : decode cJ7_fill_d0a16 4 = .ok (.istore 4, 2) := by decide +kernel
theorem dJ7_fill_d0a16_6 : decode cJ7_fill_d0a16 6 = .ok (.iload_n 3, 1) := by decide +kernel
theorem dJ7_fill_d0a16_7 : decode cJ7_fill_d0a16 7 = .ok (.iload 4, 2) := by decide +kernel
theorem dJ7_fill_d0a16_9 : decode cJ7_fill_d0a16 9 = .ok (.if_icmp .ge 13, 3) := by decide +kernel
theorem dJ7_fill_d0a16_12 : decode cJ7_fill_d0a16 12 = .ok (.aload_n 0, 1) := by decide +kernel
theorem dJ7_fill_d0a16_13 : decode cJ7_fill_d0a16 13 = .ok (.iload_n 3, 1) := by decide +kernel
theorem dJ7_fill_d0a16_14 : decode cJ7_fill_d0a16 14 = .ok (.lload_n 1, 1) := by decide +kernel
theorem dJ7_fill_d0a16_15 : decode cJ7_fill_d0a16 15 = .ok (.lastore, 1) := by decide +kernel
theorem dJ7_fill_d0a16_16 : decode cJ7_fill_d0a16 16 = .ok (.iinc 3 1, 3) := by decide +kernel
theorem dJ7_fill_d0a16_19 : decode cJ7_fill_d0a16 19 = .ok (.goto (-13), 3) := by decide +kernel
theorem dJ7_fill_d0a16_22 : decode cJ7_fill_d0a16 22 = .ok (.return_, 1) := by decide +kernel
theorem dJ7_fill_53178_0 : decode cJ7_fill_53178 0 = .ok (.iconst 0, 1) := by decide +kernel
theorem dJ7_fill_53178_1 : decode cJ7_fill_53178 1 = .ok (.istore_n 2, 1) := by decide +kernel
theorem dJ7_fill_53178_2 : decode cJ7_fill_53178 2 = .ok (.aload_n 0, 1) := by decide +kernel
theorem dJ7_fill_53178_3 : decode cJ7_fill_53178 3 = .ok (.arraylength, 1) := by decide +kernel
theorem dJ7_fill_53178_4 : decode cJ7_fill_53178 4 = .ok (.istore_n 3, 1) := by decide +kernel
theorem dJ7_fill_53178_5 : decode cJ7_fill_53178 5 = .ok (.iload_n 2, 1) := by decide +kernel
theorem dJ7_fill_53178_6 : decode cJ7_fill_53178 6 = .ok (.iload_n 3, 1) := by decide +kernel
theorem dJ7_fill_53178_7 : decode cJ7_fill_53178 7 = .ok (.if_icmp .ge 13, 3) := by decide +kernel
theorem dJ7_fill_53178_10 : decode cJ7_fill_53178 10 = .ok (.aload_n 0, 1) := by decide +kernel
theorem dJ7_fill_53178_11 : decode cJ7_fill_53178 11 = .ok (.iload_n 2, 1) := by decide +kernel
theorem dJ7_fill_53178_12 : decode cJ7_fill_53178 12 = .ok (.iload_n 1, 1) := by decide +kernel
theorem dJ7_fill_53178_13 : decode cJ7_fill_53178 13 = .ok (.iastore, 1) := by decide +kernel
theorem dJ7_fill_53178_14 : decode cJ7_fill_53178 14 = .ok (.iinc 2 1, 3) := by decide +kernel
theorem dJ7_fill_53178_17 : decode cJ7_fill_53178 17 = .ok (.goto (-12), 3) := by decide +kernel
theorem dJ7_fill_53178_20 : decode cJ7_fill_53178 20 = .ok (.return_, 1) := by decide +kernel
theorem dL_place_0 : decode cL_place 0 = .ok (.aload 5, 2) := by decide +kernel
theorem dL_place_2 : decode cL_place 2 = .ok (.iconst 0, 1) := by decide +kernel
theorem dL_place_3 : decode cL_place 3 = .ok (.aload_n 0, 1) := by decide +kernel
theorem dL_place_4 : decode cL_place 4 = .ok (.iload_n 1, 1) := by decide +kernel
theorem dL_place_5 : decode cL_place 5 = .ok (.iload_n 2, 1) := by decide +kernel
theorem dL_place_6 : decode cL_place 6 = .ok (.iload_n 3, 1) := by decide +kernel
theorem dL_place_7 : decode cL_place 7 = .ok (.iload 4, 2) := by decide +kernel
theorem dL_place_9 : decode cL_place 9 = .ok (.invokevirtual 7, 3) := by decide +kernel
theorem dL_place_12 : decode cL_place 12 = .ok (.i2l, 1) := by decide +kernel
theorem dL_place_13 : decode cL_place 13 = .ok (.lastore, 1) := by decide +kernel
theorem dL_place_14 : decode cL_place 14 = .ok (.goto 11, 3) := by decide +kernel
theorem dL_place_17 : decode cL_place 17 = .ok (.astore 6, 2) := by decide +kernel
theorem dL_place_19 : decode cL_place 19 = .ok (.iconst 1, 1) := by decide +kernel
theorem dL_place_20 : decode cL_place 20 = .ok (.ireturn, 1) := by decide +kernel
theorem dL_place_21 : decode cL_place 21 = .ok (.astore 6, 2) := by decide +kernel
theorem dL_place_23 : decode cL_place 23 = .ok (.iconst 2, 1) := by decide +kernel
theorem dL_place_24 : decode cL_place 24 = .ok (.ireturn, 1) := by decide +kernel
theorem dL_place_25 : decode cL_place 25 = .ok (.iconst 0, 1) := by decide +kernel
theorem dL_place_26 : decode cL_place 26 = .ok (.ireturn, 1) := by decide +kernel
theorem dL_sign_0 : decode cL_sign 0 = .ok (.aload 4, 2) := by decide +kernel
theorem dL_sign_2 : decode cL_sign 2 = .ok (.iconst 0, 1) := by decide +kernel
theorem dL_sign_3 : decode cL_sign 3 = .ok (.aload_n 0, 1) := by decide +kernel
theorem dL_sign_4 : decode cL_sign 4 = .ok (.iload_n 1, 1) := by decide +kernel
theorem dL_sign_5 : decode cL_sign 5 = .ok (.iload_n 2, 1) := by decide +kernel
theorem dL_sign_6 : decode cL_sign 6 = .ok (.iload_n 3, 1) := by decide +kernel
theorem dL_sign_7 : decode cL_sign 7 = .ok (.invokevirtual 17, 3) := by decide +kernel
theorem dL_sign_10 : decode cL_sign 10 = .ok (.i2l, 1) := by decide +kernel
theorem dL_sign_11 : decode cL_sign 11 = .ok (.lastore, 1) := by decide +kernel
theorem dL_sign_12 : decode cL_sign 12 = .ok (.goto 15, 3) := by decide +kernel
theorem dL_sign_15 : decode cL_sign 15 = .ok (.astore 5, 2) := by decide +kernel
theorem dL_sign_17 : decode cL_sign 17 = .ok (.iconst 1, 1) := by decide +kernel
theorem dL_sign_18 : decode cL_sign 18 = .ok (.ireturn, 1) := by decide +kernel
theorem dL_sign_19 : decode cL_sign 19 = .ok (.astore 5, 2) := by decide +kernel
theorem dL_sign_21 : decode cL_sign 21 = .ok (.iconst 2, 1) := by decide +kernel
theorem dL_sign_22 : decode cL_sign 22 = .ok (.ireturn, 1) := by decide +kernel
theorem dL_sign_23 : decode cL_sign 23 = .ok (.astore 5, 2) := by decide +kernel
theorem dL_sign_25 : decode cL_sign 25 = .ok (.iconst 3, 1) := by decide +kernel
theorem dL_sign_26 : decode cL_sign 26 = .ok (.ireturn, 1) := by decide +kernel
theorem dL_sign_27 : decode cL_sign 27 = .ok (.iconst 0, 1) := by decide +kernel
theorem dL_sign_28 : decode cL_sign 28 = .ok (.ireturn, 1) := by decide +kernel
theorem dL_lack_0 : decode cL_lack 0 = .ok (.aload_n 2, 1) := by decide +kernel
theorem dL_lack_1 : decode cL_lack 1 = .ok (.iconst 0, 1) := by decide +kernel
theorem dL_lack_2 : decode cL_lack 2 = .ok (.aload_n 0, 1) := by decide +kernel
theorem dL_lack_3 : decode cL_lack 3 = .ok (.iload_n 1, 1) := by decide +kernel
theorem dL_lack_4 : decode cL_lack 4 = .ok (.invokevirtual 23, 3) := by decide +kernel
theorem dL_lack_7 : decode cL_lack 7 = .ok (.i2l, 1) := by decide +kernel
theorem dL_lack_8 : decode cL_lack 8 = .ok (.lastore, 1) := by decide +kernel
theorem dL_lack_9 : decode cL_lack 9 = .ok (.goto 9, 3) := by decide +kernel
theorem dL_lack_12 : decode cL_lack 12 = .ok (.astore_n 3, 1) := by decide +kernel
theorem dL_lack_13 : decode cL_lack 13 = .ok (.iconst 1, 1) := by decide +kernel
theorem dL_lack_14 : decode cL_lack 14 = .ok (.ireturn, 1) := by decide +kernel
theorem dL_lack_15 : decode cL_lack 15 = .ok (.astore_n 3, 1) := by decide +kernel
theorem dL_lack_16 : decode cL_lack 16 = .ok (.iconst 2, 1) := by decide +kernel
theorem dL_lack_17 : decode cL_lack 17 = .ok (.ireturn, 1) := by decide +kernel
theorem dL_lack_18 : decode cL_lack 18 = .ok (.iconst 0, 1) := by decide +kernel
theorem dL_lack_19 : decode cL_lack 19 = .ok (.ireturn, 1) := by decide +kernel
theorem dL_rules_0 : decode cL_rules 0 = .ok (.aload 4, 2) := by decide +kernel
theorem dL_rules_2 : decode cL_rules 2 = .ok (.iconst 0, 1) := by decide +kernel
theorem dL_rules_3 : decode cL_rules 3 = .ok (.aload_n 0, 1) := by decide +kernel
theorem dL_rules_4 : decode cL_rules 4 = .ok (.iload_n 1, 1) := by decide +kernel
theorem dL_rules_5 : decode cL_rules 5 = .ok (.iload_n 2, 1) := by decide +kernel
theorem dL_rules_6 : decode cL_rules 6 = .ok (.iload_n 3, 1) := by decide +kernel
theorem dL_rules_7 : decode cL_rules 7 = .ok (.invokevirtual 27, 3) := by decide +kernel
theorem dL_rules_10 : decode cL_rules 10 = .ok (.i2l, 1) := by decide +kernel
theorem dL_rules_11 : decode cL_rules 11 = .ok (.lastore, 1) := by decide +kernel
theorem dL_rules_12 : decode cL_rules 12 = .ok (.goto 11, 3) := by decide +kernel
theorem dL_rules_15 : decode cL_rules 15 = .ok (.astore 5, 2) := by decide +kernel
theorem dL_rules_17 : decode cL_rules 17 = .ok (.iconst 1, 1) := by decide +kernel
theorem dL_rules_18 : decode cL_rules 18 = .ok (.ireturn, 1) := by decide +kernel
theorem dL_rules_19 : decode cL_rules 19 = .ok (.astore 5, 2) := by decide +kernel
theorem dL_rules_21 : decode cL_rules 21 = .ok (.iconst 2, 1) := by decide +kernel
theorem dL_rules_22 : decode cL_rules 22 = .ok (.ireturn, 1) := by decide +kernel
theorem dL_rules_23 : decode cL_rules 23 = .ok (.iconst 0, 1) := by decide +kernel
theorem dL_rules_24 : decode cL_rules 24 = .ok (.ireturn, 1) := by decide +kernel
theorem dL_harm_0 : decode cL_harm 0 = .ok (.aload 5, 2) := by decide +kernel
theorem dL_harm_2 : decode cL_harm 2 = .ok (.iconst 0, 1) := by decide +kernel
theorem dL_harm_3 : decode cL_harm 3 = .ok (.aload_n 0, 1) := by decide +kernel
theorem dL_harm_4 : decode cL_harm 4 = .ok (.iload_n 1, 1) := by decide +kernel
theorem dL_harm_5 : decode cL_harm 5 = .ok (.iload_n 2, 1) := by decide +kernel
theorem dL_harm_6 : decode cL_harm 6 = .ok (.iload_n 3, 1) := by decide +kernel
theorem dL_harm_7 : decode cL_harm 7 = .ok (.iload 4, 2) := by decide +kernel
theorem dL_harm_9 : decode cL_harm 9 = .ok (.invokevirtual 30, 3) := by decide +kernel
theorem dL_harm_12 : decode cL_harm 12 = .ok (.i2l, 1) := by decide +kernel
theorem dL_harm_13 : decode cL_harm 13 = .ok (.lastore, 1) := by decide +kernel
theorem dL_harm_14 : decode cL_harm 14 = .ok (.goto 11, 3) := by decide +kernel
theorem dL_harm_17 : decode cL_harm 17 = .ok (.astore 6, 2) := by decide +kernel
theorem dL_harm_19 : decode cL_harm 19 = .ok (.iconst 1, 1) := by decide +kernel
theorem dL_harm_20 : decode cL_harm 20 = .ok (.ireturn, 1) := by decide +kernel
theorem dL_harm_21 : decode cL_harm 21 = .ok (.astore 6, 2) := by decide +kernel
theorem dL_harm_23 : decode cL_harm 23 = .ok (.iconst 2, 1) := by decide +kernel
theorem dL_harm_24 : decode cL_harm 24 = .ok (.ireturn, 1) := by decide +kernel
theorem dL_harm_25 : decode cL_harm 25 = .ok (.iconst 0, 1) := by decide +kernel
theorem dL_harm_26 : decode cL_harm 26 = .ok (.ireturn, 1) := by decide +kernel
theorem dL_grow_0 : decode cL_grow 0 = .ok (.aload_n 3, 1) := by decide +kernel
theorem dL_grow_1 : decode cL_grow 1 = .ok (.iconst 0, 1) := by decide +kernel
theorem dL_grow_2 : decode cL_grow 2 = .ok (.aload_n 0, 1) := by decide +kernel
theorem dL_grow_3 : decode cL_grow 3 = .ok (.iload_n 1, 1) := by decide +kernel
theorem dL_grow_4 : decode cL_grow 4 = .ok (.iload_n 2, 1) := by decide +kernel
theorem dL_grow_5 : decode cL_grow 5 = .ok (.invokevirtual 33, 3) := by decide +kernel
theorem dL_grow_8 : decode cL_grow 8 = .ok (.lastore, 1) := by decide +kernel
theorem dL_grow_9 : decode cL_grow 9 = .ok (.goto 15, 3) := by decide +kernel
theorem dL_grow_12 : decode cL_grow 12 = .ok (.astore 4, 2) := by decide +kernel
theorem dL_grow_14 : decode cL_grow 14 = .ok (.iconst 1, 1) := by decide +kernel
theorem dL_grow_15 : decode cL_grow 15 = .ok (.ireturn, 1) := by decide +kernel
theorem dL_grow_16 : decode cL_grow 16 = .ok (.astore 4, 2) := by decide +kernel
theorem dL_grow_18 : decode cL_grow 18 = .ok (.iconst 2, 1) := by decide +kernel
theorem dL_grow_19 : decode cL_grow 19 = .ok (.ireturn, 1) := by decide +kernel
theorem dL_grow_20 : decode cL_grow 20 = .ok (.astore 4, 2) := by decide +kernel
theorem dL_grow_22 : decode cL_grow 22 = .ok (.iconst 3, 1) := by decide +kernel
theorem dL_grow_23 : decode cL_grow 23 = .ok (.ireturn, 1) := by decide +kernel
theorem dL_grow_24 : decode cL_grow 24 = .ok (.iconst 0, 1) := by decide +kernel
theorem dL_grow_25 : decode cL_grow 25 = .ok (.ireturn, 1) := by decide +kernel
theorem dL_settle_0 : decode cL_settle 0 = .ok (.aload_n 3, 1) := by decide +kernel
theorem dL_settle_1 : decode cL_settle 1 = .ok (.iconst 0, 1) := by decide +kernel
theorem dL_settle_2 : decode cL_settle 2 = .ok (.aload_n 0, 1) := by decide +kernel
theorem dL_settle_3 : decode cL_settle 3 = .ok (.iload_n 1, 1) := by decide +kernel
theorem dL_settle_4 : decode cL_settle 4 = .ok (.iload_n 2, 1) := by decide +kernel
theorem dL_settle_5 : decode cL_settle 5 = .ok (.invokevirtual 37, 3) := by decide +kernel
theorem dL_settle_8 : decode cL_settle 8 = .ok (.i2l, 1) := by decide +kernel
theorem dL_settle_9 : decode cL_settle 9 = .ok (.lastore, 1) := by decide +kernel
theorem dL_settle_10 : decode cL_settle 10 = .ok (.goto 11, 3) := by decide +kernel
theorem dL_settle_13 : decode cL_settle 13 = .ok (.astore 4, 2) := by decide +kernel
theorem dL_settle_15 : decode cL_settle 15 = .ok (.iconst 1, 1) := by decide +kernel
theorem dL_settle_16 : decode cL_settle 16 = .ok (.ireturn, 1) := by decide +kernel
theorem dL_settle_17 : decode cL_settle 17 = .ok (.astore 4, 2) := by decide +kernel
theorem dL_settle_19 : decode cL_settle 19 = .ok (.iconst 2, 1) := by decide +kernel
theorem dL_settle_20 : decode cL_settle 20 = .ok (.ireturn, 1) := by decide +kernel
theorem dL_settle_21 : decode cL_settle 21 = .ok (.iconst 0, 1) := by decide +kernel
theorem dL_settle_22 : decode cL_settle 22 = .ok (.ireturn, 1) := by decide +kernel
theorem dL_fall_0 : decode cL_fall 0 = .ok (.aload_n 2, 1) := by decide +kernel
theorem dL_fall_1 : decode cL_fall 1 = .ok (.iconst 0, 1) := by decide +kernel
theorem dL_fall_2 : decode cL_fall 2 = .ok (.aload_n 0, 1) := by decide +kernel
theorem dL_fall_3 : decode cL_fall 3 = .ok (.iload_n 1, 1) := by decide +kernel
theorem dL_fall_4 : decode cL_fall 4 = .ok (.invokevirtual 41, 3) := by decide +kernel
theorem dL_fall_7 : decode cL_fall 7 = .ok (.i2l, 1) := by decide +kernel
theorem dL_fall_8 : decode cL_fall 8 = .ok (.lastore, 1) := by decide +kernel
theorem dL_fall_9 : decode cL_fall 9 = .ok (.goto 9, 3) := by decide +kernel
theorem dL_fall_12 : decode cL_fall 12 = .ok (.astore_n 3, 1) := by decide +kernel
theorem dL_fall_13 : decode cL_fall 13 = .ok (.iconst 1, 1) := by decide +kernel
theorem dL_fall_14 : decode cL_fall 14 = .ok (.ireturn, 1) := by decide +kernel
theorem dL_fall_15 : decode cL_fall 15 = .ok (.astore_n 3, 1) := by decide +kernel
theorem dL_fall_16 : decode cL_fall 16 = .ok (.iconst 2, 1) := by decide +kernel
theorem dL_fall_17 : decode cL_fall 17 = .ok (.ireturn, 1) := by decide +kernel
theorem dL_fall_18 : decode cL_fall 18 = .ok (.iconst 0, 1) := by decide +kernel
theorem dL_fall_19 : decode cL_fall 19 = .ok (.ireturn, 1) := by decide +kernel
theorem dL_reopen_0 : decode cL_reopen 0 = .ok (.aload_n 2, 1) := by decide +kernel
theorem dL_reopen_1 : decode cL_reopen 1 = .ok (.iconst 0, 1) := by decide +kernel
theorem dL_reopen_2 : decode cL_reopen 2 = .ok (.aload_n 0, 1) := by decide +kernel
theorem dL_reopen_3 : decode cL_reopen 3 = .ok (.iload_n 1, 1) := by decide +kernel
theorem dL_reopen_4 : decode cL_reopen 4 = .ok (.invokevirtual 44, 3) := by decide +kernel
theorem dL_reopen_7 : decode cL_reopen 7 = .ok (.lastore, 1) := by decide +kernel
theorem dL_reopen_8 : decode cL_reopen 8 = .ok (.goto 9, 3) := by decide +kernel
theorem dL_reopen_11 : decode cL_reopen 11 = .ok (.astore_n 3, 1) := by decide +kernel
theorem dL_reopen_12 : decode cL_reopen 12 = .ok (.iconst 1, 1) := by decide +kernel
theorem dL_reopen_13 : decode cL_reopen 13 = .ok (.ireturn, 1) := by decide +kernel
theorem dL_reopen_14 : decode cL_reopen 14 = .ok (.astore_n 3, 1) := by decide +kernel
theorem dL_reopen_15 : decode cL_reopen 15 = .ok (.iconst 2, 1) := by decide +kernel
theorem dL_reopen_16 : decode cL_reopen 16 = .ok (.ireturn, 1) := by decide +kernel
theorem dL_reopen_17 : decode cL_reopen 17 = .ok (.iconst 0, 1) := by decide +kernel
theorem dL_reopen_18 : decode cL_reopen 18 = .ok (.ireturn, 1) := by decide +kernel
theorem dL_told_0 : decode cL_told 0 = .ok (.aload_n 2, 1) := by decide +kernel
theorem dL_told_1 : decode cL_told 1 = .ok (.iconst 0, 1) := by decide +kernel
theorem dL_told_2 : decode cL_told 2 = .ok (.aload_n 0, 1) := by decide +kernel
theorem dL_told_3 : decode cL_told 3 = .ok (.iload_n 1, 1) := by decide +kernel
theorem dL_told_4 : decode cL_told 4 = .ok (.invokevirtual 48, 3) := by decide +kernel
theorem dL_told_7 : decode cL_told 7 = .ok (.i2l, 1) := by decide +kernel
theorem dL_told_8 : decode cL_told 8 = .ok (.lastore, 1) := by decide +kernel
theorem dL_told_9 : decode cL_told 9 = .ok (.goto 6, 3) := by decide +kernel
theorem dL_told_12 : decode cL_told 12 = .ok (.astore_n 3, 1) := by decide +kernel
theorem dL_told_13 : decode cL_told 13 = .ok (.iconst 1, 1) := by decide +kernel
theorem dL_told_14 : decode cL_told 14 = .ok (.ireturn, 1) := by decide +kernel
theorem dL_told_15 : decode cL_told 15 = .ok (.iconst 0, 1) := by decide +kernel
theorem dL_told_16 : decode cL_told 16 = .ok (.ireturn, 1) := by decide +kernel
theorem dL_event_0 : decode cL_event 0 = .ok (.aload_n 3, 1) := by decide +kernel
theorem dL_event_1 : decode cL_event 1 = .ok (.iconst 0, 1) := by decide +kernel
theorem dL_event_2 : decode cL_event 2 = .ok (.aload_n 0, 1) := by decide +kernel
theorem dL_event_3 : decode cL_event 3 = .ok (.iload_n 1, 1) := by decide +kernel
theorem dL_event_4 : decode cL_event 4 = .ok (.iload_n 2, 1) := by decide +kernel
theorem dL_event_5 : decode cL_event 5 = .ok (.invokevirtual 51, 3) := by decide +kernel
theorem dL_event_8 : decode cL_event 8 = .ok (.i2l, 1) := by decide +kernel
theorem dL_event_9 : decode cL_event 9 = .ok (.lastore, 1) := by decide +kernel
theorem dL_event_10 : decode cL_event 10 = .ok (.goto 11, 3) := by decide +kernel
theorem dL_event_13 : decode cL_event 13 = .ok (.astore 4, 2) := by decide +kernel
theorem dL_event_15 : decode cL_event 15 = .ok (.iconst 1, 1) := by decide +kernel
theorem dL_event_16 : decode cL_event 16 = .ok (.ireturn, 1) := by decide +kernel
theorem dL_event_17 : decode cL_event 17 = .ok (.astore 4, 2) := by decide +kernel
theorem dL_event_19 : decode cL_event 19 = .ok (.iconst 2, 1) := by decide +kernel
theorem dL_event_20 : decode cL_event 20 = .ok (.ireturn, 1) := by decide +kernel
theorem dL_event_21 : decode cL_event 21 = .ok (.iconst 0, 1) := by decide +kernel
theorem dL_event_22 : decode cL_event 22 = .ok (.ireturn, 1) := by decide +kernel
theorem dL_layer_0 : decode cL_layer 0 = .ok (.aload_n 3, 1) := by decide +kernel
theorem dL_layer_1 : decode cL_layer 1 = .ok (.iconst 0, 1) := by decide +kernel
theorem dL_layer_2 : decode cL_layer 2 = .ok (.aload_n 0, 1) := by decide +kernel
theorem dL_layer_3 : decode cL_layer 3 = .ok (.iload_n 1, 1) := by decide +kernel
theorem dL_layer_4 : decode cL_layer 4 = .ok (.iload_n 2, 1) := by decide +kernel
theorem dL_layer_5 : decode cL_layer 5 = .ok (.invokevirtual 54, 3) := by decide +kernel
theorem dL_layer_8 : decode cL_layer 8 = .ok (.lastore, 1) := by decide +kernel
theorem dL_layer_9 : decode cL_layer 9 = .ok (.goto 11, 3) := by decide +kernel
theorem dL_layer_12 : decode cL_layer 12 = .ok (.astore 4, 2) := by decide +kernel
theorem dL_layer_14 : decode cL_layer 14 = .ok (.iconst 1, 1) := by decide +kernel
theorem dL_layer_15 : decode cL_layer 15 = .ok (.ireturn, 1) := by decide +kernel
theorem dL_layer_16 : decode cL_layer 16 = .ok (.astore 4, 2) := by decide +kernel
theorem dL_layer_18 : decode cL_layer 18 = .ok (.iconst 2, 1) := by decide +kernel
theorem dL_layer_19 : decode cL_layer 19 = .ok (.ireturn, 1) := by decide +kernel
theorem dL_layer_20 : decode cL_layer 20 = .ok (.iconst 0, 1) := by decide +kernel
theorem dL_layer_21 : decode cL_layer 21 = .ok (.ireturn, 1) := by decide +kernel
theorem dL_signed_0 : decode cL_signed 0 = .ok (.aload 4, 2) := by decide +kernel
theorem dL_signed_2 : decode cL_signed 2 = .ok (.iconst 0, 1) := by decide +kernel
theorem dL_signed_3 : decode cL_signed 3 = .ok (.aload_n 0, 1) := by decide +kernel
theorem dL_signed_4 : decode cL_signed 4 = .ok (.iload_n 1, 1) := by decide +kernel
theorem dL_signed_5 : decode cL_signed 5 = .ok (.iload_n 2, 1) := by decide +kernel
theorem dL_signed_6 : decode cL_signed 6 = .ok (.iload_n 3, 1) := by decide +kernel
theorem dL_signed_7 : decode cL_signed 7 = .ok (.invokevirtual 57, 3) := by decide +kernel
theorem dL_signed_10 : decode cL_signed 10 = .ok (.lastore, 1) := by decide +kernel
theorem dL_signed_11 : decode cL_signed 11 = .ok (.goto 11, 3) := by decide +kernel
theorem dL_signed_14 : decode cL_signed 14 = .ok (.astore 5, 2) := by decide +kernel
theorem dL_signed_16 : decode cL_signed 16 = .ok (.iconst 1, 1) := by decide +kernel
theorem dL_signed_17 : decode cL_signed 17 = .ok (.ireturn, 1) := by decide +kernel
theorem dL_signed_18 : decode cL_signed 18 = .ok (.astore 5, 2) := by decide +kernel
theorem dL_signed_20 : decode cL_signed 20 = .ok (.iconst 2, 1) := by decide +kernel
theorem dL_signed_21 : decode cL_signed 21 = .ok (.ireturn, 1) := by decide +kernel
theorem dL_signed_22 : decode cL_signed 22 = .ok (.iconst 0, 1) := by decide +kernel
theorem dL_signed_23 : decode cL_signed 23 = .ok (.ireturn, 1) := by decide +kernel
theorem dL_year_0 : decode cL_year 0 = .ok (.aload_n 3, 1) := by decide +kernel
theorem dL_year_1 : decode cL_year 1 = .ok (.iconst 0, 1) := by decide +kernel
theorem dL_year_2 : decode cL_year 2 = .ok (.aload_n 0, 1) := by decide +kernel
theorem dL_year_3 : decode cL_year 3 = .ok (.iload_n 1, 1) := by decide +kernel
theorem dL_year_4 : decode cL_year 4 = .ok (.iload_n 2, 1) := by decide +kernel
theorem dL_year_5 : decode cL_year 5 = .ok (.invokevirtual 61, 3) := by decide +kernel
theorem dL_year_8 : decode cL_year 8 = .ok (.lastore, 1) := by decide +kernel
theorem dL_year_9 : decode cL_year 9 = .ok (.goto 7, 3) := by decide +kernel
theorem dL_year_12 : decode cL_year 12 = .ok (.astore 4, 2) := by decide +kernel
theorem dL_year_14 : decode cL_year 14 = .ok (.iconst 1, 1) := by decide +kernel
theorem dL_year_15 : decode cL_year 15 = .ok (.ireturn, 1) := by decide +kernel
theorem dL_year_16 : decode cL_year 16 = .ok (.iconst 0, 1) := by decide +kernel
theorem dL_year_17 : decode cL_year 17 = .ok (.ireturn, 1) := by decide +kernel
theorem dL_at_0 : decode cL_at 0 = .ok (.aload_n 3, 1) := by decide +kernel
theorem dL_at_1 : decode cL_at 1 = .ok (.iconst 0, 1) := by decide +kernel
theorem dL_at_2 : decode cL_at 2 = .ok (.aload_n 0, 1) := by decide +kernel
theorem dL_at_3 : decode cL_at 3 = .ok (.iload_n 1, 1) := by decide +kernel
theorem dL_at_4 : decode cL_at 4 = .ok (.iload_n 2, 1) := by decide +kernel
theorem dL_at_5 : decode cL_at 5 = .ok (.invokevirtual 64, 3) := by decide +kernel
theorem dL_at_8 : decode cL_at 8 = .ok (.i2l, 1) := by decide +kernel
theorem dL_at_9 : decode cL_at 9 = .ok (.lastore, 1) := by decide +kernel
theorem dL_at_10 : decode cL_at 10 = .ok (.goto 7, 3) := by decide +kernel
theorem dL_at_13 : decode cL_at 13 = .ok (.astore 4, 2) := by decide +kernel
theorem dL_at_15 : decode cL_at 15 = .ok (.iconst 1, 1) := by decide +kernel
theorem dL_at_16 : decode cL_at 16 = .ok (.ireturn, 1) := by decide +kernel
theorem dL_at_17 : decode cL_at 17 = .ok (.iconst 0, 1) := by decide +kernel
theorem dL_at_18 : decode cL_at 18 = .ok (.ireturn, 1) := by decide +kernel
theorem dL_rung_0 : decode cL_rung 0 = .ok (.aload_n 3, 1) := by decide +kernel
theorem dL_rung_1 : decode cL_rung 1 = .ok (.iconst 0, 1) := by decide +kernel
theorem dL_rung_2 : decode cL_rung 2 = .ok (.aload_n 0, 1) := by decide +kernel
theorem dL_rung_3 : decode cL_rung 3 = .ok (.iload_n 1, 1) := by decide +kernel
theorem dL_rung_4 : decode cL_rung 4 = .ok (.iload_n 2, 1) := by decide +kernel
theorem dL_rung_5 : decode cL_rung 5 = .ok (.invokevirtual 67, 3) := by decide +kernel
theorem dL_rung_8 : decode cL_rung 8 = .ok (.i2l, 1) := by decide +kernel
theorem dL_rung_9 : decode cL_rung 9 = .ok (.lastore, 1) := by decide +kernel
theorem dL_rung_10 : decode cL_rung 10 = .ok (.goto 7, 3) := by decide +kernel
theorem dL_rung_13 : decode cL_rung 13 = .ok (.astore 4, 2) := by decide +kernel
theorem dL_rung_15 : decode cL_rung 15 = .ok (.iconst 1, 1) := by decide +kernel
theorem dL_rung_16 : decode cL_rung 16 = .ok (.ireturn, 1) := by decide +kernel
theorem dL_rung_17 : decode cL_rung 17 = .ok (.iconst 0, 1) := by decide +kernel
theorem dL_rung_18 : decode cL_rung 18 = .ok (.ireturn, 1) := by decide +kernel
theorem dL_damage_0 : decode cL_damage 0 = .ok (.aload_n 3, 1) := by decide +kernel
theorem dL_damage_1 : decode cL_damage 1 = .ok (.iconst 0, 1) := by decide +kernel
theorem dL_damage_2 : decode cL_damage 2 = .ok (.aload_n 0, 1) := by decide +kernel
theorem dL_damage_3 : decode cL_damage 3 = .ok (.iload_n 1, 1) := by decide +kernel
theorem dL_damage_4 : decode cL_damage 4 = .ok (.iload_n 2, 1) := by decide +kernel
theorem dL_damage_5 : decode cL_damage 5 = .ok (.invokevirtual 70, 3) := by decide +kernel
theorem dL_damage_8 : decode cL_damage 8 = .ok (.lastore, 1) := by decide +kernel
theorem dL_damage_9 : decode cL_damage 9 = .ok (.goto 11, 3) := by decide +kernel
theorem dL_damage_12 : decode cL_damage 12 = .ok (.astore 4, 2) := by decide +kernel
theorem dL_damage_14 : decode cL_damage 14 = .ok (.iconst 1, 1) := by decide +kernel
theorem dL_damage_15 : decode cL_damage 15 = .ok (.ireturn, 1) := by decide +kernel
theorem dL_damage_16 : decode cL_damage 16 = .ok (.astore 4, 2) := by decide +kernel
theorem dL_damage_18 : decode cL_damage 18 = .ok (.iconst 2, 1) := by decide +kernel
theorem dL_damage_19 : decode cL_damage 19 = .ok (.ireturn, 1) := by decide +kernel
theorem dL_damage_20 : decode cL_damage 20 = .ok (.iconst 0, 1) := by decide +kernel
theorem dL_damage_21 : decode cL_damage 21 = .ok (.ireturn, 1) := by decide +kernel
theorem dL_took_0 : decode cL_took 0 = .ok (.aload_n 3, 1) := by decide +kernel
theorem dL_took_1 : decode cL_took 1 = .ok (.iconst 0, 1) := by decide +kernel
theorem dL_took_2 : decode cL_took 2 = .ok (.aload_n 0, 1) := by decide +kernel
theorem dL_took_3 : decode cL_took 3 = .ok (.iload_n 1, 1) := by decide +kernel
theorem dL_took_4 : decode cL_took 4 = .ok (.iload_n 2, 1) := by decide +kernel
theorem dL_took_5 : decode cL_took 5 = .ok (.invokevirtual 73, 3) := by decide +kernel
theorem dL_took_8 : decode cL_took 8 = .ok (.lastore, 1) := by decide +kernel
theorem dL_took_9 : decode cL_took 9 = .ok (.goto 7, 3) := by decide +kernel
theorem dL_took_12 : decode cL_took 12 = .ok (.astore 4, 2) := by decide +kernel
theorem dL_took_14 : decode cL_took 14 = .ok (.iconst 1, 1) := by decide +kernel
theorem dL_took_15 : decode cL_took 15 = .ok (.ireturn, 1) := by decide +kernel
theorem dL_took_16 : decode cL_took 16 = .ok (.iconst 0, 1) := by decide +kernel
theorem dL_took_17 : decode cL_took 17 = .ok (.ireturn, 1) := by decide +kernel
theorem dL_hole_0 : decode cL_hole 0 = .ok (.aload_n 3, 1) := by decide +kernel
theorem dL_hole_1 : decode cL_hole 1 = .ok (.iconst 0, 1) := by decide +kernel
theorem dL_hole_2 : decode cL_hole 2 = .ok (.aload_n 0, 1) := by decide +kernel
theorem dL_hole_3 : decode cL_hole 3 = .ok (.iload_n 1, 1) := by decide +kernel
theorem dL_hole_4 : decode cL_hole 4 = .ok (.iload_n 2, 1) := by decide +kernel
theorem dL_hole_5 : decode cL_hole 5 = .ok (.invokevirtual 76, 3) := by decide +kernel
theorem dL_hole_8 : decode cL_hole 8 = .ok (.lastore, 1) := by decide +kernel
theorem dL_hole_9 : decode cL_hole 9 = .ok (.goto 7, 3) := by decide +kernel
theorem dL_hole_12 : decode cL_hole 12 = .ok (.astore 4, 2) := by decide +kernel
theorem dL_hole_14 : decode cL_hole 14 = .ok (.iconst 1, 1) := by decide +kernel
theorem dL_hole_15 : decode cL_hole 15 = .ok (.ireturn, 1) := by decide +kernel
theorem dL_hole_16 : decode cL_hole 16 = .ok (.iconst 0, 1) := by decide +kernel
theorem dL_hole_17 : decode cL_hole 17 = .ok (.ireturn, 1) := by decide +kernel
theorem dL_moved_0 : decode cL_moved 0 = .ok (.aload_n 3, 1) := by decide +kernel
theorem dL_moved_1 : decode cL_moved 1 = .ok (.iconst 0, 1) := by decide +kernel
theorem dL_moved_2 : decode cL_moved 2 = .ok (.aload_n 0, 1) := by decide +kernel
theorem dL_moved_3 : decode cL_moved 3 = .ok (.iload_n 1, 1) := by decide +kernel
theorem dL_moved_4 : decode cL_moved 4 = .ok (.iload_n 2, 1) := by decide +kernel
theorem dL_moved_5 : decode cL_moved 5 = .ok (.invokevirtual 79, 3) := by decide +kernel
theorem dL_moved_8 : decode cL_moved 8 = .ok (.lastore, 1) := by decide +kernel
theorem dL_moved_9 : decode cL_moved 9 = .ok (.goto 7, 3) := by decide +kernel
theorem dL_moved_12 : decode cL_moved 12 = .ok (.astore 4, 2) := by decide +kernel
theorem dL_moved_14 : decode cL_moved 14 = .ok (.iconst 1, 1) := by decide +kernel
theorem dL_moved_15 : decode cL_moved 15 = .ok (.ireturn, 1) := by decide +kernel
theorem dL_moved_16 : decode cL_moved 16 = .ok (.iconst 0, 1) := by decide +kernel
theorem dL_moved_17 : decode cL_moved 17 = .ok (.ireturn, 1) := by decide +kernel
theorem dL_bears_0 : decode cL_bears 0 = .ok (.aload_n 3, 1) := by decide +kernel
theorem dL_bears_1 : decode cL_bears 1 = .ok (.iconst 0, 1) := by decide +kernel
theorem dL_bears_2 : decode cL_bears 2 = .ok (.aload_n 0, 1) := by decide +kernel
theorem dL_bears_3 : decode cL_bears 3 = .ok (.iload_n 1, 1) := by decide +kernel
theorem dL_bears_4 : decode cL_bears 4 = .ok (.iload_n 2, 1) := by decide +kernel
theorem dL_bears_5 : decode cL_bears 5 = .ok (.invokevirtual 82, 3) := by decide +kernel
theorem dL_bears_8 : decode cL_bears 8 = .ok (.lastore, 1) := by decide +kernel
theorem dL_bears_9 : decode cL_bears 9 = .ok (.goto 11, 3) := by decide +kernel
theorem dL_bears_12 : decode cL_bears 12 = .ok (.astore 4, 2) := by decide +kernel
theorem dL_bears_14 : decode cL_bears 14 = .ok (.iconst 1, 1) := by decide +kernel
theorem dL_bears_15 : decode cL_bears 15 = .ok (.ireturn, 1) := by decide +kernel
theorem dL_bears_16 : decode cL_bears 16 = .ok (.astore 4, 2) := by decide +kernel
theorem dL_bears_18 : decode cL_bears 18 = .ok (.iconst 2, 1) := by decide +kernel
theorem dL_bears_19 : decode cL_bears 19 = .ok (.ireturn, 1) := by decide +kernel
theorem dL_bears_20 : decode cL_bears 20 = .ok (.iconst 0, 1) := by decide +kernel
theorem dL_bears_21 : decode cL_bears 21 = .ok (.ireturn, 1) := by decide +kernel
theorem dL_falls_0 : decode cL_falls 0 = .ok (.aload_n 3, 1) := by decide +kernel
theorem dL_falls_1 : decode cL_falls 1 = .ok (.iconst 0, 1) := by decide +kernel
theorem dL_falls_2 : decode cL_falls 2 = .ok (.aload_n 0, 1) := by decide +kernel
theorem dL_falls_3 : decode cL_falls 3 = .ok (.iload_n 1, 1) := by decide +kernel
theorem dL_falls_4 : decode cL_falls 4 = .ok (.iload_n 2, 1) := by decide +kernel
theorem dL_falls_5 : decode cL_falls 5 = .ok (.invokevirtual 85, 3) := by decide +kernel
theorem dL_falls_8 : decode cL_falls 8 = .ok (.lastore, 1) := by decide +kernel
theorem dL_falls_9 : decode cL_falls 9 = .ok (.goto 11, 3) := by decide +kernel
theorem dL_falls_12 : decode cL_falls 12 = .ok (.astore 4, 2) := by decide +kernel
theorem dL_falls_14 : decode cL_falls 14 = .ok (.iconst 1, 1) := by decide +kernel
theorem dL_falls_15 : decode cL_falls 15 = .ok (.ireturn, 1) := by decide +kernel
theorem dL_falls_16 : decode cL_falls 16 = .ok (.astore 4, 2) := by decide +kernel
theorem dL_falls_18 : decode cL_falls 18 = .ok (.iconst 2, 1) := by decide +kernel
theorem dL_falls_19 : decode cL_falls 19 = .ok (.ireturn, 1) := by decide +kernel
theorem dL_falls_20 : decode cL_falls 20 = .ok (.iconst 0, 1) := by decide +kernel
theorem dL_falls_21 : decode cL_falls 21 = .ok (.ireturn, 1) := by decide +kernel
theorem dL_insurer_0 : decode cL_insurer 0 = .ok (.aload_n 3, 1) := by decide +kernel
theorem dL_insurer_1 : decode cL_insurer 1 = .ok (.iconst 0, 1) := by decide +kernel
theorem dL_insurer_2 : decode cL_insurer 2 = .ok (.aload_n 0, 1) := by decide +kernel
theorem dL_insurer_3 : decode cL_insurer 3 = .ok (.iload_n 1, 1) := by decide +kernel
theorem dL_insurer_4 : decode cL_insurer 4 = .ok (.iload_n 2, 1) := by decide +kernel
theorem dL_insurer_5 : decode cL_insurer 5 = .ok (.invokevirtual 88, 3) := by decide +kernel
theorem dL_insurer_8 : decode cL_insurer 8 = .ok (.lastore, 1) := by decide +kernel
theorem dL_insurer_9 : decode cL_insurer 9 = .ok (.goto 7, 3) := by decide +kernel
theorem dL_insurer_12 : decode cL_insurer 12 = .ok (.astore 4, 2) := by decide +kernel
theorem dL_insurer_14 : decode cL_insurer 14 = .ok (.iconst 1, 1) := by decide +kernel
theorem dL_insurer_15 : decode cL_insurer 15 = .ok (.ireturn, 1) := by decide +kernel
theorem dL_insurer_16 : decode cL_insurer 16 = .ok (.iconst 0, 1) := by decide +kernel
theorem dL_insurer_17 : decode cL_insurer 17 = .ok (.ireturn, 1) := by decide +kernel
theorem dL_burden_0 : decode cL_burden 0 = .ok (.aload_n 2, 1) := by decide +kernel
theorem dL_burden_1 : decode cL_burden 1 = .ok (.iconst 0, 1) := by decide +kernel
theorem dL_burden_2 : decode cL_burden 2 = .ok (.aload_n 0, 1) := by decide +kernel
theorem dL_burden_3 : decode cL_burden 3 = .ok (.iload_n 1, 1) := by decide +kernel
theorem dL_burden_4 : decode cL_burden 4 = .ok (.invokevirtual 91, 3) := by decide +kernel
theorem dL_burden_7 : decode cL_burden 7 = .ok (.lastore, 1) := by decide +kernel
theorem dL_burden_8 : decode cL_burden 8 = .ok (.goto 6, 3) := by decide +kernel
theorem dL_burden_11 : decode cL_burden 11 = .ok (.astore_n 3, 1) := by decide +kernel
theorem dL_burden_12 : decode cL_burden 12 = .ok (.iconst 1, 1) := by decide +kernel
theorem dL_burden_13 : decode cL_burden 13 = .ok (.ireturn, 1) := by decide +kernel
theorem dL_burden_14 : decode cL_burden 14 = .ok (.iconst 0, 1) := by decide +kernel
theorem dL_burden_15 : decode cL_burden 15 = .ok (.ireturn, 1) := by decide +kernel
theorem dL_rank_0 : decode cL_rank 0 = .ok (.aload_n 2, 1) := by decide +kernel
theorem dL_rank_1 : decode cL_rank 1 = .ok (.iconst 0, 1) := by decide +kernel
theorem dL_rank_2 : decode cL_rank 2 = .ok (.aload_n 0, 1) := by decide +kernel
theorem dL_rank_3 : decode cL_rank 3 = .ok (.iload_n 1, 1) := by decide +kernel
theorem dL_rank_4 : decode cL_rank 4 = .ok (.invokevirtual 94, 3) := by decide +kernel
theorem dL_rank_7 : decode cL_rank 7 = .ok (.i2l, 1) := by decide +kernel
theorem dL_rank_8 : decode cL_rank 8 = .ok (.lastore, 1) := by decide +kernel
theorem dL_rank_9 : decode cL_rank 9 = .ok (.goto 6, 3) := by decide +kernel
theorem dL_rank_12 : decode cL_rank 12 = .ok (.astore_n 3, 1) := by decide +kernel
theorem dL_rank_13 : decode cL_rank 13 = .ok (.iconst 1, 1) := by decide +kernel
theorem dL_rank_14 : decode cL_rank 14 = .ok (.ireturn, 1) := by decide +kernel
theorem dL_rank_15 : decode cL_rank 15 = .ok (.iconst 0, 1) := by decide +kernel
theorem dL_rank_16 : decode cL_rank 16 = .ok (.ireturn, 1) := by decide +kernel
theorem dL_offs_0 : decode cL_offs 0 = .ok (.aload 5, 2) := by decide +kernel
theorem dL_offs_2 : decode cL_offs 2 = .ok (.iconst 0, 1) := by decide +kernel
theorem dL_offs_3 : decode cL_offs 3 = .ok (.aload_n 0, 1) := by decide +kernel
theorem dL_offs_4 : decode cL_offs 4 = .ok (.iload_n 1, 1) := by decide +kernel
theorem dL_offs_5 : decode cL_offs 5 = .ok (.iload_n 2, 1) := by decide +kernel
theorem dL_offs_6 : decode cL_offs 6 = .ok (.iload_n 3, 1) := by decide +kernel
theorem dL_offs_7 : decode cL_offs 7 = .ok (.iload 4, 2) := by decide +kernel
theorem dL_offs_9 : decode cL_offs 9 = .ok (.invokevirtual 97, 3) := by decide +kernel
theorem dL_offs_12 : decode cL_offs 12 = .ok (.i2l, 1) := by decide +kernel
theorem dL_offs_13 : decode cL_offs 13 = .ok (.lastore, 1) := by decide +kernel
theorem dL_offs_14 : decode cL_offs 14 = .ok (.goto 7, 3) := by decide +kernel
theorem dL_offs_17 : decode cL_offs 17 = .ok (.astore 6, 2) := by decide +kernel
theorem dL_offs_19 : decode cL_offs 19 = .ok (.iconst 1, 1) := by decide +kernel
theorem dL_offs_20 : decode cL_offs 20 = .ok (.ireturn, 1) := by decide +kernel
theorem dL_offs_21 : decode cL_offs 21 = .ok (.iconst 0, 1) := by decide +kernel
theorem dL_offs_22 : decode cL_offs 22 = .ok (.ireturn, 1) := by decide +kernel
theorem dL_would_0 : decode cL_would 0 = .ok (.aload 6, 2) := by decide +kernel
theorem dL_would_2 : decode cL_would 2 = .ok (.iconst 0, 1) := by decide +kernel
theorem dL_would_3 : decode cL_would 3 = .ok (.aload_n 0, 1) := by decide +kernel
theorem dL_would_4 : decode cL_would 4 = .ok (.iload_n 1, 1) := by decide +kernel
theorem dL_would_5 : decode cL_would 5 = .ok (.iload_n 2, 1) := by decide +kernel
theorem dL_would_6 : decode cL_would 6 = .ok (.iload_n 3, 1) := by decide +kernel
theorem dL_would_7 : decode cL_would 7 = .ok (.iload 4, 2) := by decide +kernel
theorem dL_would_9 : decode cL_would 9 = .ok (.iload 5, 2) := by decide +kernel
theorem dL_would_11 : decode cL_would 11 = .ok (.invokevirtual 100, 3) := by decide +kernel
theorem dL_would_14 : decode cL_would 14 = .ok (.lastore, 1) := by decide +kernel
theorem dL_would_15 : decode cL_would 15 = .ok (.goto 7, 3) := by decide +kernel
theorem dL_would_18 : decode cL_would 18 = .ok (.astore 7, 2) := by decide +kernel
theorem dL_would_20 : decode cL_would 20 = .ok (.iconst 1, 1) := by decide +kernel
theorem dL_would_21 : decode cL_would 21 = .ok (.ireturn, 1) := by decide +kernel
theorem dL_would_22 : decode cL_would 22 = .ok (.iconst 0, 1) := by decide +kernel
theorem dL_would_23 : decode cL_would 23 = .ok (.ireturn, 1) := by decide +kernel
theorem dL_takes_0 : decode cL_takes 0 = .ok (.aload 6, 2) := by decide +kernel
theorem dL_takes_2 : decode cL_takes 2 = .ok (.iconst 0, 1) := by decide +kernel
theorem dL_takes_3 : decode cL_takes 3 = .ok (.aload_n 0, 1) := by decide +kernel
theorem dL_takes_4 : decode cL_takes 4 = .ok (.iload_n 1, 1) := by decide +kernel
theorem dL_takes_5 : decode cL_takes 5 = .ok (.iload_n 2, 1) := by decide +kernel
theorem dL_takes_6 : decode cL_takes 6 = .ok (.iload_n 3, 1) := by decide +kernel
theorem dL_takes_7 : decode cL_takes 7 = .ok (.iload 4, 2) := by decide +kernel
theorem dL_takes_9 : decode cL_takes 9 = .ok (.iload 5, 2) := by decide +kernel
theorem dL_takes_11 : decode cL_takes 11 = .ok (.invokevirtual 104, 3) := by decide +kernel
theorem dL_takes_14 : decode cL_takes 14 = .ok (.lastore, 1) := by decide +kernel
theorem dL_takes_15 : decode cL_takes 15 = .ok (.goto 11, 3) := by decide +kernel
theorem dL_takes_18 : decode cL_takes 18 = .ok (.astore 7, 2) := by decide +kernel
theorem dL_takes_20 : decode cL_takes 20 = .ok (.iconst 1, 1) := by decide +kernel
theorem dL_takes_21 : decode cL_takes 21 = .ok (.ireturn, 1) := by decide +kernel
theorem dL_takes_22 : decode cL_takes 22 = .ok (.astore 7, 2) := by decide +kernel
theorem dL_takes_24 : decode cL_takes 24 = .ok (.iconst 2, 1) := by decide +kernel
theorem dL_takes_25 : decode cL_takes 25 = .ok (.ireturn, 1) := by decide +kernel
theorem dL_takes_26 : decode cL_takes 26 = .ok (.iconst 0, 1) := by decide +kernel
theorem dL_takes_27 : decode cL_takes 27 = .ok (.ireturn, 1) := by decide +kernel
theorem dL_drops_0 : decode cL_drops 0 = .ok (.aload 6, 2) := by decide +kernel
theorem dL_drops_2 : decode cL_drops 2 = .ok (.iconst 0, 1) := by decide +kernel
theorem dL_drops_3 : decode cL_drops 3 = .ok (.aload_n 0, 1) := by decide +kernel
theorem dL_drops_4 : decode cL_drops 4 = .ok (.iload_n 1, 1) := by decide +kernel
theorem dL_drops_5 : decode cL_drops 5 = .ok (.iload_n 2, 1) := by decide +kernel
theorem dL_drops_6 : decode cL_drops 6 = .ok (.iload_n 3, 1) := by decide +kernel
theorem dL_drops_7 : decode cL_drops 7 = .ok (.iload 4, 2) := by decide +kernel
theorem dL_drops_9 : decode cL_drops 9 = .ok (.iload 5, 2) := by decide +kernel
theorem dL_drops_11 : decode cL_drops 11 = .ok (.invokevirtual 107, 3) := by decide +kernel
theorem dL_drops_14 : decode cL_drops 14 = .ok (.lastore, 1) := by decide +kernel
theorem dL_drops_15 : decode cL_drops 15 = .ok (.goto 7, 3) := by decide +kernel
theorem dL_drops_18 : decode cL_drops 18 = .ok (.astore 7, 2) := by decide +kernel
theorem dL_drops_20 : decode cL_drops 20 = .ok (.iconst 1, 1) := by decide +kernel
theorem dL_drops_21 : decode cL_drops 21 = .ok (.ireturn, 1) := by decide +kernel
theorem dL_drops_22 : decode cL_drops 22 = .ok (.iconst 0, 1) := by decide +kernel
theorem dL_drops_23 : decode cL_drops 23 = .ok (.ireturn, 1) := by decide +kernel
theorem dL_share_0 : decode cL_share 0 = .ok (.aload 6, 2) := by decide +kernel
theorem dL_share_2 : decode cL_share 2 = .ok (.iconst 0, 1) := by decide +kernel
theorem dL_share_3 : decode cL_share 3 = .ok (.aload_n 0, 1) := by decide +kernel
theorem dL_share_4 : decode cL_share 4 = .ok (.iload_n 1, 1) := by decide +kernel
theorem dL_share_5 : decode cL_share 5 = .ok (.iload_n 2, 1) := by decide +kernel
theorem dL_share_6 : decode cL_share 6 = .ok (.iload_n 3, 1) := by decide +kernel
theorem dL_share_7 : decode cL_share 7 = .ok (.iload 4, 2) := by decide +kernel
theorem dL_share_9 : decode cL_share 9 = .ok (.iload 5, 2) := by decide +kernel
theorem dL_share_11 : decode cL_share 11 = .ok (.invokevirtual 110, 3) := by decide +kernel
theorem dL_share_14 : decode cL_share 14 = .ok (.lastore, 1) := by decide +kernel
theorem dL_share_15 : decode cL_share 15 = .ok (.goto 7, 3) := by decide +kernel
theorem dL_share_18 : decode cL_share 18 = .ok (.astore 7, 2) := by decide +kernel
theorem dL_share_20 : decode cL_share 20 = .ok (.iconst 1, 1) := by decide +kernel
theorem dL_share_21 : decode cL_share 21 = .ok (.ireturn, 1) := by decide +kernel
theorem dL_share_22 : decode cL_share 22 = .ok (.iconst 0, 1) := by decide +kernel
theorem dL_share_23 : decode cL_share 23 = .ok (.ireturn, 1) := by decide +kernel
theorem dL_weight_0 : decode cL_weight 0 = .ok (.aload 5, 2) := by decide +kernel
theorem dL_weight_2 : decode cL_weight 2 = .ok (.iconst 0, 1) := by decide +kernel
theorem dL_weight_3 : decode cL_weight 3 = .ok (.aload_n 0, 1) := by decide +kernel
theorem dL_weight_4 : decode cL_weight 4 = .ok (.iload_n 1, 1) := by decide +kernel
theorem dL_weight_5 : decode cL_weight 5 = .ok (.iload_n 2, 1) := by decide +kernel
theorem dL_weight_6 : decode cL_weight 6 = .ok (.iload_n 3, 1) := by decide +kernel
theorem dL_weight_7 : decode cL_weight 7 = .ok (.iload 4, 2) := by decide +kernel
theorem dL_weight_9 : decode cL_weight 9 = .ok (.invokevirtual 113, 3) := by decide +kernel
theorem dL_weight_12 : decode cL_weight 12 = .ok (.lastore, 1) := by decide +kernel
theorem dL_weight_13 : decode cL_weight 13 = .ok (.goto 7, 3) := by decide +kernel
theorem dL_weight_16 : decode cL_weight 16 = .ok (.astore 6, 2) := by decide +kernel
theorem dL_weight_18 : decode cL_weight 18 = .ok (.iconst 1, 1) := by decide +kernel
theorem dL_weight_19 : decode cL_weight 19 = .ok (.ireturn, 1) := by decide +kernel
theorem dL_weight_20 : decode cL_weight 20 = .ok (.iconst 0, 1) := by decide +kernel
theorem dL_weight_21 : decode cL_weight 21 = .ok (.ireturn, 1) := by decide +kernel
theorem dL_picks_0 : decode cL_picks 0 = .ok (.aload 5, 2) := by decide +kernel
theorem dL_picks_2 : decode cL_picks 2 = .ok (.iconst 0, 1) := by decide +kernel
theorem dL_picks_3 : decode cL_picks 3 = .ok (.aload_n 0, 1) := by decide +kernel
theorem dL_picks_4 : decode cL_picks 4 = .ok (.iload_n 1, 1) := by decide +kernel
theorem dL_picks_5 : decode cL_picks 5 = .ok (.iload_n 2, 1) := by decide +kernel
theorem dL_picks_6 : decode cL_picks 6 = .ok (.iload_n 3, 1) := by decide +kernel
theorem dL_picks_7 : decode cL_picks 7 = .ok (.iload 4, 2) := by decide +kernel
theorem dL_picks_9 : decode cL_picks 9 = .ok (.invokevirtual 117, 3) := by decide +kernel
theorem dL_picks_12 : decode cL_picks 12 = .ok (.i2l, 1) := by decide +kernel
theorem dL_picks_13 : decode cL_picks 13 = .ok (.lastore, 1) := by decide +kernel
theorem dL_picks_14 : decode cL_picks 14 = .ok (.goto 7, 3) := by decide +kernel
theorem dL_picks_17 : decode cL_picks 17 = .ok (.astore 6, 2) := by decide +kernel
theorem dL_picks_19 : decode cL_picks 19 = .ok (.iconst 1, 1) := by decide +kernel
theorem dL_picks_20 : decode cL_picks 20 = .ok (.ireturn, 1) := by decide +kernel
theorem dL_picks_21 : decode cL_picks 21 = .ok (.iconst 0, 1) := by decide +kernel
theorem dL_picks_22 : decode cL_picks 22 = .ok (.ireturn, 1) := by decide +kernel
theorem dL_other_0 : decode cL_other 0 = .ok (.aload 5, 2) := by decide +kernel
theorem dL_other_2 : decode cL_other 2 = .ok (.iconst 0, 1) := by decide +kernel
theorem dL_other_3 : decode cL_other 3 = .ok (.aload_n 0, 1) := by decide +kernel
theorem dL_other_4 : decode cL_other 4 = .ok (.iload_n 1, 1) := by decide +kernel
theorem dL_other_5 : decode cL_other 5 = .ok (.iload_n 2, 1) := by decide +kernel
theorem dL_other_6 : decode cL_other 6 = .ok (.iload_n 3, 1) := by decide +kernel
theorem dL_other_7 : decode cL_other 7 = .ok (.iload 4, 2) := by decide +kernel
theorem dL_other_9 : decode cL_other 9 = .ok (.invokevirtual 120, 3) := by decide +kernel
theorem dL_other_12 : decode cL_other 12 = .ok (.lastore, 1) := by decide +kernel
theorem dL_other_13 : decode cL_other 13 = .ok (.goto 7, 3) := by decide +kernel
theorem dL_other_16 : decode cL_other 16 = .ok (.astore 6, 2) := by decide +kernel
theorem dL_other_18 : decode cL_other 18 = .ok (.iconst 1, 1) := by decide +kernel
theorem dL_other_19 : decode cL_other 19 = .ok (.ireturn, 1) := by decide +kernel
theorem dL_other_20 : decode cL_other 20 = .ok (.iconst 0, 1) := by decide +kernel
theorem dL_other_21 : decode cL_other 21 = .ok (.ireturn, 1) := by decide +kernel
theorem dL_best_0 : decode cL_best 0 = .ok (.aload_n 3, 1) := by decide +kernel
theorem dL_best_1 : decode cL_best 1 = .ok (.iconst 0, 1) := by decide +kernel
theorem dL_best_2 : decode cL_best 2 = .ok (.aload_n 0, 1) := by decide +kernel
theorem dL_best_3 : decode cL_best 3 = .ok (.iload_n 1, 1) := by decide +kernel
theorem dL_best_4 : decode cL_best 4 = .ok (.iload_n 2, 1) := by decide +kernel
theorem dL_best_5 : decode cL_best 5 = .ok (.invokevirtual 123, 3) := by decide +kernel
theorem dL_best_8 : decode cL_best 8 = .ok (.lastore, 1) := by decide +kernel
theorem dL_best_9 : decode cL_best 9 = .ok (.goto 7, 3) := by decide +kernel
theorem dL_best_12 : decode cL_best 12 = .ok (.astore 4, 2) := by decide +kernel
theorem dL_best_14 : decode cL_best 14 = .ok (.iconst 1, 1) := by decide +kernel
theorem dL_best_15 : decode cL_best 15 = .ok (.ireturn, 1) := by decide +kernel
theorem dL_best_16 : decode cL_best 16 = .ok (.iconst 0, 1) := by decide +kernel
theorem dL_best_17 : decode cL_best 17 = .ok (.ireturn, 1) := by decide +kernel
theorem dL_without_0 : decode cL_without 0 = .ok (.aload_n 3, 1) := by decide +kernel
theorem dL_without_1 : decode cL_without 1 = .ok (.iconst 0, 1) := by decide +kernel
theorem dL_without_2 : decode cL_without 2 = .ok (.aload_n 0, 1) := by decide +kernel
theorem dL_without_3 : decode cL_without 3 = .ok (.iload_n 1, 1) := by decide +kernel
theorem dL_without_4 : decode cL_without 4 = .ok (.iload_n 2, 1) := by decide +kernel
theorem dL_without_5 : decode cL_without 5 = .ok (.invokevirtual 126, 3) := by decide +kernel
theorem dL_without_8 : decode cL_without 8 = .ok (.lastore, 1) := by decide +kernel
theorem dL_without_9 : decode cL_without 9 = .ok (.goto 11, 3) := by decide +kernel
theorem dL_without_12 : decode cL_without 12 = .ok (.astore 4, 2) := by decide +kernel
theorem dL_without_14 : decode cL_without 14 = .ok (.iconst 1, 1) := by decide +kernel
theorem dL_without_15 : decode cL_without 15 = .ok (.ireturn, 1) := by decide +kernel
theorem dL_without_16 : decode cL_without 16 = .ok (.astore 4, 2) := by decide +kernel
theorem dL_without_18 : decode cL_without 18 = .ok (.iconst 2, 1) := by decide +kernel
theorem dL_without_19 : decode cL_without 19 = .ok (.ireturn, 1) := by decide +kernel
theorem dL_without_20 : decode cL_without 20 = .ok (.iconst 0, 1) := by decide +kernel
theorem dL_without_21 : decode cL_without 21 = .ok (.ireturn, 1) := by decide +kernel
theorem dL_undone_0 : decode cL_undone 0 = .ok (.aload_n 2, 1) := by decide +kernel
theorem dL_undone_1 : decode cL_undone 1 = .ok (.iconst 0, 1) := by decide +kernel
theorem dL_undone_2 : decode cL_undone 2 = .ok (.aload_n 0, 1) := by decide +kernel
theorem dL_undone_3 : decode cL_undone 3 = .ok (.iload_n 1, 1) := by decide +kernel
theorem dL_undone_4 : decode cL_undone 4 = .ok (.invokevirtual 129, 3) := by decide +kernel
theorem dL_undone_7 : decode cL_undone 7 = .ok (.i2l, 1) := by decide +kernel
theorem dL_undone_8 : decode cL_undone 8 = .ok (.lastore, 1) := by decide +kernel
theorem dL_undone_9 : decode cL_undone 9 = .ok (.goto 6, 3) := by decide +kernel
theorem dL_undone_12 : decode cL_undone 12 = .ok (.astore_n 3, 1) := by decide +kernel
theorem dL_undone_13 : decode cL_undone 13 = .ok (.iconst 1, 1) := by decide +kernel
theorem dL_undone_14 : decode cL_undone 14 = .ok (.ireturn, 1) := by decide +kernel
theorem dL_undone_15 : decode cL_undone 15 = .ok (.iconst 0, 1) := by decide +kernel
theorem dL_undone_16 : decode cL_undone 16 = .ok (.ireturn, 1) := by decide +kernel
theorem dL_spared_0 : decode cL_spared 0 = .ok (.aload_n 2, 1) := by decide +kernel
theorem dL_spared_1 : decode cL_spared 1 = .ok (.iconst 0, 1) := by decide +kernel
theorem dL_spared_2 : decode cL_spared 2 = .ok (.aload_n 0, 1) := by decide +kernel
theorem dL_spared_3 : decode cL_spared 3 = .ok (.iload_n 1, 1) := by decide +kernel
theorem dL_spared_4 : decode cL_spared 4 = .ok (.invokevirtual 132, 3) := by decide +kernel
theorem dL_spared_7 : decode cL_spared 7 = .ok (.lastore, 1) := by decide +kernel
theorem dL_spared_8 : decode cL_spared 8 = .ok (.goto 6, 3) := by decide +kernel
theorem dL_spared_11 : decode cL_spared 11 = .ok (.astore_n 3, 1) := by decide +kernel
theorem dL_spared_12 : decode cL_spared 12 = .ok (.iconst 1, 1) := by decide +kernel
theorem dL_spared_13 : decode cL_spared 13 = .ok (.ireturn, 1) := by decide +kernel
theorem dL_spared_14 : decode cL_spared 14 = .ok (.iconst 0, 1) := by decide +kernel
theorem dL_spared_15 : decode cL_spared 15 = .ok (.ireturn, 1) := by decide +kernel
theorem dL_shift_0 : decode cL_shift 0 = .ok (.aload 4, 2) := by decide +kernel
theorem dL_shift_2 : decode cL_shift 2 = .ok (.iconst 0, 1) := by decide +kernel
theorem dL_shift_3 : decode cL_shift 3 = .ok (.aload_n 0, 1) := by decide +kernel
theorem dL_shift_4 : decode cL_shift 4 = .ok (.iload_n 1, 1) := by decide +kernel
theorem dL_shift_5 : decode cL_shift 5 = .ok (.iload_n 2, 1) := by decide +kernel
theorem dL_shift_6 : decode cL_shift 6 = .ok (.iload_n 3, 1) := by decide +kernel
theorem dL_shift_7 : decode cL_shift 7 = .ok (.invokevirtual 135, 3) := by decide +kernel
theorem dL_shift_10 : decode cL_shift 10 = .ok (.lastore, 1) := by decide +kernel
theorem dL_shift_11 : decode cL_shift 11 = .ok (.goto 11, 3) := by decide +kernel
theorem dL_shift_14 : decode cL_shift 14 = .ok (.astore 5, 2) := by decide +kernel
theorem dL_shift_16 : decode cL_shift 16 = .ok (.iconst 1, 1) := by decide +kernel
theorem dL_shift_17 : decode cL_shift 17 = .ok (.ireturn, 1) := by decide +kernel
theorem dL_shift_18 : decode cL_shift 18 = .ok (.astore 5, 2) := by decide +kernel
theorem dL_shift_20 : decode cL_shift 20 = .ok (.iconst 2, 1) := by decide +kernel
theorem dL_shift_21 : decode cL_shift 21 = .ok (.ireturn, 1) := by decide +kernel
theorem dL_shift_22 : decode cL_shift 22 = .ok (.iconst 0, 1) := by decide +kernel
theorem dL_shift_23 : decode cL_shift 23 = .ok (.ireturn, 1) := by decide +kernel
theorem dL_after_0 : decode cL_after 0 = .ok (.aload_n 3, 1) := by decide +kernel
theorem dL_after_1 : decode cL_after 1 = .ok (.iconst 0, 1) := by decide +kernel
theorem dL_after_2 : decode cL_after 2 = .ok (.aload_n 0, 1) := by decide +kernel
theorem dL_after_3 : decode cL_after 3 = .ok (.iload_n 1, 1) := by decide +kernel
theorem dL_after_4 : decode cL_after 4 = .ok (.iload_n 2, 1) := by decide +kernel
theorem dL_after_5 : decode cL_after 5 = .ok (.invokevirtual 138, 3) := by decide +kernel
theorem dL_after_8 : decode cL_after 8 = .ok (.lastore, 1) := by decide +kernel
theorem dL_after_9 : decode cL_after 9 = .ok (.goto 11, 3) := by decide +kernel
theorem dL_after_12 : decode cL_after 12 = .ok (.astore 4, 2) := by decide +kernel
theorem dL_after_14 : decode cL_after 14 = .ok (.iconst 1, 1) := by decide +kernel
theorem dL_after_15 : decode cL_after 15 = .ok (.ireturn, 1) := by decide +kernel
theorem dL_after_16 : decode cL_after 16 = .ok (.astore 4, 2) := by decide +kernel
theorem dL_after_18 : decode cL_after 18 = .ok (.iconst 2, 1) := by decide +kernel
theorem dL_after_19 : decode cL_after 19 = .ok (.ireturn, 1) := by decide +kernel
theorem dL_after_20 : decode cL_after 20 = .ok (.iconst 0, 1) := by decide +kernel
theorem dL_after_21 : decode cL_after 21 = .ok (.ireturn, 1) := by decide +kernel
theorem dL_usedUp_0 : decode cL_usedUp 0 = .ok (.aload_n 2, 1) := by decide +kernel
theorem dL_usedUp_1 : decode cL_usedUp 1 = .ok (.iconst 0, 1) := by decide +kernel
theorem dL_usedUp_2 : decode cL_usedUp 2 = .ok (.aload_n 0, 1) := by decide +kernel
theorem dL_usedUp_3 : decode cL_usedUp 3 = .ok (.iload_n 1, 1) := by decide +kernel
theorem dL_usedUp_4 : decode cL_usedUp 4 = .ok (.invokevirtual 141, 3) := by decide +kernel
theorem dL_usedUp_7 : decode cL_usedUp 7 = .ok (.i2l, 1) := by decide +kernel
theorem dL_usedUp_8 : decode cL_usedUp 8 = .ok (.lastore, 1) := by decide +kernel
theorem dL_usedUp_9 : decode cL_usedUp 9 = .ok (.goto 6, 3) := by decide +kernel
theorem dL_usedUp_12 : decode cL_usedUp 12 = .ok (.astore_n 3, 1) := by decide +kernel
theorem dL_usedUp_13 : decode cL_usedUp 13 = .ok (.iconst 1, 1) := by decide +kernel
theorem dL_usedUp_14 : decode cL_usedUp 14 = .ok (.ireturn, 1) := by decide +kernel
theorem dL_usedUp_15 : decode cL_usedUp 15 = .ok (.iconst 0, 1) := by decide +kernel
theorem dL_usedUp_16 : decode cL_usedUp 16 = .ok (.ireturn, 1) := by decide +kernel
theorem dL_heaviest_0 : decode cL_heaviest 0 = .ok (.aload_n 3, 1) := by decide +kernel
theorem dL_heaviest_1 : decode cL_heaviest 1 = .ok (.iconst 0, 1) := by decide +kernel
theorem dL_heaviest_2 : decode cL_heaviest 2 = .ok (.aload_n 0, 1) := by decide +kernel
theorem dL_heaviest_3 : decode cL_heaviest 3 = .ok (.iload_n 1, 1) := by decide +kernel
theorem dL_heaviest_4 : decode cL_heaviest 4 = .ok (.iload_n 2, 1) := by decide +kernel
theorem dL_heaviest_5 : decode cL_heaviest 5 = .ok (.invokevirtual 144, 3) := by decide +kernel
theorem dL_heaviest_8 : decode cL_heaviest 8 = .ok (.lastore, 1) := by decide +kernel
theorem dL_heaviest_9 : decode cL_heaviest 9 = .ok (.goto 7, 3) := by decide +kernel
theorem dL_heaviest_12 : decode cL_heaviest 12 = .ok (.astore 4, 2) := by decide +kernel
theorem dL_heaviest_14 : decode cL_heaviest 14 = .ok (.iconst 1, 1) := by decide +kernel
theorem dL_heaviest_15 : decode cL_heaviest 15 = .ok (.ireturn, 1) := by decide +kernel
theorem dL_heaviest_16 : decode cL_heaviest 16 = .ok (.iconst 0, 1) := by decide +kernel
theorem dL_heaviest_17 : decode cL_heaviest 17 = .ok (.ireturn, 1) := by decide +kernel
theorem dL_cover_0 : decode cL_cover 0 = .ok (.aload 4, 2) := by decide +kernel
theorem dL_cover_2 : decode cL_cover 2 = .ok (.iconst 0, 1) := by decide +kernel
theorem dL_cover_3 : decode cL_cover 3 = .ok (.aload_n 0, 1) := by decide +kernel
theorem dL_cover_4 : decode cL_cover 4 = .ok (.iload_n 1, 1) := by decide +kernel
theorem dL_cover_5 : decode cL_cover 5 = .ok (.iload_n 2, 1) := by decide +kernel
theorem dL_cover_6 : decode cL_cover 6 = .ok (.iload_n 3, 1) := by decide +kernel
theorem dL_cover_7 : decode cL_cover 7 = .ok (.invokevirtual 147, 3) := by decide +kernel
theorem dL_cover_10 : decode cL_cover 10 = .ok (.i2l, 1) := by decide +kernel
theorem dL_cover_11 : decode cL_cover 11 = .ok (.lastore, 1) := by decide +kernel
theorem dL_cover_12 : decode cL_cover 12 = .ok (.goto 7, 3) := by decide +kernel
theorem dL_cover_15 : decode cL_cover 15 = .ok (.astore 5, 2) := by decide +kernel
theorem dL_cover_17 : decode cL_cover 17 = .ok (.iconst 1, 1) := by decide +kernel
theorem dL_cover_18 : decode cL_cover 18 = .ok (.ireturn, 1) := by decide +kernel
theorem dL_cover_19 : decode cL_cover 19 = .ok (.iconst 0, 1) := by decide +kernel
theorem dL_cover_20 : decode cL_cover 20 = .ok (.ireturn, 1) := by decide +kernel
theorem dL_reach_0 : decode cL_reach 0 = .ok (.aload_n 2, 1) := by decide +kernel
theorem dL_reach_1 : decode cL_reach 1 = .ok (.iconst 0, 1) := by decide +kernel
theorem dL_reach_2 : decode cL_reach 2 = .ok (.aload_n 0, 1) := by decide +kernel
theorem dL_reach_3 : decode cL_reach 3 = .ok (.iload_n 1, 1) := by decide +kernel
theorem dL_reach_4 : decode cL_reach 4 = .ok (.invokevirtual 150, 3) := by decide +kernel
theorem dL_reach_7 : decode cL_reach 7 = .ok (.lastore, 1) := by decide +kernel
theorem dL_reach_8 : decode cL_reach 8 = .ok (.goto 6, 3) := by decide +kernel
theorem dL_reach_11 : decode cL_reach 11 = .ok (.astore_n 3, 1) := by decide +kernel
theorem dL_reach_12 : decode cL_reach 12 = .ok (.iconst 1, 1) := by decide +kernel
theorem dL_reach_13 : decode cL_reach 13 = .ok (.ireturn, 1) := by decide +kernel
theorem dL_reach_14 : decode cL_reach 14 = .ok (.iconst 0, 1) := by decide +kernel
theorem dL_reach_15 : decode cL_reach 15 = .ok (.ireturn, 1) := by decide +kernel
theorem dL_uneven_0 : decode cL_uneven 0 = .ok (.aload 6, 2) := by decide +kernel
theorem dL_uneven_2 : decode cL_uneven 2 = .ok (.iconst 0, 1) := by decide +kernel
theorem dL_uneven_3 : decode cL_uneven 3 = .ok (.aload_n 0, 1) := by decide +kernel
theorem dL_uneven_4 : decode cL_uneven 4 = .ok (.iload_n 1, 1) := by decide +kernel
theorem dL_uneven_5 : decode cL_uneven 5 = .ok (.iload_n 2, 1) := by decide +kernel
theorem dL_uneven_6 : decode cL_uneven 6 = .ok (.iload_n 3, 1) := by decide +kernel
theorem dL_uneven_7 : decode cL_uneven 7 = .ok (.iload 4, 2) := by decide +kernel
theorem dL_uneven_9 : decode cL_uneven 9 = .ok (.iload 5, 2) := by decide +kernel
theorem dL_uneven_11 : decode cL_uneven 11 = .ok (.invokevirtual 153, 3) := by decide +kernel
theorem dL_uneven_14 : decode cL_uneven 14 = .ok (.lastore, 1) := by decide +kernel
theorem dL_uneven_15 : decode cL_uneven 15 = .ok (.goto 11, 3) := by decide +kernel
theorem dL_uneven_18 : decode cL_uneven 18 = .ok (.astore 7, 2) := by decide +kernel
theorem dL_uneven_20 : decode cL_uneven 20 = .ok (.iconst 1, 1) := by decide +kernel
theorem dL_uneven_21 : decode cL_uneven 21 = .ok (.ireturn, 1) := by decide +kernel
theorem dL_uneven_22 : decode cL_uneven 22 = .ok (.astore 7, 2) := by decide +kernel
theorem dL_uneven_24 : decode cL_uneven 24 = .ok (.iconst 2, 1) := by decide +kernel
theorem dL_uneven_25 : decode cL_uneven 25 = .ok (.ireturn, 1) := by decide +kernel
theorem dL_uneven_26 : decode cL_uneven 26 = .ok (.iconst 0, 1) := by decide +kernel
theorem dL_uneven_27 : decode cL_uneven 27 = .ok (.ireturn, 1) := by decide +kernel
theorem dL_widest_0 : decode cL_widest 0 = .ok (.aload_n 3, 1) := by decide +kernel
theorem dL_widest_1 : decode cL_widest 1 = .ok (.iconst 0, 1) := by decide +kernel
theorem dL_widest_2 : decode cL_widest 2 = .ok (.aload_n 0, 1) := by decide +kernel
theorem dL_widest_3 : decode cL_widest 3 = .ok (.iload_n 1, 1) := by decide +kernel
theorem dL_widest_4 : decode cL_widest 4 = .ok (.iload_n 2, 1) := by decide +kernel
theorem dL_widest_5 : decode cL_widest 5 = .ok (.invokevirtual 156, 3) := by decide +kernel
theorem dL_widest_8 : decode cL_widest 8 = .ok (.i2l, 1) := by decide +kernel
theorem dL_widest_9 : decode cL_widest 9 = .ok (.lastore, 1) := by decide +kernel
theorem dL_widest_10 : decode cL_widest 10 = .ok (.goto 7, 3) := by decide +kernel
theorem dL_widest_13 : decode cL_widest 13 = .ok (.astore 4, 2) := by decide +kernel
theorem dL_widest_15 : decode cL_widest 15 = .ok (.iconst 1, 1) := by decide +kernel
theorem dL_widest_16 : decode cL_widest 16 = .ok (.ireturn, 1) := by decide +kernel
theorem dL_widest_17 : decode cL_widest 17 = .ok (.iconst 0, 1) := by decide +kernel
theorem dL_widest_18 : decode cL_widest 18 = .ok (.ireturn, 1) := by decide +kernel
theorem dL_strongest_0 : decode cL_strongest 0 = .ok (.aload_n 2, 1) := by decide +kernel
theorem dL_strongest_1 : decode cL_strongest 1 = .ok (.iconst 0, 1) := by decide +kernel
theorem dL_strongest_2 : decode cL_strongest 2 = .ok (.aload_n 0, 1) := by decide +kernel
theorem dL_strongest_3 : decode cL_strongest 3 = .ok (.iload_n 1, 1) := by decide +kernel
theorem dL_strongest_4 : decode cL_strongest 4 = .ok (.invokevirtual 159, 3) := by decide +kernel
theorem dL_strongest_7 : decode cL_strongest 7 = .ok (.lastore, 1) := by decide +kernel
theorem dL_strongest_8 : decode cL_strongest 8 = .ok (.goto 6, 3) := by decide +kernel
theorem dL_strongest_11 : decode cL_strongest 11 = .ok (.astore_n 3, 1) := by decide +kernel
theorem dL_strongest_12 : decode cL_strongest 12 = .ok (.iconst 1, 1) := by decide +kernel
theorem dL_strongest_13 : decode cL_strongest 13 = .ok (.ireturn, 1) := by decide +kernel
theorem dL_strongest_14 : decode cL_strongest 14 = .ok (.iconst 0, 1) := by decide +kernel
theorem dL_strongest_15 : decode cL_strongest 15 = .ok (.ireturn, 1) := by decide +kernel
theorem dL_holds_0 : decode cL_holds 0 = .ok (.aload 4, 2) := by decide +kernel
theorem dL_holds_2 : decode cL_holds 2 = .ok (.iconst 0, 1) := by decide +kernel
theorem dL_holds_3 : decode cL_holds 3 = .ok (.aload_n 0, 1) := by decide +kernel
theorem dL_holds_4 : decode cL_holds 4 = .ok (.iload_n 1, 1) := by decide +kernel
theorem dL_holds_5 : decode cL_holds 5 = .ok (.iload_n 2, 1) := by decide +kernel
theorem dL_holds_6 : decode cL_holds 6 = .ok (.iload_n 3, 1) := by decide +kernel
theorem dL_holds_7 : decode cL_holds 7 = .ok (.invokevirtual 162, 3) := by decide +kernel
theorem dL_holds_10 : decode cL_holds 10 = .ok (.i2l, 1) := by decide +kernel
theorem dL_holds_11 : decode cL_holds 11 = .ok (.lastore, 1) := by decide +kernel
theorem dL_holds_12 : decode cL_holds 12 = .ok (.goto 7, 3) := by decide +kernel
theorem dL_holds_15 : decode cL_holds 15 = .ok (.astore 5, 2) := by decide +kernel
theorem dL_holds_17 : decode cL_holds 17 = .ok (.iconst 1, 1) := by decide +kernel
theorem dL_holds_18 : decode cL_holds 18 = .ok (.ireturn, 1) := by decide +kernel
theorem dL_holds_19 : decode cL_holds 19 = .ok (.iconst 0, 1) := by decide +kernel
theorem dL_holds_20 : decode cL_holds 20 = .ok (.ireturn, 1) := by decide +kernel
theorem dL_law_0 : decode cL_law 0 = .ok (.new 8, 3) := by decide +kernel
theorem dL_law_3 : decode cL_law 3 = .ok (.dup, 1) := by decide +kernel
theorem dL_law_4 : decode cL_law 4 = .ok (.invokespecial 165, 3) := by decide +kernel
theorem dL_law_7 : decode cL_law 7 = .ok (.astore_n 1, 1) := by decide +kernel
theorem dL_law_8 : decode cL_law 8 = .ok (.new 166, 3) := by decide +kernel
theorem dL_law_11 : decode cL_law 11 = .ok (.dup, 1) := by decide +kernel
theorem dL_law_12 : decode cL_law 12 = .ok (.invokespecial 168, 3) := by decide +kernel
theorem dL_law_15 : decode cL_law 15 = .ok (.astore_n 2, 1) := by decide +kernel
theorem dL_law_16 : decode cL_law 16 = .ok (.iconst 1, 1) := by decide +kernel
theorem dL_law_17 : decode cL_law 17 = .ok (.newarray .long, 2) := by decide +kernel
theorem dL_law_19 : decode cL_law 19 = .ok (.astore_n 3, 1) := by decide +kernel
theorem dL_law_20 : decode cL_law 20 = .ok (.iconst 0, 1) := by decide +kernel
theorem dL_law_21 : decode cL_law 21 = .ok (.istore 4, 2) := by decide +kernel
theorem dL_law_23 : decode cL_law 23 = .ok (.iload 4, 2) := by decide +kernel
theorem dL_law_25 : decode cL_law 25 = .ok (.aload_n 0, 1) := by decide +kernel
theorem dL_law_26 : decode cL_law 26 = .ok (.arraylength, 1) := by decide +kernel
theorem dL_law_27 : decode cL_law 27 = .ok (.bipush 6, 2) := by decide +kernel
theorem dL_law_29 : decode cL_law 29 = .ok (.isub, 1) := by decide +kernel
theorem dL_law_30 : decode cL_law 30 = .ok (.if_icmp .gt 3716, 3) := by decide +kernel
theorem dL_law_33 : decode cL_law 33 = .ok (.aload_n 0, 1) := by decide +kernel
theorem dL_law_34 : decode cL_law 34 = .ok (.iload 4, 2) := by decide +kernel
theorem dL_law_36 : decode cL_law 36 = .ok (.iaload, 1) := by decide +kernel
theorem dL_law_37 : decode cL_law 37 = .ok (.bipush 63, 2) := by decide +kernel
theorem dL_law_39 : decode cL_law 39 = .ok (.iand, 1) := by decide +kernel
theorem dL_law_40 : decode cL_law 40 = .ok (.tableswitch 3700 0 49 #[216, 308, 388, 444, 524, 616, 683, 751, 807, 862, 875, 931, 999, 1066, 1145, 1212, 1280, 1348, 1415, 1482, 1549, 1616, 1683, 1750, 1817, 1872, 1928, 2020, 2123, 2226, 2329, 2432, 2523, 2615, 2706, 2773, 2840, 2896, 2951, 3030, 3097, 3153, 3220, 3300, 3355, 3458, 3526, 3581, 3661, 3675], 216) := by decide +kernel
