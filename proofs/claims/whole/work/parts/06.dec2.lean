theorem dX6_yearBits_5 : decode cX6_yearBits 5 = .ok (.iload_n 1, 1) := by decide +kernel
theorem dX6_yearBits_6 : decode cX6_yearBits 6 = .ok (.if_icmp .gt 15, 3) := by decide +kernel
theorem dX6_yearBits_9 : decode cX6_yearBits 9 = .ok (.iload_n 2, 1) := by decide +kernel
theorem dX6_yearBits_10 : decode cX6_yearBits 10 = .ok (.iconst 1, 1) := by decide +kernel
theorem dX6_yearBits_11 : decode cX6_yearBits 11 = .ok (.iload_n 3, 1) := by decide +kernel
theorem dX6_yearBits_12 : decode cX6_yearBits 12 = .ok (.ishl, 1) := by decide +kernel
theorem dX6_yearBits_13 : decode cX6_yearBits 13 = .ok (.ior, 1) := by decide +kernel
theorem dX6_yearBits_14 : decode cX6_yearBits 14 = .ok (.istore_n 2, 1) := by decide +kernel
theorem dX6_yearBits_15 : decode cX6_yearBits 15 = .ok (.iinc 3 1, 3) := by decide +kernel
theorem dX6_yearBits_18 : decode cX6_yearBits 18 = .ok (.goto (-14), 3) := by decide +kernel
theorem dX6_yearBits_21 : decode cX6_yearBits 21 = .ok (.iload_n 2, 1) := by decide +kernel
theorem dX6_yearBits_22 : decode cX6_yearBits 22 = .ok (.ireturn, 1) := by decide +kernel
theorem dX6_shareOut_0 : decode cX6_shareOut 0 = .ok (.lconst 0, 1) := by decide +kernel
theorem dX6_shareOut_1 : decode cX6_shareOut 1 = .ok (.lstore 5, 2) := by decide +kernel
theorem dX6_shareOut_3 : decode cX6_shareOut 3 = .ok (.iconst 0, 1) := by decide +kernel
theorem dX6_shareOut_4 : decode cX6_shareOut 4 = .ok (.istore 7, 2) := by decide +kernel
theorem dX6_shareOut_6 : decode cX6_shareOut 6 = .ok (.iload 7, 2) := by decide +kernel
theorem dX6_shareOut_8 : decode cX6_shareOut 8 = .ok (.iload_n 3, 1) := by decide +kernel
theorem dX6_shareOut_9 : decode cX6_shareOut 9 = .ok (.if_icmp .ge 24, 3) := by decide +kernel
theorem dX6_shareOut_12 : decode cX6_shareOut 12 = .ok (.lload 5, 2) := by decide +kernel
theorem dX6_shareOut_14 : decode cX6_shareOut 14 = .ok (.aload_n 2, 1) := by decide +kernel
theorem dX6_shareOut_15 : decode cX6_shareOut 15 = .ok (.iload 7, 2) := by decide +kernel
theorem dX6_shareOut_17 : decode cX6_shareOut 17 = .ok (.laload, 1) := by decide +kernel
theorem dX6_shareOut_18 : decode cX6_shareOut 18 = .ok (.ladd, 1) := by decide +kernel
theorem dX6_shareOut_19 : decode cX6_shareOut 19 = .ok (.lstore 5, 2) := by decide +kernel
theorem dX6_shareOut_21 : decode cX6_shareOut 21 = .ok (.aload 4, 2) := by decide +kernel
theorem dX6_shareOut_23 : decode cX6_shareOut 23 = .ok (.iload 7, 2) := by decide +kernel
theorem dX6_shareOut_25 : decode cX6_shareOut 25 = .ok (.lconst 0, 1) := by decide +kernel
theorem dX6_shareOut_26 : decode cX6_shareOut 26 = .ok (.lastore, 1) := by decide +kernel
theorem dX6_shareOut_27 : decode cX6_shareOut 27 = .ok (.iinc 7 1, 3) := by decide +kernel
theorem dX6_shareOut_30 : decode cX6_shareOut 30 = .ok (.goto (-24), 3) := by decide +kernel
theorem dX6_shareOut_33 : decode cX6_shareOut 33 = .ok (.lload 5, 2) := by decide +kernel
theorem dX6_shareOut_35 : decode cX6_shareOut 35 = .ok (.lconst 0, 1) := by decide +kernel
theorem dX6_shareOut_36 : decode cX6_shareOut 36 = .ok (.lcmp, 1) := by decide +kernel
theorem dX6_shareOut_37 : decode cX6_shareOut 37 = .ok (.ifCond .gt 4, 3) := by decide +kernel
theorem dX6_shareOut_40 : decode cX6_shareOut 40 = .ok (.return_, 1) := by decide +kernel
theorem dX6_shareOut_41 : decode cX6_shareOut 41 = .ok (.lload_n 0, 1) := by decide +kernel
theorem dX6_shareOut_42 : decode cX6_shareOut 42 = .ok (.lload 5, 2) := by decide +kernel
theorem dX6_shareOut_44 : decode cX6_shareOut 44 = .ok (.ldiv, 1) := by decide +kernel
theorem dX6_shareOut_45 : decode cX6_shareOut 45 = .ok (.lstore 7, 2) := by decide +kernel
theorem dX6_shareOut_47 : decode cX6_shareOut 47 = .ok (.lload_n 0, 1) := by decide +kernel
theorem dX6_shareOut_48 : decode cX6_shareOut 48 = .ok (.lload 5, 2) := by decide +kernel
theorem dX6_shareOut_50 : decode cX6_shareOut 50 = .ok (.lrem, 1) := by decide +kernel
theorem dX6_shareOut_51 : decode cX6_shareOut 51 = .ok (.lstore 9, 2) := by decide +kernel
theorem dX6_shareOut_53 : decode cX6_shareOut 53 = .ok (.lload_n 0, 1) := by decide +kernel
theorem dX6_shareOut_54 : decode cX6_shareOut 54 = .ok (.lstore 11, 2) := by decide +kernel
theorem dX6_shareOut_56 : decode cX6_shareOut 56 = .ok (.iconst 0, 1) := by decide +kernel
theorem dX6_shareOut_57 : decode cX6_shareOut 57 = .ok (.istore 13, 2) := by decide +kernel
theorem dX6_shareOut_59 : decode cX6_shareOut 59 = .ok (.iload 13, 2) := by decide +kernel
theorem dX6_shareOut_61 : decode cX6_shareOut 61 = .ok (.iload_n 3, 1) := by decide +kernel
theorem dX6_shareOut_62 : decode cX6_shareOut 62 = .ok (.if_icmp .ge 42, 3) := by decide +kernel
theorem dX6_shareOut_65 : decode cX6_shareOut 65 = .ok (.aload 4, 2) := by decide +kernel
theorem dX6_shareOut_67 : decode cX6_shareOut 67 = .ok (.iload 13, 2) := by decide +kernel
theorem dX6_shareOut_69 : decode cX6_shareOut 69 = .ok (.lload 7, 2) := by decide +kernel
theorem dX6_shareOut_71 : decode cX6_shareOut 71 = .ok (.aload_n 2, 1) := by decide +kernel
theorem dX6_shareOut_72 : decode cX6_shareOut 72 = .ok (.iload 13, 2) := by decide +kernel
theorem dX6_shareOut_74 : decode cX6_shareOut 74 = .ok (.laload, 1) := by decide +kernel
theorem dX6_shareOut_75 : decode cX6_shareOut 75 = .ok (.lmul, 1) := by decide +kernel
theorem dX6_shareOut_76 : decode cX6_shareOut 76 = .ok (.lload 9, 2) := by decide +kernel
theorem dX6_shareOut_78 : decode cX6_shareOut 78 = .ok (.aload_n 2, 1) := by decide +kernel
theorem dX6_shareOut_79 : decode cX6_shareOut 79 = .ok (.iload 13, 2) := by decide +kernel
theorem dX6_shareOut_81 : decode cX6_shareOut 81 = .ok (.laload, 1) := by decide +kernel
theorem dX6_shareOut_82 : decode cX6_shareOut 82 = .ok (.lmul, 1) := by decide +kernel
theorem dX6_shareOut_83 : decode cX6_shareOut 83 = .ok (.lload 5, 2) := by decide +kernel
theorem dX6_shareOut_85 : decode cX6_shareOut 85 = .ok (.ldiv, 1) := by decide +kernel
theorem dX6_shareOut_86 : decode cX6_shareOut 86 = .ok (.ladd, 1) := by decide +kernel
theorem dX6_shareOut_87 : decode cX6_shareOut 87 = .ok (.lastore, 1) := by decide +kernel
theorem dX6_shareOut_88 : decode cX6_shareOut 88 = .ok (.lload 11, 2) := by decide +kernel
theorem dX6_shareOut_90 : decode cX6_shareOut 90 = .ok (.aload 4, 2) := by decide +kernel
theorem dX6_shareOut_92 : decode cX6_shareOut 92 = .ok (.iload 13, 2) := by decide +kernel
theorem dX6_shareOut_94 : decode cX6_shareOut 94 = .ok (.laload, 1) := by decide +kernel
theorem dX6_shareOut_95 : decode cX6_shareOut 95 = .ok (.lsub, 1) := by decide +kernel
theorem dX6_shareOut_96 : decode cX6_shareOut 96 = .ok (.lstore 11, 2) := by decide +kernel
theorem dX6_shareOut_98 : decode cX6_shareOut 98 = .ok (.iinc 13 1, 3) := by decide +kernel
theorem dX6_shareOut_101 : decode cX6_shareOut 101 = .ok (.goto (-42), 3) := by decide +kernel
theorem dX6_shareOut_104 : decode cX6_shareOut 104 = .ok (.iconst 0, 1) := by decide +kernel
theorem dX6_shareOut_105 : decode cX6_shareOut 105 = .ok (.istore 13, 2) := by decide +kernel
theorem dX6_shareOut_107 : decode cX6_shareOut 107 = .ok (.iload 13, 2) := by decide +kernel
theorem dX6_shareOut_109 : decode cX6_shareOut 109 = .ok (.iload_n 3, 1) := by decide +kernel
theorem dX6_shareOut_110 : decode cX6_shareOut 110 = .ok (.if_icmp .ge 40, 3) := by decide +kernel
theorem dX6_shareOut_113 : decode cX6_shareOut 113 = .ok (.lload 11, 2) := by decide +kernel
theorem dX6_shareOut_115 : decode cX6_shareOut 115 = .ok (.lconst 0, 1) := by decide +kernel
theorem dX6_shareOut_116 : decode cX6_shareOut 116 = .ok (.lcmp, 1) := by decide +kernel
theorem dX6_shareOut_117 : decode cX6_shareOut 117 = .ok (.ifCond .le 33, 3) := by decide +kernel
theorem dX6_shareOut_120 : decode cX6_shareOut 120 = .ok (.aload_n 2, 1) := by decide +kernel
theorem dX6_shareOut_121 : decode cX6_shareOut 121 = .ok (.iload 13, 2) := by decide +kernel
theorem dX6_shareOut_123 : decode cX6_shareOut 123 = .ok (.laload, 1) := by decide +kernel
theorem dX6_shareOut_124 : decode cX6_shareOut 124 = .ok (.lconst 0, 1) := by decide +kernel
theorem dX6_shareOut_125 : decode cX6_shareOut 125 = .ok (.lcmp, 1) := by decide +kernel
theorem dX6_shareOut_126 : decode cX6_shareOut 126 = .ok (.ifCond .le 18, 3) := by decide +kernel
theorem dX6_shareOut_129 : decode cX6_shareOut 129 = .ok (.aload 4, 2) := by decide +kernel
theorem dX6_shareOut_131 : decode cX6_shareOut 131 = .ok (.iload 13, 2) := by decide +kernel
theorem dX6_shareOut_133 : decode cX6_shareOut 133 = .ok (.dup2, 1) := by decide +kernel
theorem dX6_shareOut_134 : decode cX6_shareOut 134 = .ok (.laload, 1) := by decide +kernel
theorem dX6_shareOut_135 : decode cX6_shareOut 135 = .ok (.lconst 1, 1) := by decide +kernel
theorem dX6_shareOut_136 : decode cX6_shareOut 136 = .ok (.ladd, 1) := by decide +kernel
theorem dX6_shareOut_137 : decode cX6_shareOut 137 = .ok (.lastore, 1) := by decide +kernel
theorem dX6_shareOut_138 : decode cX6_shareOut 138 = .ok (.lload 11, 2) := by decide +kernel
theorem dX6_shareOut_140 : decode cX6_shareOut 140 = .ok (.lconst 1, 1) := by decide +kernel
theorem dX6_shareOut_141 : decode cX6_shareOut 141 = .ok (.lsub, 1) := by decide +kernel
theorem dX6_shareOut_142 : decode cX6_shareOut 142 = .ok (.lstore 11, 2) := by decide +kernel
theorem dX6_shareOut_144 : decode cX6_shareOut 144 = .ok (.iinc 13 1, 3) := by decide +kernel
theorem dX6_shareOut_147 : decode cX6_shareOut 147 = .ok (.goto (-40), 3) := by decide +kernel
theorem dX6_shareOut_150 : decode cX6_shareOut 150 = .ok (.return_, 1) := by decide +kernel
theorem dX7_thrown_0 : decode cX7_thrown 0 = .ok (.aload_n 0, 1) := by decide +kernel
theorem dX7_thrown_1 : decode cX7_thrown 1 = .ok (.getfield 1, 3) := by decide +kernel
theorem dX7_thrown_4 : decode cX7_thrown 4 = .ok (.ireturn, 1) := by decide +kernel
theorem dX7_needs_0 : decode cX7_needs 0 = .ok (.iload_n 1, 1) := by decide +kernel
theorem dX7_needs_1 : decode cX7_needs 1 = .ok (.ifCond .ne 25, 3) := by decide +kernel
theorem dX7_needs_4 : decode cX7_needs 4 = .ok (.aload_n 0, 1) := by decide +kernel
theorem dX7_needs_5 : decode cX7_needs 5 = .ok (.getfield 1, 3) := by decide +kernel
theorem dX7_needs_8 : decode cX7_needs 8 = .ok (.ifCond .ne 18, 3) := by decide +kernel
theorem dX7_needs_11 : decode cX7_needs 11 = .ok (.aload_n 0, 1) := by decide +kernel
theorem dX7_needs_12 : decode cX7_needs 12 = .ok (.iload_n 2, 1) := by decide +kernel
theorem dX7_needs_13 : decode cX7_needs 13 = .ok (.putfield 1, 3) := by decide +kernel
theorem dX7_needs_16 : decode cX7_needs 16 = .ok (.aload_n 0, 1) := by decide +kernel
theorem dX7_needs_17 : decode cX7_needs 17 = .ok (.getfield 7, 3) := by decide +kernel
theorem dX7_needs_20 : decode cX7_needs 20 = .ok (.iload_n 3, 1) := by decide +kernel
theorem dX7_needs_21 : decode cX7_needs 21 = .ok (.dup2, 1) := by decide +kernel
theorem dX7_needs_22 : decode cX7_needs 22 = .ok (.iaload, 1) := by decide +kernel
theorem dX7_needs_23 : decode cX7_needs 23 = .ok (.iconst 1, 1) := by decide +kernel
theorem dX7_needs_24 : decode cX7_needs 24 = .ok (.iadd, 1) := by decide +kernel
theorem dX7_needs_25 : decode cX7_needs 25 = .ok (.iastore, 1) := by decide +kernel
theorem dX7_needs_26 : decode cX7_needs 26 = .ok (.aload_n 0, 1) := by decide +kernel
theorem dX7_needs_27 : decode cX7_needs 27 = .ok (.getfield 1, 3) := by decide +kernel
theorem dX7_needs_30 : decode cX7_needs 30 = .ok (.ifCond .ne 7, 3) := by decide +kernel
theorem dX7_needs_33 : decode cX7_needs 33 = .ok (.iconst 1, 1) := by decide +kernel
theorem dX7_needs_34 : decode cX7_needs 34 = .ok (.goto 4, 3) := by decide +kernel
theorem dX7_needs_37 : decode cX7_needs 37 = .ok (.iconst 0, 1) := by decide +kernel
theorem dX7_needs_38 : decode cX7_needs 38 = .ok (.ireturn, 1) := by decide +kernel
theorem dX7_within_0 : decode cX7_within 0 = .ok (.lload_n 0, 1) := by decide +kernel
theorem dX7_within_1 : decode cX7_within 1 = .ok (.lload_n 2, 1) := by decide +kernel
theorem dX7_within_2 : decode cX7_within 2 = .ok (.lcmp, 1) := by decide +kernel
theorem dX7_within_3 : decode cX7_within 3 = .ok (.ifCond .lt 14, 3) := by decide +kernel
theorem dX7_within_6 : decode cX7_within 6 = .ok (.lload_n 0, 1) := by decide +kernel
theorem dX7_within_7 : decode cX7_within 7 = .ok (.lload 4, 2) := by decide +kernel
theorem dX7_within_9 : decode cX7_within 9 = .ok (.lcmp, 1) := by decide +kernel
theorem dX7_within_10 : decode cX7_within 10 = .ok (.ifCond .gt 7, 3) := by decide +kernel
theorem dX7_within_13 : decode cX7_within 13 = .ok (.iconst 1, 1) := by decide +kernel
theorem dX7_within_14 : decode cX7_within 14 = .ok (.goto 4, 3) := by decide +kernel
theorem dX7_within_17 : decode cX7_within 17 = .ok (.iconst 0, 1) := by decide +kernel
theorem dX7_within_18 : decode cX7_within 18 = .ok (.ireturn, 1) := by decide +kernel
theorem dX7_least_0 : decode cX7_least 0 = .ok (.lload_n 0, 1) := by decide +kernel
theorem dX7_least_1 : decode cX7_least 1 = .ok (.lload_n 2, 1) := by decide +kernel
theorem dX7_least_2 : decode cX7_least 2 = .ok (.lcmp, 1) := by decide +kernel
theorem dX7_least_3 : decode cX7_least 3 = .ok (.ifCond .ge 7, 3) := by decide +kernel
theorem dX7_least_6 : decode cX7_least 6 = .ok (.lload_n 0, 1) := by decide +kernel
theorem dX7_least_7 : decode cX7_least 7 = .ok (.goto 4, 3) := by decide +kernel
theorem dX7_least_10 : decode cX7_least 10 = .ok (.lload_n 2, 1) := by decide +kernel
theorem dX7_least_11 : decode cX7_least 11 = .ok (.lreturn, 1) := by decide +kernel
theorem dX7_tell_0 : decode cX7_tell 0 = .ok (.aload_n 0, 1) := by decide +kernel
theorem dX7_tell_1 : decode cX7_tell 1 = .ok (.getfield 11, 3) := by decide +kernel
theorem dX7_tell_4 : decode cX7_tell 4 = .ok (.iconst 4, 1) := by decide +kernel
theorem dX7_tell_5 : decode cX7_tell 5 = .ok (.iload_n 1, 1) := by decide +kernel
theorem dX7_tell_6 : decode cX7_tell 6 = .ok (.imul, 1) := by decide +kernel
theorem dX7_tell_7 : decode cX7_tell 7 = .ok (.iload_n 2, 1) := by decide +kernel
theorem dX7_tell_8 : decode cX7_tell 8 = .ok (.iadd, 1) := by decide +kernel
theorem dX7_tell_9 : decode cX7_tell 9 = .ok (.iaload, 1) := by decide +kernel
theorem dX7_tell_10 : decode cX7_tell 10 = .ok (.ireturn, 1) := by decide +kernel
theorem dX7_notes_0 : decode cX7_notes 0 = .ok (.aload_n 0, 1) := by decide +kernel
theorem dX7_notes_1 : decode cX7_notes 1 = .ok (.getfield 14, 3) := by decide +kernel
theorem dX7_notes_4 : decode cX7_notes 4 = .ok (.aload_n 0, 1) := by decide +kernel
theorem dX7_notes_5 : decode cX7_notes 5 = .ok (.getfield 17, 3) := by decide +kernel
theorem dX7_notes_8 : decode cX7_notes 8 = .ok (.iload_n 1, 1) := by decide +kernel
theorem dX7_notes_9 : decode cX7_notes 9 = .ok (.iastore, 1) := by decide +kernel
theorem dX7_notes_10 : decode cX7_notes 10 = .ok (.aload_n 0, 1) := by decide +kernel
theorem dX7_notes_11 : decode cX7_notes 11 = .ok (.getfield 11, 3) := by decide +kernel
theorem dX7_notes_14 : decode cX7_notes 14 = .ok (.iconst 4, 1) := by decide +kernel
theorem dX7_notes_15 : decode cX7_notes 15 = .ok (.aload_n 0, 1) := by decide +kernel
theorem dX7_notes_16 : decode cX7_notes 16 = .ok (.getfield 17, 3) := by decide +kernel
theorem dX7_notes_19 : decode cX7_notes 19 = .ok (.imul, 1) := by decide +kernel
theorem dX7_notes_20 : decode cX7_notes 20 = .ok (.iload_n 2, 1) := by decide +kernel
theorem dX7_notes_21 : decode cX7_notes 21 = .ok (.iastore, 1) := by decide +kernel
theorem dX7_notes_22 : decode cX7_notes 22 = .ok (.aload_n 0, 1) := by decide +kernel
theorem dX7_notes_23 : decode cX7_notes 23 = .ok (.getfield 11, 3) := by decide +kernel
theorem dX7_notes_26 : decode cX7_notes 26 = .ok (.iconst 4, 1) := by decide +kernel
theorem dX7_notes_27 : decode cX7_notes 27 = .ok (.aload_n 0, 1) := by decide +kernel
theorem dX7_notes_28 : decode cX7_notes 28 = .ok (.getfield 17, 3) := by decide +kernel
theorem dX7_notes_31 : decode cX7_notes 31 = .ok (.imul, 1) := by decide +kernel
theorem dX7_notes_32 : decode cX7_notes 32 = .ok (.iconst 1, 1) := by decide +kernel
theorem dX7_notes_33 : decode cX7_notes 33 = .ok (.iadd, 1) := by decide +kernel
theorem dX7_notes_34 : decode cX7_notes 34 = .ok (.iload_n 3, 1) := by decide +kernel
theorem dX7_notes_35 : decode cX7_notes 35 = .ok (.iastore, 1) := by decide +kernel
theorem dX7_notes_36 : decode cX7_notes 36 = .ok (.aload_n 0, 1) := by decide +kernel
theorem dX7_notes_37 : decode cX7_notes 37 = .ok (.getfield 11, 3) := by decide +kernel
theorem dX7_notes_40 : decode cX7_notes 40 = .ok (.iconst 4, 1) := by decide +kernel
theorem dX7_notes_41 : decode cX7_notes 41 = .ok (.aload_n 0, 1) := by decide +kernel
theorem dX7_notes_42 : decode cX7_notes 42 = .ok (.getfield 17, 3) := by decide +kernel
theorem dX7_notes_45 : decode cX7_notes 45 = .ok (.imul, 1) := by decide +kernel
theorem dX7_notes_46 : decode cX7_notes 46 = .ok (.iconst 2, 1) := by decide +kernel
theorem dX7_notes_47 : decode cX7_notes 47 = .ok (.iadd, 1) := by decide +kernel
theorem dX7_notes_48 : decode cX7_notes 48 = .ok (.iload 4, 2) := by decide +kernel
theorem dX7_notes_50 : decode cX7_notes 50 = .ok (.iastore, 1) := by decide +kernel
theorem dX7_notes_51 : decode cX7_notes 51 = .ok (.aload_n 0, 1) := by decide +kernel
theorem dX7_notes_52 : decode cX7_notes 52 = .ok (.getfield 11, 3) := by decide +kernel
theorem dX7_notes_55 : decode cX7_notes 55 = .ok (.iconst 4, 1) := by decide +kernel
theorem dX7_notes_56 : decode cX7_notes 56 = .ok (.aload_n 0, 1) := by decide +kernel
theorem dX7_notes_57 : decode cX7_notes 57 = .ok (.getfield 17, 3) := by decide +kernel
theorem dX7_notes_60 : decode cX7_notes 60 = .ok (.imul, 1) := by decide +kernel
theorem dX7_notes_61 : decode cX7_notes 61 = .ok (.iconst 3, 1) := by decide +kernel
theorem dX7_notes_62 : decode cX7_notes 62 = .ok (.iadd, 1) := by decide +kernel
theorem dX7_notes_63 : decode cX7_notes 63 = .ok (.iload 5, 2) := by decide +kernel
theorem dX7_notes_65 : decode cX7_notes 65 = .ok (.iastore, 1) := by decide +kernel
theorem dX7_notes_66 : decode cX7_notes 66 = .ok (.aload_n 0, 1) := by decide +kernel
theorem dX7_notes_67 : decode cX7_notes 67 = .ok (.getfield 20, 3) := by decide +kernel
theorem dX7_notes_70 : decode cX7_notes 70 = .ok (.aload_n 0, 1) := by decide +kernel
theorem dX7_notes_71 : decode cX7_notes 71 = .ok (.getfield 17, 3) := by decide +kernel
theorem dX7_notes_74 : decode cX7_notes 74 = .ok (.iload 6, 2) := by decide +kernel
theorem dX7_notes_76 : decode cX7_notes 76 = .ok (.iastore, 1) := by decide +kernel
theorem dX7_notes_77 : decode cX7_notes 77 = .ok (.aload_n 0, 1) := by decide +kernel
theorem dX7_notes_78 : decode cX7_notes 78 = .ok (.dup, 1) := by decide +kernel
theorem dX7_notes_79 : decode cX7_notes 79 = .ok (.getfield 17, 3) := by decide +kernel
theorem dX7_notes_82 : decode cX7_notes 82 = .ok (.iconst 1, 1) := by decide +kernel
theorem dX7_notes_83 : decode cX7_notes 83 = .ok (.iadd, 1) := by decide +kernel
theorem dX7_notes_84 : decode cX7_notes 84 = .ok (.putfield 17, 3) := by decide +kernel
theorem dX7_notes_87 : decode cX7_notes 87 = .ok (.return_, 1) := by decide +kernel
theorem dX7_eventsOf_0 : decode cX7_eventsOf 0 = .ok (.iconst 0, 1) := by decide +kernel
theorem dX7_eventsOf_1 : decode cX7_eventsOf 1 = .ok (.istore_n 2, 1) := by decide +kernel
theorem dX7_eventsOf_2 : decode cX7_eventsOf 2 = .ok (.iconst 0, 1) := by decide +kernel
theorem dX7_eventsOf_3 : decode cX7_eventsOf 3 = .ok (.istore_n 3, 1) := by decide +kernel
theorem dX7_eventsOf_4 : decode cX7_eventsOf 4 = .ok (.iload_n 3, 1) := by decide +kernel
theorem dX7_eventsOf_5 : decode cX7_eventsOf 5 = .ok (.aload_n 0, 1) := by decide +kernel
theorem dX7_eventsOf_6 : decode cX7_eventsOf 6 = .ok (.getfield 17, 3) := by decide +kernel
theorem dX7_eventsOf_9 : decode cX7_eventsOf 9 = .ok (.if_icmp .ge 27, 3) := by decide +kernel
theorem dX7_eventsOf_12 : decode cX7_eventsOf 12 = .ok (.iload_n 2, 1) := by decide +kernel
theorem dX7_eventsOf_13 : decode cX7_eventsOf 13 = .ok (.aload_n 0, 1) := by decide +kernel
theorem dX7_eventsOf_14 : decode cX7_eventsOf 14 = .ok (.getfield 14, 3) := by decide +kernel
theorem dX7_eventsOf_17 : decode cX7_eventsOf 17 = .ok (.iload_n 3, 1) := by decide +kernel
theorem dX7_eventsOf_18 : decode cX7_eventsOf 18 = .ok (.iaload, 1) := by decide +kernel
theorem dX7_eventsOf_19 : decode cX7_eventsOf 19 = .ok (.iload_n 1, 1) := by decide +kernel
theorem dX7_eventsOf_20 : decode cX7_eventsOf 20 = .ok (.if_icmp .ne 7, 3) := by decide +kernel
theorem dX7_eventsOf_23 : decode cX7_eventsOf 23 = .ok (.iconst 1, 1) := by decide +kernel
theorem dX7_eventsOf_24 : decode cX7_eventsOf 24 = .ok (.goto 4, 3) := by decide +kernel
theorem dX7_eventsOf_27 : decode cX7_eventsOf 27 = .ok (.iconst 0, 1) := by decide +kernel
theorem dX7_eventsOf_28 : decode cX7_eventsOf 28 = .ok (.iadd, 1) := by decide +kernel
theorem dX7_eventsOf_29 : decode cX7_eventsOf 29 = .ok (.istore_n 2, 1) := by decide +kernel
theorem dX7_eventsOf_30 : decode cX7_eventsOf 30 = .ok (.iinc 3 1, 3) := by decide +kernel
theorem dX7_eventsOf_33 : decode cX7_eventsOf 33 = .ok (.goto (-29), 3) := by decide +kernel
theorem dX7_eventsOf_36 : decode cX7_eventsOf 36 = .ok (.iload_n 2, 1) := by decide +kernel
theorem dX7_eventsOf_37 : decode cX7_eventsOf 37 = .ok (.ireturn, 1) := by decide +kernel
theorem dX7_init_0 : decode cX7_init 0 = .ok (.aload_n 0, 1) := by decide +kernel
theorem dX7_init_1 : decode cX7_init 1 = .ok (.invokespecial 23, 3) := by decide +kernel
theorem dX7_init_4 : decode cX7_init 4 = .ok (.aload_n 0, 1) := by decide +kernel
theorem dX7_init_5 : decode cX7_init 5 = .ok (.iconst 3, 1) := by decide +kernel
theorem dX7_init_6 : decode cX7_init 6 = .ok (.newarray .int, 2) := by decide +kernel
theorem dX7_init_8 : decode cX7_init 8 = .ok (.putfield 7, 3) := by decide +kernel
theorem dX7_init_11 : decode cX7_init 11 = .ok (.aload_n 0, 1) := by decide +kernel
theorem dX7_init_12 : decode cX7_init 12 = .ok (.sipush 160, 3) := by decide +kernel
theorem dX7_init_15 : decode cX7_init 15 = .ok (.newarray .int, 2) := by decide +kernel
theorem dX7_init_17 : decode cX7_init 17 = .ok (.putfield 14, 3) := by decide +kernel
theorem dX7_init_20 : decode cX7_init 20 = .ok (.aload_n 0, 1) := by decide +kernel
theorem dX7_init_21 : decode cX7_init 21 = .ok (.sipush 160, 3) := by decide +kernel
theorem dX7_init_24 : decode cX7_init 24 = .ok (.newarray .int, 2) := by decide +kernel
theorem dX7_init_26 : decode cX7_init 26 = .ok (.putfield 20, 3) := by decide +kernel
theorem dX7_init_29 : decode cX7_init 29 = .ok (.aload_n 0, 1) := by decide +kernel
theorem dX7_init_30 : decode cX7_init 30 = .ok (.sipush 640, 3) := by decide +kernel
theorem dX7_init_33 : decode cX7_init 33 = .ok (.newarray .int, 2) := by decide +kernel
theorem dX7_init_35 : decode cX7_init 35 = .ok (.putfield 11, 3) := by decide +kernel
theorem dX7_init_38 : decode cX7_init 38 = .ok (.aload_n 0, 1) := by decide +kernel
theorem dX7_init_39 : decode cX7_init 39 = .ok (.bipush 40, 2) := by decide +kernel
theorem dX7_init_41 : decode cX7_init 41 = .ok (.newarray .boolean, 2) := by decide +kernel
theorem dX7_init_43 : decode cX7_init 43 = .ok (.putfield 29, 3) := by decide +kernel
theorem dX7_init_46 : decode cX7_init 46 = .ok (.aload_n 0, 1) := by decide +kernel
theorem dX7_init_47 : decode cX7_init 47 = .ok (.bipush 25, 2) := by decide +kernel
theorem dX7_init_49 : decode cX7_init 49 = .ok (.newarray .boolean, 2) := by decide +kernel
theorem dX7_init_51 : decode cX7_init 51 = .ok (.putfield 33, 3) := by decide +kernel
theorem dX7_init_54 : decode cX7_init 54 = .ok (.aload_n 0, 1) := by decide +kernel
theorem dX7_init_55 : decode cX7_init 55 = .ok (.bipush 40, 2) := by decide +kernel
theorem dX7_init_57 : decode cX7_init 57 = .ok (.newarray .int, 2) := by decide +kernel
theorem dX7_init_59 : decode cX7_init 59 = .ok (.putfield 36, 3) := by decide +kernel
theorem dX7_init_62 : decode cX7_init 62 = .ok (.aload_n 0, 1) := by decide +kernel
theorem dX7_init_63 : decode cX7_init 63 = .ok (.bipush 40, 2) := by decide +kernel
theorem dX7_init_65 : decode cX7_init 65 = .ok (.newarray .int, 2) := by decide +kernel
theorem dX7_init_67 : decode cX7_init 67 = .ok (.putfield 39, 3) := by decide +kernel
theorem dX7_init_70 : decode cX7_init 70 = .ok (.aload_n 0, 1) := by decide +kernel
theorem dX7_init_71 : decode cX7_init 71 = .ok (.bipush 40, 2) := by decide +kernel
theorem dX7_init_73 : decode cX7_init 73 = .ok (.newarray .int, 2) := by decide +kernel
theorem dX7_init_75 : decode cX7_init 75 = .ok (.putfield 42, 3) := by decide +kernel
theorem dX7_init_78 : decode cX7_init 78 = .ok (.aload_n 0, 1) := by decide +kernel
theorem dX7_init_79 : decode cX7_init 79 = .ok (.bipush 40, 2) := by decide +kernel
theorem dX7_init_81 : decode cX7_init 81 = .ok (.newarray .int, 2) := by decide +kernel
theorem dX7_init_83 : decode cX7_init 83 = .ok (.putfield 45, 3) := by decide +kernel
theorem dX7_init_86 : decode cX7_init 86 = .ok (.aload_n 0, 1) := by decide +kernel
theorem dX7_init_87 : decode cX7_init 87 = .ok (.bipush 40, 2) := by decide +kernel
theorem dX7_init_89 : decode cX7_init 89 = .ok (.newarray .int, 2) := by decide +kernel
theorem dX7_init_91 : decode cX7_init 91 = .ok (.putfield 48, 3) := by decide +kernel
theorem dX7_init_94 : decode cX7_init 94 = .ok (.aload_n 0, 1) := by decide +kernel
theorem dX7_init_95 : decode cX7_init 95 = .ok (.sipush 160, 3) := by decide +kernel
theorem dX7_init_98 : decode cX7_init 98 = .ok (.newarray .int, 2) := by decide +kernel
theorem dX7_init_100 : decode cX7_init 100 = .ok (.putfield 51, 3) := by decide +kernel
theorem dX7_init_103 : decode cX7_init 103 = .ok (.aload_n 0, 1) := by decide +kernel
theorem dX7_init_104 : decode cX7_init 104 = .ok (.sipush 160, 3) := by decide +kernel
theorem dX7_init_107 : decode cX7_init 107 = .ok (.newarray .int, 2) := by decide +kernel
theorem dX7_init_109 : decode cX7_init 109 = .ok (.putfield 54, 3) := by decide +kernel
theorem dX7_init_112 : decode cX7_init 112 = .ok (.aload_n 0, 1) := by decide +kernel
theorem dX7_init_113 : decode cX7_init 113 = .ok (.bipush 40, 2) := by decide +kernel
theorem dX7_init_115 : decode cX7_init 115 = .ok (.newarray .long, 2) := by decide +kernel
theorem dX7_init_117 : decode cX7_init 117 = .ok (.putfield 57, 3) := by decide +kernel
theorem dX7_init_120 : decode cX7_init 120 = .ok (.aload_n 0, 1) := by decide +kernel
theorem dX7_init_121 : decode cX7_init 121 = .ok (.bipush 25, 2) := by decide +kernel
theorem dX7_init_123 : decode cX7_init 123 = .ok (.newarray .int, 2) := by decide +kernel
theorem dX7_init_125 : decode cX7_init 125 = .ok (.putfield 61, 3) := by decide +kernel
theorem dX7_init_128 : decode cX7_init 128 = .ok (.aload_n 0, 1) := by decide +kernel
theorem dX7_init_129 : decode cX7_init 129 = .ok (.bipush 25, 2) := by decide +kernel
theorem dX7_init_131 : decode cX7_init 131 = .ok (.newarray .int, 2) := by decide +kernel
theorem dX7_init_133 : decode cX7_init 133 = .ok (.putfield 64, 3) := by decide +kernel
theorem dX7_init_136 : decode cX7_init 136 = .ok (.aload_n 0, 1) := by decide +kernel
theorem dX7_init_137 : decode cX7_init 137 = .ok (.bipush 25, 2) := by decide +kernel
theorem dX7_init_139 : decode cX7_init 139 = .ok (.newarray .int, 2) := by decide +kernel
theorem dX7_init_141 : decode cX7_init 141 = .ok (.putfield 67, 3) := by decide +kernel
theorem dX7_init_144 : decode cX7_init 144 = .ok (.aload_n 0, 1) := by decide +kernel
theorem dX7_init_145 : decode cX7_init 145 = .ok (.bipush 25, 2) := by decide +kernel
theorem dX7_init_147 : decode cX7_init 147 = .ok (.newarray .int, 2) := by decide +kernel
theorem dX7_init_149 : decode cX7_init 149 = .ok (.putfield 70, 3) := by decide +kernel
theorem dX7_init_152 : decode cX7_init 152 = .ok (.aload_n 0, 1) := by decide +kernel
theorem dX7_init_153 : decode cX7_init 153 = .ok (.bipush 25, 2) := by decide +kernel
theorem dX7_init_155 : decode cX7_init 155 = .ok (.newarray .long, 2) := by decide +kernel
theorem dX7_init_157 : decode cX7_init 157 = .ok (.putfield 73, 3) := by decide +kernel
theorem dX7_init_160 : decode cX7_init 160 = .ok (.aload_n 0, 1) := by decide +kernel
theorem dX7_init_161 : decode cX7_init 161 = .ok (.sipush 1000, 3) := by decide +kernel
theorem dX7_init_164 : decode cX7_init 164 = .ok (.newarray .long, 2) := by decide +kernel
theorem dX7_init_166 : decode cX7_init 166 = .ok (.putfield 76, 3) := by decide +kernel
theorem dX7_init_169 : decode cX7_init 169 = .ok (.aload_n 0, 1) := by decide +kernel
theorem dX7_init_170 : decode cX7_init 170 = .ok (.sipush 1000, 3) := by decide +kernel
theorem dX7_init_173 : decode cX7_init 173 = .ok (.newarray .long, 2) := by decide +kernel
theorem dX7_init_175 : decode cX7_init 175 = .ok (.putfield 79, 3) := by decide +kernel
theorem dX7_init_178 : decode cX7_init 178 = .ok (.aload_n 0, 1) := by decide +kernel
theorem dX7_init_179 : decode cX7_init 179 = .ok (.sipush 1000, 3) := by decide +kernel
theorem dX7_init_182 : decode cX7_init 182 = .ok (.newarray .long, 2) := by decide +kernel
theorem dX7_init_184 : decode cX7_init 184 = .ok (.putfield 82, 3) := by decide +kernel
theorem dX7_init_187 : decode cX7_init 187 = .ok (.aload_n 0, 1) := by decide +kernel
theorem dX7_init_188 : decode cX7_init 188 = .ok (.sipush 4000, 3) := by decide +kernel
theorem dX7_init_191 : decode cX7_init 191 = .ok (.newarray .int, 2) := by decide +kernel
theorem dX7_init_193 : decode cX7_init 193 = .ok (.putfield 85, 3) := by decide +kernel
theorem dX7_init_196 : decode cX7_init 196 = .ok (.aload_n 0, 1) := by decide +kernel
theorem dX7_init_197 : decode cX7_init 197 = .ok (.sipush 250, 3) := by decide +kernel
theorem dX7_init_200 : decode cX7_init 200 = .ok (.newarray .long, 2) := by decide +kernel
theorem dX7_init_202 : decode cX7_init 202 = .ok (.putfield 88, 3) := by decide +kernel
theorem dX7_init_205 : decode cX7_init 205 = .ok (.aload_n 0, 1) := by decide +kernel
theorem dX7_init_206 : decode cX7_init 206 = .ok (.sipush 175, 3) := by decide +kernel
theorem dX7_init_209 : decode cX7_init 209 = .ok (.newarray .long, 2) := by decide +kernel
theorem dX7_init_211 : decode cX7_init 211 = .ok (.putfield 91, 3) := by decide +kernel
theorem dX7_init_214 : decode cX7_init 214 = .ok (.aload_n 0, 1) := by decide +kernel
theorem dX7_init_215 : decode cX7_init 215 = .ok (.bipush 10, 2) := by decide +kernel
theorem dX7_init_217 : decode cX7_init 217 = .ok (.newarray .int, 2) := by decide +kernel
theorem dX7_init_219 : decode cX7_init 219 = .ok (.putfield 94, 3) := by decide +kernel
theorem dX7_init_222 : decode cX7_init 222 = .ok (.aload_n 0, 1) := by decide +kernel
theorem dX7_init_223 : decode cX7_init 223 = .ok (.bipush 10, 2) := by decide +kernel
theorem dX7_init_225 : decode cX7_init 225 = .ok (.newarray .int, 2) := by decide +kernel
theorem dX7_init_227 : decode cX7_init 227 = .ok (.putfield 97, 3) := by decide +kernel
theorem dX7_init_230 : decode cX7_init 230 = .ok (.aload_n 0, 1) := by decide +kernel
theorem dX7_init_231 : decode cX7_init 231 = .ok (.bipush 72, 2) := by decide +kernel
theorem dX7_init_233 : decode cX7_init 233 = .ok (.newarray .int, 2) := by decide +kernel
theorem dX7_init_235 : decode cX7_init 235 = .ok (.putfield 100, 3) := by decide +kernel
theorem dX7_init_238 : decode cX7_init 238 = .ok (.aload_n 0, 1) := by decide +kernel
theorem dX7_init_239 : decode cX7_init 239 = .ok (.bipush 12, 2) := by decide +kernel
theorem dX7_init_241 : decode cX7_init 241 = .ok (.newarray .int, 2) := by decide +kernel
theorem dX7_init_243 : decode cX7_init 243 = .ok (.putfield 103, 3) := by decide +kernel
theorem dX7_init_246 : decode cX7_init 246 = .ok (.aload_n 0, 1) := by decide +kernel
theorem dX7_init_247 : decode cX7_init 247 = .ok (.bipush 40, 2) := by decide +kernel
theorem dX7_init_249 : decode cX7_init 249 = .ok (.newarray .int, 2) := by decide +kernel
theorem dX7_init_251 : decode cX7_init 251 = .ok (.putfield 106, 3) := by decide +kernel
theorem dX7_init_254 : decode cX7_init 254 = .ok (.aload_n 0, 1) := by decide +kernel
theorem dX7_init_255 : decode cX7_init 255 = .ok (.bipush 40, 2) := by decide +kernel
theorem dX7_init_257 : decode cX7_init 257 = .ok (.newarray .long, 2) := by decide +kernel
theorem dX7_init_259 : decode cX7_init 259 = .ok (.putfield 109, 3) := by decide +kernel
theorem dX7_init_262 : decode cX7_init 262 = .ok (.aload_n 0, 1) := by decide +kernel
theorem dX7_init_263 : decode cX7_init 263 = .ok (.bipush 40, 2) := by decide +kernel
theorem dX7_init_265 : decode cX7_init 265 = .ok (.newarray .long, 2) := by decide +kernel
theorem dX7_init_267 : decode cX7_init 267 = .ok (.putfield 112, 3) := by decide +kernel
theorem dX7_init_270 : decode cX7_init 270 = .ok (.aload_n 0, 1) := by decide +kernel
theorem dX7_init_271 : decode cX7_init 271 = .ok (.bipush 40, 2) := by decide +kernel
theorem dX7_init_273 : decode cX7_init 273 = .ok (.newarray .long, 2) := by decide +kernel
theorem dX7_init_275 : decode cX7_init 275 = .ok (.putfield 115, 3) := by decide +kernel
theorem dX7_init_278 : decode cX7_init 278 = .ok (.aload_n 0, 1) := by decide +kernel
theorem dX7_init_279 : decode cX7_init 279 = .ok (.bipush 40, 2) := by decide +kernel
theorem dX7_init_281 : decode cX7_init 281 = .ok (.newarray .long, 2) := by decide +kernel
theorem dX7_init_283 : decode cX7_init 283 = .ok (.putfield 118, 3) := by decide +kernel
theorem dX7_init_286 : decode cX7_init 286 = .ok (.aload_n 0, 1) := by decide +kernel
theorem dX7_init_287 : decode cX7_init 287 = .ok (.bipush 12, 2) := by decide +kernel
theorem dX7_init_289 : decode cX7_init 289 = .ok (.newarray .long, 2) := by decide +kernel
theorem dX7_init_291 : decode cX7_init 291 = .ok (.putfield 121, 3) := by decide +kernel
theorem dX7_init_294 : decode cX7_init 294 = .ok (.aload_n 0, 1) := by decide +kernel
theorem dX7_init_295 : decode cX7_init 295 = .ok (.bipush 12, 2) := by decide +kernel
theorem dX7_init_297 : decode cX7_init 297 = .ok (.newarray .int, 2) := by decide +kernel
theorem dX7_init_299 : decode cX7_init 299 = .ok (.putfield 124, 3) := by decide +kernel
theorem dX7_init_302 : decode cX7_init 302 = .ok (.aload_n 0, 1) := by decide +kernel
theorem dX7_init_303 : decode cX7_init 303 = .ok (.bipush 40, 2) := by decide +kernel
theorem dX7_init_305 : decode cX7_init 305 = .ok (.newarray .long, 2) := by decide +kernel
theorem dX7_init_307 : decode cX7_init 307 = .ok (.putfield 127, 3) := by decide +kernel
theorem dX7_init_310 : decode cX7_init 310 = .ok (.aload_n 0, 1) := by decide +kernel
theorem dX7_init_311 : decode cX7_init 311 = .ok (.bipush 40, 2) := by decide +kernel
theorem dX7_init_313 : decode cX7_init 313 = .ok (.newarray .long, 2) := by decide +kernel
theorem dX7_init_315 : decode cX7_init 315 = .ok (.putfield 130, 3) := by decide +kernel
theorem dX7_init_318 : decode cX7_init 318 = .ok (.aload_n 0, 1) := by decide +kernel
theorem dX7_init_319 : decode cX7_init 319 = .ok (.bipush 40, 2) := by decide +kernel
theorem dX7_init_321 : decode cX7_init 321 = .ok (.newarray .long, 2) := by decide +kernel
theorem dX7_init_323 : decode cX7_init 323 = .ok (.putfield 133, 3) := by decide +kernel
theorem dX7_init_326 : decode cX7_init 326 = .ok (.aload_n 0, 1) := by decide +kernel
theorem dX7_init_327 : decode cX7_init 327 = .ok (.bipush 7, 2) := by decide +kernel
theorem dX7_init_329 : decode cX7_init 329 = .ok (.newarray .long, 2) := by decide +kernel
theorem dX7_init_331 : decode cX7_init 331 = .ok (.putfield 136, 3) := by decide +kernel
theorem dX7_init_334 : decode cX7_init 334 = .ok (.aload_n 0, 1) := by decide +kernel
theorem dX7_init_335 : decode cX7_init 335 = .ok (.bipush 40, 2) := by decide +kernel
theorem dX7_init_337 : decode cX7_init 337 = .ok (.newarray .long, 2) := by decide +kernel
theorem dX7_init_339 : decode cX7_init 339 = .ok (.putfield 139, 3) := by decide +kernel
theorem dX7_init_342 : decode cX7_init 342 = .ok (.aload_n 0, 1) := by decide +kernel
theorem dX7_init_343 : decode cX7_init 343 = .ok (.bipush 12, 2) := by decide +kernel
theorem dX7_init_345 : decode cX7_init 345 = .ok (.newarray .long, 2) := by decide +kernel
theorem dX7_init_347 : decode cX7_init 347 = .ok (.putfield 142, 3) := by decide +kernel
theorem dX7_init_350 : decode cX7_init 350 = .ok (.return_, 1) := by decide +kernel
theorem dX7_clearsHarm_0 : decode cX7_clearsHarm 0 = .ok (.iconst 0, 1) := by decide +kernel
theorem dX7_clearsHarm_1 : decode cX7_clearsHarm 1 = .ok (.istore_n 2, 1) := by decide +kernel
theorem dX7_clearsHarm_2 : decode cX7_clearsHarm 2 = .ok (.iload_n 2, 1) := by decide +kernel
theorem dX7_clearsHarm_3 : decode cX7_clearsHarm 3 = .ok (.bipush 40, 2) := by decide +kernel
theorem dX7_clearsHarm_5 : decode cX7_clearsHarm 5 = .ok (.if_icmp .ge 45, 3) := by decide +kernel
theorem dX7_clearsHarm_8 : decode cX7_clearsHarm 8 = .ok (.aload_n 0, 1) := by decide +kernel
theorem dX7_clearsHarm_9 : decode cX7_clearsHarm 9 = .ok (.getfield 76, 3) := by decide +kernel
theorem dX7_clearsHarm_12 : decode cX7_clearsHarm 12 = .ok (.bipush 40, 2) := by decide +kernel
theorem dX7_clearsHarm_14 : decode cX7_clearsHarm 14 = .ok (.iload_n 1, 1) := by decide +kernel
theorem dX7_clearsHarm_15 : decode cX7_clearsHarm 15 = .ok (.imul, 1) := by decide +kernel
theorem dX7_clearsHarm_16 : decode cX7_clearsHarm 16 = .ok (.iload_n 2, 1) := by decide +kernel
theorem dX7_clearsHarm_17 : decode cX7_clearsHarm 17 = .ok (.iadd, 1) := by decide +kernel
theorem dX7_clearsHarm_18 : decode cX7_clearsHarm 18 = .ok (.lconst 0, 1) := by decide +kernel
theorem dX7_clearsHarm_19 : decode cX7_clearsHarm 19 = .ok (.lastore, 1) := by decide +kernel
theorem dX7_clearsHarm_20 : decode cX7_clearsHarm 20 = .ok (.aload_n 0, 1) := by decide +kernel
theorem dX7_clearsHarm_21 : decode cX7_clearsHarm 21 = .ok (.getfield 79, 3) := by decide +kernel
theorem dX7_clearsHarm_24 : decode cX7_clearsHarm 24 = .ok (.bipush 40, 2) := by decide +kernel
theorem dX7_clearsHarm_26 : decode cX7_clearsHarm 26 = .ok (.iload_n 1, 1) := by decide +kernel
theorem dX7_clearsHarm_27 : decode cX7_clearsHarm 27 = .ok (.imul, 1) := by decide +kernel
theorem dX7_clearsHarm_28 : decode cX7_clearsHarm 28 = .ok (.iload_n 2, 1) := by decide +kernel
theorem dX7_clearsHarm_29 : decode cX7_clearsHarm 29 = .ok (.iadd, 1) := by decide +kernel
theorem dX7_clearsHarm_30 : decode cX7_clearsHarm 30 = .ok (.lconst 0, 1) := by decide +kernel
theorem dX7_clearsHarm_31 : decode cX7_clearsHarm 31 = .ok (.lastore, 1) := by decide +kernel
theorem dX7_clearsHarm_32 : decode cX7_clearsHarm 32 = .ok (.aload_n 0, 1) := by decide +kernel
theorem dX7_clearsHarm_33 : decode cX7_clearsHarm 33 = .ok (.getfield 82, 3) := by decide +kernel
theorem dX7_clearsHarm_36 : decode cX7_clearsHarm 36 = .ok (.bipush 40, 2) := by decide +kernel
theorem dX7_clearsHarm_38 : decode cX7_clearsHarm 38 = .ok (.iload_n 1, 1) := by decide +kernel
theorem dX7_clearsHarm_39 : decode cX7_clearsHarm 39 = .ok (.imul, 1) := by decide +kernel
theorem dX7_clearsHarm_40 : decode cX7_clearsHarm 40 = .ok (.iload_n 2, 1) := by decide +kernel
theorem dX7_clearsHarm_41 : decode cX7_clearsHarm 41 = .ok (.iadd, 1) := by decide +kernel
theorem dX7_clearsHarm_42 : decode cX7_clearsHarm 42 = .ok (.lconst 0, 1) := by decide +kernel
theorem dX7_clearsHarm_43 : decode cX7_clearsHarm 43 = .ok (.lastore, 1) := by decide +kernel
theorem dX7_clearsHarm_44 : decode cX7_clearsHarm 44 = .ok (.iinc 2 1, 3) := by decide +kernel
theorem dX7_clearsHarm_47 : decode cX7_clearsHarm 47 = .ok (.goto (-45), 3) := by decide +kernel
theorem dX7_clearsHarm_50 : decode cX7_clearsHarm 50 = .ok (.iconst 0, 1) := by decide +kernel
theorem dX7_clearsHarm_51 : decode cX7_clearsHarm 51 = .ok (.istore_n 2, 1) := by decide +kernel
theorem dX7_clearsHarm_52 : decode cX7_clearsHarm 52 = .ok (.iload_n 2, 1) := by decide +kernel
theorem dX7_clearsHarm_53 : decode cX7_clearsHarm 53 = .ok (.sipush 160, 3) := by decide +kernel
theorem dX7_clearsHarm_56 : decode cX7_clearsHarm 56 = .ok (.if_icmp .ge 22, 3) := by decide +kernel
theorem dX7_clearsHarm_59 : decode cX7_clearsHarm 59 = .ok (.aload_n 0, 1) := by decide +kernel
theorem dX7_clearsHarm_60 : decode cX7_clearsHarm 60 = .ok (.getfield 85, 3) := by decide +kernel
theorem dX7_clearsHarm_63 : decode cX7_clearsHarm 63 = .ok (.sipush 160, 3) := by decide +kernel
theorem dX7_clearsHarm_66 : decode cX7_clearsHarm 66 = .ok (.iload_n 1, 1) := by decide +kernel
theorem dX7_clearsHarm_67 : decode cX7_clearsHarm 67 = .ok (.imul, 1) := by decide +kernel
theorem dX7_clearsHarm_68 : decode cX7_clearsHarm 68 = .ok (.iload_n 2, 1) := by decide +kernel
theorem dX7_clearsHarm_69 : decode cX7_clearsHarm 69 = .ok (.iadd, 1) := by decide +kernel
theorem dX7_clearsHarm_70 : decode cX7_clearsHarm 70 = .ok (.iconst 0, 1) := by decide +kernel
theorem dX7_clearsHarm_71 : decode cX7_clearsHarm 71 = .ok (.iastore, 1) := by decide +kernel
theorem dX7_clearsHarm_72 : decode cX7_clearsHarm 72 = .ok (.iinc 2 1, 3) := by decide +kernel
theorem dX7_clearsHarm_75 : decode cX7_clearsHarm 75 = .ok (.goto (-23), 3) := by decide +kernel
theorem dX7_clearsHarm_78 : decode cX7_clearsHarm 78 = .ok (.iconst 0, 1) := by decide +kernel
theorem dX7_clearsHarm_79 : decode cX7_clearsHarm 79 = .ok (.istore_n 2, 1) := by decide +kernel
theorem dX7_clearsHarm_80 : decode cX7_clearsHarm 80 = .ok (.iload_n 2, 1) := by decide +kernel
theorem dX7_clearsHarm_81 : decode cX7_clearsHarm 81 = .ok (.bipush 10, 2) := by decide +kernel
theorem dX7_clearsHarm_83 : decode cX7_clearsHarm 83 = .ok (.if_icmp .ge 21, 3) := by decide +kernel
theorem dX7_clearsHarm_86 : decode cX7_clearsHarm 86 = .ok (.aload_n 0, 1) := by decide +kernel
theorem dX7_clearsHarm_87 : decode cX7_clearsHarm 87 = .ok (.getfield 88, 3) := by decide +kernel
theorem dX7_clearsHarm_90 : decode cX7_clearsHarm 90 = .ok (.bipush 10, 2) := by decide +kernel
theorem dX7_clearsHarm_92 : decode cX7_clearsHarm 92 = .ok (.iload_n 1, 1) := by decide +kernel
theorem dX7_clearsHarm_93 : decode cX7_clearsHarm 93 = .ok (.imul, 1) := by decide +kernel
theorem dX7_clearsHarm_94 : decode cX7_clearsHarm 94 = .ok (.iload_n 2, 1) := by decide +kernel
theorem dX7_clearsHarm_95 : decode cX7_clearsHarm 95 = .ok (.iadd, 1) := by decide +kernel
theorem dX7_clearsHarm_96 : decode cX7_clearsHarm 96 = .ok (.lconst 0, 1) := by decide +kernel
theorem dX7_clearsHarm_97 : decode cX7_clearsHarm 97 = .ok (.lastore, 1) := by decide +kernel
theorem dX7_clearsHarm_98 : decode cX7_clearsHarm 98 = .ok (.iinc 2 1, 3) := by decide +kernel
theorem dX7_clearsHarm_101 : decode cX7_clearsHarm 101 = .ok (.goto (-21), 3) := by decide +kernel
theorem dX7_clearsHarm_104 : decode cX7_clearsHarm 104 = .ok (.iconst 0, 1) := by decide +kernel
theorem dX7_clearsHarm_105 : decode cX7_clearsHarm 105 = .ok (.istore_n 2, 1) := by decide +kernel
theorem dX7_clearsHarm_106 : decode cX7_clearsHarm 106 = .ok (.iload_n 2, 1) := by decide +kernel
theorem dX7_clearsHarm_107 : decode cX7_clearsHarm 107 = .ok (.bipush 7, 2) := by decide +kernel
theorem dX7_clearsHarm_109 : decode cX7_clearsHarm 109 = .ok (.if_icmp .ge 21, 3) := by decide +kernel
theorem dX7_clearsHarm_112 : decode cX7_clearsHarm 112 = .ok (.aload_n 0, 1) := by decide +kernel
theorem dX7_clearsHarm_113 : decode cX7_clearsHarm 113 = .ok (.getfield 91, 3) := by decide +kernel
theorem dX7_clearsHarm_116 : decode cX7_clearsHarm 116 = .ok (.bipush 7, 2) := by decide +kernel
theorem dX7_clearsHarm_118 : decode cX7_clearsHarm 118 = .ok (.iload_n 1, 1) := by decide +kernel
theorem dX7_clearsHarm_119 : decode cX7_clearsHarm 119 = .ok (.imul, 1) := by decide +kernel
theorem dX7_clearsHarm_120 : decode cX7_clearsHarm 120 = .ok (.iload_n 2, 1) := by decide +kernel
theorem dX7_clearsHarm_121 : decode cX7_clearsHarm 121 = .ok (.iadd, 1) := by decide +kernel
theorem dX7_clearsHarm_122 : decode cX7_clearsHarm 122 = .ok (.lconst 0, 1) := by decide +kernel
theorem dX7_clearsHarm_123 : decode cX7_clearsHarm 123 = .ok (.lastore, 1) := by decide +kernel
theorem dX7_clearsHarm_124 : decode cX7_clearsHarm 124 = .ok (.iinc 2 1, 3) := by decide +kernel
theorem dX7_clearsHarm_127 : decode cX7_clearsHarm 127 = .ok (.goto (-21), 3) := by decide +kernel
theorem dX7_clearsHarm_130 : decode cX7_clearsHarm 130 = .ok (.return_, 1) := by decide +kernel
theorem dX7_clears_0 : decode cX7_clears 0 = .ok (.iconst 0, 1) := by decide +kernel
theorem dX7_clears_1 : decode cX7_clears 1 = .ok (.istore_n 1, 1) := by decide +kernel
theorem dX7_clears_2 : decode cX7_clears 2 = .ok (.iload_n 1, 1) := by decide +kernel
theorem dX7_clears_3 : decode cX7_clears 3 = .ok (.bipush 40, 2) := by decide +kernel
theorem dX7_clears_5 : decode cX7_clears 5 = .ok (.if_icmp .ge 30, 3) := by decide +kernel
theorem dX7_clears_8 : decode cX7_clears 8 = .ok (.aload_n 0, 1) := by decide +kernel
theorem dX7_clears_9 : decode cX7_clears 9 = .ok (.getfield 29, 3) := by decide +kernel
theorem dX7_clears_12 : decode cX7_clears 12 = .ok (.iload_n 1, 1) := by decide +kernel
theorem dX7_clears_13 : decode cX7_clears 13 = .ok (.iconst 0, 1) := by decide +kernel
theorem dX7_clears_14 : decode cX7_clears 14 = .ok (.bastore, 1) := by decide +kernel
theorem dX7_clears_15 : decode cX7_clears 15 = .ok (.aload_n 0, 1) := by decide +kernel
theorem dX7_clears_16 : decode cX7_clears 16 = .ok (.getfield 48, 3) := by decide +kernel
theorem dX7_clears_19 : decode cX7_clears 19 = .ok (.iload_n 1, 1) := by decide +kernel
theorem dX7_clears_20 : decode cX7_clears 20 = .ok (.iconst 0, 1) := by decide +kernel
theorem dX7_clears_21 : decode cX7_clears 21 = .ok (.iastore, 1) := by decide +kernel
theorem dX7_clears_22 : decode cX7_clears 22 = .ok (.aload_n 0, 1) := by decide +kernel
theorem dX7_clears_23 : decode cX7_clears 23 = .ok (.getfield 57, 3) := by decide +kernel
theorem dX7_clears_26 : decode cX7_clears 26 = .ok (.iload_n 1, 1) := by decide +kernel
theorem dX7_clears_27 : decode cX7_clears 27 = .ok (.lconst 0, 1) := by decide +kernel
theorem dX7_clears_28 : decode cX7_clears 28 = .ok (.lastore, 1) := by decide +kernel
theorem dX7_clears_29 : decode cX7_clears 29 = .ok (.iinc 1 1, 3) := by decide +kernel
theorem dX7_clears_32 : decode cX7_clears 32 = .ok (.goto (-30), 3) := by decide +kernel
theorem dX7_clears_35 : decode cX7_clears 35 = .ok (.iconst 0, 1) := by decide +kernel
theorem dX7_clears_36 : decode cX7_clears 36 = .ok (.istore_n 1, 1) := by decide +kernel
theorem dX7_clears_37 : decode cX7_clears 37 = .ok (.iload_n 1, 1) := by decide +kernel
theorem dX7_clears_38 : decode cX7_clears 38 = .ok (.bipush 24, 2) := by decide +kernel
theorem dX7_clears_40 : decode cX7_clears 40 = .ok (.if_icmp .gt 35, 3) := by decide +kernel
theorem dX7_clears_43 : decode cX7_clears 43 = .ok (.aload_n 0, 1) := by decide +kernel
theorem dX7_clears_44 : decode cX7_clears 44 = .ok (.getfield 33, 3) := by decide +kernel
theorem dX7_clears_47 : decode cX7_clears 47 = .ok (.iload_n 1, 1) := by decide +kernel
theorem dX7_clears_48 : decode cX7_clears 48 = .ok (.iconst 0, 1) := by decide +kernel
theorem dX7_clears_49 : decode cX7_clears 49 = .ok (.bastore, 1) := by decide +kernel
theorem dX7_clears_50 : decode cX7_clears 50 = .ok (.aload_n 0, 1) := by decide +kernel
theorem dX7_clears_51 : decode cX7_clears 51 = .ok (.getfield 70, 3) := by decide +kernel
theorem dX7_clears_54 : decode cX7_clears 54 = .ok (.iload_n 1, 1) := by decide +kernel
theorem dX7_clears_55 : decode cX7_clears 55 = .ok (.iconst 0, 1) := by decide +kernel
theorem dX7_clears_56 : decode cX7_clears 56 = .ok (.iastore, 1) := by decide +kernel
theorem dX7_clears_57 : decode cX7_clears 57 = .ok (.aload_n 0, 1) := by decide +kernel
theorem dX7_clears_58 : decode cX7_clears 58 = .ok (.getfield 73, 3) := by decide +kernel
theorem dX7_clears_61 : decode cX7_clears 61 = .ok (.iload_n 1, 1) := by decide +kernel
theorem dX7_clears_62 : decode cX7_clears 62 = .ok (.lconst 0, 1) := by decide +kernel
theorem dX7_clears_63 : decode cX7_clears 63 = .ok (.lastore, 1) := by decide +kernel
theorem dX7_clears_64 : decode cX7_clears 64 = .ok (.aload_n 0, 1) := by decide +kernel
theorem dX7_clears_65 : decode cX7_clears 65 = .ok (.iload_n 1, 1) := by decide +kernel
theorem dX7_clears_66 : decode cX7_clears 66 = .ok (.invokevirtual 145, 3) := by decide +kernel
theorem dX7_clears_69 : decode cX7_clears 69 = .ok (.iinc 1 1, 3) := by decide +kernel
theorem dX7_clears_72 : decode cX7_clears 72 = .ok (.goto (-35), 3) := by decide +kernel
theorem dX7_clears_75 : decode cX7_clears 75 = .ok (.iconst 0, 1) := by decide +kernel
theorem dX7_clears_76 : decode cX7_clears 76 = .ok (.istore_n 1, 1) := by decide +kernel
theorem dX7_clears_77 : decode cX7_clears 77 = .ok (.iload_n 1, 1) := by decide +kernel
theorem dX7_clears_78 : decode cX7_clears 78 = .ok (.bipush 10, 2) := by decide +kernel
theorem dX7_clears_80 : decode cX7_clears 80 = .ok (.if_icmp .ge 23, 3) := by decide +kernel
theorem dX7_clears_83 : decode cX7_clears 83 = .ok (.aload_n 0, 1) := by decide +kernel
theorem dX7_clears_84 : decode cX7_clears 84 = .ok (.getfield 94, 3) := by decide +kernel
theorem dX7_clears_87 : decode cX7_clears 87 = .ok (.iload_n 1, 1) := by decide +kernel
theorem dX7_clears_88 : decode cX7_clears 88 = .ok (.iconst 0, 1) := by decide +kernel
theorem dX7_clears_89 : decode cX7_clears 89 = .ok (.iastore, 1) := by decide +kernel
theorem dX7_clears_90 : decode cX7_clears 90 = .ok (.aload_n 0, 1) := by decide +kernel
theorem dX7_clears_91 : decode cX7_clears 91 = .ok (.getfield 97, 3) := by decide +kernel
theorem dX7_clears_94 : decode cX7_clears 94 = .ok (.iload_n 1, 1) := by decide +kernel
theorem dX7_clears_95 : decode cX7_clears 95 = .ok (.iconst 0, 1) := by decide +kernel
theorem dX7_clears_96 : decode cX7_clears 96 = .ok (.iastore, 1) := by decide +kernel
theorem dX7_clears_97 : decode cX7_clears 97 = .ok (.iinc 1 1, 3) := by decide +kernel
theorem dX7_clears_100 : decode cX7_clears 100 = .ok (.goto (-23), 3) := by decide +kernel
theorem dX7_clears_103 : decode cX7_clears 103 = .ok (.iconst 0, 1) := by decide +kernel
theorem dX7_clears_104 : decode cX7_clears 104 = .ok (.istore_n 1, 1) := by decide +kernel
theorem dX7_clears_105 : decode cX7_clears 105 = .ok (.iload_n 1, 1) := by decide +kernel
theorem dX7_clears_106 : decode cX7_clears 106 = .ok (.bipush 12, 2) := by decide +kernel
theorem dX7_clears_108 : decode cX7_clears 108 = .ok (.if_icmp .ge 16, 3) := by decide +kernel
theorem dX7_clears_111 : decode cX7_clears 111 = .ok (.aload_n 0, 1) := by decide +kernel
theorem dX7_clears_112 : decode cX7_clears 112 = .ok (.getfield 103, 3) := by decide +kernel
theorem dX7_clears_115 : decode cX7_clears 115 = .ok (.iload_n 1, 1) := by decide +kernel
theorem dX7_clears_116 : decode cX7_clears 116 = .ok (.iconst 0, 1) := by decide +kernel
theorem dX7_clears_117 : decode cX7_clears 117 = .ok (.iastore, 1) := by decide +kernel
theorem dX7_clears_118 : decode cX7_clears 118 = .ok (.iinc 1 1, 3) := by decide +kernel
theorem dX7_clears_121 : decode cX7_clears 121 = .ok (.goto (-16), 3) := by decide +kernel
theorem dX7_clears_124 : decode cX7_clears 124 = .ok (.aload_n 0, 1) := by decide +kernel
theorem dX7_clears_125 : decode cX7_clears 125 = .ok (.iconst 0, 1) := by decide +kernel
theorem dX7_clears_126 : decode cX7_clears 126 = .ok (.putfield 149, 3) := by decide +kernel
theorem dX7_clears_129 : decode cX7_clears 129 = .ok (.aload_n 0, 1) := by decide +kernel
theorem dX7_clears_130 : decode cX7_clears 130 = .ok (.iconst 0, 1) := by decide +kernel
theorem dX7_clears_131 : decode cX7_clears 131 = .ok (.putfield 152, 3) := by decide +kernel
theorem dX7_clears_134 : decode cX7_clears 134 = .ok (.aload_n 0, 1) := by decide +kernel
theorem dX7_clears_135 : decode cX7_clears 135 = .ok (.iconst 0, 1) := by decide +kernel
theorem dX7_clears_136 : decode cX7_clears 136 = .ok (.putfield 155, 3) := by decide +kernel
theorem dX7_clears_139 : decode cX7_clears 139 = .ok (.aload_n 0, 1) := by decide +kernel
theorem dX7_clears_140 : decode cX7_clears 140 = .ok (.iconst 0, 1) := by decide +kernel
theorem dX7_clears_141 : decode cX7_clears 141 = .ok (.putfield 158, 3) := by decide +kernel
theorem dX7_clears_144 : decode cX7_clears 144 = .ok (.return_, 1) := by decide +kernel
theorem dX7_isIn_0 : decode cX7_isIn 0 = .ok (.aload_n 0, 1) := by decide +kernel
theorem dX7_isIn_1 : decode cX7_isIn 1 = .ok (.getfield 29, 3) := by decide +kernel
theorem dX7_isIn_4 : decode cX7_isIn 4 = .ok (.iload_n 1, 1) := by decide +kernel
theorem dX7_isIn_5 : decode cX7_isIn 5 = .ok (.baload, 1) := by decide +kernel
theorem dX7_isIn_6 : decode cX7_isIn 6 = .ok (.ifCond .eq 17, 3) := by decide +kernel
theorem dX7_isIn_9 : decode cX7_isIn 9 = .ok (.aload_n 0, 1) := by decide +kernel
theorem dX7_isIn_10 : decode cX7_isIn 10 = .ok (.getfield 36, 3) := by decide +kernel
theorem dX7_isIn_13 : decode cX7_isIn 13 = .ok (.iload_n 1, 1) := by decide +kernel
theorem dX7_isIn_14 : decode cX7_isIn 14 = .ok (.iaload, 1) := by decide +kernel
theorem dX7_isIn_15 : decode cX7_isIn 15 = .ok (.iload_n 2, 1) := by decide +kernel
theorem dX7_isIn_16 : decode cX7_isIn 16 = .ok (.if_icmp .ne 7, 3) := by decide +kernel
theorem dX7_isIn_19 : decode cX7_isIn 19 = .ok (.iconst 1, 1) := by decide +kernel
theorem dX7_isIn_20 : decode cX7_isIn 20 = .ok (.goto 4, 3) := by decide +kernel
theorem dX7_isIn_23 : decode cX7_isIn 23 = .ok (.iconst 0, 1) := by decide +kernel
theorem dX7_isIn_24 : decode cX7_isIn 24 = .ok (.ireturn, 1) := by decide +kernel
theorem dX7_top_0 : decode cX7_top 0 = .ok (.aload_n 0, 1) := by decide +kernel
theorem dX7_top_1 : decode cX7_top 1 = .ok (.getfield 39, 3) := by decide +kernel
theorem dX7_top_4 : decode cX7_top 4 = .ok (.iload_n 1, 1) := by decide +kernel
theorem dX7_top_5 : decode cX7_top 5 = .ok (.iaload, 1) := by decide +kernel
theorem dX7_top_6 : decode cX7_top 6 = .ok (.aload_n 0, 1) := by decide +kernel
theorem dX7_top_7 : decode cX7_top 7 = .ok (.getfield 42, 3) := by decide +kernel
theorem dX7_top_10 : decode cX7_top 10 = .ok (.iload_n 1, 1) := by decide +kernel
theorem dX7_top_11 : decode cX7_top 11 = .ok (.iaload, 1) := by decide +kernel
theorem dX7_top_12 : decode cX7_top 12 = .ok (.iadd, 1) := by decide +kernel
theorem dX7_top_13 : decode cX7_top 13 = .ok (.ireturn, 1) := by decide +kernel
theorem dX7_left_0 : decode cX7_left 0 = .ok (.aload_n 0, 1) := by decide +kernel
theorem dX7_left_1 : decode cX7_left 1 = .ok (.getfield 42, 3) := by decide +kernel
theorem dX7_left_4 : decode cX7_left 4 = .ok (.iload_n 1, 1) := by decide +kernel
theorem dX7_left_5 : decode cX7_left 5 = .ok (.iaload, 1) := by decide +kernel
theorem dX7_left_6 : decode cX7_left 6 = .ok (.i2l, 1) := by decide +kernel
theorem dX7_left_7 : decode cX7_left 7 = .ok (.aload_n 0, 1) := by decide +kernel
theorem dX7_left_8 : decode cX7_left 8 = .ok (.getfield 45, 3) := by decide +kernel
theorem dX7_left_11 : decode cX7_left 11 = .ok (.iload_n 1, 1) := by decide +kernel
theorem dX7_left_12 : decode cX7_left 12 = .ok (.iaload, 1) := by decide +kernel
theorem dX7_left_13 : decode cX7_left 13 = .ok (.i2l, 1) := by decide +kernel
theorem dX7_left_14 : decode cX7_left 14 = .ok (.lmul, 1) := by decide +kernel
theorem dX7_left_15 : decode cX7_left 15 = .ok (.aload_n 0, 1) := by decide +kernel
theorem dX7_left_16 : decode cX7_left 16 = .ok (.getfield 57, 3) := by decide +kernel
theorem dX7_left_19 : decode cX7_left 19 = .ok (.iload_n 1, 1) := by decide +kernel
theorem dX7_left_20 : decode cX7_left 20 = .ok (.laload, 1) := by decide +kernel
theorem dX7_left_21 : decode cX7_left 21 = .ok (.lsub, 1) := by decide +kernel
theorem dX7_left_22 : decode cX7_left 22 = .ok (.lreturn, 1) := by decide +kernel
theorem dX7_rungOf_0 : decode cX7_rungOf 0 = .ok (.iload_n 2, 1) := by decide +kernel
theorem dX7_rungOf_1 : decode cX7_rungOf 1 = .ok (.aload_n 0, 1) := by decide +kernel
theorem dX7_rungOf_2 : decode cX7_rungOf 2 = .ok (.getfield 103, 3) := by decide +kernel
theorem dX7_rungOf_5 : decode cX7_rungOf 5 = .ok (.iload_n 1, 1) := by decide +kernel
theorem dX7_rungOf_6 : decode cX7_rungOf 6 = .ok (.iaload, 1) := by decide +kernel
theorem dX7_rungOf_7 : decode cX7_rungOf 7 = .ok (.if_icmp .ge 17, 3) := by decide +kernel
theorem dX7_rungOf_10 : decode cX7_rungOf 10 = .ok (.aload_n 0, 1) := by decide +kernel
theorem dX7_rungOf_11 : decode cX7_rungOf 11 = .ok (.getfield 100, 3) := by decide +kernel
theorem dX7_rungOf_14 : decode cX7_rungOf 14 = .ok (.bipush 6, 2) := by decide +kernel
theorem dX7_rungOf_16 : decode cX7_rungOf 16 = .ok (.iload_n 1, 1) := by decide +kernel
theorem dX7_rungOf_17 : decode cX7_rungOf 17 = .ok (.imul, 1) := by decide +kernel
theorem dX7_rungOf_18 : decode cX7_rungOf 18 = .ok (.iload_n 2, 1) := by decide +kernel
theorem dX7_rungOf_19 : decode cX7_rungOf 19 = .ok (.iadd, 1) := by decide +kernel
theorem dX7_rungOf_20 : decode cX7_rungOf 20 = .ok (.iaload, 1) := by decide +kernel
theorem dX7_rungOf_21 : decode cX7_rungOf 21 = .ok (.goto 4, 3) := by decide +kernel
theorem dX7_rungOf_24 : decode cX7_rungOf 24 = .ok (.iconst (-1), 1) := by decide +kernel
theorem dX7_rungOf_25 : decode cX7_rungOf 25 = .ok (.ireturn, 1) := by decide +kernel
theorem dX7_layersOf_0 : decode cX7_layersOf 0 = .ok (.aload_n 0, 1) := by decide +kernel
theorem dX7_layersOf_1 : decode cX7_layersOf 1 = .ok (.getfield 103, 3) := by decide +kernel
theorem dX7_layersOf_4 : decode cX7_layersOf 4 = .ok (.iload_n 1, 1) := by decide +kernel
theorem dX7_layersOf_5 : decode cX7_layersOf 5 = .ok (.iaload, 1) := by decide +kernel
theorem dX7_layersOf_6 : decode cX7_layersOf 6 = .ok (.ireturn, 1) := by decide +kernel
theorem dX7_stacks_0 : decode cX7_stacks 0 = .ok (.aload_n 0, 1) := by decide +kernel
theorem dX7_stacks_1 : decode cX7_stacks 1 = .ok (.getfield 36, 3) := by decide +kernel
theorem dX7_stacks_4 : decode cX7_stacks 4 = .ok (.iload_n 1, 1) := by decide +kernel
theorem dX7_stacks_5 : decode cX7_stacks 5 = .ok (.iaload, 1) := by decide +kernel
theorem dX7_stacks_6 : decode cX7_stacks 6 = .ok (.istore_n 2, 1) := by decide +kernel
theorem dX7_stacks_7 : decode cX7_stacks 7 = .ok (.aload_n 0, 1) := by decide +kernel
theorem dX7_stacks_8 : decode cX7_stacks 8 = .ok (.getfield 103, 3) := by decide +kernel
theorem dX7_stacks_11 : decode cX7_stacks 11 = .ok (.iload_n 2, 1) := by decide +kernel
theorem dX7_stacks_12 : decode cX7_stacks 12 = .ok (.iaload, 1) := by decide +kernel
theorem dX7_stacks_13 : decode cX7_stacks 13 = .ok (.istore_n 3, 1) := by decide +kernel
theorem dX7_stacks_14 : decode cX7_stacks 14 = .ok (.iload_n 3, 1) := by decide +kernel
theorem dX7_stacks_15 : decode cX7_stacks 15 = .ok (.ifCond .le 60, 3) := by decide +kernel
theorem dX7_stacks_18 : decode cX7_stacks 18 = .ok (.aload_n 0, 1) := by decide +kernel
theorem dX7_stacks_19 : decode cX7_stacks 19 = .ok (.getfield 39, 3) := by decide +kernel
theorem dX7_stacks_22 : decode cX7_stacks 22 = .ok (.aload_n 0, 1) := by decide +kernel
theorem dX7_stacks_23 : decode cX7_stacks 23 = .ok (.getfield 100, 3) := by decide +kernel
theorem dX7_stacks_26 : decode cX7_stacks 26 = .ok (.bipush 6, 2) := by decide +kernel
theorem dX7_stacks_28 : decode cX7_stacks 28 = .ok (.iload_n 2, 1) := by decide +kernel
theorem dX7_stacks_29 : decode cX7_stacks 29 = .ok (.imul, 1) := by decide +kernel
theorem dX7_stacks_30 : decode cX7_stacks 30 = .ok (.iload_n 3, 1) := by decide +kernel
theorem dX7_stacks_31 : decode cX7_stacks 31 = .ok (.iadd, 1) := by decide +kernel
theorem dX7_stacks_32 : decode cX7_stacks 32 = .ok (.iconst 1, 1) := by decide +kernel
theorem dX7_stacks_33 : decode cX7_stacks 33 = .ok (.isub, 1) := by decide +kernel
theorem dX7_stacks_34 : decode cX7_stacks 34 = .ok (.iaload, 1) := by decide +kernel
theorem dX7_stacks_35 : decode cX7_stacks 35 = .ok (.iaload, 1) := by decide +kernel
theorem dX7_stacks_36 : decode cX7_stacks 36 = .ok (.aload_n 0, 1) := by decide +kernel
theorem dX7_stacks_37 : decode cX7_stacks 37 = .ok (.getfield 39, 3) := by decide +kernel
theorem dX7_stacks_40 : decode cX7_stacks 40 = .ok (.iload_n 1, 1) := by decide +kernel
theorem dX7_stacks_41 : decode cX7_stacks 41 = .ok (.iaload, 1) := by decide +kernel
theorem dX7_stacks_42 : decode cX7_stacks 42 = .ok (.if_icmp .le 33, 3) := by decide +kernel
theorem dX7_stacks_45 : decode cX7_stacks 45 = .ok (.aload_n 0, 1) := by decide +kernel
theorem dX7_stacks_46 : decode cX7_stacks 46 = .ok (.getfield 100, 3) := by decide +kernel
theorem dX7_stacks_49 : decode cX7_stacks 49 = .ok (.bipush 6, 2) := by decide +kernel
theorem dX7_stacks_51 : decode cX7_stacks 51 = .ok (.iload_n 2, 1) := by decide +kernel
theorem dX7_stacks_52 : decode cX7_stacks 52 = .ok (.imul, 1) := by decide +kernel
theorem dX7_stacks_53 : decode cX7_stacks 53 = .ok (.iload_n 3, 1) := by decide +kernel
theorem dX7_stacks_54 : decode cX7_stacks 54 = .ok (.iadd, 1) := by decide +kernel
theorem dX7_stacks_55 : decode cX7_stacks 55 = .ok (.aload_n 0, 1) := by decide +kernel
theorem dX7_stacks_56 : decode cX7_stacks 56 = .ok (.getfield 100, 3) := by decide +kernel
theorem dX7_stacks_59 : decode cX7_stacks 59 = .ok (.bipush 6, 2) := by decide +kernel
theorem dX7_stacks_61 : decode cX7_stacks 61 = .ok (.iload_n 2, 1) := by decide +kernel
theorem dX7_stacks_62 : decode cX7_stacks 62 = .ok (.imul, 1) := by decide +kernel
theorem dX7_stacks_63 : decode cX7_stacks 63 = .ok (.iload_n 3, 1) := by decide +kernel
theorem dX7_stacks_64 : decode cX7_stacks 64 = .ok (.iadd, 1) := by decide +kernel
theorem dX7_stacks_65 : decode cX7_stacks 65 = .ok (.iconst 1, 1) := by decide +kernel
theorem dX7_stacks_66 : decode cX7_stacks 66 = .ok (.isub, 1) := by decide +kernel
theorem dX7_stacks_67 : decode cX7_stacks 67 = .ok (.iaload, 1) := by decide +kernel
theorem dX7_stacks_68 : decode cX7_stacks 68 = .ok (.iastore, 1) := by decide +kernel
theorem dX7_stacks_69 : decode cX7_stacks 69 = .ok (.iinc 3 (-1), 3) := by decide +kernel
theorem dX7_stacks_72 : decode cX7_stacks 72 = .ok (.goto (-58), 3) := by decide +kernel
theorem dX7_stacks_75 : decode cX7_stacks 75 = .ok (.aload_n 0, 1) := by decide +kernel
theorem dX7_stacks_76 : decode cX7_stacks 76 = .ok (.getfield 100, 3) := by decide +kernel
theorem dX7_stacks_79 : decode cX7_stacks 79 = .ok (.bipush 6, 2) := by decide +kernel
theorem dX7_stacks_81 : decode cX7_stacks 81 = .ok (.iload_n 2, 1) := by decide +kernel
theorem dX7_stacks_82 : decode cX7_stacks 82 = .ok (.imul, 1) := by decide +kernel
theorem dX7_stacks_83 : decode cX7_stacks 83 = .ok (.iload_n 3, 1) := by decide +kernel
theorem dX7_stacks_84 : decode cX7_stacks 84 = .ok (.iadd, 1) := by decide +kernel
theorem dX7_stacks_85 : decode cX7_stacks 85 = .ok (.iload_n 1, 1) := by decide +kernel
theorem dX7_stacks_86 : decode cX7_stacks 86 = .ok (.iastore, 1) := by decide +kernel
theorem dX7_stacks_87 : decode cX7_stacks 87 = .ok (.aload_n 0, 1) := by decide +kernel
theorem dX7_stacks_88 : decode cX7_stacks 88 = .ok (.getfield 103, 3) := by decide +kernel
theorem dX7_stacks_91 : decode cX7_stacks 91 = .ok (.iload_n 2, 1) := by decide +kernel
theorem dX7_stacks_92 : decode cX7_stacks 92 = .ok (.dup2, 1) := by decide +kernel
theorem dX7_stacks_93 : decode cX7_stacks 93 = .ok (.iaload, 1) := by decide +kernel
theorem dX7_stacks_94 : decode cX7_stacks 94 = .ok (.iconst 1, 1) := by decide +kernel
theorem dX7_stacks_95 : decode cX7_stacks 95 = .ok (.iadd, 1) := by decide +kernel
theorem dX7_stacks_96 : decode cX7_stacks 96 = .ok (.iastore, 1) := by decide +kernel
theorem dX7_stacks_97 : decode cX7_stacks 97 = .ok (.iconst 0, 1) := by decide +kernel
theorem dX7_stacks_98 : decode cX7_stacks 98 = .ok (.istore 4, 2) := by decide +kernel
theorem dX7_stacks_100 : decode cX7_stacks 100 = .ok (.iconst 0, 1) := by decide +kernel
theorem dX7_stacks_101 : decode cX7_stacks 101 = .ok (.istore_n 3, 1) := by decide +kernel
theorem dX7_stacks_102 : decode cX7_stacks 102 = .ok (.iload_n 3, 1) := by decide +kernel
theorem dX7_stacks_103 : decode cX7_stacks 103 = .ok (.aload_n 0, 1) := by decide +kernel
theorem dX7_stacks_104 : decode cX7_stacks 104 = .ok (.getfield 103, 3) := by decide +kernel
theorem dX7_stacks_107 : decode cX7_stacks 107 = .ok (.iload_n 2, 1) := by decide +kernel
theorem dX7_stacks_108 : decode cX7_stacks 108 = .ok (.iaload, 1) := by decide +kernel
theorem dX7_stacks_109 : decode cX7_stacks 109 = .ok (.if_icmp .ge 46, 3) := by decide +kernel
theorem dX7_stacks_112 : decode cX7_stacks 112 = .ok (.aload_n 0, 1) := by decide +kernel
theorem dX7_stacks_113 : decode cX7_stacks 113 = .ok (.getfield 106, 3) := by decide +kernel
theorem dX7_stacks_116 : decode cX7_stacks 116 = .ok (.aload_n 0, 1) := by decide +kernel
theorem dX7_stacks_117 : decode cX7_stacks 117 = .ok (.iload_n 2, 1) := by decide +kernel
theorem dX7_stacks_118 : decode cX7_stacks 118 = .ok (.iload_n 3, 1) := by decide +kernel
theorem dX7_stacks_119 : decode cX7_stacks 119 = .ok (.invokevirtual 161, 3) := by decide +kernel
theorem dX7_stacks_122 : decode cX7_stacks 122 = .ok (.aload_n 0, 1) := by decide +kernel
theorem dX7_stacks_123 : decode cX7_stacks 123 = .ok (.getfield 39, 3) := by decide +kernel
theorem dX7_stacks_126 : decode cX7_stacks 126 = .ok (.aload_n 0, 1) := by decide +kernel
theorem dX7_stacks_127 : decode cX7_stacks 127 = .ok (.iload_n 2, 1) := by decide +kernel
theorem dX7_stacks_128 : decode cX7_stacks 128 = .ok (.iload_n 3, 1) := by decide +kernel
theorem dX7_stacks_129 : decode cX7_stacks 129 = .ok (.invokevirtual 161, 3) := by decide +kernel
theorem dX7_stacks_132 : decode cX7_stacks 132 = .ok (.iaload, 1) := by decide +kernel
theorem dX7_stacks_133 : decode cX7_stacks 133 = .ok (.iload 4, 2) := by decide +kernel
theorem dX7_stacks_135 : decode cX7_stacks 135 = .ok (.isub, 1) := by decide +kernel
theorem dX7_stacks_136 : decode cX7_stacks 136 = .ok (.iastore, 1) := by decide +kernel
theorem dX7_stacks_137 : decode cX7_stacks 137 = .ok (.aload_n 0, 1) := by decide +kernel
theorem dX7_stacks_138 : decode cX7_stacks 138 = .ok (.aload_n 0, 1) := by decide +kernel
theorem dX7_stacks_139 : decode cX7_stacks 139 = .ok (.iload_n 2, 1) := by decide +kernel
theorem dX7_stacks_140 : decode cX7_stacks 140 = .ok (.iload_n 3, 1) := by decide +kernel
theorem dX7_stacks_141 : decode cX7_stacks 141 = .ok (.invokevirtual 161, 3) := by decide +kernel
theorem dX7_stacks_144 : decode cX7_stacks 144 = .ok (.invokevirtual 165, 3) := by decide +kernel
theorem dX7_stacks_147 : decode cX7_stacks 147 = .ok (.istore 4, 2) := by decide +kernel
theorem dX7_stacks_149 : decode cX7_stacks 149 = .ok (.iinc 3 1, 3) := by decide +kernel
theorem dX7_stacks_152 : decode cX7_stacks 152 = .ok (.goto (-50), 3) := by decide +kernel
theorem dX7_stacks_155 : decode cX7_stacks 155 = .ok (.return_, 1) := by decide +kernel
theorem dX7_isGap_0 : decode cX7_isGap 0 = .ok (.aload_n 0, 1) := by decide +kernel
theorem dX7_isGap_1 : decode cX7_isGap 1 = .ok (.iload_n 1, 1) := by decide +kernel
theorem dX7_isGap_2 : decode cX7_isGap 2 = .ok (.invokevirtual 169, 3) := by decide +kernel
theorem dX7_isGap_5 : decode cX7_isGap 5 = .ok (.ifCond .ne 7, 3) := by decide +kernel
theorem dX7_isGap_8 : decode cX7_isGap 8 = .ok (.iconst 1, 1) := by decide +kernel
theorem dX7_isGap_9 : decode cX7_isGap 9 = .ok (.goto 4, 3) := by decide +kernel
theorem dX7_isGap_12 : decode cX7_isGap 12 = .ok (.iconst 0, 1) := by decide +kernel
theorem dX7_isGap_13 : decode cX7_isGap 13 = .ok (.ireturn, 1) := by decide +kernel
theorem dX7_holeOf_0 : decode cX7_holeOf 0 = .ok (.aload_n 0, 1) := by decide +kernel
theorem dX7_holeOf_1 : decode cX7_holeOf 1 = .ok (.getfield 106, 3) := by decide +kernel
theorem dX7_holeOf_4 : decode cX7_holeOf 4 = .ok (.iload_n 1, 1) := by decide +kernel
theorem dX7_holeOf_5 : decode cX7_holeOf 5 = .ok (.iaload, 1) := by decide +kernel
theorem dX7_holeOf_6 : decode cX7_holeOf 6 = .ok (.ireturn, 1) := by decide +kernel
theorem dX7_holeLeft_0 : decode cX7_holeLeft 0 = .ok (.aload_n 0, 1) := by decide +kernel
theorem dX7_holeLeft_1 : decode cX7_holeLeft 1 = .ok (.iload_n 2, 1) := by decide +kernel
theorem dX7_holeLeft_2 : decode cX7_holeLeft 2 = .ok (.invokevirtual 172, 3) := by decide +kernel
theorem dX7_holeLeft_5 : decode cX7_holeLeft 5 = .ok (.i2l, 1) := by decide +kernel
theorem dX7_holeLeft_6 : decode cX7_holeLeft 6 = .ok (.aload_n 0, 1) := by decide +kernel
theorem dX7_holeLeft_7 : decode cX7_holeLeft 7 = .ok (.getfield 79, 3) := by decide +kernel
theorem dX7_holeLeft_10 : decode cX7_holeLeft 10 = .ok (.bipush 40, 2) := by decide +kernel
theorem dX7_holeLeft_12 : decode cX7_holeLeft 12 = .ok (.iload_n 1, 1) := by decide +kernel
theorem dX7_holeLeft_13 : decode cX7_holeLeft 13 = .ok (.imul, 1) := by decide +kernel
theorem dX7_holeLeft_14 : decode cX7_holeLeft 14 = .ok (.iload_n 2, 1) := by decide +kernel
theorem dX7_holeLeft_15 : decode cX7_holeLeft 15 = .ok (.iadd, 1) := by decide +kernel
theorem dX7_holeLeft_16 : decode cX7_holeLeft 16 = .ok (.laload, 1) := by decide +kernel
theorem dX7_holeLeft_17 : decode cX7_holeLeft 17 = .ok (.lsub, 1) := by decide +kernel
theorem dX7_holeLeft_18 : decode cX7_holeLeft 18 = .ok (.lstore_n 3, 1) := by decide +kernel
theorem dX7_holeLeft_19 : decode cX7_holeLeft 19 = .ok (.lload_n 3, 1) := by decide +kernel
theorem dX7_holeLeft_20 : decode cX7_holeLeft 20 = .ok (.lconst 0, 1) := by decide +kernel
theorem dX7_holeLeft_21 : decode cX7_holeLeft 21 = .ok (.lcmp, 1) := by decide +kernel
theorem dX7_holeLeft_22 : decode cX7_holeLeft 22 = .ok (.ifCond .le 7, 3) := by decide +kernel
theorem dX7_holeLeft_25 : decode cX7_holeLeft 25 = .ok (.lload_n 3, 1) := by decide +kernel
theorem dX7_holeLeft_26 : decode cX7_holeLeft 26 = .ok (.goto 4, 3) := by decide +kernel
theorem dX7_holeLeft_29 : decode cX7_holeLeft 29 = .ok (.lconst 0, 1) := by decide +kernel
theorem dX7_holeLeft_30 : decode cX7_holeLeft 30 = .ok (.lreturn, 1) := by decide +kernel
theorem dX7_canTake_0 : decode cX7_canTake 0 = .ok (.aload_n 0, 1) := by decide +kernel
theorem dX7_canTake_1 : decode cX7_canTake 1 = .ok (.getfield 42, 3) := by decide +kernel
theorem dX7_canTake_4 : decode cX7_canTake 4 = .ok (.iload_n 2, 1) := by decide +kernel
theorem dX7_canTake_5 : decode cX7_canTake 5 = .ok (.iaload, 1) := by decide +kernel
theorem dX7_canTake_6 : decode cX7_canTake 6 = .ok (.i2l, 1) := by decide +kernel
theorem dX7_canTake_7 : decode cX7_canTake 7 = .ok (.aload_n 0, 1) := by decide +kernel
theorem dX7_canTake_8 : decode cX7_canTake 8 = .ok (.getfield 76, 3) := by decide +kernel
theorem dX7_canTake_11 : decode cX7_canTake 11 = .ok (.bipush 40, 2) := by decide +kernel
theorem dX7_canTake_13 : decode cX7_canTake 13 = .ok (.iload_n 1, 1) := by decide +kernel
theorem dX7_canTake_14 : decode cX7_canTake 14 = .ok (.imul, 1) := by decide +kernel
theorem dX7_canTake_15 : decode cX7_canTake 15 = .ok (.iload_n 2, 1) := by decide +kernel
theorem dX7_canTake_16 : decode cX7_canTake 16 = .ok (.iadd, 1) := by decide +kernel
theorem dX7_canTake_17 : decode cX7_canTake 17 = .ok (.laload, 1) := by decide +kernel
theorem dX7_canTake_18 : decode cX7_canTake 18 = .ok (.lsub, 1) := by decide +kernel
theorem dX7_canTake_19 : decode cX7_canTake 19 = .ok (.aload_n 0, 1) := by decide +kernel
theorem dX7_canTake_20 : decode cX7_canTake 20 = .ok (.iload_n 2, 1) := by decide +kernel
theorem dX7_canTake_21 : decode cX7_canTake 21 = .ok (.invokevirtual 175, 3) := by decide +kernel
theorem dX7_canTake_24 : decode cX7_canTake 24 = .ok (.invokestatic 179, 3) := by decide +kernel
theorem dX7_canTake_27 : decode cX7_canTake 27 = .ok (.lreturn, 1) := by decide +kernel
theorem dX7_roomOf_0 : decode cX7_roomOf 0 = .ok (.lconst 0, 1) := by decide +kernel
theorem dX7_roomOf_1 : decode cX7_roomOf 1 = .ok (.lstore_n 3, 1) := by decide +kernel
theorem dX7_roomOf_2 : decode cX7_roomOf 2 = .ok (.iconst 0, 1) := by decide +kernel
theorem dX7_roomOf_3 : decode cX7_roomOf 3 = .ok (.istore 5, 2) := by decide +kernel
theorem dX7_roomOf_5 : decode cX7_roomOf 5 = .ok (.iload 5, 2) := by decide +kernel
theorem dX7_roomOf_7 : decode cX7_roomOf 7 = .ok (.aload_n 0, 1) := by decide +kernel
theorem dX7_roomOf_8 : decode cX7_roomOf 8 = .ok (.iload_n 2, 1) := by decide +kernel
theorem dX7_roomOf_9 : decode cX7_roomOf 9 = .ok (.invokevirtual 169, 3) := by decide +kernel
theorem dX7_roomOf_12 : decode cX7_roomOf 12 = .ok (.if_icmp .ge 37, 3) := by decide +kernel
theorem dX7_roomOf_15 : decode cX7_roomOf 15 = .ok (.lload_n 3, 1) := by decide +kernel
theorem dX7_roomOf_16 : decode cX7_roomOf 16 = .ok (.aload_n 0, 1) := by decide +kernel
theorem dX7_roomOf_17 : decode cX7_roomOf 17 = .ok (.iload_n 1, 1) := by decide +kernel
theorem dX7_roomOf_18 : decode cX7_roomOf 18 = .ok (.aload_n 0, 1) := by decide +kernel
theorem dX7_roomOf_19 : decode cX7_roomOf 19 = .ok (.iload_n 2, 1) := by decide +kernel
theorem dX7_roomOf_20 : decode cX7_roomOf 20 = .ok (.iload 5, 2) := by decide +kernel
theorem dX7_roomOf_22 : decode cX7_roomOf 22 = .ok (.invokevirtual 161, 3) := by decide +kernel
theorem dX7_roomOf_25 : decode cX7_roomOf 25 = .ok (.invokevirtual 183, 3) := by decide +kernel
theorem dX7_roomOf_28 : decode cX7_roomOf 28 = .ok (.aload_n 0, 1) := by decide +kernel
theorem dX7_roomOf_29 : decode cX7_roomOf 29 = .ok (.iload_n 1, 1) := by decide +kernel
theorem dX7_roomOf_30 : decode cX7_roomOf 30 = .ok (.aload_n 0, 1) := by decide +kernel
theorem dX7_roomOf_31 : decode cX7_roomOf 31 = .ok (.iload_n 2, 1) := by decide +kernel
theorem dX7_roomOf_32 : decode cX7_roomOf 32 = .ok (.iload 5, 2) := by decide +kernel
theorem dX7_roomOf_34 : decode cX7_roomOf 34 = .ok (.invokevirtual 161, 3) := by decide +kernel
theorem dX7_roomOf_37 : decode cX7_roomOf 37 = .ok (.invokevirtual 187, 3) := by decide +kernel
theorem dX7_roomOf_40 : decode cX7_roomOf 40 = .ok (.ladd, 1) := by decide +kernel
theorem dX7_roomOf_41 : decode cX7_roomOf 41 = .ok (.ladd, 1) := by decide +kernel
theorem dX7_roomOf_42 : decode cX7_roomOf 42 = .ok (.lstore_n 3, 1) := by decide +kernel
theorem dX7_roomOf_43 : decode cX7_roomOf 43 = .ok (.iinc 5 1, 3) := by decide +kernel
theorem dX7_roomOf_46 : decode cX7_roomOf 46 = .ok (.goto (-41), 3) := by decide +kernel
theorem dX7_roomOf_49 : decode cX7_roomOf 49 = .ok (.lload_n 3, 1) := by decide +kernel
theorem dX7_roomOf_50 : decode cX7_roomOf 50 = .ok (.lreturn, 1) := by decide +kernel
theorem dX7_sizesOf_0 : decode cX7_sizesOf 0 = .ok (.lconst 0, 1) := by decide +kernel
theorem dX7_sizesOf_1 : decode cX7_sizesOf 1 = .ok (.lstore_n 2, 1) := by decide +kernel
theorem dX7_sizesOf_2 : decode cX7_sizesOf 2 = .ok (.iconst 0, 1) := by decide +kernel
theorem dX7_sizesOf_3 : decode cX7_sizesOf 3 = .ok (.istore 4, 2) := by decide +kernel
theorem dX7_sizesOf_5 : decode cX7_sizesOf 5 = .ok (.iload 4, 2) := by decide +kernel
theorem dX7_sizesOf_7 : decode cX7_sizesOf 7 = .ok (.aload_n 0, 1) := by decide +kernel
theorem dX7_sizesOf_8 : decode cX7_sizesOf 8 = .ok (.iload_n 1, 1) := by decide +kernel
theorem dX7_sizesOf_9 : decode cX7_sizesOf 9 = .ok (.invokevirtual 169, 3) := by decide +kernel
theorem dX7_sizesOf_12 : decode cX7_sizesOf 12 = .ok (.if_icmp .ge 25, 3) := by decide +kernel
theorem dX7_sizesOf_15 : decode cX7_sizesOf 15 = .ok (.lload_n 2, 1) := by decide +kernel
theorem dX7_sizesOf_16 : decode cX7_sizesOf 16 = .ok (.aload_n 0, 1) := by decide +kernel
theorem dX7_sizesOf_17 : decode cX7_sizesOf 17 = .ok (.getfield 42, 3) := by decide +kernel
theorem dX7_sizesOf_20 : decode cX7_sizesOf 20 = .ok (.aload_n 0, 1) := by decide +kernel
theorem dX7_sizesOf_21 : decode cX7_sizesOf 21 = .ok (.iload_n 1, 1) := by decide +kernel
theorem dX7_sizesOf_22 : decode cX7_sizesOf 22 = .ok (.iload 4, 2) := by decide +kernel
theorem dX7_sizesOf_24 : decode cX7_sizesOf 24 = .ok (.invokevirtual 161, 3) := by decide +kernel
theorem dX7_sizesOf_27 : decode cX7_sizesOf 27 = .ok (.iaload, 1) := by decide +kernel
theorem dX7_sizesOf_28 : decode cX7_sizesOf 28 = .ok (.i2l, 1) := by decide +kernel
theorem dX7_sizesOf_29 : decode cX7_sizesOf 29 = .ok (.ladd, 1) := by decide +kernel
theorem dX7_sizesOf_30 : decode cX7_sizesOf 30 = .ok (.lstore_n 2, 1) := by decide +kernel
theorem dX7_sizesOf_31 : decode cX7_sizesOf 31 = .ok (.iinc 4 1, 3) := by decide +kernel
theorem dX7_sizesOf_34 : decode cX7_sizesOf 34 = .ok (.goto (-29), 3) := by decide +kernel
theorem dX7_sizesOf_37 : decode cX7_sizesOf 37 = .ok (.lload_n 2, 1) := by decide +kernel
theorem dX7_sizesOf_38 : decode cX7_sizesOf 38 = .ok (.lreturn, 1) := by decide +kernel
theorem dX7_offsBy_0 : decode cX7_offsBy 0 = .ok (.iconst 0, 1) := by decide +kernel
theorem dX7_offsBy_1 : decode cX7_offsBy 1 = .ok (.istore 5, 2) := by decide +kernel
theorem dX7_offsBy_3 : decode cX7_offsBy 3 = .ok (.iload_n 1, 1) := by decide +kernel
theorem dX7_offsBy_4 : decode cX7_offsBy 4 = .ok (.istore 6, 2) := by decide +kernel
theorem dX7_offsBy_6 : decode cX7_offsBy 6 = .ok (.iload 6, 2) := by decide +kernel
theorem dX7_offsBy_8 : decode cX7_offsBy 8 = .ok (.iload_n 3, 1) := by decide +kernel
theorem dX7_offsBy_9 : decode cX7_offsBy 9 = .ok (.if_icmp .gt 81, 3) := by decide +kernel
theorem dX7_offsBy_12 : decode cX7_offsBy 12 = .ok (.iload 4, 2) := by decide +kernel
theorem dX7_offsBy_14 : decode cX7_offsBy 14 = .ok (.iconst 2, 1) := by decide +kernel
theorem dX7_offsBy_15 : decode cX7_offsBy 15 = .ok (.if_icmp .eq 44, 3) := by decide +kernel
theorem dX7_offsBy_18 : decode cX7_offsBy 18 = .ok (.iload 4, 2) := by decide +kernel
theorem dX7_offsBy_20 : decode cX7_offsBy 20 = .ok (.iconst 1, 1) := by decide +kernel
theorem dX7_offsBy_21 : decode cX7_offsBy 21 = .ok (.if_icmp .ne 9, 3) := by decide +kernel
theorem dX7_offsBy_24 : decode cX7_offsBy 24 = .ok (.iload 6, 2) := by decide +kernel
theorem dX7_offsBy_26 : decode cX7_offsBy 26 = .ok (.iload_n 3, 1) := by decide +kernel
theorem dX7_offsBy_27 : decode cX7_offsBy 27 = .ok (.if_icmp .eq 32, 3) := by decide +kernel
theorem dX7_offsBy_30 : decode cX7_offsBy 30 = .ok (.iload 4, 2) := by decide +kernel
theorem dX7_offsBy_32 : decode cX7_offsBy 32 = .ok (.ifCond .ne 9, 3) := by decide +kernel
theorem dX7_offsBy_35 : decode cX7_offsBy 35 = .ok (.iload 6, 2) := by decide +kernel
theorem dX7_offsBy_37 : decode cX7_offsBy 37 = .ok (.iload_n 2, 1) := by decide +kernel
theorem dX7_offsBy_38 : decode cX7_offsBy 38 = .ok (.if_icmp .le 21, 3) := by decide +kernel
theorem dX7_offsBy_41 : decode cX7_offsBy 41 = .ok (.iload 4, 2) := by decide +kernel
theorem dX7_offsBy_43 : decode cX7_offsBy 43 = .ok (.iconst 3, 1) := by decide +kernel
theorem dX7_offsBy_44 : decode cX7_offsBy 44 = .ok (.if_icmp .ne 19, 3) := by decide +kernel
theorem dX7_offsBy_47 : decode cX7_offsBy 47 = .ok (.iload 6, 2) := by decide +kernel
theorem dX7_offsBy_49 : decode cX7_offsBy 49 = .ok (.iload_n 2, 1) := by decide +kernel
theorem dX7_offsBy_50 : decode cX7_offsBy 50 = .ok (.if_icmp .le 9, 3) := by decide +kernel
theorem dX7_offsBy_53 : decode cX7_offsBy 53 = .ok (.iload 6, 2) := by decide +kernel
theorem dX7_offsBy_55 : decode cX7_offsBy 55 = .ok (.iload_n 3, 1) := by decide +kernel
theorem dX7_offsBy_56 : decode cX7_offsBy 56 = .ok (.if_icmp .ne 7, 3) := by decide +kernel
theorem dX7_offsBy_59 : decode cX7_offsBy 59 = .ok (.iconst 1, 1) := by decide +kernel
theorem dX7_offsBy_60 : decode cX7_offsBy 60 = .ok (.goto 4, 3) := by decide +kernel
theorem dX7_offsBy_63 : decode cX7_offsBy 63 = .ok (.iconst 0, 1) := by decide +kernel
theorem dX7_offsBy_64 : decode cX7_offsBy 64 = .ok (.istore 7, 2) := by decide +kernel
theorem dX7_offsBy_66 : decode cX7_offsBy 66 = .ok (.iload 5, 2) := by decide +kernel
theorem dX7_offsBy_68 : decode cX7_offsBy 68 = .ok (.iload 7, 2) := by decide +kernel
theorem dX7_offsBy_70 : decode cX7_offsBy 70 = .ok (.ifCond .eq 10, 3) := by decide +kernel
theorem dX7_offsBy_73 : decode cX7_offsBy 73 = .ok (.iconst 1, 1) := by decide +kernel
theorem dX7_offsBy_74 : decode cX7_offsBy 74 = .ok (.iload 6, 2) := by decide +kernel
theorem dX7_offsBy_76 : decode cX7_offsBy 76 = .ok (.ishl, 1) := by decide +kernel
theorem dX7_offsBy_77 : decode cX7_offsBy 77 = .ok (.goto 4, 3) := by decide +kernel
theorem dX7_offsBy_80 : decode cX7_offsBy 80 = .ok (.iconst 0, 1) := by decide +kernel
theorem dX7_offsBy_81 : decode cX7_offsBy 81 = .ok (.ior, 1) := by decide +kernel
theorem dX7_offsBy_82 : decode cX7_offsBy 82 = .ok (.istore 5, 2) := by decide +kernel
theorem dX7_offsBy_84 : decode cX7_offsBy 84 = .ok (.iinc 6 1, 3) := by decide +kernel
theorem dX7_offsBy_87 : decode cX7_offsBy 87 = .ok (.goto (-81), 3) := by decide +kernel
theorem dX7_offsBy_90 : decode cX7_offsBy 90 = .ok (.iload 5, 2) := by decide +kernel
theorem dX7_offsBy_92 : decode cX7_offsBy 92 = .ok (.ireturn, 1) := by decide +kernel
theorem dX7_isOff_0 : decode cX7_isOff 0 = .ok (.aload_n 0, 1) := by decide +kernel
theorem dX7_isOff_1 : decode cX7_isOff 1 = .ok (.aload_n 0, 1) := by decide +kernel
theorem dX7_isOff_2 : decode cX7_isOff 2 = .ok (.getfield 61, 3) := by decide +kernel
theorem dX7_isOff_5 : decode cX7_isOff 5 = .ok (.iload_n 1, 1) := by decide +kernel
theorem dX7_isOff_6 : decode cX7_isOff 6 = .ok (.iaload, 1) := by decide +kernel
theorem dX7_isOff_7 : decode cX7_isOff 7 = .ok (.aload_n 0, 1) := by decide +kernel
theorem dX7_isOff_8 : decode cX7_isOff 8 = .ok (.getfield 64, 3) := by decide +kernel
theorem dX7_isOff_11 : decode cX7_isOff 11 = .ok (.iload_n 1, 1) := by decide +kernel
theorem dX7_isOff_12 : decode cX7_isOff 12 = .ok (.iaload, 1) := by decide +kernel
theorem dX7_isOff_13 : decode cX7_isOff 13 = .ok (.aload_n 0, 1) := by decide +kernel
theorem dX7_isOff_14 : decode cX7_isOff 14 = .ok (.getfield 67, 3) := by decide +kernel
theorem dX7_isOff_17 : decode cX7_isOff 17 = .ok (.iload_n 1, 1) := by decide +kernel
theorem dX7_isOff_18 : decode cX7_isOff 18 = .ok (.iaload, 1) := by decide +kernel
theorem dX7_isOff_19 : decode cX7_isOff 19 = .ok (.aload_n 0, 1) := by decide +kernel
theorem dX7_isOff_20 : decode cX7_isOff 20 = .ok (.getfield 152, 3) := by decide +kernel
theorem dX7_isOff_23 : decode cX7_isOff 23 = .ok (.invokevirtual 190, 3) := by decide +kernel
theorem dX7_isOff_26 : decode cX7_isOff 26 = .ok (.iload_n 2, 1) := by decide +kernel
theorem dX7_isOff_27 : decode cX7_isOff 27 = .ok (.ishr, 1) := by decide +kernel
theorem dX7_isOff_28 : decode cX7_isOff 28 = .ok (.iconst 1, 1) := by decide +kernel
theorem dX7_isOff_29 : decode cX7_isOff 29 = .ok (.iand, 1) := by decide +kernel
theorem dX7_isOff_30 : decode cX7_isOff 30 = .ok (.iconst 1, 1) := by decide +kernel
theorem dX7_isOff_31 : decode cX7_isOff 31 = .ok (.if_icmp .ne 7, 3) := by decide +kernel
theorem dX7_isOff_34 : decode cX7_isOff 34 = .ok (.iconst 1, 1) := by decide +kernel
theorem dX7_isOff_35 : decode cX7_isOff 35 = .ok (.goto 4, 3) := by decide +kernel
theorem dX7_isOff_38 : decode cX7_isOff 38 = .ok (.iconst 0, 1) := by decide +kernel
theorem dX7_isOff_39 : decode cX7_isOff 39 = .ok (.ireturn, 1) := by decide +kernel
theorem dX7_isLacking_0 : decode cX7_isLacking 0 = .ok (.aload_n 0, 1) := by decide +kernel
theorem dX7_isLacking_1 : decode cX7_isLacking 1 = .ok (.getfield 149, 3) := by decide +kernel
theorem dX7_isLacking_4 : decode cX7_isLacking 4 = .ok (.iload_n 1, 1) := by decide +kernel
theorem dX7_isLacking_5 : decode cX7_isLacking 5 = .ok (.ishr, 1) := by decide +kernel
theorem dX7_isLacking_6 : decode cX7_isLacking 6 = .ok (.iconst 1, 1) := by decide +kernel
theorem dX7_isLacking_7 : decode cX7_isLacking 7 = .ok (.iand, 1) := by decide +kernel
theorem dX7_isLacking_8 : decode cX7_isLacking 8 = .ok (.iconst 1, 1) := by decide +kernel
theorem dX7_isLacking_9 : decode cX7_isLacking 9 = .ok (.if_icmp .ne 7, 3) := by decide +kernel
theorem dX7_isLacking_12 : decode cX7_isLacking 12 = .ok (.iconst 1, 1) := by decide +kernel
theorem dX7_isLacking_13 : decode cX7_isLacking 13 = .ok (.goto 4, 3) := by decide +kernel
theorem dX7_isLacking_16 : decode cX7_isLacking 16 = .ok (.iconst 0, 1) := by decide +kernel
theorem dX7_isLacking_17 : decode cX7_isLacking 17 = .ok (.ireturn, 1) := by decide +kernel
theorem dX7_weightSum_0 : decode cX7_weightSum 0 = .ok (.lconst 0, 1) := by decide +kernel
theorem dX7_weightSum_1 : decode cX7_weightSum 1 = .ok (.lstore_n 2, 1) := by decide +kernel
theorem dX7_weightSum_2 : decode cX7_weightSum 2 = .ok (.iconst 0, 1) := by decide +kernel
theorem dX7_weightSum_3 : decode cX7_weightSum 3 = .ok (.istore 4, 2) := by decide +kernel
theorem dX7_weightSum_5 : decode cX7_weightSum 5 = .ok (.iload 4, 2) := by decide +kernel
theorem dX7_weightSum_7 : decode cX7_weightSum 7 = .ok (.iload_n 1, 1) := by decide +kernel
theorem dX7_weightSum_8 : decode cX7_weightSum 8 = .ok (.if_icmp .ge 19, 3) := by decide +kernel
theorem dX7_weightSum_11 : decode cX7_weightSum 11 = .ok (.lload_n 2, 1) := by decide +kernel
theorem dX7_weightSum_12 : decode cX7_weightSum 12 = .ok (.aload_n 0, 1) := by decide +kernel
theorem dX7_weightSum_13 : decode cX7_weightSum 13 = .ok (.getfield 109, 3) := by decide +kernel
theorem dX7_weightSum_16 : decode cX7_weightSum 16 = .ok (.iload 4, 2) := by decide +kernel
theorem dX7_weightSum_18 : decode cX7_weightSum 18 = .ok (.laload, 1) := by decide +kernel
theorem dX7_weightSum_19 : decode cX7_weightSum 19 = .ok (.ladd, 1) := by decide +kernel
theorem dX7_weightSum_20 : decode cX7_weightSum 20 = .ok (.lstore_n 2, 1) := by decide +kernel
theorem dX7_weightSum_21 : decode cX7_weightSum 21 = .ok (.iinc 4 1, 3) := by decide +kernel
theorem dX7_weightSum_24 : decode cX7_weightSum 24 = .ok (.goto (-19), 3) := by decide +kernel
theorem dX7_weightSum_27 : decode cX7_weightSum 27 = .ok (.lload_n 2, 1) := by decide +kernel
theorem dX7_weightSum_28 : decode cX7_weightSum 28 = .ok (.lreturn, 1) := by decide +kernel
theorem dX7_shares_0 : decode cX7_shares 0 = .ok (.aload_n 0, 1) := by decide +kernel
theorem dX7_shares_1 : decode cX7_shares 1 = .ok (.iload_n 3, 1) := by decide +kernel
theorem dX7_shares_2 : decode cX7_shares 2 = .ok (.invokevirtual 194, 3) := by decide +kernel
theorem dX7_shares_5 : decode cX7_shares 5 = .ok (.lstore 4, 2) := by decide +kernel
theorem dX7_shares_7 : decode cX7_shares 7 = .ok (.lload_n 1, 1) := by decide +kernel
theorem dX7_shares_8 : decode cX7_shares 8 = .ok (.lstore 6, 2) := by decide +kernel
theorem dX7_shares_10 : decode cX7_shares 10 = .ok (.iconst 0, 1) := by decide +kernel
theorem dX7_shares_11 : decode cX7_shares 11 = .ok (.istore 8, 2) := by decide +kernel
theorem dX7_shares_13 : decode cX7_shares 13 = .ok (.iload 8, 2) := by decide +kernel
theorem dX7_shares_15 : decode cX7_shares 15 = .ok (.iload_n 3, 1) := by decide +kernel
theorem dX7_shares_16 : decode cX7_shares 16 = .ok (.if_icmp .ge 56, 3) := by decide +kernel
theorem dX7_shares_19 : decode cX7_shares 19 = .ok (.aload_n 0, 1) := by decide +kernel
theorem dX7_shares_20 : decode cX7_shares 20 = .ok (.getfield 112, 3) := by decide +kernel
theorem dX7_shares_23 : decode cX7_shares 23 = .ok (.iload 8, 2) := by decide +kernel
theorem dX7_shares_25 : decode cX7_shares 25 = .ok (.lload_n 1, 1) := by decide +kernel
theorem dX7_shares_26 : decode cX7_shares 26 = .ok (.lload 4, 2) := by decide +kernel
theorem dX7_shares_28 : decode cX7_shares 28 = .ok (.ldiv, 1) := by decide +kernel
theorem dX7_shares_29 : decode cX7_shares 29 = .ok (.aload_n 0, 1) := by decide +kernel
theorem dX7_shares_30 : decode cX7_shares 30 = .ok (.getfield 109, 3) := by decide +kernel
theorem dX7_shares_33 : decode cX7_shares 33 = .ok (.iload 8, 2) := by decide +kernel
theorem dX7_shares_35 : decode cX7_shares 35 = .ok (.laload, 1) := by decide +kernel
theorem dX7_shares_36 : decode cX7_shares 36 = .ok (.lmul, 1) := by decide +kernel
theorem dX7_shares_37 : decode cX7_shares 37 = .ok (.lload_n 1, 1) := by decide +kernel
theorem dX7_shares_38 : decode cX7_shares 38 = .ok (.lload 4, 2) := by decide +kernel
theorem dX7_shares_40 : decode cX7_shares 40 = .ok (.lrem, 1) := by decide +kernel
theorem dX7_shares_41 : decode cX7_shares 41 = .ok (.aload_n 0, 1) := by decide +kernel
theorem dX7_shares_42 : decode cX7_shares 42 = .ok (.getfield 109, 3) := by decide +kernel
theorem dX7_shares_45 : decode cX7_shares 45 = .ok (.iload 8, 2) := by decide +kernel
theorem dX7_shares_47 : decode cX7_shares 47 = .ok (.laload, 1) := by decide +kernel
theorem dX7_shares_48 : decode cX7_shares 48 = .ok (.lmul, 1) := by decide +kernel
theorem dX7_shares_49 : decode cX7_shares 49 = .ok (.lload 4, 2) := by decide +kernel
theorem dX7_shares_51 : decode cX7_shares 51 = .ok (.ldiv, 1) := by decide +kernel
theorem dX7_shares_52 : decode cX7_shares 52 = .ok (.ladd, 1) := by decide +kernel
theorem dX7_shares_53 : decode cX7_shares 53 = .ok (.lastore, 1) := by decide +kernel
theorem dX7_shares_54 : decode cX7_shares 54 = .ok (.lload 6, 2) := by decide +kernel
theorem dX7_shares_56 : decode cX7_shares 56 = .ok (.aload_n 0, 1) := by decide +kernel
theorem dX7_shares_57 : decode cX7_shares 57 = .ok (.getfield 112, 3) := by decide +kernel
theorem dX7_shares_60 : decode cX7_shares 60 = .ok (.iload 8, 2) := by decide +kernel
theorem dX7_shares_62 : decode cX7_shares 62 = .ok (.laload, 1) := by decide +kernel
theorem dX7_shares_63 : decode cX7_shares 63 = .ok (.lsub, 1) := by decide +kernel
theorem dX7_shares_64 : decode cX7_shares 64 = .ok (.lstore 6, 2) := by decide +kernel
theorem dX7_shares_66 : decode cX7_shares 66 = .ok (.iinc 8 1, 3) := by decide +kernel
theorem dX7_shares_69 : decode cX7_shares 69 = .ok (.goto (-56), 3) := by decide +kernel
theorem dX7_shares_72 : decode cX7_shares 72 = .ok (.iconst 0, 1) := by decide +kernel
theorem dX7_shares_73 : decode cX7_shares 73 = .ok (.istore 8, 2) := by decide +kernel
theorem dX7_shares_75 : decode cX7_shares 75 = .ok (.iload 8, 2) := by decide +kernel
theorem dX7_shares_77 : decode cX7_shares 77 = .ok (.iload_n 3, 1) := by decide +kernel
theorem dX7_shares_78 : decode cX7_shares 78 = .ok (.if_icmp .ge 48, 3) := by decide +kernel
theorem dX7_shares_81 : decode cX7_shares 81 = .ok (.lload 6, 2) := by decide +kernel
theorem dX7_shares_83 : decode cX7_shares 83 = .ok (.lconst 0, 1) := by decide +kernel
theorem dX7_shares_84 : decode cX7_shares 84 = .ok (.lcmp, 1) := by decide +kernel
theorem dX7_shares_85 : decode cX7_shares 85 = .ok (.ifCond .eq 35, 3) := by decide +kernel
theorem dX7_shares_88 : decode cX7_shares 88 = .ok (.aload_n 0, 1) := by decide +kernel
theorem dX7_shares_89 : decode cX7_shares 89 = .ok (.getfield 109, 3) := by decide +kernel
theorem dX7_shares_92 : decode cX7_shares 92 = .ok (.iload 8, 2) := by decide +kernel
theorem dX7_shares_94 : decode cX7_shares 94 = .ok (.laload, 1) := by decide +kernel
theorem dX7_shares_95 : decode cX7_shares 95 = .ok (.lconst 0, 1) := by decide +kernel
theorem dX7_shares_96 : decode cX7_shares 96 = .ok (.lcmp, 1) := by decide +kernel
theorem dX7_shares_97 : decode cX7_shares 97 = .ok (.ifCond .ne 6, 3) := by decide +kernel
theorem dX7_shares_100 : decode cX7_shares 100 = .ok (.goto 20, 3) := by decide +kernel
theorem dX7_shares_103 : decode cX7_shares 103 = .ok (.aload_n 0, 1) := by decide +kernel
theorem dX7_shares_104 : decode cX7_shares 104 = .ok (.getfield 112, 3) := by decide +kernel
theorem dX7_shares_107 : decode cX7_shares 107 = .ok (.iload 8, 2) := by decide +kernel
theorem dX7_shares_109 : decode cX7_shares 109 = .ok (.dup2, 1) := by decide +kernel
theorem dX7_shares_110 : decode cX7_shares 110 = .ok (.laload, 1) := by decide +kernel
theorem dX7_shares_111 : decode cX7_shares 111 = .ok (.lconst 1, 1) := by decide +kernel
theorem dX7_shares_112 : decode cX7_shares 112 = .ok (.ladd, 1) := by decide +kernel
theorem dX7_shares_113 : decode cX7_shares 113 = .ok (.lastore, 1) := by decide +kernel
theorem dX7_shares_114 : decode cX7_shares 114 = .ok (.lload 6, 2) := by decide +kernel
theorem dX7_shares_116 : decode cX7_shares 116 = .ok (.lconst 1, 1) := by decide +kernel
theorem dX7_shares_117 : decode cX7_shares 117 = .ok (.lsub, 1) := by decide +kernel
theorem dX7_shares_118 : decode cX7_shares 118 = .ok (.lstore 6, 2) := by decide +kernel
theorem dX7_shares_120 : decode cX7_shares 120 = .ok (.iinc 8 1, 3) := by decide +kernel
theorem dX7_shares_123 : decode cX7_shares 123 = .ok (.goto (-48), 3) := by decide +kernel
theorem dX7_shares_126 : decode cX7_shares 126 = .ok (.return_, 1) := by decide +kernel
theorem dX7_fills_0 : decode cX7_fills 0 = .ok (.lload_n 3, 1) := by decide +kernel
theorem dX7_fills_1 : decode cX7_fills 1 = .ok (.lstore 5, 2) := by decide +kernel
theorem dX7_fills_3 : decode cX7_fills 3 = .ok (.iconst 0, 1) := by decide +kernel
theorem dX7_fills_4 : decode cX7_fills 4 = .ok (.istore 7, 2) := by decide +kernel
theorem dX7_fills_6 : decode cX7_fills 6 = .ok (.iload 7, 2) := by decide +kernel
theorem dX7_fills_8 : decode cX7_fills 8 = .ok (.aload_n 0, 1) := by decide +kernel
theorem dX7_fills_9 : decode cX7_fills 9 = .ok (.iload_n 2, 1) := by decide +kernel
theorem dX7_fills_10 : decode cX7_fills 10 = .ok (.invokevirtual 169, 3) := by decide +kernel
theorem dX7_fills_13 : decode cX7_fills 13 = .ok (.if_icmp .ge 134, 3) := by decide +kernel
theorem dX7_fills_16 : decode cX7_fills 16 = .ok (.aload_n 0, 1) := by decide +kernel
theorem dX7_fills_17 : decode cX7_fills 17 = .ok (.iload_n 2, 1) := by decide +kernel
theorem dX7_fills_18 : decode cX7_fills 18 = .ok (.iload 7, 2) := by decide +kernel
theorem dX7_fills_20 : decode cX7_fills 20 = .ok (.invokevirtual 161, 3) := by decide +kernel
theorem dX7_fills_23 : decode cX7_fills 23 = .ok (.istore 8, 2) := by decide +kernel
theorem dX7_fills_25 : decode cX7_fills 25 = .ok (.lload 5, 2) := by decide +kernel
theorem dX7_fills_27 : decode cX7_fills 27 = .ok (.aload_n 0, 1) := by decide +kernel
theorem dX7_fills_28 : decode cX7_fills 28 = .ok (.iload_n 1, 1) := by decide +kernel
theorem dX7_fills_29 : decode cX7_fills 29 = .ok (.iload 8, 2) := by decide +kernel
theorem dX7_fills_31 : decode cX7_fills 31 = .ok (.invokevirtual 187, 3) := by decide +kernel
theorem dX7_fills_34 : decode cX7_fills 34 = .ok (.invokestatic 179, 3) := by decide +kernel
theorem dX7_fills_37 : decode cX7_fills 37 = .ok (.lstore 9, 2) := by decide +kernel
theorem dX7_fills_39 : decode cX7_fills 39 = .ok (.aload_n 0, 1) := by decide +kernel
theorem dX7_fills_40 : decode cX7_fills 40 = .ok (.getfield 79, 3) := by decide +kernel
theorem dX7_fills_43 : decode cX7_fills 43 = .ok (.bipush 40, 2) := by decide +kernel
theorem dX7_fills_45 : decode cX7_fills 45 = .ok (.iload_n 1, 1) := by decide +kernel
theorem dX7_fills_46 : decode cX7_fills 46 = .ok (.imul, 1) := by decide +kernel
theorem dX7_fills_47 : decode cX7_fills 47 = .ok (.iload 8, 2) := by decide +kernel
theorem dX7_fills_49 : decode cX7_fills 49 = .ok (.iadd, 1) := by decide +kernel
theorem dX7_fills_50 : decode cX7_fills 50 = .ok (.dup2, 1) := by decide +kernel
theorem dX7_fills_51 : decode cX7_fills 51 = .ok (.laload, 1) := by decide +kernel
theorem dX7_fills_52 : decode cX7_fills 52 = .ok (.lload 9, 2) := by decide +kernel
theorem dX7_fills_54 : decode cX7_fills 54 = .ok (.ladd, 1) := by decide +kernel
theorem dX7_fills_55 : decode cX7_fills 55 = .ok (.lastore, 1) := by decide +kernel
theorem dX7_fills_56 : decode cX7_fills 56 = .ok (.aload_n 0, 1) := by decide +kernel
theorem dX7_fills_57 : decode cX7_fills 57 = .ok (.getfield 91, 3) := by decide +kernel
theorem dX7_fills_60 : decode cX7_fills 60 = .ok (.bipush 7, 2) := by decide +kernel
theorem dX7_fills_62 : decode cX7_fills 62 = .ok (.iload_n 1, 1) := by decide +kernel
theorem dX7_fills_63 : decode cX7_fills 63 = .ok (.imul, 1) := by decide +kernel
theorem dX7_fills_64 : decode cX7_fills 64 = .ok (.iconst 1, 1) := by decide +kernel
theorem dX7_fills_65 : decode cX7_fills 65 = .ok (.iadd, 1) := by decide +kernel
theorem dX7_fills_66 : decode cX7_fills 66 = .ok (.dup2, 1) := by decide +kernel
theorem dX7_fills_67 : decode cX7_fills 67 = .ok (.laload, 1) := by decide +kernel
theorem dX7_fills_68 : decode cX7_fills 68 = .ok (.lload 9, 2) := by decide +kernel
theorem dX7_fills_70 : decode cX7_fills 70 = .ok (.ladd, 1) := by decide +kernel
theorem dX7_fills_71 : decode cX7_fills 71 = .ok (.lastore, 1) := by decide +kernel
theorem dX7_fills_72 : decode cX7_fills 72 = .ok (.lload 5, 2) := by decide +kernel
theorem dX7_fills_74 : decode cX7_fills 74 = .ok (.lload 9, 2) := by decide +kernel
theorem dX7_fills_76 : decode cX7_fills 76 = .ok (.lsub, 1) := by decide +kernel
theorem dX7_fills_77 : decode cX7_fills 77 = .ok (.lstore 5, 2) := by decide +kernel
theorem dX7_fills_79 : decode cX7_fills 79 = .ok (.lload 5, 2) := by decide +kernel
theorem dX7_fills_81 : decode cX7_fills 81 = .ok (.aload_n 0, 1) := by decide +kernel
theorem dX7_fills_82 : decode cX7_fills 82 = .ok (.iload_n 1, 1) := by decide +kernel
theorem dX7_fills_83 : decode cX7_fills 83 = .ok (.iload 8, 2) := by decide +kernel
theorem dX7_fills_85 : decode cX7_fills 85 = .ok (.invokevirtual 183, 3) := by decide +kernel
theorem dX7_fills_88 : decode cX7_fills 88 = .ok (.invokestatic 179, 3) := by decide +kernel
theorem dX7_fills_91 : decode cX7_fills 91 = .ok (.lstore 11, 2) := by decide +kernel
theorem dX7_fills_93 : decode cX7_fills 93 = .ok (.aload_n 0, 1) := by decide +kernel
theorem dX7_fills_94 : decode cX7_fills 94 = .ok (.getfield 76, 3) := by decide +kernel
theorem dX7_fills_97 : decode cX7_fills 97 = .ok (.bipush 40, 2) := by decide +kernel
theorem dX7_fills_99 : decode cX7_fills 99 = .ok (.iload_n 1, 1) := by decide +kernel
theorem dX7_fills_100 : decode cX7_fills 100 = .ok (.imul, 1) := by decide +kernel
theorem dX7_fills_101 : decode cX7_fills 101 = .ok (.iload 8, 2) := by decide +kernel
theorem dX7_fills_103 : decode cX7_fills 103 = .ok (.iadd, 1) := by decide +kernel
theorem dX7_fills_104 : decode cX7_fills 104 = .ok (.dup2, 1) := by decide +kernel
theorem dX7_fills_105 : decode cX7_fills 105 = .ok (.laload, 1) := by decide +kernel
theorem dX7_fills_106 : decode cX7_fills 106 = .ok (.lload 11, 2) := by decide +kernel
theorem dX7_fills_108 : decode cX7_fills 108 = .ok (.ladd, 1) := by decide +kernel
theorem dX7_fills_109 : decode cX7_fills 109 = .ok (.lastore, 1) := by decide +kernel
theorem dX7_fills_110 : decode cX7_fills 110 = .ok (.aload_n 0, 1) := by decide +kernel
theorem dX7_fills_111 : decode cX7_fills 111 = .ok (.getfield 57, 3) := by decide +kernel
theorem dX7_fills_114 : decode cX7_fills 114 = .ok (.iload 8, 2) := by decide +kernel
theorem dX7_fills_116 : decode cX7_fills 116 = .ok (.dup2, 1) := by decide +kernel
theorem dX7_fills_117 : decode cX7_fills 117 = .ok (.laload, 1) := by decide +kernel
theorem dX7_fills_118 : decode cX7_fills 118 = .ok (.lload 11, 2) := by decide +kernel
theorem dX7_fills_120 : decode cX7_fills 120 = .ok (.ladd, 1) := by decide +kernel
theorem dX7_fills_121 : decode cX7_fills 121 = .ok (.lastore, 1) := by decide +kernel
theorem dX7_fills_122 : decode cX7_fills 122 = .ok (.aload_n 0, 1) := by decide +kernel
theorem dX7_fills_123 : decode cX7_fills 123 = .ok (.getfield 115, 3) := by decide +kernel
theorem dX7_fills_126 : decode cX7_fills 126 = .ok (.iload 8, 2) := by decide +kernel
theorem dX7_fills_128 : decode cX7_fills 128 = .ok (.dup2, 1) := by decide +kernel
theorem dX7_fills_129 : decode cX7_fills 129 = .ok (.laload, 1) := by decide +kernel
theorem dX7_fills_130 : decode cX7_fills 130 = .ok (.lload 11, 2) := by decide +kernel
theorem dX7_fills_132 : decode cX7_fills 132 = .ok (.ladd, 1) := by decide +kernel
theorem dX7_fills_133 : decode cX7_fills 133 = .ok (.lastore, 1) := by decide +kernel
theorem dX7_fills_134 : decode cX7_fills 134 = .ok (.lload 5, 2) := by decide +kernel
theorem dX7_fills_136 : decode cX7_fills 136 = .ok (.lload 11, 2) := by decide +kernel
theorem dX7_fills_138 : decode cX7_fills 138 = .ok (.lsub, 1) := by decide +kernel
theorem dX7_fills_139 : decode cX7_fills 139 = .ok (.lstore 5, 2) := by decide +kernel
theorem dX7_fills_141 : decode cX7_fills 141 = .ok (.iinc 7 1, 3) := by decide +kernel
theorem dX7_fills_144 : decode cX7_fills 144 = .ok (.goto (-138), 3) := by decide +kernel
theorem dX7_fills_147 : decode cX7_fills 147 = .ok (.lload 5, 2) := by decide +kernel
theorem dX7_fills_149 : decode cX7_fills 149 = .ok (.lreturn, 1) := by decide +kernel
theorem dX7_laysLike_0 : decode cX7_laysLike 0 = .ok (.iconst 0, 1) := by decide +kernel
theorem dX7_laysLike_1 : decode cX7_laysLike 1 = .ok (.istore_n 2, 1) := by decide +kernel
theorem dX7_laysLike_2 : decode cX7_laysLike 2 = .ok (.iload_n 2, 1) := by decide +kernel
theorem dX7_laysLike_3 : decode cX7_laysLike 3 = .ok (.bipush 12, 2) := by decide +kernel
theorem dX7_laysLike_5 : decode cX7_laysLike 5 = .ok (.if_icmp .ge 37, 3) := by decide +kernel
theorem dX7_laysLike_8 : decode cX7_laysLike 8 = .ok (.aload_n 0, 1) := by decide +kernel
theorem dX7_laysLike_9 : decode cX7_laysLike 9 = .ok (.getfield 109, 3) := by decide +kernel
theorem dX7_laysLike_12 : decode cX7_laysLike 12 = .ok (.iload_n 2, 1) := by decide +kernel
theorem dX7_laysLike_13 : decode cX7_laysLike 13 = .ok (.aload_n 0, 1) := by decide +kernel
theorem dX7_laysLike_14 : decode cX7_laysLike 14 = .ok (.iload_n 1, 1) := by decide +kernel
theorem dX7_laysLike_15 : decode cX7_laysLike 15 = .ok (.iload_n 2, 1) := by decide +kernel
theorem dX7_laysLike_16 : decode cX7_laysLike 16 = .ok (.invokevirtual 197, 3) := by decide +kernel
theorem dX7_laysLike_19 : decode cX7_laysLike 19 = .ok (.ifCond .eq 15, 3) := by decide +kernel
theorem dX7_laysLike_22 : decode cX7_laysLike 22 = .ok (.aload_n 0, 1) := by decide +kernel
theorem dX7_laysLike_23 : decode cX7_laysLike 23 = .ok (.iload_n 2, 1) := by decide +kernel
theorem dX7_laysLike_24 : decode cX7_laysLike 24 = .ok (.invokevirtual 201, 3) := by decide +kernel
theorem dX7_laysLike_27 : decode cX7_laysLike 27 = .ok (.ifCond .ne 7, 3) := by decide +kernel
theorem dX7_laysLike_30 : decode cX7_laysLike 30 = .ok (.lconst 1, 1) := by decide +kernel
theorem dX7_laysLike_31 : decode cX7_laysLike 31 = .ok (.goto 4, 3) := by decide +kernel
theorem dX7_laysLike_34 : decode cX7_laysLike 34 = .ok (.lconst 0, 1) := by decide +kernel
theorem dX7_laysLike_35 : decode cX7_laysLike 35 = .ok (.lastore, 1) := by decide +kernel
theorem dX7_laysLike_36 : decode cX7_laysLike 36 = .ok (.iinc 2 1, 3) := by decide +kernel
theorem dX7_laysLike_39 : decode cX7_laysLike 39 = .ok (.goto (-37), 3) := by decide +kernel
theorem dX7_laysLike_42 : decode cX7_laysLike 42 = .ok (.return_, 1) := by decide +kernel
theorem dX7_laysSizes_0 : decode cX7_laysSizes 0 = .ok (.lconst 0, 1) := by decide +kernel
theorem dX7_laysSizes_1 : decode cX7_laysSizes 1 = .ok (.lstore_n 2, 1) := by decide +kernel
theorem dX7_laysSizes_2 : decode cX7_laysSizes 2 = .ok (.iconst 0, 1) := by decide +kernel
theorem dX7_laysSizes_3 : decode cX7_laysSizes 3 = .ok (.istore 4, 2) := by decide +kernel
theorem dX7_laysSizes_5 : decode cX7_laysSizes 5 = .ok (.iconst 0, 1) := by decide +kernel
theorem dX7_laysSizes_6 : decode cX7_laysSizes 6 = .ok (.istore 5, 2) := by decide +kernel
theorem dX7_laysSizes_8 : decode cX7_laysSizes 8 = .ok (.iload 5, 2) := by decide +kernel
theorem dX7_laysSizes_10 : decode cX7_laysSizes 10 = .ok (.bipush 12, 2) := by decide +kernel
theorem dX7_laysSizes_12 : decode cX7_laysSizes 12 = .ok (.if_icmp .ge 68, 3) := by decide +kernel
theorem dX7_laysSizes_15 : decode cX7_laysSizes 15 = .ok (.aload_n 0, 1) := by decide +kernel
theorem dX7_laysSizes_16 : decode cX7_laysSizes 16 = .ok (.iload_n 1, 1) := by decide +kernel
theorem dX7_laysSizes_17 : decode cX7_laysSizes 17 = .ok (.iload 5, 2) := by decide +kernel
theorem dX7_laysSizes_19 : decode cX7_laysSizes 19 = .ok (.invokevirtual 197, 3) := by decide +kernel
theorem dX7_laysSizes_22 : decode cX7_laysSizes 22 = .ok (.ifCond .eq 16, 3) := by decide +kernel
theorem dX7_laysSizes_25 : decode cX7_laysSizes 25 = .ok (.aload_n 0, 1) := by decide +kernel
theorem dX7_laysSizes_26 : decode cX7_laysSizes 26 = .ok (.iload 5, 2) := by decide +kernel
theorem dX7_laysSizes_28 : decode cX7_laysSizes 28 = .ok (.invokevirtual 205, 3) := by decide +kernel
theorem dX7_laysSizes_31 : decode cX7_laysSizes 31 = .ok (.ifCond .ne 7, 3) := by decide +kernel
theorem dX7_laysSizes_34 : decode cX7_laysSizes 34 = .ok (.iconst 1, 1) := by decide +kernel
theorem dX7_laysSizes_35 : decode cX7_laysSizes 35 = .ok (.goto 4, 3) := by decide +kernel
theorem dX7_laysSizes_38 : decode cX7_laysSizes 38 = .ok (.iconst 0, 1) := by decide +kernel
theorem dX7_laysSizes_39 : decode cX7_laysSizes 39 = .ok (.istore 6, 2) := by decide +kernel
theorem dX7_laysSizes_41 : decode cX7_laysSizes 41 = .ok (.iload 4, 2) := by decide +kernel
theorem dX7_laysSizes_43 : decode cX7_laysSizes 43 = .ok (.iload 6, 2) := by decide +kernel
theorem dX7_laysSizes_45 : decode cX7_laysSizes 45 = .ok (.ifCond .eq 7, 3) := by decide +kernel
theorem dX7_laysSizes_48 : decode cX7_laysSizes 48 = .ok (.iconst 1, 1) := by decide +kernel
theorem dX7_laysSizes_49 : decode cX7_laysSizes 49 = .ok (.goto 4, 3) := by decide +kernel
theorem dX7_laysSizes_52 : decode cX7_laysSizes 52 = .ok (.iconst 0, 1) := by decide +kernel
theorem dX7_laysSizes_53 : decode cX7_laysSizes 53 = .ok (.iadd, 1) := by decide +kernel
theorem dX7_laysSizes_54 : decode cX7_laysSizes 54 = .ok (.istore 4, 2) := by decide +kernel
theorem dX7_laysSizes_56 : decode cX7_laysSizes 56 = .ok (.lload_n 2, 1) := by decide +kernel
theorem dX7_laysSizes_57 : decode cX7_laysSizes 57 = .ok (.iload 6, 2) := by decide +kernel
theorem dX7_laysSizes_59 : decode cX7_laysSizes 59 = .ok (.ifCond .eq 12, 3) := by decide +kernel
theorem dX7_laysSizes_62 : decode cX7_laysSizes 62 = .ok (.aload_n 0, 1) := by decide +kernel
theorem dX7_laysSizes_63 : decode cX7_laysSizes 63 = .ok (.iload 5, 2) := by decide +kernel
theorem dX7_laysSizes_65 : decode cX7_laysSizes 65 = .ok (.invokevirtual 208, 3) := by decide +kernel
theorem dX7_laysSizes_68 : decode cX7_laysSizes 68 = .ok (.goto 4, 3) := by decide +kernel
theorem dX7_laysSizes_71 : decode cX7_laysSizes 71 = .ok (.lconst 0, 1) := by decide +kernel
theorem dX7_laysSizes_72 : decode cX7_laysSizes 72 = .ok (.ladd, 1) := by decide +kernel
theorem dX7_laysSizes_73 : decode cX7_laysSizes 73 = .ok (.lstore_n 2, 1) := by decide +kernel
theorem dX7_laysSizes_74 : decode cX7_laysSizes 74 = .ok (.iinc 5 1, 3) := by decide +kernel
theorem dX7_laysSizes_77 : decode cX7_laysSizes 77 = .ok (.goto (-69), 3) := by decide +kernel
theorem dX7_laysSizes_80 : decode cX7_laysSizes 80 = .ok (.iconst 0, 1) := by decide +kernel
theorem dX7_laysSizes_81 : decode cX7_laysSizes 81 = .ok (.istore 5, 2) := by decide +kernel
theorem dX7_laysSizes_83 : decode cX7_laysSizes 83 = .ok (.iload 5, 2) := by decide +kernel
theorem dX7_laysSizes_85 : decode cX7_laysSizes 85 = .ok (.bipush 12, 2) := by decide +kernel
theorem dX7_laysSizes_87 : decode cX7_laysSizes 87 = .ok (.if_icmp .ge 71, 3) := by decide +kernel
theorem dX7_laysSizes_90 : decode cX7_laysSizes 90 = .ok (.aload_n 0, 1) := by decide +kernel
theorem dX7_laysSizes_91 : decode cX7_laysSizes 91 = .ok (.getfield 109, 3) := by decide +kernel
theorem dX7_laysSizes_94 : decode cX7_laysSizes 94 = .ok (.iload 5, 2) := by decide +kernel
theorem dX7_laysSizes_96 : decode cX7_laysSizes 96 = .ok (.aload_n 0, 1) := by decide +kernel
theorem dX7_laysSizes_97 : decode cX7_laysSizes 97 = .ok (.iload_n 1, 1) := by decide +kernel
theorem dX7_laysSizes_98 : decode cX7_laysSizes 98 = .ok (.iload 5, 2) := by decide +kernel
theorem dX7_laysSizes_100 : decode cX7_laysSizes 100 = .ok (.invokevirtual 197, 3) := by decide +kernel
theorem dX7_laysSizes_103 : decode cX7_laysSizes 103 = .ok (.ifCond .eq 12, 3) := by decide +kernel
theorem dX7_laysSizes_106 : decode cX7_laysSizes 106 = .ok (.aload_n 0, 1) := by decide +kernel
theorem dX7_laysSizes_107 : decode cX7_laysSizes 107 = .ok (.iload 5, 2) := by decide +kernel
theorem dX7_laysSizes_109 : decode cX7_laysSizes 109 = .ok (.invokevirtual 201, 3) := by decide +kernel
theorem dX7_laysSizes_112 : decode cX7_laysSizes 112 = .ok (.ifCond .eq 7, 3) := by decide +kernel
theorem dX7_laysSizes_115 : decode cX7_laysSizes 115 = .ok (.lconst 0, 1) := by decide +kernel
theorem dX7_laysSizes_116 : decode cX7_laysSizes 116 = .ok (.goto 35, 3) := by decide +kernel
theorem dX7_laysSizes_119 : decode cX7_laysSizes 119 = .ok (.iload 4, 2) := by decide +kernel
theorem dX7_laysSizes_121 : decode cX7_laysSizes 121 = .ok (.ifCond .ne 7, 3) := by decide +kernel
theorem dX7_laysSizes_124 : decode cX7_laysSizes 124 = .ok (.lconst 1, 1) := by decide +kernel
theorem dX7_laysSizes_125 : decode cX7_laysSizes 125 = .ok (.goto 26, 3) := by decide +kernel
theorem dX7_laysSizes_128 : decode cX7_laysSizes 128 = .ok (.aload_n 0, 1) := by decide +kernel
theorem dX7_laysSizes_129 : decode cX7_laysSizes 129 = .ok (.iload 5, 2) := by decide +kernel
theorem dX7_laysSizes_131 : decode cX7_laysSizes 131 = .ok (.invokevirtual 205, 3) := by decide +kernel
theorem dX7_laysSizes_134 : decode cX7_laysSizes 134 = .ok (.ifCond .eq 11, 3) := by decide +kernel
theorem dX7_laysSizes_137 : decode cX7_laysSizes 137 = .ok (.lload_n 2, 1) := by decide +kernel
theorem dX7_laysSizes_138 : decode cX7_laysSizes 138 = .ok (.iload 4, 2) := by decide +kernel
theorem dX7_laysSizes_140 : decode cX7_laysSizes 140 = .ok (.i2l, 1) := by decide +kernel
theorem dX7_laysSizes_141 : decode cX7_laysSizes 141 = .ok (.ldiv, 1) := by decide +kernel
theorem dX7_laysSizes_142 : decode cX7_laysSizes 142 = .ok (.goto 9, 3) := by decide +kernel
theorem dX7_laysSizes_145 : decode cX7_laysSizes 145 = .ok (.aload_n 0, 1) := by decide +kernel
theorem dX7_laysSizes_146 : decode cX7_laysSizes 146 = .ok (.iload 5, 2) := by decide +kernel
theorem dX7_laysSizes_148 : decode cX7_laysSizes 148 = .ok (.invokevirtual 208, 3) := by decide +kernel
theorem dX7_laysSizes_151 : decode cX7_laysSizes 151 = .ok (.lastore, 1) := by decide +kernel
theorem dX7_laysSizes_152 : decode cX7_laysSizes 152 = .ok (.iinc 5 1, 3) := by decide +kernel
theorem dX7_laysSizes_155 : decode cX7_laysSizes 155 = .ok (.goto (-72), 3) := by decide +kernel
theorem dX7_laysSizes_158 : decode cX7_laysSizes 158 = .ok (.return_, 1) := by decide +kernel
theorem dX7_byShares_0 : decode cX7_byShares 0 = .ok (.aload_n 0, 1) := by decide +kernel
theorem dX7_byShares_1 : decode cX7_byShares 1 = .ok (.bipush 12, 2) := by decide +kernel
theorem dX7_byShares_3 : decode cX7_byShares 3 = .ok (.invokevirtual 194, 3) := by decide +kernel
theorem dX7_byShares_6 : decode cX7_byShares 6 = .ok (.lconst 0, 1) := by decide +kernel
theorem dX7_byShares_7 : decode cX7_byShares 7 = .ok (.lcmp, 1) := by decide +kernel
theorem dX7_byShares_8 : decode cX7_byShares 8 = .ok (.ifCond .ne 19, 3) := by decide +kernel
theorem dX7_byShares_11 : decode cX7_byShares 11 = .ok (.aload_n 0, 1) := by decide +kernel
theorem dX7_byShares_12 : decode cX7_byShares 12 = .ok (.getfield 91, 3) := by decide +kernel
theorem dX7_byShares_15 : decode cX7_byShares 15 = .ok (.bipush 7, 2) := by decide +kernel
theorem dX7_byShares_17 : decode cX7_byShares 17 = .ok (.iload_n 1, 1) := by decide +kernel
theorem dX7_byShares_18 : decode cX7_byShares 18 = .ok (.imul, 1) := by decide +kernel
theorem dX7_byShares_19 : decode cX7_byShares 19 = .ok (.iconst 3, 1) := by decide +kernel
theorem dX7_byShares_20 : decode cX7_byShares 20 = .ok (.iadd, 1) := by decide +kernel
theorem dX7_byShares_21 : decode cX7_byShares 21 = .ok (.dup2, 1) := by decide +kernel
theorem dX7_byShares_22 : decode cX7_byShares 22 = .ok (.laload, 1) := by decide +kernel
theorem dX7_byShares_23 : decode cX7_byShares 23 = .ok (.lload_n 2, 1) := by decide +kernel
theorem dX7_byShares_24 : decode cX7_byShares 24 = .ok (.ladd, 1) := by decide +kernel
theorem dX7_byShares_25 : decode cX7_byShares 25 = .ok (.lastore, 1) := by decide +kernel
theorem dX7_byShares_26 : decode cX7_byShares 26 = .ok (.return_, 1) := by decide +kernel
theorem dX7_byShares_27 : decode cX7_byShares 27 = .ok (.aload_n 0, 1) := by decide +kernel
theorem dX7_byShares_28 : decode cX7_byShares 28 = .ok (.lload_n 2, 1) := by decide +kernel
theorem dX7_byShares_29 : decode cX7_byShares 29 = .ok (.bipush 12, 2) := by decide +kernel
theorem dX7_byShares_31 : decode cX7_byShares 31 = .ok (.invokevirtual 211, 3) := by decide +kernel
theorem dX7_byShares_34 : decode cX7_byShares 34 = .ok (.iconst 0, 1) := by decide +kernel
theorem dX7_byShares_35 : decode cX7_byShares 35 = .ok (.istore 4, 2) := by decide +kernel
theorem dX7_byShares_37 : decode cX7_byShares 37 = .ok (.iload 4, 2) := by decide +kernel
theorem dX7_byShares_39 : decode cX7_byShares 39 = .ok (.bipush 12, 2) := by decide +kernel
theorem dX7_byShares_41 : decode cX7_byShares 41 = .ok (.if_icmp .ge 23, 3) := by decide +kernel
theorem dX7_byShares_44 : decode cX7_byShares 44 = .ok (.aload_n 0, 1) := by decide +kernel
theorem dX7_byShares_45 : decode cX7_byShares 45 = .ok (.getfield 121, 3) := by decide +kernel
theorem dX7_byShares_48 : decode cX7_byShares 48 = .ok (.iload 4, 2) := by decide +kernel
theorem dX7_byShares_50 : decode cX7_byShares 50 = .ok (.aload_n 0, 1) := by decide +kernel
theorem dX7_byShares_51 : decode cX7_byShares 51 = .ok (.getfield 112, 3) := by decide +kernel
theorem dX7_byShares_54 : decode cX7_byShares 54 = .ok (.iload 4, 2) := by decide +kernel
theorem dX7_byShares_56 : decode cX7_byShares 56 = .ok (.laload, 1) := by decide +kernel
theorem dX7_byShares_57 : decode cX7_byShares 57 = .ok (.lastore, 1) := by decide +kernel
theorem dX7_byShares_58 : decode cX7_byShares 58 = .ok (.iinc 4 1, 3) := by decide +kernel
theorem dX7_byShares_61 : decode cX7_byShares 61 = .ok (.goto (-24), 3) := by decide +kernel
theorem dX7_byShares_64 : decode cX7_byShares 64 = .ok (.iconst 0, 1) := by decide +kernel
theorem dX7_byShares_65 : decode cX7_byShares 65 = .ok (.istore 4, 2) := by decide +kernel
theorem dX7_byShares_67 : decode cX7_byShares 67 = .ok (.iload 4, 2) := by decide +kernel
theorem dX7_byShares_69 : decode cX7_byShares 69 = .ok (.bipush 12, 2) := by decide +kernel
theorem dX7_byShares_71 : decode cX7_byShares 71 = .ok (.if_icmp .ge 85, 3) := by decide +kernel
theorem dX7_byShares_74 : decode cX7_byShares 74 = .ok (.aload_n 0, 1) := by decide +kernel
theorem dX7_byShares_75 : decode cX7_byShares 75 = .ok (.getfield 121, 3) := by decide +kernel
theorem dX7_byShares_78 : decode cX7_byShares 78 = .ok (.iload 4, 2) := by decide +kernel
theorem dX7_byShares_80 : decode cX7_byShares 80 = .ok (.laload, 1) := by decide +kernel
theorem dX7_byShares_81 : decode cX7_byShares 81 = .ok (.lconst 0, 1) := by decide +kernel
theorem dX7_byShares_82 : decode cX7_byShares 82 = .ok (.lcmp, 1) := by decide +kernel
theorem dX7_byShares_83 : decode cX7_byShares 83 = .ok (.ifCond .ne 6, 3) := by decide +kernel
theorem dX7_byShares_86 : decode cX7_byShares 86 = .ok (.goto 64, 3) := by decide +kernel
theorem dX7_byShares_89 : decode cX7_byShares 89 = .ok (.aload_n 0, 1) := by decide +kernel
theorem dX7_byShares_90 : decode cX7_byShares 90 = .ok (.iload 4, 2) := by decide +kernel
theorem dX7_byShares_92 : decode cX7_byShares 92 = .ok (.invokevirtual 205, 3) := by decide +kernel
theorem dX7_byShares_95 : decode cX7_byShares 95 = .ok (.ifCond .eq 27, 3) := by decide +kernel
theorem dX7_byShares_98 : decode cX7_byShares 98 = .ok (.aload_n 0, 1) := by decide +kernel
theorem dX7_byShares_99 : decode cX7_byShares 99 = .ok (.getfield 91, 3) := by decide +kernel
theorem dX7_byShares_102 : decode cX7_byShares 102 = .ok (.bipush 7, 2) := by decide +kernel
theorem dX7_byShares_104 : decode cX7_byShares 104 = .ok (.iload_n 1, 1) := by decide +kernel
theorem dX7_byShares_105 : decode cX7_byShares 105 = .ok (.imul, 1) := by decide +kernel
theorem dX7_byShares_106 : decode cX7_byShares 106 = .ok (.iconst 3, 1) := by decide +kernel
theorem dX7_byShares_107 : decode cX7_byShares 107 = .ok (.iadd, 1) := by decide +kernel
theorem dX7_byShares_108 : decode cX7_byShares 108 = .ok (.dup2, 1) := by decide +kernel
theorem dX7_byShares_109 : decode cX7_byShares 109 = .ok (.laload, 1) := by decide +kernel
theorem dX7_byShares_110 : decode cX7_byShares 110 = .ok (.aload_n 0, 1) := by decide +kernel
theorem dX7_byShares_111 : decode cX7_byShares 111 = .ok (.getfield 121, 3) := by decide +kernel
theorem dX7_byShares_114 : decode cX7_byShares 114 = .ok (.iload 4, 2) := by decide +kernel
theorem dX7_byShares_116 : decode cX7_byShares 116 = .ok (.laload, 1) := by decide +kernel
theorem dX7_byShares_117 : decode cX7_byShares 117 = .ok (.ladd, 1) := by decide +kernel
theorem dX7_byShares_118 : decode cX7_byShares 118 = .ok (.lastore, 1) := by decide +kernel
theorem dX7_byShares_119 : decode cX7_byShares 119 = .ok (.goto 31, 3) := by decide +kernel
theorem dX7_byShares_122 : decode cX7_byShares 122 = .ok (.aload_n 0, 1) := by decide +kernel
theorem dX7_byShares_123 : decode cX7_byShares 123 = .ok (.getfield 91, 3) := by decide +kernel
theorem dX7_byShares_126 : decode cX7_byShares 126 = .ok (.bipush 7, 2) := by decide +kernel
theorem dX7_byShares_128 : decode cX7_byShares 128 = .ok (.iload_n 1, 1) := by decide +kernel
theorem dX7_byShares_129 : decode cX7_byShares 129 = .ok (.imul, 1) := by decide +kernel
theorem dX7_byShares_130 : decode cX7_byShares 130 = .ok (.iconst 2, 1) := by decide +kernel
theorem dX7_byShares_131 : decode cX7_byShares 131 = .ok (.iadd, 1) := by decide +kernel
theorem dX7_byShares_132 : decode cX7_byShares 132 = .ok (.dup2, 1) := by decide +kernel
theorem dX7_byShares_133 : decode cX7_byShares 133 = .ok (.laload, 1) := by decide +kernel
theorem dX7_byShares_134 : decode cX7_byShares 134 = .ok (.aload_n 0, 1) := by decide +kernel
theorem dX7_byShares_135 : decode cX7_byShares 135 = .ok (.iload_n 1, 1) := by decide +kernel
theorem dX7_byShares_136 : decode cX7_byShares 136 = .ok (.iload 4, 2) := by decide +kernel
theorem dX7_byShares_138 : decode cX7_byShares 138 = .ok (.aload_n 0, 1) := by decide +kernel
theorem dX7_byShares_139 : decode cX7_byShares 139 = .ok (.getfield 121, 3) := by decide +kernel
theorem dX7_byShares_142 : decode cX7_byShares 142 = .ok (.iload 4, 2) := by decide +kernel
theorem dX7_byShares_144 : decode cX7_byShares 144 = .ok (.laload, 1) := by decide +kernel
theorem dX7_byShares_145 : decode cX7_byShares 145 = .ok (.invokevirtual 215, 3) := by decide +kernel
theorem dX7_byShares_148 : decode cX7_byShares 148 = .ok (.ladd, 1) := by decide +kernel
theorem dX7_byShares_149 : decode cX7_byShares 149 = .ok (.lastore, 1) := by decide +kernel
theorem dX7_byShares_150 : decode cX7_byShares 150 = .ok (.iinc 4 1, 3) := by decide +kernel
theorem dX7_byShares_153 : decode cX7_byShares 153 = .ok (.goto (-86), 3) := by decide +kernel
theorem dX7_byShares_156 : decode cX7_byShares 156 = .ok (.return_, 1) := by decide +kernel
theorem dX7_rankOf_0 : decode cX7_rankOf 0 = .ok (.aload_n 0, 1) := by decide +kernel
theorem dX7_rankOf_1 : decode cX7_rankOf 1 = .ok (.getfield 158, 3) := by decide +kernel
theorem dX7_rankOf_4 : decode cX7_rankOf 4 = .ok (.ifCond .ne 11, 3) := by decide +kernel
theorem dX7_rankOf_7 : decode cX7_rankOf 7 = .ok (.aload_n 0, 1) := by decide +kernel
theorem dX7_rankOf_8 : decode cX7_rankOf 8 = .ok (.iload_n 1, 1) := by decide +kernel
theorem dX7_rankOf_9 : decode cX7_rankOf 9 = .ok (.iload_n 2, 1) := by decide +kernel
theorem dX7_rankOf_10 : decode cX7_rankOf 10 = .ok (.invokevirtual 219, 3) := by decide +kernel
theorem dX7_rankOf_13 : decode cX7_rankOf 13 = .ok (.lneg, 1) := by decide +kernel
theorem dX7_rankOf_14 : decode cX7_rankOf 14 = .ok (.lreturn, 1) := by decide +kernel
theorem dX7_rankOf_15 : decode cX7_rankOf 15 = .ok (.aload_n 0, 1) := by decide +kernel
theorem dX7_rankOf_16 : decode cX7_rankOf 16 = .ok (.getfield 158, 3) := by decide +kernel
theorem dX7_rankOf_19 : decode cX7_rankOf 19 = .ok (.iconst 2, 1) := by decide +kernel
theorem dX7_rankOf_20 : decode cX7_rankOf 20 = .ok (.if_icmp .ne 16, 3) := by decide +kernel
theorem dX7_rankOf_23 : decode cX7_rankOf 23 = .ok (.aload_n 0, 1) := by decide +kernel
theorem dX7_rankOf_24 : decode cX7_rankOf 24 = .ok (.getfield 39, 3) := by decide +kernel
theorem dX7_rankOf_27 : decode cX7_rankOf 27 = .ok (.aload_n 0, 1) := by decide +kernel
theorem dX7_rankOf_28 : decode cX7_rankOf 28 = .ok (.iload_n 2, 1) := by decide +kernel
theorem dX7_rankOf_29 : decode cX7_rankOf 29 = .ok (.iconst 0, 1) := by decide +kernel
theorem dX7_rankOf_30 : decode cX7_rankOf 30 = .ok (.invokevirtual 161, 3) := by decide +kernel
theorem dX7_rankOf_33 : decode cX7_rankOf 33 = .ok (.iaload, 1) := by decide +kernel
theorem dX7_rankOf_34 : decode cX7_rankOf 34 = .ok (.i2l, 1) := by decide +kernel
theorem dX7_rankOf_35 : decode cX7_rankOf 35 = .ok (.lreturn, 1) := by decide +kernel
theorem dX7_rankOf_36 : decode cX7_rankOf 36 = .ok (.aload_n 0, 1) := by decide +kernel
theorem dX7_rankOf_37 : decode cX7_rankOf 37 = .ok (.getfield 158, 3) := by decide +kernel
theorem dX7_rankOf_40 : decode cX7_rankOf 40 = .ok (.iconst 1, 1) := by decide +kernel
theorem dX7_rankOf_41 : decode cX7_rankOf 41 = .ok (.if_icmp .ne 9, 3) := by decide +kernel
theorem dX7_rankOf_44 : decode cX7_rankOf 44 = .ok (.iload_n 2, 1) := by decide +kernel
theorem dX7_rankOf_45 : decode cX7_rankOf 45 = .ok (.ineg, 1) := by decide +kernel
theorem dX7_rankOf_46 : decode cX7_rankOf 46 = .ok (.i2l, 1) := by decide +kernel
theorem dX7_rankOf_47 : decode cX7_rankOf 47 = .ok (.goto 5, 3) := by decide +kernel
theorem dX7_rankOf_50 : decode cX7_rankOf 50 = .ok (.iload_n 2, 1) := by decide +kernel
theorem dX7_rankOf_51 : decode cX7_rankOf 51 = .ok (.i2l, 1) := by decide +kernel
theorem dX7_rankOf_52 : decode cX7_rankOf 52 = .ok (.lreturn, 1) := by decide +kernel
theorem dX7_picked_0 : decode cX7_picked 0 = .ok (.iconst 0, 1) := by decide +kernel
theorem dX7_picked_1 : decode cX7_picked 1 = .ok (.istore_n 3, 1) := by decide +kernel
theorem dX7_picked_2 : decode cX7_picked 2 = .ok (.iload_n 3, 1) := by decide +kernel
theorem dX7_picked_3 : decode cX7_picked 3 = .ok (.bipush 12, 2) := by decide +kernel
theorem dX7_picked_5 : decode cX7_picked 5 = .ok (.if_icmp .ge 134, 3) := by decide +kernel
theorem dX7_picked_8 : decode cX7_picked 8 = .ok (.aload_n 0, 1) := by decide +kernel
theorem dX7_picked_9 : decode cX7_picked 9 = .ok (.iload_n 1, 1) := by decide +kernel
theorem dX7_picked_10 : decode cX7_picked 10 = .ok (.iload_n 3, 1) := by decide +kernel
theorem dX7_picked_11 : decode cX7_picked 11 = .ok (.invokevirtual 197, 3) := by decide +kernel
theorem dX7_picked_14 : decode cX7_picked 14 = .ok (.ifCond .eq 119, 3) := by decide +kernel
theorem dX7_picked_17 : decode cX7_picked 17 = .ok (.aload_n 0, 1) := by decide +kernel
theorem dX7_picked_18 : decode cX7_picked 18 = .ok (.iload_n 3, 1) := by decide +kernel
theorem dX7_picked_19 : decode cX7_picked 19 = .ok (.invokevirtual 205, 3) := by decide +kernel
theorem dX7_picked_22 : decode cX7_picked 22 = .ok (.ifCond .eq 6, 3) := by decide +kernel
theorem dX7_picked_25 : decode cX7_picked 25 = .ok (.goto 108, 3) := by decide +kernel
theorem dX7_picked_28 : decode cX7_picked 28 = .ok (.iconst 0, 1) := by decide +kernel
theorem dX7_picked_29 : decode cX7_picked 29 = .ok (.istore 4, 2) := by decide +kernel
theorem dX7_picked_31 : decode cX7_picked 31 = .ok (.iconst 0, 1) := by decide +kernel
theorem dX7_picked_32 : decode cX7_picked 32 = .ok (.istore 5, 2) := by decide +kernel
theorem dX7_picked_34 : decode cX7_picked 34 = .ok (.iload 5, 2) := by decide +kernel
theorem dX7_picked_36 : decode cX7_picked 36 = .ok (.bipush 12, 2) := by decide +kernel
theorem dX7_picked_38 : decode cX7_picked 38 = .ok (.if_icmp .ge 87, 3) := by decide +kernel
theorem dX7_picked_41 : decode cX7_picked 41 = .ok (.iload 5, 2) := by decide +kernel
theorem dX7_picked_43 : decode cX7_picked 43 = .ok (.iload_n 3, 1) := by decide +kernel
theorem dX7_picked_44 : decode cX7_picked 44 = .ok (.if_icmp .eq 75, 3) := by decide +kernel
theorem dX7_picked_47 : decode cX7_picked 47 = .ok (.aload_n 0, 1) := by decide +kernel
theorem dX7_picked_48 : decode cX7_picked 48 = .ok (.iload_n 1, 1) := by decide +kernel
theorem dX7_picked_49 : decode cX7_picked 49 = .ok (.iload 5, 2) := by decide +kernel
theorem dX7_picked_51 : decode cX7_picked 51 = .ok (.invokevirtual 197, 3) := by decide +kernel
theorem dX7_picked_54 : decode cX7_picked 54 = .ok (.ifCond .eq 65, 3) := by decide +kernel
theorem dX7_picked_57 : decode cX7_picked 57 = .ok (.aload_n 0, 1) := by decide +kernel
theorem dX7_picked_58 : decode cX7_picked 58 = .ok (.iload 5, 2) := by decide +kernel
theorem dX7_picked_60 : decode cX7_picked 60 = .ok (.invokevirtual 205, 3) := by decide +kernel
theorem dX7_picked_63 : decode cX7_picked 63 = .ok (.ifCond .eq 6, 3) := by decide +kernel
theorem dX7_picked_66 : decode cX7_picked 66 = .ok (.goto 53, 3) := by decide +kernel
theorem dX7_picked_69 : decode cX7_picked 69 = .ok (.iload 4, 2) := by decide +kernel
theorem dX7_picked_71 : decode cX7_picked 71 = .ok (.aload_n 0, 1) := by decide +kernel
theorem dX7_picked_72 : decode cX7_picked 72 = .ok (.iload_n 1, 1) := by decide +kernel
theorem dX7_picked_73 : decode cX7_picked 73 = .ok (.iload 5, 2) := by decide +kernel
theorem dX7_picked_75 : decode cX7_picked 75 = .ok (.invokevirtual 222, 3) := by decide +kernel
theorem dX7_picked_78 : decode cX7_picked 78 = .ok (.aload_n 0, 1) := by decide +kernel
theorem dX7_picked_79 : decode cX7_picked 79 = .ok (.iload_n 1, 1) := by decide +kernel
theorem dX7_picked_80 : decode cX7_picked 80 = .ok (.iload_n 3, 1) := by decide +kernel
theorem dX7_picked_81 : decode cX7_picked 81 = .ok (.invokevirtual 222, 3) := by decide +kernel
theorem dX7_picked_84 : decode cX7_picked 84 = .ok (.lcmp, 1) := by decide +kernel
theorem dX7_picked_85 : decode cX7_picked 85 = .ok (.ifCond .lt 26, 3) := by decide +kernel
theorem dX7_picked_88 : decode cX7_picked 88 = .ok (.aload_n 0, 1) := by decide +kernel
theorem dX7_picked_89 : decode cX7_picked 89 = .ok (.iload_n 1, 1) := by decide +kernel
theorem dX7_picked_90 : decode cX7_picked 90 = .ok (.iload 5, 2) := by decide +kernel
theorem dX7_picked_92 : decode cX7_picked 92 = .ok (.invokevirtual 222, 3) := by decide +kernel
theorem dX7_picked_95 : decode cX7_picked 95 = .ok (.aload_n 0, 1) := by decide +kernel
theorem dX7_picked_96 : decode cX7_picked 96 = .ok (.iload_n 1, 1) := by decide +kernel
theorem dX7_picked_97 : decode cX7_picked 97 = .ok (.iload_n 3, 1) := by decide +kernel
theorem dX7_picked_98 : decode cX7_picked 98 = .ok (.invokevirtual 222, 3) := by decide +kernel
theorem dX7_picked_101 : decode cX7_picked 101 = .ok (.lcmp, 1) := by decide +kernel
theorem dX7_picked_102 : decode cX7_picked 102 = .ok (.ifCond .ne 13, 3) := by decide +kernel
theorem dX7_picked_105 : decode cX7_picked 105 = .ok (.iload 5, 2) := by decide +kernel
theorem dX7_picked_107 : decode cX7_picked 107 = .ok (.iload_n 3, 1) := by decide +kernel
theorem dX7_picked_108 : decode cX7_picked 108 = .ok (.if_icmp .ge 7, 3) := by decide +kernel
theorem dX7_picked_111 : decode cX7_picked 111 = .ok (.iconst 1, 1) := by decide +kernel
theorem dX7_picked_112 : decode cX7_picked 112 = .ok (.goto 4, 3) := by decide +kernel
theorem dX7_picked_115 : decode cX7_picked 115 = .ok (.iconst 0, 1) := by decide +kernel
theorem dX7_picked_116 : decode cX7_picked 116 = .ok (.iadd, 1) := by decide +kernel
theorem dX7_picked_117 : decode cX7_picked 117 = .ok (.istore 4, 2) := by decide +kernel
theorem dX7_picked_119 : decode cX7_picked 119 = .ok (.iinc 5 1, 3) := by decide +kernel
theorem dX7_picked_122 : decode cX7_picked 122 = .ok (.goto (-88), 3) := by decide +kernel
theorem dX7_picked_125 : decode cX7_picked 125 = .ok (.iload 4, 2) := by decide +kernel
theorem dX7_picked_127 : decode cX7_picked 127 = .ok (.iload_n 2, 1) := by decide +kernel
theorem dX7_picked_128 : decode cX7_picked 128 = .ok (.if_icmp .ne 5, 3) := by decide +kernel
theorem dX7_picked_131 : decode cX7_picked 131 = .ok (.iload_n 3, 1) := by decide +kernel
theorem dX7_picked_132 : decode cX7_picked 132 = .ok (.ireturn, 1) := by decide +kernel
theorem dX7_picked_133 : decode cX7_picked 133 = .ok (.iinc 3 1, 3) := by decide +kernel
theorem dX7_picked_136 : decode cX7_picked 136 = .ok (.goto (-134), 3) := by decide +kernel
theorem dX7_picked_139 : decode cX7_picked 139 = .ok (.iconst (-1), 1) := by decide +kernel
theorem dX7_picked_140 : decode cX7_picked 140 = .ok (.ireturn, 1) := by decide +kernel
theorem dX7_byFull_0 : decode cX7_byFull 0 = .ok (.iconst 0, 1) := by decide +kernel
theorem dX7_byFull_1 : decode cX7_byFull 1 = .ok (.istore 4, 2) := by decide +kernel
theorem dX7_byFull_3 : decode cX7_byFull 3 = .ok (.aload_n 0, 1) := by decide +kernel
theorem dX7_byFull_4 : decode cX7_byFull 4 = .ok (.iload_n 1, 1) := by decide +kernel
theorem dX7_byFull_5 : decode cX7_byFull 5 = .ok (.iconst 0, 1) := by decide +kernel
theorem dX7_byFull_6 : decode cX7_byFull 6 = .ok (.invokevirtual 225, 3) := by decide +kernel
theorem dX7_byFull_9 : decode cX7_byFull 9 = .ok (.istore 5, 2) := by decide +kernel
theorem dX7_byFull_11 : decode cX7_byFull 11 = .ok (.iload 5, 2) := by decide +kernel
theorem dX7_byFull_13 : decode cX7_byFull 13 = .ok (.iconst (-1), 1) := by decide +kernel
theorem dX7_byFull_14 : decode cX7_byFull 14 = .ok (.if_icmp .eq 27, 3) := by decide +kernel
theorem dX7_byFull_17 : decode cX7_byFull 17 = .ok (.aload_n 0, 1) := by decide +kernel
theorem dX7_byFull_18 : decode cX7_byFull 18 = .ok (.getfield 124, 3) := by decide +kernel
theorem dX7_byFull_21 : decode cX7_byFull 21 = .ok (.iload 4, 2) := by decide +kernel
theorem dX7_byFull_23 : decode cX7_byFull 23 = .ok (.iload 5, 2) := by decide +kernel
theorem dX7_byFull_25 : decode cX7_byFull 25 = .ok (.iastore, 1) := by decide +kernel
theorem dX7_byFull_26 : decode cX7_byFull 26 = .ok (.iinc 4 1, 3) := by decide +kernel
theorem dX7_byFull_29 : decode cX7_byFull 29 = .ok (.aload_n 0, 1) := by decide +kernel
theorem dX7_byFull_30 : decode cX7_byFull 30 = .ok (.iload_n 1, 1) := by decide +kernel
theorem dX7_byFull_31 : decode cX7_byFull 31 = .ok (.iload 4, 2) := by decide +kernel
theorem dX7_byFull_33 : decode cX7_byFull 33 = .ok (.invokevirtual 225, 3) := by decide +kernel
theorem dX7_byFull_36 : decode cX7_byFull 36 = .ok (.istore 5, 2) := by decide +kernel
theorem dX7_byFull_38 : decode cX7_byFull 38 = .ok (.goto (-27), 3) := by decide +kernel
theorem dX7_byFull_41 : decode cX7_byFull 41 = .ok (.lload_n 2, 1) := by decide +kernel
theorem dX7_byFull_42 : decode cX7_byFull 42 = .ok (.lstore 5, 2) := by decide +kernel
theorem dX7_byFull_44 : decode cX7_byFull 44 = .ok (.iconst 0, 1) := by decide +kernel
theorem dX7_byFull_45 : decode cX7_byFull 45 = .ok (.istore 7, 2) := by decide +kernel
theorem dX7_byFull_47 : decode cX7_byFull 47 = .ok (.iload 7, 2) := by decide +kernel
theorem dX7_byFull_49 : decode cX7_byFull 49 = .ok (.iload 4, 2) := by decide +kernel
theorem dX7_byFull_51 : decode cX7_byFull 51 = .ok (.if_icmp .ge 25, 3) := by decide +kernel
theorem dX7_byFull_54 : decode cX7_byFull 54 = .ok (.aload_n 0, 1) := by decide +kernel
theorem dX7_byFull_55 : decode cX7_byFull 55 = .ok (.iload_n 1, 1) := by decide +kernel
theorem dX7_byFull_56 : decode cX7_byFull 56 = .ok (.aload_n 0, 1) := by decide +kernel
theorem dX7_byFull_57 : decode cX7_byFull 57 = .ok (.getfield 124, 3) := by decide +kernel
theorem dX7_byFull_60 : decode cX7_byFull 60 = .ok (.iload 7, 2) := by decide +kernel
theorem dX7_byFull_62 : decode cX7_byFull 62 = .ok (.iaload, 1) := by decide +kernel
theorem dX7_byFull_63 : decode cX7_byFull 63 = .ok (.lload 5, 2) := by decide +kernel
theorem dX7_byFull_65 : decode cX7_byFull 65 = .ok (.invokevirtual 215, 3) := by decide +kernel
theorem dX7_byFull_68 : decode cX7_byFull 68 = .ok (.lstore 5, 2) := by decide +kernel
theorem dX7_byFull_70 : decode cX7_byFull 70 = .ok (.iinc 7 1, 3) := by decide +kernel
theorem dX7_byFull_73 : decode cX7_byFull 73 = .ok (.goto (-26), 3) := by decide +kernel
theorem dX7_byFull_76 : decode cX7_byFull 76 = .ok (.aload_n 0, 1) := by decide +kernel
theorem dX7_byFull_77 : decode cX7_byFull 77 = .ok (.getfield 91, 3) := by decide +kernel
theorem dX7_byFull_80 : decode cX7_byFull 80 = .ok (.bipush 7, 2) := by decide +kernel
theorem dX7_byFull_82 : decode cX7_byFull 82 = .ok (.iload_n 1, 1) := by decide +kernel
theorem dX7_byFull_83 : decode cX7_byFull 83 = .ok (.imul, 1) := by decide +kernel
theorem dX7_byFull_84 : decode cX7_byFull 84 = .ok (.iload 4, 2) := by decide +kernel
theorem dX7_byFull_86 : decode cX7_byFull 86 = .ok (.ifCond .ne 7, 3) := by decide +kernel
theorem dX7_byFull_89 : decode cX7_byFull 89 = .ok (.iconst 3, 1) := by decide +kernel
theorem dX7_byFull_90 : decode cX7_byFull 90 = .ok (.goto 4, 3) := by decide +kernel
theorem dX7_byFull_93 : decode cX7_byFull 93 = .ok (.iconst 2, 1) := by decide +kernel
theorem dX7_byFull_94 : decode cX7_byFull 94 = .ok (.iadd, 1) := by decide +kernel
theorem dX7_byFull_95 : decode cX7_byFull 95 = .ok (.dup2, 1) := by decide +kernel
theorem dX7_byFull_96 : decode cX7_byFull 96 = .ok (.laload, 1) := by decide +kernel
theorem dX7_byFull_97 : decode cX7_byFull 97 = .ok (.lload 5, 2) := by decide +kernel
theorem dX7_byFull_99 : decode cX7_byFull 99 = .ok (.ladd, 1) := by decide +kernel
theorem dX7_byFull_100 : decode cX7_byFull 100 = .ok (.lastore, 1) := by decide +kernel
theorem dX7_byFull_101 : decode cX7_byFull 101 = .ok (.return_, 1) := by decide +kernel
theorem dX7_laysAside_0 : decode cX7_laysAside 0 = .ok (.iconst 0, 1) := by decide +kernel
theorem dX7_laysAside_1 : decode cX7_laysAside 1 = .ok (.istore_n 2, 1) := by decide +kernel
theorem dX7_laysAside_2 : decode cX7_laysAside 2 = .ok (.iload_n 2, 1) := by decide +kernel
theorem dX7_laysAside_3 : decode cX7_laysAside 3 = .ok (.bipush 40, 2) := by decide +kernel
theorem dX7_laysAside_5 : decode cX7_laysAside 5 = .ok (.if_icmp .ge 55, 3) := by decide +kernel
theorem dX7_laysAside_8 : decode cX7_laysAside 8 = .ok (.aload_n 0, 1) := by decide +kernel
theorem dX7_laysAside_9 : decode cX7_laysAside 9 = .ok (.getfield 127, 3) := by decide +kernel
theorem dX7_laysAside_12 : decode cX7_laysAside 12 = .ok (.iload_n 2, 1) := by decide +kernel
theorem dX7_laysAside_13 : decode cX7_laysAside 13 = .ok (.aload_n 0, 1) := by decide +kernel
theorem dX7_laysAside_14 : decode cX7_laysAside 14 = .ok (.getfield 57, 3) := by decide +kernel
theorem dX7_laysAside_17 : decode cX7_laysAside 17 = .ok (.iload_n 2, 1) := by decide +kernel
theorem dX7_laysAside_18 : decode cX7_laysAside 18 = .ok (.laload, 1) := by decide +kernel
theorem dX7_laysAside_19 : decode cX7_laysAside 19 = .ok (.lastore, 1) := by decide +kernel
theorem dX7_laysAside_20 : decode cX7_laysAside 20 = .ok (.aload_n 0, 1) := by decide +kernel
theorem dX7_laysAside_21 : decode cX7_laysAside 21 = .ok (.getfield 130, 3) := by decide +kernel
theorem dX7_laysAside_24 : decode cX7_laysAside 24 = .ok (.iload_n 2, 1) := by decide +kernel
theorem dX7_laysAside_25 : decode cX7_laysAside 25 = .ok (.aload_n 0, 1) := by decide +kernel
theorem dX7_laysAside_26 : decode cX7_laysAside 26 = .ok (.getfield 76, 3) := by decide +kernel
theorem dX7_laysAside_29 : decode cX7_laysAside 29 = .ok (.bipush 40, 2) := by decide +kernel
theorem dX7_laysAside_31 : decode cX7_laysAside 31 = .ok (.iload_n 1, 1) := by decide +kernel
theorem dX7_laysAside_32 : decode cX7_laysAside 32 = .ok (.imul, 1) := by decide +kernel
theorem dX7_laysAside_33 : decode cX7_laysAside 33 = .ok (.iload_n 2, 1) := by decide +kernel
theorem dX7_laysAside_34 : decode cX7_laysAside 34 = .ok (.iadd, 1) := by decide +kernel
theorem dX7_laysAside_35 : decode cX7_laysAside 35 = .ok (.laload, 1) := by decide +kernel
theorem dX7_laysAside_36 : decode cX7_laysAside 36 = .ok (.lastore, 1) := by decide +kernel
theorem dX7_laysAside_37 : decode cX7_laysAside 37 = .ok (.aload_n 0, 1) := by decide +kernel
theorem dX7_laysAside_38 : decode cX7_laysAside 38 = .ok (.getfield 133, 3) := by decide +kernel
theorem dX7_laysAside_41 : decode cX7_laysAside 41 = .ok (.iload_n 2, 1) := by decide +kernel
theorem dX7_laysAside_42 : decode cX7_laysAside 42 = .ok (.aload_n 0, 1) := by decide +kernel
theorem dX7_laysAside_43 : decode cX7_laysAside 43 = .ok (.getfield 79, 3) := by decide +kernel
theorem dX7_laysAside_46 : decode cX7_laysAside 46 = .ok (.bipush 40, 2) := by decide +kernel
theorem dX7_laysAside_48 : decode cX7_laysAside 48 = .ok (.iload_n 1, 1) := by decide +kernel
theorem dX7_laysAside_49 : decode cX7_laysAside 49 = .ok (.imul, 1) := by decide +kernel
theorem dX7_laysAside_50 : decode cX7_laysAside 50 = .ok (.iload_n 2, 1) := by decide +kernel
theorem dX7_laysAside_51 : decode cX7_laysAside 51 = .ok (.iadd, 1) := by decide +kernel
theorem dX7_laysAside_52 : decode cX7_laysAside 52 = .ok (.laload, 1) := by decide +kernel
theorem dX7_laysAside_53 : decode cX7_laysAside 53 = .ok (.lastore, 1) := by decide +kernel
theorem dX7_laysAside_54 : decode cX7_laysAside 54 = .ok (.iinc 2 1, 3) := by decide +kernel
theorem dX7_laysAside_57 : decode cX7_laysAside 57 = .ok (.goto (-55), 3) := by decide +kernel
theorem dX7_laysAside_60 : decode cX7_laysAside 60 = .ok (.iconst 0, 1) := by decide +kernel
theorem dX7_laysAside_61 : decode cX7_laysAside 61 = .ok (.istore_n 2, 1) := by decide +kernel
theorem dX7_laysAside_62 : decode cX7_laysAside 62 = .ok (.iload_n 2, 1) := by decide +kernel
theorem dX7_laysAside_63 : decode cX7_laysAside 63 = .ok (.bipush 7, 2) := by decide +kernel
theorem dX7_laysAside_65 : decode cX7_laysAside 65 = .ok (.if_icmp .ge 26, 3) := by decide +kernel
theorem dX7_laysAside_68 : decode cX7_laysAside 68 = .ok (.aload_n 0, 1) := by decide +kernel
theorem dX7_laysAside_69 : decode cX7_laysAside 69 = .ok (.getfield 136, 3) := by decide +kernel
theorem dX7_laysAside_72 : decode cX7_laysAside 72 = .ok (.iload_n 2, 1) := by decide +kernel
theorem dX7_laysAside_73 : decode cX7_laysAside 73 = .ok (.aload_n 0, 1) := by decide +kernel
theorem dX7_laysAside_74 : decode cX7_laysAside 74 = .ok (.getfield 91, 3) := by decide +kernel
theorem dX7_laysAside_77 : decode cX7_laysAside 77 = .ok (.bipush 7, 2) := by decide +kernel
theorem dX7_laysAside_79 : decode cX7_laysAside 79 = .ok (.iload_n 1, 1) := by decide +kernel
theorem dX7_laysAside_80 : decode cX7_laysAside 80 = .ok (.imul, 1) := by decide +kernel
theorem dX7_laysAside_81 : decode cX7_laysAside 81 = .ok (.iload_n 2, 1) := by decide +kernel
theorem dX7_laysAside_82 : decode cX7_laysAside 82 = .ok (.iadd, 1) := by decide +kernel
theorem dX7_laysAside_83 : decode cX7_laysAside 83 = .ok (.laload, 1) := by decide +kernel
theorem dX7_laysAside_84 : decode cX7_laysAside 84 = .ok (.lastore, 1) := by decide +kernel
theorem dX7_laysAside_85 : decode cX7_laysAside 85 = .ok (.iinc 2 1, 3) := by decide +kernel
theorem dX7_laysAside_88 : decode cX7_laysAside 88 = .ok (.goto (-26), 3) := by decide +kernel
theorem dX7_laysAside_91 : decode cX7_laysAside 91 = .ok (.return_, 1) := by decide +kernel
theorem dX7_laysBack_0 : decode cX7_laysBack 0 = .ok (.iconst 0, 1) := by decide +kernel
theorem dX7_laysBack_1 : decode cX7_laysBack 1 = .ok (.istore_n 2, 1) := by decide +kernel
theorem dX7_laysBack_2 : decode cX7_laysBack 2 = .ok (.iload_n 2, 1) := by decide +kernel
theorem dX7_laysBack_3 : decode cX7_laysBack 3 = .ok (.bipush 40, 2) := by decide +kernel
theorem dX7_laysBack_5 : decode cX7_laysBack 5 = .ok (.if_icmp .ge 62, 3) := by decide +kernel
theorem dX7_laysBack_8 : decode cX7_laysBack 8 = .ok (.aload_n 0, 1) := by decide +kernel
theorem dX7_laysBack_9 : decode cX7_laysBack 9 = .ok (.getfield 57, 3) := by decide +kernel
theorem dX7_laysBack_12 : decode cX7_laysBack 12 = .ok (.iload_n 2, 1) := by decide +kernel
theorem dX7_laysBack_13 : decode cX7_laysBack 13 = .ok (.aload_n 0, 1) := by decide +kernel
theorem dX7_laysBack_14 : decode cX7_laysBack 14 = .ok (.getfield 127, 3) := by decide +kernel
theorem dX7_laysBack_17 : decode cX7_laysBack 17 = .ok (.iload_n 2, 1) := by decide +kernel
theorem dX7_laysBack_18 : decode cX7_laysBack 18 = .ok (.laload, 1) := by decide +kernel
theorem dX7_laysBack_19 : decode cX7_laysBack 19 = .ok (.lastore, 1) := by decide +kernel
theorem dX7_laysBack_20 : decode cX7_laysBack 20 = .ok (.aload_n 0, 1) := by decide +kernel
theorem dX7_laysBack_21 : decode cX7_laysBack 21 = .ok (.getfield 76, 3) := by decide +kernel
theorem dX7_laysBack_24 : decode cX7_laysBack 24 = .ok (.bipush 40, 2) := by decide +kernel
theorem dX7_laysBack_26 : decode cX7_laysBack 26 = .ok (.iload_n 1, 1) := by decide +kernel
theorem dX7_laysBack_27 : decode cX7_laysBack 27 = .ok (.imul, 1) := by decide +kernel
theorem dX7_laysBack_28 : decode cX7_laysBack 28 = .ok (.iload_n 2, 1) := by decide +kernel
theorem dX7_laysBack_29 : decode cX7_laysBack 29 = .ok (.iadd, 1) := by decide +kernel
theorem dX7_laysBack_30 : decode cX7_laysBack 30 = .ok (.aload_n 0, 1) := by decide +kernel
theorem dX7_laysBack_31 : decode cX7_laysBack 31 = .ok (.getfield 130, 3) := by decide +kernel
theorem dX7_laysBack_34 : decode cX7_laysBack 34 = .ok (.iload_n 2, 1) := by decide +kernel
theorem dX7_laysBack_35 : decode cX7_laysBack 35 = .ok (.laload, 1) := by decide +kernel
theorem dX7_laysBack_36 : decode cX7_laysBack 36 = .ok (.lastore, 1) := by decide +kernel
theorem dX7_laysBack_37 : decode cX7_laysBack 37 = .ok (.aload_n 0, 1) := by decide +kernel
theorem dX7_laysBack_38 : decode cX7_laysBack 38 = .ok (.getfield 79, 3) := by decide +kernel
theorem dX7_laysBack_41 : decode cX7_laysBack 41 = .ok (.bipush 40, 2) := by decide +kernel
theorem dX7_laysBack_43 : decode cX7_laysBack 43 = .ok (.iload_n 1, 1) := by decide +kernel
theorem dX7_laysBack_44 : decode cX7_laysBack 44 = .ok (.imul, 1) := by decide +kernel
theorem dX7_laysBack_45 : decode cX7_laysBack 45 = .ok (.iload_n 2, 1) := by decide +kernel
theorem dX7_laysBack_46 : decode cX7_laysBack 46 = .ok (.iadd, 1) := by decide +kernel
theorem dX7_laysBack_47 : decode cX7_laysBack 47 = .ok (.aload_n 0, 1) := by decide +kernel
theorem dX7_laysBack_48 : decode cX7_laysBack 48 = .ok (.getfield 133, 3) := by decide +kernel
theorem dX7_laysBack_51 : decode cX7_laysBack 51 = .ok (.iload_n 2, 1) := by decide +kernel
theorem dX7_laysBack_52 : decode cX7_laysBack 52 = .ok (.laload, 1) := by decide +kernel
theorem dX7_laysBack_53 : decode cX7_laysBack 53 = .ok (.lastore, 1) := by decide +kernel
theorem dX7_laysBack_54 : decode cX7_laysBack 54 = .ok (.aload_n 0, 1) := by decide +kernel
theorem dX7_laysBack_55 : decode cX7_laysBack 55 = .ok (.getfield 115, 3) := by decide +kernel
theorem dX7_laysBack_58 : decode cX7_laysBack 58 = .ok (.iload_n 2, 1) := by decide +kernel
theorem dX7_laysBack_59 : decode cX7_laysBack 59 = .ok (.lconst 0, 1) := by decide +kernel
theorem dX7_laysBack_60 : decode cX7_laysBack 60 = .ok (.lastore, 1) := by decide +kernel
theorem dX7_laysBack_61 : decode cX7_laysBack 61 = .ok (.iinc 2 1, 3) := by decide +kernel
theorem dX7_laysBack_64 : decode cX7_laysBack 64 = .ok (.goto (-62), 3) := by decide +kernel
theorem dX7_laysBack_67 : decode cX7_laysBack 67 = .ok (.iconst 0, 1) := by decide +kernel
theorem dX7_laysBack_68 : decode cX7_laysBack 68 = .ok (.istore_n 2, 1) := by decide +kernel
theorem dX7_laysBack_69 : decode cX7_laysBack 69 = .ok (.iload_n 2, 1) := by decide +kernel
theorem dX7_laysBack_70 : decode cX7_laysBack 70 = .ok (.bipush 7, 2) := by decide +kernel
theorem dX7_laysBack_72 : decode cX7_laysBack 72 = .ok (.if_icmp .ge 26, 3) := by decide +kernel
theorem dX7_laysBack_75 : decode cX7_laysBack 75 = .ok (.aload_n 0, 1) := by decide +kernel
theorem dX7_laysBack_76 : decode cX7_laysBack 76 = .ok (.getfield 91, 3) := by decide +kernel
theorem dX7_laysBack_79 : decode cX7_laysBack 79 = .ok (.bipush 7, 2) := by decide +kernel
theorem dX7_laysBack_81 : decode cX7_laysBack 81 = .ok (.iload_n 1, 1) := by decide +kernel
theorem dX7_laysBack_82 : decode cX7_laysBack 82 = .ok (.imul, 1) := by decide +kernel
theorem dX7_laysBack_83 : decode cX7_laysBack 83 = .ok (.iload_n 2, 1) := by decide +kernel
theorem dX7_laysBack_84 : decode cX7_laysBack 84 = .ok (.iadd, 1) := by decide +kernel
theorem dX7_laysBack_85 : decode cX7_laysBack 85 = .ok (.aload_n 0, 1) := by decide +kernel
theorem dX7_laysBack_86 : decode cX7_laysBack 86 = .ok (.getfield 136, 3) := by decide +kernel
theorem dX7_laysBack_89 : decode cX7_laysBack 89 = .ok (.iload_n 2, 1) := by decide +kernel
theorem dX7_laysBack_90 : decode cX7_laysBack 90 = .ok (.laload, 1) := by decide +kernel
theorem dX7_laysBack_91 : decode cX7_laysBack 91 = .ok (.lastore, 1) := by decide +kernel
theorem dX7_laysBack_92 : decode cX7_laysBack 92 = .ok (.iinc 2 1, 3) := by decide +kernel
theorem dX7_laysBack_95 : decode cX7_laysBack 95 = .ok (.goto (-26), 3) := by decide +kernel
theorem dX7_laysBack_98 : decode cX7_laysBack 98 = .ok (.return_, 1) := by decide +kernel
theorem dX7_laysFair_0 : decode cX7_laysFair 0 = .ok (.aload_n 0, 1) := by decide +kernel
theorem dX7_laysFair_1 : decode cX7_laysFair 1 = .ok (.iload_n 1, 1) := by decide +kernel
theorem dX7_laysFair_2 : decode cX7_laysFair 2 = .ok (.invokevirtual 228, 3) := by decide +kernel
theorem dX7_laysFair_5 : decode cX7_laysFair 5 = .ok (.aload_n 0, 1) := by decide +kernel
theorem dX7_laysFair_6 : decode cX7_laysFair 6 = .ok (.iload_n 1, 1) := by decide +kernel
theorem dX7_laysFair_7 : decode cX7_laysFair 7 = .ok (.invokevirtual 231, 3) := by decide +kernel
theorem dX7_laysFair_10 : decode cX7_laysFair 10 = .ok (.aload_n 0, 1) := by decide +kernel
theorem dX7_laysFair_11 : decode cX7_laysFair 11 = .ok (.iload_n 1, 1) := by decide +kernel
theorem dX7_laysFair_12 : decode cX7_laysFair 12 = .ok (.lload_n 2, 1) := by decide +kernel
theorem dX7_laysFair_13 : decode cX7_laysFair 13 = .ok (.invokevirtual 234, 3) := by decide +kernel
theorem dX7_laysFair_16 : decode cX7_laysFair 16 = .ok (.iconst 0, 1) := by decide +kernel
theorem dX7_laysFair_17 : decode cX7_laysFair 17 = .ok (.istore 4, 2) := by decide +kernel
theorem dX7_laysFair_19 : decode cX7_laysFair 19 = .ok (.iload 4, 2) := by decide +kernel
theorem dX7_laysFair_21 : decode cX7_laysFair 21 = .ok (.bipush 40, 2) := by decide +kernel
theorem dX7_laysFair_23 : decode cX7_laysFair 23 = .ok (.if_icmp .ge 23, 3) := by decide +kernel
theorem dX7_laysFair_26 : decode cX7_laysFair 26 = .ok (.aload_n 0, 1) := by decide +kernel
theorem dX7_laysFair_27 : decode cX7_laysFair 27 = .ok (.getfield 118, 3) := by decide +kernel
theorem dX7_laysFair_30 : decode cX7_laysFair 30 = .ok (.iload 4, 2) := by decide +kernel
theorem dX7_laysFair_32 : decode cX7_laysFair 32 = .ok (.aload_n 0, 1) := by decide +kernel
theorem dX7_laysFair_33 : decode cX7_laysFair 33 = .ok (.getfield 115, 3) := by decide +kernel
theorem dX7_laysFair_36 : decode cX7_laysFair 36 = .ok (.iload 4, 2) := by decide +kernel
theorem dX7_laysFair_38 : decode cX7_laysFair 38 = .ok (.laload, 1) := by decide +kernel
theorem dX7_laysFair_39 : decode cX7_laysFair 39 = .ok (.lastore, 1) := by decide +kernel
theorem dX7_laysFair_40 : decode cX7_laysFair 40 = .ok (.iinc 4 1, 3) := by decide +kernel
theorem dX7_laysFair_43 : decode cX7_laysFair 43 = .ok (.goto (-24), 3) := by decide +kernel
theorem dX7_laysFair_46 : decode cX7_laysFair 46 = .ok (.aload_n 0, 1) := by decide +kernel
theorem dX7_laysFair_47 : decode cX7_laysFair 47 = .ok (.iload_n 1, 1) := by decide +kernel
theorem dX7_laysFair_48 : decode cX7_laysFair 48 = .ok (.invokevirtual 238, 3) := by decide +kernel
theorem dX7_laysFair_51 : decode cX7_laysFair 51 = .ok (.return_, 1) := by decide +kernel
theorem dX7_laysUnlike_0 : decode cX7_laysUnlike 0 = .ok (.lconst 0, 1) := by decide +kernel
theorem dX7_laysUnlike_1 : decode cX7_laysUnlike 1 = .ok (.lstore_n 2, 1) := by decide +kernel
theorem dX7_laysUnlike_2 : decode cX7_laysUnlike 2 = .ok (.iconst 0, 1) := by decide +kernel
theorem dX7_laysUnlike_3 : decode cX7_laysUnlike 3 = .ok (.istore 4, 2) := by decide +kernel
theorem dX7_laysUnlike_5 : decode cX7_laysUnlike 5 = .ok (.iload 4, 2) := by decide +kernel
theorem dX7_laysUnlike_7 : decode cX7_laysUnlike 7 = .ok (.bipush 40, 2) := by decide +kernel
theorem dX7_laysUnlike_9 : decode cX7_laysUnlike 9 = .ok (.if_icmp .ge 59, 3) := by decide +kernel
theorem dX7_laysUnlike_12 : decode cX7_laysUnlike 12 = .ok (.iload_n 1, 1) := by decide +kernel
theorem dX7_laysUnlike_13 : decode cX7_laysUnlike 13 = .ok (.i2l, 1) := by decide +kernel
theorem dX7_laysUnlike_14 : decode cX7_laysUnlike 14 = .ok (.aload_n 0, 1) := by decide +kernel
theorem dX7_laysUnlike_15 : decode cX7_laysUnlike 15 = .ok (.getfield 115, 3) := by decide +kernel
theorem dX7_laysUnlike_18 : decode cX7_laysUnlike 18 = .ok (.iload 4, 2) := by decide +kernel
theorem dX7_laysUnlike_20 : decode cX7_laysUnlike 20 = .ok (.laload, 1) := by decide +kernel
theorem dX7_laysUnlike_21 : decode cX7_laysUnlike 21 = .ok (.aload_n 0, 1) := by decide +kernel
theorem dX7_laysUnlike_22 : decode cX7_laysUnlike 22 = .ok (.getfield 118, 3) := by decide +kernel
theorem dX7_laysUnlike_25 : decode cX7_laysUnlike 25 = .ok (.iload 4, 2) := by decide +kernel
theorem dX7_laysUnlike_27 : decode cX7_laysUnlike 27 = .ok (.laload, 1) := by decide +kernel
theorem dX7_laysUnlike_28 : decode cX7_laysUnlike 28 = .ok (.lsub, 1) := by decide +kernel
theorem dX7_laysUnlike_29 : decode cX7_laysUnlike 29 = .ok (.lmul, 1) := by decide +kernel
theorem dX7_laysUnlike_30 : decode cX7_laysUnlike 30 = .ok (.lstore 5, 2) := by decide +kernel
theorem dX7_laysUnlike_32 : decode cX7_laysUnlike 32 = .ok (.aload_n 0, 1) := by decide +kernel
theorem dX7_laysUnlike_33 : decode cX7_laysUnlike 33 = .ok (.getfield 109, 3) := by decide +kernel
theorem dX7_laysUnlike_36 : decode cX7_laysUnlike 36 = .ok (.iload 4, 2) := by decide +kernel
theorem dX7_laysUnlike_38 : decode cX7_laysUnlike 38 = .ok (.lload 5, 2) := by decide +kernel
theorem dX7_laysUnlike_40 : decode cX7_laysUnlike 40 = .ok (.lconst 0, 1) := by decide +kernel
theorem dX7_laysUnlike_41 : decode cX7_laysUnlike 41 = .ok (.lcmp, 1) := by decide +kernel
theorem dX7_laysUnlike_42 : decode cX7_laysUnlike 42 = .ok (.ifCond .le 8, 3) := by decide +kernel
theorem dX7_laysUnlike_45 : decode cX7_laysUnlike 45 = .ok (.lload 5, 2) := by decide +kernel
theorem dX7_laysUnlike_47 : decode cX7_laysUnlike 47 = .ok (.goto 4, 3) := by decide +kernel
theorem dX7_laysUnlike_50 : decode cX7_laysUnlike 50 = .ok (.lconst 0, 1) := by decide +kernel
theorem dX7_laysUnlike_51 : decode cX7_laysUnlike 51 = .ok (.lastore, 1) := by decide +kernel
theorem dX7_laysUnlike_52 : decode cX7_laysUnlike 52 = .ok (.lload_n 2, 1) := by decide +kernel
theorem dX7_laysUnlike_53 : decode cX7_laysUnlike 53 = .ok (.aload_n 0, 1) := by decide +kernel
theorem dX7_laysUnlike_54 : decode cX7_laysUnlike 54 = .ok (.getfield 109, 3) := by decide +kernel
theorem dX7_laysUnlike_57 : decode cX7_laysUnlike 57 = .ok (.iload 4, 2) := by decide +kernel
theorem dX7_laysUnlike_59 : decode cX7_laysUnlike 59 = .ok (.laload, 1) := by decide +kernel
theorem dX7_laysUnlike_60 : decode cX7_laysUnlike 60 = .ok (.ladd, 1) := by decide +kernel
theorem dX7_laysUnlike_61 : decode cX7_laysUnlike 61 = .ok (.lstore_n 2, 1) := by decide +kernel
theorem dX7_laysUnlike_62 : decode cX7_laysUnlike 62 = .ok (.iinc 4 1, 3) := by decide +kernel
theorem dX7_laysUnlike_65 : decode cX7_laysUnlike 65 = .ok (.goto (-60), 3) := by decide +kernel
theorem dX7_laysUnlike_68 : decode cX7_laysUnlike 68 = .ok (.lload_n 2, 1) := by decide +kernel
theorem dX7_laysUnlike_69 : decode cX7_laysUnlike 69 = .ok (.lreturn, 1) := by decide +kernel
theorem dX7_contributes_0 : decode cX7_contributes 0 = .ok (.aload_n 0, 1) := by decide +kernel
theorem dX7_contributes_1 : decode cX7_contributes 1 = .ok (.iconst 1, 1) := by decide +kernel
theorem dX7_contributes_2 : decode cX7_contributes 2 = .ok (.invokevirtual 241, 3) := by decide +kernel
theorem dX7_contributes_5 : decode cX7_contributes 5 = .ok (.lstore_n 2, 1) := by decide +kernel
theorem dX7_contributes_6 : decode cX7_contributes 6 = .ok (.aload_n 0, 1) := by decide +kernel
theorem dX7_contributes_7 : decode cX7_contributes 7 = .ok (.iconst (-1), 1) := by decide +kernel
theorem dX7_contributes_8 : decode cX7_contributes 8 = .ok (.invokevirtual 241, 3) := by decide +kernel
theorem dX7_contributes_11 : decode cX7_contributes 11 = .ok (.lstore 4, 2) := by decide +kernel
theorem dX7_contributes_13 : decode cX7_contributes 13 = .ok (.lload_n 2, 1) := by decide +kernel
theorem dX7_contributes_14 : decode cX7_contributes 14 = .ok (.lload 4, 2) := by decide +kernel
theorem dX7_contributes_16 : decode cX7_contributes 16 = .ok (.invokestatic 179, 3) := by decide +kernel
theorem dX7_contributes_19 : decode cX7_contributes 19 = .ok (.lstore 6, 2) := by decide +kernel
theorem dX7_contributes_21 : decode cX7_contributes 21 = .ok (.lload 6, 2) := by decide +kernel
theorem dX7_contributes_23 : decode cX7_contributes 23 = .ok (.lconst 0, 1) := by decide +kernel
theorem dX7_contributes_24 : decode cX7_contributes 24 = .ok (.lcmp, 1) := by decide +kernel
theorem dX7_contributes_25 : decode cX7_contributes 25 = .ok (.ifCond .ne 4, 3) := by decide +kernel
theorem dX7_contributes_28 : decode cX7_contributes 28 = .ok (.return_, 1) := by decide +kernel
theorem dX7_contributes_29 : decode cX7_contributes 29 = .ok (.aload_n 0, 1) := by decide +kernel
theorem dX7_contributes_30 : decode cX7_contributes 30 = .ok (.iconst 1, 1) := by decide +kernel
theorem dX7_contributes_31 : decode cX7_contributes 31 = .ok (.invokevirtual 241, 3) := by decide +kernel
theorem dX7_contributes_34 : decode cX7_contributes 34 = .ok (.pop2, 1) := by decide +kernel
theorem dX7_contributes_35 : decode cX7_contributes 35 = .ok (.aload_n 0, 1) := by decide +kernel
theorem dX7_contributes_36 : decode cX7_contributes 36 = .ok (.lload 6, 2) := by decide +kernel
theorem dX7_contributes_38 : decode cX7_contributes 38 = .ok (.bipush 40, 2) := by decide +kernel
theorem dX7_contributes_40 : decode cX7_contributes 40 = .ok (.invokevirtual 211, 3) := by decide +kernel
theorem dX7_contributes_43 : decode cX7_contributes 43 = .ok (.iconst 0, 1) := by decide +kernel
theorem dX7_contributes_44 : decode cX7_contributes 44 = .ok (.istore 8, 2) := by decide +kernel
theorem dX7_contributes_46 : decode cX7_contributes 46 = .ok (.iload 8, 2) := by decide +kernel
theorem dX7_contributes_48 : decode cX7_contributes 48 = .ok (.bipush 40, 2) := by decide +kernel
theorem dX7_contributes_50 : decode cX7_contributes 50 = .ok (.if_icmp .ge 23, 3) := by decide +kernel
theorem dX7_contributes_53 : decode cX7_contributes 53 = .ok (.aload_n 0, 1) := by decide +kernel
theorem dX7_contributes_54 : decode cX7_contributes 54 = .ok (.getfield 139, 3) := by decide +kernel
theorem dX7_contributes_57 : decode cX7_contributes 57 = .ok (.iload 8, 2) := by decide +kernel
theorem dX7_contributes_59 : decode cX7_contributes 59 = .ok (.aload_n 0, 1) := by decide +kernel
theorem dX7_contributes_60 : decode cX7_contributes 60 = .ok (.getfield 112, 3) := by decide +kernel
theorem dX7_contributes_63 : decode cX7_contributes 63 = .ok (.iload 8, 2) := by decide +kernel
theorem dX7_contributes_65 : decode cX7_contributes 65 = .ok (.laload, 1) := by decide +kernel
theorem dX7_contributes_66 : decode cX7_contributes 66 = .ok (.lastore, 1) := by decide +kernel
theorem dX7_contributes_67 : decode cX7_contributes 67 = .ok (.iinc 8 1, 3) := by decide +kernel
theorem dX7_contributes_70 : decode cX7_contributes 70 = .ok (.goto (-24), 3) := by decide +kernel
theorem dX7_contributes_73 : decode cX7_contributes 73 = .ok (.aload_n 0, 1) := by decide +kernel
theorem dX7_contributes_74 : decode cX7_contributes 74 = .ok (.iconst (-1), 1) := by decide +kernel
theorem dX7_contributes_75 : decode cX7_contributes 75 = .ok (.invokevirtual 241, 3) := by decide +kernel
theorem dX7_contributes_78 : decode cX7_contributes 78 = .ok (.pop2, 1) := by decide +kernel
theorem dX7_contributes_79 : decode cX7_contributes 79 = .ok (.aload_n 0, 1) := by decide +kernel
theorem dX7_contributes_80 : decode cX7_contributes 80 = .ok (.lload 6, 2) := by decide +kernel
theorem dX7_contributes_82 : decode cX7_contributes 82 = .ok (.bipush 40, 2) := by decide +kernel
theorem dX7_contributes_84 : decode cX7_contributes 84 = .ok (.invokevirtual 211, 3) := by decide +kernel
theorem dX7_contributes_87 : decode cX7_contributes 87 = .ok (.iconst 0, 1) := by decide +kernel
theorem dX7_contributes_88 : decode cX7_contributes 88 = .ok (.istore 8, 2) := by decide +kernel
theorem dX7_contributes_90 : decode cX7_contributes 90 = .ok (.iload 8, 2) := by decide +kernel
theorem dX7_contributes_92 : decode cX7_contributes 92 = .ok (.bipush 40, 2) := by decide +kernel
theorem dX7_contributes_94 : decode cX7_contributes 94 = .ok (.if_icmp .ge 84, 3) := by decide +kernel
theorem dX7_contributes_97 : decode cX7_contributes 97 = .ok (.aload_n 0, 1) := by decide +kernel
theorem dX7_contributes_98 : decode cX7_contributes 98 = .ok (.getfield 112, 3) := by decide +kernel
theorem dX7_contributes_101 : decode cX7_contributes 101 = .ok (.iload 8, 2) := by decide +kernel
theorem dX7_contributes_103 : decode cX7_contributes 103 = .ok (.laload, 1) := by decide +kernel
theorem dX7_contributes_104 : decode cX7_contributes 104 = .ok (.aload_n 0, 1) := by decide +kernel
theorem dX7_contributes_105 : decode cX7_contributes 105 = .ok (.getfield 139, 3) := by decide +kernel
theorem dX7_contributes_108 : decode cX7_contributes 108 = .ok (.iload 8, 2) := by decide +kernel
theorem dX7_contributes_110 : decode cX7_contributes 110 = .ok (.laload, 1) := by decide +kernel
theorem dX7_contributes_111 : decode cX7_contributes 111 = .ok (.lsub, 1) := by decide +kernel
theorem dX7_contributes_112 : decode cX7_contributes 112 = .ok (.lstore 9, 2) := by decide +kernel
theorem dX7_contributes_114 : decode cX7_contributes 114 = .ok (.aload_n 0, 1) := by decide +kernel
theorem dX7_contributes_115 : decode cX7_contributes 115 = .ok (.getfield 115, 3) := by decide +kernel
theorem dX7_contributes_118 : decode cX7_contributes 118 = .ok (.iload 8, 2) := by decide +kernel
theorem dX7_contributes_120 : decode cX7_contributes 120 = .ok (.dup2, 1) := by decide +kernel
theorem dX7_contributes_121 : decode cX7_contributes 121 = .ok (.laload, 1) := by decide +kernel
theorem dX7_contributes_122 : decode cX7_contributes 122 = .ok (.lload 9, 2) := by decide +kernel
theorem dX7_contributes_124 : decode cX7_contributes 124 = .ok (.ladd, 1) := by decide +kernel
theorem dX7_contributes_125 : decode cX7_contributes 125 = .ok (.lastore, 1) := by decide +kernel
theorem dX7_contributes_126 : decode cX7_contributes 126 = .ok (.aload_n 0, 1) := by decide +kernel
theorem dX7_contributes_127 : decode cX7_contributes 127 = .ok (.getfield 57, 3) := by decide +kernel
theorem dX7_contributes_130 : decode cX7_contributes 130 = .ok (.iload 8, 2) := by decide +kernel
theorem dX7_contributes_132 : decode cX7_contributes 132 = .ok (.dup2, 1) := by decide +kernel
theorem dX7_contributes_133 : decode cX7_contributes 133 = .ok (.laload, 1) := by decide +kernel
theorem dX7_contributes_134 : decode cX7_contributes 134 = .ok (.lload 9, 2) := by decide +kernel
theorem dX7_contributes_136 : decode cX7_contributes 136 = .ok (.ladd, 1) := by decide +kernel
theorem dX7_contributes_137 : decode cX7_contributes 137 = .ok (.lastore, 1) := by decide +kernel
theorem dX7_contributes_138 : decode cX7_contributes 138 = .ok (.aload_n 0, 1) := by decide +kernel
theorem dX7_contributes_139 : decode cX7_contributes 139 = .ok (.getfield 76, 3) := by decide +kernel
theorem dX7_contributes_142 : decode cX7_contributes 142 = .ok (.bipush 40, 2) := by decide +kernel
theorem dX7_contributes_144 : decode cX7_contributes 144 = .ok (.iload_n 1, 1) := by decide +kernel
theorem dX7_contributes_145 : decode cX7_contributes 145 = .ok (.imul, 1) := by decide +kernel
theorem dX7_contributes_146 : decode cX7_contributes 146 = .ok (.iload 8, 2) := by decide +kernel
theorem dX7_contributes_148 : decode cX7_contributes 148 = .ok (.iadd, 1) := by decide +kernel
theorem dX7_contributes_149 : decode cX7_contributes 149 = .ok (.dup2, 1) := by decide +kernel
theorem dX7_contributes_150 : decode cX7_contributes 150 = .ok (.laload, 1) := by decide +kernel
theorem dX7_contributes_151 : decode cX7_contributes 151 = .ok (.lload 9, 2) := by decide +kernel
theorem dX7_contributes_153 : decode cX7_contributes 153 = .ok (.ladd, 1) := by decide +kernel
theorem dX7_contributes_154 : decode cX7_contributes 154 = .ok (.lastore, 1) := by decide +kernel
theorem dX7_contributes_155 : decode cX7_contributes 155 = .ok (.aload_n 0, 1) := by decide +kernel
theorem dX7_contributes_156 : decode cX7_contributes 156 = .ok (.getfield 82, 3) := by decide +kernel
theorem dX7_contributes_159 : decode cX7_contributes 159 = .ok (.bipush 40, 2) := by decide +kernel
theorem dX7_contributes_161 : decode cX7_contributes 161 = .ok (.iload_n 1, 1) := by decide +kernel
theorem dX7_contributes_162 : decode cX7_contributes 162 = .ok (.imul, 1) := by decide +kernel
theorem dX7_contributes_163 : decode cX7_contributes 163 = .ok (.iload 8, 2) := by decide +kernel
theorem dX7_contributes_165 : decode cX7_contributes 165 = .ok (.iadd, 1) := by decide +kernel
theorem dX7_contributes_166 : decode cX7_contributes 166 = .ok (.dup2, 1) := by decide +kernel
theorem dX7_contributes_167 : decode cX7_contributes 167 = .ok (.laload, 1) := by decide +kernel
theorem dX7_contributes_168 : decode cX7_contributes 168 = .ok (.lload 9, 2) := by decide +kernel
theorem dX7_contributes_170 : decode cX7_contributes 170 = .ok (.ladd, 1) := by decide +kernel
theorem dX7_contributes_171 : decode cX7_contributes 171 = .ok (.lastore, 1) := by decide +kernel
theorem dX7_contributes_172 : decode cX7_contributes 172 = .ok (.iinc 8 1, 3) := by decide +kernel
theorem dX7_contributes_175 : decode cX7_contributes 175 = .ok (.goto (-85), 3) := by decide +kernel
theorem dX7_contributes_178 : decode cX7_contributes 178 = .ok (.return_, 1) := by decide +kernel
theorem dX7_levelled_0 : decode cX7_levelled 0 = .ok (.lconst 0, 1) := by decide +kernel
theorem dX7_levelled_1 : decode cX7_levelled 1 = .ok (.lstore_n 3, 1) := by decide +kernel
theorem dX7_levelled_2 : decode cX7_levelled 2 = .ok (.iconst 0, 1) := by decide +kernel
theorem dX7_levelled_3 : decode cX7_levelled 3 = .ok (.istore 5, 2) := by decide +kernel
theorem dX7_levelled_5 : decode cX7_levelled 5 = .ok (.iload 5, 2) := by decide +kernel
theorem dX7_levelled_7 : decode cX7_levelled 7 = .ok (.bipush 12, 2) := by decide +kernel
theorem dX7_levelled_9 : decode cX7_levelled 9 = .ok (.if_icmp .ge 23, 3) := by decide +kernel
theorem dX7_levelled_12 : decode cX7_levelled 12 = .ok (.lload_n 3, 1) := by decide +kernel
theorem dX7_levelled_13 : decode cX7_levelled 13 = .ok (.lload_n 1, 1) := by decide +kernel
theorem dX7_levelled_14 : decode cX7_levelled 14 = .ok (.aload_n 0, 1) := by decide +kernel
theorem dX7_levelled_15 : decode cX7_levelled 15 = .ok (.getfield 142, 3) := by decide +kernel
theorem dX7_levelled_18 : decode cX7_levelled 18 = .ok (.iload 5, 2) := by decide +kernel
theorem dX7_levelled_20 : decode cX7_levelled 20 = .ok (.laload, 1) := by decide +kernel
theorem dX7_levelled_21 : decode cX7_levelled 21 = .ok (.invokestatic 179, 3) := by decide +kernel
theorem dX7_levelled_24 : decode cX7_levelled 24 = .ok (.ladd, 1) := by decide +kernel
theorem dX7_levelled_25 : decode cX7_levelled 25 = .ok (.lstore_n 3, 1) := by decide +kernel
theorem dX7_levelled_26 : decode cX7_levelled 26 = .ok (.iinc 5 1, 3) := by decide +kernel
theorem dX7_levelled_29 : decode cX7_levelled 29 = .ok (.goto (-24), 3) := by decide +kernel
theorem dX7_levelled_32 : decode cX7_levelled 32 = .ok (.lload_n 3, 1) := by decide +kernel
theorem dX7_levelled_33 : decode cX7_levelled 33 = .ok (.lreturn, 1) := by decide +kernel
theorem dX7_byLevel_0 : decode cX7_byLevel 0 = .ok (.iconst 0, 1) := by decide +kernel
theorem dX7_byLevel_1 : decode cX7_byLevel 1 = .ok (.istore 4, 2) := by decide +kernel
theorem dX7_byLevel_3 : decode cX7_byLevel 3 = .ok (.iload 4, 2) := by decide +kernel
theorem dX7_byLevel_5 : decode cX7_byLevel 5 = .ok (.bipush 12, 2) := by decide +kernel
theorem dX7_byLevel_7 : decode cX7_byLevel 7 = .ok (.if_icmp .ge 46, 3) := by decide +kernel
theorem dX7_byLevel_10 : decode cX7_byLevel 10 = .ok (.aload_n 0, 1) := by decide +kernel
theorem dX7_byLevel_11 : decode cX7_byLevel 11 = .ok (.getfield 142, 3) := by decide +kernel
theorem dX7_byLevel_14 : decode cX7_byLevel 14 = .ok (.iload 4, 2) := by decide +kernel
theorem dX7_byLevel_16 : decode cX7_byLevel 16 = .ok (.aload_n 0, 1) := by decide +kernel
theorem dX7_byLevel_17 : decode cX7_byLevel 17 = .ok (.iload_n 1, 1) := by decide +kernel
theorem dX7_byLevel_18 : decode cX7_byLevel 18 = .ok (.iload 4, 2) := by decide +kernel
theorem dX7_byLevel_20 : decode cX7_byLevel 20 = .ok (.invokevirtual 197, 3) := by decide +kernel
theorem dX7_byLevel_23 : decode cX7_byLevel 23 = .ok (.ifCond .eq 22, 3) := by decide +kernel
theorem dX7_byLevel_26 : decode cX7_byLevel 26 = .ok (.aload_n 0, 1) := by decide +kernel
theorem dX7_byLevel_27 : decode cX7_byLevel 27 = .ok (.iload 4, 2) := by decide +kernel
theorem dX7_byLevel_29 : decode cX7_byLevel 29 = .ok (.invokevirtual 205, 3) := by decide +kernel
theorem dX7_byLevel_32 : decode cX7_byLevel 32 = .ok (.ifCond .ne 13, 3) := by decide +kernel
theorem dX7_byLevel_35 : decode cX7_byLevel 35 = .ok (.aload_n 0, 1) := by decide +kernel
theorem dX7_byLevel_36 : decode cX7_byLevel 36 = .ok (.iload_n 1, 1) := by decide +kernel
theorem dX7_byLevel_37 : decode cX7_byLevel 37 = .ok (.iload 4, 2) := by decide +kernel
theorem dX7_byLevel_39 : decode cX7_byLevel 39 = .ok (.invokevirtual 219, 3) := by decide +kernel
theorem dX7_byLevel_42 : decode cX7_byLevel 42 = .ok (.goto 4, 3) := by decide +kernel
theorem dX7_byLevel_45 : decode cX7_byLevel 45 = .ok (.lconst 0, 1) := by decide +kernel
theorem dX7_byLevel_46 : decode cX7_byLevel 46 = .ok (.lastore, 1) := by decide +kernel
theorem dX7_byLevel_47 : decode cX7_byLevel 47 = .ok (.iinc 4 1, 3) := by decide +kernel
theorem dX7_byLevel_50 : decode cX7_byLevel 50 = .ok (.goto (-47), 3) := by decide +kernel
theorem dX7_byLevel_53 : decode cX7_byLevel 53 = .ok (.lconst 0, 1) := by decide +kernel
theorem dX7_byLevel_54 : decode cX7_byLevel 54 = .ok (.lstore 4, 2) := by decide +kernel
theorem dX7_byLevel_56 : decode cX7_byLevel 56 = .ok (.ldc2_w 244, 3) := by decide +kernel
theorem dX7_byLevel_59 : decode cX7_byLevel 59 = .ok (.lstore 6, 2) := by decide +kernel
theorem dX7_byLevel_61 : decode cX7_byLevel 61 = .ok (.lload 4, 2) := by decide +kernel
theorem dX7_byLevel_63 : decode cX7_byLevel 63 = .ok (.lload 6, 2) := by decide +kernel
theorem dX7_byLevel_65 : decode cX7_byLevel 65 = .ok (.lcmp, 1) := by decide +kernel
theorem dX7_byLevel_66 : decode cX7_byLevel 66 = .ok (.ifCond .ge 43, 3) := by decide +kernel
theorem dX7_byLevel_69 : decode cX7_byLevel 69 = .ok (.lload 4, 2) := by decide +kernel
theorem dX7_byLevel_71 : decode cX7_byLevel 71 = .ok (.lload 6, 2) := by decide +kernel
theorem dX7_byLevel_73 : decode cX7_byLevel 73 = .ok (.ladd, 1) := by decide +kernel
theorem dX7_byLevel_74 : decode cX7_byLevel 74 = .ok (.lconst 1, 1) := by decide +kernel
theorem dX7_byLevel_75 : decode cX7_byLevel 75 = .ok (.ladd, 1) := by decide +kernel
theorem dX7_byLevel_76 : decode cX7_byLevel 76 = .ok (.ldc2_w 246, 3) := by decide +kernel
theorem dX7_byLevel_79 : decode cX7_byLevel 79 = .ok (.ldiv, 1) := by decide +kernel
theorem dX7_byLevel_80 : decode cX7_byLevel 80 = .ok (.lstore 8, 2) := by decide +kernel
theorem dX7_byLevel_82 : decode cX7_byLevel 82 = .ok (.aload_n 0, 1) := by decide +kernel
theorem dX7_byLevel_83 : decode cX7_byLevel 83 = .ok (.lload 8, 2) := by decide +kernel
theorem dX7_byLevel_85 : decode cX7_byLevel 85 = .ok (.invokevirtual 248, 3) := by decide +kernel
theorem dX7_byLevel_88 : decode cX7_byLevel 88 = .ok (.lload_n 2, 1) := by decide +kernel
theorem dX7_byLevel_89 : decode cX7_byLevel 89 = .ok (.lcmp, 1) := by decide +kernel
theorem dX7_byLevel_90 : decode cX7_byLevel 90 = .ok (.ifCond .gt 10, 3) := by decide +kernel
theorem dX7_byLevel_93 : decode cX7_byLevel 93 = .ok (.lload 8, 2) := by decide +kernel
theorem dX7_byLevel_95 : decode cX7_byLevel 95 = .ok (.lstore 4, 2) := by decide +kernel
theorem dX7_byLevel_97 : decode cX7_byLevel 97 = .ok (.goto 9, 3) := by decide +kernel
theorem dX7_byLevel_100 : decode cX7_byLevel 100 = .ok (.lload 8, 2) := by decide +kernel
theorem dX7_byLevel_102 : decode cX7_byLevel 102 = .ok (.lconst 1, 1) := by decide +kernel
theorem dX7_byLevel_103 : decode cX7_byLevel 103 = .ok (.lsub, 1) := by decide +kernel
theorem dX7_byLevel_104 : decode cX7_byLevel 104 = .ok (.lstore 6, 2) := by decide +kernel
theorem dX7_byLevel_106 : decode cX7_byLevel 106 = .ok (.goto (-45), 3) := by decide +kernel
theorem dX7_byLevel_109 : decode cX7_byLevel 109 = .ok (.iconst 0, 1) := by decide +kernel
theorem dX7_byLevel_110 : decode cX7_byLevel 110 = .ok (.istore 8, 2) := by decide +kernel
theorem dX7_byLevel_112 : decode cX7_byLevel 112 = .ok (.lload_n 2, 1) := by decide +kernel
theorem dX7_byLevel_113 : decode cX7_byLevel 113 = .ok (.aload_n 0, 1) := by decide +kernel
theorem dX7_byLevel_114 : decode cX7_byLevel 114 = .ok (.lload 4, 2) := by decide +kernel
theorem dX7_byLevel_116 : decode cX7_byLevel 116 = .ok (.invokevirtual 248, 3) := by decide +kernel
theorem dX7_byLevel_119 : decode cX7_byLevel 119 = .ok (.lsub, 1) := by decide +kernel
theorem dX7_byLevel_120 : decode cX7_byLevel 120 = .ok (.lstore 9, 2) := by decide +kernel
theorem dX7_byLevel_122 : decode cX7_byLevel 122 = .ok (.iconst 0, 1) := by decide +kernel
theorem dX7_byLevel_123 : decode cX7_byLevel 123 = .ok (.istore 11, 2) := by decide +kernel
theorem dX7_byLevel_125 : decode cX7_byLevel 125 = .ok (.iload 11, 2) := by decide +kernel
theorem dX7_byLevel_127 : decode cX7_byLevel 127 = .ok (.bipush 12, 2) := by decide +kernel
theorem dX7_byLevel_129 : decode cX7_byLevel 129 = .ok (.if_icmp .ge 101, 3) := by decide +kernel
theorem dX7_byLevel_132 : decode cX7_byLevel 132 = .ok (.aload_n 0, 1) := by decide +kernel
theorem dX7_byLevel_133 : decode cX7_byLevel 133 = .ok (.getfield 121, 3) := by decide +kernel
theorem dX7_byLevel_136 : decode cX7_byLevel 136 = .ok (.iload 11, 2) := by decide +kernel
theorem dX7_byLevel_138 : decode cX7_byLevel 138 = .ok (.lconst 0, 1) := by decide +kernel
theorem dX7_byLevel_139 : decode cX7_byLevel 139 = .ok (.lastore, 1) := by decide +kernel
theorem dX7_byLevel_140 : decode cX7_byLevel 140 = .ok (.aload_n 0, 1) := by decide +kernel
theorem dX7_byLevel_141 : decode cX7_byLevel 141 = .ok (.iload_n 1, 1) := by decide +kernel
theorem dX7_byLevel_142 : decode cX7_byLevel 142 = .ok (.iload 11, 2) := by decide +kernel
theorem dX7_byLevel_144 : decode cX7_byLevel 144 = .ok (.invokevirtual 197, 3) := by decide +kernel
theorem dX7_byLevel_147 : decode cX7_byLevel 147 = .ok (.ifCond .eq 77, 3) := by decide +kernel
theorem dX7_byLevel_150 : decode cX7_byLevel 150 = .ok (.aload_n 0, 1) := by decide +kernel
theorem dX7_byLevel_151 : decode cX7_byLevel 151 = .ok (.iload 11, 2) := by decide +kernel
theorem dX7_byLevel_153 : decode cX7_byLevel 153 = .ok (.invokevirtual 205, 3) := by decide +kernel
theorem dX7_byLevel_156 : decode cX7_byLevel 156 = .ok (.ifCond .eq 6, 3) := by decide +kernel
theorem dX7_byLevel_159 : decode cX7_byLevel 159 = .ok (.goto 65, 3) := by decide +kernel
theorem dX7_byLevel_162 : decode cX7_byLevel 162 = .ok (.iinc 8 1, 3) := by decide +kernel
theorem dX7_byLevel_165 : decode cX7_byLevel 165 = .ok (.aload_n 0, 1) := by decide +kernel
theorem dX7_byLevel_166 : decode cX7_byLevel 166 = .ok (.getfield 121, 3) := by decide +kernel
theorem dX7_byLevel_169 : decode cX7_byLevel 169 = .ok (.iload 11, 2) := by decide +kernel
theorem dX7_byLevel_171 : decode cX7_byLevel 171 = .ok (.lload 4, 2) := by decide +kernel
theorem dX7_byLevel_173 : decode cX7_byLevel 173 = .ok (.aload_n 0, 1) := by decide +kernel
theorem dX7_byLevel_174 : decode cX7_byLevel 174 = .ok (.getfield 142, 3) := by decide +kernel
theorem dX7_byLevel_177 : decode cX7_byLevel 177 = .ok (.iload 11, 2) := by decide +kernel
theorem dX7_byLevel_179 : decode cX7_byLevel 179 = .ok (.laload, 1) := by decide +kernel
theorem dX7_byLevel_180 : decode cX7_byLevel 180 = .ok (.invokestatic 179, 3) := by decide +kernel
theorem dX7_byLevel_183 : decode cX7_byLevel 183 = .ok (.lastore, 1) := by decide +kernel
theorem dX7_byLevel_184 : decode cX7_byLevel 184 = .ok (.lload 9, 2) := by decide +kernel
theorem dX7_byLevel_186 : decode cX7_byLevel 186 = .ok (.lconst 0, 1) := by decide +kernel
theorem dX7_byLevel_187 : decode cX7_byLevel 187 = .ok (.lcmp, 1) := by decide +kernel
theorem dX7_byLevel_188 : decode cX7_byLevel 188 = .ok (.ifCond .eq 36, 3) := by decide +kernel
theorem dX7_byLevel_191 : decode cX7_byLevel 191 = .ok (.aload_n 0, 1) := by decide +kernel
theorem dX7_byLevel_192 : decode cX7_byLevel 192 = .ok (.getfield 142, 3) := by decide +kernel
theorem dX7_byLevel_195 : decode cX7_byLevel 195 = .ok (.iload 11, 2) := by decide +kernel
theorem dX7_byLevel_197 : decode cX7_byLevel 197 = .ok (.laload, 1) := by decide +kernel
theorem dX7_byLevel_198 : decode cX7_byLevel 198 = .ok (.lload 4, 2) := by decide +kernel
theorem dX7_byLevel_200 : decode cX7_byLevel 200 = .ok (.lcmp, 1) := by decide +kernel
theorem dX7_byLevel_201 : decode cX7_byLevel 201 = .ok (.ifCond .gt 6, 3) := by decide +kernel
theorem dX7_byLevel_204 : decode cX7_byLevel 204 = .ok (.goto 20, 3) := by decide +kernel
theorem dX7_byLevel_207 : decode cX7_byLevel 207 = .ok (.aload_n 0, 1) := by decide +kernel
theorem dX7_byLevel_208 : decode cX7_byLevel 208 = .ok (.getfield 121, 3) := by decide +kernel
theorem dX7_byLevel_211 : decode cX7_byLevel 211 = .ok (.iload 11, 2) := by decide +kernel
theorem dX7_byLevel_213 : decode cX7_byLevel 213 = .ok (.dup2, 1) := by decide +kernel
theorem dX7_byLevel_214 : decode cX7_byLevel 214 = .ok (.laload, 1) := by decide +kernel
theorem dX7_byLevel_215 : decode cX7_byLevel 215 = .ok (.lconst 1, 1) := by decide +kernel
theorem dX7_byLevel_216 : decode cX7_byLevel 216 = .ok (.ladd, 1) := by decide +kernel
theorem dX7_byLevel_217 : decode cX7_byLevel 217 = .ok (.lastore, 1) := by decide +kernel
theorem dX7_byLevel_218 : decode cX7_byLevel 218 = .ok (.lload 9, 2) := by decide +kernel
theorem dX7_byLevel_220 : decode cX7_byLevel 220 = .ok (.lconst 1, 1) := by decide +kernel
theorem dX7_byLevel_221 : decode cX7_byLevel 221 = .ok (.lsub, 1) := by decide +kernel
theorem dX7_byLevel_222 : decode cX7_byLevel 222 = .ok (.lstore 9, 2) := by decide +kernel
theorem dX7_byLevel_224 : decode cX7_byLevel 224 = .ok (.iinc 11 1, 3) := by decide +kernel
theorem dX7_byLevel_227 : decode cX7_byLevel 227 = .ok (.goto (-102), 3) := by decide +kernel
theorem dX7_byLevel_230 : decode cX7_byLevel 230 = .ok (.iconst 0, 1) := by decide +kernel
theorem dX7_byLevel_231 : decode cX7_byLevel 231 = .ok (.istore 11, 2) := by decide +kernel
theorem dX7_byLevel_233 : decode cX7_byLevel 233 = .ok (.iload 11, 2) := by decide +kernel
theorem dX7_byLevel_235 : decode cX7_byLevel 235 = .ok (.bipush 12, 2) := by decide +kernel
theorem dX7_byLevel_237 : decode cX7_byLevel 237 = .ok (.if_icmp .ge 36, 3) := by decide +kernel
theorem dX7_byLevel_240 : decode cX7_byLevel 240 = .ok (.aload_n 0, 1) := by decide +kernel
theorem dX7_byLevel_241 : decode cX7_byLevel 241 = .ok (.getfield 121, 3) := by decide +kernel
theorem dX7_byLevel_244 : decode cX7_byLevel 244 = .ok (.iload 11, 2) := by decide +kernel
theorem dX7_byLevel_246 : decode cX7_byLevel 246 = .ok (.laload, 1) := by decide +kernel
theorem dX7_byLevel_247 : decode cX7_byLevel 247 = .ok (.lconst 0, 1) := by decide +kernel
theorem dX7_byLevel_248 : decode cX7_byLevel 248 = .ok (.lcmp, 1) := by decide +kernel
theorem dX7_byLevel_249 : decode cX7_byLevel 249 = .ok (.ifCond .le 18, 3) := by decide +kernel
theorem dX7_byLevel_252 : decode cX7_byLevel 252 = .ok (.aload_n 0, 1) := by decide +kernel
theorem dX7_byLevel_253 : decode cX7_byLevel 253 = .ok (.iload_n 1, 1) := by decide +kernel
theorem dX7_byLevel_254 : decode cX7_byLevel 254 = .ok (.iload 11, 2) := by decide +kernel
theorem dX7_byLevel_256 : decode cX7_byLevel 256 = .ok (.aload_n 0, 1) := by decide +kernel
theorem dX7_byLevel_257 : decode cX7_byLevel 257 = .ok (.getfield 121, 3) := by decide +kernel
theorem dX7_byLevel_260 : decode cX7_byLevel 260 = .ok (.iload 11, 2) := by decide +kernel
theorem dX7_byLevel_262 : decode cX7_byLevel 262 = .ok (.laload, 1) := by decide +kernel
theorem dX7_byLevel_263 : decode cX7_byLevel 263 = .ok (.invokevirtual 215, 3) := by decide +kernel
theorem dX7_byLevel_266 : decode cX7_byLevel 266 = .ok (.pop2, 1) := by decide +kernel
theorem dX7_byLevel_267 : decode cX7_byLevel 267 = .ok (.iinc 11 1, 3) := by decide +kernel
theorem dX7_byLevel_270 : decode cX7_byLevel 270 = .ok (.goto (-37), 3) := by decide +kernel
theorem dX7_byLevel_273 : decode cX7_byLevel 273 = .ok (.aload_n 0, 1) := by decide +kernel
theorem dX7_byLevel_274 : decode cX7_byLevel 274 = .ok (.getfield 91, 3) := by decide +kernel
theorem dX7_byLevel_277 : decode cX7_byLevel 277 = .ok (.bipush 7, 2) := by decide +kernel
theorem dX7_byLevel_279 : decode cX7_byLevel 279 = .ok (.iload_n 1, 1) := by decide +kernel
theorem dX7_byLevel_280 : decode cX7_byLevel 280 = .ok (.imul, 1) := by decide +kernel
theorem dX7_byLevel_281 : decode cX7_byLevel 281 = .ok (.iload 8, 2) := by decide +kernel
theorem dX7_byLevel_283 : decode cX7_byLevel 283 = .ok (.ifCond .ne 7, 3) := by decide +kernel
theorem dX7_byLevel_286 : decode cX7_byLevel 286 = .ok (.iconst 3, 1) := by decide +kernel
theorem dX7_byLevel_287 : decode cX7_byLevel 287 = .ok (.goto 4, 3) := by decide +kernel
theorem dX7_byLevel_290 : decode cX7_byLevel 290 = .ok (.iconst 2, 1) := by decide +kernel
theorem dX7_byLevel_291 : decode cX7_byLevel 291 = .ok (.iadd, 1) := by decide +kernel
theorem dX7_byLevel_292 : decode cX7_byLevel 292 = .ok (.dup2, 1) := by decide +kernel
theorem dX7_byLevel_293 : decode cX7_byLevel 293 = .ok (.laload, 1) := by decide +kernel
theorem dX7_byLevel_294 : decode cX7_byLevel 294 = .ok (.lload 9, 2) := by decide +kernel
theorem dX7_byLevel_296 : decode cX7_byLevel 296 = .ok (.ladd, 1) := by decide +kernel
theorem dX7_byLevel_297 : decode cX7_byLevel 297 = .ok (.lastore, 1) := by decide +kernel
theorem dX7_byLevel_298 : decode cX7_byLevel 298 = .ok (.return_, 1) := by decide +kernel
theorem dX7_fallsOn_0 : decode cX7_fallsOn 0 = .ok (.aload_n 0, 1) := by decide +kernel
theorem dX7_fallsOn_1 : decode cX7_fallsOn 1 = .ok (.getfield 91, 3) := by decide +kernel
theorem dX7_fallsOn_4 : decode cX7_fallsOn 4 = .ok (.bipush 7, 2) := by decide +kernel
theorem dX7_fallsOn_6 : decode cX7_fallsOn 6 = .ok (.iload_n 1, 1) := by decide +kernel
theorem dX7_fallsOn_7 : decode cX7_fallsOn 7 = .ok (.imul, 1) := by decide +kernel
theorem dX7_fallsOn_8 : decode cX7_fallsOn 8 = .ok (.iload_n 2, 1) := by decide +kernel
theorem dX7_fallsOn_9 : decode cX7_fallsOn 9 = .ok (.iadd, 1) := by decide +kernel
theorem dX7_fallsOn_10 : decode cX7_fallsOn 10 = .ok (.dup2, 1) := by decide +kernel
theorem dX7_fallsOn_11 : decode cX7_fallsOn 11 = .ok (.laload, 1) := by decide +kernel
theorem dX7_fallsOn_12 : decode cX7_fallsOn 12 = .ok (.lload_n 3, 1) := by decide +kernel
theorem dX7_fallsOn_13 : decode cX7_fallsOn 13 = .ok (.ladd, 1) := by decide +kernel
theorem dX7_fallsOn_14 : decode cX7_fallsOn 14 = .ok (.lastore, 1) := by decide +kernel
theorem dX7_fallsOn_15 : decode cX7_fallsOn 15 = .ok (.return_, 1) := by decide +kernel
theorem dX7_splits_0 : decode cX7_splits 0 = .ok (.iconst 0, 1) := by decide +kernel
theorem dX7_splits_1 : decode cX7_splits 1 = .ok (.istore_n 3, 1) := by decide +kernel
theorem dX7_splits_2 : decode cX7_splits 2 = .ok (.iconst 0, 1) := by decide +kernel
theorem dX7_splits_3 : decode cX7_splits 3 = .ok (.istore 4, 2) := by decide +kernel
theorem dX7_splits_5 : decode cX7_splits 5 = .ok (.iload 4, 2) := by decide +kernel
theorem dX7_splits_7 : decode cX7_splits 7 = .ok (.aload_n 0, 1) := by decide +kernel
theorem dX7_splits_8 : decode cX7_splits 8 = .ok (.getfield 48, 3) := by decide +kernel
theorem dX7_splits_11 : decode cX7_splits 11 = .ok (.iload_n 2, 1) := by decide +kernel
theorem dX7_splits_12 : decode cX7_splits 12 = .ok (.iaload, 1) := by decide +kernel
theorem dX7_splits_13 : decode cX7_splits 13 = .ok (.if_icmp .ge 23, 3) := by decide +kernel
theorem dX7_splits_16 : decode cX7_splits 16 = .ok (.iload_n 3, 1) := by decide +kernel
theorem dX7_splits_17 : decode cX7_splits 17 = .ok (.aload_n 0, 1) := by decide +kernel
theorem dX7_splits_18 : decode cX7_splits 18 = .ok (.getfield 54, 3) := by decide +kernel
theorem dX7_splits_21 : decode cX7_splits 21 = .ok (.iconst 4, 1) := by decide +kernel
theorem dX7_splits_22 : decode cX7_splits 22 = .ok (.iload_n 2, 1) := by decide +kernel
theorem dX7_splits_23 : decode cX7_splits 23 = .ok (.imul, 1) := by decide +kernel
theorem dX7_splits_24 : decode cX7_splits 24 = .ok (.iload 4, 2) := by decide +kernel
theorem dX7_splits_26 : decode cX7_splits 26 = .ok (.iadd, 1) := by decide +kernel
theorem dX7_splits_27 : decode cX7_splits 27 = .ok (.iaload, 1) := by decide +kernel
theorem dX7_splits_28 : decode cX7_splits 28 = .ok (.iadd, 1) := by decide +kernel
theorem dX7_splits_29 : decode cX7_splits 29 = .ok (.istore_n 3, 1) := by decide +kernel
theorem dX7_splits_30 : decode cX7_splits 30 = .ok (.iinc 4 1, 3) := by decide +kernel
theorem dX7_splits_33 : decode cX7_splits 33 = .ok (.goto (-28), 3) := by decide +kernel
theorem dX7_splits_36 : decode cX7_splits 36 = .ok (.aload_n 0, 1) := by decide +kernel
theorem dX7_splits_37 : decode cX7_splits 37 = .ok (.getfield 115, 3) := by decide +kernel
theorem dX7_splits_40 : decode cX7_splits 40 = .ok (.iload_n 2, 1) := by decide +kernel
theorem dX7_splits_41 : decode cX7_splits 41 = .ok (.laload, 1) := by decide +kernel
theorem dX7_splits_42 : decode cX7_splits 42 = .ok (.iload_n 3, 1) := by decide +kernel
theorem dX7_splits_43 : decode cX7_splits 43 = .ok (.i2l, 1) := by decide +kernel
theorem dX7_splits_44 : decode cX7_splits 44 = .ok (.lmul, 1) := by decide +kernel
theorem dX7_splits_45 : decode cX7_splits 45 = .ok (.ldc2_w 252, 3) := by decide +kernel
theorem dX7_splits_48 : decode cX7_splits 48 = .ok (.ldiv, 1) := by decide +kernel
theorem dX7_splits_49 : decode cX7_splits 49 = .ok (.lstore 4, 2) := by decide +kernel
theorem dX7_splits_51 : decode cX7_splits 51 = .ok (.lload 4, 2) := by decide +kernel
theorem dX7_splits_53 : decode cX7_splits 53 = .ok (.lstore 6, 2) := by decide +kernel
theorem dX7_splits_55 : decode cX7_splits 55 = .ok (.iconst 0, 1) := by decide +kernel
theorem dX7_splits_56 : decode cX7_splits 56 = .ok (.istore 8, 2) := by decide +kernel
theorem dX7_splits_58 : decode cX7_splits 58 = .ok (.iload 8, 2) := by decide +kernel
theorem dX7_splits_60 : decode cX7_splits 60 = .ok (.aload_n 0, 1) := by decide +kernel
theorem dX7_splits_61 : decode cX7_splits 61 = .ok (.getfield 48, 3) := by decide +kernel
theorem dX7_splits_64 : decode cX7_splits 64 = .ok (.iload_n 2, 1) := by decide +kernel
theorem dX7_splits_65 : decode cX7_splits 65 = .ok (.iaload, 1) := by decide +kernel
theorem dX7_splits_66 : decode cX7_splits 66 = .ok (.if_icmp .ge 37, 3) := by decide +kernel
theorem dX7_splits_69 : decode cX7_splits 69 = .ok (.lload 6, 2) := by decide +kernel
theorem dX7_splits_71 : decode cX7_splits 71 = .ok (.aload_n 0, 1) := by decide +kernel
theorem dX7_splits_72 : decode cX7_splits 72 = .ok (.getfield 115, 3) := by decide +kernel
theorem dX7_splits_75 : decode cX7_splits 75 = .ok (.iload_n 2, 1) := by decide +kernel
theorem dX7_splits_76 : decode cX7_splits 76 = .ok (.laload, 1) := by decide +kernel
theorem dX7_splits_77 : decode cX7_splits 77 = .ok (.aload_n 0, 1) := by decide +kernel
theorem dX7_splits_78 : decode cX7_splits 78 = .ok (.getfield 54, 3) := by decide +kernel
theorem dX7_splits_81 : decode cX7_splits 81 = .ok (.iconst 4, 1) := by decide +kernel
theorem dX7_splits_82 : decode cX7_splits 82 = .ok (.iload_n 2, 1) := by decide +kernel
theorem dX7_splits_83 : decode cX7_splits 83 = .ok (.imul, 1) := by decide +kernel
theorem dX7_splits_84 : decode cX7_splits 84 = .ok (.iload 8, 2) := by decide +kernel
theorem dX7_splits_86 : decode cX7_splits 86 = .ok (.iadd, 1) := by decide +kernel
theorem dX7_splits_87 : decode cX7_splits 87 = .ok (.iaload, 1) := by decide +kernel
theorem dX7_splits_88 : decode cX7_splits 88 = .ok (.i2l, 1) := by decide +kernel
theorem dX7_splits_89 : decode cX7_splits 89 = .ok (.lmul, 1) := by decide +kernel
theorem dX7_splits_90 : decode cX7_splits 90 = .ok (.ldc2_w 252, 3) := by decide +kernel
theorem dX7_splits_93 : decode cX7_splits 93 = .ok (.ldiv, 1) := by decide +kernel
theorem dX7_splits_94 : decode cX7_splits 94 = .ok (.lsub, 1) := by decide +kernel
theorem dX7_splits_95 : decode cX7_splits 95 = .ok (.lstore 6, 2) := by decide +kernel
theorem dX7_splits_97 : decode cX7_splits 97 = .ok (.iinc 8 1, 3) := by decide +kernel
theorem dX7_splits_100 : decode cX7_splits 100 = .ok (.goto (-42), 3) := by decide +kernel
theorem dX7_splits_103 : decode cX7_splits 103 = .ok (.iconst 0, 1) := by decide +kernel
theorem dX7_splits_104 : decode cX7_splits 104 = .ok (.istore 8, 2) := by decide +kernel
theorem dX7_splits_106 : decode cX7_splits 106 = .ok (.iload 8, 2) := by decide +kernel
theorem dX7_splits_108 : decode cX7_splits 108 = .ok (.aload_n 0, 1) := by decide +kernel
theorem dX7_splits_109 : decode cX7_splits 109 = .ok (.getfield 48, 3) := by decide +kernel
theorem dX7_splits_112 : decode cX7_splits 112 = .ok (.iload_n 2, 1) := by decide +kernel
theorem dX7_splits_113 : decode cX7_splits 113 = .ok (.iaload, 1) := by decide +kernel
theorem dX7_splits_114 : decode cX7_splits 114 = .ok (.if_icmp .ge 170, 3) := by decide +kernel
theorem dX7_splits_117 : decode cX7_splits 117 = .ok (.aload_n 0, 1) := by decide +kernel
theorem dX7_splits_118 : decode cX7_splits 118 = .ok (.getfield 115, 3) := by decide +kernel
theorem dX7_splits_121 : decode cX7_splits 121 = .ok (.iload_n 2, 1) := by decide +kernel
theorem dX7_splits_122 : decode cX7_splits 122 = .ok (.laload, 1) := by decide +kernel
theorem dX7_splits_123 : decode cX7_splits 123 = .ok (.aload_n 0, 1) := by decide +kernel
theorem dX7_splits_124 : decode cX7_splits 124 = .ok (.getfield 54, 3) := by decide +kernel
theorem dX7_splits_127 : decode cX7_splits 127 = .ok (.iconst 4, 1) := by decide +kernel
theorem dX7_splits_128 : decode cX7_splits 128 = .ok (.iload_n 2, 1) := by decide +kernel
theorem dX7_splits_129 : decode cX7_splits 129 = .ok (.imul, 1) := by decide +kernel
theorem dX7_splits_130 : decode cX7_splits 130 = .ok (.iload 8, 2) := by decide +kernel
theorem dX7_splits_132 : decode cX7_splits 132 = .ok (.iadd, 1) := by decide +kernel
theorem dX7_splits_133 : decode cX7_splits 133 = .ok (.iaload, 1) := by decide +kernel
theorem dX7_splits_134 : decode cX7_splits 134 = .ok (.i2l, 1) := by decide +kernel
theorem dX7_splits_135 : decode cX7_splits 135 = .ok (.lmul, 1) := by decide +kernel
theorem dX7_splits_136 : decode cX7_splits 136 = .ok (.ldc2_w 252, 3) := by decide +kernel
theorem dX7_splits_139 : decode cX7_splits 139 = .ok (.ldiv, 1) := by decide +kernel
theorem dX7_splits_140 : decode cX7_splits 140 = .ok (.lload 6, 2) := by decide +kernel
theorem dX7_splits_142 : decode cX7_splits 142 = .ok (.lconst 0, 1) := by decide +kernel
theorem dX7_splits_143 : decode cX7_splits 143 = .ok (.lcmp, 1) := by decide +kernel
theorem dX7_splits_144 : decode cX7_splits 144 = .ok (.ifCond .le 7, 3) := by decide +kernel
theorem dX7_splits_147 : decode cX7_splits 147 = .ok (.lconst 1, 1) := by decide +kernel
theorem dX7_splits_148 : decode cX7_splits 148 = .ok (.goto 4, 3) := by decide +kernel
theorem dX7_splits_151 : decode cX7_splits 151 = .ok (.lconst 0, 1) := by decide +kernel
theorem dX7_splits_152 : decode cX7_splits 152 = .ok (.ladd, 1) := by decide +kernel
theorem dX7_splits_153 : decode cX7_splits 153 = .ok (.lstore 9, 2) := by decide +kernel
theorem dX7_splits_155 : decode cX7_splits 155 = .ok (.lload 6, 2) := by decide +kernel
theorem dX7_splits_157 : decode cX7_splits 157 = .ok (.lload 6, 2) := by decide +kernel
theorem dX7_splits_159 : decode cX7_splits 159 = .ok (.lconst 0, 1) := by decide +kernel
theorem dX7_splits_160 : decode cX7_splits 160 = .ok (.lcmp, 1) := by decide +kernel
theorem dX7_splits_161 : decode cX7_splits 161 = .ok (.ifCond .le 7, 3) := by decide +kernel
theorem dX7_splits_164 : decode cX7_splits 164 = .ok (.lconst 1, 1) := by decide +kernel
theorem dX7_splits_165 : decode cX7_splits 165 = .ok (.goto 4, 3) := by decide +kernel
theorem dX7_splits_168 : decode cX7_splits 168 = .ok (.lconst 0, 1) := by decide +kernel
theorem dX7_splits_169 : decode cX7_splits 169 = .ok (.lsub, 1) := by decide +kernel
theorem dX7_splits_170 : decode cX7_splits 170 = .ok (.lstore 6, 2) := by decide +kernel
theorem dX7_splits_172 : decode cX7_splits 172 = .ok (.aload_n 0, 1) := by decide +kernel
theorem dX7_splits_173 : decode cX7_splits 173 = .ok (.getfield 51, 3) := by decide +kernel
theorem dX7_splits_176 : decode cX7_splits 176 = .ok (.iconst 4, 1) := by decide +kernel
theorem dX7_splits_177 : decode cX7_splits 177 = .ok (.iload_n 2, 1) := by decide +kernel
theorem dX7_splits_178 : decode cX7_splits 178 = .ok (.imul, 1) := by decide +kernel
theorem dX7_splits_179 : decode cX7_splits 179 = .ok (.iload 8, 2) := by decide +kernel
theorem dX7_splits_181 : decode cX7_splits 181 = .ok (.iadd, 1) := by decide +kernel
theorem dX7_splits_182 : decode cX7_splits 182 = .ok (.iaload, 1) := by decide +kernel
theorem dX7_splits_183 : decode cX7_splits 183 = .ok (.istore 11, 2) := by decide +kernel
theorem dX7_splits_185 : decode cX7_splits 185 = .ok (.aload_n 0, 1) := by decide +kernel
theorem dX7_splits_186 : decode cX7_splits 186 = .ok (.getfield 85, 3) := by decide +kernel
theorem dX7_splits_189 : decode cX7_splits 189 = .ok (.sipush 160, 3) := by decide +kernel
theorem dX7_splits_192 : decode cX7_splits 192 = .ok (.iload_n 1, 1) := by decide +kernel
theorem dX7_splits_193 : decode cX7_splits 193 = .ok (.imul, 1) := by decide +kernel
theorem dX7_splits_194 : decode cX7_splits 194 = .ok (.iconst 4, 1) := by decide +kernel
theorem dX7_splits_195 : decode cX7_splits 195 = .ok (.iload_n 2, 1) := by decide +kernel
theorem dX7_splits_196 : decode cX7_splits 196 = .ok (.imul, 1) := by decide +kernel
theorem dX7_splits_197 : decode cX7_splits 197 = .ok (.iadd, 1) := by decide +kernel
theorem dX7_splits_198 : decode cX7_splits 198 = .ok (.iload 8, 2) := by decide +kernel
theorem dX7_splits_200 : decode cX7_splits 200 = .ok (.iadd, 1) := by decide +kernel
theorem dX7_splits_201 : decode cX7_splits 201 = .ok (.dup2, 1) := by decide +kernel
theorem dX7_splits_202 : decode cX7_splits 202 = .ok (.iaload, 1) := by decide +kernel
theorem dX7_splits_203 : decode cX7_splits 203 = .ok (.lload 9, 2) := by decide +kernel
theorem dX7_splits_205 : decode cX7_splits 205 = .ok (.l2i, 1) := by decide +kernel
theorem dX7_splits_206 : decode cX7_splits 206 = .ok (.iadd, 1) := by decide +kernel
theorem dX7_splits_207 : decode cX7_splits 207 = .ok (.iastore, 1) := by decide +kernel
theorem dX7_splits_208 : decode cX7_splits 208 = .ok (.iload 11, 2) := by decide +kernel
theorem dX7_splits_210 : decode cX7_splits 210 = .ok (.ifCond .ne 14, 3) := by decide +kernel
theorem dX7_splits_213 : decode cX7_splits 213 = .ok (.aload_n 0, 1) := by decide +kernel
theorem dX7_splits_214 : decode cX7_splits 214 = .ok (.iload_n 1, 1) := by decide +kernel
theorem dX7_splits_215 : decode cX7_splits 215 = .ok (.iconst 0, 1) := by decide +kernel
theorem dX7_splits_216 : decode cX7_splits 216 = .ok (.lload 9, 2) := by decide +kernel
theorem dX7_splits_218 : decode cX7_splits 218 = .ok (.invokevirtual 254, 3) := by decide +kernel
theorem dX7_splits_221 : decode cX7_splits 221 = .ok (.goto 57, 3) := by decide +kernel
theorem dX7_splits_224 : decode cX7_splits 224 = .ok (.aload_n 0, 1) := by decide +kernel
theorem dX7_splits_225 : decode cX7_splits 225 = .ok (.getfield 94, 3) := by decide +kernel
theorem dX7_splits_228 : decode cX7_splits 228 = .ok (.iload 11, 2) := by decide +kernel
theorem dX7_splits_230 : decode cX7_splits 230 = .ok (.iaload, 1) := by decide +kernel
theorem dX7_splits_231 : decode cX7_splits 231 = .ok (.ifCond .ne 23, 3) := by decide +kernel
theorem dX7_splits_234 : decode cX7_splits 234 = .ok (.aload_n 0, 1) := by decide +kernel
theorem dX7_splits_235 : decode cX7_splits 235 = .ok (.getfield 88, 3) := by decide +kernel
theorem dX7_splits_238 : decode cX7_splits 238 = .ok (.bipush 10, 2) := by decide +kernel
theorem dX7_splits_240 : decode cX7_splits 240 = .ok (.iload_n 1, 1) := by decide +kernel
theorem dX7_splits_241 : decode cX7_splits 241 = .ok (.imul, 1) := by decide +kernel
theorem dX7_splits_242 : decode cX7_splits 242 = .ok (.iload 11, 2) := by decide +kernel
theorem dX7_splits_244 : decode cX7_splits 244 = .ok (.iadd, 1) := by decide +kernel
theorem dX7_splits_245 : decode cX7_splits 245 = .ok (.dup2, 1) := by decide +kernel
theorem dX7_splits_246 : decode cX7_splits 246 = .ok (.laload, 1) := by decide +kernel
theorem dX7_splits_247 : decode cX7_splits 247 = .ok (.lload 9, 2) := by decide +kernel
theorem dX7_splits_249 : decode cX7_splits 249 = .ok (.ladd, 1) := by decide +kernel
theorem dX7_splits_250 : decode cX7_splits 250 = .ok (.lastore, 1) := by decide +kernel
theorem dX7_splits_251 : decode cX7_splits 251 = .ok (.goto 27, 3) := by decide +kernel
theorem dX7_splits_254 : decode cX7_splits 254 = .ok (.aload_n 0, 1) := by decide +kernel
theorem dX7_splits_255 : decode cX7_splits 255 = .ok (.iload_n 1, 1) := by decide +kernel
theorem dX7_splits_256 : decode cX7_splits 256 = .ok (.aload_n 0, 1) := by decide +kernel
theorem dX7_splits_257 : decode cX7_splits 257 = .ok (.getfield 94, 3) := by decide +kernel
theorem dX7_splits_260 : decode cX7_splits 260 = .ok (.iload 11, 2) := by decide +kernel
theorem dX7_splits_262 : decode cX7_splits 262 = .ok (.iaload, 1) := by decide +kernel
theorem dX7_splits_263 : decode cX7_splits 263 = .ok (.iconst 1, 1) := by decide +kernel
theorem dX7_splits_264 : decode cX7_splits 264 = .ok (.if_icmp .ne 7, 3) := by decide +kernel
theorem dX7_splits_267 : decode cX7_splits 267 = .ok (.iconst 5, 1) := by decide +kernel
theorem dX7_splits_268 : decode cX7_splits 268 = .ok (.goto 5, 3) := by decide +kernel
theorem dX7_splits_271 : decode cX7_splits 271 = .ok (.bipush 6, 2) := by decide +kernel
theorem dX7_splits_273 : decode cX7_splits 273 = .ok (.lload 9, 2) := by decide +kernel
theorem dX7_splits_275 : decode cX7_splits 275 = .ok (.invokevirtual 254, 3) := by decide +kernel
theorem dX7_splits_278 : decode cX7_splits 278 = .ok (.iinc 8 1, 3) := by decide +kernel
theorem dX7_splits_281 : decode cX7_splits 281 = .ok (.goto (-175), 3) := by decide +kernel
theorem dX7_splits_284 : decode cX7_splits 284 = .ok (.aload_n 0, 1) := by decide +kernel
theorem dX7_splits_285 : decode cX7_splits 285 = .ok (.iload_n 1, 1) := by decide +kernel
theorem dX7_splits_286 : decode cX7_splits 286 = .ok (.iconst 4, 1) := by decide +kernel
theorem dX7_splits_287 : decode cX7_splits 287 = .ok (.aload_n 0, 1) := by decide +kernel
theorem dX7_splits_288 : decode cX7_splits 288 = .ok (.getfield 115, 3) := by decide +kernel
theorem dX7_splits_291 : decode cX7_splits 291 = .ok (.iload_n 2, 1) := by decide +kernel
theorem dX7_splits_292 : decode cX7_splits 292 = .ok (.laload, 1) := by decide +kernel
theorem dX7_splits_293 : decode cX7_splits 293 = .ok (.lload 4, 2) := by decide +kernel
theorem dX7_splits_295 : decode cX7_splits 295 = .ok (.lsub, 1) := by decide +kernel
theorem dX7_splits_296 : decode cX7_splits 296 = .ok (.invokevirtual 254, 3) := by decide +kernel
theorem dX7_splits_299 : decode cX7_splits 299 = .ok (.return_, 1) := by decide +kernel
theorem dX7_spreads_0 : decode cX7_spreads 0 = .ok (.iconst 0, 1) := by decide +kernel
theorem dX7_spreads_1 : decode cX7_spreads 1 = .ok (.istore 4, 2) := by decide +kernel
theorem dX7_spreads_3 : decode cX7_spreads 3 = .ok (.iload 4, 2) := by decide +kernel
theorem dX7_spreads_5 : decode cX7_spreads 5 = .ok (.bipush 40, 2) := by decide +kernel
theorem dX7_spreads_7 : decode cX7_spreads 7 = .ok (.if_icmp .ge 17, 3) := by decide +kernel
theorem dX7_spreads_10 : decode cX7_spreads 10 = .ok (.aload_n 0, 1) := by decide +kernel
theorem dX7_spreads_11 : decode cX7_spreads 11 = .ok (.getfield 115, 3) := by decide +kernel
theorem dX7_spreads_14 : decode cX7_spreads 14 = .ok (.iload 4, 2) := by decide +kernel
theorem dX7_spreads_16 : decode cX7_spreads 16 = .ok (.lconst 0, 1) := by decide +kernel
theorem dX7_spreads_17 : decode cX7_spreads 17 = .ok (.lastore, 1) := by decide +kernel
theorem dX7_spreads_18 : decode cX7_spreads 18 = .ok (.iinc 4 1, 3) := by decide +kernel
theorem dX7_spreads_21 : decode cX7_spreads 21 = .ok (.goto (-18), 3) := by decide +kernel
theorem dX7_spreads_24 : decode cX7_spreads 24 = .ok (.aload_n 0, 1) := by decide +kernel
theorem dX7_spreads_25 : decode cX7_spreads 25 = .ok (.getfield 155, 3) := by decide +kernel
theorem dX7_spreads_28 : decode cX7_spreads 28 = .ok (.iconst 2, 1) := by decide +kernel
theorem dX7_spreads_29 : decode cX7_spreads 29 = .ok (.if_icmp .ne 23, 3) := by decide +kernel
theorem dX7_spreads_32 : decode cX7_spreads 32 = .ok (.aload_n 0, 1) := by decide +kernel
theorem dX7_spreads_33 : decode cX7_spreads 33 = .ok (.iload_n 1, 1) := by decide +kernel
theorem dX7_spreads_34 : decode cX7_spreads 34 = .ok (.lload_n 2, 1) := by decide +kernel
theorem dX7_spreads_35 : decode cX7_spreads 35 = .ok (.invokevirtual 258, 3) := by decide +kernel
theorem dX7_spreads_38 : decode cX7_spreads 38 = .ok (.aload_n 0, 1) := by decide +kernel
theorem dX7_spreads_39 : decode cX7_spreads 39 = .ok (.iload_n 1, 1) := by decide +kernel
theorem dX7_spreads_40 : decode cX7_spreads 40 = .ok (.lload_n 2, 1) := by decide +kernel
theorem dX7_spreads_41 : decode cX7_spreads 41 = .ok (.invokevirtual 261, 3) := by decide +kernel
theorem dX7_spreads_44 : decode cX7_spreads 44 = .ok (.aload_n 0, 1) := by decide +kernel
theorem dX7_spreads_45 : decode cX7_spreads 45 = .ok (.iload_n 1, 1) := by decide +kernel
theorem dX7_spreads_46 : decode cX7_spreads 46 = .ok (.invokevirtual 264, 3) := by decide +kernel
theorem dX7_spreads_49 : decode cX7_spreads 49 = .ok (.goto 46, 3) := by decide +kernel
theorem dX7_spreads_52 : decode cX7_spreads 52 = .ok (.aload_n 0, 1) := by decide +kernel
theorem dX7_spreads_53 : decode cX7_spreads 53 = .ok (.getfield 155, 3) := by decide +kernel
theorem dX7_spreads_56 : decode cX7_spreads 56 = .ok (.iconst 3, 1) := by decide +kernel
theorem dX7_spreads_57 : decode cX7_spreads 57 = .ok (.if_icmp .ne 12, 3) := by decide +kernel
theorem dX7_spreads_60 : decode cX7_spreads 60 = .ok (.aload_n 0, 1) := by decide +kernel
theorem dX7_spreads_61 : decode cX7_spreads 61 = .ok (.iload_n 1, 1) := by decide +kernel
theorem dX7_spreads_62 : decode cX7_spreads 62 = .ok (.lload_n 2, 1) := by decide +kernel
theorem dX7_spreads_63 : decode cX7_spreads 63 = .ok (.invokevirtual 267, 3) := by decide +kernel
theorem dX7_spreads_66 : decode cX7_spreads 66 = .ok (.goto 29, 3) := by decide +kernel
theorem dX7_spreads_69 : decode cX7_spreads 69 = .ok (.aload_n 0, 1) := by decide +kernel
theorem dX7_spreads_70 : decode cX7_spreads 70 = .ok (.getfield 155, 3) := by decide +kernel
theorem dX7_spreads_73 : decode cX7_spreads 73 = .ok (.ifCond .ne 11, 3) := by decide +kernel
theorem dX7_spreads_76 : decode cX7_spreads 76 = .ok (.aload_n 0, 1) := by decide +kernel
theorem dX7_spreads_77 : decode cX7_spreads 77 = .ok (.iload_n 1, 1) := by decide +kernel
theorem dX7_spreads_78 : decode cX7_spreads 78 = .ok (.invokevirtual 231, 3) := by decide +kernel
theorem dX7_spreads_81 : decode cX7_spreads 81 = .ok (.goto 8, 3) := by decide +kernel
theorem dX7_spreads_84 : decode cX7_spreads 84 = .ok (.aload_n 0, 1) := by decide +kernel
theorem dX7_spreads_85 : decode cX7_spreads 85 = .ok (.iload_n 1, 1) := by decide +kernel
theorem dX7_spreads_86 : decode cX7_spreads 86 = .ok (.invokevirtual 270, 3) := by decide +kernel
theorem dX7_spreads_89 : decode cX7_spreads 89 = .ok (.aload_n 0, 1) := by decide +kernel
theorem dX7_spreads_90 : decode cX7_spreads 90 = .ok (.iload_n 1, 1) := by decide +kernel
theorem dX7_spreads_91 : decode cX7_spreads 91 = .ok (.lload_n 2, 1) := by decide +kernel
theorem dX7_spreads_92 : decode cX7_spreads 92 = .ok (.invokevirtual 234, 3) := by decide +kernel
theorem dX7_spreads_95 : decode cX7_spreads 95 = .ok (.iconst 0, 1) := by decide +kernel
theorem dX7_spreads_96 : decode cX7_spreads 96 = .ok (.istore 4, 2) := by decide +kernel
theorem dX7_spreads_98 : decode cX7_spreads 98 = .ok (.iload 4, 2) := by decide +kernel
theorem dX7_spreads_100 : decode cX7_spreads 100 = .ok (.bipush 40, 2) := by decide +kernel
theorem dX7_spreads_102 : decode cX7_spreads 102 = .ok (.if_icmp .ge 28, 3) := by decide +kernel
theorem dX7_spreads_105 : decode cX7_spreads 105 = .ok (.aload_n 0, 1) := by decide +kernel
theorem dX7_spreads_106 : decode cX7_spreads 106 = .ok (.getfield 115, 3) := by decide +kernel
theorem dX7_spreads_109 : decode cX7_spreads 109 = .ok (.iload 4, 2) := by decide +kernel
theorem dX7_spreads_111 : decode cX7_spreads 111 = .ok (.laload, 1) := by decide +kernel
theorem dX7_spreads_112 : decode cX7_spreads 112 = .ok (.lconst 0, 1) := by decide +kernel
theorem dX7_spreads_113 : decode cX7_spreads 113 = .ok (.lcmp, 1) := by decide +kernel
theorem dX7_spreads_114 : decode cX7_spreads 114 = .ok (.ifCond .le 10, 3) := by decide +kernel
theorem dX7_spreads_117 : decode cX7_spreads 117 = .ok (.aload_n 0, 1) := by decide +kernel
theorem dX7_spreads_118 : decode cX7_spreads 118 = .ok (.iload_n 1, 1) := by decide +kernel
theorem dX7_spreads_119 : decode cX7_spreads 119 = .ok (.iload 4, 2) := by decide +kernel
theorem dX7_spreads_121 : decode cX7_spreads 121 = .ok (.invokevirtual 273, 3) := by decide +kernel
theorem dX7_spreads_124 : decode cX7_spreads 124 = .ok (.iinc 4 1, 3) := by decide +kernel
theorem dX7_spreads_127 : decode cX7_spreads 127 = .ok (.goto (-29), 3) := by decide +kernel
theorem dX7_spreads_130 : decode cX7_spreads 130 = .ok (.return_, 1) := by decide +kernel
theorem dX7_insuredOf_0 : decode cX7_insuredOf 0 = .ok (.lconst 0, 1) := by decide +kernel
theorem dX7_insuredOf_1 : decode cX7_insuredOf 1 = .ok (.lstore_n 2, 1) := by decide +kernel
theorem dX7_insuredOf_2 : decode cX7_insuredOf 2 = .ok (.iconst 0, 1) := by decide +kernel
theorem dX7_insuredOf_3 : decode cX7_insuredOf 3 = .ok (.istore 4, 2) := by decide +kernel
theorem dX7_insuredOf_5 : decode cX7_insuredOf 5 = .ok (.iload 4, 2) := by decide +kernel
theorem dX7_insuredOf_7 : decode cX7_insuredOf 7 = .ok (.bipush 7, 2) := by decide +kernel
theorem dX7_insuredOf_9 : decode cX7_insuredOf 9 = .ok (.if_icmp .ge 24, 3) := by decide +kernel
theorem dX7_insuredOf_12 : decode cX7_insuredOf 12 = .ok (.lload_n 2, 1) := by decide +kernel
theorem dX7_insuredOf_13 : decode cX7_insuredOf 13 = .ok (.aload_n 0, 1) := by decide +kernel
theorem dX7_insuredOf_14 : decode cX7_insuredOf 14 = .ok (.getfield 91, 3) := by decide +kernel
theorem dX7_insuredOf_17 : decode cX7_insuredOf 17 = .ok (.bipush 7, 2) := by decide +kernel
theorem dX7_insuredOf_19 : decode cX7_insuredOf 19 = .ok (.iload_n 1, 1) := by decide +kernel
theorem dX7_insuredOf_20 : decode cX7_insuredOf 20 = .ok (.imul, 1) := by decide +kernel
theorem dX7_insuredOf_21 : decode cX7_insuredOf 21 = .ok (.iload 4, 2) := by decide +kernel
theorem dX7_insuredOf_23 : decode cX7_insuredOf 23 = .ok (.iadd, 1) := by decide +kernel
theorem dX7_insuredOf_24 : decode cX7_insuredOf 24 = .ok (.laload, 1) := by decide +kernel
theorem dX7_insuredOf_25 : decode cX7_insuredOf 25 = .ok (.ladd, 1) := by decide +kernel
theorem dX7_insuredOf_26 : decode cX7_insuredOf 26 = .ok (.lstore_n 2, 1) := by decide +kernel
theorem dX7_insuredOf_27 : decode cX7_insuredOf 27 = .ok (.iinc 4 1, 3) := by decide +kernel
theorem dX7_insuredOf_30 : decode cX7_insuredOf 30 = .ok (.goto (-25), 3) := by decide +kernel
theorem dX7_insuredOf_33 : decode cX7_insuredOf 33 = .ok (.lload_n 2, 1) := by decide +kernel
theorem dX7_insuredOf_34 : decode cX7_insuredOf 34 = .ok (.lreturn, 1) := by decide +kernel
theorem dX7_bearsOf_0 : decode cX7_bearsOf 0 = .ok (.iload_n 2, 1) := by decide +kernel
theorem dX7_bearsOf_1 : decode cX7_bearsOf 1 = .ok (.ifCond .ne 11, 3) := by decide +kernel
theorem dX7_bearsOf_4 : decode cX7_bearsOf 4 = .ok (.aload_n 0, 1) := by decide +kernel
theorem dX7_bearsOf_5 : decode cX7_bearsOf 5 = .ok (.iload_n 1, 1) := by decide +kernel
theorem dX7_bearsOf_6 : decode cX7_bearsOf 6 = .ok (.invokevirtual 277, 3) := by decide +kernel
theorem dX7_bearsOf_9 : decode cX7_bearsOf 9 = .ok (.goto 14, 3) := by decide +kernel
theorem dX7_bearsOf_12 : decode cX7_bearsOf 12 = .ok (.aload_n 0, 1) := by decide +kernel
theorem dX7_bearsOf_13 : decode cX7_bearsOf 13 = .ok (.getfield 88, 3) := by decide +kernel
theorem dX7_bearsOf_16 : decode cX7_bearsOf 16 = .ok (.bipush 10, 2) := by decide +kernel
theorem dX7_bearsOf_18 : decode cX7_bearsOf 18 = .ok (.iload_n 1, 1) := by decide +kernel
theorem dX7_bearsOf_19 : decode cX7_bearsOf 19 = .ok (.imul, 1) := by decide +kernel
theorem dX7_bearsOf_20 : decode cX7_bearsOf 20 = .ok (.iload_n 2, 1) := by decide +kernel
theorem dX7_bearsOf_21 : decode cX7_bearsOf 21 = .ok (.iadd, 1) := by decide +kernel
theorem dX7_bearsOf_22 : decode cX7_bearsOf 22 = .ok (.laload, 1) := by decide +kernel
theorem dX7_bearsOf_23 : decode cX7_bearsOf 23 = .ok (.lreturn, 1) := by decide +kernel
theorem dX7_bearsAll_0 : decode cX7_bearsAll 0 = .ok (.lconst 0, 1) := by decide +kernel
theorem dX7_bearsAll_1 : decode cX7_bearsAll 1 = .ok (.lstore_n 2, 1) := by decide +kernel
theorem dX7_bearsAll_2 : decode cX7_bearsAll 2 = .ok (.iconst 0, 1) := by decide +kernel
theorem dX7_bearsAll_3 : decode cX7_bearsAll 3 = .ok (.istore 4, 2) := by decide +kernel
theorem dX7_bearsAll_5 : decode cX7_bearsAll 5 = .ok (.iload 4, 2) := by decide +kernel
theorem dX7_bearsAll_7 : decode cX7_bearsAll 7 = .ok (.bipush 24, 2) := by decide +kernel
theorem dX7_bearsAll_9 : decode cX7_bearsAll 9 = .ok (.if_icmp .ge 33, 3) := by decide +kernel
theorem dX7_bearsAll_12 : decode cX7_bearsAll 12 = .ok (.lload_n 2, 1) := by decide +kernel
theorem dX7_bearsAll_13 : decode cX7_bearsAll 13 = .ok (.aload_n 0, 1) := by decide +kernel
theorem dX7_bearsAll_14 : decode cX7_bearsAll 14 = .ok (.getfield 33, 3) := by decide +kernel
theorem dX7_bearsAll_17 : decode cX7_bearsAll 17 = .ok (.iload 4, 2) := by decide +kernel
theorem dX7_bearsAll_19 : decode cX7_bearsAll 19 = .ok (.baload, 1) := by decide +kernel
theorem dX7_bearsAll_20 : decode cX7_bearsAll 20 = .ok (.ifCond .eq 13, 3) := by decide +kernel
theorem dX7_bearsAll_23 : decode cX7_bearsAll 23 = .ok (.aload_n 0, 1) := by decide +kernel
theorem dX7_bearsAll_24 : decode cX7_bearsAll 24 = .ok (.iload 4, 2) := by decide +kernel
theorem dX7_bearsAll_26 : decode cX7_bearsAll 26 = .ok (.iload_n 1, 1) := by decide +kernel
theorem dX7_bearsAll_27 : decode cX7_bearsAll 27 = .ok (.invokevirtual 280, 3) := by decide +kernel
theorem dX7_bearsAll_30 : decode cX7_bearsAll 30 = .ok (.goto 4, 3) := by decide +kernel
theorem dX7_bearsAll_33 : decode cX7_bearsAll 33 = .ok (.lconst 0, 1) := by decide +kernel
theorem dX7_bearsAll_34 : decode cX7_bearsAll 34 = .ok (.ladd, 1) := by decide +kernel
theorem dX7_bearsAll_35 : decode cX7_bearsAll 35 = .ok (.lstore_n 2, 1) := by decide +kernel
theorem dX7_bearsAll_36 : decode cX7_bearsAll 36 = .ok (.iinc 4 1, 3) := by decide +kernel
theorem dX7_bearsAll_39 : decode cX7_bearsAll 39 = .ok (.goto (-34), 3) := by decide +kernel
theorem dX7_bearsAll_42 : decode cX7_bearsAll 42 = .ok (.lload_n 2, 1) := by decide +kernel
theorem dX7_bearsAll_43 : decode cX7_bearsAll 43 = .ok (.lreturn, 1) := by decide +kernel
theorem dX7_canPlace_0 : decode cX7_canPlace 0 = .ok (.aload_n 0, 1) := by decide +kernel
theorem dX7_canPlace_1 : decode cX7_canPlace 1 = .ok (.iload_n 1, 1) := by decide +kernel
theorem dX7_canPlace_2 : decode cX7_canPlace 2 = .ok (.invokevirtual 201, 3) := by decide +kernel
theorem dX7_canPlace_5 : decode cX7_canPlace 5 = .ok (.ifCond .ne 13, 3) := by decide +kernel
theorem dX7_canPlace_8 : decode cX7_canPlace 8 = .ok (.aload_n 0, 1) := by decide +kernel
theorem dX7_canPlace_9 : decode cX7_canPlace 9 = .ok (.iload_n 1, 1) := by decide +kernel
theorem dX7_canPlace_10 : decode cX7_canPlace 10 = .ok (.invokevirtual 169, 3) := by decide +kernel
theorem dX7_canPlace_13 : decode cX7_canPlace 13 = .ok (.bipush 6, 2) := by decide +kernel
theorem dX7_canPlace_15 : decode cX7_canPlace 15 = .ok (.if_icmp .ne 5, 3) := by decide +kernel
theorem dX7_canPlace_18 : decode cX7_canPlace 18 = .ok (.iconst 0, 1) := by decide +kernel
theorem dX7_canPlace_19 : decode cX7_canPlace 19 = .ok (.ireturn, 1) := by decide +kernel
theorem dX7_canPlace_20 : decode cX7_canPlace 20 = .ok (.iconst 0, 1) := by decide +kernel
theorem dX7_canPlace_21 : decode cX7_canPlace 21 = .ok (.istore 4, 2) := by decide +kernel
theorem dX7_canPlace_23 : decode cX7_canPlace 23 = .ok (.iload 4, 2) := by decide +kernel
theorem dX7_canPlace_25 : decode cX7_canPlace 25 = .ok (.bipush 40, 2) := by decide +kernel
theorem dX7_canPlace_27 : decode cX7_canPlace 27 = .ok (.if_icmp .ge 44, 3) := by decide +kernel
theorem dX7_canPlace_30 : decode cX7_canPlace 30 = .ok (.aload_n 0, 1) := by decide +kernel
theorem dX7_canPlace_31 : decode cX7_canPlace 31 = .ok (.iload 4, 2) := by decide +kernel
theorem dX7_canPlace_33 : decode cX7_canPlace 33 = .ok (.iload_n 1, 1) := by decide +kernel
theorem dX7_canPlace_34 : decode cX7_canPlace 34 = .ok (.invokevirtual 283, 3) := by decide +kernel
theorem dX7_canPlace_37 : decode cX7_canPlace 37 = .ok (.ifCond .eq 28, 3) := by decide +kernel
theorem dX7_canPlace_40 : decode cX7_canPlace 40 = .ok (.iload_n 2, 1) := by decide +kernel
theorem dX7_canPlace_41 : decode cX7_canPlace 41 = .ok (.aload_n 0, 1) := by decide +kernel
theorem dX7_canPlace_42 : decode cX7_canPlace 42 = .ok (.iload 4, 2) := by decide +kernel
theorem dX7_canPlace_44 : decode cX7_canPlace 44 = .ok (.invokevirtual 165, 3) := by decide +kernel
theorem dX7_canPlace_47 : decode cX7_canPlace 47 = .ok (.if_icmp .ge 18, 3) := by decide +kernel
theorem dX7_canPlace_50 : decode cX7_canPlace 50 = .ok (.aload_n 0, 1) := by decide +kernel
theorem dX7_canPlace_51 : decode cX7_canPlace 51 = .ok (.getfield 39, 3) := by decide +kernel
theorem dX7_canPlace_54 : decode cX7_canPlace 54 = .ok (.iload 4, 2) := by decide +kernel
theorem dX7_canPlace_56 : decode cX7_canPlace 56 = .ok (.iaload, 1) := by decide +kernel
theorem dX7_canPlace_57 : decode cX7_canPlace 57 = .ok (.iload_n 2, 1) := by decide +kernel
theorem dX7_canPlace_58 : decode cX7_canPlace 58 = .ok (.iload_n 3, 1) := by decide +kernel
theorem dX7_canPlace_59 : decode cX7_canPlace 59 = .ok (.iadd, 1) := by decide +kernel
theorem dX7_canPlace_60 : decode cX7_canPlace 60 = .ok (.if_icmp .ge 5, 3) := by decide +kernel
theorem dX7_canPlace_63 : decode cX7_canPlace 63 = .ok (.iconst 0, 1) := by decide +kernel
theorem dX7_canPlace_64 : decode cX7_canPlace 64 = .ok (.ireturn, 1) := by decide +kernel
theorem dX7_canPlace_65 : decode cX7_canPlace 65 = .ok (.iinc 4 1, 3) := by decide +kernel
theorem dX7_canPlace_68 : decode cX7_canPlace 68 = .ok (.goto (-45), 3) := by decide +kernel
theorem dX7_canPlace_71 : decode cX7_canPlace 71 = .ok (.iconst 1, 1) := by decide +kernel
theorem dX7_canPlace_72 : decode cX7_canPlace 72 = .ok (.ireturn, 1) := by decide +kernel
theorem dX7_signedTenths_0 : decode cX7_signedTenths 0 = .ok (.iconst 0, 1) := by decide +kernel
theorem dX7_signedTenths_1 : decode cX7_signedTenths 1 = .ok (.istore_n 2, 1) := by decide +kernel
theorem dX7_signedTenths_2 : decode cX7_signedTenths 2 = .ok (.iconst 0, 1) := by decide +kernel
theorem dX7_signedTenths_3 : decode cX7_signedTenths 3 = .ok (.istore_n 3, 1) := by decide +kernel
theorem dX7_signedTenths_4 : decode cX7_signedTenths 4 = .ok (.iload_n 3, 1) := by decide +kernel
theorem dX7_signedTenths_5 : decode cX7_signedTenths 5 = .ok (.aload_n 0, 1) := by decide +kernel
theorem dX7_signedTenths_6 : decode cX7_signedTenths 6 = .ok (.getfield 48, 3) := by decide +kernel
theorem dX7_signedTenths_9 : decode cX7_signedTenths 9 = .ok (.iload_n 1, 1) := by decide +kernel
theorem dX7_signedTenths_10 : decode cX7_signedTenths 10 = .ok (.iaload, 1) := by decide +kernel
theorem dX7_signedTenths_11 : decode cX7_signedTenths 11 = .ok (.if_icmp .ge 22, 3) := by decide +kernel
theorem dX7_signedTenths_14 : decode cX7_signedTenths 14 = .ok (.iload_n 2, 1) := by decide +kernel
theorem dX7_signedTenths_15 : decode cX7_signedTenths 15 = .ok (.aload_n 0, 1) := by decide +kernel
theorem dX7_signedTenths_16 : decode cX7_signedTenths 16 = .ok (.getfield 54, 3) := by decide +kernel
theorem dX7_signedTenths_19 : decode cX7_signedTenths 19 = .ok (.iconst 4, 1) := by decide +kernel
theorem dX7_signedTenths_20 : decode cX7_signedTenths 20 = .ok (.iload_n 1, 1) := by decide +kernel
theorem dX7_signedTenths_21 : decode cX7_signedTenths 21 = .ok (.imul, 1) := by decide +kernel
theorem dX7_signedTenths_22 : decode cX7_signedTenths 22 = .ok (.iload_n 3, 1) := by decide +kernel
theorem dX7_signedTenths_23 : decode cX7_signedTenths 23 = .ok (.iadd, 1) := by decide +kernel
theorem dX7_signedTenths_24 : decode cX7_signedTenths 24 = .ok (.iaload, 1) := by decide +kernel
theorem dX7_signedTenths_25 : decode cX7_signedTenths 25 = .ok (.iadd, 1) := by decide +kernel
theorem dX7_signedTenths_26 : decode cX7_signedTenths 26 = .ok (.istore_n 2, 1) := by decide +kernel
theorem dX7_signedTenths_27 : decode cX7_signedTenths 27 = .ok (.iinc 3 1, 3) := by decide +kernel
theorem dX7_signedTenths_30 : decode cX7_signedTenths 30 = .ok (.goto (-26), 3) := by decide +kernel
theorem dX7_signedTenths_33 : decode cX7_signedTenths 33 = .ok (.iload_n 2, 1) := by decide +kernel
theorem dX7_signedTenths_34 : decode cX7_signedTenths 34 = .ok (.ireturn, 1) := by decide +kernel
theorem dX7_canSign_0 : decode cX7_canSign 0 = .ok (.aload_n 0, 1) := by decide +kernel
theorem dX7_canSign_1 : decode cX7_canSign 1 = .ok (.getfield 29, 3) := by decide +kernel
theorem dX7_canSign_4 : decode cX7_canSign 4 = .ok (.iload_n 1, 1) := by decide +kernel
theorem dX7_canSign_5 : decode cX7_canSign 5 = .ok (.baload, 1) := by decide +kernel
theorem dX7_canSign_6 : decode cX7_canSign 6 = .ok (.ifCond .eq 36, 3) := by decide +kernel
theorem dX7_canSign_9 : decode cX7_canSign 9 = .ok (.aload_n 0, 1) := by decide +kernel
theorem dX7_canSign_10 : decode cX7_canSign 10 = .ok (.getfield 48, 3) := by decide +kernel
theorem dX7_canSign_13 : decode cX7_canSign 13 = .ok (.iload_n 1, 1) := by decide +kernel
theorem dX7_canSign_14 : decode cX7_canSign 14 = .ok (.iaload, 1) := by decide +kernel
theorem dX7_canSign_15 : decode cX7_canSign 15 = .ok (.iconst 4, 1) := by decide +kernel
theorem dX7_canSign_16 : decode cX7_canSign 16 = .ok (.if_icmp .eq 26, 3) := by decide +kernel
theorem dX7_canSign_19 : decode cX7_canSign 19 = .ok (.aload_n 0, 1) := by decide +kernel
theorem dX7_canSign_20 : decode cX7_canSign 20 = .ok (.iload_n 1, 1) := by decide +kernel
theorem dX7_canSign_21 : decode cX7_canSign 21 = .ok (.invokevirtual 286, 3) := by decide +kernel
theorem dX7_canSign_24 : decode cX7_canSign 24 = .ok (.iload_n 3, 1) := by decide +kernel
theorem dX7_canSign_25 : decode cX7_canSign 25 = .ok (.iadd, 1) := by decide +kernel
theorem dX7_canSign_26 : decode cX7_canSign 26 = .ok (.bipush 10, 2) := by decide +kernel
theorem dX7_canSign_28 : decode cX7_canSign 28 = .ok (.if_icmp .gt 14, 3) := by decide +kernel
theorem dX7_canSign_31 : decode cX7_canSign 31 = .ok (.aload_n 0, 1) := by decide +kernel
theorem dX7_canSign_32 : decode cX7_canSign 32 = .ok (.getfield 57, 3) := by decide +kernel
theorem dX7_canSign_35 : decode cX7_canSign 35 = .ok (.iload_n 1, 1) := by decide +kernel
theorem dX7_canSign_36 : decode cX7_canSign 36 = .ok (.laload, 1) := by decide +kernel
theorem dX7_canSign_37 : decode cX7_canSign 37 = .ok (.lconst 0, 1) := by decide +kernel
theorem dX7_canSign_38 : decode cX7_canSign 38 = .ok (.lcmp, 1) := by decide +kernel
theorem dX7_canSign_39 : decode cX7_canSign 39 = .ok (.ifCond .le 5, 3) := by decide +kernel
theorem dX7_canSign_42 : decode cX7_canSign 42 = .ok (.iconst 0, 1) := by decide +kernel
theorem dX7_canSign_43 : decode cX7_canSign 43 = .ok (.ireturn, 1) := by decide +kernel
theorem dX7_canSign_44 : decode cX7_canSign 44 = .ok (.iconst 0, 1) := by decide +kernel
theorem dX7_canSign_45 : decode cX7_canSign 45 = .ok (.istore 4, 2) := by decide +kernel
theorem dX7_canSign_47 : decode cX7_canSign 47 = .ok (.iload 4, 2) := by decide +kernel
theorem dX7_canSign_49 : decode cX7_canSign 49 = .ok (.aload_n 0, 1) := by decide +kernel
theorem dX7_canSign_50 : decode cX7_canSign 50 = .ok (.getfield 48, 3) := by decide +kernel
theorem dX7_canSign_53 : decode cX7_canSign 53 = .ok (.iload_n 1, 1) := by decide +kernel
theorem dX7_canSign_54 : decode cX7_canSign 54 = .ok (.iaload, 1) := by decide +kernel
theorem dX7_canSign_55 : decode cX7_canSign 55 = .ok (.if_icmp .ge 26, 3) := by decide +kernel
theorem dX7_canSign_58 : decode cX7_canSign 58 = .ok (.aload_n 0, 1) := by decide +kernel
theorem dX7_canSign_59 : decode cX7_canSign 59 = .ok (.getfield 51, 3) := by decide +kernel
theorem dX7_canSign_62 : decode cX7_canSign 62 = .ok (.iconst 4, 1) := by decide +kernel
theorem dX7_canSign_63 : decode cX7_canSign 63 = .ok (.iload_n 1, 1) := by decide +kernel
theorem dX7_canSign_64 : decode cX7_canSign 64 = .ok (.imul, 1) := by decide +kernel
theorem dX7_canSign_65 : decode cX7_canSign 65 = .ok (.iload 4, 2) := by decide +kernel
theorem dX7_canSign_67 : decode cX7_canSign 67 = .ok (.iadd, 1) := by decide +kernel
theorem dX7_canSign_68 : decode cX7_canSign 68 = .ok (.iaload, 1) := by decide +kernel
theorem dX7_canSign_69 : decode cX7_canSign 69 = .ok (.iload_n 2, 1) := by decide +kernel
theorem dX7_canSign_70 : decode cX7_canSign 70 = .ok (.if_icmp .ne 5, 3) := by decide +kernel
theorem dX7_canSign_73 : decode cX7_canSign 73 = .ok (.iconst 0, 1) := by decide +kernel
theorem dX7_canSign_74 : decode cX7_canSign 74 = .ok (.ireturn, 1) := by decide +kernel
theorem dX7_canSign_75 : decode cX7_canSign 75 = .ok (.iinc 4 1, 3) := by decide +kernel
theorem dX7_canSign_78 : decode cX7_canSign 78 = .ok (.goto (-31), 3) := by decide +kernel
theorem dX7_canSign_81 : decode cX7_canSign 81 = .ok (.iconst 1, 1) := by decide +kernel
theorem dX7_canSign_82 : decode cX7_canSign 82 = .ok (.ireturn, 1) := by decide +kernel
theorem dX7_can_0 : decode cX7_can 0 = .ok (.aload_n 0, 1) := by decide +kernel
theorem dX7_can_1 : decode cX7_can 1 = .ok (.getfield 14, 3) := by decide +kernel
theorem dX7_can_4 : decode cX7_can 4 = .ok (.iload_n 1, 1) := by decide +kernel
theorem dX7_can_5 : decode cX7_can 5 = .ok (.iaload, 1) := by decide +kernel
theorem dX7_can_6 : decode cX7_can 6 = .ok (.tableswitch 160 0 8 #[50, 73, 96, 160, 160, 128, 140, 140, 128], 50) := by decide +kernel
theorem dX7_can_56 : decode cX7_can 56 = .ok (.aload_n 0, 1) := by decide +kernel
theorem dX7_can_57 : decode cX7_can 57 = .ok (.aload_n 0, 1) := by decide +kernel
theorem dX7_can_58 : decode cX7_can 58 = .ok (.iload_n 1, 1) := by decide +kernel
theorem dX7_can_59 : decode cX7_can 59 = .ok (.iconst 0, 1) := by decide +kernel
theorem dX7_can_60 : decode cX7_can 60 = .ok (.invokevirtual 289, 3) := by decide +kernel
theorem dX7_can_63 : decode cX7_can 63 = .ok (.aload_n 0, 1) := by decide +kernel
theorem dX7_can_64 : decode cX7_can 64 = .ok (.iload_n 1, 1) := by decide +kernel
theorem dX7_can_65 : decode cX7_can 65 = .ok (.iconst 1, 1) := by decide +kernel
theorem dX7_can_66 : decode cX7_can 66 = .ok (.invokevirtual 289, 3) := by decide +kernel
theorem dX7_can_69 : decode cX7_can 69 = .ok (.aload_n 0, 1) := by decide +kernel
theorem dX7_can_70 : decode cX7_can 70 = .ok (.iload_n 1, 1) := by decide +kernel
theorem dX7_can_71 : decode cX7_can 71 = .ok (.iconst 2, 1) := by decide +kernel
theorem dX7_can_72 : decode cX7_can 72 = .ok (.invokevirtual 289, 3) := by decide +kernel
theorem dX7_can_75 : decode cX7_can 75 = .ok (.invokevirtual 292, 3) := by decide +kernel
theorem dX7_can_78 : decode cX7_can 78 = .ok (.ireturn, 1) := by decide +kernel
theorem dX7_can_79 : decode cX7_can 79 = .ok (.aload_n 0, 1) := by decide +kernel
theorem dX7_can_80 : decode cX7_can 80 = .ok (.aload_n 0, 1) := by decide +kernel
theorem dX7_can_81 : decode cX7_can 81 = .ok (.iload_n 1, 1) := by decide +kernel
theorem dX7_can_82 : decode cX7_can 82 = .ok (.iconst 0, 1) := by decide +kernel
theorem dX7_can_83 : decode cX7_can 83 = .ok (.invokevirtual 289, 3) := by decide +kernel
theorem dX7_can_86 : decode cX7_can 86 = .ok (.aload_n 0, 1) := by decide +kernel
theorem dX7_can_87 : decode cX7_can 87 = .ok (.iload_n 1, 1) := by decide +kernel
theorem dX7_can_88 : decode cX7_can 88 = .ok (.iconst 1, 1) := by decide +kernel
theorem dX7_can_89 : decode cX7_can 89 = .ok (.invokevirtual 289, 3) := by decide +kernel
theorem dX7_can_92 : decode cX7_can 92 = .ok (.aload_n 0, 1) := by decide +kernel
theorem dX7_can_93 : decode cX7_can 93 = .ok (.iload_n 1, 1) := by decide +kernel
theorem dX7_can_94 : decode cX7_can 94 = .ok (.iconst 2, 1) := by decide +kernel
theorem dX7_can_95 : decode cX7_can 95 = .ok (.invokevirtual 289, 3) := by decide +kernel
theorem dX7_can_98 : decode cX7_can 98 = .ok (.invokevirtual 296, 3) := by decide +kernel
theorem dX7_can_101 : decode cX7_can 101 = .ok (.ireturn, 1) := by decide +kernel
theorem dX7_can_102 : decode cX7_can 102 = .ok (.aload_n 0, 1) := by decide +kernel
theorem dX7_can_103 : decode cX7_can 103 = .ok (.aload_n 0, 1) := by decide +kernel
theorem dX7_can_104 : decode cX7_can 104 = .ok (.iload_n 1, 1) := by decide +kernel
theorem dX7_can_105 : decode cX7_can 105 = .ok (.iconst 0, 1) := by decide +kernel
theorem dX7_can_106 : decode cX7_can 106 = .ok (.invokevirtual 289, 3) := by decide +kernel
theorem dX7_can_109 : decode cX7_can 109 = .ok (.invokevirtual 201, 3) := by decide +kernel
theorem dX7_can_112 : decode cX7_can 112 = .ok (.ifCond .ne 20, 3) := by decide +kernel
theorem dX7_can_115 : decode cX7_can 115 = .ok (.aload_n 0, 1) := by decide +kernel
theorem dX7_can_116 : decode cX7_can 116 = .ok (.aload_n 0, 1) := by decide +kernel
theorem dX7_can_117 : decode cX7_can 117 = .ok (.iload_n 1, 1) := by decide +kernel
theorem dX7_can_118 : decode cX7_can 118 = .ok (.iconst 0, 1) := by decide +kernel
theorem dX7_can_119 : decode cX7_can 119 = .ok (.invokevirtual 289, 3) := by decide +kernel
theorem dX7_can_122 : decode cX7_can 122 = .ok (.invokevirtual 205, 3) := by decide +kernel
theorem dX7_can_125 : decode cX7_can 125 = .ok (.ifCond .eq 7, 3) := by decide +kernel
theorem dX7_can_128 : decode cX7_can 128 = .ok (.iconst 1, 1) := by decide +kernel
theorem dX7_can_129 : decode cX7_can 129 = .ok (.goto 4, 3) := by decide +kernel
theorem dX7_can_132 : decode cX7_can 132 = .ok (.iconst 0, 1) := by decide +kernel
theorem dX7_can_133 : decode cX7_can 133 = .ok (.ireturn, 1) := by decide +kernel
theorem dX7_can_134 : decode cX7_can 134 = .ok (.aload_n 0, 1) := by decide +kernel
theorem dX7_can_135 : decode cX7_can 135 = .ok (.getfield 33, 3) := by decide +kernel
theorem dX7_can_138 : decode cX7_can 138 = .ok (.aload_n 0, 1) := by decide +kernel
theorem dX7_can_139 : decode cX7_can 139 = .ok (.iload_n 1, 1) := by decide +kernel
theorem dX7_can_140 : decode cX7_can 140 = .ok (.iconst 0, 1) := by decide +kernel
theorem dX7_can_141 : decode cX7_can 141 = .ok (.invokevirtual 289, 3) := by decide +kernel
theorem dX7_can_144 : decode cX7_can 144 = .ok (.baload, 1) := by decide +kernel
theorem dX7_can_145 : decode cX7_can 145 = .ok (.ireturn, 1) := by decide +kernel
theorem dX7_can_146 : decode cX7_can 146 = .ok (.aload_n 0, 1) := by decide +kernel
theorem dX7_can_147 : decode cX7_can 147 = .ok (.getfield 94, 3) := by decide +kernel
theorem dX7_can_150 : decode cX7_can 150 = .ok (.aload_n 0, 1) := by decide +kernel
theorem dX7_can_151 : decode cX7_can 151 = .ok (.iload_n 1, 1) := by decide +kernel
theorem dX7_can_152 : decode cX7_can 152 = .ok (.iconst 0, 1) := by decide +kernel
theorem dX7_can_153 : decode cX7_can 153 = .ok (.invokevirtual 289, 3) := by decide +kernel
theorem dX7_can_156 : decode cX7_can 156 = .ok (.iaload, 1) := by decide +kernel
theorem dX7_can_157 : decode cX7_can 157 = .ok (.ifCond .ne 7, 3) := by decide +kernel
theorem dX7_can_160 : decode cX7_can 160 = .ok (.iconst 1, 1) := by decide +kernel
theorem dX7_can_161 : decode cX7_can 161 = .ok (.goto 4, 3) := by decide +kernel
theorem dX7_can_164 : decode cX7_can 164 = .ok (.iconst 0, 1) := by decide +kernel
theorem dX7_can_165 : decode cX7_can 165 = .ok (.ireturn, 1) := by decide +kernel
theorem dX7_can_166 : decode cX7_can 166 = .ok (.iconst 1, 1) := by decide +kernel
theorem dX7_can_167 : decode cX7_can 167 = .ok (.ireturn, 1) := by decide +kernel
theorem dX7_does_0 : decode cX7_does 0 = .ok (.aload_n 0, 1) := by decide +kernel
theorem dX7_does_1 : decode cX7_does 1 = .ok (.iload_n 1, 1) := by decide +kernel
theorem dX7_does_2 : decode cX7_does 2 = .ok (.iconst 0, 1) := by decide +kernel
theorem dX7_does_3 : decode cX7_does 3 = .ok (.invokevirtual 289, 3) := by decide +kernel
theorem dX7_does_6 : decode cX7_does 6 = .ok (.istore_n 2, 1) := by decide +kernel
