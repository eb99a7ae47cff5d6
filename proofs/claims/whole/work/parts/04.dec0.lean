theorem dX0_init_0 : decode cX0_init 0 = .ok (.aload_n 0, 1) := by decide +kernel
theorem dX0_init_1 : decode cX0_init 1 = .ok (.invokespecial 3, 3) := by decide +kernel
theorem dX0_init_4 : decode cX0_init 4 = .ok (.aload_n 0, 1) := by decide +kernel
theorem dX0_init_5 : decode cX0_init 5 = .ok (.new 9, 3) := by decide +kernel
theorem dX0_init_8 : decode cX0_init 8 = .ok (.dup, 1) := by decide +kernel
theorem dX0_init_9 : decode cX0_init 9 = .ok (.invokespecial 11, 3) := by decide +kernel
theorem dX0_init_12 : decode cX0_init 12 = .ok (.putfield 12, 3) := by decide +kernel
theorem dX0_init_15 : decode cX0_init 15 = .ok (.aload_n 0, 1) := by decide +kernel
theorem dX0_init_16 : decode cX0_init 16 = .ok (.new 18, 3) := by decide +kernel
theorem dX0_init_19 : decode cX0_init 19 = .ok (.dup, 1) := by decide +kernel
theorem dX0_init_20 : decode cX0_init 20 = .ok (.invokespecial 20, 3) := by decide +kernel
theorem dX0_init_23 : decode cX0_init 23 = .ok (.putfield 21, 3) := by decide +kernel
theorem dX0_init_26 : decode cX0_init 26 = .ok (.aload_n 0, 1) := by decide +kernel
theorem dX0_init_27 : decode cX0_init 27 = .ok (.bipush 10, 2) := by decide +kernel
theorem dX0_init_29 : decode cX0_init 29 = .ok (.newarray .int, 2) := by decide +kernel
theorem dX0_init_31 : decode cX0_init 31 = .ok (.putfield 25, 3) := by decide +kernel
theorem dX0_init_34 : decode cX0_init 34 = .ok (.aload_n 0, 1) := by decide +kernel
theorem dX0_init_35 : decode cX0_init 35 = .ok (.bipush 10, 2) := by decide +kernel
theorem dX0_init_37 : decode cX0_init 37 = .ok (.newarray .int, 2) := by decide +kernel
theorem dX0_init_39 : decode cX0_init 39 = .ok (.putfield 29, 3) := by decide +kernel
theorem dX0_init_42 : decode cX0_init 42 = .ok (.return_, 1) := by decide +kernel
theorem dX0_clear_0 : decode cX0_clear 0 = .ok (.aload_n 0, 1) := by decide +kernel
theorem dX0_clear_1 : decode cX0_clear 1 = .ok (.getfield 12, 3) := by decide +kernel
theorem dX0_clear_4 : decode cX0_clear 4 = .ok (.invokevirtual 32, 3) := by decide +kernel
theorem dX0_clear_7 : decode cX0_clear 7 = .ok (.aload_n 0, 1) := by decide +kernel
theorem dX0_clear_8 : decode cX0_clear 8 = .ok (.getfield 21, 3) := by decide +kernel
theorem dX0_clear_11 : decode cX0_clear 11 = .ok (.invokevirtual 35, 3) := by decide +kernel
theorem dX0_clear_14 : decode cX0_clear 14 = .ok (.aload_n 0, 1) := by decide +kernel
theorem dX0_clear_15 : decode cX0_clear 15 = .ok (.getfield 25, 3) := by decide +kernel
theorem dX0_clear_18 : decode cX0_clear 18 = .ok (.iconst 0, 1) := by decide +kernel
theorem dX0_clear_19 : decode cX0_clear 19 = .ok (.invokestatic 36, 3) := by decide +kernel
theorem dX0_clear_22 : decode cX0_clear 22 = .ok (.aload_n 0, 1) := by decide +kernel
theorem dX0_clear_23 : decode cX0_clear 23 = .ok (.getfield 29, 3) := by decide +kernel
theorem dX0_clear_26 : decode cX0_clear 26 = .ok (.iconst 0, 1) := by decide +kernel
theorem dX0_clear_27 : decode cX0_clear 27 = .ok (.invokestatic 36, 3) := by decide +kernel
theorem dX0_clear_30 : decode cX0_clear 30 = .ok (.aload_n 0, 1) := by decide +kernel
theorem dX0_clear_31 : decode cX0_clear 31 = .ok (.iconst 0, 1) := by decide +kernel
theorem dX0_clear_32 : decode cX0_clear 32 = .ok (.iconst 0, 1) := by decide +kernel
theorem dX0_clear_33 : decode cX0_clear 33 = .ok (.iconst 0, 1) := by decide +kernel
theorem dX0_clear_34 : decode cX0_clear 34 = .ok (.invokevirtual 42, 3) := by decide +kernel
theorem dX0_clear_37 : decode cX0_clear 37 = .ok (.return_, 1) := by decide +kernel
theorem dX0_setRules_0 : decode cX0_setRules 0 = .ok (.aload_n 0, 1) := by decide +kernel
theorem dX0_setRules_1 : decode cX0_setRules 1 = .ok (.iload_n 1, 1) := by decide +kernel
theorem dX0_setRules_2 : decode cX0_setRules 2 = .ok (.putfield 46, 3) := by decide +kernel
theorem dX0_setRules_5 : decode cX0_setRules 5 = .ok (.aload_n 0, 1) := by decide +kernel
theorem dX0_setRules_6 : decode cX0_setRules 6 = .ok (.iload_n 2, 1) := by decide +kernel
theorem dX0_setRules_7 : decode cX0_setRules 7 = .ok (.putfield 50, 3) := by decide +kernel
theorem dX0_setRules_10 : decode cX0_setRules 10 = .ok (.aload_n 0, 1) := by decide +kernel
theorem dX0_setRules_11 : decode cX0_setRules 11 = .ok (.iload_n 3, 1) := by decide +kernel
theorem dX0_setRules_12 : decode cX0_setRules 12 = .ok (.putfield 53, 3) := by decide +kernel
theorem dX0_setRules_15 : decode cX0_setRules 15 = .ok (.return_, 1) := by decide +kernel
theorem dX0_carryOut_0 : decode cX0_carryOut 0 = .ok (.aload_n 0, 1) := by decide +kernel
theorem dX0_carryOut_1 : decode cX0_carryOut 1 = .ok (.aload_n 1, 1) := by decide +kernel
theorem dX0_carryOut_2 : decode cX0_carryOut 2 = .ok (.iload_n 2, 1) := by decide +kernel
theorem dX0_carryOut_3 : decode cX0_carryOut 3 = .ok (.invokevirtual 56, 3) := by decide +kernel
theorem dX0_carryOut_6 : decode cX0_carryOut 6 = .ok (.ifCond .ne 5, 3) := by decide +kernel
theorem dX0_carryOut_9 : decode cX0_carryOut 9 = .ok (.iconst 0, 1) := by decide +kernel
theorem dX0_carryOut_10 : decode cX0_carryOut 10 = .ok (.ireturn, 1) := by decide +kernel
theorem dX0_carryOut_11 : decode cX0_carryOut 11 = .ok (.aload_n 1, 1) := by decide +kernel
theorem dX0_carryOut_12 : decode cX0_carryOut 12 = .ok (.iload_n 2, 1) := by decide +kernel
theorem dX0_carryOut_13 : decode cX0_carryOut 13 = .ok (.iconst 1, 1) := by decide +kernel
theorem dX0_carryOut_14 : decode cX0_carryOut 14 = .ok (.invokevirtual 62, 3) := by decide +kernel
theorem dX0_carryOut_17 : decode cX0_carryOut 17 = .ok (.istore 4, 2) := by decide +kernel
theorem dX0_carryOut_19 : decode cX0_carryOut 19 = .ok (.aload_n 0, 1) := by decide +kernel
theorem dX0_carryOut_20 : decode cX0_carryOut 20 = .ok (.aload_n 1, 1) := by decide +kernel
theorem dX0_carryOut_21 : decode cX0_carryOut 21 = .ok (.iload_n 2, 1) := by decide +kernel
theorem dX0_carryOut_22 : decode cX0_carryOut 22 = .ok (.invokevirtual 66, 3) := by decide +kernel
theorem dX0_carryOut_25 : decode cX0_carryOut 25 = .ok (.lstore 5, 2) := by decide +kernel
theorem dX0_carryOut_27 : decode cX0_carryOut 27 = .ok (.lload 5, 2) := by decide +kernel
theorem dX0_carryOut_29 : decode cX0_carryOut 29 = .ok (.lconst 0, 1) := by decide +kernel
theorem dX0_carryOut_30 : decode cX0_carryOut 30 = .ok (.lcmp, 1) := by decide +kernel
theorem dX0_carryOut_31 : decode cX0_carryOut 31 = .ok (.ifCond .le 67, 3) := by decide +kernel
theorem dX0_carryOut_34 : decode cX0_carryOut 34 = .ok (.aload_n 0, 1) := by decide +kernel
theorem dX0_carryOut_35 : decode cX0_carryOut 35 = .ok (.getfield 21, 3) := by decide +kernel
theorem dX0_carryOut_38 : decode cX0_carryOut 38 = .ok (.getfield 70, 3) := by decide +kernel
theorem dX0_carryOut_41 : decode cX0_carryOut 41 = .ok (.iload 4, 2) := by decide +kernel
theorem dX0_carryOut_43 : decode cX0_carryOut 43 = .ok (.iaload, 1) := by decide +kernel
theorem dX0_carryOut_44 : decode cX0_carryOut 44 = .ok (.aload_n 0, 1) := by decide +kernel
theorem dX0_carryOut_45 : decode cX0_carryOut 45 = .ok (.getfield 21, 3) := by decide +kernel
theorem dX0_carryOut_48 : decode cX0_carryOut 48 = .ok (.getfield 73, 3) := by decide +kernel
theorem dX0_carryOut_51 : decode cX0_carryOut 51 = .ok (.iload 4, 2) := by decide +kernel
theorem dX0_carryOut_53 : decode cX0_carryOut 53 = .ok (.iaload, 1) := by decide +kernel
theorem dX0_carryOut_54 : decode cX0_carryOut 54 = .ok (.aload_n 0, 1) := by decide +kernel
theorem dX0_carryOut_55 : decode cX0_carryOut 55 = .ok (.getfield 21, 3) := by decide +kernel
theorem dX0_carryOut_58 : decode cX0_carryOut 58 = .ok (.getfield 76, 3) := by decide +kernel
theorem dX0_carryOut_61 : decode cX0_carryOut 61 = .ok (.iload 4, 2) := by decide +kernel
theorem dX0_carryOut_63 : decode cX0_carryOut 63 = .ok (.iaload, 1) := by decide +kernel
theorem dX0_carryOut_64 : decode cX0_carryOut 64 = .ok (.aload_n 0, 1) := by decide +kernel
theorem dX0_carryOut_65 : decode cX0_carryOut 65 = .ok (.getfield 46, 3) := by decide +kernel
theorem dX0_carryOut_68 : decode cX0_carryOut 68 = .ok (.invokestatic 79, 3) := by decide +kernel
theorem dX0_carryOut_71 : decode cX0_carryOut 71 = .ok (.istore 7, 2) := by decide +kernel
theorem dX0_carryOut_73 : decode cX0_carryOut 73 = .ok (.aload_n 3, 1) := by decide +kernel
theorem dX0_carryOut_74 : decode cX0_carryOut 74 = .ok (.aload_n 0, 1) := by decide +kernel
theorem dX0_carryOut_75 : decode cX0_carryOut 75 = .ok (.iload 4, 2) := by decide +kernel
theorem dX0_carryOut_77 : decode cX0_carryOut 77 = .ok (.iload 7, 2) := by decide +kernel
theorem dX0_carryOut_79 : decode cX0_carryOut 79 = .ok (.lload 5, 2) := by decide +kernel
theorem dX0_carryOut_81 : decode cX0_carryOut 81 = .ok (.aload_n 0, 1) := by decide +kernel
theorem dX0_carryOut_82 : decode cX0_carryOut 82 = .ok (.getfield 50, 3) := by decide +kernel
theorem dX0_carryOut_85 : decode cX0_carryOut 85 = .ok (.invokevirtual 83, 3) := by decide +kernel
theorem dX0_carryOut_88 : decode cX0_carryOut 88 = .ok (.aload_n 0, 1) := by decide +kernel
theorem dX0_carryOut_89 : decode cX0_carryOut 89 = .ok (.aload_n 3, 1) := by decide +kernel
theorem dX0_carryOut_90 : decode cX0_carryOut 90 = .ok (.getfield 89, 3) := by decide +kernel
theorem dX0_carryOut_93 : decode cX0_carryOut 93 = .ok (.iload 4, 2) := by decide +kernel
theorem dX0_carryOut_95 : decode cX0_carryOut 95 = .ok (.invokevirtual 93, 3) := by decide +kernel
theorem dX0_carryOut_98 : decode cX0_carryOut 98 = .ok (.iconst 1, 1) := by decide +kernel
theorem dX0_carryOut_99 : decode cX0_carryOut 99 = .ok (.ireturn, 1) := by decide +kernel
theorem dX0_amountToSpread_0 : decode cX0_amountToSpread 0 = .ok (.aload_n 1, 1) := by decide +kernel
theorem dX0_amountToSpread_1 : decode cX0_amountToSpread 1 = .ok (.iload_n 2, 1) := by decide +kernel
theorem dX0_amountToSpread_2 : decode cX0_amountToSpread 2 = .ok (.iconst 0, 1) := by decide +kernel
theorem dX0_amountToSpread_3 : decode cX0_amountToSpread 3 = .ok (.invokevirtual 62, 3) := by decide +kernel
theorem dX0_amountToSpread_6 : decode cX0_amountToSpread 6 = .ok (.tableswitch 57 4 8 #[34, 49, 57, 57, 34], 34) := by decide +kernel
theorem dX0_amountToSpread_40 : decode cX0_amountToSpread 40 = .ok (.aload_n 0, 1) := by decide +kernel
theorem dX0_amountToSpread_41 : decode cX0_amountToSpread 41 = .ok (.getfield 21, 3) := by decide +kernel
theorem dX0_amountToSpread_44 : decode cX0_amountToSpread 44 = .ok (.getfield 97, 3) := by decide +kernel
theorem dX0_amountToSpread_47 : decode cX0_amountToSpread 47 = .ok (.aload_n 1, 1) := by decide +kernel
theorem dX0_amountToSpread_48 : decode cX0_amountToSpread 48 = .ok (.iload_n 2, 1) := by decide +kernel
theorem dX0_amountToSpread_49 : decode cX0_amountToSpread 49 = .ok (.iconst 1, 1) := by decide +kernel
theorem dX0_amountToSpread_50 : decode cX0_amountToSpread 50 = .ok (.invokevirtual 62, 3) := by decide +kernel
theorem dX0_amountToSpread_53 : decode cX0_amountToSpread 53 = .ok (.laload, 1) := by decide +kernel
theorem dX0_amountToSpread_54 : decode cX0_amountToSpread 54 = .ok (.lreturn, 1) := by decide +kernel
theorem dX0_amountToSpread_55 : decode cX0_amountToSpread 55 = .ok (.aload_n 1, 1) := by decide +kernel
theorem dX0_amountToSpread_56 : decode cX0_amountToSpread 56 = .ok (.iload_n 2, 1) := by decide +kernel
theorem dX0_amountToSpread_57 : decode cX0_amountToSpread 57 = .ok (.iconst 2, 1) := by decide +kernel
theorem dX0_amountToSpread_58 : decode cX0_amountToSpread 58 = .ok (.invokevirtual 62, 3) := by decide +kernel
theorem dX0_amountToSpread_61 : decode cX0_amountToSpread 61 = .ok (.i2l, 1) := by decide +kernel
theorem dX0_amountToSpread_62 : decode cX0_amountToSpread 62 = .ok (.lreturn, 1) := by decide +kernel
theorem dX0_amountToSpread_63 : decode cX0_amountToSpread 63 = .ok (.lconst 0, 1) := by decide +kernel
theorem dX0_amountToSpread_64 : decode cX0_amountToSpread 64 = .ok (.lreturn, 1) := by decide +kernel
theorem dX0_note_0 : decode cX0_note 0 = .ok (.aload_n 1, 1) := by decide +kernel
theorem dX0_note_1 : decode cX0_note 1 = .ok (.iload_n 2, 1) := by decide +kernel
theorem dX0_note_2 : decode cX0_note 2 = .ok (.iconst 1, 1) := by decide +kernel
theorem dX0_note_3 : decode cX0_note 3 = .ok (.invokevirtual 62, 3) := by decide +kernel
theorem dX0_note_6 : decode cX0_note 6 = .ok (.istore_n 3, 1) := by decide +kernel
theorem dX0_note_7 : decode cX0_note 7 = .ok (.aload_n 1, 1) := by decide +kernel
theorem dX0_note_8 : decode cX0_note 8 = .ok (.iload_n 2, 1) := by decide +kernel
theorem dX0_note_9 : decode cX0_note 9 = .ok (.iconst 2, 1) := by decide +kernel
theorem dX0_note_10 : decode cX0_note 10 = .ok (.invokevirtual 62, 3) := by decide +kernel
theorem dX0_note_13 : decode cX0_note 13 = .ok (.istore 4, 2) := by decide +kernel
theorem dX0_note_15 : decode cX0_note 15 = .ok (.aload_n 1, 1) := by decide +kernel
theorem dX0_note_16 : decode cX0_note 16 = .ok (.iload_n 2, 1) := by decide +kernel
theorem dX0_note_17 : decode cX0_note 17 = .ok (.iconst 3, 1) := by decide +kernel
theorem dX0_note_18 : decode cX0_note 18 = .ok (.invokevirtual 62, 3) := by decide +kernel
theorem dX0_note_21 : decode cX0_note 21 = .ok (.istore 5, 2) := by decide +kernel
theorem dX0_note_23 : decode cX0_note 23 = .ok (.aload_n 1, 1) := by decide +kernel
theorem dX0_note_24 : decode cX0_note 24 = .ok (.iload_n 2, 1) := by decide +kernel
theorem dX0_note_25 : decode cX0_note 25 = .ok (.iconst 4, 1) := by decide +kernel
theorem dX0_note_26 : decode cX0_note 26 = .ok (.invokevirtual 62, 3) := by decide +kernel
theorem dX0_note_29 : decode cX0_note 29 = .ok (.istore 6, 2) := by decide +kernel
theorem dX0_note_31 : decode cX0_note 31 = .ok (.aload_n 1, 1) := by decide +kernel
theorem dX0_note_32 : decode cX0_note 32 = .ok (.iload_n 2, 1) := by decide +kernel
theorem dX0_note_33 : decode cX0_note 33 = .ok (.iconst 5, 1) := by decide +kernel
theorem dX0_note_34 : decode cX0_note 34 = .ok (.invokevirtual 62, 3) := by decide +kernel
theorem dX0_note_37 : decode cX0_note 37 = .ok (.istore 7, 2) := by decide +kernel
theorem dX0_note_39 : decode cX0_note 39 = .ok (.aload_n 1, 1) := by decide +kernel
theorem dX0_note_40 : decode cX0_note 40 = .ok (.iload_n 2, 1) := by decide +kernel
theorem dX0_note_41 : decode cX0_note 41 = .ok (.iconst 0, 1) := by decide +kernel
theorem dX0_note_42 : decode cX0_note 42 = .ok (.invokevirtual 62, 3) := by decide +kernel
theorem dX0_note_45 : decode cX0_note 45 = .ok (.tableswitch 142 0 7 #[47, 64, 77, 86, 97, 114, 125, 134], 47) := by decide +kernel
theorem dX0_note_92 : decode cX0_note 92 = .ok (.aload_n 0, 1) := by decide +kernel
theorem dX0_note_93 : decode cX0_note 93 = .ok (.getfield 12, 3) := by decide +kernel
theorem dX0_note_96 : decode cX0_note 96 = .ok (.iload_n 3, 1) := by decide +kernel
theorem dX0_note_97 : decode cX0_note 97 = .ok (.iload 4, 2) := by decide +kernel
theorem dX0_note_99 : decode cX0_note 99 = .ok (.iload 5, 2) := by decide +kernel
theorem dX0_note_101 : decode cX0_note 101 = .ok (.iload 6, 2) := by decide +kernel
theorem dX0_note_103 : decode cX0_note 103 = .ok (.iload 7, 2) := by decide +kernel
theorem dX0_note_105 : decode cX0_note 105 = .ok (.invokevirtual 101, 3) := by decide +kernel
theorem dX0_note_108 : decode cX0_note 108 = .ok (.ireturn, 1) := by decide +kernel
theorem dX0_note_109 : decode cX0_note 109 = .ok (.aload_n 0, 1) := by decide +kernel
theorem dX0_note_110 : decode cX0_note 110 = .ok (.getfield 12, 3) := by decide +kernel
theorem dX0_note_113 : decode cX0_note 113 = .ok (.iload_n 3, 1) := by decide +kernel
theorem dX0_note_114 : decode cX0_note 114 = .ok (.iload 4, 2) := by decide +kernel
theorem dX0_note_116 : decode cX0_note 116 = .ok (.iload 5, 2) := by decide +kernel
theorem dX0_note_118 : decode cX0_note 118 = .ok (.invokevirtual 105, 3) := by decide +kernel
theorem dX0_note_121 : decode cX0_note 121 = .ok (.ireturn, 1) := by decide +kernel
theorem dX0_note_122 : decode cX0_note 122 = .ok (.aload_n 0, 1) := by decide +kernel
theorem dX0_note_123 : decode cX0_note 123 = .ok (.getfield 12, 3) := by decide +kernel
theorem dX0_note_126 : decode cX0_note 126 = .ok (.iload_n 3, 1) := by decide +kernel
theorem dX0_note_127 : decode cX0_note 127 = .ok (.invokevirtual 109, 3) := by decide +kernel
theorem dX0_note_130 : decode cX0_note 130 = .ok (.ireturn, 1) := by decide +kernel
theorem dX0_note_131 : decode cX0_note 131 = .ok (.aload_n 0, 1) := by decide +kernel
theorem dX0_note_132 : decode cX0_note 132 = .ok (.iload_n 3, 1) := by decide +kernel
theorem dX0_note_133 : decode cX0_note 133 = .ok (.iload 4, 2) := by decide +kernel
theorem dX0_note_135 : decode cX0_note 135 = .ok (.iload 5, 2) := by decide +kernel
theorem dX0_note_137 : decode cX0_note 137 = .ok (.invokevirtual 42, 3) := by decide +kernel
theorem dX0_note_140 : decode cX0_note 140 = .ok (.iconst 1, 1) := by decide +kernel
theorem dX0_note_141 : decode cX0_note 141 = .ok (.ireturn, 1) := by decide +kernel
theorem dX0_note_142 : decode cX0_note 142 = .ok (.aload_n 0, 1) := by decide +kernel
theorem dX0_note_143 : decode cX0_note 143 = .ok (.getfield 21, 3) := by decide +kernel
theorem dX0_note_146 : decode cX0_note 146 = .ok (.iload_n 3, 1) := by decide +kernel
theorem dX0_note_147 : decode cX0_note 147 = .ok (.iload 4, 2) := by decide +kernel
theorem dX0_note_149 : decode cX0_note 149 = .ok (.iload 5, 2) := by decide +kernel
theorem dX0_note_151 : decode cX0_note 151 = .ok (.iload 6, 2) := by decide +kernel
theorem dX0_note_153 : decode cX0_note 153 = .ok (.iload 7, 2) := by decide +kernel
theorem dX0_note_155 : decode cX0_note 155 = .ok (.invokevirtual 113, 3) := by decide +kernel
theorem dX0_note_158 : decode cX0_note 158 = .ok (.ireturn, 1) := by decide +kernel
theorem dX0_note_159 : decode cX0_note 159 = .ok (.aload_n 0, 1) := by decide +kernel
theorem dX0_note_160 : decode cX0_note 160 = .ok (.getfield 21, 3) := by decide +kernel
theorem dX0_note_163 : decode cX0_note 163 = .ok (.iload_n 3, 1) := by decide +kernel
theorem dX0_note_164 : decode cX0_note 164 = .ok (.iload 4, 2) := by decide +kernel
theorem dX0_note_166 : decode cX0_note 166 = .ok (.invokevirtual 114, 3) := by decide +kernel
theorem dX0_note_169 : decode cX0_note 169 = .ok (.ireturn, 1) := by decide +kernel
theorem dX0_note_170 : decode cX0_note 170 = .ok (.aload_n 0, 1) := by decide +kernel
theorem dX0_note_171 : decode cX0_note 171 = .ok (.iload_n 3, 1) := by decide +kernel
theorem dX0_note_172 : decode cX0_note 172 = .ok (.iconst 1, 1) := by decide +kernel
theorem dX0_note_173 : decode cX0_note 173 = .ok (.iload 4, 2) := by decide +kernel
theorem dX0_note_175 : decode cX0_note 175 = .ok (.invokevirtual 118, 3) := by decide +kernel
theorem dX0_note_178 : decode cX0_note 178 = .ok (.ireturn, 1) := by decide +kernel
theorem dX0_note_179 : decode cX0_note 179 = .ok (.aload_n 0, 1) := by decide +kernel
theorem dX0_note_180 : decode cX0_note 180 = .ok (.iload_n 3, 1) := by decide +kernel
theorem dX0_note_181 : decode cX0_note 181 = .ok (.iconst 2, 1) := by decide +kernel
theorem dX0_note_182 : decode cX0_note 182 = .ok (.iconst 0, 1) := by decide +kernel
theorem dX0_note_183 : decode cX0_note 183 = .ok (.invokevirtual 118, 3) := by decide +kernel
theorem dX0_note_186 : decode cX0_note 186 = .ok (.ireturn, 1) := by decide +kernel
theorem dX0_note_187 : decode cX0_note 187 = .ok (.aload_n 0, 1) := by decide +kernel
theorem dX0_note_188 : decode cX0_note 188 = .ok (.iload_n 3, 1) := by decide +kernel
theorem dX0_note_189 : decode cX0_note 189 = .ok (.invokevirtual 121, 3) := by decide +kernel
theorem dX0_note_192 : decode cX0_note 192 = .ok (.ireturn, 1) := by decide +kernel
theorem dX0_putStanding_0 : decode cX0_putStanding 0 = .ok (.aload_n 0, 1) := by decide +kernel
theorem dX0_putStanding_1 : decode cX0_putStanding 1 = .ok (.getfield 25, 3) := by decide +kernel
theorem dX0_putStanding_4 : decode cX0_putStanding 4 = .ok (.iload_n 1, 1) := by decide +kernel
theorem dX0_putStanding_5 : decode cX0_putStanding 5 = .ok (.iaload, 1) := by decide +kernel
theorem dX0_putStanding_6 : decode cX0_putStanding 6 = .ok (.ifCond .eq 5, 3) := by decide +kernel
theorem dX0_putStanding_9 : decode cX0_putStanding 9 = .ok (.iconst 0, 1) := by decide +kernel
theorem dX0_putStanding_10 : decode cX0_putStanding 10 = .ok (.ireturn, 1) := by decide +kernel
theorem dX0_putStanding_11 : decode cX0_putStanding 11 = .ok (.aload_n 0, 1) := by decide +kernel
theorem dX0_putStanding_12 : decode cX0_putStanding 12 = .ok (.getfield 25, 3) := by decide +kernel
theorem dX0_putStanding_15 : decode cX0_putStanding 15 = .ok (.iload_n 1, 1) := by decide +kernel
theorem dX0_putStanding_16 : decode cX0_putStanding 16 = .ok (.iload_n 2, 1) := by decide +kernel
theorem dX0_putStanding_17 : decode cX0_putStanding 17 = .ok (.iastore, 1) := by decide +kernel
theorem dX0_putStanding_18 : decode cX0_putStanding 18 = .ok (.aload_n 0, 1) := by decide +kernel
theorem dX0_putStanding_19 : decode cX0_putStanding 19 = .ok (.getfield 29, 3) := by decide +kernel
theorem dX0_putStanding_22 : decode cX0_putStanding 22 = .ok (.iload_n 1, 1) := by decide +kernel
theorem dX0_putStanding_23 : decode cX0_putStanding 23 = .ok (.iload_n 3, 1) := by decide +kernel
theorem dX0_putStanding_24 : decode cX0_putStanding 24 = .ok (.iastore, 1) := by decide +kernel
theorem dX0_putStanding_25 : decode cX0_putStanding 25 = .ok (.iconst 1, 1) := by decide +kernel
theorem dX0_putStanding_26 : decode cX0_putStanding 26 = .ok (.ireturn, 1) := by decide +kernel
theorem dX0_takeBack_0 : decode cX0_takeBack 0 = .ok (.aload_n 0, 1) := by decide +kernel
theorem dX0_takeBack_1 : decode cX0_takeBack 1 = .ok (.getfield 21, 3) := by decide +kernel
theorem dX0_takeBack_4 : decode cX0_takeBack 4 = .ok (.getfield 124, 3) := by decide +kernel
theorem dX0_takeBack_7 : decode cX0_takeBack 7 = .ok (.iload_n 1, 1) := by decide +kernel
theorem dX0_takeBack_8 : decode cX0_takeBack 8 = .ok (.baload, 1) := by decide +kernel
theorem dX0_takeBack_9 : decode cX0_takeBack 9 = .ok (.ifCond .ne 5, 3) := by decide +kernel
theorem dX0_takeBack_12 : decode cX0_takeBack 12 = .ok (.iconst 0, 1) := by decide +kernel
theorem dX0_takeBack_13 : decode cX0_takeBack 13 = .ok (.ireturn, 1) := by decide +kernel
theorem dX0_takeBack_14 : decode cX0_takeBack 14 = .ok (.iconst 0, 1) := by decide +kernel
theorem dX0_takeBack_15 : decode cX0_takeBack 15 = .ok (.istore_n 2, 1) := by decide +kernel
theorem dX0_takeBack_16 : decode cX0_takeBack 16 = .ok (.iload_n 2, 1) := by decide +kernel
theorem dX0_takeBack_17 : decode cX0_takeBack 17 = .ok (.aload_n 0, 1) := by decide +kernel
theorem dX0_takeBack_18 : decode cX0_takeBack 18 = .ok (.getfield 12, 3) := by decide +kernel
theorem dX0_takeBack_21 : decode cX0_takeBack 21 = .ok (.getfield 128, 3) := by decide +kernel
theorem dX0_takeBack_24 : decode cX0_takeBack 24 = .ok (.if_icmp .ge 49, 3) := by decide +kernel
theorem dX0_takeBack_27 : decode cX0_takeBack 27 = .ok (.aload_n 0, 1) := by decide +kernel
theorem dX0_takeBack_28 : decode cX0_takeBack 28 = .ok (.getfield 21, 3) := by decide +kernel
theorem dX0_takeBack_31 : decode cX0_takeBack 31 = .ok (.getfield 131, 3) := by decide +kernel
theorem dX0_takeBack_34 : decode cX0_takeBack 34 = .ok (.iload_n 1, 1) := by decide +kernel
theorem dX0_takeBack_35 : decode cX0_takeBack 35 = .ok (.bipush 40, 2) := by decide +kernel
theorem dX0_takeBack_37 : decode cX0_takeBack 37 = .ok (.imul, 1) := by decide +kernel
theorem dX0_takeBack_38 : decode cX0_takeBack 38 = .ok (.iload_n 2, 1) := by decide +kernel
theorem dX0_takeBack_39 : decode cX0_takeBack 39 = .ok (.iadd, 1) := by decide +kernel
theorem dX0_takeBack_40 : decode cX0_takeBack 40 = .ok (.laload, 1) := by decide +kernel
theorem dX0_takeBack_41 : decode cX0_takeBack 41 = .ok (.lstore_n 3, 1) := by decide +kernel
theorem dX0_takeBack_42 : decode cX0_takeBack 42 = .ok (.lload_n 3, 1) := by decide +kernel
theorem dX0_takeBack_43 : decode cX0_takeBack 43 = .ok (.lconst 0, 1) := by decide +kernel
theorem dX0_takeBack_44 : decode cX0_takeBack 44 = .ok (.lcmp, 1) := by decide +kernel
theorem dX0_takeBack_45 : decode cX0_takeBack 45 = .ok (.ifCond .le 22, 3) := by decide +kernel
theorem dX0_takeBack_48 : decode cX0_takeBack 48 = .ok (.aload_n 0, 1) := by decide +kernel
theorem dX0_takeBack_49 : decode cX0_takeBack 49 = .ok (.getfield 12, 3) := by decide +kernel
theorem dX0_takeBack_52 : decode cX0_takeBack 52 = .ok (.getfield 134, 3) := by decide +kernel
theorem dX0_takeBack_55 : decode cX0_takeBack 55 = .ok (.iload_n 2, 1) := by decide +kernel
theorem dX0_takeBack_56 : decode cX0_takeBack 56 = .ok (.dup2, 1) := by decide +kernel
theorem dX0_takeBack_57 : decode cX0_takeBack 57 = .ok (.laload, 1) := by decide +kernel
theorem dX0_takeBack_58 : decode cX0_takeBack 58 = .ok (.lload_n 3, 1) := by decide +kernel
theorem dX0_takeBack_59 : decode cX0_takeBack 59 = .ok (.lsub, 1) := by decide +kernel
theorem dX0_takeBack_60 : decode cX0_takeBack 60 = .ok (.lastore, 1) := by decide +kernel
theorem dX0_takeBack_61 : decode cX0_takeBack 61 = .ok (.aload_n 0, 1) := by decide +kernel
theorem dX0_takeBack_62 : decode cX0_takeBack 62 = .ok (.iload_n 1, 1) := by decide +kernel
theorem dX0_takeBack_63 : decode cX0_takeBack 63 = .ok (.iload_n 2, 1) := by decide +kernel
theorem dX0_takeBack_64 : decode cX0_takeBack 64 = .ok (.invokevirtual 137, 3) := by decide +kernel
theorem dX0_takeBack_67 : decode cX0_takeBack 67 = .ok (.iinc 2 1, 3) := by decide +kernel
theorem dX0_takeBack_70 : decode cX0_takeBack 70 = .ok (.goto (-54), 3) := by decide +kernel
theorem dX0_takeBack_73 : decode cX0_takeBack 73 = .ok (.aload_n 0, 1) := by decide +kernel
theorem dX0_takeBack_74 : decode cX0_takeBack 74 = .ok (.getfield 21, 3) := by decide +kernel
theorem dX0_takeBack_77 : decode cX0_takeBack 77 = .ok (.iload_n 1, 1) := by decide +kernel
theorem dX0_takeBack_78 : decode cX0_takeBack 78 = .ok (.invokevirtual 141, 3) := by decide +kernel
theorem dX0_takeBack_81 : decode cX0_takeBack 81 = .ok (.iconst 1, 1) := by decide +kernel
theorem dX0_takeBack_82 : decode cX0_takeBack 82 = .ok (.ireturn, 1) := by decide +kernel
theorem dX0_takeBackParts_0 : decode cX0_takeBackParts 0 = .ok (.iload_n 1, 1) := by decide +kernel
theorem dX0_takeBackParts_1 : decode cX0_takeBackParts 1 = .ok (.bipush 40, 2) := by decide +kernel
theorem dX0_takeBackParts_3 : decode cX0_takeBackParts 3 = .ok (.imul, 1) := by decide +kernel
theorem dX0_takeBackParts_4 : decode cX0_takeBackParts 4 = .ok (.iconst 4, 1) := by decide +kernel
theorem dX0_takeBackParts_5 : decode cX0_takeBackParts 5 = .ok (.imul, 1) := by decide +kernel
theorem dX0_takeBackParts_6 : decode cX0_takeBackParts 6 = .ok (.istore_n 3, 1) := by decide +kernel
theorem dX0_takeBackParts_7 : decode cX0_takeBackParts 7 = .ok (.iconst 0, 1) := by decide +kernel
theorem dX0_takeBackParts_8 : decode cX0_takeBackParts 8 = .ok (.istore 4, 2) := by decide +kernel
theorem dX0_takeBackParts_10 : decode cX0_takeBackParts 10 = .ok (.iload 4, 2) := by decide +kernel
theorem dX0_takeBackParts_12 : decode cX0_takeBackParts 12 = .ok (.aload_n 0, 1) := by decide +kernel
theorem dX0_takeBackParts_13 : decode cX0_takeBackParts 13 = .ok (.getfield 12, 3) := by decide +kernel
theorem dX0_takeBackParts_16 : decode cX0_takeBackParts 16 = .ok (.getfield 145, 3) := by decide +kernel
theorem dX0_takeBackParts_19 : decode cX0_takeBackParts 19 = .ok (.iload_n 2, 1) := by decide +kernel
theorem dX0_takeBackParts_20 : decode cX0_takeBackParts 20 = .ok (.iaload, 1) := by decide +kernel
theorem dX0_takeBackParts_21 : decode cX0_takeBackParts 21 = .ok (.if_icmp .ge 42, 3) := by decide +kernel
theorem dX0_takeBackParts_24 : decode cX0_takeBackParts 24 = .ok (.iload_n 2, 1) := by decide +kernel
theorem dX0_takeBackParts_25 : decode cX0_takeBackParts 25 = .ok (.iconst 4, 1) := by decide +kernel
theorem dX0_takeBackParts_26 : decode cX0_takeBackParts 26 = .ok (.imul, 1) := by decide +kernel
theorem dX0_takeBackParts_27 : decode cX0_takeBackParts 27 = .ok (.iload 4, 2) := by decide +kernel
theorem dX0_takeBackParts_29 : decode cX0_takeBackParts 29 = .ok (.iadd, 1) := by decide +kernel
theorem dX0_takeBackParts_30 : decode cX0_takeBackParts 30 = .ok (.istore 5, 2) := by decide +kernel
theorem dX0_takeBackParts_32 : decode cX0_takeBackParts 32 = .ok (.aload_n 0, 1) := by decide +kernel
theorem dX0_takeBackParts_33 : decode cX0_takeBackParts 33 = .ok (.getfield 12, 3) := by decide +kernel
theorem dX0_takeBackParts_36 : decode cX0_takeBackParts 36 = .ok (.getfield 148, 3) := by decide +kernel
theorem dX0_takeBackParts_39 : decode cX0_takeBackParts 39 = .ok (.iload 5, 2) := by decide +kernel
theorem dX0_takeBackParts_41 : decode cX0_takeBackParts 41 = .ok (.dup2, 1) := by decide +kernel
theorem dX0_takeBackParts_42 : decode cX0_takeBackParts 42 = .ok (.laload, 1) := by decide +kernel
theorem dX0_takeBackParts_43 : decode cX0_takeBackParts 43 = .ok (.aload_n 0, 1) := by decide +kernel
theorem dX0_takeBackParts_44 : decode cX0_takeBackParts 44 = .ok (.getfield 21, 3) := by decide +kernel
theorem dX0_takeBackParts_47 : decode cX0_takeBackParts 47 = .ok (.getfield 151, 3) := by decide +kernel
theorem dX0_takeBackParts_50 : decode cX0_takeBackParts 50 = .ok (.iload_n 3, 1) := by decide +kernel
theorem dX0_takeBackParts_51 : decode cX0_takeBackParts 51 = .ok (.iload 5, 2) := by decide +kernel
theorem dX0_takeBackParts_53 : decode cX0_takeBackParts 53 = .ok (.iadd, 1) := by decide +kernel
theorem dX0_takeBackParts_54 : decode cX0_takeBackParts 54 = .ok (.laload, 1) := by decide +kernel
theorem dX0_takeBackParts_55 : decode cX0_takeBackParts 55 = .ok (.lsub, 1) := by decide +kernel
theorem dX0_takeBackParts_56 : decode cX0_takeBackParts 56 = .ok (.lastore, 1) := by decide +kernel
theorem dX0_takeBackParts_57 : decode cX0_takeBackParts 57 = .ok (.iinc 4 1, 3) := by decide +kernel
theorem dX0_takeBackParts_60 : decode cX0_takeBackParts 60 = .ok (.goto (-50), 3) := by decide +kernel
theorem dX0_takeBackParts_63 : decode cX0_takeBackParts 63 = .ok (.return_, 1) := by decide +kernel
theorem dX0_keep_0 : decode cX0_keep 0 = .ok (.iload_n 2, 1) := by decide +kernel
theorem dX0_keep_1 : decode cX0_keep 1 = .ok (.bipush 40, 2) := by decide +kernel
theorem dX0_keep_3 : decode cX0_keep 3 = .ok (.imul, 1) := by decide +kernel
theorem dX0_keep_4 : decode cX0_keep 4 = .ok (.istore_n 3, 1) := by decide +kernel
theorem dX0_keep_5 : decode cX0_keep 5 = .ok (.iconst 0, 1) := by decide +kernel
theorem dX0_keep_6 : decode cX0_keep 6 = .ok (.istore 4, 2) := by decide +kernel
theorem dX0_keep_8 : decode cX0_keep 8 = .ok (.iload 4, 2) := by decide +kernel
theorem dX0_keep_10 : decode cX0_keep 10 = .ok (.aload_n 0, 1) := by decide +kernel
theorem dX0_keep_11 : decode cX0_keep 11 = .ok (.getfield 12, 3) := by decide +kernel
theorem dX0_keep_14 : decode cX0_keep 14 = .ok (.getfield 128, 3) := by decide +kernel
theorem dX0_keep_17 : decode cX0_keep 17 = .ok (.if_icmp .ge 115, 3) := by decide +kernel
theorem dX0_keep_20 : decode cX0_keep 20 = .ok (.aload_n 0, 1) := by decide +kernel
theorem dX0_keep_21 : decode cX0_keep 21 = .ok (.getfield 21, 3) := by decide +kernel
theorem dX0_keep_24 : decode cX0_keep 24 = .ok (.getfield 152, 3) := by decide +kernel
theorem dX0_keep_27 : decode cX0_keep 27 = .ok (.iload_n 3, 1) := by decide +kernel
theorem dX0_keep_28 : decode cX0_keep 28 = .ok (.iload 4, 2) := by decide +kernel
theorem dX0_keep_30 : decode cX0_keep 30 = .ok (.iadd, 1) := by decide +kernel
theorem dX0_keep_31 : decode cX0_keep 31 = .ok (.dup2, 1) := by decide +kernel
theorem dX0_keep_32 : decode cX0_keep 32 = .ok (.laload, 1) := by decide +kernel
theorem dX0_keep_33 : decode cX0_keep 33 = .ok (.aload_n 1, 1) := by decide +kernel
theorem dX0_keep_34 : decode cX0_keep 34 = .ok (.getfield 155, 3) := by decide +kernel
theorem dX0_keep_37 : decode cX0_keep 37 = .ok (.iload 4, 2) := by decide +kernel
theorem dX0_keep_39 : decode cX0_keep 39 = .ok (.laload, 1) := by decide +kernel
theorem dX0_keep_40 : decode cX0_keep 40 = .ok (.ladd, 1) := by decide +kernel
theorem dX0_keep_41 : decode cX0_keep 41 = .ok (.lastore, 1) := by decide +kernel
theorem dX0_keep_42 : decode cX0_keep 42 = .ok (.aload_n 0, 1) := by decide +kernel
theorem dX0_keep_43 : decode cX0_keep 43 = .ok (.getfield 21, 3) := by decide +kernel
theorem dX0_keep_46 : decode cX0_keep 46 = .ok (.getfield 158, 3) := by decide +kernel
theorem dX0_keep_49 : decode cX0_keep 49 = .ok (.iload_n 3, 1) := by decide +kernel
theorem dX0_keep_50 : decode cX0_keep 50 = .ok (.iload 4, 2) := by decide +kernel
theorem dX0_keep_52 : decode cX0_keep 52 = .ok (.iadd, 1) := by decide +kernel
theorem dX0_keep_53 : decode cX0_keep 53 = .ok (.dup2, 1) := by decide +kernel
theorem dX0_keep_54 : decode cX0_keep 54 = .ok (.laload, 1) := by decide +kernel
theorem dX0_keep_55 : decode cX0_keep 55 = .ok (.aload_n 1, 1) := by decide +kernel
theorem dX0_keep_56 : decode cX0_keep 56 = .ok (.getfield 161, 3) := by decide +kernel
theorem dX0_keep_59 : decode cX0_keep 59 = .ok (.iload 4, 2) := by decide +kernel
theorem dX0_keep_61 : decode cX0_keep 61 = .ok (.laload, 1) := by decide +kernel
theorem dX0_keep_62 : decode cX0_keep 62 = .ok (.ladd, 1) := by decide +kernel
theorem dX0_keep_63 : decode cX0_keep 63 = .ok (.lastore, 1) := by decide +kernel
theorem dX0_keep_64 : decode cX0_keep 64 = .ok (.aload_n 1, 1) := by decide +kernel
theorem dX0_keep_65 : decode cX0_keep 65 = .ok (.getfield 162, 3) := by decide +kernel
theorem dX0_keep_68 : decode cX0_keep 68 = .ok (.iload 4, 2) := by decide +kernel
theorem dX0_keep_70 : decode cX0_keep 70 = .ok (.laload, 1) := by decide +kernel
theorem dX0_keep_71 : decode cX0_keep 71 = .ok (.lconst 0, 1) := by decide +kernel
theorem dX0_keep_72 : decode cX0_keep 72 = .ok (.lcmp, 1) := by decide +kernel
theorem dX0_keep_73 : decode cX0_keep 73 = .ok (.ifCond .le 53, 3) := by decide +kernel
theorem dX0_keep_76 : decode cX0_keep 76 = .ok (.aload_n 0, 1) := by decide +kernel
theorem dX0_keep_77 : decode cX0_keep 77 = .ok (.getfield 21, 3) := by decide +kernel
theorem dX0_keep_80 : decode cX0_keep 80 = .ok (.getfield 131, 3) := by decide +kernel
theorem dX0_keep_83 : decode cX0_keep 83 = .ok (.iload_n 3, 1) := by decide +kernel
theorem dX0_keep_84 : decode cX0_keep 84 = .ok (.iload 4, 2) := by decide +kernel
theorem dX0_keep_86 : decode cX0_keep 86 = .ok (.iadd, 1) := by decide +kernel
theorem dX0_keep_87 : decode cX0_keep 87 = .ok (.dup2, 1) := by decide +kernel
theorem dX0_keep_88 : decode cX0_keep 88 = .ok (.laload, 1) := by decide +kernel
theorem dX0_keep_89 : decode cX0_keep 89 = .ok (.aload_n 1, 1) := by decide +kernel
theorem dX0_keep_90 : decode cX0_keep 90 = .ok (.getfield 162, 3) := by decide +kernel
theorem dX0_keep_93 : decode cX0_keep 93 = .ok (.iload 4, 2) := by decide +kernel
theorem dX0_keep_95 : decode cX0_keep 95 = .ok (.laload, 1) := by decide +kernel
theorem dX0_keep_96 : decode cX0_keep 96 = .ok (.ladd, 1) := by decide +kernel
theorem dX0_keep_97 : decode cX0_keep 97 = .ok (.lastore, 1) := by decide +kernel
theorem dX0_keep_98 : decode cX0_keep 98 = .ok (.aload_n 0, 1) := by decide +kernel
theorem dX0_keep_99 : decode cX0_keep 99 = .ok (.getfield 12, 3) := by decide +kernel
theorem dX0_keep_102 : decode cX0_keep 102 = .ok (.getfield 134, 3) := by decide +kernel
theorem dX0_keep_105 : decode cX0_keep 105 = .ok (.iload 4, 2) := by decide +kernel
theorem dX0_keep_107 : decode cX0_keep 107 = .ok (.dup2, 1) := by decide +kernel
theorem dX0_keep_108 : decode cX0_keep 108 = .ok (.laload, 1) := by decide +kernel
theorem dX0_keep_109 : decode cX0_keep 109 = .ok (.aload_n 1, 1) := by decide +kernel
theorem dX0_keep_110 : decode cX0_keep 110 = .ok (.getfield 162, 3) := by decide +kernel
theorem dX0_keep_113 : decode cX0_keep 113 = .ok (.iload 4, 2) := by decide +kernel
theorem dX0_keep_115 : decode cX0_keep 115 = .ok (.laload, 1) := by decide +kernel
theorem dX0_keep_116 : decode cX0_keep 116 = .ok (.ladd, 1) := by decide +kernel
theorem dX0_keep_117 : decode cX0_keep 117 = .ok (.lastore, 1) := by decide +kernel
theorem dX0_keep_118 : decode cX0_keep 118 = .ok (.aload_n 0, 1) := by decide +kernel
theorem dX0_keep_119 : decode cX0_keep 119 = .ok (.aload_n 1, 1) := by decide +kernel
theorem dX0_keep_120 : decode cX0_keep 120 = .ok (.iload_n 2, 1) := by decide +kernel
theorem dX0_keep_121 : decode cX0_keep 121 = .ok (.iload 4, 2) := by decide +kernel
theorem dX0_keep_123 : decode cX0_keep 123 = .ok (.invokevirtual 163, 3) := by decide +kernel
theorem dX0_keep_126 : decode cX0_keep 126 = .ok (.iinc 4 1, 3) := by decide +kernel
theorem dX0_keep_129 : decode cX0_keep 129 = .ok (.goto (-121), 3) := by decide +kernel
theorem dX0_keep_132 : decode cX0_keep 132 = .ok (.iconst 0, 1) := by decide +kernel
theorem dX0_keep_133 : decode cX0_keep 133 = .ok (.istore 4, 2) := by decide +kernel
theorem dX0_keep_135 : decode cX0_keep 135 = .ok (.iload 4, 2) := by decide +kernel
theorem dX0_keep_137 : decode cX0_keep 137 = .ok (.bipush 10, 2) := by decide +kernel
theorem dX0_keep_139 : decode cX0_keep 139 = .ok (.if_icmp .ge 34, 3) := by decide +kernel
theorem dX0_keep_142 : decode cX0_keep 142 = .ok (.aload_n 0, 1) := by decide +kernel
theorem dX0_keep_143 : decode cX0_keep 143 = .ok (.getfield 21, 3) := by decide +kernel
theorem dX0_keep_146 : decode cX0_keep 146 = .ok (.getfield 167, 3) := by decide +kernel
theorem dX0_keep_149 : decode cX0_keep 149 = .ok (.iload_n 2, 1) := by decide +kernel
theorem dX0_keep_150 : decode cX0_keep 150 = .ok (.bipush 10, 2) := by decide +kernel
theorem dX0_keep_152 : decode cX0_keep 152 = .ok (.imul, 1) := by decide +kernel
theorem dX0_keep_153 : decode cX0_keep 153 = .ok (.iload 4, 2) := by decide +kernel
theorem dX0_keep_155 : decode cX0_keep 155 = .ok (.iadd, 1) := by decide +kernel
theorem dX0_keep_156 : decode cX0_keep 156 = .ok (.dup2, 1) := by decide +kernel
theorem dX0_keep_157 : decode cX0_keep 157 = .ok (.laload, 1) := by decide +kernel
theorem dX0_keep_158 : decode cX0_keep 158 = .ok (.aload_n 1, 1) := by decide +kernel
theorem dX0_keep_159 : decode cX0_keep 159 = .ok (.getfield 170, 3) := by decide +kernel
theorem dX0_keep_162 : decode cX0_keep 162 = .ok (.iload 4, 2) := by decide +kernel
theorem dX0_keep_164 : decode cX0_keep 164 = .ok (.laload, 1) := by decide +kernel
theorem dX0_keep_165 : decode cX0_keep 165 = .ok (.ladd, 1) := by decide +kernel
theorem dX0_keep_166 : decode cX0_keep 166 = .ok (.lastore, 1) := by decide +kernel
theorem dX0_keep_167 : decode cX0_keep 167 = .ok (.iinc 4 1, 3) := by decide +kernel
theorem dX0_keep_170 : decode cX0_keep 170 = .ok (.goto (-35), 3) := by decide +kernel
theorem dX0_keep_173 : decode cX0_keep 173 = .ok (.iconst 0, 1) := by decide +kernel
theorem dX0_keep_174 : decode cX0_keep 174 = .ok (.istore 4, 2) := by decide +kernel
theorem dX0_keep_176 : decode cX0_keep 176 = .ok (.iload 4, 2) := by decide +kernel
theorem dX0_keep_178 : decode cX0_keep 178 = .ok (.bipush 7, 2) := by decide +kernel
theorem dX0_keep_180 : decode cX0_keep 180 = .ok (.if_icmp .ge 34, 3) := by decide +kernel
theorem dX0_keep_183 : decode cX0_keep 183 = .ok (.aload_n 0, 1) := by decide +kernel
theorem dX0_keep_184 : decode cX0_keep 184 = .ok (.getfield 21, 3) := by decide +kernel
theorem dX0_keep_187 : decode cX0_keep 187 = .ok (.getfield 171, 3) := by decide +kernel
theorem dX0_keep_190 : decode cX0_keep 190 = .ok (.iload_n 2, 1) := by decide +kernel
theorem dX0_keep_191 : decode cX0_keep 191 = .ok (.bipush 7, 2) := by decide +kernel
theorem dX0_keep_193 : decode cX0_keep 193 = .ok (.imul, 1) := by decide +kernel
theorem dX0_keep_194 : decode cX0_keep 194 = .ok (.iload 4, 2) := by decide +kernel
theorem dX0_keep_196 : decode cX0_keep 196 = .ok (.iadd, 1) := by decide +kernel
theorem dX0_keep_197 : decode cX0_keep 197 = .ok (.dup2, 1) := by decide +kernel
theorem dX0_keep_198 : decode cX0_keep 198 = .ok (.laload, 1) := by decide +kernel
theorem dX0_keep_199 : decode cX0_keep 199 = .ok (.aload_n 1, 1) := by decide +kernel
theorem dX0_keep_200 : decode cX0_keep 200 = .ok (.getfield 174, 3) := by decide +kernel
theorem dX0_keep_203 : decode cX0_keep 203 = .ok (.iload 4, 2) := by decide +kernel
theorem dX0_keep_205 : decode cX0_keep 205 = .ok (.laload, 1) := by decide +kernel
theorem dX0_keep_206 : decode cX0_keep 206 = .ok (.ladd, 1) := by decide +kernel
theorem dX0_keep_207 : decode cX0_keep 207 = .ok (.lastore, 1) := by decide +kernel
theorem dX0_keep_208 : decode cX0_keep 208 = .ok (.iinc 4 1, 3) := by decide +kernel
theorem dX0_keep_211 : decode cX0_keep 211 = .ok (.goto (-35), 3) := by decide +kernel
theorem dX0_keep_214 : decode cX0_keep 214 = .ok (.return_, 1) := by decide +kernel
theorem dX0_keepParts_0 : decode cX0_keepParts 0 = .ok (.iload_n 2, 1) := by decide +kernel
theorem dX0_keepParts_1 : decode cX0_keepParts 1 = .ok (.bipush 40, 2) := by decide +kernel
theorem dX0_keepParts_3 : decode cX0_keepParts 3 = .ok (.imul, 1) := by decide +kernel
theorem dX0_keepParts_4 : decode cX0_keepParts 4 = .ok (.iconst 4, 1) := by decide +kernel
theorem dX0_keepParts_5 : decode cX0_keepParts 5 = .ok (.imul, 1) := by decide +kernel
theorem dX0_keepParts_6 : decode cX0_keepParts 6 = .ok (.istore 4, 2) := by decide +kernel
theorem dX0_keepParts_8 : decode cX0_keepParts 8 = .ok (.iconst 0, 1) := by decide +kernel
theorem dX0_keepParts_9 : decode cX0_keepParts 9 = .ok (.istore 5, 2) := by decide +kernel
theorem dX0_keepParts_11 : decode cX0_keepParts 11 = .ok (.iload 5, 2) := by decide +kernel
theorem dX0_keepParts_13 : decode cX0_keepParts 13 = .ok (.aload_n 0, 1) := by decide +kernel
theorem dX0_keepParts_14 : decode cX0_keepParts 14 = .ok (.getfield 12, 3) := by decide +kernel
theorem dX0_keepParts_17 : decode cX0_keepParts 17 = .ok (.getfield 145, 3) := by decide +kernel
theorem dX0_keepParts_20 : decode cX0_keepParts 20 = .ok (.iload_n 3, 1) := by decide +kernel
theorem dX0_keepParts_21 : decode cX0_keepParts 21 = .ok (.iaload, 1) := by decide +kernel
theorem dX0_keepParts_22 : decode cX0_keepParts 22 = .ok (.if_icmp .ge 60, 3) := by decide +kernel
theorem dX0_keepParts_25 : decode cX0_keepParts 25 = .ok (.iload_n 3, 1) := by decide +kernel
theorem dX0_keepParts_26 : decode cX0_keepParts 26 = .ok (.iconst 4, 1) := by decide +kernel
theorem dX0_keepParts_27 : decode cX0_keepParts 27 = .ok (.imul, 1) := by decide +kernel
theorem dX0_keepParts_28 : decode cX0_keepParts 28 = .ok (.iload 5, 2) := by decide +kernel
theorem dX0_keepParts_30 : decode cX0_keepParts 30 = .ok (.iadd, 1) := by decide +kernel
theorem dX0_keepParts_31 : decode cX0_keepParts 31 = .ok (.istore 6, 2) := by decide +kernel
theorem dX0_keepParts_33 : decode cX0_keepParts 33 = .ok (.aload_n 0, 1) := by decide +kernel
theorem dX0_keepParts_34 : decode cX0_keepParts 34 = .ok (.getfield 21, 3) := by decide +kernel
theorem dX0_keepParts_37 : decode cX0_keepParts 37 = .ok (.getfield 151, 3) := by decide +kernel
theorem dX0_keepParts_40 : decode cX0_keepParts 40 = .ok (.iload 4, 2) := by decide +kernel
theorem dX0_keepParts_42 : decode cX0_keepParts 42 = .ok (.iload 6, 2) := by decide +kernel
theorem dX0_keepParts_44 : decode cX0_keepParts 44 = .ok (.iadd, 1) := by decide +kernel
theorem dX0_keepParts_45 : decode cX0_keepParts 45 = .ok (.dup2, 1) := by decide +kernel
theorem dX0_keepParts_46 : decode cX0_keepParts 46 = .ok (.laload, 1) := by decide +kernel
theorem dX0_keepParts_47 : decode cX0_keepParts 47 = .ok (.aload_n 1, 1) := by decide +kernel
theorem dX0_keepParts_48 : decode cX0_keepParts 48 = .ok (.getfield 175, 3) := by decide +kernel
theorem dX0_keepParts_51 : decode cX0_keepParts 51 = .ok (.iload 6, 2) := by decide +kernel
theorem dX0_keepParts_53 : decode cX0_keepParts 53 = .ok (.laload, 1) := by decide +kernel
theorem dX0_keepParts_54 : decode cX0_keepParts 54 = .ok (.ladd, 1) := by decide +kernel
theorem dX0_keepParts_55 : decode cX0_keepParts 55 = .ok (.lastore, 1) := by decide +kernel
theorem dX0_keepParts_56 : decode cX0_keepParts 56 = .ok (.aload_n 0, 1) := by decide +kernel
theorem dX0_keepParts_57 : decode cX0_keepParts 57 = .ok (.getfield 12, 3) := by decide +kernel
theorem dX0_keepParts_60 : decode cX0_keepParts 60 = .ok (.getfield 148, 3) := by decide +kernel
theorem dX0_keepParts_63 : decode cX0_keepParts 63 = .ok (.iload 6, 2) := by decide +kernel
theorem dX0_keepParts_65 : decode cX0_keepParts 65 = .ok (.dup2, 1) := by decide +kernel
theorem dX0_keepParts_66 : decode cX0_keepParts 66 = .ok (.laload, 1) := by decide +kernel
theorem dX0_keepParts_67 : decode cX0_keepParts 67 = .ok (.aload_n 1, 1) := by decide +kernel
theorem dX0_keepParts_68 : decode cX0_keepParts 68 = .ok (.getfield 175, 3) := by decide +kernel
theorem dX0_keepParts_71 : decode cX0_keepParts 71 = .ok (.iload 6, 2) := by decide +kernel
theorem dX0_keepParts_73 : decode cX0_keepParts 73 = .ok (.laload, 1) := by decide +kernel
theorem dX0_keepParts_74 : decode cX0_keepParts 74 = .ok (.ladd, 1) := by decide +kernel
theorem dX0_keepParts_75 : decode cX0_keepParts 75 = .ok (.lastore, 1) := by decide +kernel
theorem dX0_keepParts_76 : decode cX0_keepParts 76 = .ok (.iinc 5 1, 3) := by decide +kernel
theorem dX0_keepParts_79 : decode cX0_keepParts 79 = .ok (.goto (-68), 3) := by decide +kernel
theorem dX0_keepParts_82 : decode cX0_keepParts 82 = .ok (.return_, 1) := by decide +kernel
theorem dX0_thoseWho_0 : decode cX0_thoseWho 0 = .ok (.iconst 0, 1) := by decide +kernel
theorem dX0_thoseWho_1 : decode cX0_thoseWho 1 = .ok (.istore_n 2, 1) := by decide +kernel
theorem dX0_thoseWho_2 : decode cX0_thoseWho 2 = .ok (.iconst 1, 1) := by decide +kernel
theorem dX0_thoseWho_3 : decode cX0_thoseWho 3 = .ok (.istore_n 3, 1) := by decide +kernel
theorem dX0_thoseWho_4 : decode cX0_thoseWho 4 = .ok (.iload_n 3, 1) := by decide +kernel
theorem dX0_thoseWho_5 : decode cX0_thoseWho 5 = .ok (.bipush 10, 2) := by decide +kernel
theorem dX0_thoseWho_7 : decode cX0_thoseWho 7 = .ok (.if_icmp .ge 25, 3) := by decide +kernel
theorem dX0_thoseWho_10 : decode cX0_thoseWho 10 = .ok (.aload_n 0, 1) := by decide +kernel
theorem dX0_thoseWho_11 : decode cX0_thoseWho 11 = .ok (.getfield 25, 3) := by decide +kernel
theorem dX0_thoseWho_14 : decode cX0_thoseWho 14 = .ok (.iload_n 3, 1) := by decide +kernel
theorem dX0_thoseWho_15 : decode cX0_thoseWho 15 = .ok (.iaload, 1) := by decide +kernel
theorem dX0_thoseWho_16 : decode cX0_thoseWho 16 = .ok (.iload_n 1, 1) := by decide +kernel
theorem dX0_thoseWho_17 : decode cX0_thoseWho 17 = .ok (.if_icmp .ne 9, 3) := by decide +kernel
theorem dX0_thoseWho_20 : decode cX0_thoseWho 20 = .ok (.iload_n 2, 1) := by decide +kernel
theorem dX0_thoseWho_21 : decode cX0_thoseWho 21 = .ok (.iconst 1, 1) := by decide +kernel
theorem dX0_thoseWho_22 : decode cX0_thoseWho 22 = .ok (.iload_n 3, 1) := by decide +kernel
theorem dX0_thoseWho_23 : decode cX0_thoseWho 23 = .ok (.ishl, 1) := by decide +kernel
theorem dX0_thoseWho_24 : decode cX0_thoseWho 24 = .ok (.ior, 1) := by decide +kernel
theorem dX0_thoseWho_25 : decode cX0_thoseWho 25 = .ok (.istore_n 2, 1) := by decide +kernel
theorem dX0_thoseWho_26 : decode cX0_thoseWho 26 = .ok (.iinc 3 1, 3) := by decide +kernel
theorem dX0_thoseWho_29 : decode cX0_thoseWho 29 = .ok (.goto (-25), 3) := by decide +kernel
theorem dX0_thoseWho_32 : decode cX0_thoseWho 32 = .ok (.iload_n 2, 1) := by decide +kernel
theorem dX0_thoseWho_33 : decode cX0_thoseWho 33 = .ok (.ireturn, 1) := by decide +kernel
theorem dX0_cashInAll_0 : decode cX0_cashInAll 0 = .ok (.lconst 0, 1) := by decide +kernel
theorem dX0_cashInAll_1 : decode cX0_cashInAll 1 = .ok (.lstore_n 1, 1) := by decide +kernel
theorem dX0_cashInAll_2 : decode cX0_cashInAll 2 = .ok (.iconst 1, 1) := by decide +kernel
theorem dX0_cashInAll_3 : decode cX0_cashInAll 3 = .ok (.istore_n 3, 1) := by decide +kernel
theorem dX0_cashInAll_4 : decode cX0_cashInAll 4 = .ok (.iload_n 3, 1) := by decide +kernel
theorem dX0_cashInAll_5 : decode cX0_cashInAll 5 = .ok (.bipush 10, 2) := by decide +kernel
theorem dX0_cashInAll_7 : decode cX0_cashInAll 7 = .ok (.if_icmp .ge 19, 3) := by decide +kernel
theorem dX0_cashInAll_10 : decode cX0_cashInAll 10 = .ok (.lload_n 1, 1) := by decide +kernel
theorem dX0_cashInAll_11 : decode cX0_cashInAll 11 = .ok (.aload_n 0, 1) := by decide +kernel
theorem dX0_cashInAll_12 : decode cX0_cashInAll 12 = .ok (.getfield 29, 3) := by decide +kernel
theorem dX0_cashInAll_15 : decode cX0_cashInAll 15 = .ok (.iload_n 3, 1) := by decide +kernel
theorem dX0_cashInAll_16 : decode cX0_cashInAll 16 = .ok (.iaload, 1) := by decide +kernel
theorem dX0_cashInAll_17 : decode cX0_cashInAll 17 = .ok (.i2l, 1) := by decide +kernel
theorem dX0_cashInAll_18 : decode cX0_cashInAll 18 = .ok (.ladd, 1) := by decide +kernel
theorem dX0_cashInAll_19 : decode cX0_cashInAll 19 = .ok (.lstore_n 1, 1) := by decide +kernel
theorem dX0_cashInAll_20 : decode cX0_cashInAll 20 = .ok (.iinc 3 1, 3) := by decide +kernel
theorem dX0_cashInAll_23 : decode cX0_cashInAll 23 = .ok (.goto (-19), 3) := by decide +kernel
theorem dX0_cashInAll_26 : decode cX0_cashInAll 26 = .ok (.lload_n 1, 1) := by decide +kernel
theorem dX0_cashInAll_27 : decode cX0_cashInAll 27 = .ok (.lreturn, 1) := by decide +kernel
theorem dX0_canTake_0 : decode cX0_canTake 0 = .ok (.aload_n 0, 1) := by decide +kernel
theorem dX0_canTake_1 : decode cX0_canTake 1 = .ok (.getfield 12, 3) := by decide +kernel
theorem dX0_canTake_4 : decode cX0_canTake 4 = .ok (.getfield 176, 3) := by decide +kernel
theorem dX0_canTake_7 : decode cX0_canTake 7 = .ok (.iload_n 2, 1) := by decide +kernel
theorem dX0_canTake_8 : decode cX0_canTake 8 = .ok (.iaload, 1) := by decide +kernel
theorem dX0_canTake_9 : decode cX0_canTake 9 = .ok (.i2l, 1) := by decide +kernel
theorem dX0_canTake_10 : decode cX0_canTake 10 = .ok (.aload_n 0, 1) := by decide +kernel
theorem dX0_canTake_11 : decode cX0_canTake 11 = .ok (.getfield 21, 3) := by decide +kernel
theorem dX0_canTake_14 : decode cX0_canTake 14 = .ok (.getfield 131, 3) := by decide +kernel
theorem dX0_canTake_17 : decode cX0_canTake 17 = .ok (.iload_n 1, 1) := by decide +kernel
theorem dX0_canTake_18 : decode cX0_canTake 18 = .ok (.bipush 40, 2) := by decide +kernel
theorem dX0_canTake_20 : decode cX0_canTake 20 = .ok (.imul, 1) := by decide +kernel
theorem dX0_canTake_21 : decode cX0_canTake 21 = .ok (.iload_n 2, 1) := by decide +kernel
theorem dX0_canTake_22 : decode cX0_canTake 22 = .ok (.iadd, 1) := by decide +kernel
theorem dX0_canTake_23 : decode cX0_canTake 23 = .ok (.laload, 1) := by decide +kernel
theorem dX0_canTake_24 : decode cX0_canTake 24 = .ok (.lsub, 1) := by decide +kernel
theorem dX0_canTake_25 : decode cX0_canTake 25 = .ok (.lstore_n 3, 1) := by decide +kernel
theorem dX0_canTake_26 : decode cX0_canTake 26 = .ok (.aload_n 0, 1) := by decide +kernel
theorem dX0_canTake_27 : decode cX0_canTake 27 = .ok (.getfield 12, 3) := by decide +kernel
theorem dX0_canTake_30 : decode cX0_canTake 30 = .ok (.getfield 176, 3) := by decide +kernel
theorem dX0_canTake_33 : decode cX0_canTake 33 = .ok (.iload_n 2, 1) := by decide +kernel
theorem dX0_canTake_34 : decode cX0_canTake 34 = .ok (.iaload, 1) := by decide +kernel
theorem dX0_canTake_35 : decode cX0_canTake 35 = .ok (.i2l, 1) := by decide +kernel
theorem dX0_canTake_36 : decode cX0_canTake 36 = .ok (.aload_n 0, 1) := by decide +kernel
theorem dX0_canTake_37 : decode cX0_canTake 37 = .ok (.getfield 12, 3) := by decide +kernel
theorem dX0_canTake_40 : decode cX0_canTake 40 = .ok (.getfield 179, 3) := by decide +kernel
theorem dX0_canTake_43 : decode cX0_canTake 43 = .ok (.iload_n 2, 1) := by decide +kernel
theorem dX0_canTake_44 : decode cX0_canTake 44 = .ok (.iaload, 1) := by decide +kernel
theorem dX0_canTake_45 : decode cX0_canTake 45 = .ok (.i2l, 1) := by decide +kernel
theorem dX0_canTake_46 : decode cX0_canTake 46 = .ok (.lmul, 1) := by decide +kernel
theorem dX0_canTake_47 : decode cX0_canTake 47 = .ok (.aload_n 0, 1) := by decide +kernel
theorem dX0_canTake_48 : decode cX0_canTake 48 = .ok (.getfield 12, 3) := by decide +kernel
theorem dX0_canTake_51 : decode cX0_canTake 51 = .ok (.getfield 134, 3) := by decide +kernel
theorem dX0_canTake_54 : decode cX0_canTake 54 = .ok (.iload_n 2, 1) := by decide +kernel
theorem dX0_canTake_55 : decode cX0_canTake 55 = .ok (.laload, 1) := by decide +kernel
theorem dX0_canTake_56 : decode cX0_canTake 56 = .ok (.lsub, 1) := by decide +kernel
theorem dX0_canTake_57 : decode cX0_canTake 57 = .ok (.lstore 5, 2) := by decide +kernel
theorem dX0_canTake_59 : decode cX0_canTake 59 = .ok (.lload_n 3, 1) := by decide +kernel
theorem dX0_canTake_60 : decode cX0_canTake 60 = .ok (.lload 5, 2) := by decide +kernel
theorem dX0_canTake_62 : decode cX0_canTake 62 = .ok (.lcmp, 1) := by decide +kernel
theorem dX0_canTake_63 : decode cX0_canTake 63 = .ok (.ifCond .ge 7, 3) := by decide +kernel
theorem dX0_canTake_66 : decode cX0_canTake 66 = .ok (.lload_n 3, 1) := by decide +kernel
theorem dX0_canTake_67 : decode cX0_canTake 67 = .ok (.goto 5, 3) := by decide +kernel
theorem dX0_canTake_70 : decode cX0_canTake 70 = .ok (.lload 5, 2) := by decide +kernel
theorem dX0_canTake_72 : decode cX0_canTake 72 = .ok (.lreturn, 1) := by decide +kernel
theorem dX0_holeCanTake_0 : decode cX0_holeCanTake 0 = .ok (.aload_n 0, 1) := by decide +kernel
theorem dX0_holeCanTake_1 : decode cX0_holeCanTake 1 = .ok (.getfield 12, 3) := by decide +kernel
theorem dX0_holeCanTake_4 : decode cX0_holeCanTake 4 = .ok (.getfield 182, 3) := by decide +kernel
theorem dX0_holeCanTake_7 : decode cX0_holeCanTake 7 = .ok (.iload_n 2, 1) := by decide +kernel
theorem dX0_holeCanTake_8 : decode cX0_holeCanTake 8 = .ok (.iaload, 1) := by decide +kernel
theorem dX0_holeCanTake_9 : decode cX0_holeCanTake 9 = .ok (.iload_n 3, 1) := by decide +kernel
theorem dX0_holeCanTake_10 : decode cX0_holeCanTake 10 = .ok (.isub, 1) := by decide +kernel
theorem dX0_holeCanTake_11 : decode cX0_holeCanTake 11 = .ok (.i2l, 1) := by decide +kernel
theorem dX0_holeCanTake_12 : decode cX0_holeCanTake 12 = .ok (.aload_n 0, 1) := by decide +kernel
theorem dX0_holeCanTake_13 : decode cX0_holeCanTake 13 = .ok (.getfield 21, 3) := by decide +kernel
theorem dX0_holeCanTake_16 : decode cX0_holeCanTake 16 = .ok (.getfield 152, 3) := by decide +kernel
theorem dX0_holeCanTake_19 : decode cX0_holeCanTake 19 = .ok (.iload_n 1, 1) := by decide +kernel
theorem dX0_holeCanTake_20 : decode cX0_holeCanTake 20 = .ok (.bipush 40, 2) := by decide +kernel
theorem dX0_holeCanTake_22 : decode cX0_holeCanTake 22 = .ok (.imul, 1) := by decide +kernel
theorem dX0_holeCanTake_23 : decode cX0_holeCanTake 23 = .ok (.iload_n 2, 1) := by decide +kernel
theorem dX0_holeCanTake_24 : decode cX0_holeCanTake 24 = .ok (.iadd, 1) := by decide +kernel
theorem dX0_holeCanTake_25 : decode cX0_holeCanTake 25 = .ok (.laload, 1) := by decide +kernel
theorem dX0_holeCanTake_26 : decode cX0_holeCanTake 26 = .ok (.lsub, 1) := by decide +kernel
theorem dX0_holeCanTake_27 : decode cX0_holeCanTake 27 = .ok (.lstore 4, 2) := by decide +kernel
theorem dX0_holeCanTake_29 : decode cX0_holeCanTake 29 = .ok (.lload 4, 2) := by decide +kernel
theorem dX0_holeCanTake_31 : decode cX0_holeCanTake 31 = .ok (.lconst 0, 1) := by decide +kernel
theorem dX0_holeCanTake_32 : decode cX0_holeCanTake 32 = .ok (.lcmp, 1) := by decide +kernel
theorem dX0_holeCanTake_33 : decode cX0_holeCanTake 33 = .ok (.ifCond .le 8, 3) := by decide +kernel
theorem dX0_holeCanTake_36 : decode cX0_holeCanTake 36 = .ok (.lload 4, 2) := by decide +kernel
theorem dX0_holeCanTake_38 : decode cX0_holeCanTake 38 = .ok (.goto 4, 3) := by decide +kernel
theorem dX0_holeCanTake_41 : decode cX0_holeCanTake 41 = .ok (.lconst 0, 1) := by decide +kernel
theorem dX0_holeCanTake_42 : decode cX0_holeCanTake 42 = .ok (.lreturn, 1) := by decide +kernel
theorem dX0_roomOf_0 : decode cX0_roomOf 0 = .ok (.lconst 0, 1) := by decide +kernel
theorem dX0_roomOf_1 : decode cX0_roomOf 1 = .ok (.lstore_n 3, 1) := by decide +kernel
theorem dX0_roomOf_2 : decode cX0_roomOf 2 = .ok (.iconst 0, 1) := by decide +kernel
theorem dX0_roomOf_3 : decode cX0_roomOf 3 = .ok (.istore 5, 2) := by decide +kernel
theorem dX0_roomOf_5 : decode cX0_roomOf 5 = .ok (.iconst 0, 1) := by decide +kernel
theorem dX0_roomOf_6 : decode cX0_roomOf 6 = .ok (.istore 6, 2) := by decide +kernel
theorem dX0_roomOf_8 : decode cX0_roomOf 8 = .ok (.iload 6, 2) := by decide +kernel
theorem dX0_roomOf_10 : decode cX0_roomOf 10 = .ok (.aload_n 0, 1) := by decide +kernel
theorem dX0_roomOf_11 : decode cX0_roomOf 11 = .ok (.getfield 12, 3) := by decide +kernel
theorem dX0_roomOf_14 : decode cX0_roomOf 14 = .ok (.getfield 185, 3) := by decide +kernel
theorem dX0_roomOf_17 : decode cX0_roomOf 17 = .ok (.iload_n 2, 1) := by decide +kernel
theorem dX0_roomOf_18 : decode cX0_roomOf 18 = .ok (.iaload, 1) := by decide +kernel
theorem dX0_roomOf_19 : decode cX0_roomOf 19 = .ok (.if_icmp .ge 69, 3) := by decide +kernel
theorem dX0_roomOf_22 : decode cX0_roomOf 22 = .ok (.aload_n 0, 1) := by decide +kernel
theorem dX0_roomOf_23 : decode cX0_roomOf 23 = .ok (.getfield 12, 3) := by decide +kernel
theorem dX0_roomOf_26 : decode cX0_roomOf 26 = .ok (.getfield 188, 3) := by decide +kernel
theorem dX0_roomOf_29 : decode cX0_roomOf 29 = .ok (.iload_n 2, 1) := by decide +kernel
theorem dX0_roomOf_30 : decode cX0_roomOf 30 = .ok (.bipush 6, 2) := by decide +kernel
theorem dX0_roomOf_32 : decode cX0_roomOf 32 = .ok (.imul, 1) := by decide +kernel
theorem dX0_roomOf_33 : decode cX0_roomOf 33 = .ok (.iload 6, 2) := by decide +kernel
theorem dX0_roomOf_35 : decode cX0_roomOf 35 = .ok (.iadd, 1) := by decide +kernel
theorem dX0_roomOf_36 : decode cX0_roomOf 36 = .ok (.iaload, 1) := by decide +kernel
theorem dX0_roomOf_37 : decode cX0_roomOf 37 = .ok (.istore 7, 2) := by decide +kernel
theorem dX0_roomOf_39 : decode cX0_roomOf 39 = .ok (.lload_n 3, 1) := by decide +kernel
theorem dX0_roomOf_40 : decode cX0_roomOf 40 = .ok (.aload_n 0, 1) := by decide +kernel
theorem dX0_roomOf_41 : decode cX0_roomOf 41 = .ok (.iload_n 1, 1) := by decide +kernel
theorem dX0_roomOf_42 : decode cX0_roomOf 42 = .ok (.iload 7, 2) := by decide +kernel
theorem dX0_roomOf_44 : decode cX0_roomOf 44 = .ok (.iload 5, 2) := by decide +kernel
theorem dX0_roomOf_46 : decode cX0_roomOf 46 = .ok (.invokevirtual 191, 3) := by decide +kernel
theorem dX0_roomOf_49 : decode cX0_roomOf 49 = .ok (.aload_n 0, 1) := by decide +kernel
theorem dX0_roomOf_50 : decode cX0_roomOf 50 = .ok (.iload_n 1, 1) := by decide +kernel
theorem dX0_roomOf_51 : decode cX0_roomOf 51 = .ok (.iload 7, 2) := by decide +kernel
theorem dX0_roomOf_53 : decode cX0_roomOf 53 = .ok (.invokevirtual 195, 3) := by decide +kernel
theorem dX0_roomOf_56 : decode cX0_roomOf 56 = .ok (.ladd, 1) := by decide +kernel
theorem dX0_roomOf_57 : decode cX0_roomOf 57 = .ok (.ladd, 1) := by decide +kernel
theorem dX0_roomOf_58 : decode cX0_roomOf 58 = .ok (.lstore_n 3, 1) := by decide +kernel
theorem dX0_roomOf_59 : decode cX0_roomOf 59 = .ok (.aload_n 0, 1) := by decide +kernel
theorem dX0_roomOf_60 : decode cX0_roomOf 60 = .ok (.getfield 12, 3) := by decide +kernel
theorem dX0_roomOf_63 : decode cX0_roomOf 63 = .ok (.getfield 182, 3) := by decide +kernel
theorem dX0_roomOf_66 : decode cX0_roomOf 66 = .ok (.iload 7, 2) := by decide +kernel
theorem dX0_roomOf_68 : decode cX0_roomOf 68 = .ok (.iaload, 1) := by decide +kernel
theorem dX0_roomOf_69 : decode cX0_roomOf 69 = .ok (.aload_n 0, 1) := by decide +kernel
theorem dX0_roomOf_70 : decode cX0_roomOf 70 = .ok (.getfield 12, 3) := by decide +kernel
theorem dX0_roomOf_73 : decode cX0_roomOf 73 = .ok (.getfield 176, 3) := by decide +kernel
theorem dX0_roomOf_76 : decode cX0_roomOf 76 = .ok (.iload 7, 2) := by decide +kernel
theorem dX0_roomOf_78 : decode cX0_roomOf 78 = .ok (.iaload, 1) := by decide +kernel
theorem dX0_roomOf_79 : decode cX0_roomOf 79 = .ok (.iadd, 1) := by decide +kernel
theorem dX0_roomOf_80 : decode cX0_roomOf 80 = .ok (.istore 5, 2) := by decide +kernel
theorem dX0_roomOf_82 : decode cX0_roomOf 82 = .ok (.iinc 6 1, 3) := by decide +kernel
theorem dX0_roomOf_85 : decode cX0_roomOf 85 = .ok (.goto (-77), 3) := by decide +kernel
theorem dX0_roomOf_88 : decode cX0_roomOf 88 = .ok (.lload_n 3, 1) := by decide +kernel
theorem dX0_roomOf_89 : decode cX0_roomOf 89 = .ok (.lreturn, 1) := by decide +kernel
theorem dX0_roomBelow_0 : decode cX0_roomBelow 0 = .ok (.aload_n 0, 1) := by decide +kernel
theorem dX0_roomBelow_1 : decode cX0_roomBelow 1 = .ok (.getfield 12, 3) := by decide +kernel
theorem dX0_roomBelow_4 : decode cX0_roomBelow 4 = .ok (.getfield 199, 3) := by decide +kernel
theorem dX0_roomBelow_7 : decode cX0_roomBelow 7 = .ok (.iload_n 1, 1) := by decide +kernel
theorem dX0_roomBelow_8 : decode cX0_roomBelow 8 = .ok (.iaload, 1) := by decide +kernel
theorem dX0_roomBelow_9 : decode cX0_roomBelow 9 = .ok (.istore_n 2, 1) := by decide +kernel
theorem dX0_roomBelow_10 : decode cX0_roomBelow 10 = .ok (.lconst 0, 1) := by decide +kernel
theorem dX0_roomBelow_11 : decode cX0_roomBelow 11 = .ok (.lstore_n 3, 1) := by decide +kernel
theorem dX0_roomBelow_12 : decode cX0_roomBelow 12 = .ok (.iconst 0, 1) := by decide +kernel
theorem dX0_roomBelow_13 : decode cX0_roomBelow 13 = .ok (.istore 5, 2) := by decide +kernel
theorem dX0_roomBelow_15 : decode cX0_roomBelow 15 = .ok (.iload 5, 2) := by decide +kernel
theorem dX0_roomBelow_17 : decode cX0_roomBelow 17 = .ok (.aload_n 0, 1) := by decide +kernel
theorem dX0_roomBelow_18 : decode cX0_roomBelow 18 = .ok (.getfield 12, 3) := by decide +kernel
theorem dX0_roomBelow_21 : decode cX0_roomBelow 21 = .ok (.getfield 185, 3) := by decide +kernel
theorem dX0_roomBelow_24 : decode cX0_roomBelow 24 = .ok (.iload_n 2, 1) := by decide +kernel
theorem dX0_roomBelow_25 : decode cX0_roomBelow 25 = .ok (.iaload, 1) := by decide +kernel
theorem dX0_roomBelow_26 : decode cX0_roomBelow 26 = .ok (.if_icmp .ge 90, 3) := by decide +kernel
theorem dX0_roomBelow_29 : decode cX0_roomBelow 29 = .ok (.aload_n 0, 1) := by decide +kernel
theorem dX0_roomBelow_30 : decode cX0_roomBelow 30 = .ok (.getfield 12, 3) := by decide +kernel
theorem dX0_roomBelow_33 : decode cX0_roomBelow 33 = .ok (.iload_n 2, 1) := by decide +kernel
theorem dX0_roomBelow_34 : decode cX0_roomBelow 34 = .ok (.iload 5, 2) := by decide +kernel
theorem dX0_roomBelow_36 : decode cX0_roomBelow 36 = .ok (.invokevirtual 202, 3) := by decide +kernel
theorem dX0_roomBelow_39 : decode cX0_roomBelow 39 = .ok (.istore 6, 2) := by decide +kernel
theorem dX0_roomBelow_41 : decode cX0_roomBelow 41 = .ok (.aload_n 0, 1) := by decide +kernel
theorem dX0_roomBelow_42 : decode cX0_roomBelow 42 = .ok (.getfield 12, 3) := by decide +kernel
theorem dX0_roomBelow_45 : decode cX0_roomBelow 45 = .ok (.getfield 182, 3) := by decide +kernel
theorem dX0_roomBelow_48 : decode cX0_roomBelow 48 = .ok (.iload 6, 2) := by decide +kernel
theorem dX0_roomBelow_50 : decode cX0_roomBelow 50 = .ok (.iaload, 1) := by decide +kernel
theorem dX0_roomBelow_51 : decode cX0_roomBelow 51 = .ok (.aload_n 0, 1) := by decide +kernel
theorem dX0_roomBelow_52 : decode cX0_roomBelow 52 = .ok (.getfield 12, 3) := by decide +kernel
theorem dX0_roomBelow_55 : decode cX0_roomBelow 55 = .ok (.getfield 182, 3) := by decide +kernel
theorem dX0_roomBelow_58 : decode cX0_roomBelow 58 = .ok (.iload_n 1, 1) := by decide +kernel
theorem dX0_roomBelow_59 : decode cX0_roomBelow 59 = .ok (.iaload, 1) := by decide +kernel
theorem dX0_roomBelow_60 : decode cX0_roomBelow 60 = .ok (.if_icmp .gt 17, 3) := by decide +kernel
theorem dX0_roomBelow_63 : decode cX0_roomBelow 63 = .ok (.lload_n 3, 1) := by decide +kernel
theorem dX0_roomBelow_64 : decode cX0_roomBelow 64 = .ok (.aload_n 0, 1) := by decide +kernel
theorem dX0_roomBelow_65 : decode cX0_roomBelow 65 = .ok (.getfield 12, 3) := by decide +kernel
theorem dX0_roomBelow_68 : decode cX0_roomBelow 68 = .ok (.iload_n 2, 1) := by decide +kernel
theorem dX0_roomBelow_69 : decode cX0_roomBelow 69 = .ok (.iload 5, 2) := by decide +kernel
theorem dX0_roomBelow_71 : decode cX0_roomBelow 71 = .ok (.invokevirtual 205, 3) := by decide +kernel
theorem dX0_roomBelow_74 : decode cX0_roomBelow 74 = .ok (.i2l, 1) := by decide +kernel
theorem dX0_roomBelow_75 : decode cX0_roomBelow 75 = .ok (.ladd, 1) := by decide +kernel
theorem dX0_roomBelow_76 : decode cX0_roomBelow 76 = .ok (.lstore_n 3, 1) := by decide +kernel
theorem dX0_roomBelow_77 : decode cX0_roomBelow 77 = .ok (.aload_n 0, 1) := by decide +kernel
theorem dX0_roomBelow_78 : decode cX0_roomBelow 78 = .ok (.getfield 12, 3) := by decide +kernel
theorem dX0_roomBelow_81 : decode cX0_roomBelow 81 = .ok (.getfield 182, 3) := by decide +kernel
theorem dX0_roomBelow_84 : decode cX0_roomBelow 84 = .ok (.iload 6, 2) := by decide +kernel
theorem dX0_roomBelow_86 : decode cX0_roomBelow 86 = .ok (.iaload, 1) := by decide +kernel
theorem dX0_roomBelow_87 : decode cX0_roomBelow 87 = .ok (.aload_n 0, 1) := by decide +kernel
theorem dX0_roomBelow_88 : decode cX0_roomBelow 88 = .ok (.getfield 12, 3) := by decide +kernel
theorem dX0_roomBelow_91 : decode cX0_roomBelow 91 = .ok (.getfield 182, 3) := by decide +kernel
theorem dX0_roomBelow_94 : decode cX0_roomBelow 94 = .ok (.iload_n 1, 1) := by decide +kernel
theorem dX0_roomBelow_95 : decode cX0_roomBelow 95 = .ok (.iaload, 1) := by decide +kernel
theorem dX0_roomBelow_96 : decode cX0_roomBelow 96 = .ok (.if_icmp .ge 14, 3) := by decide +kernel
theorem dX0_roomBelow_99 : decode cX0_roomBelow 99 = .ok (.lload_n 3, 1) := by decide +kernel
theorem dX0_roomBelow_100 : decode cX0_roomBelow 100 = .ok (.aload_n 0, 1) := by decide +kernel
theorem dX0_roomBelow_101 : decode cX0_roomBelow 101 = .ok (.bipush 24, 2) := by decide +kernel
theorem dX0_roomBelow_103 : decode cX0_roomBelow 103 = .ok (.iload 6, 2) := by decide +kernel
theorem dX0_roomBelow_105 : decode cX0_roomBelow 105 = .ok (.invokevirtual 195, 3) := by decide +kernel
theorem dX0_roomBelow_108 : decode cX0_roomBelow 108 = .ok (.ladd, 1) := by decide +kernel
theorem dX0_roomBelow_109 : decode cX0_roomBelow 109 = .ok (.lstore_n 3, 1) := by decide +kernel
theorem dX0_roomBelow_110 : decode cX0_roomBelow 110 = .ok (.iinc 5 1, 3) := by decide +kernel
theorem dX0_roomBelow_113 : decode cX0_roomBelow 113 = .ok (.goto (-98), 3) := by decide +kernel
theorem dX0_roomBelow_116 : decode cX0_roomBelow 116 = .ok (.lload_n 3, 1) := by decide +kernel
theorem dX0_roomBelow_117 : decode cX0_roomBelow 117 = .ok (.lreturn, 1) := by decide +kernel
theorem dX1_init_0 : decode cX1_init 0 = .ok (.aload_n 0, 1) := by decide +kernel
theorem dX1_init_1 : decode cX1_init 1 = .ok (.invokespecial 3, 3) := by decide +kernel
theorem dX1_init_4 : decode cX1_init 4 = .ok (.aload_n 0, 1) := by decide +kernel
theorem dX1_init_5 : decode cX1_init 5 = .ok (.bipush 24, 2) := by decide +kernel
theorem dX1_init_7 : decode cX1_init 7 = .ok (.newarray .boolean, 2) := by decide +kernel
theorem dX1_init_9 : decode cX1_init 9 = .ok (.putfield 9, 3) := by decide +kernel
theorem dX1_init_12 : decode cX1_init 12 = .ok (.aload_n 0, 1) := by decide +kernel
theorem dX1_init_13 : decode cX1_init 13 = .ok (.bipush 24, 2) := by decide +kernel
theorem dX1_init_15 : decode cX1_init 15 = .ok (.newarray .int, 2) := by decide +kernel
theorem dX1_init_17 : decode cX1_init 17 = .ok (.putfield 15, 3) := by decide +kernel
theorem dX1_init_20 : decode cX1_init 20 = .ok (.aload_n 0, 1) := by decide +kernel
theorem dX1_init_21 : decode cX1_init 21 = .ok (.bipush 24, 2) := by decide +kernel
theorem dX1_init_23 : decode cX1_init 23 = .ok (.newarray .int, 2) := by decide +kernel
theorem dX1_init_25 : decode cX1_init 25 = .ok (.putfield 19, 3) := by decide +kernel
theorem dX1_init_28 : decode cX1_init 28 = .ok (.aload_n 0, 1) := by decide +kernel
theorem dX1_init_29 : decode cX1_init 29 = .ok (.bipush 24, 2) := by decide +kernel
theorem dX1_init_31 : decode cX1_init 31 = .ok (.newarray .int, 2) := by decide +kernel
theorem dX1_init_33 : decode cX1_init 33 = .ok (.putfield 22, 3) := by decide +kernel
theorem dX1_init_36 : decode cX1_init 36 = .ok (.aload_n 0, 1) := by decide +kernel
theorem dX1_init_37 : decode cX1_init 37 = .ok (.bipush 24, 2) := by decide +kernel
theorem dX1_init_39 : decode cX1_init 39 = .ok (.newarray .long, 2) := by decide +kernel
theorem dX1_init_41 : decode cX1_init 41 = .ok (.putfield 25, 3) := by decide +kernel
theorem dX1_init_44 : decode cX1_init 44 = .ok (.aload_n 0, 1) := by decide +kernel
theorem dX1_init_45 : decode cX1_init 45 = .ok (.bipush 24, 2) := by decide +kernel
theorem dX1_init_47 : decode cX1_init 47 = .ok (.newarray .int, 2) := by decide +kernel
theorem dX1_init_49 : decode cX1_init 49 = .ok (.putfield 29, 3) := by decide +kernel
theorem dX1_init_52 : decode cX1_init 52 = .ok (.aload_n 0, 1) := by decide +kernel
theorem dX1_init_53 : decode cX1_init 53 = .ok (.sipush 1000, 3) := by decide +kernel
theorem dX1_init_56 : decode cX1_init 56 = .ok (.newarray .long, 2) := by decide +kernel
theorem dX1_init_58 : decode cX1_init 58 = .ok (.putfield 32, 3) := by decide +kernel
theorem dX1_init_61 : decode cX1_init 61 = .ok (.aload_n 0, 1) := by decide +kernel
theorem dX1_init_62 : decode cX1_init 62 = .ok (.sipush 1000, 3) := by decide +kernel
theorem dX1_init_65 : decode cX1_init 65 = .ok (.newarray .long, 2) := by decide +kernel
theorem dX1_init_67 : decode cX1_init 67 = .ok (.putfield 35, 3) := by decide +kernel
theorem dX1_init_70 : decode cX1_init 70 = .ok (.aload_n 0, 1) := by decide +kernel
theorem dX1_init_71 : decode cX1_init 71 = .ok (.sipush 960, 3) := by decide +kernel
theorem dX1_init_74 : decode cX1_init 74 = .ok (.newarray .long, 2) := by decide +kernel
theorem dX1_init_76 : decode cX1_init 76 = .ok (.putfield 38, 3) := by decide +kernel
theorem dX1_init_79 : decode cX1_init 79 = .ok (.aload_n 0, 1) := by decide +kernel
theorem dX1_init_80 : decode cX1_init 80 = .ok (.sipush 3840, 3) := by decide +kernel
theorem dX1_init_83 : decode cX1_init 83 = .ok (.newarray .long, 2) := by decide +kernel
theorem dX1_init_85 : decode cX1_init 85 = .ok (.putfield 41, 3) := by decide +kernel
theorem dX1_init_88 : decode cX1_init 88 = .ok (.aload_n 0, 1) := by decide +kernel
theorem dX1_init_89 : decode cX1_init 89 = .ok (.sipush 240, 3) := by decide +kernel
theorem dX1_init_92 : decode cX1_init 92 = .ok (.newarray .long, 2) := by decide +kernel
theorem dX1_init_94 : decode cX1_init 94 = .ok (.putfield 44, 3) := by decide +kernel
theorem dX1_init_97 : decode cX1_init 97 = .ok (.aload_n 0, 1) := by decide +kernel
theorem dX1_init_98 : decode cX1_init 98 = .ok (.sipush 168, 3) := by decide +kernel
theorem dX1_init_101 : decode cX1_init 101 = .ok (.newarray .long, 2) := by decide +kernel
theorem dX1_init_103 : decode cX1_init 103 = .ok (.putfield 47, 3) := by decide +kernel
theorem dX1_init_106 : decode cX1_init 106 = .ok (.return_, 1) := by decide +kernel
theorem dX1_clear_0 : decode cX1_clear 0 = .ok (.iconst 0, 1) := by decide +kernel
theorem dX1_clear_1 : decode cX1_clear 1 = .ok (.istore_n 1, 1) := by decide +kernel
theorem dX1_clear_2 : decode cX1_clear 2 = .ok (.iload_n 1, 1) := by decide +kernel
theorem dX1_clear_3 : decode cX1_clear 3 = .ok (.bipush 24, 2) := by decide +kernel
theorem dX1_clear_5 : decode cX1_clear 5 = .ok (.if_icmp .ge 16, 3) := by decide +kernel
theorem dX1_clear_8 : decode cX1_clear 8 = .ok (.aload_n 0, 1) := by decide +kernel
theorem dX1_clear_9 : decode cX1_clear 9 = .ok (.getfield 9, 3) := by decide +kernel
theorem dX1_clear_12 : decode cX1_clear 12 = .ok (.iload_n 1, 1) := by decide +kernel
theorem dX1_clear_13 : decode cX1_clear 13 = .ok (.iconst 0, 1) := by decide +kernel
theorem dX1_clear_14 : decode cX1_clear 14 = .ok (.bastore, 1) := by decide +kernel
theorem dX1_clear_15 : decode cX1_clear 15 = .ok (.iinc 1 1, 3) := by decide +kernel
theorem dX1_clear_18 : decode cX1_clear 18 = .ok (.goto (-16), 3) := by decide +kernel
theorem dX1_clear_21 : decode cX1_clear 21 = .ok (.aload_n 0, 1) := by decide +kernel
theorem dX1_clear_22 : decode cX1_clear 22 = .ok (.iconst 0, 1) := by decide +kernel
theorem dX1_clear_23 : decode cX1_clear 23 = .ok (.putfield 50, 3) := by decide +kernel
theorem dX1_clear_26 : decode cX1_clear 26 = .ok (.return_, 1) := by decide +kernel
theorem dX1_put_0 : decode cX1_put 0 = .ok (.iload_n 1, 1) := by decide +kernel
theorem dX1_put_1 : decode cX1_put 1 = .ok (.bipush 24, 2) := by decide +kernel
theorem dX1_put_3 : decode cX1_put 3 = .ok (.if_icmp .lt 5, 3) := by decide +kernel
theorem dX1_put_6 : decode cX1_put 6 = .ok (.iconst 0, 1) := by decide +kernel
theorem dX1_put_7 : decode cX1_put 7 = .ok (.ireturn, 1) := by decide +kernel
theorem dX1_put_8 : decode cX1_put 8 = .ok (.aload_n 0, 1) := by decide +kernel
theorem dX1_put_9 : decode cX1_put 9 = .ok (.getfield 9, 3) := by decide +kernel
theorem dX1_put_12 : decode cX1_put 12 = .ok (.iload_n 1, 1) := by decide +kernel
theorem dX1_put_13 : decode cX1_put 13 = .ok (.iconst 1, 1) := by decide +kernel
theorem dX1_put_14 : decode cX1_put 14 = .ok (.bastore, 1) := by decide +kernel
theorem dX1_put_15 : decode cX1_put 15 = .ok (.aload_n 0, 1) := by decide +kernel
theorem dX1_put_16 : decode cX1_put 16 = .ok (.getfield 15, 3) := by decide +kernel
theorem dX1_put_19 : decode cX1_put 19 = .ok (.iload_n 1, 1) := by decide +kernel
theorem dX1_put_20 : decode cX1_put 20 = .ok (.iload_n 2, 1) := by decide +kernel
theorem dX1_put_21 : decode cX1_put 21 = .ok (.iastore, 1) := by decide +kernel
theorem dX1_put_22 : decode cX1_put 22 = .ok (.aload_n 0, 1) := by decide +kernel
theorem dX1_put_23 : decode cX1_put 23 = .ok (.getfield 19, 3) := by decide +kernel
theorem dX1_put_26 : decode cX1_put 26 = .ok (.iload_n 1, 1) := by decide +kernel
theorem dX1_put_27 : decode cX1_put 27 = .ok (.iload_n 3, 1) := by decide +kernel
theorem dX1_put_28 : decode cX1_put 28 = .ok (.iastore, 1) := by decide +kernel
theorem dX1_put_29 : decode cX1_put 29 = .ok (.aload_n 0, 1) := by decide +kernel
theorem dX1_put_30 : decode cX1_put 30 = .ok (.getfield 22, 3) := by decide +kernel
theorem dX1_put_33 : decode cX1_put 33 = .ok (.iload_n 1, 1) := by decide +kernel
theorem dX1_put_34 : decode cX1_put 34 = .ok (.iload 4, 2) := by decide +kernel
theorem dX1_put_36 : decode cX1_put 36 = .ok (.iastore, 1) := by decide +kernel
theorem dX1_put_37 : decode cX1_put 37 = .ok (.aload_n 0, 1) := by decide +kernel
theorem dX1_put_38 : decode cX1_put 38 = .ok (.getfield 25, 3) := by decide +kernel
theorem dX1_put_41 : decode cX1_put 41 = .ok (.iload_n 1, 1) := by decide +kernel
theorem dX1_put_42 : decode cX1_put 42 = .ok (.iload 5, 2) := by decide +kernel
theorem dX1_put_44 : decode cX1_put 44 = .ok (.i2l, 1) := by decide +kernel
theorem dX1_put_45 : decode cX1_put 45 = .ok (.lastore, 1) := by decide +kernel
theorem dX1_put_46 : decode cX1_put 46 = .ok (.aload_n 0, 1) := by decide +kernel
theorem dX1_put_47 : decode cX1_put 47 = .ok (.getfield 29, 3) := by decide +kernel
theorem dX1_put_50 : decode cX1_put 50 = .ok (.iload_n 1, 1) := by decide +kernel
theorem dX1_put_51 : decode cX1_put 51 = .ok (.iconst 0, 1) := by decide +kernel
theorem dX1_put_52 : decode cX1_put 52 = .ok (.iastore, 1) := by decide +kernel
theorem dX1_put_53 : decode cX1_put 53 = .ok (.aload_n 0, 1) := by decide +kernel
theorem dX1_put_54 : decode cX1_put 54 = .ok (.iload_n 1, 1) := by decide +kernel
theorem dX1_put_55 : decode cX1_put 55 = .ok (.invokevirtual 54, 3) := by decide +kernel
theorem dX1_put_58 : decode cX1_put 58 = .ok (.aload_n 0, 1) := by decide +kernel
theorem dX1_put_59 : decode cX1_put 59 = .ok (.aload_n 0, 1) := by decide +kernel
theorem dX1_put_60 : decode cX1_put 60 = .ok (.getfield 50, 3) := by decide +kernel
theorem dX1_put_63 : decode cX1_put 63 = .ok (.iload_n 1, 1) := by decide +kernel
theorem dX1_put_64 : decode cX1_put 64 = .ok (.iconst 1, 1) := by decide +kernel
theorem dX1_put_65 : decode cX1_put 65 = .ok (.iadd, 1) := by decide +kernel
theorem dX1_put_66 : decode cX1_put 66 = .ok (.invokestatic 58, 3) := by decide +kernel
theorem dX1_put_69 : decode cX1_put 69 = .ok (.putfield 50, 3) := by decide +kernel
theorem dX1_put_72 : decode cX1_put 72 = .ok (.iconst 1, 1) := by decide +kernel
theorem dX1_put_73 : decode cX1_put 73 = .ok (.ireturn, 1) := by decide +kernel
theorem dX1_addLoss_0 : decode cX1_addLoss 0 = .ok (.aload_n 0, 1) := by decide +kernel
theorem dX1_addLoss_1 : decode cX1_addLoss 1 = .ok (.getfield 9, 3) := by decide +kernel
theorem dX1_addLoss_4 : decode cX1_addLoss 4 = .ok (.iload_n 1, 1) := by decide +kernel
theorem dX1_addLoss_5 : decode cX1_addLoss 5 = .ok (.baload, 1) := by decide +kernel
theorem dX1_addLoss_6 : decode cX1_addLoss 6 = .ok (.ifCond .ne 5, 3) := by decide +kernel
theorem dX1_addLoss_9 : decode cX1_addLoss 9 = .ok (.iconst 0, 1) := by decide +kernel
theorem dX1_addLoss_10 : decode cX1_addLoss 10 = .ok (.ireturn, 1) := by decide +kernel
theorem dX1_addLoss_11 : decode cX1_addLoss 11 = .ok (.aload_n 0, 1) := by decide +kernel
theorem dX1_addLoss_12 : decode cX1_addLoss 12 = .ok (.getfield 25, 3) := by decide +kernel
theorem dX1_addLoss_15 : decode cX1_addLoss 15 = .ok (.iload_n 1, 1) := by decide +kernel
theorem dX1_addLoss_16 : decode cX1_addLoss 16 = .ok (.dup2, 1) := by decide +kernel
theorem dX1_addLoss_17 : decode cX1_addLoss 17 = .ok (.laload, 1) := by decide +kernel
theorem dX1_addLoss_18 : decode cX1_addLoss 18 = .ok (.iload_n 2, 1) := by decide +kernel
theorem dX1_addLoss_19 : decode cX1_addLoss 19 = .ok (.i2l, 1) := by decide +kernel
theorem dX1_addLoss_20 : decode cX1_addLoss 20 = .ok (.ladd, 1) := by decide +kernel
theorem dX1_addLoss_21 : decode cX1_addLoss 21 = .ok (.lastore, 1) := by decide +kernel
theorem dX1_addLoss_22 : decode cX1_addLoss 22 = .ok (.aload_n 0, 1) := by decide +kernel
theorem dX1_addLoss_23 : decode cX1_addLoss 23 = .ok (.getfield 29, 3) := by decide +kernel
theorem dX1_addLoss_26 : decode cX1_addLoss 26 = .ok (.iload_n 1, 1) := by decide +kernel
theorem dX1_addLoss_27 : decode cX1_addLoss 27 = .ok (.dup2, 1) := by decide +kernel
theorem dX1_addLoss_28 : decode cX1_addLoss 28 = .ok (.iaload, 1) := by decide +kernel
theorem dX1_addLoss_29 : decode cX1_addLoss 29 = .ok (.iconst 1, 1) := by decide +kernel
theorem dX1_addLoss_30 : decode cX1_addLoss 30 = .ok (.iadd, 1) := by decide +kernel
theorem dX1_addLoss_31 : decode cX1_addLoss 31 = .ok (.iastore, 1) := by decide +kernel
theorem dX1_addLoss_32 : decode cX1_addLoss 32 = .ok (.iconst 1, 1) := by decide +kernel
theorem dX1_addLoss_33 : decode cX1_addLoss 33 = .ok (.ireturn, 1) := by decide +kernel
theorem dX1_clearRows_0 : decode cX1_clearRows 0 = .ok (.aload_n 0, 1) := by decide +kernel
theorem dX1_clearRows_1 : decode cX1_clearRows 1 = .ok (.getfield 32, 3) := by decide +kernel
theorem dX1_clearRows_4 : decode cX1_clearRows 4 = .ok (.iload_n 1, 1) := by decide +kernel
theorem dX1_clearRows_5 : decode cX1_clearRows 5 = .ok (.bipush 40, 2) := by decide +kernel
theorem dX1_clearRows_7 : decode cX1_clearRows 7 = .ok (.invokestatic 64, 3) := by decide +kernel
theorem dX1_clearRows_10 : decode cX1_clearRows 10 = .ok (.aload_n 0, 1) := by decide +kernel
theorem dX1_clearRows_11 : decode cX1_clearRows 11 = .ok (.getfield 35, 3) := by decide +kernel
theorem dX1_clearRows_14 : decode cX1_clearRows 14 = .ok (.iload_n 1, 1) := by decide +kernel
theorem dX1_clearRows_15 : decode cX1_clearRows 15 = .ok (.bipush 40, 2) := by decide +kernel
theorem dX1_clearRows_17 : decode cX1_clearRows 17 = .ok (.invokestatic 64, 3) := by decide +kernel
theorem dX1_clearRows_20 : decode cX1_clearRows 20 = .ok (.aload_n 0, 1) := by decide +kernel
theorem dX1_clearRows_21 : decode cX1_clearRows 21 = .ok (.getfield 38, 3) := by decide +kernel
theorem dX1_clearRows_24 : decode cX1_clearRows 24 = .ok (.iload_n 1, 1) := by decide +kernel
theorem dX1_clearRows_25 : decode cX1_clearRows 25 = .ok (.bipush 40, 2) := by decide +kernel
theorem dX1_clearRows_27 : decode cX1_clearRows 27 = .ok (.invokestatic 64, 3) := by decide +kernel
theorem dX1_clearRows_30 : decode cX1_clearRows 30 = .ok (.aload_n 0, 1) := by decide +kernel
theorem dX1_clearRows_31 : decode cX1_clearRows 31 = .ok (.getfield 41, 3) := by decide +kernel
theorem dX1_clearRows_34 : decode cX1_clearRows 34 = .ok (.iload_n 1, 1) := by decide +kernel
theorem dX1_clearRows_35 : decode cX1_clearRows 35 = .ok (.sipush 160, 3) := by decide +kernel
theorem dX1_clearRows_38 : decode cX1_clearRows 38 = .ok (.invokestatic 64, 3) := by decide +kernel
theorem dX1_clearRows_41 : decode cX1_clearRows 41 = .ok (.aload_n 0, 1) := by decide +kernel
theorem dX1_clearRows_42 : decode cX1_clearRows 42 = .ok (.getfield 44, 3) := by decide +kernel
theorem dX1_clearRows_45 : decode cX1_clearRows 45 = .ok (.iload_n 1, 1) := by decide +kernel
theorem dX1_clearRows_46 : decode cX1_clearRows 46 = .ok (.bipush 10, 2) := by decide +kernel
theorem dX1_clearRows_48 : decode cX1_clearRows 48 = .ok (.invokestatic 64, 3) := by decide +kernel
theorem dX1_clearRows_51 : decode cX1_clearRows 51 = .ok (.aload_n 0, 1) := by decide +kernel
theorem dX1_clearRows_52 : decode cX1_clearRows 52 = .ok (.getfield 47, 3) := by decide +kernel
theorem dX1_clearRows_55 : decode cX1_clearRows 55 = .ok (.iload_n 1, 1) := by decide +kernel
theorem dX1_clearRows_56 : decode cX1_clearRows 56 = .ok (.bipush 7, 2) := by decide +kernel
theorem dX1_clearRows_58 : decode cX1_clearRows 58 = .ok (.invokestatic 64, 3) := by decide +kernel
theorem dX1_clearRows_61 : decode cX1_clearRows 61 = .ok (.return_, 1) := by decide +kernel
theorem dX1_clearRow_0 : decode cX1_clearRow 0 = .ok (.iconst 0, 1) := by decide +kernel
theorem dX1_clearRow_1 : decode cX1_clearRow 1 = .ok (.istore_n 3, 1) := by decide +kernel
theorem dX1_clearRow_2 : decode cX1_clearRow 2 = .ok (.iload_n 3, 1) := by decide +kernel
theorem dX1_clearRow_3 : decode cX1_clearRow 3 = .ok (.iload_n 2, 1) := by decide +kernel
theorem dX1_clearRow_4 : decode cX1_clearRow 4 = .ok (.if_icmp .ge 17, 3) := by decide +kernel
theorem dX1_clearRow_7 : decode cX1_clearRow 7 = .ok (.aload_n 0, 1) := by decide +kernel
theorem dX1_clearRow_8 : decode cX1_clearRow 8 = .ok (.iload_n 1, 1) := by decide +kernel
theorem dX1_clearRow_9 : decode cX1_clearRow 9 = .ok (.iload_n 2, 1) := by decide +kernel
theorem dX1_clearRow_10 : decode cX1_clearRow 10 = .ok (.imul, 1) := by decide +kernel
theorem dX1_clearRow_11 : decode cX1_clearRow 11 = .ok (.iload_n 3, 1) := by decide +kernel
theorem dX1_clearRow_12 : decode cX1_clearRow 12 = .ok (.iadd, 1) := by decide +kernel
theorem dX1_clearRow_13 : decode cX1_clearRow 13 = .ok (.lconst 0, 1) := by decide +kernel
theorem dX1_clearRow_14 : decode cX1_clearRow 14 = .ok (.lastore, 1) := by decide +kernel
theorem dX1_clearRow_15 : decode cX1_clearRow 15 = .ok (.iinc 3 1, 3) := by decide +kernel
theorem dX1_clearRow_18 : decode cX1_clearRow 18 = .ok (.goto (-16), 3) := by decide +kernel
theorem dX1_clearRow_21 : decode cX1_clearRow 21 = .ok (.return_, 1) := by decide +kernel
theorem dX1_borneOf_0 : decode cX1_borneOf 0 = .ok (.aload_n 0, 1) := by decide +kernel
theorem dX1_borneOf_1 : decode cX1_borneOf 1 = .ok (.getfield 44, 3) := by decide +kernel
theorem dX1_borneOf_4 : decode cX1_borneOf 4 = .ok (.iload_n 1, 1) := by decide +kernel
theorem dX1_borneOf_5 : decode cX1_borneOf 5 = .ok (.bipush 10, 2) := by decide +kernel
theorem dX1_borneOf_7 : decode cX1_borneOf 7 = .ok (.imul, 1) := by decide +kernel
theorem dX1_borneOf_8 : decode cX1_borneOf 8 = .ok (.iload_n 2, 1) := by decide +kernel
theorem dX1_borneOf_9 : decode cX1_borneOf 9 = .ok (.iadd, 1) := by decide +kernel
theorem dX1_borneOf_10 : decode cX1_borneOf 10 = .ok (.laload, 1) := by decide +kernel
theorem dX1_borneOf_11 : decode cX1_borneOf 11 = .ok (.lreturn, 1) := by decide +kernel
theorem dX1_borneInAll_0 : decode cX1_borneInAll 0 = .ok (.lconst 0, 1) := by decide +kernel
theorem dX1_borneInAll_1 : decode cX1_borneInAll 1 = .ok (.lstore_n 2, 1) := by decide +kernel
theorem dX1_borneInAll_2 : decode cX1_borneInAll 2 = .ok (.iconst 0, 1) := by decide +kernel
theorem dX1_borneInAll_3 : decode cX1_borneInAll 3 = .ok (.istore 4, 2) := by decide +kernel
theorem dX1_borneInAll_5 : decode cX1_borneInAll 5 = .ok (.iload 4, 2) := by decide +kernel
theorem dX1_borneInAll_7 : decode cX1_borneInAll 7 = .ok (.aload_n 0, 1) := by decide +kernel
theorem dX1_borneInAll_8 : decode cX1_borneInAll 8 = .ok (.getfield 50, 3) := by decide +kernel
theorem dX1_borneInAll_11 : decode cX1_borneInAll 11 = .ok (.if_icmp .ge 29, 3) := by decide +kernel
theorem dX1_borneInAll_14 : decode cX1_borneInAll 14 = .ok (.aload_n 0, 1) := by decide +kernel
theorem dX1_borneInAll_15 : decode cX1_borneInAll 15 = .ok (.getfield 9, 3) := by decide +kernel
theorem dX1_borneInAll_18 : decode cX1_borneInAll 18 = .ok (.iload 4, 2) := by decide +kernel
theorem dX1_borneInAll_20 : decode cX1_borneInAll 20 = .ok (.baload, 1) := by decide +kernel
theorem dX1_borneInAll_21 : decode cX1_borneInAll 21 = .ok (.ifCond .eq 13, 3) := by decide +kernel
theorem dX1_borneInAll_24 : decode cX1_borneInAll 24 = .ok (.lload_n 2, 1) := by decide +kernel
theorem dX1_borneInAll_25 : decode cX1_borneInAll 25 = .ok (.aload_n 0, 1) := by decide +kernel
theorem dX1_borneInAll_26 : decode cX1_borneInAll 26 = .ok (.iload 4, 2) := by decide +kernel
theorem dX1_borneInAll_28 : decode cX1_borneInAll 28 = .ok (.iload_n 1, 1) := by decide +kernel
theorem dX1_borneInAll_29 : decode cX1_borneInAll 29 = .ok (.invokevirtual 68, 3) := by decide +kernel
theorem dX1_borneInAll_32 : decode cX1_borneInAll 32 = .ok (.ladd, 1) := by decide +kernel
theorem dX1_borneInAll_33 : decode cX1_borneInAll 33 = .ok (.lstore_n 2, 1) := by decide +kernel
theorem dX1_borneInAll_34 : decode cX1_borneInAll 34 = .ok (.iinc 4 1, 3) := by decide +kernel
theorem dX1_borneInAll_37 : decode cX1_borneInAll 37 = .ok (.goto (-32), 3) := by decide +kernel
theorem dX1_borneInAll_40 : decode cX1_borneInAll 40 = .ok (.lload_n 2, 1) := by decide +kernel
theorem dX1_borneInAll_41 : decode cX1_borneInAll 41 = .ok (.lreturn, 1) := by decide +kernel
theorem dX1_reasonInAll_0 : decode cX1_reasonInAll 0 = .ok (.lconst 0, 1) := by decide +kernel
theorem dX1_reasonInAll_1 : decode cX1_reasonInAll 1 = .ok (.lstore_n 2, 1) := by decide +kernel
theorem dX1_reasonInAll_2 : decode cX1_reasonInAll 2 = .ok (.iconst 0, 1) := by decide +kernel
theorem dX1_reasonInAll_3 : decode cX1_reasonInAll 3 = .ok (.istore 4, 2) := by decide +kernel
theorem dX1_reasonInAll_5 : decode cX1_reasonInAll 5 = .ok (.iload 4, 2) := by decide +kernel
theorem dX1_reasonInAll_7 : decode cX1_reasonInAll 7 = .ok (.aload_n 0, 1) := by decide +kernel
theorem dX1_reasonInAll_8 : decode cX1_reasonInAll 8 = .ok (.getfield 50, 3) := by decide +kernel
theorem dX1_reasonInAll_11 : decode cX1_reasonInAll 11 = .ok (.if_icmp .ge 34, 3) := by decide +kernel
theorem dX1_reasonInAll_14 : decode cX1_reasonInAll 14 = .ok (.aload_n 0, 1) := by decide +kernel
theorem dX1_reasonInAll_15 : decode cX1_reasonInAll 15 = .ok (.getfield 9, 3) := by decide +kernel
theorem dX1_reasonInAll_18 : decode cX1_reasonInAll 18 = .ok (.iload 4, 2) := by decide +kernel
theorem dX1_reasonInAll_20 : decode cX1_reasonInAll 20 = .ok (.baload, 1) := by decide +kernel
theorem dX1_reasonInAll_21 : decode cX1_reasonInAll 21 = .ok (.ifCond .eq 18, 3) := by decide +kernel
theorem dX1_reasonInAll_24 : decode cX1_reasonInAll 24 = .ok (.lload_n 2, 1) := by decide +kernel
theorem dX1_reasonInAll_25 : decode cX1_reasonInAll 25 = .ok (.aload_n 0, 1) := by decide +kernel
theorem dX1_reasonInAll_26 : decode cX1_reasonInAll 26 = .ok (.getfield 47, 3) := by decide +kernel
theorem dX1_reasonInAll_29 : decode cX1_reasonInAll 29 = .ok (.iload 4, 2) := by decide +kernel
theorem dX1_reasonInAll_31 : decode cX1_reasonInAll 31 = .ok (.bipush 7, 2) := by decide +kernel
theorem dX1_reasonInAll_33 : decode cX1_reasonInAll 33 = .ok (.imul, 1) := by decide +kernel
theorem dX1_reasonInAll_34 : decode cX1_reasonInAll 34 = .ok (.iload_n 1, 1) := by decide +kernel
theorem dX1_reasonInAll_35 : decode cX1_reasonInAll 35 = .ok (.iadd, 1) := by decide +kernel
theorem dX1_reasonInAll_36 : decode cX1_reasonInAll 36 = .ok (.laload, 1) := by decide +kernel
theorem dX1_reasonInAll_37 : decode cX1_reasonInAll 37 = .ok (.ladd, 1) := by decide +kernel
theorem dX1_reasonInAll_38 : decode cX1_reasonInAll 38 = .ok (.lstore_n 2, 1) := by decide +kernel
theorem dX1_reasonInAll_39 : decode cX1_reasonInAll 39 = .ok (.iinc 4 1, 3) := by decide +kernel
theorem dX1_reasonInAll_42 : decode cX1_reasonInAll 42 = .ok (.goto (-37), 3) := by decide +kernel
theorem dX1_reasonInAll_45 : decode cX1_reasonInAll 45 = .ok (.lload_n 2, 1) := by decide +kernel
theorem dX1_reasonInAll_46 : decode cX1_reasonInAll 46 = .ok (.lreturn, 1) := by decide +kernel
theorem dX1_insurersAhead_0 : decode cX1_insurersAhead 0 = .ok (.aload_n 0, 1) := by decide +kernel
theorem dX1_insurersAhead_1 : decode cX1_insurersAhead 1 = .ok (.iload_n 1, 1) := by decide +kernel
theorem dX1_insurersAhead_2 : decode cX1_insurersAhead 2 = .ok (.invokevirtual 72, 3) := by decide +kernel
theorem dX1_insurersAhead_5 : decode cX1_insurersAhead 5 = .ok (.lstore_n 2, 1) := by decide +kernel
theorem dX1_insurersAhead_6 : decode cX1_insurersAhead 6 = .ok (.iconst 0, 1) := by decide +kernel
theorem dX1_insurersAhead_7 : decode cX1_insurersAhead 7 = .ok (.istore 4, 2) := by decide +kernel
theorem dX1_insurersAhead_9 : decode cX1_insurersAhead 9 = .ok (.iconst 0, 1) := by decide +kernel
theorem dX1_insurersAhead_10 : decode cX1_insurersAhead 10 = .ok (.istore 5, 2) := by decide +kernel
theorem dX1_insurersAhead_12 : decode cX1_insurersAhead 12 = .ok (.iload 5, 2) := by decide +kernel
theorem dX1_insurersAhead_14 : decode cX1_insurersAhead 14 = .ok (.bipush 10, 2) := by decide +kernel
theorem dX1_insurersAhead_16 : decode cX1_insurersAhead 16 = .ok (.if_icmp .ge 40, 3) := by decide +kernel
theorem dX1_insurersAhead_19 : decode cX1_insurersAhead 19 = .ok (.aload_n 0, 1) := by decide +kernel
theorem dX1_insurersAhead_20 : decode cX1_insurersAhead 20 = .ok (.iload 5, 2) := by decide +kernel
theorem dX1_insurersAhead_22 : decode cX1_insurersAhead 22 = .ok (.invokevirtual 72, 3) := by decide +kernel
theorem dX1_insurersAhead_25 : decode cX1_insurersAhead 25 = .ok (.lstore 6, 2) := by decide +kernel
theorem dX1_insurersAhead_27 : decode cX1_insurersAhead 27 = .ok (.lload 6, 2) := by decide +kernel
theorem dX1_insurersAhead_29 : decode cX1_insurersAhead 29 = .ok (.lload_n 2, 1) := by decide +kernel
theorem dX1_insurersAhead_30 : decode cX1_insurersAhead 30 = .ok (.lcmp, 1) := by decide +kernel
theorem dX1_insurersAhead_31 : decode cX1_insurersAhead 31 = .ok (.ifCond .gt 16, 3) := by decide +kernel
theorem dX1_insurersAhead_34 : decode cX1_insurersAhead 34 = .ok (.lload 6, 2) := by decide +kernel
theorem dX1_insurersAhead_36 : decode cX1_insurersAhead 36 = .ok (.lload_n 2, 1) := by decide +kernel
theorem dX1_insurersAhead_37 : decode cX1_insurersAhead 37 = .ok (.lcmp, 1) := by decide +kernel
theorem dX1_insurersAhead_38 : decode cX1_insurersAhead 38 = .ok (.ifCond .ne 12, 3) := by decide +kernel
theorem dX1_insurersAhead_41 : decode cX1_insurersAhead 41 = .ok (.iload 5, 2) := by decide +kernel
theorem dX1_insurersAhead_43 : decode cX1_insurersAhead 43 = .ok (.iload_n 1, 1) := by decide +kernel
theorem dX1_insurersAhead_44 : decode cX1_insurersAhead 44 = .ok (.if_icmp .ge 6, 3) := by decide +kernel
theorem dX1_insurersAhead_47 : decode cX1_insurersAhead 47 = .ok (.iinc 4 1, 3) := by decide +kernel
theorem dX1_insurersAhead_50 : decode cX1_insurersAhead 50 = .ok (.iinc 5 1, 3) := by decide +kernel
theorem dX1_insurersAhead_53 : decode cX1_insurersAhead 53 = .ok (.goto (-41), 3) := by decide +kernel
theorem dX1_insurersAhead_56 : decode cX1_insurersAhead 56 = .ok (.iload 4, 2) := by decide +kernel
theorem dX1_insurersAhead_58 : decode cX1_insurersAhead 58 = .ok (.ireturn, 1) := by decide +kernel
theorem dX2_init_0 : decode cX2_init 0 = .ok (.aload_n 0, 1) := by decide +kernel
theorem dX2_init_1 : decode cX2_init 1 = .ok (.invokespecial 3, 3) := by decide +kernel
theorem dX2_init_4 : decode cX2_init 4 = .ok (.aload_n 0, 1) := by decide +kernel
theorem dX2_init_5 : decode cX2_init 5 = .ok (.sipush 960, 3) := by decide +kernel
theorem dX2_init_8 : decode cX2_init 8 = .ok (.newarray .int, 2) := by decide +kernel
theorem dX2_init_10 : decode cX2_init 10 = .ok (.putfield 11, 3) := by decide +kernel
theorem dX2_init_13 : decode cX2_init 13 = .ok (.return_, 1) := by decide +kernel
theorem dX2_write_0 : decode cX2_write 0 = .ok (.aload_n 0, 1) := by decide +kernel
theorem dX2_write_1 : decode cX2_write 1 = .ok (.getfield 15, 3) := by decide +kernel
theorem dX2_write_4 : decode cX2_write 4 = .ok (.sipush 160, 3) := by decide +kernel
theorem dX2_write_7 : decode cX2_write 7 = .ok (.if_icmp .lt 4, 3) := by decide +kernel
theorem dX2_write_10 : decode cX2_write 10 = .ok (.return_, 1) := by decide +kernel
theorem dX2_write_11 : decode cX2_write 11 = .ok (.aload_n 0, 1) := by decide +kernel
theorem dX2_write_12 : decode cX2_write 12 = .ok (.getfield 15, 3) := by decide +kernel
theorem dX2_write_15 : decode cX2_write 15 = .ok (.bipush 6, 2) := by decide +kernel
theorem dX2_write_17 : decode cX2_write 17 = .ok (.imul, 1) := by decide +kernel
theorem dX2_write_18 : decode cX2_write 18 = .ok (.istore 7, 2) := by decide +kernel
theorem dX2_write_20 : decode cX2_write 20 = .ok (.aload_n 0, 1) := by decide +kernel
theorem dX2_write_21 : decode cX2_write 21 = .ok (.getfield 11, 3) := by decide +kernel
theorem dX2_write_24 : decode cX2_write 24 = .ok (.iload 7, 2) := by decide +kernel
theorem dX2_write_26 : decode cX2_write 26 = .ok (.iconst 0, 1) := by decide +kernel
theorem dX2_write_27 : decode cX2_write 27 = .ok (.iadd, 1) := by decide +kernel
theorem dX2_write_28 : decode cX2_write 28 = .ok (.iload_n 1, 1) := by decide +kernel
theorem dX2_write_29 : decode cX2_write 29 = .ok (.iastore, 1) := by decide +kernel
theorem dX2_write_30 : decode cX2_write 30 = .ok (.aload_n 0, 1) := by decide +kernel
theorem dX2_write_31 : decode cX2_write 31 = .ok (.getfield 11, 3) := by decide +kernel
theorem dX2_write_34 : decode cX2_write 34 = .ok (.iload 7, 2) := by decide +kernel
theorem dX2_write_36 : decode cX2_write 36 = .ok (.iconst 1, 1) := by decide +kernel
theorem dX2_write_37 : decode cX2_write 37 = .ok (.iadd, 1) := by decide +kernel
theorem dX2_write_38 : decode cX2_write 38 = .ok (.iload_n 2, 1) := by decide +kernel
theorem dX2_write_39 : decode cX2_write 39 = .ok (.iastore, 1) := by decide +kernel
theorem dX2_write_40 : decode cX2_write 40 = .ok (.aload_n 0, 1) := by decide +kernel
theorem dX2_write_41 : decode cX2_write 41 = .ok (.getfield 11, 3) := by decide +kernel
theorem dX2_write_44 : decode cX2_write 44 = .ok (.iload 7, 2) := by decide +kernel
theorem dX2_write_46 : decode cX2_write 46 = .ok (.iconst 2, 1) := by decide +kernel
theorem dX2_write_47 : decode cX2_write 47 = .ok (.iadd, 1) := by decide +kernel
theorem dX2_write_48 : decode cX2_write 48 = .ok (.iload_n 3, 1) := by decide +kernel
theorem dX2_write_49 : decode cX2_write 49 = .ok (.iastore, 1) := by decide +kernel
theorem dX2_write_50 : decode cX2_write 50 = .ok (.aload_n 0, 1) := by decide +kernel
theorem dX2_write_51 : decode cX2_write 51 = .ok (.getfield 11, 3) := by decide +kernel
theorem dX2_write_54 : decode cX2_write 54 = .ok (.iload 7, 2) := by decide +kernel
theorem dX2_write_56 : decode cX2_write 56 = .ok (.iconst 2, 1) := by decide +kernel
theorem dX2_write_57 : decode cX2_write 57 = .ok (.iadd, 1) := by decide +kernel
theorem dX2_write_58 : decode cX2_write 58 = .ok (.iconst 1, 1) := by decide +kernel
theorem dX2_write_59 : decode cX2_write 59 = .ok (.iadd, 1) := by decide +kernel
theorem dX2_write_60 : decode cX2_write 60 = .ok (.iload 4, 2) := by decide +kernel
theorem dX2_write_62 : decode cX2_write 62 = .ok (.iastore, 1) := by decide +kernel
theorem dX2_write_63 : decode cX2_write 63 = .ok (.aload_n 0, 1) := by decide +kernel
theorem dX2_write_64 : decode cX2_write 64 = .ok (.getfield 11, 3) := by decide +kernel
theorem dX2_write_67 : decode cX2_write 67 = .ok (.iload 7, 2) := by decide +kernel
theorem dX2_write_69 : decode cX2_write 69 = .ok (.iconst 2, 1) := by decide +kernel
theorem dX2_write_70 : decode cX2_write 70 = .ok (.iadd, 1) := by decide +kernel
theorem dX2_write_71 : decode cX2_write 71 = .ok (.iconst 2, 1) := by decide +kernel
theorem dX2_write_72 : decode cX2_write 72 = .ok (.iadd, 1) := by decide +kernel
theorem dX2_write_73 : decode cX2_write 73 = .ok (.iload 5, 2) := by decide +kernel
theorem dX2_write_75 : decode cX2_write 75 = .ok (.iastore, 1) := by decide +kernel
theorem dX2_write_76 : decode cX2_write 76 = .ok (.aload_n 0, 1) := by decide +kernel
theorem dX2_write_77 : decode cX2_write 77 = .ok (.getfield 11, 3) := by decide +kernel
theorem dX2_write_80 : decode cX2_write 80 = .ok (.iload 7, 2) := by decide +kernel
theorem dX2_write_82 : decode cX2_write 82 = .ok (.iconst 2, 1) := by decide +kernel
theorem dX2_write_83 : decode cX2_write 83 = .ok (.iadd, 1) := by decide +kernel
theorem dX2_write_84 : decode cX2_write 84 = .ok (.iconst 3, 1) := by decide +kernel
theorem dX2_write_85 : decode cX2_write 85 = .ok (.iadd, 1) := by decide +kernel
theorem dX2_write_86 : decode cX2_write 86 = .ok (.iload 6, 2) := by decide +kernel
theorem dX2_write_88 : decode cX2_write 88 = .ok (.iastore, 1) := by decide +kernel
theorem dX2_write_89 : decode cX2_write 89 = .ok (.return_, 1) := by decide +kernel
theorem dX2_read_0 : decode cX2_read 0 = .ok (.aload_n 0, 1) := by decide +kernel
theorem dX2_read_1 : decode cX2_read 1 = .ok (.getfield 11, 3) := by decide +kernel
theorem dX2_read_4 : decode cX2_read 4 = .ok (.iload_n 1, 1) := by decide +kernel
theorem dX2_read_5 : decode cX2_read 5 = .ok (.bipush 6, 2) := by decide +kernel
theorem dX2_read_7 : decode cX2_read 7 = .ok (.imul, 1) := by decide +kernel
theorem dX2_read_8 : decode cX2_read 8 = .ok (.iload_n 2, 1) := by decide +kernel
theorem dX2_read_9 : decode cX2_read 9 = .ok (.iadd, 1) := by decide +kernel
theorem dX2_read_10 : decode cX2_read 10 = .ok (.iaload, 1) := by decide +kernel
theorem dX2_read_11 : decode cX2_read 11 = .ok (.ireturn, 1) := by decide +kernel
theorem dX2_find_0 : decode cX2_find 0 = .ok (.iconst 0, 1) := by decide +kernel
theorem dX2_find_1 : decode cX2_find 1 = .ok (.istore_n 3, 1) := by decide +kernel
theorem dX2_find_2 : decode cX2_find 2 = .ok (.iload_n 3, 1) := by decide +kernel
theorem dX2_find_3 : decode cX2_find 3 = .ok (.aload_n 0, 1) := by decide +kernel
theorem dX2_find_4 : decode cX2_find 4 = .ok (.getfield 15, 3) := by decide +kernel
theorem dX2_find_7 : decode cX2_find 7 = .ok (.if_icmp .ge 31, 3) := by decide +kernel
theorem dX2_find_10 : decode cX2_find 10 = .ok (.aload_n 0, 1) := by decide +kernel
theorem dX2_find_11 : decode cX2_find 11 = .ok (.iload_n 3, 1) := by decide +kernel
theorem dX2_find_12 : decode cX2_find 12 = .ok (.iconst 0, 1) := by decide +kernel
theorem dX2_find_13 : decode cX2_find 13 = .ok (.invokevirtual 19, 3) := by decide +kernel
theorem dX2_find_16 : decode cX2_find 16 = .ok (.iload_n 1, 1) := by decide +kernel
theorem dX2_find_17 : decode cX2_find 17 = .ok (.if_icmp .ne 15, 3) := by decide +kernel
theorem dX2_find_20 : decode cX2_find 20 = .ok (.aload_n 0, 1) := by decide +kernel
theorem dX2_find_21 : decode cX2_find 21 = .ok (.iload_n 3, 1) := by decide +kernel
theorem dX2_find_22 : decode cX2_find 22 = .ok (.iconst 1, 1) := by decide +kernel
theorem dX2_find_23 : decode cX2_find 23 = .ok (.invokevirtual 19, 3) := by decide +kernel
theorem dX2_find_26 : decode cX2_find 26 = .ok (.iload_n 2, 1) := by decide +kernel
theorem dX2_find_27 : decode cX2_find 27 = .ok (.if_icmp .ne 5, 3) := by decide +kernel
theorem dX2_find_30 : decode cX2_find 30 = .ok (.iload_n 3, 1) := by decide +kernel
theorem dX2_find_31 : decode cX2_find 31 = .ok (.ireturn, 1) := by decide +kernel
theorem dX2_find_32 : decode cX2_find 32 = .ok (.iinc 3 1, 3) := by decide +kernel
theorem dX2_find_35 : decode cX2_find 35 = .ok (.goto (-33), 3) := by decide +kernel
theorem dX2_find_38 : decode cX2_find 38 = .ok (.iconst (-1), 1) := by decide +kernel
theorem dX2_find_39 : decode cX2_find 39 = .ok (.ireturn, 1) := by decide +kernel
theorem dX3_init_0 : decode cX3_init 0 = .ok (.aload_n 0, 1) := by decide +kernel
theorem dX3_init_1 : decode cX3_init 1 = .ok (.invokespecial 3, 3) := by decide +kernel
theorem dX3_init_4 : decode cX3_init 4 = .ok (.aload_n 0, 1) := by decide +kernel
theorem dX3_init_5 : decode cX3_init 5 = .ok (.bipush 40, 2) := by decide +kernel
theorem dX3_init_7 : decode cX3_init 7 = .ok (.newarray .long, 2) := by decide +kernel
theorem dX3_init_9 : decode cX3_init 9 = .ok (.putfield 9, 3) := by decide +kernel
theorem dX3_init_12 : decode cX3_init 12 = .ok (.aload_n 0, 1) := by decide +kernel
theorem dX3_init_13 : decode cX3_init 13 = .ok (.bipush 40, 2) := by decide +kernel
theorem dX3_init_15 : decode cX3_init 15 = .ok (.newarray .long, 2) := by decide +kernel
theorem dX3_init_17 : decode cX3_init 17 = .ok (.putfield 15, 3) := by decide +kernel
theorem dX3_init_20 : decode cX3_init 20 = .ok (.aload_n 0, 1) := by decide +kernel
theorem dX3_init_21 : decode cX3_init 21 = .ok (.bipush 40, 2) := by decide +kernel
theorem dX3_init_23 : decode cX3_init 23 = .ok (.newarray .long, 2) := by decide +kernel
theorem dX3_init_25 : decode cX3_init 25 = .ok (.putfield 18, 3) := by decide +kernel
theorem dX3_init_28 : decode cX3_init 28 = .ok (.aload_n 0, 1) := by decide +kernel
theorem dX3_init_29 : decode cX3_init 29 = .ok (.sipush 160, 3) := by decide +kernel
theorem dX3_init_32 : decode cX3_init 32 = .ok (.newarray .long, 2) := by decide +kernel
theorem dX3_init_34 : decode cX3_init 34 = .ok (.putfield 21, 3) := by decide +kernel
theorem dX3_init_37 : decode cX3_init 37 = .ok (.aload_n 0, 1) := by decide +kernel
theorem dX3_init_38 : decode cX3_init 38 = .ok (.bipush 10, 2) := by decide +kernel
theorem dX3_init_40 : decode cX3_init 40 = .ok (.newarray .long, 2) := by decide +kernel
theorem dX3_init_42 : decode cX3_init 42 = .ok (.putfield 24, 3) := by decide +kernel
theorem dX3_init_45 : decode cX3_init 45 = .ok (.aload_n 0, 1) := by decide +kernel
theorem dX3_init_46 : decode cX3_init 46 = .ok (.bipush 7, 2) := by decide +kernel
theorem dX3_init_48 : decode cX3_init 48 = .ok (.newarray .long, 2) := by decide +kernel
theorem dX3_init_50 : decode cX3_init 50 = .ok (.putfield 27, 3) := by decide +kernel
theorem dX3_init_53 : decode cX3_init 53 = .ok (.return_, 1) := by decide +kernel
theorem dX3_clear_0 : decode cX3_clear 0 = .ok (.aload_n 0, 1) := by decide +kernel
theorem dX3_clear_1 : decode cX3_clear 1 = .ok (.getfield 9, 3) := by decide +kernel
theorem dX3_clear_4 : decode cX3_clear 4 = .ok (.lconst 0, 1) := by decide +kernel
theorem dX3_clear_5 : decode cX3_clear 5 = .ok (.invokestatic 30, 3) := by decide +kernel
theorem dX3_clear_8 : decode cX3_clear 8 = .ok (.aload_n 0, 1) := by decide +kernel
theorem dX3_clear_9 : decode cX3_clear 9 = .ok (.getfield 15, 3) := by decide +kernel
theorem dX3_clear_12 : decode cX3_clear 12 = .ok (.lconst 0, 1) := by decide +kernel
theorem dX3_clear_13 : decode cX3_clear 13 = .ok (.invokestatic 30, 3) := by decide +kernel
theorem dX3_clear_16 : decode cX3_clear 16 = .ok (.aload_n 0, 1) := by decide +kernel
theorem dX3_clear_17 : decode cX3_clear 17 = .ok (.getfield 18, 3) := by decide +kernel
theorem dX3_clear_20 : decode cX3_clear 20 = .ok (.lconst 0, 1) := by decide +kernel
theorem dX3_clear_21 : decode cX3_clear 21 = .ok (.invokestatic 30, 3) := by decide +kernel
theorem dX3_clear_24 : decode cX3_clear 24 = .ok (.aload_n 0, 1) := by decide +kernel
theorem dX3_clear_25 : decode cX3_clear 25 = .ok (.getfield 24, 3) := by decide +kernel
theorem dX3_clear_28 : decode cX3_clear 28 = .ok (.lconst 0, 1) := by decide +kernel
theorem dX3_clear_29 : decode cX3_clear 29 = .ok (.invokestatic 30, 3) := by decide +kernel
theorem dX3_clear_32 : decode cX3_clear 32 = .ok (.aload_n 0, 1) := by decide +kernel
theorem dX3_clear_33 : decode cX3_clear 33 = .ok (.getfield 27, 3) := by decide +kernel
theorem dX3_clear_36 : decode cX3_clear 36 = .ok (.lconst 0, 1) := by decide +kernel
theorem dX3_clear_37 : decode cX3_clear 37 = .ok (.invokestatic 30, 3) := by decide +kernel
theorem dX3_clear_40 : decode cX3_clear 40 = .ok (.return_, 1) := by decide +kernel
theorem dX3_fill_0 : decode cX3_fill 0 = .ok (.aload_n 1, 1) := by decide +kernel
theorem dX3_fill_1 : decode cX3_fill 1 = .ok (.getfield 36, 3) := by decide +kernel
theorem dX3_fill_4 : decode cX3_fill 4 = .ok (.astore 6, 2) := by decide +kernel
theorem dX3_fill_6 : decode cX3_fill 6 = .ok (.lload 4, 2) := by decide +kernel
theorem dX3_fill_8 : decode cX3_fill 8 = .ok (.lstore 7, 2) := by decide +kernel
theorem dX3_fill_10 : decode cX3_fill 10 = .ok (.iconst 0, 1) := by decide +kernel
theorem dX3_fill_11 : decode cX3_fill 11 = .ok (.istore 9, 2) := by decide +kernel
theorem dX3_fill_13 : decode cX3_fill 13 = .ok (.iconst 0, 1) := by decide +kernel
theorem dX3_fill_14 : decode cX3_fill 14 = .ok (.istore 10, 2) := by decide +kernel
theorem dX3_fill_16 : decode cX3_fill 16 = .ok (.iload 10, 2) := by decide +kernel
theorem dX3_fill_18 : decode cX3_fill 18 = .ok (.aload 6, 2) := by decide +kernel
theorem dX3_fill_20 : decode cX3_fill 20 = .ok (.getfield 42, 3) := by decide +kernel
theorem dX3_fill_23 : decode cX3_fill 23 = .ok (.iload_n 3, 1) := by decide +kernel
theorem dX3_fill_24 : decode cX3_fill 24 = .ok (.iaload, 1) := by decide +kernel
theorem dX3_fill_25 : decode cX3_fill 25 = .ok (.if_icmp .ge 122, 3) := by decide +kernel
theorem dX3_fill_28 : decode cX3_fill 28 = .ok (.lload 7, 2) := by decide +kernel
theorem dX3_fill_30 : decode cX3_fill 30 = .ok (.lconst 0, 1) := by decide +kernel
theorem dX3_fill_31 : decode cX3_fill 31 = .ok (.lcmp, 1) := by decide +kernel
theorem dX3_fill_32 : decode cX3_fill 32 = .ok (.ifCond .le 115, 3) := by decide +kernel
theorem dX3_fill_35 : decode cX3_fill 35 = .ok (.aload 6, 2) := by decide +kernel
theorem dX3_fill_37 : decode cX3_fill 37 = .ok (.getfield 48, 3) := by decide +kernel
theorem dX3_fill_40 : decode cX3_fill 40 = .ok (.iload_n 3, 1) := by decide +kernel
theorem dX3_fill_41 : decode cX3_fill 41 = .ok (.bipush 6, 2) := by decide +kernel
theorem dX3_fill_43 : decode cX3_fill 43 = .ok (.imul, 1) := by decide +kernel
theorem dX3_fill_44 : decode cX3_fill 44 = .ok (.iload 10, 2) := by decide +kernel
theorem dX3_fill_46 : decode cX3_fill 46 = .ok (.iadd, 1) := by decide +kernel
theorem dX3_fill_47 : decode cX3_fill 47 = .ok (.iaload, 1) := by decide +kernel
theorem dX3_fill_48 : decode cX3_fill 48 = .ok (.istore 11, 2) := by decide +kernel
theorem dX3_fill_50 : decode cX3_fill 50 = .ok (.lload 7, 2) := by decide +kernel
theorem dX3_fill_52 : decode cX3_fill 52 = .ok (.aload_n 1, 1) := by decide +kernel
theorem dX3_fill_53 : decode cX3_fill 53 = .ok (.iload_n 2, 1) := by decide +kernel
theorem dX3_fill_54 : decode cX3_fill 54 = .ok (.iload 11, 2) := by decide +kernel
theorem dX3_fill_56 : decode cX3_fill 56 = .ok (.iload 9, 2) := by decide +kernel
theorem dX3_fill_58 : decode cX3_fill 58 = .ok (.invokevirtual 51, 3) := by decide +kernel
theorem dX3_fill_61 : decode cX3_fill 61 = .ok (.invokestatic 55, 3) := by decide +kernel
theorem dX3_fill_64 : decode cX3_fill 64 = .ok (.lstore 12, 2) := by decide +kernel
theorem dX3_fill_66 : decode cX3_fill 66 = .ok (.lload 7, 2) := by decide +kernel
theorem dX3_fill_68 : decode cX3_fill 68 = .ok (.lload 12, 2) := by decide +kernel
theorem dX3_fill_70 : decode cX3_fill 70 = .ok (.lsub, 1) := by decide +kernel
theorem dX3_fill_71 : decode cX3_fill 71 = .ok (.aload_n 1, 1) := by decide +kernel
theorem dX3_fill_72 : decode cX3_fill 72 = .ok (.iload_n 2, 1) := by decide +kernel
theorem dX3_fill_73 : decode cX3_fill 73 = .ok (.iload 11, 2) := by decide +kernel
theorem dX3_fill_75 : decode cX3_fill 75 = .ok (.invokevirtual 61, 3) := by decide +kernel
theorem dX3_fill_78 : decode cX3_fill 78 = .ok (.invokestatic 55, 3) := by decide +kernel
theorem dX3_fill_81 : decode cX3_fill 81 = .ok (.lstore 14, 2) := by decide +kernel
theorem dX3_fill_83 : decode cX3_fill 83 = .ok (.aload_n 0, 1) := by decide +kernel
theorem dX3_fill_84 : decode cX3_fill 84 = .ok (.getfield 15, 3) := by decide +kernel
theorem dX3_fill_87 : decode cX3_fill 87 = .ok (.iload 11, 2) := by decide +kernel
theorem dX3_fill_89 : decode cX3_fill 89 = .ok (.lload 12, 2) := by decide +kernel
theorem dX3_fill_91 : decode cX3_fill 91 = .ok (.lastore, 1) := by decide +kernel
theorem dX3_fill_92 : decode cX3_fill 92 = .ok (.aload_n 0, 1) := by decide +kernel
theorem dX3_fill_93 : decode cX3_fill 93 = .ok (.getfield 9, 3) := by decide +kernel
theorem dX3_fill_96 : decode cX3_fill 96 = .ok (.iload 11, 2) := by decide +kernel
theorem dX3_fill_98 : decode cX3_fill 98 = .ok (.lload 14, 2) := by decide +kernel
theorem dX3_fill_100 : decode cX3_fill 100 = .ok (.lastore, 1) := by decide +kernel
theorem dX3_fill_101 : decode cX3_fill 101 = .ok (.aload_n 0, 1) := by decide +kernel
theorem dX3_fill_102 : decode cX3_fill 102 = .ok (.getfield 27, 3) := by decide +kernel
theorem dX3_fill_105 : decode cX3_fill 105 = .ok (.iconst 1, 1) := by decide +kernel
theorem dX3_fill_106 : decode cX3_fill 106 = .ok (.dup2, 1) := by decide +kernel
theorem dX3_fill_107 : decode cX3_fill 107 = .ok (.laload, 1) := by decide +kernel
theorem dX3_fill_108 : decode cX3_fill 108 = .ok (.lload 12, 2) := by decide +kernel
theorem dX3_fill_110 : decode cX3_fill 110 = .ok (.ladd, 1) := by decide +kernel
theorem dX3_fill_111 : decode cX3_fill 111 = .ok (.lastore, 1) := by decide +kernel
theorem dX3_fill_112 : decode cX3_fill 112 = .ok (.lload 7, 2) := by decide +kernel
theorem dX3_fill_114 : decode cX3_fill 114 = .ok (.lload 12, 2) := by decide +kernel
theorem dX3_fill_116 : decode cX3_fill 116 = .ok (.lload 14, 2) := by decide +kernel
theorem dX3_fill_118 : decode cX3_fill 118 = .ok (.ladd, 1) := by decide +kernel
theorem dX3_fill_119 : decode cX3_fill 119 = .ok (.lsub, 1) := by decide +kernel
theorem dX3_fill_120 : decode cX3_fill 120 = .ok (.lstore 7, 2) := by decide +kernel
theorem dX3_fill_122 : decode cX3_fill 122 = .ok (.aload 6, 2) := by decide +kernel
theorem dX3_fill_124 : decode cX3_fill 124 = .ok (.getfield 65, 3) := by decide +kernel
theorem dX3_fill_127 : decode cX3_fill 127 = .ok (.iload 11, 2) := by decide +kernel
theorem dX3_fill_129 : decode cX3_fill 129 = .ok (.iaload, 1) := by decide +kernel
theorem dX3_fill_130 : decode cX3_fill 130 = .ok (.aload 6, 2) := by decide +kernel
theorem dX3_fill_132 : decode cX3_fill 132 = .ok (.getfield 68, 3) := by decide +kernel
theorem dX3_fill_135 : decode cX3_fill 135 = .ok (.iload 11, 2) := by decide +kernel
theorem dX3_fill_137 : decode cX3_fill 137 = .ok (.iaload, 1) := by decide +kernel
theorem dX3_fill_138 : decode cX3_fill 138 = .ok (.iadd, 1) := by decide +kernel
theorem dX3_fill_139 : decode cX3_fill 139 = .ok (.istore 9, 2) := by decide +kernel
theorem dX3_fill_141 : decode cX3_fill 141 = .ok (.iinc 10 1, 3) := by decide +kernel
theorem dX3_fill_144 : decode cX3_fill 144 = .ok (.goto (-128), 3) := by decide +kernel
theorem dX3_fill_147 : decode cX3_fill 147 = .ok (.lload 7, 2) := by decide +kernel
theorem dX3_fill_149 : decode cX3_fill 149 = .ok (.lreturn, 1) := by decide +kernel
theorem dX3_split_0 : decode cX3_split 0 = .ok (.iconst 0, 1) := by decide +kernel
theorem dX3_split_1 : decode cX3_split 1 = .ok (.istore_n 3, 1) := by decide +kernel
theorem dX3_split_2 : decode cX3_split 2 = .ok (.iload_n 3, 1) := by decide +kernel
theorem dX3_split_3 : decode cX3_split 3 = .ok (.aload_n 1, 1) := by decide +kernel
theorem dX3_split_4 : decode cX3_split 4 = .ok (.getfield 71, 3) := by decide +kernel
theorem dX3_split_7 : decode cX3_split 7 = .ok (.if_icmp .ge 27, 3) := by decide +kernel
theorem dX3_split_10 : decode cX3_split 10 = .ok (.aload_n 0, 1) := by decide +kernel
theorem dX3_split_11 : decode cX3_split 11 = .ok (.getfield 9, 3) := by decide +kernel
theorem dX3_split_14 : decode cX3_split 14 = .ok (.iload_n 3, 1) := by decide +kernel
theorem dX3_split_15 : decode cX3_split 15 = .ok (.laload, 1) := by decide +kernel
theorem dX3_split_16 : decode cX3_split 16 = .ok (.lconst 0, 1) := by decide +kernel
theorem dX3_split_17 : decode cX3_split 17 = .ok (.lcmp, 1) := by decide +kernel
theorem dX3_split_18 : decode cX3_split 18 = .ok (.ifCond .le 10, 3) := by decide +kernel
theorem dX3_split_21 : decode cX3_split 21 = .ok (.aload_n 0, 1) := by decide +kernel
theorem dX3_split_22 : decode cX3_split 22 = .ok (.aload_n 1, 1) := by decide +kernel
theorem dX3_split_23 : decode cX3_split 23 = .ok (.aload_n 2, 1) := by decide +kernel
theorem dX3_split_24 : decode cX3_split 24 = .ok (.iload_n 3, 1) := by decide +kernel
theorem dX3_split_25 : decode cX3_split 25 = .ok (.invokevirtual 75, 3) := by decide +kernel
theorem dX3_split_28 : decode cX3_split 28 = .ok (.iinc 3 1, 3) := by decide +kernel
theorem dX3_split_31 : decode cX3_split 31 = .ok (.goto (-29), 3) := by decide +kernel
theorem dX3_split_34 : decode cX3_split 34 = .ok (.iconst 0, 1) := by decide +kernel
theorem dX3_split_35 : decode cX3_split 35 = .ok (.istore_n 3, 1) := by decide +kernel
theorem dX3_split_36 : decode cX3_split 36 = .ok (.iload_n 3, 1) := by decide +kernel
theorem dX3_split_37 : decode cX3_split 37 = .ok (.bipush 7, 2) := by decide +kernel
theorem dX3_split_39 : decode cX3_split 39 = .ok (.if_icmp .ge 24, 3) := by decide +kernel
theorem dX3_split_42 : decode cX3_split 42 = .ok (.aload_n 0, 1) := by decide +kernel
theorem dX3_split_43 : decode cX3_split 43 = .ok (.getfield 24, 3) := by decide +kernel
theorem dX3_split_46 : decode cX3_split 46 = .ok (.iconst 0, 1) := by decide +kernel
theorem dX3_split_47 : decode cX3_split 47 = .ok (.dup2, 1) := by decide +kernel
theorem dX3_split_48 : decode cX3_split 48 = .ok (.laload, 1) := by decide +kernel
theorem dX3_split_49 : decode cX3_split 49 = .ok (.aload_n 0, 1) := by decide +kernel
theorem dX3_split_50 : decode cX3_split 50 = .ok (.getfield 27, 3) := by decide +kernel
theorem dX3_split_53 : decode cX3_split 53 = .ok (.iload_n 3, 1) := by decide +kernel
theorem dX3_split_54 : decode cX3_split 54 = .ok (.laload, 1) := by decide +kernel
theorem dX3_split_55 : decode cX3_split 55 = .ok (.ladd, 1) := by decide +kernel
theorem dX3_split_56 : decode cX3_split 56 = .ok (.lastore, 1) := by decide +kernel
theorem dX3_split_57 : decode cX3_split 57 = .ok (.iinc 3 1, 3) := by decide +kernel
theorem dX3_split_60 : decode cX3_split 60 = .ok (.goto (-24), 3) := by decide +kernel
theorem dX3_split_63 : decode cX3_split 63 = .ok (.return_, 1) := by decide +kernel
theorem dX3_splitLayer_0 : decode cX3_splitLayer 0 = .ok (.aload_n 0, 1) := by decide +kernel
theorem dX3_splitLayer_1 : decode cX3_splitLayer 1 = .ok (.getfield 9, 3) := by decide +kernel
theorem dX3_splitLayer_4 : decode cX3_splitLayer 4 = .ok (.iload_n 3, 1) := by decide +kernel
theorem dX3_splitLayer_5 : decode cX3_splitLayer 5 = .ok (.laload, 1) := by decide +kernel
theorem dX3_splitLayer_6 : decode cX3_splitLayer 6 = .ok (.lstore 4, 2) := by decide +kernel
theorem dX3_splitLayer_8 : decode cX3_splitLayer 8 = .ok (.lload 4, 2) := by decide +kernel
theorem dX3_splitLayer_10 : decode cX3_splitLayer 10 = .ok (.aload_n 1, 1) := by decide +kernel
theorem dX3_splitLayer_11 : decode cX3_splitLayer 11 = .ok (.getfield 79, 3) := by decide +kernel
theorem dX3_splitLayer_14 : decode cX3_splitLayer 14 = .ok (.iload_n 3, 1) := by decide +kernel
theorem dX3_splitLayer_15 : decode cX3_splitLayer 15 = .ok (.iaload, 1) := by decide +kernel
theorem dX3_splitLayer_16 : decode cX3_splitLayer 16 = .ok (.i2l, 1) := by decide +kernel
theorem dX3_splitLayer_17 : decode cX3_splitLayer 17 = .ok (.lmul, 1) := by decide +kernel
theorem dX3_splitLayer_18 : decode cX3_splitLayer 18 = .ok (.ldc2_w 82, 3) := by decide +kernel
theorem dX3_splitLayer_21 : decode cX3_splitLayer 21 = .ok (.ldiv, 1) := by decide +kernel
theorem dX3_splitLayer_22 : decode cX3_splitLayer 22 = .ok (.lstore 6, 2) := by decide +kernel
theorem dX3_splitLayer_24 : decode cX3_splitLayer 24 = .ok (.lload 6, 2) := by decide +kernel
theorem dX3_splitLayer_26 : decode cX3_splitLayer 26 = .ok (.lstore 8, 2) := by decide +kernel
theorem dX3_splitLayer_28 : decode cX3_splitLayer 28 = .ok (.iconst 0, 1) := by decide +kernel
theorem dX3_splitLayer_29 : decode cX3_splitLayer 29 = .ok (.istore 10, 2) := by decide +kernel
theorem dX3_splitLayer_31 : decode cX3_splitLayer 31 = .ok (.iload 10, 2) := by decide +kernel
theorem dX3_splitLayer_33 : decode cX3_splitLayer 33 = .ok (.aload_n 1, 1) := by decide +kernel
theorem dX3_splitLayer_34 : decode cX3_splitLayer 34 = .ok (.getfield 84, 3) := by decide +kernel
theorem dX3_splitLayer_37 : decode cX3_splitLayer 37 = .ok (.iload_n 3, 1) := by decide +kernel
theorem dX3_splitLayer_38 : decode cX3_splitLayer 38 = .ok (.iaload, 1) := by decide +kernel
theorem dX3_splitLayer_39 : decode cX3_splitLayer 39 = .ok (.if_icmp .ge 51, 3) := by decide +kernel
theorem dX3_splitLayer_42 : decode cX3_splitLayer 42 = .ok (.iload_n 3, 1) := by decide +kernel
theorem dX3_splitLayer_43 : decode cX3_splitLayer 43 = .ok (.iconst 4, 1) := by decide +kernel
theorem dX3_splitLayer_44 : decode cX3_splitLayer 44 = .ok (.imul, 1) := by decide +kernel
theorem dX3_splitLayer_45 : decode cX3_splitLayer 45 = .ok (.iload 10, 2) := by decide +kernel
theorem dX3_splitLayer_47 : decode cX3_splitLayer 47 = .ok (.iadd, 1) := by decide +kernel
theorem dX3_splitLayer_48 : decode cX3_splitLayer 48 = .ok (.istore 11, 2) := by decide +kernel
theorem dX3_splitLayer_50 : decode cX3_splitLayer 50 = .ok (.aload_n 0, 1) := by decide +kernel
theorem dX3_splitLayer_51 : decode cX3_splitLayer 51 = .ok (.getfield 21, 3) := by decide +kernel
theorem dX3_splitLayer_54 : decode cX3_splitLayer 54 = .ok (.iload 11, 2) := by decide +kernel
theorem dX3_splitLayer_56 : decode cX3_splitLayer 56 = .ok (.lload 4, 2) := by decide +kernel
theorem dX3_splitLayer_58 : decode cX3_splitLayer 58 = .ok (.aload_n 1, 1) := by decide +kernel
theorem dX3_splitLayer_59 : decode cX3_splitLayer 59 = .ok (.getfield 87, 3) := by decide +kernel
theorem dX3_splitLayer_62 : decode cX3_splitLayer 62 = .ok (.iload 11, 2) := by decide +kernel
theorem dX3_splitLayer_64 : decode cX3_splitLayer 64 = .ok (.iaload, 1) := by decide +kernel
theorem dX3_splitLayer_65 : decode cX3_splitLayer 65 = .ok (.i2l, 1) := by decide +kernel
theorem dX3_splitLayer_66 : decode cX3_splitLayer 66 = .ok (.lmul, 1) := by decide +kernel
theorem dX3_splitLayer_67 : decode cX3_splitLayer 67 = .ok (.ldc2_w 82, 3) := by decide +kernel
theorem dX3_splitLayer_70 : decode cX3_splitLayer 70 = .ok (.ldiv, 1) := by decide +kernel
theorem dX3_splitLayer_71 : decode cX3_splitLayer 71 = .ok (.lastore, 1) := by decide +kernel
theorem dX3_splitLayer_72 : decode cX3_splitLayer 72 = .ok (.lload 8, 2) := by decide +kernel
theorem dX3_splitLayer_74 : decode cX3_splitLayer 74 = .ok (.aload_n 0, 1) := by decide +kernel
theorem dX3_splitLayer_75 : decode cX3_splitLayer 75 = .ok (.getfield 21, 3) := by decide +kernel
theorem dX3_splitLayer_78 : decode cX3_splitLayer 78 = .ok (.iload 11, 2) := by decide +kernel
theorem dX3_splitLayer_80 : decode cX3_splitLayer 80 = .ok (.laload, 1) := by decide +kernel
theorem dX3_splitLayer_81 : decode cX3_splitLayer 81 = .ok (.lsub, 1) := by decide +kernel
theorem dX3_splitLayer_82 : decode cX3_splitLayer 82 = .ok (.lstore 8, 2) := by decide +kernel
theorem dX3_splitLayer_84 : decode cX3_splitLayer 84 = .ok (.iinc 10 1, 3) := by decide +kernel
theorem dX3_splitLayer_87 : decode cX3_splitLayer 87 = .ok (.goto (-56), 3) := by decide +kernel
theorem dX3_splitLayer_90 : decode cX3_splitLayer 90 = .ok (.iconst 0, 1) := by decide +kernel
theorem dX3_splitLayer_91 : decode cX3_splitLayer 91 = .ok (.istore 10, 2) := by decide +kernel
theorem dX3_splitLayer_93 : decode cX3_splitLayer 93 = .ok (.iload 10, 2) := by decide +kernel
theorem dX3_splitLayer_95 : decode cX3_splitLayer 95 = .ok (.aload_n 1, 1) := by decide +kernel
theorem dX3_splitLayer_96 : decode cX3_splitLayer 96 = .ok (.getfield 84, 3) := by decide +kernel
theorem dX3_splitLayer_99 : decode cX3_splitLayer 99 = .ok (.iload_n 3, 1) := by decide +kernel
theorem dX3_splitLayer_100 : decode cX3_splitLayer 100 = .ok (.iaload, 1) := by decide +kernel
theorem dX3_splitLayer_101 : decode cX3_splitLayer 101 = .ok (.if_icmp .ge 68, 3) := by decide +kernel
theorem dX3_splitLayer_104 : decode cX3_splitLayer 104 = .ok (.iload_n 3, 1) := by decide +kernel
theorem dX3_splitLayer_105 : decode cX3_splitLayer 105 = .ok (.iconst 4, 1) := by decide +kernel
theorem dX3_splitLayer_106 : decode cX3_splitLayer 106 = .ok (.imul, 1) := by decide +kernel
theorem dX3_splitLayer_107 : decode cX3_splitLayer 107 = .ok (.iload 10, 2) := by decide +kernel
theorem dX3_splitLayer_109 : decode cX3_splitLayer 109 = .ok (.iadd, 1) := by decide +kernel
theorem dX3_splitLayer_110 : decode cX3_splitLayer 110 = .ok (.istore 11, 2) := by decide +kernel
theorem dX3_splitLayer_112 : decode cX3_splitLayer 112 = .ok (.lload 8, 2) := by decide +kernel
theorem dX3_splitLayer_114 : decode cX3_splitLayer 114 = .ok (.lconst 0, 1) := by decide +kernel
theorem dX3_splitLayer_115 : decode cX3_splitLayer 115 = .ok (.lcmp, 1) := by decide +kernel
theorem dX3_splitLayer_116 : decode cX3_splitLayer 116 = .ok (.ifCond .le 20, 3) := by decide +kernel
theorem dX3_splitLayer_119 : decode cX3_splitLayer 119 = .ok (.aload_n 0, 1) := by decide +kernel
theorem dX3_splitLayer_120 : decode cX3_splitLayer 120 = .ok (.getfield 21, 3) := by decide +kernel
theorem dX3_splitLayer_123 : decode cX3_splitLayer 123 = .ok (.iload 11, 2) := by decide +kernel
theorem dX3_splitLayer_125 : decode cX3_splitLayer 125 = .ok (.dup2, 1) := by decide +kernel
theorem dX3_splitLayer_126 : decode cX3_splitLayer 126 = .ok (.laload, 1) := by decide +kernel
theorem dX3_splitLayer_127 : decode cX3_splitLayer 127 = .ok (.lconst 1, 1) := by decide +kernel
theorem dX3_splitLayer_128 : decode cX3_splitLayer 128 = .ok (.ladd, 1) := by decide +kernel
theorem dX3_splitLayer_129 : decode cX3_splitLayer 129 = .ok (.lastore, 1) := by decide +kernel
theorem dX3_splitLayer_130 : decode cX3_splitLayer 130 = .ok (.lload 8, 2) := by decide +kernel
theorem dX3_splitLayer_132 : decode cX3_splitLayer 132 = .ok (.lconst 1, 1) := by decide +kernel
theorem dX3_splitLayer_133 : decode cX3_splitLayer 133 = .ok (.lsub, 1) := by decide +kernel
theorem dX3_splitLayer_134 : decode cX3_splitLayer 134 = .ok (.lstore 8, 2) := by decide +kernel
theorem dX3_splitLayer_136 : decode cX3_splitLayer 136 = .ok (.aload_n 0, 1) := by decide +kernel
theorem dX3_splitLayer_137 : decode cX3_splitLayer 137 = .ok (.aload_n 1, 1) := by decide +kernel
theorem dX3_splitLayer_138 : decode cX3_splitLayer 138 = .ok (.getfield 90, 3) := by decide +kernel
theorem dX3_splitLayer_141 : decode cX3_splitLayer 141 = .ok (.iload 11, 2) := by decide +kernel
theorem dX3_splitLayer_143 : decode cX3_splitLayer 143 = .ok (.iaload, 1) := by decide +kernel
theorem dX3_splitLayer_144 : decode cX3_splitLayer 144 = .ok (.aload_n 2, 1) := by decide +kernel
theorem dX3_splitLayer_145 : decode cX3_splitLayer 145 = .ok (.aload_n 1, 1) := by decide +kernel
theorem dX3_splitLayer_146 : decode cX3_splitLayer 146 = .ok (.getfield 90, 3) := by decide +kernel
theorem dX3_splitLayer_149 : decode cX3_splitLayer 149 = .ok (.iload 11, 2) := by decide +kernel
theorem dX3_splitLayer_151 : decode cX3_splitLayer 151 = .ok (.iaload, 1) := by decide +kernel
theorem dX3_splitLayer_152 : decode cX3_splitLayer 152 = .ok (.iaload, 1) := by decide +kernel
theorem dX3_splitLayer_153 : decode cX3_splitLayer 153 = .ok (.aload_n 0, 1) := by decide +kernel
theorem dX3_splitLayer_154 : decode cX3_splitLayer 154 = .ok (.getfield 21, 3) := by decide +kernel
theorem dX3_splitLayer_157 : decode cX3_splitLayer 157 = .ok (.iload 11, 2) := by decide +kernel
theorem dX3_splitLayer_159 : decode cX3_splitLayer 159 = .ok (.laload, 1) := by decide +kernel
theorem dX3_splitLayer_160 : decode cX3_splitLayer 160 = .ok (.invokevirtual 93, 3) := by decide +kernel
theorem dX3_splitLayer_163 : decode cX3_splitLayer 163 = .ok (.iinc 10 1, 3) := by decide +kernel
theorem dX3_splitLayer_166 : decode cX3_splitLayer 166 = .ok (.goto (-73), 3) := by decide +kernel
theorem dX3_splitLayer_169 : decode cX3_splitLayer 169 = .ok (.aload_n 0, 1) := by decide +kernel
theorem dX3_splitLayer_170 : decode cX3_splitLayer 170 = .ok (.getfield 27, 3) := by decide +kernel
theorem dX3_splitLayer_173 : decode cX3_splitLayer 173 = .ok (.iconst 4, 1) := by decide +kernel
theorem dX3_splitLayer_174 : decode cX3_splitLayer 174 = .ok (.dup2, 1) := by decide +kernel
theorem dX3_splitLayer_175 : decode cX3_splitLayer 175 = .ok (.laload, 1) := by decide +kernel
theorem dX3_splitLayer_176 : decode cX3_splitLayer 176 = .ok (.lload 4, 2) := by decide +kernel
theorem dX3_splitLayer_178 : decode cX3_splitLayer 178 = .ok (.lload 6, 2) := by decide +kernel
theorem dX3_splitLayer_180 : decode cX3_splitLayer 180 = .ok (.lsub, 1) := by decide +kernel
theorem dX3_splitLayer_181 : decode cX3_splitLayer 181 = .ok (.ladd, 1) := by decide +kernel
theorem dX3_splitLayer_182 : decode cX3_splitLayer 182 = .ok (.lastore, 1) := by decide +kernel
theorem dX3_splitLayer_183 : decode cX3_splitLayer 183 = .ok (.return_, 1) := by decide +kernel
theorem dX3_charge_0 : decode cX3_charge 0 = .ok (.iload_n 1, 1) := by decide +kernel
theorem dX3_charge_1 : decode cX3_charge 1 = .ok (.ifCond .ne 16, 3) := by decide +kernel
theorem dX3_charge_4 : decode cX3_charge 4 = .ok (.aload_n 0, 1) := by decide +kernel
theorem dX3_charge_5 : decode cX3_charge 5 = .ok (.getfield 27, 3) := by decide +kernel
theorem dX3_charge_8 : decode cX3_charge 8 = .ok (.iconst 0, 1) := by decide +kernel
theorem dX3_charge_9 : decode cX3_charge 9 = .ok (.dup2, 1) := by decide +kernel
theorem dX3_charge_10 : decode cX3_charge 10 = .ok (.laload, 1) := by decide +kernel
theorem dX3_charge_11 : decode cX3_charge 11 = .ok (.lload_n 3, 1) := by decide +kernel
theorem dX3_charge_12 : decode cX3_charge 12 = .ok (.ladd, 1) := by decide +kernel
theorem dX3_charge_13 : decode cX3_charge 13 = .ok (.lastore, 1) := by decide +kernel
theorem dX3_charge_14 : decode cX3_charge 14 = .ok (.goto 50, 3) := by decide +kernel
theorem dX3_charge_17 : decode cX3_charge 17 = .ok (.iload_n 2, 1) := by decide +kernel
theorem dX3_charge_18 : decode cX3_charge 18 = .ok (.iconst 1, 1) := by decide +kernel
theorem dX3_charge_19 : decode cX3_charge 19 = .ok (.if_icmp .ne 16, 3) := by decide +kernel
theorem dX3_charge_22 : decode cX3_charge 22 = .ok (.aload_n 0, 1) := by decide +kernel
theorem dX3_charge_23 : decode cX3_charge 23 = .ok (.getfield 27, 3) := by decide +kernel
theorem dX3_charge_26 : decode cX3_charge 26 = .ok (.iconst 5, 1) := by decide +kernel
theorem dX3_charge_27 : decode cX3_charge 27 = .ok (.dup2, 1) := by decide +kernel
theorem dX3_charge_28 : decode cX3_charge 28 = .ok (.laload, 1) := by decide +kernel
theorem dX3_charge_29 : decode cX3_charge 29 = .ok (.lload_n 3, 1) := by decide +kernel
theorem dX3_charge_30 : decode cX3_charge 30 = .ok (.ladd, 1) := by decide +kernel
theorem dX3_charge_31 : decode cX3_charge 31 = .ok (.lastore, 1) := by decide +kernel
theorem dX3_charge_32 : decode cX3_charge 32 = .ok (.goto 32, 3) := by decide +kernel
theorem dX3_charge_35 : decode cX3_charge 35 = .ok (.iload_n 2, 1) := by decide +kernel
theorem dX3_charge_36 : decode cX3_charge 36 = .ok (.iconst 2, 1) := by decide +kernel
theorem dX3_charge_37 : decode cX3_charge 37 = .ok (.if_icmp .ne 17, 3) := by decide +kernel
theorem dX3_charge_40 : decode cX3_charge 40 = .ok (.aload_n 0, 1) := by decide +kernel
theorem dX3_charge_41 : decode cX3_charge 41 = .ok (.getfield 27, 3) := by decide +kernel
theorem dX3_charge_44 : decode cX3_charge 44 = .ok (.bipush 6, 2) := by decide +kernel
theorem dX3_charge_46 : decode cX3_charge 46 = .ok (.dup2, 1) := by decide +kernel
theorem dX3_charge_47 : decode cX3_charge 47 = .ok (.laload, 1) := by decide +kernel
theorem dX3_charge_48 : decode cX3_charge 48 = .ok (.lload_n 3, 1) := by decide +kernel
theorem dX3_charge_49 : decode cX3_charge 49 = .ok (.ladd, 1) := by decide +kernel
theorem dX3_charge_50 : decode cX3_charge 50 = .ok (.lastore, 1) := by decide +kernel
theorem dX3_charge_51 : decode cX3_charge 51 = .ok (.goto 13, 3) := by decide +kernel
theorem dX3_charge_54 : decode cX3_charge 54 = .ok (.aload_n 0, 1) := by decide +kernel
theorem dX3_charge_55 : decode cX3_charge 55 = .ok (.getfield 24, 3) := by decide +kernel
theorem dX3_charge_58 : decode cX3_charge 58 = .ok (.iload_n 1, 1) := by decide +kernel
theorem dX3_charge_59 : decode cX3_charge 59 = .ok (.dup2, 1) := by decide +kernel
theorem dX3_charge_60 : decode cX3_charge 60 = .ok (.laload, 1) := by decide +kernel
theorem dX3_charge_61 : decode cX3_charge 61 = .ok (.lload_n 3, 1) := by decide +kernel
theorem dX3_charge_62 : decode cX3_charge 62 = .ok (.ladd, 1) := by decide +kernel
theorem dX3_charge_63 : decode cX3_charge 63 = .ok (.lastore, 1) := by decide +kernel
theorem dX3_charge_64 : decode cX3_charge 64 = .ok (.return_, 1) := by decide +kernel
theorem dX4_init_0 : decode cX4_init 0 = .ok (.aload_n 0, 1) := by decide +kernel
theorem dX4_init_1 : decode cX4_init 1 = .ok (.invokespecial 3, 3) := by decide +kernel
theorem dX4_init_4 : decode cX4_init 4 = .ok (.aload_n 0, 1) := by decide +kernel
theorem dX4_init_5 : decode cX4_init 5 = .ok (.new 9, 3) := by decide +kernel
theorem dX4_init_8 : decode cX4_init 8 = .ok (.dup, 1) := by decide +kernel
theorem dX4_init_9 : decode cX4_init 9 = .ok (.invokespecial 11, 3) := by decide +kernel
theorem dX4_init_12 : decode cX4_init 12 = .ok (.putfield 12, 3) := by decide +kernel
theorem dX4_init_15 : decode cX4_init 15 = .ok (.aload_n 0, 1) := by decide +kernel
theorem dX4_init_16 : decode cX4_init 16 = .ok (.new 9, 3) := by decide +kernel
theorem dX4_init_19 : decode cX4_init 19 = .ok (.dup, 1) := by decide +kernel
theorem dX4_init_20 : decode cX4_init 20 = .ok (.invokespecial 11, 3) := by decide +kernel
theorem dX4_init_23 : decode cX4_init 23 = .ok (.putfield 18, 3) := by decide +kernel
theorem dX4_init_26 : decode cX4_init 26 = .ok (.aload_n 0, 1) := by decide +kernel
theorem dX4_init_27 : decode cX4_init 27 = .ok (.bipush 12, 2) := by decide +kernel
theorem dX4_init_29 : decode cX4_init 29 = .ok (.newarray .long, 2) := by decide +kernel
theorem dX4_init_31 : decode cX4_init 31 = .ok (.putfield 21, 3) := by decide +kernel
theorem dX4_init_34 : decode cX4_init 34 = .ok (.aload_n 0, 1) := by decide +kernel
theorem dX4_init_35 : decode cX4_init 35 = .ok (.bipush 12, 2) := by decide +kernel
theorem dX4_init_37 : decode cX4_init 37 = .ok (.newarray .long, 2) := by decide +kernel
theorem dX4_init_39 : decode cX4_init 39 = .ok (.putfield 25, 3) := by decide +kernel
theorem dX4_init_42 : decode cX4_init 42 = .ok (.aload_n 0, 1) := by decide +kernel
theorem dX4_init_43 : decode cX4_init 43 = .ok (.bipush 12, 2) := by decide +kernel
theorem dX4_init_45 : decode cX4_init 45 = .ok (.newarray .long, 2) := by decide +kernel
theorem dX4_init_47 : decode cX4_init 47 = .ok (.putfield 28, 3) := by decide +kernel
theorem dX4_init_50 : decode cX4_init 50 = .ok (.aload_n 0, 1) := by decide +kernel
theorem dX4_init_51 : decode cX4_init 51 = .ok (.bipush 12, 2) := by decide +kernel
theorem dX4_init_53 : decode cX4_init 53 = .ok (.newarray .long, 2) := by decide +kernel
theorem dX4_init_55 : decode cX4_init 55 = .ok (.putfield 31, 3) := by decide +kernel
theorem dX4_init_58 : decode cX4_init 58 = .ok (.aload_n 0, 1) := by decide +kernel
theorem dX4_init_59 : decode cX4_init 59 = .ok (.bipush 12, 2) := by decide +kernel
theorem dX4_init_61 : decode cX4_init 61 = .ok (.newarray .int, 2) := by decide +kernel
theorem dX4_init_63 : decode cX4_init 63 = .ok (.putfield 34, 3) := by decide +kernel
theorem dX4_init_66 : decode cX4_init 66 = .ok (.aload_n 0, 1) := by decide +kernel
theorem dX4_init_67 : decode cX4_init 67 = .ok (.bipush 40, 2) := by decide +kernel
theorem dX4_init_69 : decode cX4_init 69 = .ok (.newarray .long, 2) := by decide +kernel
theorem dX4_init_71 : decode cX4_init 71 = .ok (.putfield 38, 3) := by decide +kernel
theorem dX4_init_74 : decode cX4_init 74 = .ok (.aload_n 0, 1) := by decide +kernel
theorem dX4_init_75 : decode cX4_init 75 = .ok (.bipush 40, 2) := by decide +kernel
theorem dX4_init_77 : decode cX4_init 77 = .ok (.newarray .long, 2) := by decide +kernel
theorem dX4_init_79 : decode cX4_init 79 = .ok (.putfield 41, 3) := by decide +kernel
theorem dX4_init_82 : decode cX4_init 82 = .ok (.aload_n 0, 1) := by decide +kernel
theorem dX4_init_83 : decode cX4_init 83 = .ok (.bipush 40, 2) := by decide +kernel
theorem dX4_init_85 : decode cX4_init 85 = .ok (.newarray .long, 2) := by decide +kernel
theorem dX4_init_87 : decode cX4_init 87 = .ok (.putfield 44, 3) := by decide +kernel
theorem dX4_init_90 : decode cX4_init 90 = .ok (.return_, 1) := by decide +kernel
theorem dX4_plan_0 : decode cX4_plan 0 = .ok (.iload 6, 2) := by decide +kernel
theorem dX4_plan_2 : decode cX4_plan 2 = .ok (.tableswitch 129 0 2 #[26, 50, 74], 26) := by decide +kernel
theorem dX4_plan_28 : decode cX4_plan 28 = .ok (.aload_n 0, 1) := by decide +kernel
theorem dX4_plan_29 : decode cX4_plan 29 = .ok (.aload_n 1, 1) := by decide +kernel
theorem dX4_plan_30 : decode cX4_plan 30 = .ok (.getfield 47, 3) := by decide +kernel
theorem dX4_plan_33 : decode cX4_plan 33 = .ok (.iload_n 3, 1) := by decide +kernel
theorem dX4_plan_34 : decode cX4_plan 34 = .ok (.invokevirtual 53, 3) := by decide +kernel
theorem dX4_plan_37 : decode cX4_plan 37 = .ok (.aload_n 0, 1) := by decide +kernel
theorem dX4_plan_38 : decode cX4_plan 38 = .ok (.aload_n 1, 1) := by decide +kernel
theorem dX4_plan_39 : decode cX4_plan 39 = .ok (.iload_n 2, 1) := by decide +kernel
theorem dX4_plan_40 : decode cX4_plan 40 = .ok (.lload 4, 2) := by decide +kernel
theorem dX4_plan_42 : decode cX4_plan 42 = .ok (.aload_n 0, 1) := by decide +kernel
theorem dX4_plan_43 : decode cX4_plan 43 = .ok (.getfield 12, 3) := by decide +kernel
theorem dX4_plan_46 : decode cX4_plan 46 = .ok (.invokevirtual 57, 3) := by decide +kernel
theorem dX4_plan_49 : decode cX4_plan 49 = .ok (.goto 97, 3) := by decide +kernel
theorem dX4_plan_52 : decode cX4_plan 52 = .ok (.aload_n 0, 1) := by decide +kernel
theorem dX4_plan_53 : decode cX4_plan 53 = .ok (.aload_n 1, 1) := by decide +kernel
theorem dX4_plan_54 : decode cX4_plan 54 = .ok (.getfield 47, 3) := by decide +kernel
theorem dX4_plan_57 : decode cX4_plan 57 = .ok (.iload_n 3, 1) := by decide +kernel
theorem dX4_plan_58 : decode cX4_plan 58 = .ok (.invokevirtual 61, 3) := by decide +kernel
theorem dX4_plan_61 : decode cX4_plan 61 = .ok (.aload_n 0, 1) := by decide +kernel
theorem dX4_plan_62 : decode cX4_plan 62 = .ok (.aload_n 1, 1) := by decide +kernel
theorem dX4_plan_63 : decode cX4_plan 63 = .ok (.iload_n 2, 1) := by decide +kernel
theorem dX4_plan_64 : decode cX4_plan 64 = .ok (.lload 4, 2) := by decide +kernel
theorem dX4_plan_66 : decode cX4_plan 66 = .ok (.aload_n 0, 1) := by decide +kernel
theorem dX4_plan_67 : decode cX4_plan 67 = .ok (.getfield 12, 3) := by decide +kernel
theorem dX4_plan_70 : decode cX4_plan 70 = .ok (.invokevirtual 57, 3) := by decide +kernel
theorem dX4_plan_73 : decode cX4_plan 73 = .ok (.goto 73, 3) := by decide +kernel
theorem dX4_plan_76 : decode cX4_plan 76 = .ok (.aload_n 0, 1) := by decide +kernel
theorem dX4_plan_77 : decode cX4_plan 77 = .ok (.aload_n 1, 1) := by decide +kernel
theorem dX4_plan_78 : decode cX4_plan 78 = .ok (.getfield 47, 3) := by decide +kernel
theorem dX4_plan_81 : decode cX4_plan 81 = .ok (.iload_n 3, 1) := by decide +kernel
theorem dX4_plan_82 : decode cX4_plan 82 = .ok (.invokevirtual 53, 3) := by decide +kernel
theorem dX4_plan_85 : decode cX4_plan 85 = .ok (.aload_n 0, 1) := by decide +kernel
theorem dX4_plan_86 : decode cX4_plan 86 = .ok (.aload_n 1, 1) := by decide +kernel
theorem dX4_plan_87 : decode cX4_plan 87 = .ok (.iload_n 2, 1) := by decide +kernel
theorem dX4_plan_88 : decode cX4_plan 88 = .ok (.lload 4, 2) := by decide +kernel
theorem dX4_plan_90 : decode cX4_plan 90 = .ok (.aload_n 0, 1) := by decide +kernel
theorem dX4_plan_91 : decode cX4_plan 91 = .ok (.getfield 18, 3) := by decide +kernel
theorem dX4_plan_94 : decode cX4_plan 94 = .ok (.invokevirtual 57, 3) := by decide +kernel
theorem dX4_plan_97 : decode cX4_plan 97 = .ok (.aload_n 0, 1) := by decide +kernel
theorem dX4_plan_98 : decode cX4_plan 98 = .ok (.aload_n 1, 1) := by decide +kernel
theorem dX4_plan_99 : decode cX4_plan 99 = .ok (.iload_n 2, 1) := by decide +kernel
theorem dX4_plan_100 : decode cX4_plan 100 = .ok (.iload_n 3, 1) := by decide +kernel
theorem dX4_plan_101 : decode cX4_plan 101 = .ok (.invokevirtual 64, 3) := by decide +kernel
theorem dX4_plan_104 : decode cX4_plan 104 = .ok (.aload_n 0, 1) := by decide +kernel
theorem dX4_plan_105 : decode cX4_plan 105 = .ok (.aload_n 1, 1) := by decide +kernel
theorem dX4_plan_106 : decode cX4_plan 106 = .ok (.invokevirtual 68, 3) := by decide +kernel
theorem dX4_plan_109 : decode cX4_plan 109 = .ok (.aload_n 0, 1) := by decide +kernel
theorem dX4_plan_110 : decode cX4_plan 110 = .ok (.aload_n 1, 1) := by decide +kernel
theorem dX4_plan_111 : decode cX4_plan 111 = .ok (.iload_n 2, 1) := by decide +kernel
theorem dX4_plan_112 : decode cX4_plan 112 = .ok (.lload 4, 2) := by decide +kernel
theorem dX4_plan_114 : decode cX4_plan 114 = .ok (.invokevirtual 72, 3) := by decide +kernel
theorem dX4_plan_117 : decode cX4_plan 117 = .ok (.aload_n 0, 1) := by decide +kernel
theorem dX4_plan_118 : decode cX4_plan 118 = .ok (.aload_n 1, 1) := by decide +kernel
theorem dX4_plan_119 : decode cX4_plan 119 = .ok (.getfield 47, 3) := by decide +kernel
theorem dX4_plan_122 : decode cX4_plan 122 = .ok (.getfield 76, 3) := by decide +kernel
theorem dX4_plan_125 : decode cX4_plan 125 = .ok (.invokevirtual 82, 3) := by decide +kernel
theorem dX4_plan_128 : decode cX4_plan 128 = .ok (.goto 18, 3) := by decide +kernel
theorem dX4_plan_131 : decode cX4_plan 131 = .ok (.aload_n 0, 1) := by decide +kernel
theorem dX4_plan_132 : decode cX4_plan 132 = .ok (.aload_n 1, 1) := by decide +kernel
theorem dX4_plan_133 : decode cX4_plan 133 = .ok (.iload_n 2, 1) := by decide +kernel
theorem dX4_plan_134 : decode cX4_plan 134 = .ok (.iload_n 3, 1) := by decide +kernel
theorem dX4_plan_135 : decode cX4_plan 135 = .ok (.invokevirtual 64, 3) := by decide +kernel
theorem dX4_plan_138 : decode cX4_plan 138 = .ok (.aload_n 0, 1) := by decide +kernel
theorem dX4_plan_139 : decode cX4_plan 139 = .ok (.aload_n 1, 1) := by decide +kernel
theorem dX4_plan_140 : decode cX4_plan 140 = .ok (.iload_n 2, 1) := by decide +kernel
theorem dX4_plan_141 : decode cX4_plan 141 = .ok (.lload 4, 2) := by decide +kernel
theorem dX4_plan_143 : decode cX4_plan 143 = .ok (.invokevirtual 86, 3) := by decide +kernel
theorem dX4_plan_146 : decode cX4_plan 146 = .ok (.aload_n 0, 1) := by decide +kernel
theorem dX4_plan_147 : decode cX4_plan 147 = .ok (.getfield 12, 3) := by decide +kernel
theorem dX4_plan_150 : decode cX4_plan 150 = .ok (.aload_n 1, 1) := by decide +kernel
theorem dX4_plan_151 : decode cX4_plan 151 = .ok (.getfield 47, 3) := by decide +kernel
theorem dX4_plan_154 : decode cX4_plan 154 = .ok (.aload_n 1, 1) := by decide +kernel
theorem dX4_plan_155 : decode cX4_plan 155 = .ok (.getfield 89, 3) := by decide +kernel
theorem dX4_plan_158 : decode cX4_plan 158 = .ok (.invokevirtual 92, 3) := by decide +kernel
theorem dX4_plan_161 : decode cX4_plan 161 = .ok (.return_, 1) := by decide +kernel
theorem dX4_weighAlike_0 : decode cX4_weighAlike 0 = .ok (.iload_n 2, 1) := by decide +kernel
theorem dX4_weighAlike_1 : decode cX4_weighAlike 1 = .ok (.aload_n 1, 1) := by decide +kernel
theorem dX4_weighAlike_2 : decode cX4_weighAlike 2 = .ok (.getfield 96, 3) := by decide +kernel
theorem dX4_weighAlike_5 : decode cX4_weighAlike 5 = .ok (.iconst (-1), 1) := by decide +kernel
theorem dX4_weighAlike_6 : decode cX4_weighAlike 6 = .ok (.ixor, 1) := by decide +kernel
theorem dX4_weighAlike_7 : decode cX4_weighAlike 7 = .ok (.iand, 1) := by decide +kernel
theorem dX4_weighAlike_8 : decode cX4_weighAlike 8 = .ok (.istore_n 3, 1) := by decide +kernel
theorem dX4_weighAlike_9 : decode cX4_weighAlike 9 = .ok (.iconst 0, 1) := by decide +kernel
theorem dX4_weighAlike_10 : decode cX4_weighAlike 10 = .ok (.istore 4, 2) := by decide +kernel
theorem dX4_weighAlike_12 : decode cX4_weighAlike 12 = .ok (.iload 4, 2) := by decide +kernel
theorem dX4_weighAlike_14 : decode cX4_weighAlike 14 = .ok (.bipush 12, 2) := by decide +kernel
theorem dX4_weighAlike_16 : decode cX4_weighAlike 16 = .ok (.if_icmp .ge 23, 3) := by decide +kernel
theorem dX4_weighAlike_19 : decode cX4_weighAlike 19 = .ok (.aload_n 0, 1) := by decide +kernel
theorem dX4_weighAlike_20 : decode cX4_weighAlike 20 = .ok (.getfield 21, 3) := by decide +kernel
theorem dX4_weighAlike_23 : decode cX4_weighAlike 23 = .ok (.iload 4, 2) := by decide +kernel
theorem dX4_weighAlike_25 : decode cX4_weighAlike 25 = .ok (.iload_n 3, 1) := by decide +kernel
theorem dX4_weighAlike_26 : decode cX4_weighAlike 26 = .ok (.iload 4, 2) := by decide +kernel
theorem dX4_weighAlike_28 : decode cX4_weighAlike 28 = .ok (.ishr, 1) := by decide +kernel
theorem dX4_weighAlike_29 : decode cX4_weighAlike 29 = .ok (.iconst 1, 1) := by decide +kernel
theorem dX4_weighAlike_30 : decode cX4_weighAlike 30 = .ok (.iand, 1) := by decide +kernel
theorem dX4_weighAlike_31 : decode cX4_weighAlike 31 = .ok (.i2l, 1) := by decide +kernel
theorem dX4_weighAlike_32 : decode cX4_weighAlike 32 = .ok (.lastore, 1) := by decide +kernel
theorem dX4_weighAlike_33 : decode cX4_weighAlike 33 = .ok (.iinc 4 1, 3) := by decide +kernel
theorem dX4_weighAlike_36 : decode cX4_weighAlike 36 = .ok (.goto (-24), 3) := by decide +kernel
theorem dX4_weighAlike_39 : decode cX4_weighAlike 39 = .ok (.return_, 1) := by decide +kernel
theorem dX4_weighBySizes_0 : decode cX4_weighBySizes 0 = .ok (.iload_n 2, 1) := by decide +kernel
theorem dX4_weighBySizes_1 : decode cX4_weighBySizes 1 = .ok (.aload_n 1, 1) := by decide +kernel
theorem dX4_weighBySizes_2 : decode cX4_weighBySizes 2 = .ok (.getfield 96, 3) := by decide +kernel
theorem dX4_weighBySizes_5 : decode cX4_weighBySizes 5 = .ok (.iconst (-1), 1) := by decide +kernel
theorem dX4_weighBySizes_6 : decode cX4_weighBySizes 6 = .ok (.ixor, 1) := by decide +kernel
theorem dX4_weighBySizes_7 : decode cX4_weighBySizes 7 = .ok (.iand, 1) := by decide +kernel
theorem dX4_weighBySizes_8 : decode cX4_weighBySizes 8 = .ok (.istore_n 3, 1) := by decide +kernel
theorem dX4_weighBySizes_9 : decode cX4_weighBySizes 9 = .ok (.lconst 0, 1) := by decide +kernel
theorem dX4_weighBySizes_10 : decode cX4_weighBySizes 10 = .ok (.lstore 4, 2) := by decide +kernel
theorem dX4_weighBySizes_12 : decode cX4_weighBySizes 12 = .ok (.iconst 0, 1) := by decide +kernel
theorem dX4_weighBySizes_13 : decode cX4_weighBySizes 13 = .ok (.istore 6, 2) := by decide +kernel
theorem dX4_weighBySizes_15 : decode cX4_weighBySizes 15 = .ok (.iconst 0, 1) := by decide +kernel
theorem dX4_weighBySizes_16 : decode cX4_weighBySizes 16 = .ok (.istore 7, 2) := by decide +kernel
theorem dX4_weighBySizes_18 : decode cX4_weighBySizes 18 = .ok (.iload 7, 2) := by decide +kernel
theorem dX4_weighBySizes_20 : decode cX4_weighBySizes 20 = .ok (.bipush 12, 2) := by decide +kernel
theorem dX4_weighBySizes_22 : decode cX4_weighBySizes 22 = .ok (.if_icmp .ge 69, 3) := by decide +kernel
theorem dX4_weighBySizes_25 : decode cX4_weighBySizes 25 = .ok (.aload_n 0, 1) := by decide +kernel
theorem dX4_weighBySizes_26 : decode cX4_weighBySizes 26 = .ok (.getfield 21, 3) := by decide +kernel
theorem dX4_weighBySizes_29 : decode cX4_weighBySizes 29 = .ok (.iload 7, 2) := by decide +kernel
theorem dX4_weighBySizes_31 : decode cX4_weighBySizes 31 = .ok (.iload_n 3, 1) := by decide +kernel
theorem dX4_weighBySizes_32 : decode cX4_weighBySizes 32 = .ok (.iload 7, 2) := by decide +kernel
theorem dX4_weighBySizes_34 : decode cX4_weighBySizes 34 = .ok (.ishr, 1) := by decide +kernel
theorem dX4_weighBySizes_35 : decode cX4_weighBySizes 35 = .ok (.iconst 1, 1) := by decide +kernel
theorem dX4_weighBySizes_36 : decode cX4_weighBySizes 36 = .ok (.iand, 1) := by decide +kernel
theorem dX4_weighBySizes_37 : decode cX4_weighBySizes 37 = .ok (.ifCond .eq 12, 3) := by decide +kernel
theorem dX4_weighBySizes_40 : decode cX4_weighBySizes 40 = .ok (.aload_n 1, 1) := by decide +kernel
theorem dX4_weighBySizes_41 : decode cX4_weighBySizes 41 = .ok (.iload 7, 2) := by decide +kernel
theorem dX4_weighBySizes_43 : decode cX4_weighBySizes 43 = .ok (.invokevirtual 99, 3) := by decide +kernel
theorem dX4_weighBySizes_46 : decode cX4_weighBySizes 46 = .ok (.goto 4, 3) := by decide +kernel
theorem dX4_weighBySizes_49 : decode cX4_weighBySizes 49 = .ok (.lconst 0, 1) := by decide +kernel
theorem dX4_weighBySizes_50 : decode cX4_weighBySizes 50 = .ok (.lastore, 1) := by decide +kernel
theorem dX4_weighBySizes_51 : decode cX4_weighBySizes 51 = .ok (.lload 4, 2) := by decide +kernel
theorem dX4_weighBySizes_53 : decode cX4_weighBySizes 53 = .ok (.aload_n 0, 1) := by decide +kernel
theorem dX4_weighBySizes_54 : decode cX4_weighBySizes 54 = .ok (.getfield 21, 3) := by decide +kernel
theorem dX4_weighBySizes_57 : decode cX4_weighBySizes 57 = .ok (.iload 7, 2) := by decide +kernel
theorem dX4_weighBySizes_59 : decode cX4_weighBySizes 59 = .ok (.laload, 1) := by decide +kernel
theorem dX4_weighBySizes_60 : decode cX4_weighBySizes 60 = .ok (.ladd, 1) := by decide +kernel
theorem dX4_weighBySizes_61 : decode cX4_weighBySizes 61 = .ok (.lstore 4, 2) := by decide +kernel
theorem dX4_weighBySizes_63 : decode cX4_weighBySizes 63 = .ok (.iload 6, 2) := by decide +kernel
theorem dX4_weighBySizes_65 : decode cX4_weighBySizes 65 = .ok (.aload_n 0, 1) := by decide +kernel
theorem dX4_weighBySizes_66 : decode cX4_weighBySizes 66 = .ok (.getfield 21, 3) := by decide +kernel
theorem dX4_weighBySizes_69 : decode cX4_weighBySizes 69 = .ok (.iload 7, 2) := by decide +kernel
theorem dX4_weighBySizes_71 : decode cX4_weighBySizes 71 = .ok (.laload, 1) := by decide +kernel
theorem dX4_weighBySizes_72 : decode cX4_weighBySizes 72 = .ok (.lconst 0, 1) := by decide +kernel
theorem dX4_weighBySizes_73 : decode cX4_weighBySizes 73 = .ok (.lcmp, 1) := by decide +kernel
theorem dX4_weighBySizes_74 : decode cX4_weighBySizes 74 = .ok (.ifCond .le 7, 3) := by decide +kernel
theorem dX4_weighBySizes_77 : decode cX4_weighBySizes 77 = .ok (.iconst 1, 1) := by decide +kernel
theorem dX4_weighBySizes_78 : decode cX4_weighBySizes 78 = .ok (.goto 4, 3) := by decide +kernel
theorem dX4_weighBySizes_81 : decode cX4_weighBySizes 81 = .ok (.iconst 0, 1) := by decide +kernel
theorem dX4_weighBySizes_82 : decode cX4_weighBySizes 82 = .ok (.iadd, 1) := by decide +kernel
theorem dX4_weighBySizes_83 : decode cX4_weighBySizes 83 = .ok (.istore 6, 2) := by decide +kernel
theorem dX4_weighBySizes_85 : decode cX4_weighBySizes 85 = .ok (.iinc 7 1, 3) := by decide +kernel
theorem dX4_weighBySizes_88 : decode cX4_weighBySizes 88 = .ok (.goto (-70), 3) := by decide +kernel
theorem dX4_weighBySizes_91 : decode cX4_weighBySizes 91 = .ok (.iload 6, 2) := by decide +kernel
theorem dX4_weighBySizes_93 : decode cX4_weighBySizes 93 = .ok (.ifCond .le 12, 3) := by decide +kernel
theorem dX4_weighBySizes_96 : decode cX4_weighBySizes 96 = .ok (.lload 4, 2) := by decide +kernel
theorem dX4_weighBySizes_98 : decode cX4_weighBySizes 98 = .ok (.iload 6, 2) := by decide +kernel
theorem dX4_weighBySizes_100 : decode cX4_weighBySizes 100 = .ok (.i2l, 1) := by decide +kernel
theorem dX4_weighBySizes_101 : decode cX4_weighBySizes 101 = .ok (.ldiv, 1) := by decide +kernel
theorem dX4_weighBySizes_102 : decode cX4_weighBySizes 102 = .ok (.goto 4, 3) := by decide +kernel
theorem dX4_weighBySizes_105 : decode cX4_weighBySizes 105 = .ok (.lconst 1, 1) := by decide +kernel
theorem dX4_weighBySizes_106 : decode cX4_weighBySizes 106 = .ok (.lstore 7, 2) := by decide +kernel
theorem dX4_weighBySizes_108 : decode cX4_weighBySizes 108 = .ok (.iconst 0, 1) := by decide +kernel
theorem dX4_weighBySizes_109 : decode cX4_weighBySizes 109 = .ok (.istore 9, 2) := by decide +kernel
theorem dX4_weighBySizes_111 : decode cX4_weighBySizes 111 = .ok (.iload 9, 2) := by decide +kernel
theorem dX4_weighBySizes_113 : decode cX4_weighBySizes 113 = .ok (.bipush 12, 2) := by decide +kernel
theorem dX4_weighBySizes_115 : decode cX4_weighBySizes 115 = .ok (.if_icmp .ge 36, 3) := by decide +kernel
theorem dX4_weighBySizes_118 : decode cX4_weighBySizes 118 = .ok (.iload_n 3, 1) := by decide +kernel
theorem dX4_weighBySizes_119 : decode cX4_weighBySizes 119 = .ok (.iload 9, 2) := by decide +kernel
theorem dX4_weighBySizes_121 : decode cX4_weighBySizes 121 = .ok (.ishr, 1) := by decide +kernel
theorem dX4_weighBySizes_122 : decode cX4_weighBySizes 122 = .ok (.iconst 1, 1) := by decide +kernel
theorem dX4_weighBySizes_123 : decode cX4_weighBySizes 123 = .ok (.iand, 1) := by decide +kernel
theorem dX4_weighBySizes_124 : decode cX4_weighBySizes 124 = .ok (.ifCond .eq 21, 3) := by decide +kernel
theorem dX4_weighBySizes_127 : decode cX4_weighBySizes 127 = .ok (.aload_n 1, 1) := by decide +kernel
theorem dX4_weighBySizes_128 : decode cX4_weighBySizes 128 = .ok (.iload 9, 2) := by decide +kernel
theorem dX4_weighBySizes_130 : decode cX4_weighBySizes 130 = .ok (.invokevirtual 103, 3) := by decide +kernel
theorem dX4_weighBySizes_133 : decode cX4_weighBySizes 133 = .ok (.ifCond .eq 12, 3) := by decide +kernel
theorem dX4_weighBySizes_136 : decode cX4_weighBySizes 136 = .ok (.aload_n 0, 1) := by decide +kernel
theorem dX4_weighBySizes_137 : decode cX4_weighBySizes 137 = .ok (.getfield 21, 3) := by decide +kernel
theorem dX4_weighBySizes_140 : decode cX4_weighBySizes 140 = .ok (.iload 9, 2) := by decide +kernel
theorem dX4_weighBySizes_142 : decode cX4_weighBySizes 142 = .ok (.lload 7, 2) := by decide +kernel
theorem dX4_weighBySizes_144 : decode cX4_weighBySizes 144 = .ok (.lastore, 1) := by decide +kernel
theorem dX4_weighBySizes_145 : decode cX4_weighBySizes 145 = .ok (.iinc 9 1, 3) := by decide +kernel
theorem dX4_weighBySizes_148 : decode cX4_weighBySizes 148 = .ok (.goto (-37), 3) := by decide +kernel
theorem dX4_weighBySizes_151 : decode cX4_weighBySizes 151 = .ok (.return_, 1) := by decide +kernel
theorem dX4_payByWeights_0 : decode cX4_payByWeights 0 = .ok (.aload 5, 2) := by decide +kernel
theorem dX4_payByWeights_2 : decode cX4_payByWeights 2 = .ok (.invokevirtual 107, 3) := by decide +kernel
theorem dX4_payByWeights_5 : decode cX4_payByWeights 5 = .ok (.lload_n 3, 1) := by decide +kernel
theorem dX4_payByWeights_6 : decode cX4_payByWeights 6 = .ok (.aload_n 0, 1) := by decide +kernel
theorem dX4_payByWeights_7 : decode cX4_payByWeights 7 = .ok (.getfield 21, 3) := by decide +kernel
theorem dX4_payByWeights_10 : decode cX4_payByWeights 10 = .ok (.bipush 12, 2) := by decide +kernel
theorem dX4_payByWeights_12 : decode cX4_payByWeights 12 = .ok (.aload_n 0, 1) := by decide +kernel
theorem dX4_payByWeights_13 : decode cX4_payByWeights 13 = .ok (.getfield 25, 3) := by decide +kernel
theorem dX4_payByWeights_16 : decode cX4_payByWeights 16 = .ok (.invokestatic 110, 3) := by decide +kernel
theorem dX4_payByWeights_19 : decode cX4_payByWeights 19 = .ok (.lload_n 3, 1) := by decide +kernel
theorem dX4_payByWeights_20 : decode cX4_payByWeights 20 = .ok (.lstore 6, 2) := by decide +kernel
theorem dX4_payByWeights_22 : decode cX4_payByWeights 22 = .ok (.iconst 0, 1) := by decide +kernel
theorem dX4_payByWeights_23 : decode cX4_payByWeights 23 = .ok (.istore 8, 2) := by decide +kernel
theorem dX4_payByWeights_25 : decode cX4_payByWeights 25 = .ok (.iload 8, 2) := by decide +kernel
theorem dX4_payByWeights_27 : decode cX4_payByWeights 27 = .ok (.bipush 12, 2) := by decide +kernel
theorem dX4_payByWeights_29 : decode cX4_payByWeights 29 = .ok (.if_icmp .ge 79, 3) := by decide +kernel
theorem dX4_payByWeights_32 : decode cX4_payByWeights 32 = .ok (.lload 6, 2) := by decide +kernel
theorem dX4_payByWeights_34 : decode cX4_payByWeights 34 = .ok (.aload_n 0, 1) := by decide +kernel
theorem dX4_payByWeights_35 : decode cX4_payByWeights 35 = .ok (.getfield 25, 3) := by decide +kernel
theorem dX4_payByWeights_38 : decode cX4_payByWeights 38 = .ok (.iload 8, 2) := by decide +kernel
theorem dX4_payByWeights_40 : decode cX4_payByWeights 40 = .ok (.laload, 1) := by decide +kernel
theorem dX4_payByWeights_41 : decode cX4_payByWeights 41 = .ok (.lsub, 1) := by decide +kernel
theorem dX4_payByWeights_42 : decode cX4_payByWeights 42 = .ok (.lstore 6, 2) := by decide +kernel
theorem dX4_payByWeights_44 : decode cX4_payByWeights 44 = .ok (.aload_n 1, 1) := by decide +kernel
theorem dX4_payByWeights_45 : decode cX4_payByWeights 45 = .ok (.getfield 47, 3) := by decide +kernel
theorem dX4_payByWeights_48 : decode cX4_payByWeights 48 = .ok (.iload 8, 2) := by decide +kernel
theorem dX4_payByWeights_50 : decode cX4_payByWeights 50 = .ok (.invokevirtual 103, 3) := by decide +kernel
theorem dX4_payByWeights_53 : decode cX4_payByWeights 53 = .ok (.ifCond .eq 23, 3) := by decide +kernel
theorem dX4_payByWeights_56 : decode cX4_payByWeights 56 = .ok (.aload 5, 2) := by decide +kernel
theorem dX4_payByWeights_58 : decode cX4_payByWeights 58 = .ok (.getfield 114, 3) := by decide +kernel
theorem dX4_payByWeights_61 : decode cX4_payByWeights 61 = .ok (.iconst 3, 1) := by decide +kernel
theorem dX4_payByWeights_62 : decode cX4_payByWeights 62 = .ok (.dup2, 1) := by decide +kernel
theorem dX4_payByWeights_63 : decode cX4_payByWeights 63 = .ok (.laload, 1) := by decide +kernel
theorem dX4_payByWeights_64 : decode cX4_payByWeights 64 = .ok (.aload_n 0, 1) := by decide +kernel
theorem dX4_payByWeights_65 : decode cX4_payByWeights 65 = .ok (.getfield 25, 3) := by decide +kernel
theorem dX4_payByWeights_68 : decode cX4_payByWeights 68 = .ok (.iload 8, 2) := by decide +kernel
theorem dX4_payByWeights_70 : decode cX4_payByWeights 70 = .ok (.laload, 1) := by decide +kernel
theorem dX4_payByWeights_71 : decode cX4_payByWeights 71 = .ok (.ladd, 1) := by decide +kernel
theorem dX4_payByWeights_72 : decode cX4_payByWeights 72 = .ok (.lastore, 1) := by decide +kernel
theorem dX4_payByWeights_73 : decode cX4_payByWeights 73 = .ok (.goto 29, 3) := by decide +kernel
theorem dX4_payByWeights_76 : decode cX4_payByWeights 76 = .ok (.aload 5, 2) := by decide +kernel
theorem dX4_payByWeights_78 : decode cX4_payByWeights 78 = .ok (.getfield 114, 3) := by decide +kernel
theorem dX4_payByWeights_81 : decode cX4_payByWeights 81 = .ok (.iconst 2, 1) := by decide +kernel
theorem dX4_payByWeights_82 : decode cX4_payByWeights 82 = .ok (.dup2, 1) := by decide +kernel
theorem dX4_payByWeights_83 : decode cX4_payByWeights 83 = .ok (.laload, 1) := by decide +kernel
theorem dX4_payByWeights_84 : decode cX4_payByWeights 84 = .ok (.aload 5, 2) := by decide +kernel
theorem dX4_payByWeights_86 : decode cX4_payByWeights 86 = .ok (.aload_n 1, 1) := by decide +kernel
theorem dX4_payByWeights_87 : decode cX4_payByWeights 87 = .ok (.iload_n 2, 1) := by decide +kernel
theorem dX4_payByWeights_88 : decode cX4_payByWeights 88 = .ok (.iload 8, 2) := by decide +kernel
theorem dX4_payByWeights_90 : decode cX4_payByWeights 90 = .ok (.aload_n 0, 1) := by decide +kernel
theorem dX4_payByWeights_91 : decode cX4_payByWeights 91 = .ok (.getfield 25, 3) := by decide +kernel
theorem dX4_payByWeights_94 : decode cX4_payByWeights 94 = .ok (.iload 8, 2) := by decide +kernel
theorem dX4_payByWeights_96 : decode cX4_payByWeights 96 = .ok (.laload, 1) := by decide +kernel
theorem dX4_payByWeights_97 : decode cX4_payByWeights 97 = .ok (.invokevirtual 117, 3) := by decide +kernel
theorem dX4_payByWeights_100 : decode cX4_payByWeights 100 = .ok (.ladd, 1) := by decide +kernel
theorem dX4_payByWeights_101 : decode cX4_payByWeights 101 = .ok (.lastore, 1) := by decide +kernel
theorem dX4_payByWeights_102 : decode cX4_payByWeights 102 = .ok (.iinc 8 1, 3) := by decide +kernel
theorem dX4_payByWeights_105 : decode cX4_payByWeights 105 = .ok (.goto (-80), 3) := by decide +kernel
theorem dX4_payByWeights_108 : decode cX4_payByWeights 108 = .ok (.aload 5, 2) := by decide +kernel
theorem dX4_payByWeights_110 : decode cX4_payByWeights 110 = .ok (.getfield 114, 3) := by decide +kernel
theorem dX4_payByWeights_113 : decode cX4_payByWeights 113 = .ok (.iconst 3, 1) := by decide +kernel
theorem dX4_payByWeights_114 : decode cX4_payByWeights 114 = .ok (.dup2, 1) := by decide +kernel
theorem dX4_payByWeights_115 : decode cX4_payByWeights 115 = .ok (.laload, 1) := by decide +kernel
theorem dX4_payByWeights_116 : decode cX4_payByWeights 116 = .ok (.lload 6, 2) := by decide +kernel
theorem dX4_payByWeights_118 : decode cX4_payByWeights 118 = .ok (.ladd, 1) := by decide +kernel
theorem dX4_payByWeights_119 : decode cX4_payByWeights 119 = .ok (.lastore, 1) := by decide +kernel
theorem dX4_payByWeights_120 : decode cX4_payByWeights 120 = .ok (.return_, 1) := by decide +kernel
theorem dX4_measureRooms_0 : decode cX4_measureRooms 0 = .ok (.aload_n 0, 1) := by decide +kernel
theorem dX4_measureRooms_1 : decode cX4_measureRooms 1 = .ok (.iconst 0, 1) := by decide +kernel
theorem dX4_measureRooms_2 : decode cX4_measureRooms 2 = .ok (.putfield 121, 3) := by decide +kernel
theorem dX4_measureRooms_5 : decode cX4_measureRooms 5 = .ok (.iconst 0, 1) := by decide +kernel
theorem dX4_measureRooms_6 : decode cX4_measureRooms 6 = .ok (.istore 4, 2) := by decide +kernel
theorem dX4_measureRooms_8 : decode cX4_measureRooms 8 = .ok (.iload 4, 2) := by decide +kernel
theorem dX4_measureRooms_10 : decode cX4_measureRooms 10 = .ok (.bipush 12, 2) := by decide +kernel
theorem dX4_measureRooms_12 : decode cX4_measureRooms 12 = .ok (.if_icmp .ge 65, 3) := by decide +kernel
theorem dX4_measureRooms_15 : decode cX4_measureRooms 15 = .ok (.iload_n 3, 1) := by decide +kernel
theorem dX4_measureRooms_16 : decode cX4_measureRooms 16 = .ok (.iload 4, 2) := by decide +kernel
theorem dX4_measureRooms_18 : decode cX4_measureRooms 18 = .ok (.ishr, 1) := by decide +kernel
theorem dX4_measureRooms_19 : decode cX4_measureRooms 19 = .ok (.iconst 1, 1) := by decide +kernel
theorem dX4_measureRooms_20 : decode cX4_measureRooms 20 = .ok (.iand, 1) := by decide +kernel
theorem dX4_measureRooms_21 : decode cX4_measureRooms 21 = .ok (.ifCond .eq 50, 3) := by decide +kernel
theorem dX4_measureRooms_24 : decode cX4_measureRooms 24 = .ok (.aload_n 1, 1) := by decide +kernel
theorem dX4_measureRooms_25 : decode cX4_measureRooms 25 = .ok (.getfield 47, 3) := by decide +kernel
theorem dX4_measureRooms_28 : decode cX4_measureRooms 28 = .ok (.iload 4, 2) := by decide +kernel
theorem dX4_measureRooms_30 : decode cX4_measureRooms 30 = .ok (.invokevirtual 103, 3) := by decide +kernel
theorem dX4_measureRooms_33 : decode cX4_measureRooms 33 = .ok (.ifCond .ne 38, 3) := by decide +kernel
theorem dX4_measureRooms_36 : decode cX4_measureRooms 36 = .ok (.aload_n 0, 1) := by decide +kernel
theorem dX4_measureRooms_37 : decode cX4_measureRooms 37 = .ok (.getfield 28, 3) := by decide +kernel
theorem dX4_measureRooms_40 : decode cX4_measureRooms 40 = .ok (.iload 4, 2) := by decide +kernel
theorem dX4_measureRooms_42 : decode cX4_measureRooms 42 = .ok (.aload_n 1, 1) := by decide +kernel
theorem dX4_measureRooms_43 : decode cX4_measureRooms 43 = .ok (.iload_n 2, 1) := by decide +kernel
theorem dX4_measureRooms_44 : decode cX4_measureRooms 44 = .ok (.iload 4, 2) := by decide +kernel
theorem dX4_measureRooms_46 : decode cX4_measureRooms 46 = .ok (.invokevirtual 124, 3) := by decide +kernel
theorem dX4_measureRooms_49 : decode cX4_measureRooms 49 = .ok (.lastore, 1) := by decide +kernel
theorem dX4_measureRooms_50 : decode cX4_measureRooms 50 = .ok (.aload_n 0, 1) := by decide +kernel
theorem dX4_measureRooms_51 : decode cX4_measureRooms 51 = .ok (.getfield 34, 3) := by decide +kernel
theorem dX4_measureRooms_54 : decode cX4_measureRooms 54 = .ok (.aload_n 0, 1) := by decide +kernel
theorem dX4_measureRooms_55 : decode cX4_measureRooms 55 = .ok (.getfield 121, 3) := by decide +kernel
theorem dX4_measureRooms_58 : decode cX4_measureRooms 58 = .ok (.iload 4, 2) := by decide +kernel
theorem dX4_measureRooms_60 : decode cX4_measureRooms 60 = .ok (.iastore, 1) := by decide +kernel
theorem dX4_measureRooms_61 : decode cX4_measureRooms 61 = .ok (.aload_n 0, 1) := by decide +kernel
theorem dX4_measureRooms_62 : decode cX4_measureRooms 62 = .ok (.dup, 1) := by decide +kernel
theorem dX4_measureRooms_63 : decode cX4_measureRooms 63 = .ok (.getfield 121, 3) := by decide +kernel
theorem dX4_measureRooms_66 : decode cX4_measureRooms 66 = .ok (.iconst 1, 1) := by decide +kernel
theorem dX4_measureRooms_67 : decode cX4_measureRooms 67 = .ok (.iadd, 1) := by decide +kernel
theorem dX4_measureRooms_68 : decode cX4_measureRooms 68 = .ok (.putfield 121, 3) := by decide +kernel
theorem dX4_measureRooms_71 : decode cX4_measureRooms 71 = .ok (.iinc 4 1, 3) := by decide +kernel
theorem dX4_measureRooms_74 : decode cX4_measureRooms 74 = .ok (.goto (-66), 3) := by decide +kernel
theorem dX4_measureRooms_77 : decode cX4_measureRooms 77 = .ok (.return_, 1) := by decide +kernel
theorem dX4_orderYears_0 : decode cX4_orderYears 0 = .ok (.iconst 0, 1) := by decide +kernel
theorem dX4_orderYears_1 : decode cX4_orderYears 1 = .ok (.istore_n 2, 1) := by decide +kernel
theorem dX4_orderYears_2 : decode cX4_orderYears 2 = .ok (.iload_n 2, 1) := by decide +kernel
theorem dX4_orderYears_3 : decode cX4_orderYears 3 = .ok (.aload_n 0, 1) := by decide +kernel
theorem dX4_orderYears_4 : decode cX4_orderYears 4 = .ok (.getfield 121, 3) := by decide +kernel
theorem dX4_orderYears_7 : decode cX4_orderYears 7 = .ok (.if_icmp .ge 90, 3) := by decide +kernel
theorem dX4_orderYears_10 : decode cX4_orderYears 10 = .ok (.aload_n 0, 1) := by decide +kernel
theorem dX4_orderYears_11 : decode cX4_orderYears 11 = .ok (.getfield 34, 3) := by decide +kernel
theorem dX4_orderYears_14 : decode cX4_orderYears 14 = .ok (.iload_n 2, 1) := by decide +kernel
theorem dX4_orderYears_15 : decode cX4_orderYears 15 = .ok (.iaload, 1) := by decide +kernel
theorem dX4_orderYears_16 : decode cX4_orderYears 16 = .ok (.istore_n 3, 1) := by decide +kernel
theorem dX4_orderYears_17 : decode cX4_orderYears 17 = .ok (.aload_n 0, 1) := by decide +kernel
theorem dX4_orderYears_18 : decode cX4_orderYears 18 = .ok (.getfield 31, 3) := by decide +kernel
theorem dX4_orderYears_21 : decode cX4_orderYears 21 = .ok (.iload_n 3, 1) := by decide +kernel
theorem dX4_orderYears_22 : decode cX4_orderYears 22 = .ok (.aload_n 0, 1) := by decide +kernel
theorem dX4_orderYears_23 : decode cX4_orderYears 23 = .ok (.aload_n 1, 1) := by decide +kernel
theorem dX4_orderYears_24 : decode cX4_orderYears 24 = .ok (.iload_n 3, 1) := by decide +kernel
theorem dX4_orderYears_25 : decode cX4_orderYears 25 = .ok (.invokevirtual 128, 3) := by decide +kernel
theorem dX4_orderYears_28 : decode cX4_orderYears 28 = .ok (.lastore, 1) := by decide +kernel
theorem dX4_orderYears_29 : decode cX4_orderYears 29 = .ok (.iload_n 2, 1) := by decide +kernel
theorem dX4_orderYears_30 : decode cX4_orderYears 30 = .ok (.istore 4, 2) := by decide +kernel
theorem dX4_orderYears_32 : decode cX4_orderYears 32 = .ok (.iload 4, 2) := by decide +kernel
theorem dX4_orderYears_34 : decode cX4_orderYears 34 = .ok (.ifCond .le 49, 3) := by decide +kernel
theorem dX4_orderYears_37 : decode cX4_orderYears 37 = .ok (.aload_n 0, 1) := by decide +kernel
theorem dX4_orderYears_38 : decode cX4_orderYears 38 = .ok (.getfield 31, 3) := by decide +kernel
theorem dX4_orderYears_41 : decode cX4_orderYears 41 = .ok (.aload_n 0, 1) := by decide +kernel
theorem dX4_orderYears_42 : decode cX4_orderYears 42 = .ok (.getfield 34, 3) := by decide +kernel
theorem dX4_orderYears_45 : decode cX4_orderYears 45 = .ok (.iload 4, 2) := by decide +kernel
theorem dX4_orderYears_47 : decode cX4_orderYears 47 = .ok (.iconst 1, 1) := by decide +kernel
theorem dX4_orderYears_48 : decode cX4_orderYears 48 = .ok (.isub, 1) := by decide +kernel
theorem dX4_orderYears_49 : decode cX4_orderYears 49 = .ok (.iaload, 1) := by decide +kernel
theorem dX4_orderYears_50 : decode cX4_orderYears 50 = .ok (.laload, 1) := by decide +kernel
theorem dX4_orderYears_51 : decode cX4_orderYears 51 = .ok (.aload_n 0, 1) := by decide +kernel
theorem dX4_orderYears_52 : decode cX4_orderYears 52 = .ok (.getfield 31, 3) := by decide +kernel
theorem dX4_orderYears_55 : decode cX4_orderYears 55 = .ok (.iload_n 3, 1) := by decide +kernel
theorem dX4_orderYears_56 : decode cX4_orderYears 56 = .ok (.laload, 1) := by decide +kernel
theorem dX4_orderYears_57 : decode cX4_orderYears 57 = .ok (.lcmp, 1) := by decide +kernel
theorem dX4_orderYears_58 : decode cX4_orderYears 58 = .ok (.ifCond .le 25, 3) := by decide +kernel
theorem dX4_orderYears_61 : decode cX4_orderYears 61 = .ok (.aload_n 0, 1) := by decide +kernel
theorem dX4_orderYears_62 : decode cX4_orderYears 62 = .ok (.getfield 34, 3) := by decide +kernel
theorem dX4_orderYears_65 : decode cX4_orderYears 65 = .ok (.iload 4, 2) := by decide +kernel
theorem dX4_orderYears_67 : decode cX4_orderYears 67 = .ok (.aload_n 0, 1) := by decide +kernel
theorem dX4_orderYears_68 : decode cX4_orderYears 68 = .ok (.getfield 34, 3) := by decide +kernel
theorem dX4_orderYears_71 : decode cX4_orderYears 71 = .ok (.iload 4, 2) := by decide +kernel
theorem dX4_orderYears_73 : decode cX4_orderYears 73 = .ok (.iconst 1, 1) := by decide +kernel
theorem dX4_orderYears_74 : decode cX4_orderYears 74 = .ok (.isub, 1) := by decide +kernel
theorem dX4_orderYears_75 : decode cX4_orderYears 75 = .ok (.iaload, 1) := by decide +kernel
theorem dX4_orderYears_76 : decode cX4_orderYears 76 = .ok (.iastore, 1) := by decide +kernel
theorem dX4_orderYears_77 : decode cX4_orderYears 77 = .ok (.iinc 4 (-1), 3) := by decide +kernel
theorem dX4_orderYears_80 : decode cX4_orderYears 80 = .ok (.goto (-48), 3) := by decide +kernel
theorem dX4_orderYears_83 : decode cX4_orderYears 83 = .ok (.aload_n 0, 1) := by decide +kernel
theorem dX4_orderYears_84 : decode cX4_orderYears 84 = .ok (.getfield 34, 3) := by decide +kernel
theorem dX4_orderYears_87 : decode cX4_orderYears 87 = .ok (.iload 4, 2) := by decide +kernel
theorem dX4_orderYears_89 : decode cX4_orderYears 89 = .ok (.iload_n 3, 1) := by decide +kernel
theorem dX4_orderYears_90 : decode cX4_orderYears 90 = .ok (.iastore, 1) := by decide +kernel
theorem dX4_orderYears_91 : decode cX4_orderYears 91 = .ok (.iinc 2 1, 3) := by decide +kernel
theorem dX4_orderYears_94 : decode cX4_orderYears 94 = .ok (.goto (-92), 3) := by decide +kernel
theorem dX4_orderYears_97 : decode cX4_orderYears 97 = .ok (.return_, 1) := by decide +kernel
theorem dX4_keyOf_0 : decode cX4_keyOf 0 = .ok (.aload_n 1, 1) := by decide +kernel
theorem dX4_keyOf_1 : decode cX4_keyOf 1 = .ok (.getfield 132, 3) := by decide +kernel
theorem dX4_keyOf_4 : decode cX4_keyOf 4 = .ok (.tableswitch 50 0 2 #[28, 36, 40], 28) := by decide +kernel
theorem dX4_keyOf_32 : decode cX4_keyOf 32 = .ok (.aload_n 0, 1) := by decide +kernel
theorem dX4_keyOf_33 : decode cX4_keyOf 33 = .ok (.getfield 28, 3) := by decide +kernel
theorem dX4_keyOf_36 : decode cX4_keyOf 36 = .ok (.iload_n 2, 1) := by decide +kernel
theorem dX4_keyOf_37 : decode cX4_keyOf 37 = .ok (.laload, 1) := by decide +kernel
theorem dX4_keyOf_38 : decode cX4_keyOf 38 = .ok (.lneg, 1) := by decide +kernel
theorem dX4_keyOf_39 : decode cX4_keyOf 39 = .ok (.lreturn, 1) := by decide +kernel
theorem dX4_keyOf_40 : decode cX4_keyOf 40 = .ok (.iload_n 2, 1) := by decide +kernel
theorem dX4_keyOf_41 : decode cX4_keyOf 41 = .ok (.ineg, 1) := by decide +kernel
theorem dX4_keyOf_42 : decode cX4_keyOf 42 = .ok (.i2l, 1) := by decide +kernel
theorem dX4_keyOf_43 : decode cX4_keyOf 43 = .ok (.lreturn, 1) := by decide +kernel
theorem dX4_keyOf_44 : decode cX4_keyOf 44 = .ok (.aload_n 1, 1) := by decide +kernel
theorem dX4_keyOf_45 : decode cX4_keyOf 45 = .ok (.getfield 47, 3) := by decide +kernel
theorem dX4_keyOf_48 : decode cX4_keyOf 48 = .ok (.iload_n 2, 1) := by decide +kernel
theorem dX4_keyOf_49 : decode cX4_keyOf 49 = .ok (.invokevirtual 135, 3) := by decide +kernel
theorem dX4_keyOf_52 : decode cX4_keyOf 52 = .ok (.i2l, 1) := by decide +kernel
theorem dX4_keyOf_53 : decode cX4_keyOf 53 = .ok (.lreturn, 1) := by decide +kernel
theorem dX4_keyOf_54 : decode cX4_keyOf 54 = .ok (.iload_n 2, 1) := by decide +kernel
theorem dX4_keyOf_55 : decode cX4_keyOf 55 = .ok (.i2l, 1) := by decide +kernel
theorem dX4_keyOf_56 : decode cX4_keyOf 56 = .ok (.lreturn, 1) := by decide +kernel
theorem dX4_payInTurn_0 : decode cX4_payInTurn 0 = .ok (.aload_n 0, 1) := by decide +kernel
theorem dX4_payInTurn_1 : decode cX4_payInTurn 1 = .ok (.getfield 12, 3) := by decide +kernel
theorem dX4_payInTurn_4 : decode cX4_payInTurn 4 = .ok (.invokevirtual 107, 3) := by decide +kernel
theorem dX4_payInTurn_7 : decode cX4_payInTurn 7 = .ok (.lload_n 3, 1) := by decide +kernel
theorem dX4_payInTurn_8 : decode cX4_payInTurn 8 = .ok (.lstore 5, 2) := by decide +kernel
theorem dX4_payInTurn_10 : decode cX4_payInTurn 10 = .ok (.iconst 0, 1) := by decide +kernel
theorem dX4_payInTurn_11 : decode cX4_payInTurn 11 = .ok (.istore 7, 2) := by decide +kernel
theorem dX4_payInTurn_13 : decode cX4_payInTurn 13 = .ok (.iload 7, 2) := by decide +kernel
theorem dX4_payInTurn_15 : decode cX4_payInTurn 15 = .ok (.aload_n 0, 1) := by decide +kernel
theorem dX4_payInTurn_16 : decode cX4_payInTurn 16 = .ok (.getfield 121, 3) := by decide +kernel
theorem dX4_payInTurn_19 : decode cX4_payInTurn 19 = .ok (.if_icmp .ge 36, 3) := by decide +kernel
theorem dX4_payInTurn_22 : decode cX4_payInTurn 22 = .ok (.lload 5, 2) := by decide +kernel
theorem dX4_payInTurn_24 : decode cX4_payInTurn 24 = .ok (.lconst 0, 1) := by decide +kernel
theorem dX4_payInTurn_25 : decode cX4_payInTurn 25 = .ok (.lcmp, 1) := by decide +kernel
theorem dX4_payInTurn_26 : decode cX4_payInTurn 26 = .ok (.ifCond .le 29, 3) := by decide +kernel
theorem dX4_payInTurn_29 : decode cX4_payInTurn 29 = .ok (.aload_n 0, 1) := by decide +kernel
theorem dX4_payInTurn_30 : decode cX4_payInTurn 30 = .ok (.getfield 12, 3) := by decide +kernel
theorem dX4_payInTurn_33 : decode cX4_payInTurn 33 = .ok (.aload_n 1, 1) := by decide +kernel
theorem dX4_payInTurn_34 : decode cX4_payInTurn 34 = .ok (.iload_n 2, 1) := by decide +kernel
theorem dX4_payInTurn_35 : decode cX4_payInTurn 35 = .ok (.aload_n 0, 1) := by decide +kernel
theorem dX4_payInTurn_36 : decode cX4_payInTurn 36 = .ok (.getfield 34, 3) := by decide +kernel
theorem dX4_payInTurn_39 : decode cX4_payInTurn 39 = .ok (.iload 7, 2) := by decide +kernel
theorem dX4_payInTurn_41 : decode cX4_payInTurn 41 = .ok (.iaload, 1) := by decide +kernel
theorem dX4_payInTurn_42 : decode cX4_payInTurn 42 = .ok (.lload 5, 2) := by decide +kernel
theorem dX4_payInTurn_44 : decode cX4_payInTurn 44 = .ok (.invokevirtual 117, 3) := by decide +kernel
theorem dX4_payInTurn_47 : decode cX4_payInTurn 47 = .ok (.lstore 5, 2) := by decide +kernel
theorem dX4_payInTurn_49 : decode cX4_payInTurn 49 = .ok (.iinc 7 1, 3) := by decide +kernel
theorem dX4_payInTurn_52 : decode cX4_payInTurn 52 = .ok (.goto (-39), 3) := by decide +kernel
theorem dX4_payInTurn_55 : decode cX4_payInTurn 55 = .ok (.aload_n 0, 1) := by decide +kernel
theorem dX4_payInTurn_56 : decode cX4_payInTurn 56 = .ok (.getfield 12, 3) := by decide +kernel
theorem dX4_payInTurn_59 : decode cX4_payInTurn 59 = .ok (.getfield 114, 3) := by decide +kernel
theorem dX4_payInTurn_62 : decode cX4_payInTurn 62 = .ok (.aload_n 0, 1) := by decide +kernel
theorem dX4_payInTurn_63 : decode cX4_payInTurn 63 = .ok (.getfield 121, 3) := by decide +kernel
theorem dX4_payInTurn_66 : decode cX4_payInTurn 66 = .ok (.ifCond .le 7, 3) := by decide +kernel
theorem dX4_payInTurn_69 : decode cX4_payInTurn 69 = .ok (.iconst 2, 1) := by decide +kernel
theorem dX4_payInTurn_70 : decode cX4_payInTurn 70 = .ok (.goto 4, 3) := by decide +kernel
theorem dX4_payInTurn_73 : decode cX4_payInTurn 73 = .ok (.iconst 3, 1) := by decide +kernel
theorem dX4_payInTurn_74 : decode cX4_payInTurn 74 = .ok (.dup2, 1) := by decide +kernel
theorem dX4_payInTurn_75 : decode cX4_payInTurn 75 = .ok (.laload, 1) := by decide +kernel
theorem dX4_payInTurn_76 : decode cX4_payInTurn 76 = .ok (.lload 5, 2) := by decide +kernel
theorem dX4_payInTurn_78 : decode cX4_payInTurn 78 = .ok (.ladd, 1) := by decide +kernel
theorem dX4_payInTurn_79 : decode cX4_payInTurn 79 = .ok (.lastore, 1) := by decide +kernel
theorem dX4_payInTurn_80 : decode cX4_payInTurn 80 = .ok (.return_, 1) := by decide +kernel
theorem dX4_contribute_0 : decode cX4_contribute 0 = .ok (.lconst 0, 1) := by decide +kernel
theorem dX4_contribute_1 : decode cX4_contribute 1 = .ok (.lstore_n 2, 1) := by decide +kernel
theorem dX4_contribute_2 : decode cX4_contribute 2 = .ok (.lconst 0, 1) := by decide +kernel
theorem dX4_contribute_3 : decode cX4_contribute 3 = .ok (.lstore 4, 2) := by decide +kernel
theorem dX4_contribute_5 : decode cX4_contribute 5 = .ok (.iconst 0, 1) := by decide +kernel
theorem dX4_contribute_6 : decode cX4_contribute 6 = .ok (.istore 6, 2) := by decide +kernel
theorem dX4_contribute_8 : decode cX4_contribute 8 = .ok (.iload 6, 2) := by decide +kernel
theorem dX4_contribute_10 : decode cX4_contribute 10 = .ok (.iload_n 1, 1) := by decide +kernel
theorem dX4_contribute_11 : decode cX4_contribute 11 = .ok (.if_icmp .ge 95, 3) := by decide +kernel
theorem dX4_contribute_14 : decode cX4_contribute 14 = .ok (.aload_n 0, 1) := by decide +kernel
theorem dX4_contribute_15 : decode cX4_contribute 15 = .ok (.getfield 12, 3) := by decide +kernel
theorem dX4_contribute_18 : decode cX4_contribute 18 = .ok (.getfield 139, 3) := by decide +kernel
theorem dX4_contribute_21 : decode cX4_contribute 21 = .ok (.iload 6, 2) := by decide +kernel
theorem dX4_contribute_23 : decode cX4_contribute 23 = .ok (.laload, 1) := by decide +kernel
theorem dX4_contribute_24 : decode cX4_contribute 24 = .ok (.aload_n 0, 1) := by decide +kernel
theorem dX4_contribute_25 : decode cX4_contribute 25 = .ok (.getfield 18, 3) := by decide +kernel
theorem dX4_contribute_28 : decode cX4_contribute 28 = .ok (.getfield 139, 3) := by decide +kernel
theorem dX4_contribute_31 : decode cX4_contribute 31 = .ok (.iload 6, 2) := by decide +kernel
theorem dX4_contribute_33 : decode cX4_contribute 33 = .ok (.laload, 1) := by decide +kernel
theorem dX4_contribute_34 : decode cX4_contribute 34 = .ok (.lsub, 1) := by decide +kernel
theorem dX4_contribute_35 : decode cX4_contribute 35 = .ok (.lstore 7, 2) := by decide +kernel
theorem dX4_contribute_37 : decode cX4_contribute 37 = .ok (.aload_n 0, 1) := by decide +kernel
theorem dX4_contribute_38 : decode cX4_contribute 38 = .ok (.getfield 38, 3) := by decide +kernel
theorem dX4_contribute_41 : decode cX4_contribute 41 = .ok (.iload 6, 2) := by decide +kernel
theorem dX4_contribute_43 : decode cX4_contribute 43 = .ok (.lload 7, 2) := by decide +kernel
theorem dX4_contribute_45 : decode cX4_contribute 45 = .ok (.lconst 0, 1) := by decide +kernel
theorem dX4_contribute_46 : decode cX4_contribute 46 = .ok (.lcmp, 1) := by decide +kernel
theorem dX4_contribute_47 : decode cX4_contribute 47 = .ok (.ifCond .le 8, 3) := by decide +kernel
theorem dX4_contribute_50 : decode cX4_contribute 50 = .ok (.lload 7, 2) := by decide +kernel
theorem dX4_contribute_52 : decode cX4_contribute 52 = .ok (.goto 4, 3) := by decide +kernel
theorem dX4_contribute_55 : decode cX4_contribute 55 = .ok (.lconst 0, 1) := by decide +kernel
theorem dX4_contribute_56 : decode cX4_contribute 56 = .ok (.lastore, 1) := by decide +kernel
theorem dX4_contribute_57 : decode cX4_contribute 57 = .ok (.aload_n 0, 1) := by decide +kernel
theorem dX4_contribute_58 : decode cX4_contribute 58 = .ok (.getfield 41, 3) := by decide +kernel
theorem dX4_contribute_61 : decode cX4_contribute 61 = .ok (.iload 6, 2) := by decide +kernel
theorem dX4_contribute_63 : decode cX4_contribute 63 = .ok (.lload 7, 2) := by decide +kernel
theorem dX4_contribute_65 : decode cX4_contribute 65 = .ok (.lconst 0, 1) := by decide +kernel
theorem dX4_contribute_66 : decode cX4_contribute 66 = .ok (.lcmp, 1) := by decide +kernel
theorem dX4_contribute_67 : decode cX4_contribute 67 = .ok (.ifCond .ge 9, 3) := by decide +kernel
theorem dX4_contribute_70 : decode cX4_contribute 70 = .ok (.lload 7, 2) := by decide +kernel
theorem dX4_contribute_72 : decode cX4_contribute 72 = .ok (.lneg, 1) := by decide +kernel
theorem dX4_contribute_73 : decode cX4_contribute 73 = .ok (.goto 4, 3) := by decide +kernel
theorem dX4_contribute_76 : decode cX4_contribute 76 = .ok (.lconst 0, 1) := by decide +kernel
theorem dX4_contribute_77 : decode cX4_contribute 77 = .ok (.lastore, 1) := by decide +kernel
theorem dX4_contribute_78 : decode cX4_contribute 78 = .ok (.lload_n 2, 1) := by decide +kernel
theorem dX4_contribute_79 : decode cX4_contribute 79 = .ok (.aload_n 0, 1) := by decide +kernel
theorem dX4_contribute_80 : decode cX4_contribute 80 = .ok (.getfield 38, 3) := by decide +kernel
theorem dX4_contribute_83 : decode cX4_contribute 83 = .ok (.iload 6, 2) := by decide +kernel
theorem dX4_contribute_85 : decode cX4_contribute 85 = .ok (.laload, 1) := by decide +kernel
theorem dX4_contribute_86 : decode cX4_contribute 86 = .ok (.ladd, 1) := by decide +kernel
theorem dX4_contribute_87 : decode cX4_contribute 87 = .ok (.lstore_n 2, 1) := by decide +kernel
theorem dX4_contribute_88 : decode cX4_contribute 88 = .ok (.lload 4, 2) := by decide +kernel
theorem dX4_contribute_90 : decode cX4_contribute 90 = .ok (.aload_n 0, 1) := by decide +kernel
theorem dX4_contribute_91 : decode cX4_contribute 91 = .ok (.getfield 41, 3) := by decide +kernel
theorem dX4_contribute_94 : decode cX4_contribute 94 = .ok (.iload 6, 2) := by decide +kernel
theorem dX4_contribute_96 : decode cX4_contribute 96 = .ok (.laload, 1) := by decide +kernel
theorem dX4_contribute_97 : decode cX4_contribute 97 = .ok (.ladd, 1) := by decide +kernel
theorem dX4_contribute_98 : decode cX4_contribute 98 = .ok (.lstore 4, 2) := by decide +kernel
theorem dX4_contribute_100 : decode cX4_contribute 100 = .ok (.iinc 6 1, 3) := by decide +kernel
theorem dX4_contribute_103 : decode cX4_contribute 103 = .ok (.goto (-95), 3) := by decide +kernel
theorem dX4_contribute_106 : decode cX4_contribute 106 = .ok (.lload_n 2, 1) := by decide +kernel
theorem dX4_contribute_107 : decode cX4_contribute 107 = .ok (.lload 4, 2) := by decide +kernel
theorem dX4_contribute_109 : decode cX4_contribute 109 = .ok (.lcmp, 1) := by decide +kernel
theorem dX4_contribute_110 : decode cX4_contribute 110 = .ok (.ifCond .ge 7, 3) := by decide +kernel
theorem dX4_contribute_113 : decode cX4_contribute 113 = .ok (.lload_n 2, 1) := by decide +kernel
theorem dX4_contribute_114 : decode cX4_contribute 114 = .ok (.goto 5, 3) := by decide +kernel
theorem dX4_contribute_117 : decode cX4_contribute 117 = .ok (.lload 4, 2) := by decide +kernel
theorem dX4_contribute_119 : decode cX4_contribute 119 = .ok (.lstore 6, 2) := by decide +kernel
theorem dX4_contribute_121 : decode cX4_contribute 121 = .ok (.lload 6, 2) := by decide +kernel
theorem dX4_contribute_123 : decode cX4_contribute 123 = .ok (.aload_n 0, 1) := by decide +kernel
theorem dX4_contribute_124 : decode cX4_contribute 124 = .ok (.getfield 38, 3) := by decide +kernel
theorem dX4_contribute_127 : decode cX4_contribute 127 = .ok (.iload_n 1, 1) := by decide +kernel
theorem dX4_contribute_128 : decode cX4_contribute 128 = .ok (.aload_n 0, 1) := by decide +kernel
theorem dX4_contribute_129 : decode cX4_contribute 129 = .ok (.getfield 44, 3) := by decide +kernel
theorem dX4_contribute_132 : decode cX4_contribute 132 = .ok (.invokestatic 110, 3) := by decide +kernel
theorem dX4_contribute_135 : decode cX4_contribute 135 = .ok (.iconst 0, 1) := by decide +kernel
theorem dX4_contribute_136 : decode cX4_contribute 136 = .ok (.istore 8, 2) := by decide +kernel
theorem dX4_contribute_138 : decode cX4_contribute 138 = .ok (.iload 8, 2) := by decide +kernel
theorem dX4_contribute_140 : decode cX4_contribute 140 = .ok (.iload_n 1, 1) := by decide +kernel
theorem dX4_contribute_141 : decode cX4_contribute 141 = .ok (.if_icmp .ge 49, 3) := by decide +kernel
theorem dX4_contribute_144 : decode cX4_contribute 144 = .ok (.aload_n 0, 1) := by decide +kernel
theorem dX4_contribute_145 : decode cX4_contribute 145 = .ok (.getfield 12, 3) := by decide +kernel
theorem dX4_contribute_148 : decode cX4_contribute 148 = .ok (.getfield 142, 3) := by decide +kernel
theorem dX4_contribute_151 : decode cX4_contribute 151 = .ok (.iload 8, 2) := by decide +kernel
theorem dX4_contribute_153 : decode cX4_contribute 153 = .ok (.dup2, 1) := by decide +kernel
theorem dX4_contribute_154 : decode cX4_contribute 154 = .ok (.laload, 1) := by decide +kernel
theorem dX4_contribute_155 : decode cX4_contribute 155 = .ok (.aload_n 0, 1) := by decide +kernel
theorem dX4_contribute_156 : decode cX4_contribute 156 = .ok (.getfield 44, 3) := by decide +kernel
theorem dX4_contribute_159 : decode cX4_contribute 159 = .ok (.iload 8, 2) := by decide +kernel
theorem dX4_contribute_161 : decode cX4_contribute 161 = .ok (.laload, 1) := by decide +kernel
theorem dX4_contribute_162 : decode cX4_contribute 162 = .ok (.lsub, 1) := by decide +kernel
theorem dX4_contribute_163 : decode cX4_contribute 163 = .ok (.lastore, 1) := by decide +kernel
theorem dX4_contribute_164 : decode cX4_contribute 164 = .ok (.aload_n 0, 1) := by decide +kernel
theorem dX4_contribute_165 : decode cX4_contribute 165 = .ok (.getfield 12, 3) := by decide +kernel
theorem dX4_contribute_168 : decode cX4_contribute 168 = .ok (.getfield 139, 3) := by decide +kernel
theorem dX4_contribute_171 : decode cX4_contribute 171 = .ok (.iload 8, 2) := by decide +kernel
theorem dX4_contribute_173 : decode cX4_contribute 173 = .ok (.dup2, 1) := by decide +kernel
theorem dX4_contribute_174 : decode cX4_contribute 174 = .ok (.laload, 1) := by decide +kernel
theorem dX4_contribute_175 : decode cX4_contribute 175 = .ok (.aload_n 0, 1) := by decide +kernel
theorem dX4_contribute_176 : decode cX4_contribute 176 = .ok (.getfield 44, 3) := by decide +kernel
theorem dX4_contribute_179 : decode cX4_contribute 179 = .ok (.iload 8, 2) := by decide +kernel
theorem dX4_contribute_181 : decode cX4_contribute 181 = .ok (.laload, 1) := by decide +kernel
theorem dX4_contribute_182 : decode cX4_contribute 182 = .ok (.lsub, 1) := by decide +kernel
theorem dX4_contribute_183 : decode cX4_contribute 183 = .ok (.lastore, 1) := by decide +kernel
theorem dX4_contribute_184 : decode cX4_contribute 184 = .ok (.iinc 8 1, 3) := by decide +kernel
theorem dX4_contribute_187 : decode cX4_contribute 187 = .ok (.goto (-49), 3) := by decide +kernel
theorem dX4_contribute_190 : decode cX4_contribute 190 = .ok (.lload 6, 2) := by decide +kernel
theorem dX4_contribute_192 : decode cX4_contribute 192 = .ok (.aload_n 0, 1) := by decide +kernel
theorem dX4_contribute_193 : decode cX4_contribute 193 = .ok (.getfield 41, 3) := by decide +kernel
theorem dX4_contribute_196 : decode cX4_contribute 196 = .ok (.iload_n 1, 1) := by decide +kernel
theorem dX4_contribute_197 : decode cX4_contribute 197 = .ok (.aload_n 0, 1) := by decide +kernel
theorem dX4_contribute_198 : decode cX4_contribute 198 = .ok (.getfield 44, 3) := by decide +kernel
theorem dX4_contribute_201 : decode cX4_contribute 201 = .ok (.invokestatic 110, 3) := by decide +kernel
theorem dX4_contribute_204 : decode cX4_contribute 204 = .ok (.iconst 0, 1) := by decide +kernel
theorem dX4_contribute_205 : decode cX4_contribute 205 = .ok (.istore 8, 2) := by decide +kernel
theorem dX4_contribute_207 : decode cX4_contribute 207 = .ok (.iload 8, 2) := by decide +kernel
theorem dX4_contribute_209 : decode cX4_contribute 209 = .ok (.iload_n 1, 1) := by decide +kernel
theorem dX4_contribute_210 : decode cX4_contribute 210 = .ok (.if_icmp .ge 49, 3) := by decide +kernel
theorem dX4_contribute_213 : decode cX4_contribute 213 = .ok (.aload_n 0, 1) := by decide +kernel
theorem dX4_contribute_214 : decode cX4_contribute 214 = .ok (.getfield 12, 3) := by decide +kernel
theorem dX4_contribute_217 : decode cX4_contribute 217 = .ok (.getfield 142, 3) := by decide +kernel
theorem dX4_contribute_220 : decode cX4_contribute 220 = .ok (.iload 8, 2) := by decide +kernel
theorem dX4_contribute_222 : decode cX4_contribute 222 = .ok (.dup2, 1) := by decide +kernel
theorem dX4_contribute_223 : decode cX4_contribute 223 = .ok (.laload, 1) := by decide +kernel
theorem dX4_contribute_224 : decode cX4_contribute 224 = .ok (.aload_n 0, 1) := by decide +kernel
theorem dX4_contribute_225 : decode cX4_contribute 225 = .ok (.getfield 44, 3) := by decide +kernel
theorem dX4_contribute_228 : decode cX4_contribute 228 = .ok (.iload 8, 2) := by decide +kernel
theorem dX4_contribute_230 : decode cX4_contribute 230 = .ok (.laload, 1) := by decide +kernel
theorem dX4_contribute_231 : decode cX4_contribute 231 = .ok (.ladd, 1) := by decide +kernel
theorem dX4_contribute_232 : decode cX4_contribute 232 = .ok (.lastore, 1) := by decide +kernel
theorem dX4_contribute_233 : decode cX4_contribute 233 = .ok (.aload_n 0, 1) := by decide +kernel
theorem dX4_contribute_234 : decode cX4_contribute 234 = .ok (.getfield 12, 3) := by decide +kernel
theorem dX4_contribute_237 : decode cX4_contribute 237 = .ok (.getfield 139, 3) := by decide +kernel
theorem dX4_contribute_240 : decode cX4_contribute 240 = .ok (.iload 8, 2) := by decide +kernel
theorem dX4_contribute_242 : decode cX4_contribute 242 = .ok (.dup2, 1) := by decide +kernel
theorem dX4_contribute_243 : decode cX4_contribute 243 = .ok (.laload, 1) := by decide +kernel
theorem dX4_contribute_244 : decode cX4_contribute 244 = .ok (.aload_n 0, 1) := by decide +kernel
theorem dX4_contribute_245 : decode cX4_contribute 245 = .ok (.getfield 44, 3) := by decide +kernel
theorem dX4_contribute_248 : decode cX4_contribute 248 = .ok (.iload 8, 2) := by decide +kernel
theorem dX4_contribute_250 : decode cX4_contribute 250 = .ok (.laload, 1) := by decide +kernel
theorem dX4_contribute_251 : decode cX4_contribute 251 = .ok (.ladd, 1) := by decide +kernel
theorem dX4_contribute_252 : decode cX4_contribute 252 = .ok (.lastore, 1) := by decide +kernel
theorem dX4_contribute_253 : decode cX4_contribute 253 = .ok (.iinc 8 1, 3) := by decide +kernel
theorem dX4_contribute_256 : decode cX4_contribute 256 = .ok (.goto (-49), 3) := by decide +kernel
theorem dX4_contribute_259 : decode cX4_contribute 259 = .ok (.return_, 1) := by decide +kernel
theorem dX4_payByLevel_0 : decode cX4_payByLevel 0 = .ok (.aload_n 0, 1) := by decide +kernel
theorem dX4_payByLevel_1 : decode cX4_payByLevel 1 = .ok (.getfield 12, 3) := by decide +kernel
theorem dX4_payByLevel_4 : decode cX4_payByLevel 4 = .ok (.invokevirtual 107, 3) := by decide +kernel
theorem dX4_payByLevel_7 : decode cX4_payByLevel 7 = .ok (.aload_n 0, 1) := by decide +kernel
theorem dX4_payByLevel_8 : decode cX4_payByLevel 8 = .ok (.lload_n 3, 1) := by decide +kernel
theorem dX4_payByLevel_9 : decode cX4_payByLevel 9 = .ok (.invokevirtual 145, 3) := by decide +kernel
theorem dX4_payByLevel_12 : decode cX4_payByLevel 12 = .ok (.lstore 5, 2) := by decide +kernel
theorem dX4_payByLevel_14 : decode cX4_payByLevel 14 = .ok (.lload_n 3, 1) := by decide +kernel
theorem dX4_payByLevel_15 : decode cX4_payByLevel 15 = .ok (.aload_n 0, 1) := by decide +kernel
theorem dX4_payByLevel_16 : decode cX4_payByLevel 16 = .ok (.lload 5, 2) := by decide +kernel
theorem dX4_payByLevel_18 : decode cX4_payByLevel 18 = .ok (.invokevirtual 149, 3) := by decide +kernel
theorem dX4_payByLevel_21 : decode cX4_payByLevel 21 = .ok (.lsub, 1) := by decide +kernel
theorem dX4_payByLevel_22 : decode cX4_payByLevel 22 = .ok (.lstore 7, 2) := by decide +kernel
theorem dX4_payByLevel_24 : decode cX4_payByLevel 24 = .ok (.iconst 0, 1) := by decide +kernel
theorem dX4_payByLevel_25 : decode cX4_payByLevel 25 = .ok (.istore 9, 2) := by decide +kernel
theorem dX4_payByLevel_27 : decode cX4_payByLevel 27 = .ok (.iload 9, 2) := by decide +kernel
theorem dX4_payByLevel_29 : decode cX4_payByLevel 29 = .ok (.aload_n 0, 1) := by decide +kernel
theorem dX4_payByLevel_30 : decode cX4_payByLevel 30 = .ok (.getfield 121, 3) := by decide +kernel
theorem dX4_payByLevel_33 : decode cX4_payByLevel 33 = .ok (.if_icmp .ge 78, 3) := by decide +kernel
theorem dX4_payByLevel_36 : decode cX4_payByLevel 36 = .ok (.aload_n 0, 1) := by decide +kernel
theorem dX4_payByLevel_37 : decode cX4_payByLevel 37 = .ok (.getfield 34, 3) := by decide +kernel
theorem dX4_payByLevel_40 : decode cX4_payByLevel 40 = .ok (.iload 9, 2) := by decide +kernel
theorem dX4_payByLevel_42 : decode cX4_payByLevel 42 = .ok (.iaload, 1) := by decide +kernel
theorem dX4_payByLevel_43 : decode cX4_payByLevel 43 = .ok (.istore 10, 2) := by decide +kernel
theorem dX4_payByLevel_45 : decode cX4_payByLevel 45 = .ok (.lload 5, 2) := by decide +kernel
theorem dX4_payByLevel_47 : decode cX4_payByLevel 47 = .ok (.aload_n 0, 1) := by decide +kernel
theorem dX4_payByLevel_48 : decode cX4_payByLevel 48 = .ok (.getfield 28, 3) := by decide +kernel
theorem dX4_payByLevel_51 : decode cX4_payByLevel 51 = .ok (.iload 10, 2) := by decide +kernel
theorem dX4_payByLevel_53 : decode cX4_payByLevel 53 = .ok (.laload, 1) := by decide +kernel
theorem dX4_payByLevel_54 : decode cX4_payByLevel 54 = .ok (.invokestatic 152, 3) := by decide +kernel
theorem dX4_payByLevel_57 : decode cX4_payByLevel 57 = .ok (.lstore 11, 2) := by decide +kernel
theorem dX4_payByLevel_59 : decode cX4_payByLevel 59 = .ok (.lload 7, 2) := by decide +kernel
theorem dX4_payByLevel_61 : decode cX4_payByLevel 61 = .ok (.lconst 0, 1) := by decide +kernel
theorem dX4_payByLevel_62 : decode cX4_payByLevel 62 = .ok (.lcmp, 1) := by decide +kernel
theorem dX4_payByLevel_63 : decode cX4_payByLevel 63 = .ok (.ifCond .le 28, 3) := by decide +kernel
theorem dX4_payByLevel_66 : decode cX4_payByLevel 66 = .ok (.aload_n 0, 1) := by decide +kernel
theorem dX4_payByLevel_67 : decode cX4_payByLevel 67 = .ok (.getfield 28, 3) := by decide +kernel
theorem dX4_payByLevel_70 : decode cX4_payByLevel 70 = .ok (.iload 10, 2) := by decide +kernel
theorem dX4_payByLevel_72 : decode cX4_payByLevel 72 = .ok (.laload, 1) := by decide +kernel
theorem dX4_payByLevel_73 : decode cX4_payByLevel 73 = .ok (.lload 5, 2) := by decide +kernel
theorem dX4_payByLevel_75 : decode cX4_payByLevel 75 = .ok (.lcmp, 1) := by decide +kernel
theorem dX4_payByLevel_76 : decode cX4_payByLevel 76 = .ok (.ifCond .le 15, 3) := by decide +kernel
theorem dX4_payByLevel_79 : decode cX4_payByLevel 79 = .ok (.lload 11, 2) := by decide +kernel
theorem dX4_payByLevel_81 : decode cX4_payByLevel 81 = .ok (.lconst 1, 1) := by decide +kernel
theorem dX4_payByLevel_82 : decode cX4_payByLevel 82 = .ok (.ladd, 1) := by decide +kernel
theorem dX4_payByLevel_83 : decode cX4_payByLevel 83 = .ok (.lstore 11, 2) := by decide +kernel
theorem dX4_payByLevel_85 : decode cX4_payByLevel 85 = .ok (.lload 7, 2) := by decide +kernel
theorem dX4_payByLevel_87 : decode cX4_payByLevel 87 = .ok (.lconst 1, 1) := by decide +kernel
theorem dX4_payByLevel_88 : decode cX4_payByLevel 88 = .ok (.lsub, 1) := by decide +kernel
theorem dX4_payByLevel_89 : decode cX4_payByLevel 89 = .ok (.lstore 7, 2) := by decide +kernel
theorem dX4_payByLevel_91 : decode cX4_payByLevel 91 = .ok (.aload_n 0, 1) := by decide +kernel
theorem dX4_payByLevel_92 : decode cX4_payByLevel 92 = .ok (.getfield 12, 3) := by decide +kernel
theorem dX4_payByLevel_95 : decode cX4_payByLevel 95 = .ok (.aload_n 1, 1) := by decide +kernel
theorem dX4_payByLevel_96 : decode cX4_payByLevel 96 = .ok (.iload_n 2, 1) := by decide +kernel
theorem dX4_payByLevel_97 : decode cX4_payByLevel 97 = .ok (.iload 10, 2) := by decide +kernel
theorem dX4_payByLevel_99 : decode cX4_payByLevel 99 = .ok (.lload 11, 2) := by decide +kernel
theorem dX4_payByLevel_101 : decode cX4_payByLevel 101 = .ok (.invokevirtual 117, 3) := by decide +kernel
theorem dX4_payByLevel_104 : decode cX4_payByLevel 104 = .ok (.pop2, 1) := by decide +kernel
theorem dX4_payByLevel_105 : decode cX4_payByLevel 105 = .ok (.iinc 9 1, 3) := by decide +kernel
theorem dX4_payByLevel_108 : decode cX4_payByLevel 108 = .ok (.goto (-81), 3) := by decide +kernel
theorem dX4_payByLevel_111 : decode cX4_payByLevel 111 = .ok (.aload_n 0, 1) := by decide +kernel
theorem dX4_payByLevel_112 : decode cX4_payByLevel 112 = .ok (.getfield 12, 3) := by decide +kernel
theorem dX4_payByLevel_115 : decode cX4_payByLevel 115 = .ok (.getfield 114, 3) := by decide +kernel
theorem dX4_payByLevel_118 : decode cX4_payByLevel 118 = .ok (.aload_n 0, 1) := by decide +kernel
theorem dX4_payByLevel_119 : decode cX4_payByLevel 119 = .ok (.getfield 121, 3) := by decide +kernel
theorem dX4_payByLevel_122 : decode cX4_payByLevel 122 = .ok (.ifCond .le 7, 3) := by decide +kernel
theorem dX4_payByLevel_125 : decode cX4_payByLevel 125 = .ok (.iconst 2, 1) := by decide +kernel
theorem dX4_payByLevel_126 : decode cX4_payByLevel 126 = .ok (.goto 4, 3) := by decide +kernel
theorem dX4_payByLevel_129 : decode cX4_payByLevel 129 = .ok (.iconst 3, 1) := by decide +kernel
theorem dX4_payByLevel_130 : decode cX4_payByLevel 130 = .ok (.dup2, 1) := by decide +kernel
theorem dX4_payByLevel_131 : decode cX4_payByLevel 131 = .ok (.laload, 1) := by decide +kernel
theorem dX4_payByLevel_132 : decode cX4_payByLevel 132 = .ok (.lload 7, 2) := by decide +kernel
theorem dX4_payByLevel_134 : decode cX4_payByLevel 134 = .ok (.ladd, 1) := by decide +kernel
theorem dX4_payByLevel_135 : decode cX4_payByLevel 135 = .ok (.lastore, 1) := by decide +kernel
theorem dX4_payByLevel_136 : decode cX4_payByLevel 136 = .ok (.return_, 1) := by decide +kernel
theorem dX4_levelFor_0 : decode cX4_levelFor 0 = .ok (.lconst 0, 1) := by decide +kernel
theorem dX4_levelFor_1 : decode cX4_levelFor 1 = .ok (.lstore_n 3, 1) := by decide +kernel
theorem dX4_levelFor_2 : decode cX4_levelFor 2 = .ok (.bipush 30, 2) := by decide +kernel
theorem dX4_levelFor_4 : decode cX4_levelFor 4 = .ok (.istore 5, 2) := by decide +kernel
theorem dX4_levelFor_6 : decode cX4_levelFor 6 = .ok (.iload 5, 2) := by decide +kernel
theorem dX4_levelFor_8 : decode cX4_levelFor 8 = .ok (.ifCond .lt 40, 3) := by decide +kernel
theorem dX4_levelFor_11 : decode cX4_levelFor 11 = .ok (.lload_n 3, 1) := by decide +kernel
theorem dX4_levelFor_12 : decode cX4_levelFor 12 = .ok (.lconst 1, 1) := by decide +kernel
theorem dX4_levelFor_13 : decode cX4_levelFor 13 = .ok (.iload 5, 2) := by decide +kernel
theorem dX4_levelFor_15 : decode cX4_levelFor 15 = .ok (.lshl, 1) := by decide +kernel
theorem dX4_levelFor_16 : decode cX4_levelFor 16 = .ok (.ladd, 1) := by decide +kernel
theorem dX4_levelFor_17 : decode cX4_levelFor 17 = .ok (.lstore 6, 2) := by decide +kernel
theorem dX4_levelFor_19 : decode cX4_levelFor 19 = .ok (.lload 6, 2) := by decide +kernel
theorem dX4_levelFor_21 : decode cX4_levelFor 21 = .ok (.ldc2_w 158, 3) := by decide +kernel
theorem dX4_levelFor_24 : decode cX4_levelFor 24 = .ok (.lcmp, 1) := by decide +kernel
theorem dX4_levelFor_25 : decode cX4_levelFor 25 = .ok (.ifCond .gt 17, 3) := by decide +kernel
theorem dX4_levelFor_28 : decode cX4_levelFor 28 = .ok (.aload_n 0, 1) := by decide +kernel
theorem dX4_levelFor_29 : decode cX4_levelFor 29 = .ok (.lload 6, 2) := by decide +kernel
theorem dX4_levelFor_31 : decode cX4_levelFor 31 = .ok (.invokevirtual 149, 3) := by decide +kernel
theorem dX4_levelFor_34 : decode cX4_levelFor 34 = .ok (.lload_n 1, 1) := by decide +kernel
theorem dX4_levelFor_35 : decode cX4_levelFor 35 = .ok (.lcmp, 1) := by decide +kernel
theorem dX4_levelFor_36 : decode cX4_levelFor 36 = .ok (.ifCond .gt 6, 3) := by decide +kernel
theorem dX4_levelFor_39 : decode cX4_levelFor 39 = .ok (.lload 6, 2) := by decide +kernel
theorem dX4_levelFor_41 : decode cX4_levelFor 41 = .ok (.lstore_n 3, 1) := by decide +kernel
theorem dX4_levelFor_42 : decode cX4_levelFor 42 = .ok (.iinc 5 (-1), 3) := by decide +kernel
theorem dX4_levelFor_45 : decode cX4_levelFor 45 = .ok (.goto (-39), 3) := by decide +kernel
theorem dX4_levelFor_48 : decode cX4_levelFor 48 = .ok (.lload_n 3, 1) := by decide +kernel
theorem dX4_levelFor_49 : decode cX4_levelFor 49 = .ok (.lreturn, 1) := by decide +kernel
theorem dX4_takenAtLevel_0 : decode cX4_takenAtLevel 0 = .ok (.lconst 0, 1) := by decide +kernel
theorem dX4_takenAtLevel_1 : decode cX4_takenAtLevel 1 = .ok (.lstore_n 3, 1) := by decide +kernel
theorem dX4_takenAtLevel_2 : decode cX4_takenAtLevel 2 = .ok (.iconst 0, 1) := by decide +kernel
theorem dX4_takenAtLevel_3 : decode cX4_takenAtLevel 3 = .ok (.istore 5, 2) := by decide +kernel
theorem dX4_takenAtLevel_5 : decode cX4_takenAtLevel 5 = .ok (.iload 5, 2) := by decide +kernel
theorem dX4_takenAtLevel_7 : decode cX4_takenAtLevel 7 = .ok (.aload_n 0, 1) := by decide +kernel
theorem dX4_takenAtLevel_8 : decode cX4_takenAtLevel 8 = .ok (.getfield 121, 3) := by decide +kernel
theorem dX4_takenAtLevel_11 : decode cX4_takenAtLevel 11 = .ok (.if_icmp .ge 28, 3) := by decide +kernel
theorem dX4_takenAtLevel_14 : decode cX4_takenAtLevel 14 = .ok (.lload_n 3, 1) := by decide +kernel
theorem dX4_takenAtLevel_15 : decode cX4_takenAtLevel 15 = .ok (.lload_n 1, 1) := by decide +kernel
theorem dX4_takenAtLevel_16 : decode cX4_takenAtLevel 16 = .ok (.aload_n 0, 1) := by decide +kernel
theorem dX4_takenAtLevel_17 : decode cX4_takenAtLevel 17 = .ok (.getfield 28, 3) := by decide +kernel
theorem dX4_takenAtLevel_20 : decode cX4_takenAtLevel 20 = .ok (.aload_n 0, 1) := by decide +kernel
theorem dX4_takenAtLevel_21 : decode cX4_takenAtLevel 21 = .ok (.getfield 34, 3) := by decide +kernel
theorem dX4_takenAtLevel_24 : decode cX4_takenAtLevel 24 = .ok (.iload 5, 2) := by decide +kernel
theorem dX4_takenAtLevel_26 : decode cX4_takenAtLevel 26 = .ok (.iaload, 1) := by decide +kernel
theorem dX4_takenAtLevel_27 : decode cX4_takenAtLevel 27 = .ok (.laload, 1) := by decide +kernel
theorem dX4_takenAtLevel_28 : decode cX4_takenAtLevel 28 = .ok (.invokestatic 152, 3) := by decide +kernel
theorem dX4_takenAtLevel_31 : decode cX4_takenAtLevel 31 = .ok (.ladd, 1) := by decide +kernel
theorem dX4_takenAtLevel_32 : decode cX4_takenAtLevel 32 = .ok (.lstore_n 3, 1) := by decide +kernel
theorem dX4_takenAtLevel_33 : decode cX4_takenAtLevel 33 = .ok (.iinc 5 1, 3) := by decide +kernel
theorem dX4_takenAtLevel_36 : decode cX4_takenAtLevel 36 = .ok (.goto (-31), 3) := by decide +kernel
theorem dX4_takenAtLevel_39 : decode cX4_takenAtLevel 39 = .ok (.lload_n 3, 1) := by decide +kernel
theorem dX4_takenAtLevel_40 : decode cX4_takenAtLevel 40 = .ok (.lreturn, 1) := by decide +kernel
theorem dX5_init_0 : decode cX5_init 0 = .ok (.aload_n 0, 1) := by decide +kernel
theorem dX5_init_1 : decode cX5_init 1 = .ok (.invokespecial 3, 3) := by decide +kernel
theorem dX5_init_4 : decode cX5_init 4 = .ok (.aload_n 0, 1) := by decide +kernel
theorem dX5_init_5 : decode cX5_init 5 = .ok (.bipush 40, 2) := by decide +kernel
theorem dX5_init_7 : decode cX5_init 7 = .ok (.newarray .int, 2) := by decide +kernel
theorem dX5_init_9 : decode cX5_init 9 = .ok (.putfield 9, 3) := by decide +kernel
theorem dX5_init_12 : decode cX5_init 12 = .ok (.aload_n 0, 1) := by decide +kernel
theorem dX5_init_13 : decode cX5_init 13 = .ok (.bipush 40, 2) := by decide +kernel
theorem dX5_init_15 : decode cX5_init 15 = .ok (.newarray .int, 2) := by decide +kernel
theorem dX5_init_17 : decode cX5_init 17 = .ok (.putfield 15, 3) := by decide +kernel
theorem dX5_init_20 : decode cX5_init 20 = .ok (.aload_n 0, 1) := by decide +kernel
theorem dX5_init_21 : decode cX5_init 21 = .ok (.bipush 40, 2) := by decide +kernel
theorem dX5_init_23 : decode cX5_init 23 = .ok (.newarray .int, 2) := by decide +kernel
theorem dX5_init_25 : decode cX5_init 25 = .ok (.putfield 18, 3) := by decide +kernel
theorem dX5_init_28 : decode cX5_init 28 = .ok (.aload_n 0, 1) := by decide +kernel
theorem dX5_init_29 : decode cX5_init 29 = .ok (.bipush 40, 2) := by decide +kernel
theorem dX5_init_31 : decode cX5_init 31 = .ok (.newarray .int, 2) := by decide +kernel
theorem dX5_init_33 : decode cX5_init 33 = .ok (.putfield 21, 3) := by decide +kernel
theorem dX5_init_36 : decode cX5_init 36 = .ok (.aload_n 0, 1) := by decide +kernel
theorem dX5_init_37 : decode cX5_init 37 = .ok (.bipush 40, 2) := by decide +kernel
theorem dX5_init_39 : decode cX5_init 39 = .ok (.newarray .long, 2) := by decide +kernel
theorem dX5_init_41 : decode cX5_init 41 = .ok (.putfield 24, 3) := by decide +kernel
theorem dX5_init_44 : decode cX5_init 44 = .ok (.aload_n 0, 1) := by decide +kernel
theorem dX5_init_45 : decode cX5_init 45 = .ok (.bipush 40, 2) := by decide +kernel
theorem dX5_init_47 : decode cX5_init 47 = .ok (.newarray .int, 2) := by decide +kernel
theorem dX5_init_49 : decode cX5_init 49 = .ok (.putfield 28, 3) := by decide +kernel
theorem dX5_init_52 : decode cX5_init 52 = .ok (.aload_n 0, 1) := by decide +kernel
theorem dX5_init_53 : decode cX5_init 53 = .ok (.bipush 40, 2) := by decide +kernel
theorem dX5_init_55 : decode cX5_init 55 = .ok (.newarray .int, 2) := by decide +kernel
theorem dX5_init_57 : decode cX5_init 57 = .ok (.putfield 31, 3) := by decide +kernel
theorem dX5_init_60 : decode cX5_init 60 = .ok (.aload_n 0, 1) := by decide +kernel
theorem dX5_init_61 : decode cX5_init 61 = .ok (.sipush 160, 3) := by decide +kernel
theorem dX5_init_64 : decode cX5_init 64 = .ok (.newarray .int, 2) := by decide +kernel
theorem dX5_init_66 : decode cX5_init 66 = .ok (.putfield 34, 3) := by decide +kernel
theorem dX5_init_69 : decode cX5_init 69 = .ok (.aload_n 0, 1) := by decide +kernel
theorem dX5_init_70 : decode cX5_init 70 = .ok (.sipush 160, 3) := by decide +kernel
theorem dX5_init_73 : decode cX5_init 73 = .ok (.newarray .int, 2) := by decide +kernel
theorem dX5_init_75 : decode cX5_init 75 = .ok (.putfield 37, 3) := by decide +kernel
theorem dX5_init_78 : decode cX5_init 78 = .ok (.aload_n 0, 1) := by decide +kernel
theorem dX5_init_79 : decode cX5_init 79 = .ok (.sipush 160, 3) := by decide +kernel
theorem dX5_init_82 : decode cX5_init 82 = .ok (.newarray .long, 2) := by decide +kernel
theorem dX5_init_84 : decode cX5_init 84 = .ok (.putfield 40, 3) := by decide +kernel
theorem dX5_init_87 : decode cX5_init 87 = .ok (.aload_n 0, 1) := by decide +kernel
theorem dX5_init_88 : decode cX5_init 88 = .ok (.bipush 72, 2) := by decide +kernel
theorem dX5_init_90 : decode cX5_init 90 = .ok (.newarray .int, 2) := by decide +kernel
theorem dX5_init_92 : decode cX5_init 92 = .ok (.putfield 43, 3) := by decide +kernel
theorem dX5_init_95 : decode cX5_init 95 = .ok (.aload_n 0, 1) := by decide +kernel
theorem dX5_init_96 : decode cX5_init 96 = .ok (.bipush 12, 2) := by decide +kernel
theorem dX5_init_98 : decode cX5_init 98 = .ok (.newarray .int, 2) := by decide +kernel
theorem dX5_init_100 : decode cX5_init 100 = .ok (.putfield 46, 3) := by decide +kernel
theorem dX5_init_103 : decode cX5_init 103 = .ok (.aload_n 0, 1) := by decide +kernel
theorem dX5_init_104 : decode cX5_init 104 = .ok (.getfield 9, 3) := by decide +kernel
theorem dX5_init_107 : decode cX5_init 107 = .ok (.iconst (-1), 1) := by decide +kernel
theorem dX5_init_108 : decode cX5_init 108 = .ok (.invokestatic 49, 3) := by decide +kernel
theorem dX5_init_111 : decode cX5_init 111 = .ok (.return_, 1) := by decide +kernel
theorem dX5_clear_0 : decode cX5_clear 0 = .ok (.aload_n 0, 1) := by decide +kernel
theorem dX5_clear_1 : decode cX5_clear 1 = .ok (.getfield 9, 3) := by decide +kernel
theorem dX5_clear_4 : decode cX5_clear 4 = .ok (.iconst (-1), 1) := by decide +kernel
theorem dX5_clear_5 : decode cX5_clear 5 = .ok (.invokestatic 49, 3) := by decide +kernel
theorem dX5_clear_8 : decode cX5_clear 8 = .ok (.aload_n 0, 1) := by decide +kernel
theorem dX5_clear_9 : decode cX5_clear 9 = .ok (.getfield 46, 3) := by decide +kernel
theorem dX5_clear_12 : decode cX5_clear 12 = .ok (.iconst 0, 1) := by decide +kernel
theorem dX5_clear_13 : decode cX5_clear 13 = .ok (.invokestatic 49, 3) := by decide +kernel
theorem dX5_clear_16 : decode cX5_clear 16 = .ok (.aload_n 0, 1) := by decide +kernel
theorem dX5_clear_17 : decode cX5_clear 17 = .ok (.iconst 0, 1) := by decide +kernel
theorem dX5_clear_18 : decode cX5_clear 18 = .ok (.putfield 55, 3) := by decide +kernel
theorem dX5_clear_21 : decode cX5_clear 21 = .ok (.aload_n 0, 1) := by decide +kernel
theorem dX5_clear_22 : decode cX5_clear 22 = .ok (.iconst 0, 1) := by decide +kernel
theorem dX5_clear_23 : decode cX5_clear 23 = .ok (.putfield 59, 3) := by decide +kernel
theorem dX5_clear_26 : decode cX5_clear 26 = .ok (.return_, 1) := by decide +kernel
theorem dX5_isThere_0 : decode cX5_isThere 0 = .ok (.aload_n 0, 1) := by decide +kernel
theorem dX5_isThere_1 : decode cX5_isThere 1 = .ok (.getfield 9, 3) := by decide +kernel
theorem dX5_isThere_4 : decode cX5_isThere 4 = .ok (.iload_n 1, 1) := by decide +kernel
theorem dX5_isThere_5 : decode cX5_isThere 5 = .ok (.iaload, 1) := by decide +kernel
theorem dX5_isThere_6 : decode cX5_isThere 6 = .ok (.iconst (-1), 1) := by decide +kernel
theorem dX5_isThere_7 : decode cX5_isThere 7 = .ok (.if_icmp .eq 7, 3) := by decide +kernel
theorem dX5_isThere_10 : decode cX5_isThere 10 = .ok (.iconst 1, 1) := by decide +kernel
theorem dX5_isThere_11 : decode cX5_isThere 11 = .ok (.goto 4, 3) := by decide +kernel
theorem dX5_isThere_14 : decode cX5_isThere 14 = .ok (.iconst 0, 1) := by decide +kernel
theorem dX5_isThere_15 : decode cX5_isThere 15 = .ok (.ireturn, 1) := by decide +kernel
theorem dX5_isGap_0 : decode cX5_isGap 0 = .ok (.aload_n 0, 1) := by decide +kernel
theorem dX5_isGap_1 : decode cX5_isGap 1 = .ok (.getfield 46, 3) := by decide +kernel
theorem dX5_isGap_4 : decode cX5_isGap 4 = .ok (.iload_n 1, 1) := by decide +kernel
theorem dX5_isGap_5 : decode cX5_isGap 5 = .ok (.iaload, 1) := by decide +kernel
theorem dX5_isGap_6 : decode cX5_isGap 6 = .ok (.ifCond .ne 7, 3) := by decide +kernel
theorem dX5_isGap_9 : decode cX5_isGap 9 = .ok (.iconst 1, 1) := by decide +kernel
theorem dX5_isGap_10 : decode cX5_isGap 10 = .ok (.goto 4, 3) := by decide +kernel
theorem dX5_isGap_13 : decode cX5_isGap 13 = .ok (.iconst 0, 1) := by decide +kernel
theorem dX5_isGap_14 : decode cX5_isGap 14 = .ok (.ireturn, 1) := by decide +kernel
theorem dX5_lacks_0 : decode cX5_lacks 0 = .ok (.aload_n 0, 1) := by decide +kernel
theorem dX5_lacks_1 : decode cX5_lacks 1 = .ok (.getfield 55, 3) := by decide +kernel
theorem dX5_lacks_4 : decode cX5_lacks 4 = .ok (.iload_n 1, 1) := by decide +kernel
theorem dX5_lacks_5 : decode cX5_lacks 5 = .ok (.ishr, 1) := by decide +kernel
theorem dX5_lacks_6 : decode cX5_lacks 6 = .ok (.iconst 1, 1) := by decide +kernel
theorem dX5_lacks_7 : decode cX5_lacks 7 = .ok (.iand, 1) := by decide +kernel
theorem dX5_lacks_8 : decode cX5_lacks 8 = .ok (.ifCond .eq 7, 3) := by decide +kernel
theorem dX5_lacks_11 : decode cX5_lacks 11 = .ok (.iconst 1, 1) := by decide +kernel
theorem dX5_lacks_12 : decode cX5_lacks 12 = .ok (.goto 4, 3) := by decide +kernel
theorem dX5_lacks_15 : decode cX5_lacks 15 = .ok (.iconst 0, 1) := by decide +kernel
theorem dX5_lacks_16 : decode cX5_lacks 16 = .ok (.ireturn, 1) := by decide +kernel
theorem dX5_layerAt_0 : decode cX5_layerAt 0 = .ok (.aload_n 0, 1) := by decide +kernel
theorem dX5_layerAt_1 : decode cX5_layerAt 1 = .ok (.getfield 43, 3) := by decide +kernel
theorem dX5_layerAt_4 : decode cX5_layerAt 4 = .ok (.iload_n 1, 1) := by decide +kernel
theorem dX5_layerAt_5 : decode cX5_layerAt 5 = .ok (.bipush 6, 2) := by decide +kernel
theorem dX5_layerAt_7 : decode cX5_layerAt 7 = .ok (.imul, 1) := by decide +kernel
theorem dX5_layerAt_8 : decode cX5_layerAt 8 = .ok (.iload_n 2, 1) := by decide +kernel
theorem dX5_layerAt_9 : decode cX5_layerAt 9 = .ok (.iadd, 1) := by decide +kernel
theorem dX5_layerAt_10 : decode cX5_layerAt 10 = .ok (.iaload, 1) := by decide +kernel
theorem dX5_layerAt_11 : decode cX5_layerAt 11 = .ok (.ireturn, 1) := by decide +kernel
theorem dX5_topOf_0 : decode cX5_topOf 0 = .ok (.aload_n 0, 1) := by decide +kernel
theorem dX5_topOf_1 : decode cX5_topOf 1 = .ok (.getfield 15, 3) := by decide +kernel
theorem dX5_topOf_4 : decode cX5_topOf 4 = .ok (.iload_n 1, 1) := by decide +kernel
theorem dX5_topOf_5 : decode cX5_topOf 5 = .ok (.iaload, 1) := by decide +kernel
theorem dX5_topOf_6 : decode cX5_topOf 6 = .ok (.aload_n 0, 1) := by decide +kernel
theorem dX5_topOf_7 : decode cX5_topOf 7 = .ok (.getfield 18, 3) := by decide +kernel
theorem dX5_topOf_10 : decode cX5_topOf 10 = .ok (.iload_n 1, 1) := by decide +kernel
theorem dX5_topOf_11 : decode cX5_topOf 11 = .ok (.iaload, 1) := by decide +kernel
theorem dX5_topOf_12 : decode cX5_topOf 12 = .ok (.iadd, 1) := by decide +kernel
theorem dX5_topOf_13 : decode cX5_topOf 13 = .ok (.ireturn, 1) := by decide +kernel
theorem dX5_lowestFrom_0 : decode cX5_lowestFrom 0 = .ok (.aload_n 0, 1) := by decide +kernel
theorem dX5_lowestFrom_1 : decode cX5_lowestFrom 1 = .ok (.getfield 15, 3) := by decide +kernel
theorem dX5_lowestFrom_4 : decode cX5_lowestFrom 4 = .ok (.aload_n 0, 1) := by decide +kernel
theorem dX5_lowestFrom_5 : decode cX5_lowestFrom 5 = .ok (.getfield 43, 3) := by decide +kernel
theorem dX5_lowestFrom_8 : decode cX5_lowestFrom 8 = .ok (.iload_n 1, 1) := by decide +kernel
theorem dX5_lowestFrom_9 : decode cX5_lowestFrom 9 = .ok (.bipush 6, 2) := by decide +kernel
theorem dX5_lowestFrom_11 : decode cX5_lowestFrom 11 = .ok (.imul, 1) := by decide +kernel
theorem dX5_lowestFrom_12 : decode cX5_lowestFrom 12 = .ok (.iaload, 1) := by decide +kernel
theorem dX5_lowestFrom_13 : decode cX5_lowestFrom 13 = .ok (.iaload, 1) := by decide +kernel
theorem dX5_lowestFrom_14 : decode cX5_lowestFrom 14 = .ok (.ireturn, 1) := by decide +kernel
theorem dX5_leftOf_0 : decode cX5_leftOf 0 = .ok (.aload_n 0, 1) := by decide +kernel
theorem dX5_leftOf_1 : decode cX5_leftOf 1 = .ok (.getfield 18, 3) := by decide +kernel
theorem dX5_leftOf_4 : decode cX5_leftOf 4 = .ok (.iload_n 1, 1) := by decide +kernel
theorem dX5_leftOf_5 : decode cX5_leftOf 5 = .ok (.iaload, 1) := by decide +kernel
theorem dX5_leftOf_6 : decode cX5_leftOf 6 = .ok (.i2l, 1) := by decide +kernel
theorem dX5_leftOf_7 : decode cX5_leftOf 7 = .ok (.aload_n 0, 1) := by decide +kernel
theorem dX5_leftOf_8 : decode cX5_leftOf 8 = .ok (.getfield 21, 3) := by decide +kernel
theorem dX5_leftOf_11 : decode cX5_leftOf 11 = .ok (.iload_n 1, 1) := by decide +kernel
theorem dX5_leftOf_12 : decode cX5_leftOf 12 = .ok (.iaload, 1) := by decide +kernel
theorem dX5_leftOf_13 : decode cX5_leftOf 13 = .ok (.i2l, 1) := by decide +kernel
theorem dX5_leftOf_14 : decode cX5_leftOf 14 = .ok (.lmul, 1) := by decide +kernel
theorem dX5_leftOf_15 : decode cX5_leftOf 15 = .ok (.aload_n 0, 1) := by decide +kernel
theorem dX5_leftOf_16 : decode cX5_leftOf 16 = .ok (.getfield 24, 3) := by decide +kernel
theorem dX5_leftOf_19 : decode cX5_leftOf 19 = .ok (.iload_n 1, 1) := by decide +kernel
theorem dX5_leftOf_20 : decode cX5_leftOf 20 = .ok (.laload, 1) := by decide +kernel
theorem dX5_leftOf_21 : decode cX5_leftOf 21 = .ok (.lsub, 1) := by decide +kernel
theorem dX5_leftOf_22 : decode cX5_leftOf 22 = .ok (.lreturn, 1) := by decide +kernel
theorem dX5_isUsedUp_0 : decode cX5_isUsedUp 0 = .ok (.aload_n 0, 1) := by decide +kernel
theorem dX5_isUsedUp_1 : decode cX5_isUsedUp 1 = .ok (.iload_n 1, 1) := by decide +kernel
theorem dX5_isUsedUp_2 : decode cX5_isUsedUp 2 = .ok (.invokevirtual 62, 3) := by decide +kernel
theorem dX5_isUsedUp_5 : decode cX5_isUsedUp 5 = .ok (.lconst 0, 1) := by decide +kernel
theorem dX5_isUsedUp_6 : decode cX5_isUsedUp 6 = .ok (.lcmp, 1) := by decide +kernel
theorem dX5_isUsedUp_7 : decode cX5_isUsedUp 7 = .ok (.ifCond .gt 7, 3) := by decide +kernel
theorem dX5_isUsedUp_10 : decode cX5_isUsedUp 10 = .ok (.iconst 1, 1) := by decide +kernel
theorem dX5_isUsedUp_11 : decode cX5_isUsedUp 11 = .ok (.goto 4, 3) := by decide +kernel
theorem dX5_isUsedUp_14 : decode cX5_isUsedUp 14 = .ok (.iconst 0, 1) := by decide +kernel
theorem dX5_isUsedUp_15 : decode cX5_isUsedUp 15 = .ok (.ireturn, 1) := by decide +kernel
theorem dX5_widthBelow_0 : decode cX5_widthBelow 0 = .ok (.iload_n 2, 1) := by decide +kernel
theorem dX5_widthBelow_1 : decode cX5_widthBelow 1 = .ok (.ifCond .le 18, 3) := by decide +kernel
theorem dX5_widthBelow_4 : decode cX5_widthBelow 4 = .ok (.aload_n 0, 1) := by decide +kernel
theorem dX5_widthBelow_5 : decode cX5_widthBelow 5 = .ok (.aload_n 0, 1) := by decide +kernel
theorem dX5_widthBelow_6 : decode cX5_widthBelow 6 = .ok (.iload_n 1, 1) := by decide +kernel
theorem dX5_widthBelow_7 : decode cX5_widthBelow 7 = .ok (.iload_n 2, 1) := by decide +kernel
theorem dX5_widthBelow_8 : decode cX5_widthBelow 8 = .ok (.iconst 1, 1) := by decide +kernel
theorem dX5_widthBelow_9 : decode cX5_widthBelow 9 = .ok (.isub, 1) := by decide +kernel
theorem dX5_widthBelow_10 : decode cX5_widthBelow 10 = .ok (.invokevirtual 66, 3) := by decide +kernel
theorem dX5_widthBelow_13 : decode cX5_widthBelow 13 = .ok (.invokevirtual 70, 3) := by decide +kernel
theorem dX5_widthBelow_16 : decode cX5_widthBelow 16 = .ok (.goto 4, 3) := by decide +kernel
theorem dX5_widthBelow_19 : decode cX5_widthBelow 19 = .ok (.iconst 0, 1) := by decide +kernel
theorem dX5_widthBelow_20 : decode cX5_widthBelow 20 = .ok (.istore_n 3, 1) := by decide +kernel
theorem dX5_widthBelow_21 : decode cX5_widthBelow 21 = .ok (.aload_n 0, 1) := by decide +kernel
theorem dX5_widthBelow_22 : decode cX5_widthBelow 22 = .ok (.getfield 15, 3) := by decide +kernel
theorem dX5_widthBelow_25 : decode cX5_widthBelow 25 = .ok (.aload_n 0, 1) := by decide +kernel
theorem dX5_widthBelow_26 : decode cX5_widthBelow 26 = .ok (.iload_n 1, 1) := by decide +kernel
theorem dX5_widthBelow_27 : decode cX5_widthBelow 27 = .ok (.iload_n 2, 1) := by decide +kernel
theorem dX5_widthBelow_28 : decode cX5_widthBelow 28 = .ok (.invokevirtual 66, 3) := by decide +kernel
theorem dX5_widthBelow_31 : decode cX5_widthBelow 31 = .ok (.iaload, 1) := by decide +kernel
theorem dX5_widthBelow_32 : decode cX5_widthBelow 32 = .ok (.iload_n 3, 1) := by decide +kernel
theorem dX5_widthBelow_33 : decode cX5_widthBelow 33 = .ok (.isub, 1) := by decide +kernel
theorem dX5_widthBelow_34 : decode cX5_widthBelow 34 = .ok (.ireturn, 1) := by decide +kernel
theorem dX5_standOf_0 : decode cX5_standOf 0 = .ok (.aload_n 0, 1) := by decide +kernel
theorem dX5_standOf_1 : decode cX5_standOf 1 = .ok (.getfield 9, 3) := by decide +kernel
theorem dX5_standOf_4 : decode cX5_standOf 4 = .ok (.iload_n 1, 1) := by decide +kernel
theorem dX5_standOf_5 : decode cX5_standOf 5 = .ok (.iaload, 1) := by decide +kernel
theorem dX5_standOf_6 : decode cX5_standOf 6 = .ok (.istore_n 2, 1) := by decide +kernel
theorem dX5_standOf_7 : decode cX5_standOf 7 = .ok (.iconst 0, 1) := by decide +kernel
theorem dX5_standOf_8 : decode cX5_standOf 8 = .ok (.istore_n 3, 1) := by decide +kernel
theorem dX5_standOf_9 : decode cX5_standOf 9 = .ok (.iconst 0, 1) := by decide +kernel
theorem dX5_standOf_10 : decode cX5_standOf 10 = .ok (.istore 4, 2) := by decide +kernel
theorem dX5_standOf_12 : decode cX5_standOf 12 = .ok (.iload 4, 2) := by decide +kernel
theorem dX5_standOf_14 : decode cX5_standOf 14 = .ok (.aload_n 0, 1) := by decide +kernel
theorem dX5_standOf_15 : decode cX5_standOf 15 = .ok (.getfield 46, 3) := by decide +kernel
theorem dX5_standOf_18 : decode cX5_standOf 18 = .ok (.iload_n 2, 1) := by decide +kernel
theorem dX5_standOf_19 : decode cX5_standOf 19 = .ok (.iaload, 1) := by decide +kernel
theorem dX5_standOf_20 : decode cX5_standOf 20 = .ok (.if_icmp .ge 33, 3) := by decide +kernel
theorem dX5_standOf_23 : decode cX5_standOf 23 = .ok (.aload_n 0, 1) := by decide +kernel
theorem dX5_standOf_24 : decode cX5_standOf 24 = .ok (.getfield 15, 3) := by decide +kernel
theorem dX5_standOf_27 : decode cX5_standOf 27 = .ok (.aload_n 0, 1) := by decide +kernel
theorem dX5_standOf_28 : decode cX5_standOf 28 = .ok (.iload_n 2, 1) := by decide +kernel
theorem dX5_standOf_29 : decode cX5_standOf 29 = .ok (.iload 4, 2) := by decide +kernel
theorem dX5_standOf_31 : decode cX5_standOf 31 = .ok (.invokevirtual 66, 3) := by decide +kernel
theorem dX5_standOf_34 : decode cX5_standOf 34 = .ok (.iaload, 1) := by decide +kernel
theorem dX5_standOf_35 : decode cX5_standOf 35 = .ok (.aload_n 0, 1) := by decide +kernel
theorem dX5_standOf_36 : decode cX5_standOf 36 = .ok (.getfield 15, 3) := by decide +kernel
theorem dX5_standOf_39 : decode cX5_standOf 39 = .ok (.iload_n 1, 1) := by decide +kernel
theorem dX5_standOf_40 : decode cX5_standOf 40 = .ok (.iaload, 1) := by decide +kernel
theorem dX5_standOf_41 : decode cX5_standOf 41 = .ok (.if_icmp .ge 6, 3) := by decide +kernel
theorem dX5_standOf_44 : decode cX5_standOf 44 = .ok (.iinc 3 1, 3) := by decide +kernel
theorem dX5_standOf_47 : decode cX5_standOf 47 = .ok (.iinc 4 1, 3) := by decide +kernel
theorem dX5_standOf_50 : decode cX5_standOf 50 = .ok (.goto (-38), 3) := by decide +kernel
theorem dX5_standOf_53 : decode cX5_standOf 53 = .ok (.iload_n 3, 1) := by decide +kernel
theorem dX5_standOf_54 : decode cX5_standOf 54 = .ok (.ireturn, 1) := by decide +kernel
theorem dX5_put_0 : decode cX5_put 0 = .ok (.iload_n 1, 1) := by decide +kernel
theorem dX5_put_1 : decode cX5_put 1 = .ok (.bipush 40, 2) := by decide +kernel
theorem dX5_put_3 : decode cX5_put 3 = .ok (.if_icmp .ge 33, 3) := by decide +kernel
theorem dX5_put_6 : decode cX5_put 6 = .ok (.aload_n 0, 1) := by decide +kernel
theorem dX5_put_7 : decode cX5_put 7 = .ok (.iload_n 2, 1) := by decide +kernel
theorem dX5_put_8 : decode cX5_put 8 = .ok (.invokevirtual 74, 3) := by decide +kernel
theorem dX5_put_11 : decode cX5_put 11 = .ok (.ifCond .ne 25, 3) := by decide +kernel
theorem dX5_put_14 : decode cX5_put 14 = .ok (.aload_n 0, 1) := by decide +kernel
theorem dX5_put_15 : decode cX5_put 15 = .ok (.getfield 46, 3) := by decide +kernel
theorem dX5_put_18 : decode cX5_put 18 = .ok (.iload_n 2, 1) := by decide +kernel
theorem dX5_put_19 : decode cX5_put 19 = .ok (.iaload, 1) := by decide +kernel
theorem dX5_put_20 : decode cX5_put 20 = .ok (.bipush 6, 2) := by decide +kernel
theorem dX5_put_22 : decode cX5_put 22 = .ok (.if_icmp .ge 14, 3) := by decide +kernel
theorem dX5_put_25 : decode cX5_put 25 = .ok (.aload_n 0, 1) := by decide +kernel
theorem dX5_put_26 : decode cX5_put 26 = .ok (.iload_n 2, 1) := by decide +kernel
theorem dX5_put_27 : decode cX5_put 27 = .ok (.iload_n 3, 1) := by decide +kernel
theorem dX5_put_28 : decode cX5_put 28 = .ok (.iload 4, 2) := by decide +kernel
theorem dX5_put_30 : decode cX5_put 30 = .ok (.invokevirtual 78, 3) := by decide +kernel
theorem dX5_put_33 : decode cX5_put 33 = .ok (.ifCond .ne 5, 3) := by decide +kernel
theorem dX5_put_36 : decode cX5_put 36 = .ok (.iconst 0, 1) := by decide +kernel
theorem dX5_put_37 : decode cX5_put 37 = .ok (.ireturn, 1) := by decide +kernel
theorem dX5_put_38 : decode cX5_put 38 = .ok (.aload_n 0, 1) := by decide +kernel
theorem dX5_put_39 : decode cX5_put 39 = .ok (.getfield 46, 3) := by decide +kernel
theorem dX5_put_42 : decode cX5_put 42 = .ok (.iload_n 2, 1) := by decide +kernel
theorem dX5_put_43 : decode cX5_put 43 = .ok (.iaload, 1) := by decide +kernel
theorem dX5_put_44 : decode cX5_put 44 = .ok (.istore 6, 2) := by decide +kernel
theorem dX5_put_46 : decode cX5_put 46 = .ok (.iload 6, 2) := by decide +kernel
theorem dX5_put_48 : decode cX5_put 48 = .ok (.ifCond .le 48, 3) := by decide +kernel
theorem dX5_put_51 : decode cX5_put 51 = .ok (.aload_n 0, 1) := by decide +kernel
theorem dX5_put_52 : decode cX5_put 52 = .ok (.getfield 15, 3) := by decide +kernel
theorem dX5_put_55 : decode cX5_put 55 = .ok (.aload_n 0, 1) := by decide +kernel
theorem dX5_put_56 : decode cX5_put 56 = .ok (.iload_n 2, 1) := by decide +kernel
theorem dX5_put_57 : decode cX5_put 57 = .ok (.iload 6, 2) := by decide +kernel
theorem dX5_put_59 : decode cX5_put 59 = .ok (.iconst 1, 1) := by decide +kernel
theorem dX5_put_60 : decode cX5_put 60 = .ok (.isub, 1) := by decide +kernel
theorem dX5_put_61 : decode cX5_put 61 = .ok (.invokevirtual 66, 3) := by decide +kernel
theorem dX5_put_64 : decode cX5_put 64 = .ok (.iaload, 1) := by decide +kernel
theorem dX5_put_65 : decode cX5_put 65 = .ok (.iload_n 3, 1) := by decide +kernel
theorem dX5_put_66 : decode cX5_put 66 = .ok (.if_icmp .le 30, 3) := by decide +kernel
theorem dX5_put_69 : decode cX5_put 69 = .ok (.aload_n 0, 1) := by decide +kernel
theorem dX5_put_70 : decode cX5_put 70 = .ok (.getfield 43, 3) := by decide +kernel
theorem dX5_put_73 : decode cX5_put 73 = .ok (.iload_n 2, 1) := by decide +kernel
theorem dX5_put_74 : decode cX5_put 74 = .ok (.bipush 6, 2) := by decide +kernel
theorem dX5_put_76 : decode cX5_put 76 = .ok (.imul, 1) := by decide +kernel
theorem dX5_put_77 : decode cX5_put 77 = .ok (.iload 6, 2) := by decide +kernel
theorem dX5_put_79 : decode cX5_put 79 = .ok (.iadd, 1) := by decide +kernel
theorem dX5_put_80 : decode cX5_put 80 = .ok (.aload_n 0, 1) := by decide +kernel
theorem dX5_put_81 : decode cX5_put 81 = .ok (.iload_n 2, 1) := by decide +kernel
theorem dX5_put_82 : decode cX5_put 82 = .ok (.iload 6, 2) := by decide +kernel
theorem dX5_put_84 : decode cX5_put 84 = .ok (.iconst 1, 1) := by decide +kernel
theorem dX5_put_85 : decode cX5_put 85 = .ok (.isub, 1) := by decide +kernel
theorem dX5_put_86 : decode cX5_put 86 = .ok (.invokevirtual 66, 3) := by decide +kernel
theorem dX5_put_89 : decode cX5_put 89 = .ok (.iastore, 1) := by decide +kernel
theorem dX5_put_90 : decode cX5_put 90 = .ok (.iinc 6 (-1), 3) := by decide +kernel
theorem dX5_put_93 : decode cX5_put 93 = .ok (.goto (-47), 3) := by decide +kernel
theorem dX5_put_96 : decode cX5_put 96 = .ok (.aload_n 0, 1) := by decide +kernel
theorem dX5_put_97 : decode cX5_put 97 = .ok (.getfield 43, 3) := by decide +kernel
theorem dX5_put_100 : decode cX5_put 100 = .ok (.iload_n 2, 1) := by decide +kernel
theorem dX5_put_101 : decode cX5_put 101 = .ok (.bipush 6, 2) := by decide +kernel
theorem dX5_put_103 : decode cX5_put 103 = .ok (.imul, 1) := by decide +kernel
theorem dX5_put_104 : decode cX5_put 104 = .ok (.iload 6, 2) := by decide +kernel
theorem dX5_put_106 : decode cX5_put 106 = .ok (.iadd, 1) := by decide +kernel
theorem dX5_put_107 : decode cX5_put 107 = .ok (.iload_n 1, 1) := by decide +kernel
theorem dX5_put_108 : decode cX5_put 108 = .ok (.iastore, 1) := by decide +kernel
theorem dX5_put_109 : decode cX5_put 109 = .ok (.aload_n 0, 1) := by decide +kernel
theorem dX5_put_110 : decode cX5_put 110 = .ok (.getfield 46, 3) := by decide +kernel
theorem dX5_put_113 : decode cX5_put 113 = .ok (.iload_n 2, 1) := by decide +kernel
theorem dX5_put_114 : decode cX5_put 114 = .ok (.dup2, 1) := by decide +kernel
theorem dX5_put_115 : decode cX5_put 115 = .ok (.iaload, 1) := by decide +kernel
theorem dX5_put_116 : decode cX5_put 116 = .ok (.iconst 1, 1) := by decide +kernel
theorem dX5_put_117 : decode cX5_put 117 = .ok (.iadd, 1) := by decide +kernel
theorem dX5_put_118 : decode cX5_put 118 = .ok (.iastore, 1) := by decide +kernel
theorem dX5_put_119 : decode cX5_put 119 = .ok (.aload_n 0, 1) := by decide +kernel
theorem dX5_put_120 : decode cX5_put 120 = .ok (.getfield 9, 3) := by decide +kernel
theorem dX5_put_123 : decode cX5_put 123 = .ok (.iload_n 1, 1) := by decide +kernel
theorem dX5_put_124 : decode cX5_put 124 = .ok (.iload_n 2, 1) := by decide +kernel
theorem dX5_put_125 : decode cX5_put 125 = .ok (.iastore, 1) := by decide +kernel
theorem dX5_put_126 : decode cX5_put 126 = .ok (.aload_n 0, 1) := by decide +kernel
theorem dX5_put_127 : decode cX5_put 127 = .ok (.getfield 15, 3) := by decide +kernel
theorem dX5_put_130 : decode cX5_put 130 = .ok (.iload_n 1, 1) := by decide +kernel
theorem dX5_put_131 : decode cX5_put 131 = .ok (.iload_n 3, 1) := by decide +kernel
theorem dX5_put_132 : decode cX5_put 132 = .ok (.iastore, 1) := by decide +kernel
theorem dX5_put_133 : decode cX5_put 133 = .ok (.aload_n 0, 1) := by decide +kernel
theorem dX5_put_134 : decode cX5_put 134 = .ok (.getfield 18, 3) := by decide +kernel
theorem dX5_put_137 : decode cX5_put 137 = .ok (.iload_n 1, 1) := by decide +kernel
theorem dX5_put_138 : decode cX5_put 138 = .ok (.iload 4, 2) := by decide +kernel
theorem dX5_put_140 : decode cX5_put 140 = .ok (.iastore, 1) := by decide +kernel
theorem dX5_put_141 : decode cX5_put 141 = .ok (.aload_n 0, 1) := by decide +kernel
theorem dX5_put_142 : decode cX5_put 142 = .ok (.getfield 21, 3) := by decide +kernel
theorem dX5_put_145 : decode cX5_put 145 = .ok (.iload_n 1, 1) := by decide +kernel
theorem dX5_put_146 : decode cX5_put 146 = .ok (.iload 5, 2) := by decide +kernel
theorem dX5_put_148 : decode cX5_put 148 = .ok (.iastore, 1) := by decide +kernel
theorem dX5_put_149 : decode cX5_put 149 = .ok (.aload_n 0, 1) := by decide +kernel
theorem dX5_put_150 : decode cX5_put 150 = .ok (.getfield 24, 3) := by decide +kernel
theorem dX5_put_153 : decode cX5_put 153 = .ok (.iload_n 1, 1) := by decide +kernel
theorem dX5_put_154 : decode cX5_put 154 = .ok (.lconst 0, 1) := by decide +kernel
theorem dX5_put_155 : decode cX5_put 155 = .ok (.lastore, 1) := by decide +kernel
theorem dX5_put_156 : decode cX5_put 156 = .ok (.aload_n 0, 1) := by decide +kernel
theorem dX5_put_157 : decode cX5_put 157 = .ok (.getfield 28, 3) := by decide +kernel
theorem dX5_put_160 : decode cX5_put 160 = .ok (.iload_n 1, 1) := by decide +kernel
theorem dX5_put_161 : decode cX5_put 161 = .ok (.iconst 0, 1) := by decide +kernel
theorem dX5_put_162 : decode cX5_put 162 = .ok (.iastore, 1) := by decide +kernel
theorem dX5_put_163 : decode cX5_put 163 = .ok (.aload_n 0, 1) := by decide +kernel
theorem dX5_put_164 : decode cX5_put 164 = .ok (.getfield 31, 3) := by decide +kernel
theorem dX5_put_167 : decode cX5_put 167 = .ok (.iload_n 1, 1) := by decide +kernel
theorem dX5_put_168 : decode cX5_put 168 = .ok (.iconst 0, 1) := by decide +kernel
theorem dX5_put_169 : decode cX5_put 169 = .ok (.iastore, 1) := by decide +kernel
theorem dX5_put_170 : decode cX5_put 170 = .ok (.aload_n 0, 1) := by decide +kernel
theorem dX5_put_171 : decode cX5_put 171 = .ok (.aload_n 0, 1) := by decide +kernel
theorem dX5_put_172 : decode cX5_put 172 = .ok (.getfield 59, 3) := by decide +kernel
theorem dX5_put_175 : decode cX5_put 175 = .ok (.iload_n 1, 1) := by decide +kernel
theorem dX5_put_176 : decode cX5_put 176 = .ok (.iconst 1, 1) := by decide +kernel
theorem dX5_put_177 : decode cX5_put 177 = .ok (.iadd, 1) := by decide +kernel
theorem dX5_put_178 : decode cX5_put 178 = .ok (.invokestatic 82, 3) := by decide +kernel
theorem dX5_put_181 : decode cX5_put 181 = .ok (.putfield 59, 3) := by decide +kernel
