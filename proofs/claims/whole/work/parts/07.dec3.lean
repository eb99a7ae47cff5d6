theorem dX7_does_7 : decode cX7_does 7 = .ok (.aload_n 0, 1) := by decide +kernel
theorem dX7_does_8 : decode cX7_does 8 = .ok (.getfield 14, 3) := by decide +kernel
theorem dX7_does_11 : decode cX7_does 11 = .ok (.iload_n 1, 1) := by decide +kernel
theorem dX7_does_12 : decode cX7_does 12 = .ok (.iaload, 1) := by decide +kernel
theorem dX7_does_13 : decode cX7_does 13 = .ok (.tableswitch 171 0 7 #[47, 55, 75, 90, 117, 125, 139, 161], 47) := by decide +kernel
theorem dX7_does_60 : decode cX7_does 60 = .ok (.aload_n 0, 1) := by decide +kernel
theorem dX7_does_61 : decode cX7_does 61 = .ok (.iload_n 1, 1) := by decide +kernel
theorem dX7_does_62 : decode cX7_does 62 = .ok (.invokevirtual 299, 3) := by decide +kernel
theorem dX7_does_65 : decode cX7_does 65 = .ok (.goto 124, 3) := by decide +kernel
theorem dX7_does_68 : decode cX7_does 68 = .ok (.aload_n 0, 1) := by decide +kernel
theorem dX7_does_69 : decode cX7_does 69 = .ok (.iload_n 2, 1) := by decide +kernel
theorem dX7_does_70 : decode cX7_does 70 = .ok (.aload_n 0, 1) := by decide +kernel
theorem dX7_does_71 : decode cX7_does 71 = .ok (.iload_n 1, 1) := by decide +kernel
theorem dX7_does_72 : decode cX7_does 72 = .ok (.iconst 1, 1) := by decide +kernel
theorem dX7_does_73 : decode cX7_does 73 = .ok (.invokevirtual 289, 3) := by decide +kernel
theorem dX7_does_76 : decode cX7_does 76 = .ok (.aload_n 0, 1) := by decide +kernel
theorem dX7_does_77 : decode cX7_does 77 = .ok (.iload_n 1, 1) := by decide +kernel
theorem dX7_does_78 : decode cX7_does 78 = .ok (.iconst 2, 1) := by decide +kernel
theorem dX7_does_79 : decode cX7_does 79 = .ok (.invokevirtual 289, 3) := by decide +kernel
theorem dX7_does_82 : decode cX7_does 82 = .ok (.invokevirtual 302, 3) := by decide +kernel
theorem dX7_does_85 : decode cX7_does 85 = .ok (.goto 104, 3) := by decide +kernel
theorem dX7_does_88 : decode cX7_does 88 = .ok (.aload_n 0, 1) := by decide +kernel
theorem dX7_does_89 : decode cX7_does 89 = .ok (.dup, 1) := by decide +kernel
theorem dX7_does_90 : decode cX7_does 90 = .ok (.getfield 149, 3) := by decide +kernel
theorem dX7_does_93 : decode cX7_does 93 = .ok (.iconst 1, 1) := by decide +kernel
theorem dX7_does_94 : decode cX7_does 94 = .ok (.iload_n 2, 1) := by decide +kernel
theorem dX7_does_95 : decode cX7_does 95 = .ok (.ishl, 1) := by decide +kernel
theorem dX7_does_96 : decode cX7_does 96 = .ok (.ior, 1) := by decide +kernel
theorem dX7_does_97 : decode cX7_does 97 = .ok (.putfield 149, 3) := by decide +kernel
theorem dX7_does_100 : decode cX7_does 100 = .ok (.goto 89, 3) := by decide +kernel
theorem dX7_does_103 : decode cX7_does 103 = .ok (.aload_n 0, 1) := by decide +kernel
theorem dX7_does_104 : decode cX7_does 104 = .ok (.getfield 306, 3) := by decide +kernel
theorem dX7_does_107 : decode cX7_does 107 = .ok (.ifCond .ne 82, 3) := by decide +kernel
theorem dX7_does_110 : decode cX7_does 110 = .ok (.aload_n 0, 1) := by decide +kernel
theorem dX7_does_111 : decode cX7_does 111 = .ok (.iload_n 2, 1) := by decide +kernel
theorem dX7_does_112 : decode cX7_does 112 = .ok (.aload_n 0, 1) := by decide +kernel
theorem dX7_does_113 : decode cX7_does 113 = .ok (.iload_n 1, 1) := by decide +kernel
theorem dX7_does_114 : decode cX7_does 114 = .ok (.iconst 1, 1) := by decide +kernel
theorem dX7_does_115 : decode cX7_does 115 = .ok (.invokevirtual 289, 3) := by decide +kernel
theorem dX7_does_118 : decode cX7_does 118 = .ok (.aload_n 0, 1) := by decide +kernel
theorem dX7_does_119 : decode cX7_does 119 = .ok (.iload_n 1, 1) := by decide +kernel
theorem dX7_does_120 : decode cX7_does 120 = .ok (.iconst 2, 1) := by decide +kernel
theorem dX7_does_121 : decode cX7_does 121 = .ok (.invokevirtual 289, 3) := by decide +kernel
theorem dX7_does_124 : decode cX7_does 124 = .ok (.invokevirtual 310, 3) := by decide +kernel
theorem dX7_does_127 : decode cX7_does 127 = .ok (.goto 62, 3) := by decide +kernel
theorem dX7_does_130 : decode cX7_does 130 = .ok (.aload_n 0, 1) := by decide +kernel
theorem dX7_does_131 : decode cX7_does 131 = .ok (.iload_n 1, 1) := by decide +kernel
theorem dX7_does_132 : decode cX7_does 132 = .ok (.invokevirtual 313, 3) := by decide +kernel
theorem dX7_does_135 : decode cX7_does 135 = .ok (.goto 54, 3) := by decide +kernel
theorem dX7_does_138 : decode cX7_does 138 = .ok (.aload_n 0, 1) := by decide +kernel
theorem dX7_does_139 : decode cX7_does 139 = .ok (.iload_n 2, 1) := by decide +kernel
theorem dX7_does_140 : decode cX7_does 140 = .ok (.aload_n 0, 1) := by decide +kernel
theorem dX7_does_141 : decode cX7_does 141 = .ok (.iload_n 1, 1) := by decide +kernel
theorem dX7_does_142 : decode cX7_does 142 = .ok (.iconst 1, 1) := by decide +kernel
theorem dX7_does_143 : decode cX7_does 143 = .ok (.invokevirtual 289, 3) := by decide +kernel
theorem dX7_does_146 : decode cX7_does 146 = .ok (.invokevirtual 316, 3) := by decide +kernel
theorem dX7_does_149 : decode cX7_does 149 = .ok (.goto 40, 3) := by decide +kernel
theorem dX7_does_152 : decode cX7_does 152 = .ok (.aload_n 0, 1) := by decide +kernel
theorem dX7_does_153 : decode cX7_does 153 = .ok (.getfield 94, 3) := by decide +kernel
theorem dX7_does_156 : decode cX7_does 156 = .ok (.iload_n 2, 1) := by decide +kernel
theorem dX7_does_157 : decode cX7_does 157 = .ok (.iconst 1, 1) := by decide +kernel
theorem dX7_does_158 : decode cX7_does 158 = .ok (.iastore, 1) := by decide +kernel
theorem dX7_does_159 : decode cX7_does 159 = .ok (.aload_n 0, 1) := by decide +kernel
theorem dX7_does_160 : decode cX7_does 160 = .ok (.getfield 97, 3) := by decide +kernel
theorem dX7_does_163 : decode cX7_does 163 = .ok (.iload_n 2, 1) := by decide +kernel
theorem dX7_does_164 : decode cX7_does 164 = .ok (.aload_n 0, 1) := by decide +kernel
theorem dX7_does_165 : decode cX7_does 165 = .ok (.iload_n 1, 1) := by decide +kernel
theorem dX7_does_166 : decode cX7_does 166 = .ok (.iconst 1, 1) := by decide +kernel
theorem dX7_does_167 : decode cX7_does 167 = .ok (.invokevirtual 289, 3) := by decide +kernel
theorem dX7_does_170 : decode cX7_does 170 = .ok (.iastore, 1) := by decide +kernel
theorem dX7_does_171 : decode cX7_does 171 = .ok (.goto 18, 3) := by decide +kernel
theorem dX7_does_174 : decode cX7_does 174 = .ok (.aload_n 0, 1) := by decide +kernel
theorem dX7_does_175 : decode cX7_does 175 = .ok (.getfield 94, 3) := by decide +kernel
theorem dX7_does_178 : decode cX7_does 178 = .ok (.iload_n 2, 1) := by decide +kernel
theorem dX7_does_179 : decode cX7_does 179 = .ok (.iconst 2, 1) := by decide +kernel
theorem dX7_does_180 : decode cX7_does 180 = .ok (.iastore, 1) := by decide +kernel
theorem dX7_does_181 : decode cX7_does 181 = .ok (.goto 8, 3) := by decide +kernel
theorem dX7_does_184 : decode cX7_does 184 = .ok (.aload_n 0, 1) := by decide +kernel
theorem dX7_does_185 : decode cX7_does 185 = .ok (.iload_n 2, 1) := by decide +kernel
theorem dX7_does_186 : decode cX7_does 186 = .ok (.invokevirtual 319, 3) := by decide +kernel
theorem dX7_does_189 : decode cX7_does 189 = .ok (.return_, 1) := by decide +kernel
theorem dX7_rulesAre_0 : decode cX7_rulesAre 0 = .ok (.aload_n 0, 1) := by decide +kernel
theorem dX7_rulesAre_1 : decode cX7_rulesAre 1 = .ok (.iload_n 1, 1) := by decide +kernel
theorem dX7_rulesAre_2 : decode cX7_rulesAre 2 = .ok (.putfield 152, 3) := by decide +kernel
theorem dX7_rulesAre_5 : decode cX7_rulesAre 5 = .ok (.aload_n 0, 1) := by decide +kernel
theorem dX7_rulesAre_6 : decode cX7_rulesAre 6 = .ok (.iload_n 2, 1) := by decide +kernel
theorem dX7_rulesAre_7 : decode cX7_rulesAre 7 = .ok (.putfield 155, 3) := by decide +kernel
theorem dX7_rulesAre_10 : decode cX7_rulesAre 10 = .ok (.aload_n 0, 1) := by decide +kernel
theorem dX7_rulesAre_11 : decode cX7_rulesAre 11 = .ok (.iload_n 3, 1) := by decide +kernel
theorem dX7_rulesAre_12 : decode cX7_rulesAre 12 = .ok (.putfield 158, 3) := by decide +kernel
theorem dX7_rulesAre_15 : decode cX7_rulesAre 15 = .ok (.return_, 1) := by decide +kernel
theorem dX7_places_0 : decode cX7_places 0 = .ok (.aload_n 0, 1) := by decide +kernel
theorem dX7_places_1 : decode cX7_places 1 = .ok (.getfield 20, 3) := by decide +kernel
theorem dX7_places_4 : decode cX7_places 4 = .ok (.iload_n 1, 1) := by decide +kernel
theorem dX7_places_5 : decode cX7_places 5 = .ok (.iaload, 1) := by decide +kernel
theorem dX7_places_6 : decode cX7_places 6 = .ok (.istore_n 2, 1) := by decide +kernel
theorem dX7_places_7 : decode cX7_places 7 = .ok (.aload_n 0, 1) := by decide +kernel
theorem dX7_places_8 : decode cX7_places 8 = .ok (.getfield 29, 3) := by decide +kernel
theorem dX7_places_11 : decode cX7_places 11 = .ok (.iload_n 2, 1) := by decide +kernel
theorem dX7_places_12 : decode cX7_places 12 = .ok (.iconst 1, 1) := by decide +kernel
theorem dX7_places_13 : decode cX7_places 13 = .ok (.bastore, 1) := by decide +kernel
theorem dX7_places_14 : decode cX7_places 14 = .ok (.aload_n 0, 1) := by decide +kernel
theorem dX7_places_15 : decode cX7_places 15 = .ok (.getfield 36, 3) := by decide +kernel
theorem dX7_places_18 : decode cX7_places 18 = .ok (.iload_n 2, 1) := by decide +kernel
theorem dX7_places_19 : decode cX7_places 19 = .ok (.aload_n 0, 1) := by decide +kernel
theorem dX7_places_20 : decode cX7_places 20 = .ok (.iload_n 1, 1) := by decide +kernel
theorem dX7_places_21 : decode cX7_places 21 = .ok (.iconst 0, 1) := by decide +kernel
theorem dX7_places_22 : decode cX7_places 22 = .ok (.invokevirtual 289, 3) := by decide +kernel
theorem dX7_places_25 : decode cX7_places 25 = .ok (.iastore, 1) := by decide +kernel
theorem dX7_places_26 : decode cX7_places 26 = .ok (.aload_n 0, 1) := by decide +kernel
theorem dX7_places_27 : decode cX7_places 27 = .ok (.getfield 39, 3) := by decide +kernel
theorem dX7_places_30 : decode cX7_places 30 = .ok (.iload_n 2, 1) := by decide +kernel
theorem dX7_places_31 : decode cX7_places 31 = .ok (.aload_n 0, 1) := by decide +kernel
theorem dX7_places_32 : decode cX7_places 32 = .ok (.iload_n 1, 1) := by decide +kernel
theorem dX7_places_33 : decode cX7_places 33 = .ok (.iconst 1, 1) := by decide +kernel
theorem dX7_places_34 : decode cX7_places 34 = .ok (.invokevirtual 289, 3) := by decide +kernel
theorem dX7_places_37 : decode cX7_places 37 = .ok (.iastore, 1) := by decide +kernel
theorem dX7_places_38 : decode cX7_places 38 = .ok (.aload_n 0, 1) := by decide +kernel
theorem dX7_places_39 : decode cX7_places 39 = .ok (.getfield 42, 3) := by decide +kernel
theorem dX7_places_42 : decode cX7_places 42 = .ok (.iload_n 2, 1) := by decide +kernel
theorem dX7_places_43 : decode cX7_places 43 = .ok (.aload_n 0, 1) := by decide +kernel
theorem dX7_places_44 : decode cX7_places 44 = .ok (.iload_n 1, 1) := by decide +kernel
theorem dX7_places_45 : decode cX7_places 45 = .ok (.iconst 2, 1) := by decide +kernel
theorem dX7_places_46 : decode cX7_places 46 = .ok (.invokevirtual 289, 3) := by decide +kernel
theorem dX7_places_49 : decode cX7_places 49 = .ok (.iastore, 1) := by decide +kernel
theorem dX7_places_50 : decode cX7_places 50 = .ok (.aload_n 0, 1) := by decide +kernel
theorem dX7_places_51 : decode cX7_places 51 = .ok (.getfield 45, 3) := by decide +kernel
theorem dX7_places_54 : decode cX7_places 54 = .ok (.iload_n 2, 1) := by decide +kernel
theorem dX7_places_55 : decode cX7_places 55 = .ok (.aload_n 0, 1) := by decide +kernel
theorem dX7_places_56 : decode cX7_places 56 = .ok (.iload_n 1, 1) := by decide +kernel
theorem dX7_places_57 : decode cX7_places 57 = .ok (.iconst 3, 1) := by decide +kernel
theorem dX7_places_58 : decode cX7_places 58 = .ok (.invokevirtual 289, 3) := by decide +kernel
theorem dX7_places_61 : decode cX7_places 61 = .ok (.iastore, 1) := by decide +kernel
theorem dX7_places_62 : decode cX7_places 62 = .ok (.aload_n 0, 1) := by decide +kernel
theorem dX7_places_63 : decode cX7_places 63 = .ok (.iload_n 2, 1) := by decide +kernel
theorem dX7_places_64 : decode cX7_places 64 = .ok (.invokevirtual 322, 3) := by decide +kernel
theorem dX7_places_67 : decode cX7_places 67 = .ok (.return_, 1) := by decide +kernel
theorem dX7_signs_0 : decode cX7_signs 0 = .ok (.aload_n 0, 1) := by decide +kernel
theorem dX7_signs_1 : decode cX7_signs 1 = .ok (.getfield 51, 3) := by decide +kernel
theorem dX7_signs_4 : decode cX7_signs 4 = .ok (.iconst 4, 1) := by decide +kernel
theorem dX7_signs_5 : decode cX7_signs 5 = .ok (.iload_n 1, 1) := by decide +kernel
theorem dX7_signs_6 : decode cX7_signs 6 = .ok (.imul, 1) := by decide +kernel
theorem dX7_signs_7 : decode cX7_signs 7 = .ok (.aload_n 0, 1) := by decide +kernel
theorem dX7_signs_8 : decode cX7_signs 8 = .ok (.getfield 48, 3) := by decide +kernel
theorem dX7_signs_11 : decode cX7_signs 11 = .ok (.iload_n 1, 1) := by decide +kernel
theorem dX7_signs_12 : decode cX7_signs 12 = .ok (.iaload, 1) := by decide +kernel
theorem dX7_signs_13 : decode cX7_signs 13 = .ok (.iadd, 1) := by decide +kernel
theorem dX7_signs_14 : decode cX7_signs 14 = .ok (.iload_n 2, 1) := by decide +kernel
theorem dX7_signs_15 : decode cX7_signs 15 = .ok (.iastore, 1) := by decide +kernel
theorem dX7_signs_16 : decode cX7_signs 16 = .ok (.aload_n 0, 1) := by decide +kernel
theorem dX7_signs_17 : decode cX7_signs 17 = .ok (.getfield 54, 3) := by decide +kernel
theorem dX7_signs_20 : decode cX7_signs 20 = .ok (.iconst 4, 1) := by decide +kernel
theorem dX7_signs_21 : decode cX7_signs 21 = .ok (.iload_n 1, 1) := by decide +kernel
theorem dX7_signs_22 : decode cX7_signs 22 = .ok (.imul, 1) := by decide +kernel
theorem dX7_signs_23 : decode cX7_signs 23 = .ok (.aload_n 0, 1) := by decide +kernel
theorem dX7_signs_24 : decode cX7_signs 24 = .ok (.getfield 48, 3) := by decide +kernel
theorem dX7_signs_27 : decode cX7_signs 27 = .ok (.iload_n 1, 1) := by decide +kernel
theorem dX7_signs_28 : decode cX7_signs 28 = .ok (.iaload, 1) := by decide +kernel
theorem dX7_signs_29 : decode cX7_signs 29 = .ok (.iadd, 1) := by decide +kernel
theorem dX7_signs_30 : decode cX7_signs 30 = .ok (.iload_n 3, 1) := by decide +kernel
theorem dX7_signs_31 : decode cX7_signs 31 = .ok (.iastore, 1) := by decide +kernel
theorem dX7_signs_32 : decode cX7_signs 32 = .ok (.aload_n 0, 1) := by decide +kernel
theorem dX7_signs_33 : decode cX7_signs 33 = .ok (.getfield 48, 3) := by decide +kernel
theorem dX7_signs_36 : decode cX7_signs 36 = .ok (.iload_n 1, 1) := by decide +kernel
theorem dX7_signs_37 : decode cX7_signs 37 = .ok (.dup2, 1) := by decide +kernel
theorem dX7_signs_38 : decode cX7_signs 38 = .ok (.iaload, 1) := by decide +kernel
theorem dX7_signs_39 : decode cX7_signs 39 = .ok (.iconst 1, 1) := by decide +kernel
theorem dX7_signs_40 : decode cX7_signs 40 = .ok (.iadd, 1) := by decide +kernel
theorem dX7_signs_41 : decode cX7_signs 41 = .ok (.iastore, 1) := by decide +kernel
theorem dX7_signs_42 : decode cX7_signs 42 = .ok (.return_, 1) := by decide +kernel
theorem dX7_harms_0 : decode cX7_harms 0 = .ok (.aload_n 0, 1) := by decide +kernel
theorem dX7_harms_1 : decode cX7_harms 1 = .ok (.getfield 20, 3) := by decide +kernel
theorem dX7_harms_4 : decode cX7_harms 4 = .ok (.iload_n 1, 1) := by decide +kernel
theorem dX7_harms_5 : decode cX7_harms 5 = .ok (.iaload, 1) := by decide +kernel
theorem dX7_harms_6 : decode cX7_harms 6 = .ok (.istore_n 2, 1) := by decide +kernel
theorem dX7_harms_7 : decode cX7_harms 7 = .ok (.aload_n 0, 1) := by decide +kernel
theorem dX7_harms_8 : decode cX7_harms 8 = .ok (.getfield 33, 3) := by decide +kernel
theorem dX7_harms_11 : decode cX7_harms 11 = .ok (.iload_n 2, 1) := by decide +kernel
theorem dX7_harms_12 : decode cX7_harms 12 = .ok (.iconst 1, 1) := by decide +kernel
theorem dX7_harms_13 : decode cX7_harms 13 = .ok (.bastore, 1) := by decide +kernel
theorem dX7_harms_14 : decode cX7_harms 14 = .ok (.aload_n 0, 1) := by decide +kernel
theorem dX7_harms_15 : decode cX7_harms 15 = .ok (.getfield 61, 3) := by decide +kernel
theorem dX7_harms_18 : decode cX7_harms 18 = .ok (.iload_n 2, 1) := by decide +kernel
theorem dX7_harms_19 : decode cX7_harms 19 = .ok (.aload_n 0, 1) := by decide +kernel
theorem dX7_harms_20 : decode cX7_harms 20 = .ok (.iload_n 1, 1) := by decide +kernel
theorem dX7_harms_21 : decode cX7_harms 21 = .ok (.iconst 0, 1) := by decide +kernel
theorem dX7_harms_22 : decode cX7_harms 22 = .ok (.invokevirtual 289, 3) := by decide +kernel
theorem dX7_harms_25 : decode cX7_harms 25 = .ok (.iastore, 1) := by decide +kernel
theorem dX7_harms_26 : decode cX7_harms 26 = .ok (.aload_n 0, 1) := by decide +kernel
theorem dX7_harms_27 : decode cX7_harms 27 = .ok (.getfield 64, 3) := by decide +kernel
theorem dX7_harms_30 : decode cX7_harms 30 = .ok (.iload_n 2, 1) := by decide +kernel
theorem dX7_harms_31 : decode cX7_harms 31 = .ok (.aload_n 0, 1) := by decide +kernel
theorem dX7_harms_32 : decode cX7_harms 32 = .ok (.iload_n 1, 1) := by decide +kernel
theorem dX7_harms_33 : decode cX7_harms 33 = .ok (.iconst 1, 1) := by decide +kernel
theorem dX7_harms_34 : decode cX7_harms 34 = .ok (.invokevirtual 289, 3) := by decide +kernel
theorem dX7_harms_37 : decode cX7_harms 37 = .ok (.iastore, 1) := by decide +kernel
theorem dX7_harms_38 : decode cX7_harms 38 = .ok (.aload_n 0, 1) := by decide +kernel
theorem dX7_harms_39 : decode cX7_harms 39 = .ok (.getfield 67, 3) := by decide +kernel
theorem dX7_harms_42 : decode cX7_harms 42 = .ok (.iload_n 2, 1) := by decide +kernel
theorem dX7_harms_43 : decode cX7_harms 43 = .ok (.aload_n 0, 1) := by decide +kernel
theorem dX7_harms_44 : decode cX7_harms 44 = .ok (.iload_n 1, 1) := by decide +kernel
theorem dX7_harms_45 : decode cX7_harms 45 = .ok (.iconst 2, 1) := by decide +kernel
theorem dX7_harms_46 : decode cX7_harms 46 = .ok (.invokevirtual 289, 3) := by decide +kernel
theorem dX7_harms_49 : decode cX7_harms 49 = .ok (.iastore, 1) := by decide +kernel
theorem dX7_harms_50 : decode cX7_harms 50 = .ok (.aload_n 0, 1) := by decide +kernel
theorem dX7_harms_51 : decode cX7_harms 51 = .ok (.getfield 73, 3) := by decide +kernel
theorem dX7_harms_54 : decode cX7_harms 54 = .ok (.iload_n 2, 1) := by decide +kernel
theorem dX7_harms_55 : decode cX7_harms 55 = .ok (.aload_n 0, 1) := by decide +kernel
theorem dX7_harms_56 : decode cX7_harms 56 = .ok (.iload_n 1, 1) := by decide +kernel
theorem dX7_harms_57 : decode cX7_harms 57 = .ok (.iconst 3, 1) := by decide +kernel
theorem dX7_harms_58 : decode cX7_harms 58 = .ok (.invokevirtual 289, 3) := by decide +kernel
theorem dX7_harms_61 : decode cX7_harms 61 = .ok (.i2l, 1) := by decide +kernel
theorem dX7_harms_62 : decode cX7_harms 62 = .ok (.lastore, 1) := by decide +kernel
theorem dX7_harms_63 : decode cX7_harms 63 = .ok (.aload_n 0, 1) := by decide +kernel
theorem dX7_harms_64 : decode cX7_harms 64 = .ok (.iload_n 2, 1) := by decide +kernel
theorem dX7_harms_65 : decode cX7_harms 65 = .ok (.aload_n 0, 1) := by decide +kernel
theorem dX7_harms_66 : decode cX7_harms 66 = .ok (.getfield 73, 3) := by decide +kernel
theorem dX7_harms_69 : decode cX7_harms 69 = .ok (.iload_n 2, 1) := by decide +kernel
theorem dX7_harms_70 : decode cX7_harms 70 = .ok (.laload, 1) := by decide +kernel
theorem dX7_harms_71 : decode cX7_harms 71 = .ok (.invokevirtual 325, 3) := by decide +kernel
theorem dX7_harms_74 : decode cX7_harms 74 = .ok (.return_, 1) := by decide +kernel
theorem dX7_grows_0 : decode cX7_grows 0 = .ok (.aload_n 0, 1) := by decide +kernel
theorem dX7_grows_1 : decode cX7_grows 1 = .ok (.getfield 73, 3) := by decide +kernel
theorem dX7_grows_4 : decode cX7_grows 4 = .ok (.iload_n 1, 1) := by decide +kernel
theorem dX7_grows_5 : decode cX7_grows 5 = .ok (.dup2, 1) := by decide +kernel
theorem dX7_grows_6 : decode cX7_grows 6 = .ok (.laload, 1) := by decide +kernel
theorem dX7_grows_7 : decode cX7_grows 7 = .ok (.iload_n 2, 1) := by decide +kernel
theorem dX7_grows_8 : decode cX7_grows 8 = .ok (.i2l, 1) := by decide +kernel
theorem dX7_grows_9 : decode cX7_grows 9 = .ok (.ladd, 1) := by decide +kernel
theorem dX7_grows_10 : decode cX7_grows 10 = .ok (.lastore, 1) := by decide +kernel
theorem dX7_grows_11 : decode cX7_grows 11 = .ok (.aload_n 0, 1) := by decide +kernel
theorem dX7_grows_12 : decode cX7_grows 12 = .ok (.getfield 70, 3) := by decide +kernel
theorem dX7_grows_15 : decode cX7_grows 15 = .ok (.iload_n 1, 1) := by decide +kernel
theorem dX7_grows_16 : decode cX7_grows 16 = .ok (.dup2, 1) := by decide +kernel
theorem dX7_grows_17 : decode cX7_grows 17 = .ok (.iaload, 1) := by decide +kernel
theorem dX7_grows_18 : decode cX7_grows 18 = .ok (.iconst 1, 1) := by decide +kernel
theorem dX7_grows_19 : decode cX7_grows 19 = .ok (.iadd, 1) := by decide +kernel
theorem dX7_grows_20 : decode cX7_grows 20 = .ok (.iastore, 1) := by decide +kernel
theorem dX7_grows_21 : decode cX7_grows 21 = .ok (.aload_n 0, 1) := by decide +kernel
theorem dX7_grows_22 : decode cX7_grows 22 = .ok (.iload_n 1, 1) := by decide +kernel
theorem dX7_grows_23 : decode cX7_grows 23 = .ok (.iload_n 2, 1) := by decide +kernel
theorem dX7_grows_24 : decode cX7_grows 24 = .ok (.i2l, 1) := by decide +kernel
theorem dX7_grows_25 : decode cX7_grows 25 = .ok (.invokevirtual 325, 3) := by decide +kernel
theorem dX7_grows_28 : decode cX7_grows 28 = .ok (.return_, 1) := by decide +kernel
theorem dX7_reopens_0 : decode cX7_reopens 0 = .ok (.iconst 0, 1) := by decide +kernel
theorem dX7_reopens_1 : decode cX7_reopens 1 = .ok (.istore_n 2, 1) := by decide +kernel
theorem dX7_reopens_2 : decode cX7_reopens 2 = .ok (.iload_n 2, 1) := by decide +kernel
theorem dX7_reopens_3 : decode cX7_reopens 3 = .ok (.bipush 40, 2) := by decide +kernel
theorem dX7_reopens_5 : decode cX7_reopens 5 = .ok (.if_icmp .ge 29, 3) := by decide +kernel
theorem dX7_reopens_8 : decode cX7_reopens 8 = .ok (.aload_n 0, 1) := by decide +kernel
theorem dX7_reopens_9 : decode cX7_reopens 9 = .ok (.getfield 57, 3) := by decide +kernel
theorem dX7_reopens_12 : decode cX7_reopens 12 = .ok (.iload_n 2, 1) := by decide +kernel
theorem dX7_reopens_13 : decode cX7_reopens 13 = .ok (.dup2, 1) := by decide +kernel
theorem dX7_reopens_14 : decode cX7_reopens 14 = .ok (.laload, 1) := by decide +kernel
theorem dX7_reopens_15 : decode cX7_reopens 15 = .ok (.aload_n 0, 1) := by decide +kernel
theorem dX7_reopens_16 : decode cX7_reopens 16 = .ok (.getfield 76, 3) := by decide +kernel
theorem dX7_reopens_19 : decode cX7_reopens 19 = .ok (.bipush 40, 2) := by decide +kernel
theorem dX7_reopens_21 : decode cX7_reopens 21 = .ok (.iload_n 1, 1) := by decide +kernel
theorem dX7_reopens_22 : decode cX7_reopens 22 = .ok (.imul, 1) := by decide +kernel
theorem dX7_reopens_23 : decode cX7_reopens 23 = .ok (.iload_n 2, 1) := by decide +kernel
theorem dX7_reopens_24 : decode cX7_reopens 24 = .ok (.iadd, 1) := by decide +kernel
theorem dX7_reopens_25 : decode cX7_reopens 25 = .ok (.laload, 1) := by decide +kernel
theorem dX7_reopens_26 : decode cX7_reopens 26 = .ok (.lsub, 1) := by decide +kernel
theorem dX7_reopens_27 : decode cX7_reopens 27 = .ok (.lastore, 1) := by decide +kernel
theorem dX7_reopens_28 : decode cX7_reopens 28 = .ok (.iinc 2 1, 3) := by decide +kernel
theorem dX7_reopens_31 : decode cX7_reopens 31 = .ok (.goto (-29), 3) := by decide +kernel
theorem dX7_reopens_34 : decode cX7_reopens 34 = .ok (.aload_n 0, 1) := by decide +kernel
theorem dX7_reopens_35 : decode cX7_reopens 35 = .ok (.iload_n 1, 1) := by decide +kernel
theorem dX7_reopens_36 : decode cX7_reopens 36 = .ok (.invokevirtual 145, 3) := by decide +kernel
theorem dX7_reopens_39 : decode cX7_reopens 39 = .ok (.aload_n 0, 1) := by decide +kernel
theorem dX7_reopens_40 : decode cX7_reopens 40 = .ok (.iload_n 1, 1) := by decide +kernel
theorem dX7_reopens_41 : decode cX7_reopens 41 = .ok (.aload_n 0, 1) := by decide +kernel
theorem dX7_reopens_42 : decode cX7_reopens 42 = .ok (.getfield 73, 3) := by decide +kernel
theorem dX7_reopens_45 : decode cX7_reopens 45 = .ok (.iload_n 1, 1) := by decide +kernel
theorem dX7_reopens_46 : decode cX7_reopens 46 = .ok (.laload, 1) := by decide +kernel
theorem dX7_reopens_47 : decode cX7_reopens 47 = .ok (.invokevirtual 325, 3) := by decide +kernel
theorem dX7_reopens_50 : decode cX7_reopens 50 = .ok (.return_, 1) := by decide +kernel
theorem dX7_goes_0 : decode cX7_goes 0 = .ok (.aload_n 0, 1) := by decide +kernel
theorem dX7_goes_1 : decode cX7_goes 1 = .ok (.iload_n 1, 1) := by decide +kernel
theorem dX7_goes_2 : decode cX7_goes 2 = .ok (.invokevirtual 328, 3) := by decide +kernel
theorem dX7_goes_5 : decode cX7_goes 5 = .ok (.ifCond .eq 11, 3) := by decide +kernel
theorem dX7_goes_8 : decode cX7_goes 8 = .ok (.aload_n 0, 1) := by decide +kernel
theorem dX7_goes_9 : decode cX7_goes 9 = .ok (.iload_n 1, 1) := by decide +kernel
theorem dX7_goes_10 : decode cX7_goes 10 = .ok (.invokevirtual 331, 3) := by decide +kernel
theorem dX7_goes_13 : decode cX7_goes 13 = .ok (.goto 13, 3) := by decide +kernel
theorem dX7_goes_16 : decode cX7_goes 16 = .ok (.aload_n 0, 1) := by decide +kernel
theorem dX7_goes_17 : decode cX7_goes 17 = .ok (.dup, 1) := by decide +kernel
theorem dX7_goes_18 : decode cX7_goes 18 = .ok (.getfield 334, 3) := by decide +kernel
theorem dX7_goes_21 : decode cX7_goes 21 = .ok (.iconst 1, 1) := by decide +kernel
theorem dX7_goes_22 : decode cX7_goes 22 = .ok (.iadd, 1) := by decide +kernel
theorem dX7_goes_23 : decode cX7_goes 23 = .ok (.putfield 334, 3) := by decide +kernel
theorem dX7_goes_26 : decode cX7_goes 26 = .ok (.return_, 1) := by decide +kernel
theorem dX7_begins_0 : decode cX7_begins 0 = .ok (.aload_n 0, 1) := by decide +kernel
theorem dX7_begins_1 : decode cX7_begins 1 = .ok (.invokevirtual 337, 3) := by decide +kernel
theorem dX7_begins_4 : decode cX7_begins 4 = .ok (.aload_n 0, 1) := by decide +kernel
theorem dX7_begins_5 : decode cX7_begins 5 = .ok (.iconst 0, 1) := by decide +kernel
theorem dX7_begins_6 : decode cX7_begins 6 = .ok (.putfield 334, 3) := by decide +kernel
theorem dX7_begins_9 : decode cX7_begins 9 = .ok (.return_, 1) := by decide +kernel
theorem dX7_goesOver_0 : decode cX7_goesOver 0 = .ok (.aload_n 0, 1) := by decide +kernel
theorem dX7_goesOver_1 : decode cX7_goesOver 1 = .ok (.invokevirtual 340, 3) := by decide +kernel
theorem dX7_goesOver_4 : decode cX7_goesOver 4 = .ok (.iconst 0, 1) := by decide +kernel
theorem dX7_goesOver_5 : decode cX7_goesOver 5 = .ok (.istore_n 1, 1) := by decide +kernel
theorem dX7_goesOver_6 : decode cX7_goesOver 6 = .ok (.iload_n 1, 1) := by decide +kernel
theorem dX7_goesOver_7 : decode cX7_goesOver 7 = .ok (.aload_n 0, 1) := by decide +kernel
theorem dX7_goesOver_8 : decode cX7_goesOver 8 = .ok (.getfield 17, 3) := by decide +kernel
theorem dX7_goesOver_11 : decode cX7_goesOver 11 = .ok (.if_icmp .ge 14, 3) := by decide +kernel
theorem dX7_goesOver_14 : decode cX7_goesOver 14 = .ok (.aload_n 0, 1) := by decide +kernel
theorem dX7_goesOver_15 : decode cX7_goesOver 15 = .ok (.iload_n 1, 1) := by decide +kernel
theorem dX7_goesOver_16 : decode cX7_goesOver 16 = .ok (.invokevirtual 343, 3) := by decide +kernel
theorem dX7_goesOver_19 : decode cX7_goesOver 19 = .ok (.iinc 1 1, 3) := by decide +kernel
theorem dX7_goesOver_22 : decode cX7_goesOver 22 = .ok (.goto (-16), 3) := by decide +kernel
theorem dX7_goesOver_25 : decode cX7_goesOver 25 = .ok (.return_, 1) := by decide +kernel
theorem dX7_goesWithout_0 : decode cX7_goesWithout 0 = .ok (.aload_n 0, 1) := by decide +kernel
theorem dX7_goesWithout_1 : decode cX7_goesWithout 1 = .ok (.invokevirtual 340, 3) := by decide +kernel
theorem dX7_goesWithout_4 : decode cX7_goesWithout 4 = .ok (.iconst 0, 1) := by decide +kernel
theorem dX7_goesWithout_5 : decode cX7_goesWithout 5 = .ok (.istore_n 2, 1) := by decide +kernel
theorem dX7_goesWithout_6 : decode cX7_goesWithout 6 = .ok (.iload_n 2, 1) := by decide +kernel
theorem dX7_goesWithout_7 : decode cX7_goesWithout 7 = .ok (.aload_n 0, 1) := by decide +kernel
theorem dX7_goesWithout_8 : decode cX7_goesWithout 8 = .ok (.getfield 17, 3) := by decide +kernel
theorem dX7_goesWithout_11 : decode cX7_goesWithout 11 = .ok (.if_icmp .ge 19, 3) := by decide +kernel
theorem dX7_goesWithout_14 : decode cX7_goesWithout 14 = .ok (.iload_n 2, 1) := by decide +kernel
theorem dX7_goesWithout_15 : decode cX7_goesWithout 15 = .ok (.iload_n 1, 1) := by decide +kernel
theorem dX7_goesWithout_16 : decode cX7_goesWithout 16 = .ok (.if_icmp .eq 8, 3) := by decide +kernel
theorem dX7_goesWithout_19 : decode cX7_goesWithout 19 = .ok (.aload_n 0, 1) := by decide +kernel
theorem dX7_goesWithout_20 : decode cX7_goesWithout 20 = .ok (.iload_n 2, 1) := by decide +kernel
theorem dX7_goesWithout_21 : decode cX7_goesWithout 21 = .ok (.invokevirtual 343, 3) := by decide +kernel
theorem dX7_goesWithout_24 : decode cX7_goesWithout 24 = .ok (.iinc 2 1, 3) := by decide +kernel
theorem dX7_goesWithout_27 : decode cX7_goesWithout 27 = .ok (.goto (-21), 3) := by decide +kernel
theorem dX7_goesWithout_30 : decode cX7_goesWithout 30 = .ok (.return_, 1) := by decide +kernel
theorem dX7_goesBy_0 : decode cX7_goesBy 0 = .ok (.aload_n 0, 1) := by decide +kernel
theorem dX7_goesBy_1 : decode cX7_goesBy 1 = .ok (.invokevirtual 340, 3) := by decide +kernel
theorem dX7_goesBy_4 : decode cX7_goesBy 4 = .ok (.aload_n 0, 1) := by decide +kernel
theorem dX7_goesBy_5 : decode cX7_goesBy 5 = .ok (.iload_n 1, 1) := by decide +kernel
theorem dX7_goesBy_6 : decode cX7_goesBy 6 = .ok (.iload_n 2, 1) := by decide +kernel
theorem dX7_goesBy_7 : decode cX7_goesBy 7 = .ok (.iload_n 3, 1) := by decide +kernel
theorem dX7_goesBy_8 : decode cX7_goesBy 8 = .ok (.invokevirtual 310, 3) := by decide +kernel
theorem dX7_goesBy_11 : decode cX7_goesBy 11 = .ok (.aload_n 0, 1) := by decide +kernel
theorem dX7_goesBy_12 : decode cX7_goesBy 12 = .ok (.iconst 1, 1) := by decide +kernel
theorem dX7_goesBy_13 : decode cX7_goesBy 13 = .ok (.putfield 306, 3) := by decide +kernel
theorem dX7_goesBy_16 : decode cX7_goesBy 16 = .ok (.iconst 0, 1) := by decide +kernel
theorem dX7_goesBy_17 : decode cX7_goesBy 17 = .ok (.istore 4, 2) := by decide +kernel
theorem dX7_goesBy_19 : decode cX7_goesBy 19 = .ok (.iload 4, 2) := by decide +kernel
theorem dX7_goesBy_21 : decode cX7_goesBy 21 = .ok (.aload_n 0, 1) := by decide +kernel
theorem dX7_goesBy_22 : decode cX7_goesBy 22 = .ok (.getfield 17, 3) := by decide +kernel
theorem dX7_goesBy_25 : decode cX7_goesBy 25 = .ok (.if_icmp .ge 15, 3) := by decide +kernel
theorem dX7_goesBy_28 : decode cX7_goesBy 28 = .ok (.aload_n 0, 1) := by decide +kernel
theorem dX7_goesBy_29 : decode cX7_goesBy 29 = .ok (.iload 4, 2) := by decide +kernel
theorem dX7_goesBy_31 : decode cX7_goesBy 31 = .ok (.invokevirtual 343, 3) := by decide +kernel
theorem dX7_goesBy_34 : decode cX7_goesBy 34 = .ok (.iinc 4 1, 3) := by decide +kernel
theorem dX7_goesBy_37 : decode cX7_goesBy 37 = .ok (.goto (-18), 3) := by decide +kernel
theorem dX7_goesBy_40 : decode cX7_goesBy 40 = .ok (.aload_n 0, 1) := by decide +kernel
theorem dX7_goesBy_41 : decode cX7_goesBy 41 = .ok (.iconst 0, 1) := by decide +kernel
theorem dX7_goesBy_42 : decode cX7_goesBy 42 = .ok (.putfield 306, 3) := by decide +kernel
theorem dX7_goesBy_45 : decode cX7_goesBy 45 = .ok (.return_, 1) := by decide +kernel
theorem dX7_hasRoom_0 : decode cX7_hasRoom 0 = .ok (.aload_n 0, 1) := by decide +kernel
theorem dX7_hasRoom_1 : decode cX7_hasRoom 1 = .ok (.aload_n 0, 1) := by decide +kernel
theorem dX7_hasRoom_2 : decode cX7_hasRoom 2 = .ok (.getfield 17, 3) := by decide +kernel
theorem dX7_hasRoom_5 : decode cX7_hasRoom 5 = .ok (.sipush 160, 3) := by decide +kernel
theorem dX7_hasRoom_8 : decode cX7_hasRoom 8 = .ok (.if_icmp .ge 7, 3) := by decide +kernel
theorem dX7_hasRoom_11 : decode cX7_hasRoom 11 = .ok (.iconst 1, 1) := by decide +kernel
theorem dX7_hasRoom_12 : decode cX7_hasRoom 12 = .ok (.goto 4, 3) := by decide +kernel
theorem dX7_hasRoom_15 : decode cX7_hasRoom 15 = .ok (.iconst 0, 1) := by decide +kernel
theorem dX7_hasRoom_16 : decode cX7_hasRoom 16 = .ok (.iload_n 1, 1) := by decide +kernel
theorem dX7_hasRoom_17 : decode cX7_hasRoom 17 = .ok (.iconst 2, 1) := by decide +kernel
theorem dX7_hasRoom_18 : decode cX7_hasRoom 18 = .ok (.invokevirtual 346, 3) := by decide +kernel
theorem dX7_hasRoom_21 : decode cX7_hasRoom 21 = .ok (.ireturn, 1) := by decide +kernel
theorem dX7_place_0 : decode cX7_place 0 = .ok (.aload_n 0, 1) := by decide +kernel
theorem dX7_place_1 : decode cX7_place 1 = .ok (.iconst 0, 1) := by decide +kernel
theorem dX7_place_2 : decode cX7_place 2 = .ok (.putfield 1, 3) := by decide +kernel
theorem dX7_place_5 : decode cX7_place 5 = .ok (.iload_n 1, 1) := by decide +kernel
theorem dX7_place_6 : decode cX7_place 6 = .ok (.i2l, 1) := by decide +kernel
theorem dX7_place_7 : decode cX7_place 7 = .ok (.lconst 0, 1) := by decide +kernel
theorem dX7_place_8 : decode cX7_place 8 = .ok (.ldc2_w 350, 3) := by decide +kernel
theorem dX7_place_11 : decode cX7_place 11 = .ok (.invokestatic 352, 3) := by decide +kernel
theorem dX7_place_14 : decode cX7_place 14 = .ok (.ifCond .eq 44, 3) := by decide +kernel
theorem dX7_place_17 : decode cX7_place 17 = .ok (.iload_n 2, 1) := by decide +kernel
theorem dX7_place_18 : decode cX7_place 18 = .ok (.i2l, 1) := by decide +kernel
theorem dX7_place_19 : decode cX7_place 19 = .ok (.lconst 0, 1) := by decide +kernel
theorem dX7_place_20 : decode cX7_place 20 = .ok (.ldc2_w 356, 3) := by decide +kernel
theorem dX7_place_23 : decode cX7_place 23 = .ok (.invokestatic 352, 3) := by decide +kernel
theorem dX7_place_26 : decode cX7_place 26 = .ok (.ifCond .eq 32, 3) := by decide +kernel
theorem dX7_place_29 : decode cX7_place 29 = .ok (.iload_n 3, 1) := by decide +kernel
theorem dX7_place_30 : decode cX7_place 30 = .ok (.i2l, 1) := by decide +kernel
theorem dX7_place_31 : decode cX7_place 31 = .ok (.lconst 1, 1) := by decide +kernel
theorem dX7_place_32 : decode cX7_place 32 = .ok (.ldc2_w 358, 3) := by decide +kernel
theorem dX7_place_35 : decode cX7_place 35 = .ok (.invokestatic 352, 3) := by decide +kernel
theorem dX7_place_38 : decode cX7_place 38 = .ok (.ifCond .eq 20, 3) := by decide +kernel
theorem dX7_place_41 : decode cX7_place 41 = .ok (.iload 4, 2) := by decide +kernel
theorem dX7_place_43 : decode cX7_place 43 = .ok (.i2l, 1) := by decide +kernel
theorem dX7_place_44 : decode cX7_place 44 = .ok (.lconst 1, 1) := by decide +kernel
theorem dX7_place_45 : decode cX7_place 45 = .ok (.ldc2_w 360, 3) := by decide +kernel
theorem dX7_place_48 : decode cX7_place 48 = .ok (.invokestatic 352, 3) := by decide +kernel
theorem dX7_place_51 : decode cX7_place 51 = .ok (.ifCond .eq 7, 3) := by decide +kernel
theorem dX7_place_54 : decode cX7_place 54 = .ok (.iconst 1, 1) := by decide +kernel
theorem dX7_place_55 : decode cX7_place 55 = .ok (.goto 4, 3) := by decide +kernel
theorem dX7_place_58 : decode cX7_place 58 = .ok (.iconst 0, 1) := by decide +kernel
theorem dX7_place_59 : decode cX7_place 59 = .ok (.istore 5, 2) := by decide +kernel
theorem dX7_place_61 : decode cX7_place 61 = .ok (.aload_n 0, 1) := by decide +kernel
theorem dX7_place_62 : decode cX7_place 62 = .ok (.iload 5, 2) := by decide +kernel
theorem dX7_place_64 : decode cX7_place 64 = .ok (.iconst 1, 1) := by decide +kernel
theorem dX7_place_65 : decode cX7_place 65 = .ok (.iconst 1, 1) := by decide +kernel
theorem dX7_place_66 : decode cX7_place 66 = .ok (.invokevirtual 346, 3) := by decide +kernel
theorem dX7_place_69 : decode cX7_place 69 = .ok (.ifCond .eq 45, 3) := by decide +kernel
theorem dX7_place_72 : decode cX7_place 72 = .ok (.aload_n 0, 1) := by decide +kernel
theorem dX7_place_73 : decode cX7_place 73 = .ok (.aload_n 0, 1) := by decide +kernel
theorem dX7_place_74 : decode cX7_place 74 = .ok (.iconst 0, 1) := by decide +kernel
theorem dX7_place_75 : decode cX7_place 75 = .ok (.invokevirtual 362, 3) := by decide +kernel
theorem dX7_place_78 : decode cX7_place 78 = .ok (.bipush 40, 2) := by decide +kernel
theorem dX7_place_80 : decode cX7_place 80 = .ok (.if_icmp .ge 17, 3) := by decide +kernel
theorem dX7_place_83 : decode cX7_place 83 = .ok (.aload_n 0, 1) := by decide +kernel
theorem dX7_place_84 : decode cX7_place 84 = .ok (.iload_n 1, 1) := by decide +kernel
theorem dX7_place_85 : decode cX7_place 85 = .ok (.iload_n 2, 1) := by decide +kernel
theorem dX7_place_86 : decode cX7_place 86 = .ok (.iload_n 3, 1) := by decide +kernel
theorem dX7_place_87 : decode cX7_place 87 = .ok (.invokevirtual 292, 3) := by decide +kernel
theorem dX7_place_90 : decode cX7_place 90 = .ok (.ifCond .eq 7, 3) := by decide +kernel
theorem dX7_place_93 : decode cX7_place 93 = .ok (.iconst 1, 1) := by decide +kernel
theorem dX7_place_94 : decode cX7_place 94 = .ok (.goto 4, 3) := by decide +kernel
theorem dX7_place_97 : decode cX7_place 97 = .ok (.iconst 0, 1) := by decide +kernel
theorem dX7_place_98 : decode cX7_place 98 = .ok (.iconst 2, 1) := by decide +kernel
theorem dX7_place_99 : decode cX7_place 99 = .ok (.iconst 2, 1) := by decide +kernel
theorem dX7_place_100 : decode cX7_place 100 = .ok (.invokevirtual 346, 3) := by decide +kernel
theorem dX7_place_103 : decode cX7_place 103 = .ok (.ifCond .eq 11, 3) := by decide +kernel
theorem dX7_place_106 : decode cX7_place 106 = .ok (.aload_n 0, 1) := by decide +kernel
theorem dX7_place_107 : decode cX7_place 107 = .ok (.iconst 2, 1) := by decide +kernel
theorem dX7_place_108 : decode cX7_place 108 = .ok (.invokevirtual 365, 3) := by decide +kernel
theorem dX7_place_111 : decode cX7_place 111 = .ok (.ifCond .ne 5, 3) := by decide +kernel
theorem dX7_place_114 : decode cX7_place 114 = .ok (.iconst 0, 1) := by decide +kernel
theorem dX7_place_115 : decode cX7_place 115 = .ok (.ireturn, 1) := by decide +kernel
theorem dX7_place_116 : decode cX7_place 116 = .ok (.aload_n 0, 1) := by decide +kernel
theorem dX7_place_117 : decode cX7_place 117 = .ok (.iconst 0, 1) := by decide +kernel
theorem dX7_place_118 : decode cX7_place 118 = .ok (.invokevirtual 362, 3) := by decide +kernel
theorem dX7_place_121 : decode cX7_place 121 = .ok (.istore 6, 2) := by decide +kernel
theorem dX7_place_123 : decode cX7_place 123 = .ok (.aload_n 0, 1) := by decide +kernel
theorem dX7_place_124 : decode cX7_place 124 = .ok (.iconst 0, 1) := by decide +kernel
theorem dX7_place_125 : decode cX7_place 125 = .ok (.iload_n 1, 1) := by decide +kernel
theorem dX7_place_126 : decode cX7_place 126 = .ok (.iload_n 2, 1) := by decide +kernel
theorem dX7_place_127 : decode cX7_place 127 = .ok (.iload_n 3, 1) := by decide +kernel
theorem dX7_place_128 : decode cX7_place 128 = .ok (.iload 4, 2) := by decide +kernel
theorem dX7_place_130 : decode cX7_place 130 = .ok (.iload 6, 2) := by decide +kernel
theorem dX7_place_132 : decode cX7_place 132 = .ok (.invokevirtual 368, 3) := by decide +kernel
theorem dX7_place_135 : decode cX7_place 135 = .ok (.aload_n 0, 1) := by decide +kernel
theorem dX7_place_136 : decode cX7_place 136 = .ok (.aload_n 0, 1) := by decide +kernel
theorem dX7_place_137 : decode cX7_place 137 = .ok (.getfield 17, 3) := by decide +kernel
theorem dX7_place_140 : decode cX7_place 140 = .ok (.iconst 1, 1) := by decide +kernel
theorem dX7_place_141 : decode cX7_place 141 = .ok (.isub, 1) := by decide +kernel
theorem dX7_place_142 : decode cX7_place 142 = .ok (.invokevirtual 331, 3) := by decide +kernel
theorem dX7_place_145 : decode cX7_place 145 = .ok (.iload 6, 2) := by decide +kernel
theorem dX7_place_147 : decode cX7_place 147 = .ok (.ireturn, 1) := by decide +kernel
theorem dX7_isOne_0 : decode cX7_isOne 0 = .ok (.aload_n 0, 1) := by decide +kernel
theorem dX7_isOne_1 : decode cX7_isOne 1 = .ok (.iload_n 1, 1) := by decide +kernel
theorem dX7_isOne_2 : decode cX7_isOne 2 = .ok (.i2l, 1) := by decide +kernel
theorem dX7_isOne_3 : decode cX7_isOne 3 = .ok (.lconst 0, 1) := by decide +kernel
theorem dX7_isOne_4 : decode cX7_isOne 4 = .ok (.ldc2_w 372, 3) := by decide +kernel
theorem dX7_isOne_7 : decode cX7_isOne 7 = .ok (.invokestatic 352, 3) := by decide +kernel
theorem dX7_isOne_10 : decode cX7_isOne 10 = .ok (.ifCond .eq 16, 3) := by decide +kernel
theorem dX7_isOne_13 : decode cX7_isOne 13 = .ok (.aload_n 0, 1) := by decide +kernel
theorem dX7_isOne_14 : decode cX7_isOne 14 = .ok (.getfield 29, 3) := by decide +kernel
theorem dX7_isOne_17 : decode cX7_isOne 17 = .ok (.iload_n 1, 1) := by decide +kernel
theorem dX7_isOne_18 : decode cX7_isOne 18 = .ok (.baload, 1) := by decide +kernel
theorem dX7_isOne_19 : decode cX7_isOne 19 = .ok (.ifCond .eq 7, 3) := by decide +kernel
theorem dX7_isOne_22 : decode cX7_isOne 22 = .ok (.iconst 1, 1) := by decide +kernel
theorem dX7_isOne_23 : decode cX7_isOne 23 = .ok (.goto 4, 3) := by decide +kernel
theorem dX7_isOne_26 : decode cX7_isOne 26 = .ok (.iconst 0, 1) := by decide +kernel
theorem dX7_isOne_27 : decode cX7_isOne 27 = .ok (.iload_n 2, 1) := by decide +kernel
theorem dX7_isOne_28 : decode cX7_isOne 28 = .ok (.iconst 0, 1) := by decide +kernel
theorem dX7_isOne_29 : decode cX7_isOne 29 = .ok (.invokevirtual 346, 3) := by decide +kernel
theorem dX7_isOne_32 : decode cX7_isOne 32 = .ok (.ireturn, 1) := by decide +kernel
theorem dX7_sign_0 : decode cX7_sign 0 = .ok (.aload_n 0, 1) := by decide +kernel
theorem dX7_sign_1 : decode cX7_sign 1 = .ok (.iconst 0, 1) := by decide +kernel
theorem dX7_sign_2 : decode cX7_sign 2 = .ok (.putfield 1, 3) := by decide +kernel
theorem dX7_sign_5 : decode cX7_sign 5 = .ok (.aload_n 0, 1) := by decide +kernel
theorem dX7_sign_6 : decode cX7_sign 6 = .ok (.iload_n 1, 1) := by decide +kernel
theorem dX7_sign_7 : decode cX7_sign 7 = .ok (.iconst 1, 1) := by decide +kernel
theorem dX7_sign_8 : decode cX7_sign 8 = .ok (.invokevirtual 374, 3) := by decide +kernel
theorem dX7_sign_11 : decode cX7_sign 11 = .ok (.ifCond .eq 65, 3) := by decide +kernel
theorem dX7_sign_14 : decode cX7_sign 14 = .ok (.aload_n 0, 1) := by decide +kernel
theorem dX7_sign_15 : decode cX7_sign 15 = .ok (.iload_n 2, 1) := by decide +kernel
theorem dX7_sign_16 : decode cX7_sign 16 = .ok (.i2l, 1) := by decide +kernel
theorem dX7_sign_17 : decode cX7_sign 17 = .ok (.lconst 0, 1) := by decide +kernel
theorem dX7_sign_18 : decode cX7_sign 18 = .ok (.ldc2_w 377, 3) := by decide +kernel
theorem dX7_sign_21 : decode cX7_sign 21 = .ok (.invokestatic 352, 3) := by decide +kernel
theorem dX7_sign_24 : decode cX7_sign 24 = .ok (.ifCond .eq 19, 3) := by decide +kernel
theorem dX7_sign_27 : decode cX7_sign 27 = .ok (.iload_n 3, 1) := by decide +kernel
theorem dX7_sign_28 : decode cX7_sign 28 = .ok (.i2l, 1) := by decide +kernel
theorem dX7_sign_29 : decode cX7_sign 29 = .ok (.lconst 1, 1) := by decide +kernel
theorem dX7_sign_30 : decode cX7_sign 30 = .ok (.ldc2_w 252, 3) := by decide +kernel
theorem dX7_sign_33 : decode cX7_sign 33 = .ok (.invokestatic 352, 3) := by decide +kernel
theorem dX7_sign_36 : decode cX7_sign 36 = .ok (.ifCond .eq 7, 3) := by decide +kernel
theorem dX7_sign_39 : decode cX7_sign 39 = .ok (.iconst 1, 1) := by decide +kernel
theorem dX7_sign_40 : decode cX7_sign 40 = .ok (.goto 4, 3) := by decide +kernel
theorem dX7_sign_43 : decode cX7_sign 43 = .ok (.iconst 0, 1) := by decide +kernel
theorem dX7_sign_44 : decode cX7_sign 44 = .ok (.iconst 2, 1) := by decide +kernel
theorem dX7_sign_45 : decode cX7_sign 45 = .ok (.iconst 1, 1) := by decide +kernel
theorem dX7_sign_46 : decode cX7_sign 46 = .ok (.invokevirtual 346, 3) := by decide +kernel
theorem dX7_sign_49 : decode cX7_sign 49 = .ok (.ifCond .eq 27, 3) := by decide +kernel
theorem dX7_sign_52 : decode cX7_sign 52 = .ok (.aload_n 0, 1) := by decide +kernel
theorem dX7_sign_53 : decode cX7_sign 53 = .ok (.aload_n 0, 1) := by decide +kernel
theorem dX7_sign_54 : decode cX7_sign 54 = .ok (.iload_n 1, 1) := by decide +kernel
theorem dX7_sign_55 : decode cX7_sign 55 = .ok (.iload_n 2, 1) := by decide +kernel
theorem dX7_sign_56 : decode cX7_sign 56 = .ok (.iload_n 3, 1) := by decide +kernel
theorem dX7_sign_57 : decode cX7_sign 57 = .ok (.invokevirtual 296, 3) := by decide +kernel
theorem dX7_sign_60 : decode cX7_sign 60 = .ok (.iconst 3, 1) := by decide +kernel
theorem dX7_sign_61 : decode cX7_sign 61 = .ok (.iconst 2, 1) := by decide +kernel
theorem dX7_sign_62 : decode cX7_sign 62 = .ok (.invokevirtual 346, 3) := by decide +kernel
theorem dX7_sign_65 : decode cX7_sign 65 = .ok (.ifCond .eq 11, 3) := by decide +kernel
theorem dX7_sign_68 : decode cX7_sign 68 = .ok (.aload_n 0, 1) := by decide +kernel
theorem dX7_sign_69 : decode cX7_sign 69 = .ok (.iconst 3, 1) := by decide +kernel
theorem dX7_sign_70 : decode cX7_sign 70 = .ok (.invokevirtual 365, 3) := by decide +kernel
theorem dX7_sign_73 : decode cX7_sign 73 = .ok (.ifCond .ne 5, 3) := by decide +kernel
theorem dX7_sign_76 : decode cX7_sign 76 = .ok (.iconst 0, 1) := by decide +kernel
theorem dX7_sign_77 : decode cX7_sign 77 = .ok (.ireturn, 1) := by decide +kernel
theorem dX7_sign_78 : decode cX7_sign 78 = .ok (.aload_n 0, 1) := by decide +kernel
theorem dX7_sign_79 : decode cX7_sign 79 = .ok (.iconst 1, 1) := by decide +kernel
theorem dX7_sign_80 : decode cX7_sign 80 = .ok (.iload_n 1, 1) := by decide +kernel
theorem dX7_sign_81 : decode cX7_sign 81 = .ok (.iload_n 2, 1) := by decide +kernel
theorem dX7_sign_82 : decode cX7_sign 82 = .ok (.iload_n 3, 1) := by decide +kernel
theorem dX7_sign_83 : decode cX7_sign 83 = .ok (.iconst 0, 1) := by decide +kernel
theorem dX7_sign_84 : decode cX7_sign 84 = .ok (.iconst (-1), 1) := by decide +kernel
theorem dX7_sign_85 : decode cX7_sign 85 = .ok (.invokevirtual 368, 3) := by decide +kernel
theorem dX7_sign_88 : decode cX7_sign 88 = .ok (.aload_n 0, 1) := by decide +kernel
theorem dX7_sign_89 : decode cX7_sign 89 = .ok (.aload_n 0, 1) := by decide +kernel
theorem dX7_sign_90 : decode cX7_sign 90 = .ok (.getfield 17, 3) := by decide +kernel
theorem dX7_sign_93 : decode cX7_sign 93 = .ok (.iconst 1, 1) := by decide +kernel
theorem dX7_sign_94 : decode cX7_sign 94 = .ok (.isub, 1) := by decide +kernel
theorem dX7_sign_95 : decode cX7_sign 95 = .ok (.invokevirtual 331, 3) := by decide +kernel
theorem dX7_sign_98 : decode cX7_sign 98 = .ok (.bipush 10, 2) := by decide +kernel
theorem dX7_sign_100 : decode cX7_sign 100 = .ok (.aload_n 0, 1) := by decide +kernel
theorem dX7_sign_101 : decode cX7_sign 101 = .ok (.iload_n 1, 1) := by decide +kernel
theorem dX7_sign_102 : decode cX7_sign 102 = .ok (.invokevirtual 286, 3) := by decide +kernel
theorem dX7_sign_105 : decode cX7_sign 105 = .ok (.isub, 1) := by decide +kernel
theorem dX7_sign_106 : decode cX7_sign 106 = .ok (.ireturn, 1) := by decide +kernel
theorem dX7_bits_0 : decode cX7_bits 0 = .ok (.iconst 0, 1) := by decide +kernel
theorem dX7_bits_1 : decode cX7_bits 1 = .ok (.istore_n 1, 1) := by decide +kernel
theorem dX7_bits_2 : decode cX7_bits 2 = .ok (.iload_n 0, 1) := by decide +kernel
theorem dX7_bits_3 : decode cX7_bits 3 = .ok (.istore_n 2, 1) := by decide +kernel
theorem dX7_bits_4 : decode cX7_bits 4 = .ok (.iload_n 2, 1) := by decide +kernel
theorem dX7_bits_5 : decode cX7_bits 5 = .ok (.ifCond .eq 15, 3) := by decide +kernel
theorem dX7_bits_8 : decode cX7_bits 8 = .ok (.iinc 1 1, 3) := by decide +kernel
theorem dX7_bits_11 : decode cX7_bits 11 = .ok (.iload_n 2, 1) := by decide +kernel
theorem dX7_bits_12 : decode cX7_bits 12 = .ok (.iload_n 2, 1) := by decide +kernel
theorem dX7_bits_13 : decode cX7_bits 13 = .ok (.iconst 1, 1) := by decide +kernel
theorem dX7_bits_14 : decode cX7_bits 14 = .ok (.isub, 1) := by decide +kernel
theorem dX7_bits_15 : decode cX7_bits 15 = .ok (.iand, 1) := by decide +kernel
theorem dX7_bits_16 : decode cX7_bits 16 = .ok (.istore_n 2, 1) := by decide +kernel
theorem dX7_bits_17 : decode cX7_bits 17 = .ok (.goto (-13), 3) := by decide +kernel
theorem dX7_bits_20 : decode cX7_bits 20 = .ok (.iload_n 1, 1) := by decide +kernel
theorem dX7_bits_21 : decode cX7_bits 21 = .ok (.ireturn, 1) := by decide +kernel
theorem dX7_lack_0 : decode cX7_lack 0 = .ok (.aload_n 0, 1) := by decide +kernel
theorem dX7_lack_1 : decode cX7_lack 1 = .ok (.iconst 0, 1) := by decide +kernel
theorem dX7_lack_2 : decode cX7_lack 2 = .ok (.putfield 1, 3) := by decide +kernel
theorem dX7_lack_5 : decode cX7_lack 5 = .ok (.aload_n 0, 1) := by decide +kernel
theorem dX7_lack_6 : decode cX7_lack 6 = .ok (.iload_n 1, 1) := by decide +kernel
theorem dX7_lack_7 : decode cX7_lack 7 = .ok (.i2l, 1) := by decide +kernel
theorem dX7_lack_8 : decode cX7_lack 8 = .ok (.lconst 0, 1) := by decide +kernel
theorem dX7_lack_9 : decode cX7_lack 9 = .ok (.ldc2_w 350, 3) := by decide +kernel
theorem dX7_lack_12 : decode cX7_lack 12 = .ok (.invokestatic 352, 3) := by decide +kernel
theorem dX7_lack_15 : decode cX7_lack 15 = .ok (.iconst 1, 1) := by decide +kernel
theorem dX7_lack_16 : decode cX7_lack 16 = .ok (.iconst 1, 1) := by decide +kernel
theorem dX7_lack_17 : decode cX7_lack 17 = .ok (.invokevirtual 346, 3) := by decide +kernel
theorem dX7_lack_20 : decode cX7_lack 20 = .ok (.ifCond .eq 41, 3) := by decide +kernel
theorem dX7_lack_23 : decode cX7_lack 23 = .ok (.aload_n 0, 1) := by decide +kernel
theorem dX7_lack_24 : decode cX7_lack 24 = .ok (.aload_n 0, 1) := by decide +kernel
theorem dX7_lack_25 : decode cX7_lack 25 = .ok (.iload_n 1, 1) := by decide +kernel
theorem dX7_lack_26 : decode cX7_lack 26 = .ok (.invokevirtual 201, 3) := by decide +kernel
theorem dX7_lack_29 : decode cX7_lack 29 = .ok (.ifCond .ne 15, 3) := by decide +kernel
theorem dX7_lack_32 : decode cX7_lack 32 = .ok (.aload_n 0, 1) := by decide +kernel
theorem dX7_lack_33 : decode cX7_lack 33 = .ok (.iload_n 1, 1) := by decide +kernel
theorem dX7_lack_34 : decode cX7_lack 34 = .ok (.invokevirtual 205, 3) := by decide +kernel
theorem dX7_lack_37 : decode cX7_lack 37 = .ok (.ifCond .eq 7, 3) := by decide +kernel
theorem dX7_lack_40 : decode cX7_lack 40 = .ok (.iconst 1, 1) := by decide +kernel
theorem dX7_lack_41 : decode cX7_lack 41 = .ok (.goto 4, 3) := by decide +kernel
theorem dX7_lack_44 : decode cX7_lack 44 = .ok (.iconst 0, 1) := by decide +kernel
theorem dX7_lack_45 : decode cX7_lack 45 = .ok (.iconst 2, 1) := by decide +kernel
theorem dX7_lack_46 : decode cX7_lack 46 = .ok (.iconst 2, 1) := by decide +kernel
theorem dX7_lack_47 : decode cX7_lack 47 = .ok (.invokevirtual 346, 3) := by decide +kernel
theorem dX7_lack_50 : decode cX7_lack 50 = .ok (.ifCond .eq 11, 3) := by decide +kernel
theorem dX7_lack_53 : decode cX7_lack 53 = .ok (.aload_n 0, 1) := by decide +kernel
theorem dX7_lack_54 : decode cX7_lack 54 = .ok (.iconst 2, 1) := by decide +kernel
theorem dX7_lack_55 : decode cX7_lack 55 = .ok (.invokevirtual 365, 3) := by decide +kernel
theorem dX7_lack_58 : decode cX7_lack 58 = .ok (.ifCond .ne 5, 3) := by decide +kernel
theorem dX7_lack_61 : decode cX7_lack 61 = .ok (.iconst 0, 1) := by decide +kernel
theorem dX7_lack_62 : decode cX7_lack 62 = .ok (.ireturn, 1) := by decide +kernel
theorem dX7_lack_63 : decode cX7_lack 63 = .ok (.aload_n 0, 1) := by decide +kernel
theorem dX7_lack_64 : decode cX7_lack 64 = .ok (.iconst 2, 1) := by decide +kernel
theorem dX7_lack_65 : decode cX7_lack 65 = .ok (.iload_n 1, 1) := by decide +kernel
theorem dX7_lack_66 : decode cX7_lack 66 = .ok (.iconst 0, 1) := by decide +kernel
theorem dX7_lack_67 : decode cX7_lack 67 = .ok (.iconst 0, 1) := by decide +kernel
theorem dX7_lack_68 : decode cX7_lack 68 = .ok (.iconst 0, 1) := by decide +kernel
theorem dX7_lack_69 : decode cX7_lack 69 = .ok (.iconst (-1), 1) := by decide +kernel
theorem dX7_lack_70 : decode cX7_lack 70 = .ok (.invokevirtual 368, 3) := by decide +kernel
theorem dX7_lack_73 : decode cX7_lack 73 = .ok (.aload_n 0, 1) := by decide +kernel
theorem dX7_lack_74 : decode cX7_lack 74 = .ok (.aload_n 0, 1) := by decide +kernel
theorem dX7_lack_75 : decode cX7_lack 75 = .ok (.getfield 17, 3) := by decide +kernel
theorem dX7_lack_78 : decode cX7_lack 78 = .ok (.iconst 1, 1) := by decide +kernel
theorem dX7_lack_79 : decode cX7_lack 79 = .ok (.isub, 1) := by decide +kernel
theorem dX7_lack_80 : decode cX7_lack 80 = .ok (.invokevirtual 331, 3) := by decide +kernel
theorem dX7_lack_83 : decode cX7_lack 83 = .ok (.aload_n 0, 1) := by decide +kernel
theorem dX7_lack_84 : decode cX7_lack 84 = .ok (.getfield 149, 3) := by decide +kernel
theorem dX7_lack_87 : decode cX7_lack 87 = .ok (.invokestatic 379, 3) := by decide +kernel
theorem dX7_lack_90 : decode cX7_lack 90 = .ok (.ireturn, 1) := by decide +kernel
theorem dX7_areRules_0 : decode cX7_areRules 0 = .ok (.iload_n 0, 1) := by decide +kernel
theorem dX7_areRules_1 : decode cX7_areRules 1 = .ok (.i2l, 1) := by decide +kernel
theorem dX7_areRules_2 : decode cX7_areRules 2 = .ok (.lconst 0, 1) := by decide +kernel
theorem dX7_areRules_3 : decode cX7_areRules 3 = .ok (.ldc2_w 382, 3) := by decide +kernel
theorem dX7_areRules_6 : decode cX7_areRules 6 = .ok (.invokestatic 352, 3) := by decide +kernel
theorem dX7_areRules_9 : decode cX7_areRules 9 = .ok (.ifCond .eq 31, 3) := by decide +kernel
theorem dX7_areRules_12 : decode cX7_areRules 12 = .ok (.iload_n 1, 1) := by decide +kernel
theorem dX7_areRules_13 : decode cX7_areRules 13 = .ok (.i2l, 1) := by decide +kernel
theorem dX7_areRules_14 : decode cX7_areRules 14 = .ok (.lconst 0, 1) := by decide +kernel
theorem dX7_areRules_15 : decode cX7_areRules 15 = .ok (.ldc2_w 382, 3) := by decide +kernel
theorem dX7_areRules_18 : decode cX7_areRules 18 = .ok (.invokestatic 352, 3) := by decide +kernel
theorem dX7_areRules_21 : decode cX7_areRules 21 = .ok (.ifCond .eq 19, 3) := by decide +kernel
theorem dX7_areRules_24 : decode cX7_areRules 24 = .ok (.iload_n 2, 1) := by decide +kernel
theorem dX7_areRules_25 : decode cX7_areRules 25 = .ok (.i2l, 1) := by decide +kernel
theorem dX7_areRules_26 : decode cX7_areRules 26 = .ok (.lconst 0, 1) := by decide +kernel
theorem dX7_areRules_27 : decode cX7_areRules 27 = .ok (.ldc2_w 382, 3) := by decide +kernel
theorem dX7_areRules_30 : decode cX7_areRules 30 = .ok (.invokestatic 352, 3) := by decide +kernel
theorem dX7_areRules_33 : decode cX7_areRules 33 = .ok (.ifCond .eq 7, 3) := by decide +kernel
theorem dX7_areRules_36 : decode cX7_areRules 36 = .ok (.iconst 1, 1) := by decide +kernel
theorem dX7_areRules_37 : decode cX7_areRules 37 = .ok (.goto 4, 3) := by decide +kernel
theorem dX7_areRules_40 : decode cX7_areRules 40 = .ok (.iconst 0, 1) := by decide +kernel
theorem dX7_areRules_41 : decode cX7_areRules 41 = .ok (.ireturn, 1) := by decide +kernel
theorem dX7_rules_0 : decode cX7_rules 0 = .ok (.aload_n 0, 1) := by decide +kernel
theorem dX7_rules_1 : decode cX7_rules 1 = .ok (.iconst 0, 1) := by decide +kernel
theorem dX7_rules_2 : decode cX7_rules 2 = .ok (.putfield 1, 3) := by decide +kernel
theorem dX7_rules_5 : decode cX7_rules 5 = .ok (.aload_n 0, 1) := by decide +kernel
theorem dX7_rules_6 : decode cX7_rules 6 = .ok (.iload_n 1, 1) := by decide +kernel
theorem dX7_rules_7 : decode cX7_rules 7 = .ok (.iload_n 2, 1) := by decide +kernel
theorem dX7_rules_8 : decode cX7_rules 8 = .ok (.iload_n 3, 1) := by decide +kernel
theorem dX7_rules_9 : decode cX7_rules 9 = .ok (.invokestatic 384, 3) := by decide +kernel
theorem dX7_rules_12 : decode cX7_rules 12 = .ok (.iconst 1, 1) := by decide +kernel
theorem dX7_rules_13 : decode cX7_rules 13 = .ok (.iconst 1, 1) := by decide +kernel
theorem dX7_rules_14 : decode cX7_rules 14 = .ok (.invokevirtual 346, 3) := by decide +kernel
theorem dX7_rules_17 : decode cX7_rules 17 = .ok (.ifCond .ne 5, 3) := by decide +kernel
theorem dX7_rules_20 : decode cX7_rules 20 = .ok (.iconst 0, 1) := by decide +kernel
theorem dX7_rules_21 : decode cX7_rules 21 = .ok (.ireturn, 1) := by decide +kernel
theorem dX7_rules_22 : decode cX7_rules 22 = .ok (.iload_n 1, 1) := by decide +kernel
theorem dX7_rules_23 : decode cX7_rules 23 = .ok (.aload_n 0, 1) := by decide +kernel
theorem dX7_rules_24 : decode cX7_rules 24 = .ok (.getfield 152, 3) := by decide +kernel
theorem dX7_rules_27 : decode cX7_rules 27 = .ok (.if_icmp .ne 19, 3) := by decide +kernel
theorem dX7_rules_30 : decode cX7_rules 30 = .ok (.iload_n 2, 1) := by decide +kernel
theorem dX7_rules_31 : decode cX7_rules 31 = .ok (.aload_n 0, 1) := by decide +kernel
theorem dX7_rules_32 : decode cX7_rules 32 = .ok (.getfield 155, 3) := by decide +kernel
theorem dX7_rules_35 : decode cX7_rules 35 = .ok (.if_icmp .ne 11, 3) := by decide +kernel
theorem dX7_rules_38 : decode cX7_rules 38 = .ok (.iload_n 3, 1) := by decide +kernel
theorem dX7_rules_39 : decode cX7_rules 39 = .ok (.aload_n 0, 1) := by decide +kernel
theorem dX7_rules_40 : decode cX7_rules 40 = .ok (.getfield 158, 3) := by decide +kernel
theorem dX7_rules_43 : decode cX7_rules 43 = .ok (.if_icmp .eq 11, 3) := by decide +kernel
theorem dX7_rules_46 : decode cX7_rules 46 = .ok (.aload_n 0, 1) := by decide +kernel
theorem dX7_rules_47 : decode cX7_rules 47 = .ok (.iconst 2, 1) := by decide +kernel
theorem dX7_rules_48 : decode cX7_rules 48 = .ok (.invokevirtual 365, 3) := by decide +kernel
theorem dX7_rules_51 : decode cX7_rules 51 = .ok (.ifCond .ne 5, 3) := by decide +kernel
theorem dX7_rules_54 : decode cX7_rules 54 = .ok (.iconst 0, 1) := by decide +kernel
theorem dX7_rules_55 : decode cX7_rules 55 = .ok (.ireturn, 1) := by decide +kernel
theorem dX7_rules_56 : decode cX7_rules 56 = .ok (.aload_n 0, 1) := by decide +kernel
theorem dX7_rules_57 : decode cX7_rules 57 = .ok (.iconst 3, 1) := by decide +kernel
theorem dX7_rules_58 : decode cX7_rules 58 = .ok (.iload_n 1, 1) := by decide +kernel
theorem dX7_rules_59 : decode cX7_rules 59 = .ok (.iload_n 2, 1) := by decide +kernel
theorem dX7_rules_60 : decode cX7_rules 60 = .ok (.iload_n 3, 1) := by decide +kernel
theorem dX7_rules_61 : decode cX7_rules 61 = .ok (.iconst 0, 1) := by decide +kernel
theorem dX7_rules_62 : decode cX7_rules 62 = .ok (.iconst (-1), 1) := by decide +kernel
theorem dX7_rules_63 : decode cX7_rules 63 = .ok (.invokevirtual 368, 3) := by decide +kernel
theorem dX7_rules_66 : decode cX7_rules 66 = .ok (.aload_n 0, 1) := by decide +kernel
theorem dX7_rules_67 : decode cX7_rules 67 = .ok (.aload_n 0, 1) := by decide +kernel
theorem dX7_rules_68 : decode cX7_rules 68 = .ok (.getfield 17, 3) := by decide +kernel
theorem dX7_rules_71 : decode cX7_rules 71 = .ok (.iconst 1, 1) := by decide +kernel
theorem dX7_rules_72 : decode cX7_rules 72 = .ok (.isub, 1) := by decide +kernel
theorem dX7_rules_73 : decode cX7_rules 73 = .ok (.invokevirtual 331, 3) := by decide +kernel
theorem dX7_rules_76 : decode cX7_rules 76 = .ok (.iconst 1, 1) := by decide +kernel
theorem dX7_rules_77 : decode cX7_rules 77 = .ok (.ireturn, 1) := by decide +kernel
theorem dX7_areYears_0 : decode cX7_areYears 0 = .ok (.iload_n 0, 1) := by decide +kernel
theorem dX7_areYears_1 : decode cX7_areYears 1 = .ok (.ifCond .lt 23, 3) := by decide +kernel
theorem dX7_areYears_4 : decode cX7_areYears 4 = .ok (.iload_n 0, 1) := by decide +kernel
theorem dX7_areYears_5 : decode cX7_areYears 5 = .ok (.iload_n 1, 1) := by decide +kernel
theorem dX7_areYears_6 : decode cX7_areYears 6 = .ok (.if_icmp .gt 18, 3) := by decide +kernel
theorem dX7_areYears_9 : decode cX7_areYears 9 = .ok (.iload_n 1, 1) := by decide +kernel
theorem dX7_areYears_10 : decode cX7_areYears 10 = .ok (.iload_n 2, 1) := by decide +kernel
theorem dX7_areYears_11 : decode cX7_areYears 11 = .ok (.if_icmp .gt 13, 3) := by decide +kernel
theorem dX7_areYears_14 : decode cX7_areYears 14 = .ok (.iload_n 2, 1) := by decide +kernel
theorem dX7_areYears_15 : decode cX7_areYears 15 = .ok (.bipush 12, 2) := by decide +kernel
theorem dX7_areYears_17 : decode cX7_areYears 17 = .ok (.if_icmp .ge 7, 3) := by decide +kernel
theorem dX7_areYears_20 : decode cX7_areYears 20 = .ok (.iconst 1, 1) := by decide +kernel
theorem dX7_areYears_21 : decode cX7_areYears 21 = .ok (.goto 4, 3) := by decide +kernel
theorem dX7_areYears_24 : decode cX7_areYears 24 = .ok (.iconst 0, 1) := by decide +kernel
theorem dX7_areYears_25 : decode cX7_areYears 25 = .ok (.ireturn, 1) := by decide +kernel
theorem dX7_isLoss_0 : decode cX7_isLoss 0 = .ok (.iload_n 0, 1) := by decide +kernel
theorem dX7_isLoss_1 : decode cX7_isLoss 1 = .ok (.i2l, 1) := by decide +kernel
theorem dX7_isLoss_2 : decode cX7_isLoss 2 = .ok (.lconst 1, 1) := by decide +kernel
theorem dX7_isLoss_3 : decode cX7_isLoss 3 = .ok (.ldc2_w 387, 3) := by decide +kernel
theorem dX7_isLoss_6 : decode cX7_isLoss 6 = .ok (.invokestatic 352, 3) := by decide +kernel
theorem dX7_isLoss_9 : decode cX7_isLoss 9 = .ok (.ireturn, 1) := by decide +kernel
theorem dX7_harm_0 : decode cX7_harm 0 = .ok (.aload_n 0, 1) := by decide +kernel
theorem dX7_harm_1 : decode cX7_harm 1 = .ok (.iconst 0, 1) := by decide +kernel
theorem dX7_harm_2 : decode cX7_harm 2 = .ok (.putfield 1, 3) := by decide +kernel
theorem dX7_harm_5 : decode cX7_harm 5 = .ok (.aload_n 0, 1) := by decide +kernel
theorem dX7_harm_6 : decode cX7_harm 6 = .ok (.iload_n 1, 1) := by decide +kernel
theorem dX7_harm_7 : decode cX7_harm 7 = .ok (.iload_n 2, 1) := by decide +kernel
theorem dX7_harm_8 : decode cX7_harm 8 = .ok (.iload_n 3, 1) := by decide +kernel
theorem dX7_harm_9 : decode cX7_harm 9 = .ok (.invokestatic 389, 3) := by decide +kernel
theorem dX7_harm_12 : decode cX7_harm 12 = .ok (.ifCond .eq 15, 3) := by decide +kernel
theorem dX7_harm_15 : decode cX7_harm 15 = .ok (.iload 4, 2) := by decide +kernel
theorem dX7_harm_17 : decode cX7_harm 17 = .ok (.invokestatic 392, 3) := by decide +kernel
theorem dX7_harm_20 : decode cX7_harm 20 = .ok (.ifCond .eq 7, 3) := by decide +kernel
theorem dX7_harm_23 : decode cX7_harm 23 = .ok (.iconst 1, 1) := by decide +kernel
theorem dX7_harm_24 : decode cX7_harm 24 = .ok (.goto 4, 3) := by decide +kernel
theorem dX7_harm_27 : decode cX7_harm 27 = .ok (.iconst 0, 1) := by decide +kernel
theorem dX7_harm_28 : decode cX7_harm 28 = .ok (.iconst 1, 1) := by decide +kernel
theorem dX7_harm_29 : decode cX7_harm 29 = .ok (.iconst 1, 1) := by decide +kernel
theorem dX7_harm_30 : decode cX7_harm 30 = .ok (.invokevirtual 346, 3) := by decide +kernel
theorem dX7_harm_33 : decode cX7_harm 33 = .ok (.ifCond .eq 35, 3) := by decide +kernel
theorem dX7_harm_36 : decode cX7_harm 36 = .ok (.aload_n 0, 1) := by decide +kernel
theorem dX7_harm_37 : decode cX7_harm 37 = .ok (.aload_n 0, 1) := by decide +kernel
theorem dX7_harm_38 : decode cX7_harm 38 = .ok (.iconst 4, 1) := by decide +kernel
theorem dX7_harm_39 : decode cX7_harm 39 = .ok (.invokevirtual 362, 3) := by decide +kernel
theorem dX7_harm_42 : decode cX7_harm 42 = .ok (.bipush 24, 2) := by decide +kernel
theorem dX7_harm_44 : decode cX7_harm 44 = .ok (.if_icmp .ge 7, 3) := by decide +kernel
theorem dX7_harm_47 : decode cX7_harm 47 = .ok (.iconst 1, 1) := by decide +kernel
theorem dX7_harm_48 : decode cX7_harm 48 = .ok (.goto 4, 3) := by decide +kernel
theorem dX7_harm_51 : decode cX7_harm 51 = .ok (.iconst 0, 1) := by decide +kernel
theorem dX7_harm_52 : decode cX7_harm 52 = .ok (.iconst 2, 1) := by decide +kernel
theorem dX7_harm_53 : decode cX7_harm 53 = .ok (.iconst 2, 1) := by decide +kernel
theorem dX7_harm_54 : decode cX7_harm 54 = .ok (.invokevirtual 346, 3) := by decide +kernel
theorem dX7_harm_57 : decode cX7_harm 57 = .ok (.ifCond .eq 11, 3) := by decide +kernel
theorem dX7_harm_60 : decode cX7_harm 60 = .ok (.aload_n 0, 1) := by decide +kernel
theorem dX7_harm_61 : decode cX7_harm 61 = .ok (.iconst 2, 1) := by decide +kernel
theorem dX7_harm_62 : decode cX7_harm 62 = .ok (.invokevirtual 365, 3) := by decide +kernel
theorem dX7_harm_65 : decode cX7_harm 65 = .ok (.ifCond .ne 5, 3) := by decide +kernel
theorem dX7_harm_68 : decode cX7_harm 68 = .ok (.iconst 0, 1) := by decide +kernel
theorem dX7_harm_69 : decode cX7_harm 69 = .ok (.ireturn, 1) := by decide +kernel
theorem dX7_harm_70 : decode cX7_harm 70 = .ok (.aload_n 0, 1) := by decide +kernel
theorem dX7_harm_71 : decode cX7_harm 71 = .ok (.iconst 4, 1) := by decide +kernel
theorem dX7_harm_72 : decode cX7_harm 72 = .ok (.invokevirtual 362, 3) := by decide +kernel
theorem dX7_harm_75 : decode cX7_harm 75 = .ok (.istore 5, 2) := by decide +kernel
theorem dX7_harm_77 : decode cX7_harm 77 = .ok (.aload_n 0, 1) := by decide +kernel
theorem dX7_harm_78 : decode cX7_harm 78 = .ok (.iconst 4, 1) := by decide +kernel
theorem dX7_harm_79 : decode cX7_harm 79 = .ok (.iload_n 1, 1) := by decide +kernel
theorem dX7_harm_80 : decode cX7_harm 80 = .ok (.iload_n 2, 1) := by decide +kernel
theorem dX7_harm_81 : decode cX7_harm 81 = .ok (.iload_n 3, 1) := by decide +kernel
theorem dX7_harm_82 : decode cX7_harm 82 = .ok (.iload 4, 2) := by decide +kernel
theorem dX7_harm_84 : decode cX7_harm 84 = .ok (.iload 5, 2) := by decide +kernel
theorem dX7_harm_86 : decode cX7_harm 86 = .ok (.invokevirtual 368, 3) := by decide +kernel
theorem dX7_harm_89 : decode cX7_harm 89 = .ok (.aload_n 0, 1) := by decide +kernel
theorem dX7_harm_90 : decode cX7_harm 90 = .ok (.aload_n 0, 1) := by decide +kernel
theorem dX7_harm_91 : decode cX7_harm 91 = .ok (.getfield 17, 3) := by decide +kernel
theorem dX7_harm_94 : decode cX7_harm 94 = .ok (.iconst 1, 1) := by decide +kernel
theorem dX7_harm_95 : decode cX7_harm 95 = .ok (.isub, 1) := by decide +kernel
theorem dX7_harm_96 : decode cX7_harm 96 = .ok (.invokevirtual 331, 3) := by decide +kernel
theorem dX7_harm_99 : decode cX7_harm 99 = .ok (.iload 5, 2) := by decide +kernel
theorem dX7_harm_101 : decode cX7_harm 101 = .ok (.ireturn, 1) := by decide +kernel
theorem dX7_isHarmOne_0 : decode cX7_isHarmOne 0 = .ok (.aload_n 0, 1) := by decide +kernel
theorem dX7_isHarmOne_1 : decode cX7_isHarmOne 1 = .ok (.iload_n 1, 1) := by decide +kernel
theorem dX7_isHarmOne_2 : decode cX7_isHarmOne 2 = .ok (.i2l, 1) := by decide +kernel
theorem dX7_isHarmOne_3 : decode cX7_isHarmOne 3 = .ok (.lconst 0, 1) := by decide +kernel
theorem dX7_isHarmOne_4 : decode cX7_isHarmOne 4 = .ok (.ldc2_w 395, 3) := by decide +kernel
theorem dX7_isHarmOne_7 : decode cX7_isHarmOne 7 = .ok (.invokestatic 352, 3) := by decide +kernel
theorem dX7_isHarmOne_10 : decode cX7_isHarmOne 10 = .ok (.ifCond .eq 16, 3) := by decide +kernel
theorem dX7_isHarmOne_13 : decode cX7_isHarmOne 13 = .ok (.aload_n 0, 1) := by decide +kernel
theorem dX7_isHarmOne_14 : decode cX7_isHarmOne 14 = .ok (.getfield 33, 3) := by decide +kernel
theorem dX7_isHarmOne_17 : decode cX7_isHarmOne 17 = .ok (.iload_n 1, 1) := by decide +kernel
theorem dX7_isHarmOne_18 : decode cX7_isHarmOne 18 = .ok (.baload, 1) := by decide +kernel
theorem dX7_isHarmOne_19 : decode cX7_isHarmOne 19 = .ok (.ifCond .eq 7, 3) := by decide +kernel
theorem dX7_isHarmOne_22 : decode cX7_isHarmOne 22 = .ok (.iconst 1, 1) := by decide +kernel
theorem dX7_isHarmOne_23 : decode cX7_isHarmOne 23 = .ok (.goto 4, 3) := by decide +kernel
theorem dX7_isHarmOne_26 : decode cX7_isHarmOne 26 = .ok (.iconst 0, 1) := by decide +kernel
theorem dX7_isHarmOne_27 : decode cX7_isHarmOne 27 = .ok (.iconst 1, 1) := by decide +kernel
theorem dX7_isHarmOne_28 : decode cX7_isHarmOne 28 = .ok (.iconst 0, 1) := by decide +kernel
theorem dX7_isHarmOne_29 : decode cX7_isHarmOne 29 = .ok (.invokevirtual 346, 3) := by decide +kernel
theorem dX7_isHarmOne_32 : decode cX7_isHarmOne 32 = .ok (.ireturn, 1) := by decide +kernel
theorem dX7_grow_0 : decode cX7_grow 0 = .ok (.aload_n 0, 1) := by decide +kernel
theorem dX7_grow_1 : decode cX7_grow 1 = .ok (.iconst 0, 1) := by decide +kernel
theorem dX7_grow_2 : decode cX7_grow 2 = .ok (.putfield 1, 3) := by decide +kernel
theorem dX7_grow_5 : decode cX7_grow 5 = .ok (.aload_n 0, 1) := by decide +kernel
theorem dX7_grow_6 : decode cX7_grow 6 = .ok (.iload_n 1, 1) := by decide +kernel
theorem dX7_grow_7 : decode cX7_grow 7 = .ok (.invokevirtual 397, 3) := by decide +kernel
theorem dX7_grow_10 : decode cX7_grow 10 = .ok (.ifCond .eq 24, 3) := by decide +kernel
theorem dX7_grow_13 : decode cX7_grow 13 = .ok (.aload_n 0, 1) := by decide +kernel
theorem dX7_grow_14 : decode cX7_grow 14 = .ok (.iload_n 2, 1) := by decide +kernel
theorem dX7_grow_15 : decode cX7_grow 15 = .ok (.invokestatic 392, 3) := by decide +kernel
theorem dX7_grow_18 : decode cX7_grow 18 = .ok (.iconst 2, 1) := by decide +kernel
theorem dX7_grow_19 : decode cX7_grow 19 = .ok (.iconst 1, 1) := by decide +kernel
theorem dX7_grow_20 : decode cX7_grow 20 = .ok (.invokevirtual 346, 3) := by decide +kernel
theorem dX7_grow_23 : decode cX7_grow 23 = .ok (.ifCond .eq 11, 3) := by decide +kernel
theorem dX7_grow_26 : decode cX7_grow 26 = .ok (.aload_n 0, 1) := by decide +kernel
theorem dX7_grow_27 : decode cX7_grow 27 = .ok (.iconst 3, 1) := by decide +kernel
theorem dX7_grow_28 : decode cX7_grow 28 = .ok (.invokevirtual 365, 3) := by decide +kernel
theorem dX7_grow_31 : decode cX7_grow 31 = .ok (.ifCond .ne 5, 3) := by decide +kernel
theorem dX7_grow_34 : decode cX7_grow 34 = .ok (.lconst 0, 1) := by decide +kernel
theorem dX7_grow_35 : decode cX7_grow 35 = .ok (.lreturn, 1) := by decide +kernel
theorem dX7_grow_36 : decode cX7_grow 36 = .ok (.aload_n 0, 1) := by decide +kernel
theorem dX7_grow_37 : decode cX7_grow 37 = .ok (.iload_n 1, 1) := by decide +kernel
theorem dX7_grow_38 : decode cX7_grow 38 = .ok (.invokevirtual 277, 3) := by decide +kernel
theorem dX7_grow_41 : decode cX7_grow 41 = .ok (.lstore_n 3, 1) := by decide +kernel
theorem dX7_grow_42 : decode cX7_grow 42 = .ok (.aload_n 0, 1) := by decide +kernel
theorem dX7_grow_43 : decode cX7_grow 43 = .ok (.iconst 5, 1) := by decide +kernel
theorem dX7_grow_44 : decode cX7_grow 44 = .ok (.iload_n 1, 1) := by decide +kernel
theorem dX7_grow_45 : decode cX7_grow 45 = .ok (.iload_n 2, 1) := by decide +kernel
theorem dX7_grow_46 : decode cX7_grow 46 = .ok (.iconst 0, 1) := by decide +kernel
theorem dX7_grow_47 : decode cX7_grow 47 = .ok (.iconst 0, 1) := by decide +kernel
theorem dX7_grow_48 : decode cX7_grow 48 = .ok (.iconst (-1), 1) := by decide +kernel
theorem dX7_grow_49 : decode cX7_grow 49 = .ok (.invokevirtual 368, 3) := by decide +kernel
theorem dX7_grow_52 : decode cX7_grow 52 = .ok (.aload_n 0, 1) := by decide +kernel
theorem dX7_grow_53 : decode cX7_grow 53 = .ok (.aload_n 0, 1) := by decide +kernel
theorem dX7_grow_54 : decode cX7_grow 54 = .ok (.getfield 17, 3) := by decide +kernel
theorem dX7_grow_57 : decode cX7_grow 57 = .ok (.iconst 1, 1) := by decide +kernel
theorem dX7_grow_58 : decode cX7_grow 58 = .ok (.isub, 1) := by decide +kernel
theorem dX7_grow_59 : decode cX7_grow 59 = .ok (.invokevirtual 331, 3) := by decide +kernel
theorem dX7_grow_62 : decode cX7_grow 62 = .ok (.aload_n 0, 1) := by decide +kernel
theorem dX7_grow_63 : decode cX7_grow 63 = .ok (.iload_n 1, 1) := by decide +kernel
theorem dX7_grow_64 : decode cX7_grow 64 = .ok (.invokevirtual 277, 3) := by decide +kernel
theorem dX7_grow_67 : decode cX7_grow 67 = .ok (.lload_n 3, 1) := by decide +kernel
theorem dX7_grow_68 : decode cX7_grow 68 = .ok (.lsub, 1) := by decide +kernel
theorem dX7_grow_69 : decode cX7_grow 69 = .ok (.lreturn, 1) := by decide +kernel
theorem dX7_reopen_0 : decode cX7_reopen 0 = .ok (.aload_n 0, 1) := by decide +kernel
theorem dX7_reopen_1 : decode cX7_reopen 1 = .ok (.iconst 0, 1) := by decide +kernel
theorem dX7_reopen_2 : decode cX7_reopen 2 = .ok (.putfield 1, 3) := by decide +kernel
theorem dX7_reopen_5 : decode cX7_reopen 5 = .ok (.aload_n 0, 1) := by decide +kernel
theorem dX7_reopen_6 : decode cX7_reopen 6 = .ok (.iload_n 1, 1) := by decide +kernel
theorem dX7_reopen_7 : decode cX7_reopen 7 = .ok (.invokevirtual 397, 3) := by decide +kernel
theorem dX7_reopen_10 : decode cX7_reopen 10 = .ok (.ifCond .eq 11, 3) := by decide +kernel
theorem dX7_reopen_13 : decode cX7_reopen 13 = .ok (.aload_n 0, 1) := by decide +kernel
theorem dX7_reopen_14 : decode cX7_reopen 14 = .ok (.iconst 2, 1) := by decide +kernel
theorem dX7_reopen_15 : decode cX7_reopen 15 = .ok (.invokevirtual 365, 3) := by decide +kernel
theorem dX7_reopen_18 : decode cX7_reopen 18 = .ok (.ifCond .ne 5, 3) := by decide +kernel
theorem dX7_reopen_21 : decode cX7_reopen 21 = .ok (.lconst 0, 1) := by decide +kernel
theorem dX7_reopen_22 : decode cX7_reopen 22 = .ok (.lreturn, 1) := by decide +kernel
theorem dX7_reopen_23 : decode cX7_reopen 23 = .ok (.aload_n 0, 1) := by decide +kernel
theorem dX7_reopen_24 : decode cX7_reopen 24 = .ok (.iload_n 1, 1) := by decide +kernel
theorem dX7_reopen_25 : decode cX7_reopen 25 = .ok (.invokevirtual 277, 3) := by decide +kernel
theorem dX7_reopen_28 : decode cX7_reopen 28 = .ok (.lstore_n 2, 1) := by decide +kernel
theorem dX7_reopen_29 : decode cX7_reopen 29 = .ok (.aload_n 0, 1) := by decide +kernel
theorem dX7_reopen_30 : decode cX7_reopen 30 = .ok (.bipush 8, 2) := by decide +kernel
theorem dX7_reopen_32 : decode cX7_reopen 32 = .ok (.iload_n 1, 1) := by decide +kernel
theorem dX7_reopen_33 : decode cX7_reopen 33 = .ok (.iconst 0, 1) := by decide +kernel
theorem dX7_reopen_34 : decode cX7_reopen 34 = .ok (.iconst 0, 1) := by decide +kernel
theorem dX7_reopen_35 : decode cX7_reopen 35 = .ok (.iconst 0, 1) := by decide +kernel
theorem dX7_reopen_36 : decode cX7_reopen 36 = .ok (.iconst (-1), 1) := by decide +kernel
theorem dX7_reopen_37 : decode cX7_reopen 37 = .ok (.invokevirtual 368, 3) := by decide +kernel
theorem dX7_reopen_40 : decode cX7_reopen 40 = .ok (.aload_n 0, 1) := by decide +kernel
theorem dX7_reopen_41 : decode cX7_reopen 41 = .ok (.aload_n 0, 1) := by decide +kernel
theorem dX7_reopen_42 : decode cX7_reopen 42 = .ok (.getfield 17, 3) := by decide +kernel
theorem dX7_reopen_45 : decode cX7_reopen 45 = .ok (.iconst 1, 1) := by decide +kernel
theorem dX7_reopen_46 : decode cX7_reopen 46 = .ok (.isub, 1) := by decide +kernel
theorem dX7_reopen_47 : decode cX7_reopen 47 = .ok (.invokevirtual 331, 3) := by decide +kernel
theorem dX7_reopen_50 : decode cX7_reopen 50 = .ok (.aload_n 0, 1) := by decide +kernel
theorem dX7_reopen_51 : decode cX7_reopen 51 = .ok (.iload_n 1, 1) := by decide +kernel
theorem dX7_reopen_52 : decode cX7_reopen 52 = .ok (.invokevirtual 277, 3) := by decide +kernel
theorem dX7_reopen_55 : decode cX7_reopen 55 = .ok (.lload_n 2, 1) := by decide +kernel
theorem dX7_reopen_56 : decode cX7_reopen 56 = .ok (.lsub, 1) := by decide +kernel
theorem dX7_reopen_57 : decode cX7_reopen 57 = .ok (.lreturn, 1) := by decide +kernel
theorem dX7_standing_0 : decode cX7_standing 0 = .ok (.iconst 0, 1) := by decide +kernel
theorem dX7_standing_1 : decode cX7_standing 1 = .ok (.istore_n 2, 1) := by decide +kernel
theorem dX7_standing_2 : decode cX7_standing 2 = .ok (.iconst 1, 1) := by decide +kernel
theorem dX7_standing_3 : decode cX7_standing 3 = .ok (.istore_n 3, 1) := by decide +kernel
theorem dX7_standing_4 : decode cX7_standing 4 = .ok (.iload_n 3, 1) := by decide +kernel
theorem dX7_standing_5 : decode cX7_standing 5 = .ok (.bipush 10, 2) := by decide +kernel
theorem dX7_standing_7 : decode cX7_standing 7 = .ok (.if_icmp .ge 27, 3) := by decide +kernel
theorem dX7_standing_10 : decode cX7_standing 10 = .ok (.iload_n 2, 1) := by decide +kernel
theorem dX7_standing_11 : decode cX7_standing 11 = .ok (.aload_n 0, 1) := by decide +kernel
theorem dX7_standing_12 : decode cX7_standing 12 = .ok (.getfield 94, 3) := by decide +kernel
theorem dX7_standing_15 : decode cX7_standing 15 = .ok (.iload_n 3, 1) := by decide +kernel
theorem dX7_standing_16 : decode cX7_standing 16 = .ok (.iaload, 1) := by decide +kernel
theorem dX7_standing_17 : decode cX7_standing 17 = .ok (.iload_n 1, 1) := by decide +kernel
theorem dX7_standing_18 : decode cX7_standing 18 = .ok (.if_icmp .ne 7, 3) := by decide +kernel
theorem dX7_standing_21 : decode cX7_standing 21 = .ok (.iconst 1, 1) := by decide +kernel
theorem dX7_standing_22 : decode cX7_standing 22 = .ok (.goto 4, 3) := by decide +kernel
theorem dX7_standing_25 : decode cX7_standing 25 = .ok (.iconst 0, 1) := by decide +kernel
theorem dX7_standing_26 : decode cX7_standing 26 = .ok (.iadd, 1) := by decide +kernel
theorem dX7_standing_27 : decode cX7_standing 27 = .ok (.istore_n 2, 1) := by decide +kernel
theorem dX7_standing_28 : decode cX7_standing 28 = .ok (.iinc 3 1, 3) := by decide +kernel
theorem dX7_standing_31 : decode cX7_standing 31 = .ok (.goto (-27), 3) := by decide +kernel
theorem dX7_standing_34 : decode cX7_standing 34 = .ok (.iload_n 2, 1) := by decide +kernel
theorem dX7_standing_35 : decode cX7_standing 35 = .ok (.ireturn, 1) := by decide +kernel
theorem dX7_settle_0 : decode cX7_settle 0 = .ok (.aload_n 0, 1) := by decide +kernel
theorem dX7_settle_1 : decode cX7_settle 1 = .ok (.iconst 0, 1) := by decide +kernel
theorem dX7_settle_2 : decode cX7_settle 2 = .ok (.putfield 1, 3) := by decide +kernel
theorem dX7_settle_5 : decode cX7_settle 5 = .ok (.aload_n 0, 1) := by decide +kernel
theorem dX7_settle_6 : decode cX7_settle 6 = .ok (.iload_n 1, 1) := by decide +kernel
theorem dX7_settle_7 : decode cX7_settle 7 = .ok (.i2l, 1) := by decide +kernel
theorem dX7_settle_8 : decode cX7_settle 8 = .ok (.lconst 1, 1) := by decide +kernel
theorem dX7_settle_9 : decode cX7_settle 9 = .ok (.ldc2_w 377, 3) := by decide +kernel
theorem dX7_settle_12 : decode cX7_settle 12 = .ok (.invokestatic 352, 3) := by decide +kernel
theorem dX7_settle_15 : decode cX7_settle 15 = .ok (.ifCond .eq 19, 3) := by decide +kernel
theorem dX7_settle_18 : decode cX7_settle 18 = .ok (.iload_n 2, 1) := by decide +kernel
theorem dX7_settle_19 : decode cX7_settle 19 = .ok (.i2l, 1) := by decide +kernel
theorem dX7_settle_20 : decode cX7_settle 20 = .ok (.lconst 0, 1) := by decide +kernel
theorem dX7_settle_21 : decode cX7_settle 21 = .ok (.ldc2_w 387, 3) := by decide +kernel
theorem dX7_settle_24 : decode cX7_settle 24 = .ok (.invokestatic 352, 3) := by decide +kernel
theorem dX7_settle_27 : decode cX7_settle 27 = .ok (.ifCond .eq 7, 3) := by decide +kernel
theorem dX7_settle_30 : decode cX7_settle 30 = .ok (.iconst 1, 1) := by decide +kernel
theorem dX7_settle_31 : decode cX7_settle 31 = .ok (.goto 4, 3) := by decide +kernel
theorem dX7_settle_34 : decode cX7_settle 34 = .ok (.iconst 0, 1) := by decide +kernel
theorem dX7_settle_35 : decode cX7_settle 35 = .ok (.iconst 1, 1) := by decide +kernel
theorem dX7_settle_36 : decode cX7_settle 36 = .ok (.iconst 1, 1) := by decide +kernel
theorem dX7_settle_37 : decode cX7_settle 37 = .ok (.invokevirtual 346, 3) := by decide +kernel
theorem dX7_settle_40 : decode cX7_settle 40 = .ok (.ifCond .eq 34, 3) := by decide +kernel
theorem dX7_settle_43 : decode cX7_settle 43 = .ok (.aload_n 0, 1) := by decide +kernel
theorem dX7_settle_44 : decode cX7_settle 44 = .ok (.aload_n 0, 1) := by decide +kernel
theorem dX7_settle_45 : decode cX7_settle 45 = .ok (.getfield 94, 3) := by decide +kernel
theorem dX7_settle_48 : decode cX7_settle 48 = .ok (.iload_n 1, 1) := by decide +kernel
theorem dX7_settle_49 : decode cX7_settle 49 = .ok (.iaload, 1) := by decide +kernel
theorem dX7_settle_50 : decode cX7_settle 50 = .ok (.ifCond .ne 7, 3) := by decide +kernel
theorem dX7_settle_53 : decode cX7_settle 53 = .ok (.iconst 1, 1) := by decide +kernel
theorem dX7_settle_54 : decode cX7_settle 54 = .ok (.goto 4, 3) := by decide +kernel
theorem dX7_settle_57 : decode cX7_settle 57 = .ok (.iconst 0, 1) := by decide +kernel
theorem dX7_settle_58 : decode cX7_settle 58 = .ok (.iconst 2, 1) := by decide +kernel
theorem dX7_settle_59 : decode cX7_settle 59 = .ok (.iconst 2, 1) := by decide +kernel
theorem dX7_settle_60 : decode cX7_settle 60 = .ok (.invokevirtual 346, 3) := by decide +kernel
theorem dX7_settle_63 : decode cX7_settle 63 = .ok (.ifCond .eq 11, 3) := by decide +kernel
theorem dX7_settle_66 : decode cX7_settle 66 = .ok (.aload_n 0, 1) := by decide +kernel
theorem dX7_settle_67 : decode cX7_settle 67 = .ok (.iconst 2, 1) := by decide +kernel
theorem dX7_settle_68 : decode cX7_settle 68 = .ok (.invokevirtual 365, 3) := by decide +kernel
theorem dX7_settle_71 : decode cX7_settle 71 = .ok (.ifCond .ne 5, 3) := by decide +kernel
theorem dX7_settle_74 : decode cX7_settle 74 = .ok (.iconst 0, 1) := by decide +kernel
theorem dX7_settle_75 : decode cX7_settle 75 = .ok (.ireturn, 1) := by decide +kernel
theorem dX7_settle_76 : decode cX7_settle 76 = .ok (.aload_n 0, 1) := by decide +kernel
theorem dX7_settle_77 : decode cX7_settle 77 = .ok (.bipush 6, 2) := by decide +kernel
theorem dX7_settle_79 : decode cX7_settle 79 = .ok (.iload_n 1, 1) := by decide +kernel
theorem dX7_settle_80 : decode cX7_settle 80 = .ok (.iload_n 2, 1) := by decide +kernel
theorem dX7_settle_81 : decode cX7_settle 81 = .ok (.iconst 0, 1) := by decide +kernel
theorem dX7_settle_82 : decode cX7_settle 82 = .ok (.iconst 0, 1) := by decide +kernel
theorem dX7_settle_83 : decode cX7_settle 83 = .ok (.iconst (-1), 1) := by decide +kernel
theorem dX7_settle_84 : decode cX7_settle 84 = .ok (.invokevirtual 368, 3) := by decide +kernel
theorem dX7_settle_87 : decode cX7_settle 87 = .ok (.aload_n 0, 1) := by decide +kernel
theorem dX7_settle_88 : decode cX7_settle 88 = .ok (.aload_n 0, 1) := by decide +kernel
theorem dX7_settle_89 : decode cX7_settle 89 = .ok (.getfield 17, 3) := by decide +kernel
theorem dX7_settle_92 : decode cX7_settle 92 = .ok (.iconst 1, 1) := by decide +kernel
theorem dX7_settle_93 : decode cX7_settle 93 = .ok (.isub, 1) := by decide +kernel
theorem dX7_settle_94 : decode cX7_settle 94 = .ok (.invokevirtual 331, 3) := by decide +kernel
theorem dX7_settle_97 : decode cX7_settle 97 = .ok (.aload_n 0, 1) := by decide +kernel
theorem dX7_settle_98 : decode cX7_settle 98 = .ok (.iconst 1, 1) := by decide +kernel
theorem dX7_settle_99 : decode cX7_settle 99 = .ok (.invokevirtual 400, 3) := by decide +kernel
theorem dX7_settle_102 : decode cX7_settle 102 = .ok (.ireturn, 1) := by decide +kernel
theorem dX7_fall_0 : decode cX7_fall 0 = .ok (.aload_n 0, 1) := by decide +kernel
theorem dX7_fall_1 : decode cX7_fall 1 = .ok (.iconst 0, 1) := by decide +kernel
theorem dX7_fall_2 : decode cX7_fall 2 = .ok (.putfield 1, 3) := by decide +kernel
theorem dX7_fall_5 : decode cX7_fall 5 = .ok (.aload_n 0, 1) := by decide +kernel
theorem dX7_fall_6 : decode cX7_fall 6 = .ok (.iload_n 1, 1) := by decide +kernel
theorem dX7_fall_7 : decode cX7_fall 7 = .ok (.i2l, 1) := by decide +kernel
theorem dX7_fall_8 : decode cX7_fall 8 = .ok (.lconst 1, 1) := by decide +kernel
theorem dX7_fall_9 : decode cX7_fall 9 = .ok (.ldc2_w 377, 3) := by decide +kernel
theorem dX7_fall_12 : decode cX7_fall 12 = .ok (.invokestatic 352, 3) := by decide +kernel
theorem dX7_fall_15 : decode cX7_fall 15 = .ok (.iconst 1, 1) := by decide +kernel
theorem dX7_fall_16 : decode cX7_fall 16 = .ok (.iconst 1, 1) := by decide +kernel
theorem dX7_fall_17 : decode cX7_fall 17 = .ok (.invokevirtual 346, 3) := by decide +kernel
theorem dX7_fall_20 : decode cX7_fall 20 = .ok (.ifCond .eq 34, 3) := by decide +kernel
theorem dX7_fall_23 : decode cX7_fall 23 = .ok (.aload_n 0, 1) := by decide +kernel
theorem dX7_fall_24 : decode cX7_fall 24 = .ok (.aload_n 0, 1) := by decide +kernel
theorem dX7_fall_25 : decode cX7_fall 25 = .ok (.getfield 94, 3) := by decide +kernel
theorem dX7_fall_28 : decode cX7_fall 28 = .ok (.iload_n 1, 1) := by decide +kernel
theorem dX7_fall_29 : decode cX7_fall 29 = .ok (.iaload, 1) := by decide +kernel
theorem dX7_fall_30 : decode cX7_fall 30 = .ok (.ifCond .ne 7, 3) := by decide +kernel
theorem dX7_fall_33 : decode cX7_fall 33 = .ok (.iconst 1, 1) := by decide +kernel
theorem dX7_fall_34 : decode cX7_fall 34 = .ok (.goto 4, 3) := by decide +kernel
theorem dX7_fall_37 : decode cX7_fall 37 = .ok (.iconst 0, 1) := by decide +kernel
theorem dX7_fall_38 : decode cX7_fall 38 = .ok (.iconst 2, 1) := by decide +kernel
theorem dX7_fall_39 : decode cX7_fall 39 = .ok (.iconst 2, 1) := by decide +kernel
theorem dX7_fall_40 : decode cX7_fall 40 = .ok (.invokevirtual 346, 3) := by decide +kernel
theorem dX7_fall_43 : decode cX7_fall 43 = .ok (.ifCond .eq 11, 3) := by decide +kernel
theorem dX7_fall_46 : decode cX7_fall 46 = .ok (.aload_n 0, 1) := by decide +kernel
theorem dX7_fall_47 : decode cX7_fall 47 = .ok (.iconst 2, 1) := by decide +kernel
theorem dX7_fall_48 : decode cX7_fall 48 = .ok (.invokevirtual 365, 3) := by decide +kernel
theorem dX7_fall_51 : decode cX7_fall 51 = .ok (.ifCond .ne 5, 3) := by decide +kernel
theorem dX7_fall_54 : decode cX7_fall 54 = .ok (.iconst 0, 1) := by decide +kernel
theorem dX7_fall_55 : decode cX7_fall 55 = .ok (.ireturn, 1) := by decide +kernel
theorem dX7_fall_56 : decode cX7_fall 56 = .ok (.aload_n 0, 1) := by decide +kernel
theorem dX7_fall_57 : decode cX7_fall 57 = .ok (.bipush 7, 2) := by decide +kernel
theorem dX7_fall_59 : decode cX7_fall 59 = .ok (.iload_n 1, 1) := by decide +kernel
theorem dX7_fall_60 : decode cX7_fall 60 = .ok (.iconst 0, 1) := by decide +kernel
theorem dX7_fall_61 : decode cX7_fall 61 = .ok (.iconst 0, 1) := by decide +kernel
theorem dX7_fall_62 : decode cX7_fall 62 = .ok (.iconst 0, 1) := by decide +kernel
theorem dX7_fall_63 : decode cX7_fall 63 = .ok (.iconst (-1), 1) := by decide +kernel
theorem dX7_fall_64 : decode cX7_fall 64 = .ok (.invokevirtual 368, 3) := by decide +kernel
theorem dX7_fall_67 : decode cX7_fall 67 = .ok (.aload_n 0, 1) := by decide +kernel
theorem dX7_fall_68 : decode cX7_fall 68 = .ok (.aload_n 0, 1) := by decide +kernel
theorem dX7_fall_69 : decode cX7_fall 69 = .ok (.getfield 17, 3) := by decide +kernel
theorem dX7_fall_72 : decode cX7_fall 72 = .ok (.iconst 1, 1) := by decide +kernel
theorem dX7_fall_73 : decode cX7_fall 73 = .ok (.isub, 1) := by decide +kernel
theorem dX7_fall_74 : decode cX7_fall 74 = .ok (.invokevirtual 331, 3) := by decide +kernel
theorem dX7_fall_77 : decode cX7_fall 77 = .ok (.aload_n 0, 1) := by decide +kernel
theorem dX7_fall_78 : decode cX7_fall 78 = .ok (.iconst 2, 1) := by decide +kernel
theorem dX7_fall_79 : decode cX7_fall 79 = .ok (.invokevirtual 400, 3) := by decide +kernel
theorem dX7_fall_82 : decode cX7_fall 82 = .ok (.ireturn, 1) := by decide +kernel
theorem dX7_back_0 : decode cX7_back 0 = .ok (.aload_n 0, 1) := by decide +kernel
theorem dX7_back_1 : decode cX7_back 1 = .ok (.iconst 0, 1) := by decide +kernel
theorem dX7_back_2 : decode cX7_back 2 = .ok (.putfield 1, 3) := by decide +kernel
theorem dX7_back_5 : decode cX7_back 5 = .ok (.aload_n 0, 1) := by decide +kernel
theorem dX7_back_6 : decode cX7_back 6 = .ok (.getfield 17, 3) := by decide +kernel
theorem dX7_back_9 : decode cX7_back 9 = .ok (.ifCond .ne 5, 3) := by decide +kernel
theorem dX7_back_12 : decode cX7_back 12 = .ok (.iconst (-1), 1) := by decide +kernel
theorem dX7_back_13 : decode cX7_back 13 = .ok (.ireturn, 1) := by decide +kernel
theorem dX7_back_14 : decode cX7_back 14 = .ok (.aload_n 0, 1) := by decide +kernel
theorem dX7_back_15 : decode cX7_back 15 = .ok (.dup, 1) := by decide +kernel
theorem dX7_back_16 : decode cX7_back 16 = .ok (.getfield 17, 3) := by decide +kernel
theorem dX7_back_19 : decode cX7_back 19 = .ok (.iconst 1, 1) := by decide +kernel
theorem dX7_back_20 : decode cX7_back 20 = .ok (.isub, 1) := by decide +kernel
theorem dX7_back_21 : decode cX7_back 21 = .ok (.putfield 17, 3) := by decide +kernel
theorem dX7_back_24 : decode cX7_back 24 = .ok (.aload_n 0, 1) := by decide +kernel
theorem dX7_back_25 : decode cX7_back 25 = .ok (.invokevirtual 403, 3) := by decide +kernel
theorem dX7_back_28 : decode cX7_back 28 = .ok (.aload_n 0, 1) := by decide +kernel
theorem dX7_back_29 : decode cX7_back 29 = .ok (.getfield 17, 3) := by decide +kernel
theorem dX7_back_32 : decode cX7_back 32 = .ok (.ireturn, 1) := by decide +kernel
theorem dX7_standingBits_0 : decode cX7_standingBits 0 = .ok (.iconst 0, 1) := by decide +kernel
theorem dX7_standingBits_1 : decode cX7_standingBits 1 = .ok (.istore_n 2, 1) := by decide +kernel
theorem dX7_standingBits_2 : decode cX7_standingBits 2 = .ok (.iconst 1, 1) := by decide +kernel
theorem dX7_standingBits_3 : decode cX7_standingBits 3 = .ok (.istore_n 3, 1) := by decide +kernel
theorem dX7_standingBits_4 : decode cX7_standingBits 4 = .ok (.iload_n 3, 1) := by decide +kernel
theorem dX7_standingBits_5 : decode cX7_standingBits 5 = .ok (.bipush 10, 2) := by decide +kernel
theorem dX7_standingBits_7 : decode cX7_standingBits 7 = .ok (.if_icmp .ge 29, 3) := by decide +kernel
theorem dX7_standingBits_10 : decode cX7_standingBits 10 = .ok (.iload_n 2, 1) := by decide +kernel
theorem dX7_standingBits_11 : decode cX7_standingBits 11 = .ok (.aload_n 0, 1) := by decide +kernel
theorem dX7_standingBits_12 : decode cX7_standingBits 12 = .ok (.getfield 94, 3) := by decide +kernel
theorem dX7_standingBits_15 : decode cX7_standingBits 15 = .ok (.iload_n 3, 1) := by decide +kernel
theorem dX7_standingBits_16 : decode cX7_standingBits 16 = .ok (.iaload, 1) := by decide +kernel
theorem dX7_standingBits_17 : decode cX7_standingBits 17 = .ok (.iload_n 1, 1) := by decide +kernel
theorem dX7_standingBits_18 : decode cX7_standingBits 18 = .ok (.if_icmp .ne 9, 3) := by decide +kernel
theorem dX7_standingBits_21 : decode cX7_standingBits 21 = .ok (.iconst 1, 1) := by decide +kernel
theorem dX7_standingBits_22 : decode cX7_standingBits 22 = .ok (.iload_n 3, 1) := by decide +kernel
theorem dX7_standingBits_23 : decode cX7_standingBits 23 = .ok (.ishl, 1) := by decide +kernel
theorem dX7_standingBits_24 : decode cX7_standingBits 24 = .ok (.goto 4, 3) := by decide +kernel
theorem dX7_standingBits_27 : decode cX7_standingBits 27 = .ok (.iconst 0, 1) := by decide +kernel
theorem dX7_standingBits_28 : decode cX7_standingBits 28 = .ok (.ior, 1) := by decide +kernel
theorem dX7_standingBits_29 : decode cX7_standingBits 29 = .ok (.istore_n 2, 1) := by decide +kernel
theorem dX7_standingBits_30 : decode cX7_standingBits 30 = .ok (.iinc 3 1, 3) := by decide +kernel
theorem dX7_standingBits_33 : decode cX7_standingBits 33 = .ok (.goto (-29), 3) := by decide +kernel
theorem dX7_standingBits_36 : decode cX7_standingBits 36 = .ok (.iload_n 2, 1) := by decide +kernel
theorem dX7_standingBits_37 : decode cX7_standingBits 37 = .ok (.ireturn, 1) := by decide +kernel
theorem dX7_signersBits_0 : decode cX7_signersBits 0 = .ok (.iconst 0, 1) := by decide +kernel
theorem dX7_signersBits_1 : decode cX7_signersBits 1 = .ok (.istore_n 1, 1) := by decide +kernel
theorem dX7_signersBits_2 : decode cX7_signersBits 2 = .ok (.iconst 0, 1) := by decide +kernel
theorem dX7_signersBits_3 : decode cX7_signersBits 3 = .ok (.istore_n 2, 1) := by decide +kernel
theorem dX7_signersBits_4 : decode cX7_signersBits 4 = .ok (.iload_n 2, 1) := by decide +kernel
theorem dX7_signersBits_5 : decode cX7_signersBits 5 = .ok (.bipush 40, 2) := by decide +kernel
theorem dX7_signersBits_7 : decode cX7_signersBits 7 = .ok (.if_icmp .ge 51, 3) := by decide +kernel
theorem dX7_signersBits_10 : decode cX7_signersBits 10 = .ok (.iconst 0, 1) := by decide +kernel
theorem dX7_signersBits_11 : decode cX7_signersBits 11 = .ok (.istore_n 3, 1) := by decide +kernel
theorem dX7_signersBits_12 : decode cX7_signersBits 12 = .ok (.aload_n 0, 1) := by decide +kernel
theorem dX7_signersBits_13 : decode cX7_signersBits 13 = .ok (.getfield 29, 3) := by decide +kernel
theorem dX7_signersBits_16 : decode cX7_signersBits 16 = .ok (.iload_n 2, 1) := by decide +kernel
theorem dX7_signersBits_17 : decode cX7_signersBits 17 = .ok (.baload, 1) := by decide +kernel
theorem dX7_signersBits_18 : decode cX7_signersBits 18 = .ok (.ifCond .eq 34, 3) := by decide +kernel
theorem dX7_signersBits_21 : decode cX7_signersBits 21 = .ok (.iload_n 3, 1) := by decide +kernel
theorem dX7_signersBits_22 : decode cX7_signersBits 22 = .ok (.aload_n 0, 1) := by decide +kernel
theorem dX7_signersBits_23 : decode cX7_signersBits 23 = .ok (.getfield 48, 3) := by decide +kernel
theorem dX7_signersBits_26 : decode cX7_signersBits 26 = .ok (.iload_n 2, 1) := by decide +kernel
theorem dX7_signersBits_27 : decode cX7_signersBits 27 = .ok (.iaload, 1) := by decide +kernel
theorem dX7_signersBits_28 : decode cX7_signersBits 28 = .ok (.if_icmp .ge 24, 3) := by decide +kernel
theorem dX7_signersBits_31 : decode cX7_signersBits 31 = .ok (.iload_n 1, 1) := by decide +kernel
theorem dX7_signersBits_32 : decode cX7_signersBits 32 = .ok (.iconst 1, 1) := by decide +kernel
theorem dX7_signersBits_33 : decode cX7_signersBits 33 = .ok (.aload_n 0, 1) := by decide +kernel
theorem dX7_signersBits_34 : decode cX7_signersBits 34 = .ok (.getfield 51, 3) := by decide +kernel
theorem dX7_signersBits_37 : decode cX7_signersBits 37 = .ok (.iconst 4, 1) := by decide +kernel
theorem dX7_signersBits_38 : decode cX7_signersBits 38 = .ok (.iload_n 2, 1) := by decide +kernel
theorem dX7_signersBits_39 : decode cX7_signersBits 39 = .ok (.imul, 1) := by decide +kernel
theorem dX7_signersBits_40 : decode cX7_signersBits 40 = .ok (.iload_n 3, 1) := by decide +kernel
theorem dX7_signersBits_41 : decode cX7_signersBits 41 = .ok (.iadd, 1) := by decide +kernel
theorem dX7_signersBits_42 : decode cX7_signersBits 42 = .ok (.iaload, 1) := by decide +kernel
theorem dX7_signersBits_43 : decode cX7_signersBits 43 = .ok (.ishl, 1) := by decide +kernel
theorem dX7_signersBits_44 : decode cX7_signersBits 44 = .ok (.ior, 1) := by decide +kernel
theorem dX7_signersBits_45 : decode cX7_signersBits 45 = .ok (.istore_n 1, 1) := by decide +kernel
theorem dX7_signersBits_46 : decode cX7_signersBits 46 = .ok (.iinc 3 1, 3) := by decide +kernel
theorem dX7_signersBits_49 : decode cX7_signersBits 49 = .ok (.goto (-37), 3) := by decide +kernel
theorem dX7_signersBits_52 : decode cX7_signersBits 52 = .ok (.iinc 2 1, 3) := by decide +kernel
theorem dX7_signersBits_55 : decode cX7_signersBits 55 = .ok (.goto (-51), 3) := by decide +kernel
theorem dX7_signersBits_58 : decode cX7_signersBits 58 = .ok (.iload_n 1, 1) := by decide +kernel
theorem dX7_signersBits_59 : decode cX7_signersBits 59 = .ok (.ireturn, 1) := by decide +kernel
theorem dX7_told_0 : decode cX7_told 0 = .ok (.aload_n 0, 1) := by decide +kernel
theorem dX7_told_1 : decode cX7_told 1 = .ok (.iconst 0, 1) := by decide +kernel
theorem dX7_told_2 : decode cX7_told 2 = .ok (.putfield 1, 3) := by decide +kernel
theorem dX7_told_5 : decode cX7_told 5 = .ok (.aload_n 0, 1) := by decide +kernel
theorem dX7_told_6 : decode cX7_told 6 = .ok (.iload_n 1, 1) := by decide +kernel
theorem dX7_told_7 : decode cX7_told 7 = .ok (.i2l, 1) := by decide +kernel
theorem dX7_told_8 : decode cX7_told 8 = .ok (.lconst 0, 1) := by decide +kernel
theorem dX7_told_9 : decode cX7_told 9 = .ok (.ldc2_w 252, 3) := by decide +kernel
theorem dX7_told_12 : decode cX7_told 12 = .ok (.invokestatic 352, 3) := by decide +kernel
theorem dX7_told_15 : decode cX7_told 15 = .ok (.iconst 1, 1) := by decide +kernel
theorem dX7_told_16 : decode cX7_told 16 = .ok (.iconst 1, 1) := by decide +kernel
theorem dX7_told_17 : decode cX7_told 17 = .ok (.invokevirtual 346, 3) := by decide +kernel
theorem dX7_told_20 : decode cX7_told 20 = .ok (.ifCond .ne 5, 3) := by decide +kernel
theorem dX7_told_23 : decode cX7_told 23 = .ok (.iconst 0, 1) := by decide +kernel
theorem dX7_told_24 : decode cX7_told 24 = .ok (.ireturn, 1) := by decide +kernel
theorem dX7_told_25 : decode cX7_told 25 = .ok (.iload_n 1, 1) := by decide +kernel
theorem dX7_told_26 : decode cX7_told 26 = .ok (.bipush 10, 2) := by decide +kernel
theorem dX7_told_28 : decode cX7_told 28 = .ok (.if_icmp .ne 8, 3) := by decide +kernel
theorem dX7_told_31 : decode cX7_told 31 = .ok (.aload_n 0, 1) := by decide +kernel
theorem dX7_told_32 : decode cX7_told 32 = .ok (.invokevirtual 406, 3) := by decide +kernel
theorem dX7_told_35 : decode cX7_told 35 = .ok (.ireturn, 1) := by decide +kernel
theorem dX7_told_36 : decode cX7_told 36 = .ok (.iload_n 1, 1) := by decide +kernel
theorem dX7_told_37 : decode cX7_told 37 = .ok (.iconst 3, 1) := by decide +kernel
theorem dX7_told_38 : decode cX7_told 38 = .ok (.if_icmp .ge 33, 3) := by decide +kernel
theorem dX7_told_41 : decode cX7_told 41 = .ok (.iload_n 1, 1) := by decide +kernel
theorem dX7_told_42 : decode cX7_told 42 = .ok (.ifCond .ne 11, 3) := by decide +kernel
theorem dX7_told_45 : decode cX7_told 45 = .ok (.aload_n 0, 1) := by decide +kernel
theorem dX7_told_46 : decode cX7_told 46 = .ok (.iconst 0, 1) := by decide +kernel
theorem dX7_told_47 : decode cX7_told 47 = .ok (.invokevirtual 362, 3) := by decide +kernel
theorem dX7_told_50 : decode cX7_told 50 = .ok (.goto 20, 3) := by decide +kernel
theorem dX7_told_53 : decode cX7_told 53 = .ok (.iload_n 1, 1) := by decide +kernel
theorem dX7_told_54 : decode cX7_told 54 = .ok (.iconst 1, 1) := by decide +kernel
theorem dX7_told_55 : decode cX7_told 55 = .ok (.if_icmp .ne 11, 3) := by decide +kernel
theorem dX7_told_58 : decode cX7_told 58 = .ok (.aload_n 0, 1) := by decide +kernel
theorem dX7_told_59 : decode cX7_told 59 = .ok (.iconst 4, 1) := by decide +kernel
theorem dX7_told_60 : decode cX7_told 60 = .ok (.invokevirtual 362, 3) := by decide +kernel
theorem dX7_told_63 : decode cX7_told 63 = .ok (.goto 7, 3) := by decide +kernel
theorem dX7_told_66 : decode cX7_told 66 = .ok (.aload_n 0, 1) := by decide +kernel
theorem dX7_told_67 : decode cX7_told 67 = .ok (.getfield 17, 3) := by decide +kernel
theorem dX7_told_70 : decode cX7_told 70 = .ok (.ireturn, 1) := by decide +kernel
theorem dX7_told_71 : decode cX7_told 71 = .ok (.iload_n 1, 1) := by decide +kernel
theorem dX7_told_72 : decode cX7_told 72 = .ok (.bipush 6, 2) := by decide +kernel
theorem dX7_told_74 : decode cX7_told 74 = .ok (.if_icmp .ge 32, 3) := by decide +kernel
theorem dX7_told_77 : decode cX7_told 77 = .ok (.iload_n 1, 1) := by decide +kernel
theorem dX7_told_78 : decode cX7_told 78 = .ok (.iconst 3, 1) := by decide +kernel
theorem dX7_told_79 : decode cX7_told 79 = .ok (.if_icmp .ne 10, 3) := by decide +kernel
theorem dX7_told_82 : decode cX7_told 82 = .ok (.aload_n 0, 1) := by decide +kernel
theorem dX7_told_83 : decode cX7_told 83 = .ok (.getfield 152, 3) := by decide +kernel
theorem dX7_told_86 : decode cX7_told 86 = .ok (.goto 19, 3) := by decide +kernel
theorem dX7_told_89 : decode cX7_told 89 = .ok (.iload_n 1, 1) := by decide +kernel
theorem dX7_told_90 : decode cX7_told 90 = .ok (.iconst 4, 1) := by decide +kernel
theorem dX7_told_91 : decode cX7_told 91 = .ok (.if_icmp .ne 10, 3) := by decide +kernel
theorem dX7_told_94 : decode cX7_told 94 = .ok (.aload_n 0, 1) := by decide +kernel
theorem dX7_told_95 : decode cX7_told 95 = .ok (.getfield 155, 3) := by decide +kernel
theorem dX7_told_98 : decode cX7_told 98 = .ok (.goto 7, 3) := by decide +kernel
theorem dX7_told_101 : decode cX7_told 101 = .ok (.aload_n 0, 1) := by decide +kernel
theorem dX7_told_102 : decode cX7_told 102 = .ok (.getfield 158, 3) := by decide +kernel
theorem dX7_told_105 : decode cX7_told 105 = .ok (.ireturn, 1) := by decide +kernel
theorem dX7_told_106 : decode cX7_told 106 = .ok (.iload_n 1, 1) := by decide +kernel
theorem dX7_told_107 : decode cX7_told 107 = .ok (.bipush 6, 2) := by decide +kernel
theorem dX7_told_109 : decode cX7_told 109 = .ok (.if_icmp .ne 8, 3) := by decide +kernel
theorem dX7_told_112 : decode cX7_told 112 = .ok (.aload_n 0, 1) := by decide +kernel
theorem dX7_told_113 : decode cX7_told 113 = .ok (.getfield 149, 3) := by decide +kernel
theorem dX7_told_116 : decode cX7_told 116 = .ok (.ireturn, 1) := by decide +kernel
theorem dX7_told_117 : decode cX7_told 117 = .ok (.iload_n 1, 1) := by decide +kernel
theorem dX7_told_118 : decode cX7_told 118 = .ok (.bipush 7, 2) := by decide +kernel
theorem dX7_told_120 : decode cX7_told 120 = .ok (.if_icmp .le 19, 3) := by decide +kernel
theorem dX7_told_123 : decode cX7_told 123 = .ok (.aload_n 0, 1) := by decide +kernel
theorem dX7_told_124 : decode cX7_told 124 = .ok (.iload_n 1, 1) := by decide +kernel
theorem dX7_told_125 : decode cX7_told 125 = .ok (.bipush 8, 2) := by decide +kernel
theorem dX7_told_127 : decode cX7_told 127 = .ok (.if_icmp .ne 7, 3) := by decide +kernel
theorem dX7_told_130 : decode cX7_told 130 = .ok (.iconst 1, 1) := by decide +kernel
theorem dX7_told_131 : decode cX7_told 131 = .ok (.goto 4, 3) := by decide +kernel
theorem dX7_told_134 : decode cX7_told 134 = .ok (.iconst 2, 1) := by decide +kernel
theorem dX7_told_135 : decode cX7_told 135 = .ok (.invokevirtual 410, 3) := by decide +kernel
theorem dX7_told_138 : decode cX7_told 138 = .ok (.ireturn, 1) := by decide +kernel
theorem dX7_told_139 : decode cX7_told 139 = .ok (.iconst 0, 1) := by decide +kernel
theorem dX7_told_140 : decode cX7_told 140 = .ok (.istore_n 2, 1) := by decide +kernel
theorem dX7_told_141 : decode cX7_told 141 = .ok (.iconst 0, 1) := by decide +kernel
theorem dX7_told_142 : decode cX7_told 142 = .ok (.istore_n 3, 1) := by decide +kernel
theorem dX7_told_143 : decode cX7_told 143 = .ok (.iload_n 3, 1) := by decide +kernel
theorem dX7_told_144 : decode cX7_told 144 = .ok (.bipush 12, 2) := by decide +kernel
theorem dX7_told_146 : decode cX7_told 146 = .ok (.if_icmp .ge 27, 3) := by decide +kernel
theorem dX7_told_149 : decode cX7_told 149 = .ok (.iload_n 2, 1) := by decide +kernel
theorem dX7_told_150 : decode cX7_told 150 = .ok (.aload_n 0, 1) := by decide +kernel
theorem dX7_told_151 : decode cX7_told 151 = .ok (.iload_n 3, 1) := by decide +kernel
theorem dX7_told_152 : decode cX7_told 152 = .ok (.invokevirtual 205, 3) := by decide +kernel
theorem dX7_told_155 : decode cX7_told 155 = .ok (.ifCond .eq 9, 3) := by decide +kernel
theorem dX7_told_158 : decode cX7_told 158 = .ok (.iconst 1, 1) := by decide +kernel
theorem dX7_told_159 : decode cX7_told 159 = .ok (.iload_n 3, 1) := by decide +kernel
theorem dX7_told_160 : decode cX7_told 160 = .ok (.ishl, 1) := by decide +kernel
theorem dX7_told_161 : decode cX7_told 161 = .ok (.goto 4, 3) := by decide +kernel
theorem dX7_told_164 : decode cX7_told 164 = .ok (.iconst 0, 1) := by decide +kernel
theorem dX7_told_165 : decode cX7_told 165 = .ok (.ior, 1) := by decide +kernel
theorem dX7_told_166 : decode cX7_told 166 = .ok (.istore_n 2, 1) := by decide +kernel
theorem dX7_told_167 : decode cX7_told 167 = .ok (.iinc 3 1, 3) := by decide +kernel
theorem dX7_told_170 : decode cX7_told 170 = .ok (.goto (-27), 3) := by decide +kernel
theorem dX7_told_173 : decode cX7_told 173 = .ok (.iload_n 2, 1) := by decide +kernel
theorem dX7_told_174 : decode cX7_told 174 = .ok (.ireturn, 1) := by decide +kernel
theorem dX7_isEvent_0 : decode cX7_isEvent 0 = .ok (.aload_n 0, 1) := by decide +kernel
theorem dX7_isEvent_1 : decode cX7_isEvent 1 = .ok (.iload_n 1, 1) := by decide +kernel
theorem dX7_isEvent_2 : decode cX7_isEvent 2 = .ok (.i2l, 1) := by decide +kernel
theorem dX7_isEvent_3 : decode cX7_isEvent 3 = .ok (.lconst 0, 1) := by decide +kernel
theorem dX7_isEvent_4 : decode cX7_isEvent 4 = .ok (.aload_n 0, 1) := by decide +kernel
theorem dX7_isEvent_5 : decode cX7_isEvent 5 = .ok (.getfield 17, 3) := by decide +kernel
theorem dX7_isEvent_8 : decode cX7_isEvent 8 = .ok (.iconst 1, 1) := by decide +kernel
theorem dX7_isEvent_9 : decode cX7_isEvent 9 = .ok (.isub, 1) := by decide +kernel
theorem dX7_isEvent_10 : decode cX7_isEvent 10 = .ok (.i2l, 1) := by decide +kernel
theorem dX7_isEvent_11 : decode cX7_isEvent 11 = .ok (.invokestatic 352, 3) := by decide +kernel
theorem dX7_isEvent_14 : decode cX7_isEvent 14 = .ok (.iconst 1, 1) := by decide +kernel
theorem dX7_isEvent_15 : decode cX7_isEvent 15 = .ok (.iconst 0, 1) := by decide +kernel
theorem dX7_isEvent_16 : decode cX7_isEvent 16 = .ok (.invokevirtual 346, 3) := by decide +kernel
theorem dX7_isEvent_19 : decode cX7_isEvent 19 = .ok (.ireturn, 1) := by decide +kernel
theorem dX7_event_0 : decode cX7_event 0 = .ok (.aload_n 0, 1) := by decide +kernel
theorem dX7_event_1 : decode cX7_event 1 = .ok (.iconst 0, 1) := by decide +kernel
theorem dX7_event_2 : decode cX7_event 2 = .ok (.putfield 1, 3) := by decide +kernel
theorem dX7_event_5 : decode cX7_event 5 = .ok (.aload_n 0, 1) := by decide +kernel
theorem dX7_event_6 : decode cX7_event 6 = .ok (.iload_n 1, 1) := by decide +kernel
theorem dX7_event_7 : decode cX7_event 7 = .ok (.invokevirtual 413, 3) := by decide +kernel
theorem dX7_event_10 : decode cX7_event 10 = .ok (.ifCond .eq 19, 3) := by decide +kernel
theorem dX7_event_13 : decode cX7_event 13 = .ok (.aload_n 0, 1) := by decide +kernel
theorem dX7_event_14 : decode cX7_event 14 = .ok (.iload_n 2, 1) := by decide +kernel
theorem dX7_event_15 : decode cX7_event 15 = .ok (.i2l, 1) := by decide +kernel
theorem dX7_event_16 : decode cX7_event 16 = .ok (.lconst 0, 1) := by decide +kernel
theorem dX7_event_17 : decode cX7_event 17 = .ok (.lconst 1, 1) := by decide +kernel
theorem dX7_event_18 : decode cX7_event 18 = .ok (.invokestatic 352, 3) := by decide +kernel
theorem dX7_event_21 : decode cX7_event 21 = .ok (.iconst 2, 1) := by decide +kernel
theorem dX7_event_22 : decode cX7_event 22 = .ok (.iconst 1, 1) := by decide +kernel
theorem dX7_event_23 : decode cX7_event 23 = .ok (.invokevirtual 346, 3) := by decide +kernel
theorem dX7_event_26 : decode cX7_event 26 = .ok (.ifCond .ne 5, 3) := by decide +kernel
theorem dX7_event_29 : decode cX7_event 29 = .ok (.iconst 0, 1) := by decide +kernel
theorem dX7_event_30 : decode cX7_event 30 = .ok (.ireturn, 1) := by decide +kernel
theorem dX7_event_31 : decode cX7_event 31 = .ok (.iload_n 2, 1) := by decide +kernel
theorem dX7_event_32 : decode cX7_event 32 = .ok (.ifCond .ne 10, 3) := by decide +kernel
theorem dX7_event_35 : decode cX7_event 35 = .ok (.aload_n 0, 1) := by decide +kernel
theorem dX7_event_36 : decode cX7_event 36 = .ok (.getfield 14, 3) := by decide +kernel
theorem dX7_event_39 : decode cX7_event 39 = .ok (.iload_n 1, 1) := by decide +kernel
theorem dX7_event_40 : decode cX7_event 40 = .ok (.iaload, 1) := by decide +kernel
theorem dX7_event_41 : decode cX7_event 41 = .ok (.ireturn, 1) := by decide +kernel
theorem dX7_event_42 : decode cX7_event 42 = .ok (.aload_n 0, 1) := by decide +kernel
theorem dX7_event_43 : decode cX7_event 43 = .ok (.getfield 14, 3) := by decide +kernel
theorem dX7_event_46 : decode cX7_event 46 = .ok (.iload_n 1, 1) := by decide +kernel
theorem dX7_event_47 : decode cX7_event 47 = .ok (.iaload, 1) := by decide +kernel
theorem dX7_event_48 : decode cX7_event 48 = .ok (.ifCond .eq 13, 3) := by decide +kernel
theorem dX7_event_51 : decode cX7_event 51 = .ok (.aload_n 0, 1) := by decide +kernel
theorem dX7_event_52 : decode cX7_event 52 = .ok (.getfield 14, 3) := by decide +kernel
theorem dX7_event_55 : decode cX7_event 55 = .ok (.iload_n 1, 1) := by decide +kernel
theorem dX7_event_56 : decode cX7_event 56 = .ok (.iaload, 1) := by decide +kernel
theorem dX7_event_57 : decode cX7_event 57 = .ok (.iconst 4, 1) := by decide +kernel
theorem dX7_event_58 : decode cX7_event 58 = .ok (.if_icmp .ne 12, 3) := by decide +kernel
theorem dX7_event_61 : decode cX7_event 61 = .ok (.aload_n 0, 1) := by decide +kernel
theorem dX7_event_62 : decode cX7_event 62 = .ok (.getfield 20, 3) := by decide +kernel
theorem dX7_event_65 : decode cX7_event 65 = .ok (.iload_n 1, 1) := by decide +kernel
theorem dX7_event_66 : decode cX7_event 66 = .ok (.iaload, 1) := by decide +kernel
theorem dX7_event_67 : decode cX7_event 67 = .ok (.goto 9, 3) := by decide +kernel
theorem dX7_event_70 : decode cX7_event 70 = .ok (.aload_n 0, 1) := by decide +kernel
theorem dX7_event_71 : decode cX7_event 71 = .ok (.iload_n 1, 1) := by decide +kernel
theorem dX7_event_72 : decode cX7_event 72 = .ok (.iconst 0, 1) := by decide +kernel
theorem dX7_event_73 : decode cX7_event 73 = .ok (.invokevirtual 289, 3) := by decide +kernel
theorem dX7_event_76 : decode cX7_event 76 = .ok (.ireturn, 1) := by decide +kernel
theorem dX7_rungAt_0 : decode cX7_rungAt 0 = .ok (.iconst 0, 1) := by decide +kernel
theorem dX7_rungAt_1 : decode cX7_rungAt 1 = .ok (.istore_n 2, 1) := by decide +kernel
theorem dX7_rungAt_2 : decode cX7_rungAt 2 = .ok (.aload_n 0, 1) := by decide +kernel
theorem dX7_rungAt_3 : decode cX7_rungAt 3 = .ok (.aload_n 0, 1) := by decide +kernel
theorem dX7_rungAt_4 : decode cX7_rungAt 4 = .ok (.getfield 36, 3) := by decide +kernel
theorem dX7_rungAt_7 : decode cX7_rungAt 7 = .ok (.iload_n 1, 1) := by decide +kernel
theorem dX7_rungAt_8 : decode cX7_rungAt 8 = .ok (.iaload, 1) := by decide +kernel
theorem dX7_rungAt_9 : decode cX7_rungAt 9 = .ok (.iload_n 2, 1) := by decide +kernel
theorem dX7_rungAt_10 : decode cX7_rungAt 10 = .ok (.invokevirtual 161, 3) := by decide +kernel
theorem dX7_rungAt_13 : decode cX7_rungAt 13 = .ok (.iload_n 1, 1) := by decide +kernel
theorem dX7_rungAt_14 : decode cX7_rungAt 14 = .ok (.if_icmp .eq 9, 3) := by decide +kernel
theorem dX7_rungAt_17 : decode cX7_rungAt 17 = .ok (.iinc 2 1, 3) := by decide +kernel
theorem dX7_rungAt_20 : decode cX7_rungAt 20 = .ok (.goto (-18), 3) := by decide +kernel
theorem dX7_rungAt_23 : decode cX7_rungAt 23 = .ok (.iload_n 2, 1) := by decide +kernel
theorem dX7_rungAt_24 : decode cX7_rungAt 24 = .ok (.ireturn, 1) := by decide +kernel
theorem dX7_layer_0 : decode cX7_layer 0 = .ok (.aload_n 0, 1) := by decide +kernel
theorem dX7_layer_1 : decode cX7_layer 1 = .ok (.iconst 0, 1) := by decide +kernel
theorem dX7_layer_2 : decode cX7_layer 2 = .ok (.putfield 1, 3) := by decide +kernel
theorem dX7_layer_5 : decode cX7_layer 5 = .ok (.aload_n 0, 1) := by decide +kernel
theorem dX7_layer_6 : decode cX7_layer 6 = .ok (.iload_n 1, 1) := by decide +kernel
theorem dX7_layer_7 : decode cX7_layer 7 = .ok (.iconst 1, 1) := by decide +kernel
theorem dX7_layer_8 : decode cX7_layer 8 = .ok (.invokevirtual 374, 3) := by decide +kernel
theorem dX7_layer_11 : decode cX7_layer 11 = .ok (.ifCond .eq 21, 3) := by decide +kernel
theorem dX7_layer_14 : decode cX7_layer 14 = .ok (.aload_n 0, 1) := by decide +kernel
theorem dX7_layer_15 : decode cX7_layer 15 = .ok (.iload_n 2, 1) := by decide +kernel
theorem dX7_layer_16 : decode cX7_layer 16 = .ok (.i2l, 1) := by decide +kernel
theorem dX7_layer_17 : decode cX7_layer 17 = .ok (.lconst 0, 1) := by decide +kernel
theorem dX7_layer_18 : decode cX7_layer 18 = .ok (.ldc2_w 252, 3) := by decide +kernel
theorem dX7_layer_21 : decode cX7_layer 21 = .ok (.invokestatic 352, 3) := by decide +kernel
theorem dX7_layer_24 : decode cX7_layer 24 = .ok (.iconst 2, 1) := by decide +kernel
theorem dX7_layer_25 : decode cX7_layer 25 = .ok (.iconst 1, 1) := by decide +kernel
theorem dX7_layer_26 : decode cX7_layer 26 = .ok (.invokevirtual 346, 3) := by decide +kernel
theorem dX7_layer_29 : decode cX7_layer 29 = .ok (.ifCond .ne 5, 3) := by decide +kernel
theorem dX7_layer_32 : decode cX7_layer 32 = .ok (.lconst 0, 1) := by decide +kernel
theorem dX7_layer_33 : decode cX7_layer 33 = .ok (.lreturn, 1) := by decide +kernel
theorem dX7_layer_34 : decode cX7_layer 34 = .ok (.iload_n 2, 1) := by decide +kernel
theorem dX7_layer_35 : decode cX7_layer 35 = .ok (.iconst 4, 1) := by decide +kernel
theorem dX7_layer_36 : decode cX7_layer 36 = .ok (.if_icmp .ge 55, 3) := by decide +kernel
theorem dX7_layer_39 : decode cX7_layer 39 = .ok (.iload_n 2, 1) := by decide +kernel
theorem dX7_layer_40 : decode cX7_layer 40 = .ok (.ifCond .ne 13, 3) := by decide +kernel
theorem dX7_layer_43 : decode cX7_layer 43 = .ok (.aload_n 0, 1) := by decide +kernel
theorem dX7_layer_44 : decode cX7_layer 44 = .ok (.getfield 36, 3) := by decide +kernel
theorem dX7_layer_47 : decode cX7_layer 47 = .ok (.iload_n 1, 1) := by decide +kernel
theorem dX7_layer_48 : decode cX7_layer 48 = .ok (.iaload, 1) := by decide +kernel
theorem dX7_layer_49 : decode cX7_layer 49 = .ok (.i2l, 1) := by decide +kernel
theorem dX7_layer_50 : decode cX7_layer 50 = .ok (.goto 40, 3) := by decide +kernel
theorem dX7_layer_53 : decode cX7_layer 53 = .ok (.iload_n 2, 1) := by decide +kernel
theorem dX7_layer_54 : decode cX7_layer 54 = .ok (.iconst 1, 1) := by decide +kernel
theorem dX7_layer_55 : decode cX7_layer 55 = .ok (.if_icmp .ne 13, 3) := by decide +kernel
theorem dX7_layer_58 : decode cX7_layer 58 = .ok (.aload_n 0, 1) := by decide +kernel
theorem dX7_layer_59 : decode cX7_layer 59 = .ok (.getfield 39, 3) := by decide +kernel
theorem dX7_layer_62 : decode cX7_layer 62 = .ok (.iload_n 1, 1) := by decide +kernel
theorem dX7_layer_63 : decode cX7_layer 63 = .ok (.iaload, 1) := by decide +kernel
theorem dX7_layer_64 : decode cX7_layer 64 = .ok (.i2l, 1) := by decide +kernel
theorem dX7_layer_65 : decode cX7_layer 65 = .ok (.goto 25, 3) := by decide +kernel
theorem dX7_layer_68 : decode cX7_layer 68 = .ok (.iload_n 2, 1) := by decide +kernel
theorem dX7_layer_69 : decode cX7_layer 69 = .ok (.iconst 2, 1) := by decide +kernel
theorem dX7_layer_70 : decode cX7_layer 70 = .ok (.if_icmp .ne 13, 3) := by decide +kernel
theorem dX7_layer_73 : decode cX7_layer 73 = .ok (.aload_n 0, 1) := by decide +kernel
theorem dX7_layer_74 : decode cX7_layer 74 = .ok (.getfield 42, 3) := by decide +kernel
theorem dX7_layer_77 : decode cX7_layer 77 = .ok (.iload_n 1, 1) := by decide +kernel
theorem dX7_layer_78 : decode cX7_layer 78 = .ok (.iaload, 1) := by decide +kernel
theorem dX7_layer_79 : decode cX7_layer 79 = .ok (.i2l, 1) := by decide +kernel
theorem dX7_layer_80 : decode cX7_layer 80 = .ok (.goto 10, 3) := by decide +kernel
theorem dX7_layer_83 : decode cX7_layer 83 = .ok (.aload_n 0, 1) := by decide +kernel
theorem dX7_layer_84 : decode cX7_layer 84 = .ok (.getfield 45, 3) := by decide +kernel
theorem dX7_layer_87 : decode cX7_layer 87 = .ok (.iload_n 1, 1) := by decide +kernel
theorem dX7_layer_88 : decode cX7_layer 88 = .ok (.iaload, 1) := by decide +kernel
theorem dX7_layer_89 : decode cX7_layer 89 = .ok (.i2l, 1) := by decide +kernel
theorem dX7_layer_90 : decode cX7_layer 90 = .ok (.lreturn, 1) := by decide +kernel
theorem dX7_layer_91 : decode cX7_layer 91 = .ok (.iload_n 2, 1) := by decide +kernel
theorem dX7_layer_92 : decode cX7_layer 92 = .ok (.bipush 7, 2) := by decide +kernel
theorem dX7_layer_94 : decode cX7_layer 94 = .ok (.if_icmp .ge 37, 3) := by decide +kernel
theorem dX7_layer_97 : decode cX7_layer 97 = .ok (.iload_n 2, 1) := by decide +kernel
theorem dX7_layer_98 : decode cX7_layer 98 = .ok (.iconst 4, 1) := by decide +kernel
theorem dX7_layer_99 : decode cX7_layer 99 = .ok (.if_icmp .ne 12, 3) := by decide +kernel
theorem dX7_layer_102 : decode cX7_layer 102 = .ok (.aload_n 0, 1) := by decide +kernel
theorem dX7_layer_103 : decode cX7_layer 103 = .ok (.getfield 57, 3) := by decide +kernel
theorem dX7_layer_106 : decode cX7_layer 106 = .ok (.iload_n 1, 1) := by decide +kernel
theorem dX7_layer_107 : decode cX7_layer 107 = .ok (.laload, 1) := by decide +kernel
theorem dX7_layer_108 : decode cX7_layer 108 = .ok (.goto 22, 3) := by decide +kernel
theorem dX7_layer_111 : decode cX7_layer 111 = .ok (.iload_n 2, 1) := by decide +kernel
theorem dX7_layer_112 : decode cX7_layer 112 = .ok (.iconst 5, 1) := by decide +kernel
theorem dX7_layer_113 : decode cX7_layer 113 = .ok (.if_icmp .ne 11, 3) := by decide +kernel
theorem dX7_layer_116 : decode cX7_layer 116 = .ok (.aload_n 0, 1) := by decide +kernel
theorem dX7_layer_117 : decode cX7_layer 117 = .ok (.iload_n 1, 1) := by decide +kernel
theorem dX7_layer_118 : decode cX7_layer 118 = .ok (.invokevirtual 175, 3) := by decide +kernel
theorem dX7_layer_121 : decode cX7_layer 121 = .ok (.goto 9, 3) := by decide +kernel
theorem dX7_layer_124 : decode cX7_layer 124 = .ok (.aload_n 0, 1) := by decide +kernel
theorem dX7_layer_125 : decode cX7_layer 125 = .ok (.iload_n 1, 1) := by decide +kernel
theorem dX7_layer_126 : decode cX7_layer 126 = .ok (.invokevirtual 172, 3) := by decide +kernel
theorem dX7_layer_129 : decode cX7_layer 129 = .ok (.i2l, 1) := by decide +kernel
theorem dX7_layer_130 : decode cX7_layer 130 = .ok (.lreturn, 1) := by decide +kernel
theorem dX7_layer_131 : decode cX7_layer 131 = .ok (.iload_n 2, 1) := by decide +kernel
theorem dX7_layer_132 : decode cX7_layer 132 = .ok (.bipush 7, 2) := by decide +kernel
theorem dX7_layer_134 : decode cX7_layer 134 = .ok (.if_icmp .ne 11, 3) := by decide +kernel
theorem dX7_layer_137 : decode cX7_layer 137 = .ok (.aload_n 0, 1) := by decide +kernel
theorem dX7_layer_138 : decode cX7_layer 138 = .ok (.getfield 48, 3) := by decide +kernel
theorem dX7_layer_141 : decode cX7_layer 141 = .ok (.iload_n 1, 1) := by decide +kernel
theorem dX7_layer_142 : decode cX7_layer 142 = .ok (.iaload, 1) := by decide +kernel
theorem dX7_layer_143 : decode cX7_layer 143 = .ok (.i2l, 1) := by decide +kernel
theorem dX7_layer_144 : decode cX7_layer 144 = .ok (.lreturn, 1) := by decide +kernel
theorem dX7_layer_145 : decode cX7_layer 145 = .ok (.iload_n 2, 1) := by decide +kernel
theorem dX7_layer_146 : decode cX7_layer 146 = .ok (.bipush 8, 2) := by decide +kernel
theorem dX7_layer_148 : decode cX7_layer 148 = .ok (.if_icmp .ne 15, 3) := by decide +kernel
theorem dX7_layer_151 : decode cX7_layer 151 = .ok (.bipush 10, 2) := by decide +kernel
theorem dX7_layer_153 : decode cX7_layer 153 = .ok (.aload_n 0, 1) := by decide +kernel
theorem dX7_layer_154 : decode cX7_layer 154 = .ok (.iload_n 1, 1) := by decide +kernel
theorem dX7_layer_155 : decode cX7_layer 155 = .ok (.invokevirtual 286, 3) := by decide +kernel
theorem dX7_layer_158 : decode cX7_layer 158 = .ok (.isub, 1) := by decide +kernel
theorem dX7_layer_159 : decode cX7_layer 159 = .ok (.i2l, 1) := by decide +kernel
theorem dX7_layer_160 : decode cX7_layer 160 = .ok (.goto 33, 3) := by decide +kernel
theorem dX7_layer_163 : decode cX7_layer 163 = .ok (.iload_n 2, 1) := by decide +kernel
theorem dX7_layer_164 : decode cX7_layer 164 = .ok (.bipush 9, 2) := by decide +kernel
theorem dX7_layer_166 : decode cX7_layer 166 = .ok (.if_icmp .ne 12, 3) := by decide +kernel
theorem dX7_layer_169 : decode cX7_layer 169 = .ok (.aload_n 0, 1) := by decide +kernel
theorem dX7_layer_170 : decode cX7_layer 170 = .ok (.iload_n 1, 1) := by decide +kernel
theorem dX7_layer_171 : decode cX7_layer 171 = .ok (.invokevirtual 416, 3) := by decide +kernel
theorem dX7_layer_174 : decode cX7_layer 174 = .ok (.i2l, 1) := by decide +kernel
theorem dX7_layer_175 : decode cX7_layer 175 = .ok (.goto 18, 3) := by decide +kernel
theorem dX7_layer_178 : decode cX7_layer 178 = .ok (.aload_n 0, 1) := by decide +kernel
theorem dX7_layer_179 : decode cX7_layer 179 = .ok (.iload_n 1, 1) := by decide +kernel
theorem dX7_layer_180 : decode cX7_layer 180 = .ok (.invokevirtual 175, 3) := by decide +kernel
theorem dX7_layer_183 : decode cX7_layer 183 = .ok (.lconst 0, 1) := by decide +kernel
theorem dX7_layer_184 : decode cX7_layer 184 = .ok (.lcmp, 1) := by decide +kernel
theorem dX7_layer_185 : decode cX7_layer 185 = .ok (.ifCond .ne 7, 3) := by decide +kernel
theorem dX7_layer_188 : decode cX7_layer 188 = .ok (.lconst 1, 1) := by decide +kernel
theorem dX7_layer_189 : decode cX7_layer 189 = .ok (.goto 4, 3) := by decide +kernel
theorem dX7_layer_192 : decode cX7_layer 192 = .ok (.lconst 0, 1) := by decide +kernel
theorem dX7_layer_193 : decode cX7_layer 193 = .ok (.lreturn, 1) := by decide +kernel
theorem dX7_signed_0 : decode cX7_signed 0 = .ok (.aload_n 0, 1) := by decide +kernel
theorem dX7_signed_1 : decode cX7_signed 1 = .ok (.iconst 0, 1) := by decide +kernel
theorem dX7_signed_2 : decode cX7_signed 2 = .ok (.putfield 1, 3) := by decide +kernel
theorem dX7_signed_5 : decode cX7_signed 5 = .ok (.aload_n 0, 1) := by decide +kernel
theorem dX7_signed_6 : decode cX7_signed 6 = .ok (.iload_n 1, 1) := by decide +kernel
theorem dX7_signed_7 : decode cX7_signed 7 = .ok (.iconst 1, 1) := by decide +kernel
theorem dX7_signed_8 : decode cX7_signed 8 = .ok (.invokevirtual 374, 3) := by decide +kernel
theorem dX7_signed_11 : decode cX7_signed 11 = .ok (.ifCond .eq 33, 3) := by decide +kernel
theorem dX7_signed_14 : decode cX7_signed 14 = .ok (.aload_n 0, 1) := by decide +kernel
theorem dX7_signed_15 : decode cX7_signed 15 = .ok (.iload_n 2, 1) := by decide +kernel
theorem dX7_signed_16 : decode cX7_signed 16 = .ok (.ifCond .lt 19, 3) := by decide +kernel
theorem dX7_signed_19 : decode cX7_signed 19 = .ok (.iload_n 3, 1) := by decide +kernel
theorem dX7_signed_20 : decode cX7_signed 20 = .ok (.i2l, 1) := by decide +kernel
theorem dX7_signed_21 : decode cX7_signed 21 = .ok (.lconst 0, 1) := by decide +kernel
theorem dX7_signed_22 : decode cX7_signed 22 = .ok (.ldc2_w 246, 3) := by decide +kernel
theorem dX7_signed_25 : decode cX7_signed 25 = .ok (.invokestatic 352, 3) := by decide +kernel
theorem dX7_signed_28 : decode cX7_signed 28 = .ok (.ifCond .eq 7, 3) := by decide +kernel
theorem dX7_signed_31 : decode cX7_signed 31 = .ok (.iconst 1, 1) := by decide +kernel
theorem dX7_signed_32 : decode cX7_signed 32 = .ok (.goto 4, 3) := by decide +kernel
theorem dX7_signed_35 : decode cX7_signed 35 = .ok (.iconst 0, 1) := by decide +kernel
theorem dX7_signed_36 : decode cX7_signed 36 = .ok (.iconst 2, 1) := by decide +kernel
theorem dX7_signed_37 : decode cX7_signed 37 = .ok (.iconst 1, 1) := by decide +kernel
theorem dX7_signed_38 : decode cX7_signed 38 = .ok (.invokevirtual 346, 3) := by decide +kernel
theorem dX7_signed_41 : decode cX7_signed 41 = .ok (.ifCond .ne 5, 3) := by decide +kernel
theorem dX7_signed_44 : decode cX7_signed 44 = .ok (.lconst 0, 1) := by decide +kernel
theorem dX7_signed_45 : decode cX7_signed 45 = .ok (.lreturn, 1) := by decide +kernel
theorem dX7_signed_46 : decode cX7_signed 46 = .ok (.iload_n 2, 1) := by decide +kernel
theorem dX7_signed_47 : decode cX7_signed 47 = .ok (.aload_n 0, 1) := by decide +kernel
theorem dX7_signed_48 : decode cX7_signed 48 = .ok (.getfield 48, 3) := by decide +kernel
theorem dX7_signed_51 : decode cX7_signed 51 = .ok (.iload_n 1, 1) := by decide +kernel
theorem dX7_signed_52 : decode cX7_signed 52 = .ok (.iaload, 1) := by decide +kernel
theorem dX7_signed_53 : decode cX7_signed 53 = .ok (.if_icmp .lt 7, 3) := by decide +kernel
theorem dX7_signed_56 : decode cX7_signed 56 = .ok (.ldc2_w 419, 3) := by decide +kernel
theorem dX7_signed_59 : decode cX7_signed 59 = .ok (.lreturn, 1) := by decide +kernel
theorem dX7_signed_60 : decode cX7_signed 60 = .ok (.iload_n 3, 1) := by decide +kernel
theorem dX7_signed_61 : decode cX7_signed 61 = .ok (.iconst 2, 1) := by decide +kernel
theorem dX7_signed_62 : decode cX7_signed 62 = .ok (.if_icmp .ge 33, 3) := by decide +kernel
theorem dX7_signed_65 : decode cX7_signed 65 = .ok (.iload_n 3, 1) := by decide +kernel
theorem dX7_signed_66 : decode cX7_signed 66 = .ok (.ifCond .ne 17, 3) := by decide +kernel
theorem dX7_signed_69 : decode cX7_signed 69 = .ok (.aload_n 0, 1) := by decide +kernel
theorem dX7_signed_70 : decode cX7_signed 70 = .ok (.getfield 51, 3) := by decide +kernel
theorem dX7_signed_73 : decode cX7_signed 73 = .ok (.iconst 4, 1) := by decide +kernel
theorem dX7_signed_74 : decode cX7_signed 74 = .ok (.iload_n 1, 1) := by decide +kernel
theorem dX7_signed_75 : decode cX7_signed 75 = .ok (.imul, 1) := by decide +kernel
theorem dX7_signed_76 : decode cX7_signed 76 = .ok (.iload_n 2, 1) := by decide +kernel
theorem dX7_signed_77 : decode cX7_signed 77 = .ok (.iadd, 1) := by decide +kernel
theorem dX7_signed_78 : decode cX7_signed 78 = .ok (.iaload, 1) := by decide +kernel
theorem dX7_signed_79 : decode cX7_signed 79 = .ok (.i2l, 1) := by decide +kernel
theorem dX7_signed_80 : decode cX7_signed 80 = .ok (.goto 14, 3) := by decide +kernel
theorem dX7_signed_83 : decode cX7_signed 83 = .ok (.aload_n 0, 1) := by decide +kernel
theorem dX7_signed_84 : decode cX7_signed 84 = .ok (.getfield 54, 3) := by decide +kernel
theorem dX7_signed_87 : decode cX7_signed 87 = .ok (.iconst 4, 1) := by decide +kernel
theorem dX7_signed_88 : decode cX7_signed 88 = .ok (.iload_n 1, 1) := by decide +kernel
theorem dX7_signed_89 : decode cX7_signed 89 = .ok (.imul, 1) := by decide +kernel
theorem dX7_signed_90 : decode cX7_signed 90 = .ok (.iload_n 2, 1) := by decide +kernel
theorem dX7_signed_91 : decode cX7_signed 91 = .ok (.iadd, 1) := by decide +kernel
theorem dX7_signed_92 : decode cX7_signed 92 = .ok (.iaload, 1) := by decide +kernel
theorem dX7_signed_93 : decode cX7_signed 93 = .ok (.i2l, 1) := by decide +kernel
theorem dX7_signed_94 : decode cX7_signed 94 = .ok (.lreturn, 1) := by decide +kernel
theorem dX7_signed_95 : decode cX7_signed 95 = .ok (.lconst 0, 1) := by decide +kernel
theorem dX7_signed_96 : decode cX7_signed 96 = .ok (.lstore 4, 2) := by decide +kernel
theorem dX7_signed_98 : decode cX7_signed 98 = .ok (.iconst 0, 1) := by decide +kernel
theorem dX7_signed_99 : decode cX7_signed 99 = .ok (.istore 6, 2) := by decide +kernel
theorem dX7_signed_101 : decode cX7_signed 101 = .ok (.iload 6, 2) := by decide +kernel
theorem dX7_signed_103 : decode cX7_signed 103 = .ok (.bipush 24, 2) := by decide +kernel
theorem dX7_signed_105 : decode cX7_signed 105 = .ok (.if_icmp .ge 32, 3) := by decide +kernel
theorem dX7_signed_108 : decode cX7_signed 108 = .ok (.lload 4, 2) := by decide +kernel
theorem dX7_signed_110 : decode cX7_signed 110 = .ok (.aload_n 0, 1) := by decide +kernel
theorem dX7_signed_111 : decode cX7_signed 111 = .ok (.getfield 85, 3) := by decide +kernel
theorem dX7_signed_114 : decode cX7_signed 114 = .ok (.sipush 160, 3) := by decide +kernel
theorem dX7_signed_117 : decode cX7_signed 117 = .ok (.iload 6, 2) := by decide +kernel
theorem dX7_signed_119 : decode cX7_signed 119 = .ok (.imul, 1) := by decide +kernel
theorem dX7_signed_120 : decode cX7_signed 120 = .ok (.iconst 4, 1) := by decide +kernel
theorem dX7_signed_121 : decode cX7_signed 121 = .ok (.iload_n 1, 1) := by decide +kernel
theorem dX7_signed_122 : decode cX7_signed 122 = .ok (.imul, 1) := by decide +kernel
theorem dX7_signed_123 : decode cX7_signed 123 = .ok (.iadd, 1) := by decide +kernel
theorem dX7_signed_124 : decode cX7_signed 124 = .ok (.iload_n 2, 1) := by decide +kernel
theorem dX7_signed_125 : decode cX7_signed 125 = .ok (.iadd, 1) := by decide +kernel
theorem dX7_signed_126 : decode cX7_signed 126 = .ok (.iaload, 1) := by decide +kernel
theorem dX7_signed_127 : decode cX7_signed 127 = .ok (.i2l, 1) := by decide +kernel
theorem dX7_signed_128 : decode cX7_signed 128 = .ok (.ladd, 1) := by decide +kernel
theorem dX7_signed_129 : decode cX7_signed 129 = .ok (.lstore 4, 2) := by decide +kernel
theorem dX7_signed_131 : decode cX7_signed 131 = .ok (.iinc 6 1, 3) := by decide +kernel
theorem dX7_signed_134 : decode cX7_signed 134 = .ok (.goto (-33), 3) := by decide +kernel
theorem dX7_signed_137 : decode cX7_signed 137 = .ok (.lload 4, 2) := by decide +kernel
theorem dX7_signed_139 : decode cX7_signed 139 = .ok (.lreturn, 1) := by decide +kernel
theorem dX7_ofYear_0 : decode cX7_ofYear 0 = .ok (.lconst 0, 1) := by decide +kernel
theorem dX7_ofYear_1 : decode cX7_ofYear 1 = .ok (.lstore_n 3, 1) := by decide +kernel
theorem dX7_ofYear_2 : decode cX7_ofYear 2 = .ok (.iconst 0, 1) := by decide +kernel
theorem dX7_ofYear_3 : decode cX7_ofYear 3 = .ok (.istore 5, 2) := by decide +kernel
theorem dX7_ofYear_5 : decode cX7_ofYear 5 = .ok (.iload 5, 2) := by decide +kernel
theorem dX7_ofYear_7 : decode cX7_ofYear 7 = .ok (.bipush 40, 2) := by decide +kernel
theorem dX7_ofYear_9 : decode cX7_ofYear 9 = .ok (.if_icmp .ge 77, 3) := by decide +kernel
theorem dX7_ofYear_12 : decode cX7_ofYear 12 = .ok (.aload_n 0, 1) := by decide +kernel
theorem dX7_ofYear_13 : decode cX7_ofYear 13 = .ok (.iload 5, 2) := by decide +kernel
theorem dX7_ofYear_15 : decode cX7_ofYear 15 = .ok (.iload_n 1, 1) := by decide +kernel
theorem dX7_ofYear_16 : decode cX7_ofYear 16 = .ok (.invokevirtual 283, 3) := by decide +kernel
theorem dX7_ofYear_19 : decode cX7_ofYear 19 = .ok (.ifCond .ne 6, 3) := by decide +kernel
theorem dX7_ofYear_22 : decode cX7_ofYear 22 = .ok (.goto 58, 3) := by decide +kernel
theorem dX7_ofYear_25 : decode cX7_ofYear 25 = .ok (.lload_n 3, 1) := by decide +kernel
theorem dX7_ofYear_26 : decode cX7_ofYear 26 = .ok (.iload_n 2, 1) := by decide +kernel
theorem dX7_ofYear_27 : decode cX7_ofYear 27 = .ok (.iconst 3, 1) := by decide +kernel
theorem dX7_ofYear_28 : decode cX7_ofYear 28 = .ok (.if_icmp .ne 14, 3) := by decide +kernel
theorem dX7_ofYear_31 : decode cX7_ofYear 31 = .ok (.aload_n 0, 1) := by decide +kernel
theorem dX7_ofYear_32 : decode cX7_ofYear 32 = .ok (.getfield 42, 3) := by decide +kernel
theorem dX7_ofYear_35 : decode cX7_ofYear 35 = .ok (.iload 5, 2) := by decide +kernel
theorem dX7_ofYear_37 : decode cX7_ofYear 37 = .ok (.iaload, 1) := by decide +kernel
theorem dX7_ofYear_38 : decode cX7_ofYear 38 = .ok (.i2l, 1) := by decide +kernel
theorem dX7_ofYear_39 : decode cX7_ofYear 39 = .ok (.goto 39, 3) := by decide +kernel
theorem dX7_ofYear_42 : decode cX7_ofYear 42 = .ok (.iload_n 2, 1) := by decide +kernel
theorem dX7_ofYear_43 : decode cX7_ofYear 43 = .ok (.iconst 4, 1) := by decide +kernel
theorem dX7_ofYear_44 : decode cX7_ofYear 44 = .ok (.if_icmp .ne 13, 3) := by decide +kernel
theorem dX7_ofYear_47 : decode cX7_ofYear 47 = .ok (.aload_n 0, 1) := by decide +kernel
theorem dX7_ofYear_48 : decode cX7_ofYear 48 = .ok (.iload 5, 2) := by decide +kernel
theorem dX7_ofYear_50 : decode cX7_ofYear 50 = .ok (.invokevirtual 172, 3) := by decide +kernel
theorem dX7_ofYear_53 : decode cX7_ofYear 53 = .ok (.i2l, 1) := by decide +kernel
theorem dX7_ofYear_54 : decode cX7_ofYear 54 = .ok (.goto 24, 3) := by decide +kernel
theorem dX7_ofYear_57 : decode cX7_ofYear 57 = .ok (.iload_n 2, 1) := by decide +kernel
theorem dX7_ofYear_58 : decode cX7_ofYear 58 = .ok (.iconst 5, 1) := by decide +kernel
theorem dX7_ofYear_59 : decode cX7_ofYear 59 = .ok (.if_icmp .ne 13, 3) := by decide +kernel
theorem dX7_ofYear_62 : decode cX7_ofYear 62 = .ok (.aload_n 0, 1) := by decide +kernel
theorem dX7_ofYear_63 : decode cX7_ofYear 63 = .ok (.getfield 57, 3) := by decide +kernel
theorem dX7_ofYear_66 : decode cX7_ofYear 66 = .ok (.iload 5, 2) := by decide +kernel
theorem dX7_ofYear_68 : decode cX7_ofYear 68 = .ok (.laload, 1) := by decide +kernel
theorem dX7_ofYear_69 : decode cX7_ofYear 69 = .ok (.goto 9, 3) := by decide +kernel
theorem dX7_ofYear_72 : decode cX7_ofYear 72 = .ok (.aload_n 0, 1) := by decide +kernel
theorem dX7_ofYear_73 : decode cX7_ofYear 73 = .ok (.iload 5, 2) := by decide +kernel
theorem dX7_ofYear_75 : decode cX7_ofYear 75 = .ok (.invokevirtual 175, 3) := by decide +kernel
theorem dX7_ofYear_78 : decode cX7_ofYear 78 = .ok (.ladd, 1) := by decide +kernel
theorem dX7_ofYear_79 : decode cX7_ofYear 79 = .ok (.lstore_n 3, 1) := by decide +kernel
theorem dX7_ofYear_80 : decode cX7_ofYear 80 = .ok (.iinc 5 1, 3) := by decide +kernel
theorem dX7_ofYear_83 : decode cX7_ofYear 83 = .ok (.goto (-78), 3) := by decide +kernel
theorem dX7_ofYear_86 : decode cX7_ofYear 86 = .ok (.lload_n 3, 1) := by decide +kernel
theorem dX7_ofYear_87 : decode cX7_ofYear 87 = .ok (.lreturn, 1) := by decide +kernel
theorem dX7_year_0 : decode cX7_year 0 = .ok (.aload_n 0, 1) := by decide +kernel
theorem dX7_year_1 : decode cX7_year 1 = .ok (.iconst 0, 1) := by decide +kernel
theorem dX7_year_2 : decode cX7_year 2 = .ok (.putfield 1, 3) := by decide +kernel
theorem dX7_year_5 : decode cX7_year 5 = .ok (.aload_n 0, 1) := by decide +kernel
theorem dX7_year_6 : decode cX7_year 6 = .ok (.iload_n 1, 1) := by decide +kernel
theorem dX7_year_7 : decode cX7_year 7 = .ok (.i2l, 1) := by decide +kernel
theorem dX7_year_8 : decode cX7_year 8 = .ok (.lconst 0, 1) := by decide +kernel
theorem dX7_year_9 : decode cX7_year 9 = .ok (.ldc2_w 350, 3) := by decide +kernel
theorem dX7_year_12 : decode cX7_year 12 = .ok (.invokestatic 352, 3) := by decide +kernel
theorem dX7_year_15 : decode cX7_year 15 = .ok (.ifCond .eq 19, 3) := by decide +kernel
theorem dX7_year_18 : decode cX7_year 18 = .ok (.iload_n 2, 1) := by decide +kernel
theorem dX7_year_19 : decode cX7_year 19 = .ok (.i2l, 1) := by decide +kernel
theorem dX7_year_20 : decode cX7_year 20 = .ok (.lconst 0, 1) := by decide +kernel
theorem dX7_year_21 : decode cX7_year 21 = .ok (.ldc2_w 421, 3) := by decide +kernel
theorem dX7_year_24 : decode cX7_year 24 = .ok (.invokestatic 352, 3) := by decide +kernel
theorem dX7_year_27 : decode cX7_year 27 = .ok (.ifCond .eq 7, 3) := by decide +kernel
theorem dX7_year_30 : decode cX7_year 30 = .ok (.iconst 1, 1) := by decide +kernel
theorem dX7_year_31 : decode cX7_year 31 = .ok (.goto 4, 3) := by decide +kernel
theorem dX7_year_34 : decode cX7_year 34 = .ok (.iconst 0, 1) := by decide +kernel
theorem dX7_year_35 : decode cX7_year 35 = .ok (.iconst 1, 1) := by decide +kernel
theorem dX7_year_36 : decode cX7_year 36 = .ok (.iconst 1, 1) := by decide +kernel
theorem dX7_year_37 : decode cX7_year 37 = .ok (.invokevirtual 346, 3) := by decide +kernel
theorem dX7_year_40 : decode cX7_year 40 = .ok (.ifCond .ne 5, 3) := by decide +kernel
theorem dX7_year_43 : decode cX7_year 43 = .ok (.lconst 0, 1) := by decide +kernel
theorem dX7_year_44 : decode cX7_year 44 = .ok (.lreturn, 1) := by decide +kernel
theorem dX7_year_45 : decode cX7_year 45 = .ok (.aload_n 0, 1) := by decide +kernel
theorem dX7_year_46 : decode cX7_year 46 = .ok (.iload_n 1, 1) := by decide +kernel
theorem dX7_year_47 : decode cX7_year 47 = .ok (.invokevirtual 169, 3) := by decide +kernel
theorem dX7_year_50 : decode cX7_year 50 = .ok (.istore_n 3, 1) := by decide +kernel
theorem dX7_year_51 : decode cX7_year 51 = .ok (.iload_n 2, 1) := by decide +kernel
theorem dX7_year_52 : decode cX7_year 52 = .ok (.ifCond .ne 6, 3) := by decide +kernel
theorem dX7_year_55 : decode cX7_year 55 = .ok (.iload_n 3, 1) := by decide +kernel
theorem dX7_year_56 : decode cX7_year 56 = .ok (.i2l, 1) := by decide +kernel
theorem dX7_year_57 : decode cX7_year 57 = .ok (.lreturn, 1) := by decide +kernel
theorem dX7_year_58 : decode cX7_year 58 = .ok (.iload_n 2, 1) := by decide +kernel
theorem dX7_year_59 : decode cX7_year 59 = .ok (.iconst 2, 1) := by decide +kernel
theorem dX7_year_60 : decode cX7_year 60 = .ok (.if_icmp .le 10, 3) := by decide +kernel
theorem dX7_year_63 : decode cX7_year 63 = .ok (.aload_n 0, 1) := by decide +kernel
theorem dX7_year_64 : decode cX7_year 64 = .ok (.iload_n 1, 1) := by decide +kernel
theorem dX7_year_65 : decode cX7_year 65 = .ok (.iload_n 2, 1) := by decide +kernel
theorem dX7_year_66 : decode cX7_year 66 = .ok (.invokevirtual 423, 3) := by decide +kernel
theorem dX7_year_69 : decode cX7_year 69 = .ok (.lreturn, 1) := by decide +kernel
theorem dX7_year_70 : decode cX7_year 70 = .ok (.iload_n 3, 1) := by decide +kernel
theorem dX7_year_71 : decode cX7_year 71 = .ok (.ifCond .ne 7, 3) := by decide +kernel
theorem dX7_year_74 : decode cX7_year 74 = .ok (.ldc2_w 419, 3) := by decide +kernel
theorem dX7_year_77 : decode cX7_year 77 = .ok (.lreturn, 1) := by decide +kernel
theorem dX7_year_78 : decode cX7_year 78 = .ok (.iload_n 2, 1) := by decide +kernel
theorem dX7_year_79 : decode cX7_year 79 = .ok (.iconst 1, 1) := by decide +kernel
theorem dX7_year_80 : decode cX7_year 80 = .ok (.if_icmp .ne 18, 3) := by decide +kernel
theorem dX7_year_83 : decode cX7_year 83 = .ok (.aload_n 0, 1) := by decide +kernel
theorem dX7_year_84 : decode cX7_year 84 = .ok (.getfield 39, 3) := by decide +kernel
theorem dX7_year_87 : decode cX7_year 87 = .ok (.aload_n 0, 1) := by decide +kernel
theorem dX7_year_88 : decode cX7_year 88 = .ok (.iload_n 1, 1) := by decide +kernel
theorem dX7_year_89 : decode cX7_year 89 = .ok (.iconst 0, 1) := by decide +kernel
theorem dX7_year_90 : decode cX7_year 90 = .ok (.invokevirtual 161, 3) := by decide +kernel
theorem dX7_year_93 : decode cX7_year 93 = .ok (.iaload, 1) := by decide +kernel
theorem dX7_year_94 : decode cX7_year 94 = .ok (.i2l, 1) := by decide +kernel
theorem dX7_year_95 : decode cX7_year 95 = .ok (.goto 16, 3) := by decide +kernel
theorem dX7_year_98 : decode cX7_year 98 = .ok (.aload_n 0, 1) := by decide +kernel
theorem dX7_year_99 : decode cX7_year 99 = .ok (.aload_n 0, 1) := by decide +kernel
theorem dX7_year_100 : decode cX7_year 100 = .ok (.iload_n 1, 1) := by decide +kernel
theorem dX7_year_101 : decode cX7_year 101 = .ok (.iload_n 3, 1) := by decide +kernel
theorem dX7_year_102 : decode cX7_year 102 = .ok (.iconst 1, 1) := by decide +kernel
theorem dX7_year_103 : decode cX7_year 103 = .ok (.isub, 1) := by decide +kernel
theorem dX7_year_104 : decode cX7_year 104 = .ok (.invokevirtual 161, 3) := by decide +kernel
theorem dX7_year_107 : decode cX7_year 107 = .ok (.invokevirtual 165, 3) := by decide +kernel
theorem dX7_year_110 : decode cX7_year 110 = .ok (.i2l, 1) := by decide +kernel
theorem dX7_year_111 : decode cX7_year 111 = .ok (.lreturn, 1) := by decide +kernel
theorem dX7_isHeight_0 : decode cX7_isHeight 0 = .ok (.iload_n 0, 1) := by decide +kernel
theorem dX7_isHeight_1 : decode cX7_isHeight 1 = .ok (.i2l, 1) := by decide +kernel
theorem dX7_isHeight_2 : decode cX7_isHeight 2 = .ok (.lconst 0, 1) := by decide +kernel
theorem dX7_isHeight_3 : decode cX7_isHeight 3 = .ok (.ldc2_w 387, 3) := by decide +kernel
theorem dX7_isHeight_6 : decode cX7_isHeight 6 = .ok (.invokestatic 352, 3) := by decide +kernel
theorem dX7_isHeight_9 : decode cX7_isHeight 9 = .ok (.ireturn, 1) := by decide +kernel
theorem dX7_layerAt_0 : decode cX7_layerAt 0 = .ok (.iconst 0, 1) := by decide +kernel
theorem dX7_layerAt_1 : decode cX7_layerAt 1 = .ok (.istore_n 3, 1) := by decide +kernel
theorem dX7_layerAt_2 : decode cX7_layerAt 2 = .ok (.iload_n 3, 1) := by decide +kernel
theorem dX7_layerAt_3 : decode cX7_layerAt 3 = .ok (.bipush 40, 2) := by decide +kernel
theorem dX7_layerAt_5 : decode cX7_layerAt 5 = .ok (.if_icmp .ge 39, 3) := by decide +kernel
theorem dX7_layerAt_8 : decode cX7_layerAt 8 = .ok (.aload_n 0, 1) := by decide +kernel
theorem dX7_layerAt_9 : decode cX7_layerAt 9 = .ok (.iload_n 3, 1) := by decide +kernel
theorem dX7_layerAt_10 : decode cX7_layerAt 10 = .ok (.iload_n 1, 1) := by decide +kernel
theorem dX7_layerAt_11 : decode cX7_layerAt 11 = .ok (.invokevirtual 283, 3) := by decide +kernel
theorem dX7_layerAt_14 : decode cX7_layerAt 14 = .ok (.ifCond .eq 24, 3) := by decide +kernel
theorem dX7_layerAt_17 : decode cX7_layerAt 17 = .ok (.aload_n 0, 1) := by decide +kernel
theorem dX7_layerAt_18 : decode cX7_layerAt 18 = .ok (.getfield 39, 3) := by decide +kernel
theorem dX7_layerAt_21 : decode cX7_layerAt 21 = .ok (.iload_n 3, 1) := by decide +kernel
theorem dX7_layerAt_22 : decode cX7_layerAt 22 = .ok (.iaload, 1) := by decide +kernel
theorem dX7_layerAt_23 : decode cX7_layerAt 23 = .ok (.iload_n 2, 1) := by decide +kernel
theorem dX7_layerAt_24 : decode cX7_layerAt 24 = .ok (.if_icmp .gt 14, 3) := by decide +kernel
theorem dX7_layerAt_27 : decode cX7_layerAt 27 = .ok (.iload_n 2, 1) := by decide +kernel
theorem dX7_layerAt_28 : decode cX7_layerAt 28 = .ok (.aload_n 0, 1) := by decide +kernel
theorem dX7_layerAt_29 : decode cX7_layerAt 29 = .ok (.iload_n 3, 1) := by decide +kernel
theorem dX7_layerAt_30 : decode cX7_layerAt 30 = .ok (.invokevirtual 165, 3) := by decide +kernel
theorem dX7_layerAt_33 : decode cX7_layerAt 33 = .ok (.if_icmp .ge 5, 3) := by decide +kernel
theorem dX7_layerAt_36 : decode cX7_layerAt 36 = .ok (.iload_n 3, 1) := by decide +kernel
theorem dX7_layerAt_37 : decode cX7_layerAt 37 = .ok (.ireturn, 1) := by decide +kernel
theorem dX7_layerAt_38 : decode cX7_layerAt 38 = .ok (.iinc 3 1, 3) := by decide +kernel
theorem dX7_layerAt_41 : decode cX7_layerAt 41 = .ok (.goto (-39), 3) := by decide +kernel
theorem dX7_layerAt_44 : decode cX7_layerAt 44 = .ok (.iconst (-1), 1) := by decide +kernel
theorem dX7_layerAt_45 : decode cX7_layerAt 45 = .ok (.ireturn, 1) := by decide +kernel
theorem dX7_at_0 : decode cX7_at 0 = .ok (.aload_n 0, 1) := by decide +kernel
theorem dX7_at_1 : decode cX7_at 1 = .ok (.iconst 0, 1) := by decide +kernel
theorem dX7_at_2 : decode cX7_at 2 = .ok (.putfield 1, 3) := by decide +kernel
theorem dX7_at_5 : decode cX7_at 5 = .ok (.aload_n 0, 1) := by decide +kernel
theorem dX7_at_6 : decode cX7_at 6 = .ok (.iload_n 1, 1) := by decide +kernel
theorem dX7_at_7 : decode cX7_at 7 = .ok (.i2l, 1) := by decide +kernel
theorem dX7_at_8 : decode cX7_at 8 = .ok (.lconst 0, 1) := by decide +kernel
theorem dX7_at_9 : decode cX7_at 9 = .ok (.ldc2_w 350, 3) := by decide +kernel
theorem dX7_at_12 : decode cX7_at 12 = .ok (.invokestatic 352, 3) := by decide +kernel
theorem dX7_at_15 : decode cX7_at 15 = .ok (.ifCond .eq 14, 3) := by decide +kernel
theorem dX7_at_18 : decode cX7_at 18 = .ok (.iload_n 2, 1) := by decide +kernel
theorem dX7_at_19 : decode cX7_at 19 = .ok (.invokestatic 426, 3) := by decide +kernel
theorem dX7_at_22 : decode cX7_at 22 = .ok (.ifCond .eq 7, 3) := by decide +kernel
theorem dX7_at_25 : decode cX7_at 25 = .ok (.iconst 1, 1) := by decide +kernel
theorem dX7_at_26 : decode cX7_at 26 = .ok (.goto 4, 3) := by decide +kernel
theorem dX7_at_29 : decode cX7_at 29 = .ok (.iconst 0, 1) := by decide +kernel
theorem dX7_at_30 : decode cX7_at 30 = .ok (.iconst 1, 1) := by decide +kernel
theorem dX7_at_31 : decode cX7_at 31 = .ok (.iconst 1, 1) := by decide +kernel
theorem dX7_at_32 : decode cX7_at 32 = .ok (.invokevirtual 346, 3) := by decide +kernel
theorem dX7_at_35 : decode cX7_at 35 = .ok (.ifCond .ne 5, 3) := by decide +kernel
theorem dX7_at_38 : decode cX7_at 38 = .ok (.iconst 0, 1) := by decide +kernel
theorem dX7_at_39 : decode cX7_at 39 = .ok (.ireturn, 1) := by decide +kernel
theorem dX7_at_40 : decode cX7_at 40 = .ok (.aload_n 0, 1) := by decide +kernel
theorem dX7_at_41 : decode cX7_at 41 = .ok (.iload_n 1, 1) := by decide +kernel
theorem dX7_at_42 : decode cX7_at 42 = .ok (.iload_n 2, 1) := by decide +kernel
theorem dX7_at_43 : decode cX7_at 43 = .ok (.invokevirtual 429, 3) := by decide +kernel
theorem dX7_at_46 : decode cX7_at 46 = .ok (.istore_n 3, 1) := by decide +kernel
theorem dX7_at_47 : decode cX7_at 47 = .ok (.iload_n 3, 1) := by decide +kernel
theorem dX7_at_48 : decode cX7_at 48 = .ok (.iconst (-1), 1) := by decide +kernel
theorem dX7_at_49 : decode cX7_at 49 = .ok (.if_icmp .eq 5, 3) := by decide +kernel
theorem dX7_at_52 : decode cX7_at 52 = .ok (.iload_n 3, 1) := by decide +kernel
theorem dX7_at_53 : decode cX7_at 53 = .ok (.ireturn, 1) := by decide +kernel
theorem dX7_at_54 : decode cX7_at 54 = .ok (.iconst 0, 1) := by decide +kernel
theorem dX7_at_55 : decode cX7_at 55 = .ok (.istore 4, 2) := by decide +kernel
theorem dX7_at_57 : decode cX7_at 57 = .ok (.iload 4, 2) := by decide +kernel
theorem dX7_at_59 : decode cX7_at 59 = .ok (.bipush 40, 2) := by decide +kernel
theorem dX7_at_61 : decode cX7_at 61 = .ok (.if_icmp .ge 32, 3) := by decide +kernel
theorem dX7_at_64 : decode cX7_at 64 = .ok (.aload_n 0, 1) := by decide +kernel
theorem dX7_at_65 : decode cX7_at 65 = .ok (.iload 4, 2) := by decide +kernel
theorem dX7_at_67 : decode cX7_at 67 = .ok (.iload_n 1, 1) := by decide +kernel
theorem dX7_at_68 : decode cX7_at 68 = .ok (.invokevirtual 283, 3) := by decide +kernel
theorem dX7_at_71 : decode cX7_at 71 = .ok (.ifCond .eq 16, 3) := by decide +kernel
theorem dX7_at_74 : decode cX7_at 74 = .ok (.aload_n 0, 1) := by decide +kernel
theorem dX7_at_75 : decode cX7_at 75 = .ok (.getfield 39, 3) := by decide +kernel
theorem dX7_at_78 : decode cX7_at 78 = .ok (.iload 4, 2) := by decide +kernel
theorem dX7_at_80 : decode cX7_at 80 = .ok (.iaload, 1) := by decide +kernel
theorem dX7_at_81 : decode cX7_at 81 = .ok (.iload_n 2, 1) := by decide +kernel
theorem dX7_at_82 : decode cX7_at 82 = .ok (.if_icmp .le 5, 3) := by decide +kernel
theorem dX7_at_85 : decode cX7_at 85 = .ok (.iconst (-1), 1) := by decide +kernel
theorem dX7_at_86 : decode cX7_at 86 = .ok (.ireturn, 1) := by decide +kernel
theorem dX7_at_87 : decode cX7_at 87 = .ok (.iinc 4 1, 3) := by decide +kernel
theorem dX7_at_90 : decode cX7_at 90 = .ok (.goto (-33), 3) := by decide +kernel
theorem dX7_at_93 : decode cX7_at 93 = .ok (.bipush (-2), 2) := by decide +kernel
theorem dX7_at_95 : decode cX7_at 95 = .ok (.ireturn, 1) := by decide +kernel
theorem dX7_rung_0 : decode cX7_rung 0 = .ok (.aload_n 0, 1) := by decide +kernel
theorem dX7_rung_1 : decode cX7_rung 1 = .ok (.iconst 0, 1) := by decide +kernel
theorem dX7_rung_2 : decode cX7_rung 2 = .ok (.putfield 1, 3) := by decide +kernel
theorem dX7_rung_5 : decode cX7_rung 5 = .ok (.aload_n 0, 1) := by decide +kernel
theorem dX7_rung_6 : decode cX7_rung 6 = .ok (.iload_n 1, 1) := by decide +kernel
theorem dX7_rung_7 : decode cX7_rung 7 = .ok (.i2l, 1) := by decide +kernel
theorem dX7_rung_8 : decode cX7_rung 8 = .ok (.lconst 0, 1) := by decide +kernel
theorem dX7_rung_9 : decode cX7_rung 9 = .ok (.ldc2_w 350, 3) := by decide +kernel
theorem dX7_rung_12 : decode cX7_rung 12 = .ok (.invokestatic 352, 3) := by decide +kernel
theorem dX7_rung_15 : decode cX7_rung 15 = .ok (.ifCond .eq 11, 3) := by decide +kernel
theorem dX7_rung_18 : decode cX7_rung 18 = .ok (.iload_n 2, 1) := by decide +kernel
theorem dX7_rung_19 : decode cX7_rung 19 = .ok (.ifCond .lt 7, 3) := by decide +kernel
theorem dX7_rung_22 : decode cX7_rung 22 = .ok (.iconst 1, 1) := by decide +kernel
theorem dX7_rung_23 : decode cX7_rung 23 = .ok (.goto 4, 3) := by decide +kernel
theorem dX7_rung_26 : decode cX7_rung 26 = .ok (.iconst 0, 1) := by decide +kernel
theorem dX7_rung_27 : decode cX7_rung 27 = .ok (.iconst 1, 1) := by decide +kernel
theorem dX7_rung_28 : decode cX7_rung 28 = .ok (.iconst 1, 1) := by decide +kernel
theorem dX7_rung_29 : decode cX7_rung 29 = .ok (.invokevirtual 346, 3) := by decide +kernel
theorem dX7_rung_32 : decode cX7_rung 32 = .ok (.ifCond .ne 5, 3) := by decide +kernel
theorem dX7_rung_35 : decode cX7_rung 35 = .ok (.iconst 0, 1) := by decide +kernel
theorem dX7_rung_36 : decode cX7_rung 36 = .ok (.ireturn, 1) := by decide +kernel
theorem dX7_rung_37 : decode cX7_rung 37 = .ok (.aload_n 0, 1) := by decide +kernel
theorem dX7_rung_38 : decode cX7_rung 38 = .ok (.iload_n 1, 1) := by decide +kernel
theorem dX7_rung_39 : decode cX7_rung 39 = .ok (.iload_n 2, 1) := by decide +kernel
theorem dX7_rung_40 : decode cX7_rung 40 = .ok (.invokevirtual 161, 3) := by decide +kernel
theorem dX7_rung_43 : decode cX7_rung 43 = .ok (.ireturn, 1) := by decide +kernel
theorem dX7_damage_0 : decode cX7_damage 0 = .ok (.aload_n 0, 1) := by decide +kernel
theorem dX7_damage_1 : decode cX7_damage 1 = .ok (.iconst 0, 1) := by decide +kernel
theorem dX7_damage_2 : decode cX7_damage 2 = .ok (.putfield 1, 3) := by decide +kernel
theorem dX7_damage_5 : decode cX7_damage 5 = .ok (.aload_n 0, 1) := by decide +kernel
theorem dX7_damage_6 : decode cX7_damage 6 = .ok (.iload_n 1, 1) := by decide +kernel
theorem dX7_damage_7 : decode cX7_damage 7 = .ok (.invokevirtual 397, 3) := by decide +kernel
theorem dX7_damage_10 : decode cX7_damage 10 = .ok (.ifCond .eq 21, 3) := by decide +kernel
theorem dX7_damage_13 : decode cX7_damage 13 = .ok (.aload_n 0, 1) := by decide +kernel
theorem dX7_damage_14 : decode cX7_damage 14 = .ok (.iload_n 2, 1) := by decide +kernel
theorem dX7_damage_15 : decode cX7_damage 15 = .ok (.i2l, 1) := by decide +kernel
theorem dX7_damage_16 : decode cX7_damage 16 = .ok (.lconst 0, 1) := by decide +kernel
theorem dX7_damage_17 : decode cX7_damage 17 = .ok (.ldc2_w 432, 3) := by decide +kernel
theorem dX7_damage_20 : decode cX7_damage 20 = .ok (.invokestatic 352, 3) := by decide +kernel
theorem dX7_damage_23 : decode cX7_damage 23 = .ok (.iconst 2, 1) := by decide +kernel
theorem dX7_damage_24 : decode cX7_damage 24 = .ok (.iconst 1, 1) := by decide +kernel
theorem dX7_damage_25 : decode cX7_damage 25 = .ok (.invokevirtual 346, 3) := by decide +kernel
theorem dX7_damage_28 : decode cX7_damage 28 = .ok (.ifCond .ne 5, 3) := by decide +kernel
theorem dX7_damage_31 : decode cX7_damage 31 = .ok (.lconst 0, 1) := by decide +kernel
theorem dX7_damage_32 : decode cX7_damage 32 = .ok (.lreturn, 1) := by decide +kernel
theorem dX7_damage_33 : decode cX7_damage 33 = .ok (.iload_n 2, 1) := by decide +kernel
theorem dX7_damage_34 : decode cX7_damage 34 = .ok (.iconst 3, 1) := by decide +kernel
theorem dX7_damage_35 : decode cX7_damage 35 = .ok (.if_icmp .ge 40, 3) := by decide +kernel
theorem dX7_damage_38 : decode cX7_damage 38 = .ok (.iload_n 2, 1) := by decide +kernel
theorem dX7_damage_39 : decode cX7_damage 39 = .ok (.ifCond .ne 13, 3) := by decide +kernel
theorem dX7_damage_42 : decode cX7_damage 42 = .ok (.aload_n 0, 1) := by decide +kernel
theorem dX7_damage_43 : decode cX7_damage 43 = .ok (.getfield 61, 3) := by decide +kernel
theorem dX7_damage_46 : decode cX7_damage 46 = .ok (.iload_n 1, 1) := by decide +kernel
theorem dX7_damage_47 : decode cX7_damage 47 = .ok (.iaload, 1) := by decide +kernel
theorem dX7_damage_48 : decode cX7_damage 48 = .ok (.i2l, 1) := by decide +kernel
theorem dX7_damage_49 : decode cX7_damage 49 = .ok (.goto 25, 3) := by decide +kernel
theorem dX7_damage_52 : decode cX7_damage 52 = .ok (.iload_n 2, 1) := by decide +kernel
theorem dX7_damage_53 : decode cX7_damage 53 = .ok (.iconst 1, 1) := by decide +kernel
theorem dX7_damage_54 : decode cX7_damage 54 = .ok (.if_icmp .ne 13, 3) := by decide +kernel
theorem dX7_damage_57 : decode cX7_damage 57 = .ok (.aload_n 0, 1) := by decide +kernel
theorem dX7_damage_58 : decode cX7_damage 58 = .ok (.getfield 64, 3) := by decide +kernel
theorem dX7_damage_61 : decode cX7_damage 61 = .ok (.iload_n 1, 1) := by decide +kernel
theorem dX7_damage_62 : decode cX7_damage 62 = .ok (.iaload, 1) := by decide +kernel
theorem dX7_damage_63 : decode cX7_damage 63 = .ok (.i2l, 1) := by decide +kernel
theorem dX7_damage_64 : decode cX7_damage 64 = .ok (.goto 10, 3) := by decide +kernel
theorem dX7_damage_67 : decode cX7_damage 67 = .ok (.aload_n 0, 1) := by decide +kernel
theorem dX7_damage_68 : decode cX7_damage 68 = .ok (.getfield 67, 3) := by decide +kernel
theorem dX7_damage_71 : decode cX7_damage 71 = .ok (.iload_n 1, 1) := by decide +kernel
theorem dX7_damage_72 : decode cX7_damage 72 = .ok (.iaload, 1) := by decide +kernel
theorem dX7_damage_73 : decode cX7_damage 73 = .ok (.i2l, 1) := by decide +kernel
theorem dX7_damage_74 : decode cX7_damage 74 = .ok (.lreturn, 1) := by decide +kernel
theorem dX7_damage_75 : decode cX7_damage 75 = .ok (.iload_n 2, 1) := by decide +kernel
theorem dX7_damage_76 : decode cX7_damage 76 = .ok (.iconst 3, 1) := by decide +kernel
theorem dX7_damage_77 : decode cX7_damage 77 = .ok (.if_icmp .ne 12, 3) := by decide +kernel
theorem dX7_damage_80 : decode cX7_damage 80 = .ok (.aload_n 0, 1) := by decide +kernel
theorem dX7_damage_81 : decode cX7_damage 81 = .ok (.getfield 73, 3) := by decide +kernel
theorem dX7_damage_84 : decode cX7_damage 84 = .ok (.iload_n 1, 1) := by decide +kernel
theorem dX7_damage_85 : decode cX7_damage 85 = .ok (.laload, 1) := by decide +kernel
theorem dX7_damage_86 : decode cX7_damage 86 = .ok (.goto 23, 3) := by decide +kernel
theorem dX7_damage_89 : decode cX7_damage 89 = .ok (.iload_n 2, 1) := by decide +kernel
theorem dX7_damage_90 : decode cX7_damage 90 = .ok (.iconst 4, 1) := by decide +kernel
theorem dX7_damage_91 : decode cX7_damage 91 = .ok (.if_icmp .ne 11, 3) := by decide +kernel
theorem dX7_damage_94 : decode cX7_damage 94 = .ok (.aload_n 0, 1) := by decide +kernel
theorem dX7_damage_95 : decode cX7_damage 95 = .ok (.iload_n 1, 1) := by decide +kernel
theorem dX7_damage_96 : decode cX7_damage 96 = .ok (.invokevirtual 277, 3) := by decide +kernel
theorem dX7_damage_99 : decode cX7_damage 99 = .ok (.goto 10, 3) := by decide +kernel
theorem dX7_damage_102 : decode cX7_damage 102 = .ok (.aload_n 0, 1) := by decide +kernel
theorem dX7_damage_103 : decode cX7_damage 103 = .ok (.getfield 70, 3) := by decide +kernel
theorem dX7_damage_106 : decode cX7_damage 106 = .ok (.iload_n 1, 1) := by decide +kernel
theorem dX7_damage_107 : decode cX7_damage 107 = .ok (.iaload, 1) := by decide +kernel
theorem dX7_damage_108 : decode cX7_damage 108 = .ok (.i2l, 1) := by decide +kernel
theorem dX7_damage_109 : decode cX7_damage 109 = .ok (.lreturn, 1) := by decide +kernel
theorem dX7_areBoth_0 : decode cX7_areBoth 0 = .ok (.aload_n 0, 1) := by decide +kernel
theorem dX7_areBoth_1 : decode cX7_areBoth 1 = .ok (.iload_n 1, 1) := by decide +kernel
theorem dX7_areBoth_2 : decode cX7_areBoth 2 = .ok (.i2l, 1) := by decide +kernel
theorem dX7_areBoth_3 : decode cX7_areBoth 3 = .ok (.lconst 0, 1) := by decide +kernel
theorem dX7_areBoth_4 : decode cX7_areBoth 4 = .ok (.ldc2_w 395, 3) := by decide +kernel
theorem dX7_areBoth_7 : decode cX7_areBoth 7 = .ok (.invokestatic 352, 3) := by decide +kernel
theorem dX7_areBoth_10 : decode cX7_areBoth 10 = .ok (.ifCond .eq 37, 3) := by decide +kernel
theorem dX7_areBoth_13 : decode cX7_areBoth 13 = .ok (.aload_n 0, 1) := by decide +kernel
theorem dX7_areBoth_14 : decode cX7_areBoth 14 = .ok (.getfield 33, 3) := by decide +kernel
theorem dX7_areBoth_17 : decode cX7_areBoth 17 = .ok (.iload_n 1, 1) := by decide +kernel
theorem dX7_areBoth_18 : decode cX7_areBoth 18 = .ok (.baload, 1) := by decide +kernel
theorem dX7_areBoth_19 : decode cX7_areBoth 19 = .ok (.ifCond .eq 28, 3) := by decide +kernel
theorem dX7_areBoth_22 : decode cX7_areBoth 22 = .ok (.iload_n 2, 1) := by decide +kernel
theorem dX7_areBoth_23 : decode cX7_areBoth 23 = .ok (.i2l, 1) := by decide +kernel
theorem dX7_areBoth_24 : decode cX7_areBoth 24 = .ok (.lconst 0, 1) := by decide +kernel
theorem dX7_areBoth_25 : decode cX7_areBoth 25 = .ok (.ldc2_w 372, 3) := by decide +kernel
theorem dX7_areBoth_28 : decode cX7_areBoth 28 = .ok (.invokestatic 352, 3) := by decide +kernel
theorem dX7_areBoth_31 : decode cX7_areBoth 31 = .ok (.ifCond .eq 16, 3) := by decide +kernel
theorem dX7_areBoth_34 : decode cX7_areBoth 34 = .ok (.aload_n 0, 1) := by decide +kernel
theorem dX7_areBoth_35 : decode cX7_areBoth 35 = .ok (.getfield 29, 3) := by decide +kernel
theorem dX7_areBoth_38 : decode cX7_areBoth 38 = .ok (.iload_n 2, 1) := by decide +kernel
theorem dX7_areBoth_39 : decode cX7_areBoth 39 = .ok (.baload, 1) := by decide +kernel
theorem dX7_areBoth_40 : decode cX7_areBoth 40 = .ok (.ifCond .eq 7, 3) := by decide +kernel
theorem dX7_areBoth_43 : decode cX7_areBoth 43 = .ok (.iconst 1, 1) := by decide +kernel
theorem dX7_areBoth_44 : decode cX7_areBoth 44 = .ok (.goto 4, 3) := by decide +kernel
theorem dX7_areBoth_47 : decode cX7_areBoth 47 = .ok (.iconst 0, 1) := by decide +kernel
theorem dX7_areBoth_48 : decode cX7_areBoth 48 = .ok (.iconst 1, 1) := by decide +kernel
theorem dX7_areBoth_49 : decode cX7_areBoth 49 = .ok (.iconst 0, 1) := by decide +kernel
theorem dX7_areBoth_50 : decode cX7_areBoth 50 = .ok (.invokevirtual 346, 3) := by decide +kernel
theorem dX7_areBoth_53 : decode cX7_areBoth 53 = .ok (.ireturn, 1) := by decide +kernel
theorem dX7_took_0 : decode cX7_took 0 = .ok (.aload_n 0, 1) := by decide +kernel
theorem dX7_took_1 : decode cX7_took 1 = .ok (.iconst 0, 1) := by decide +kernel
theorem dX7_took_2 : decode cX7_took 2 = .ok (.putfield 1, 3) := by decide +kernel
theorem dX7_took_5 : decode cX7_took 5 = .ok (.aload_n 0, 1) := by decide +kernel
theorem dX7_took_6 : decode cX7_took 6 = .ok (.iload_n 1, 1) := by decide +kernel
theorem dX7_took_7 : decode cX7_took 7 = .ok (.iload_n 2, 1) := by decide +kernel
theorem dX7_took_8 : decode cX7_took 8 = .ok (.invokevirtual 434, 3) := by decide +kernel
theorem dX7_took_11 : decode cX7_took 11 = .ok (.ifCond .eq 17, 3) := by decide +kernel
theorem dX7_took_14 : decode cX7_took 14 = .ok (.aload_n 0, 1) := by decide +kernel
theorem dX7_took_15 : decode cX7_took 15 = .ok (.getfield 76, 3) := by decide +kernel
theorem dX7_took_18 : decode cX7_took 18 = .ok (.bipush 40, 2) := by decide +kernel
theorem dX7_took_20 : decode cX7_took 20 = .ok (.iload_n 1, 1) := by decide +kernel
theorem dX7_took_21 : decode cX7_took 21 = .ok (.imul, 1) := by decide +kernel
theorem dX7_took_22 : decode cX7_took 22 = .ok (.iload_n 2, 1) := by decide +kernel
theorem dX7_took_23 : decode cX7_took 23 = .ok (.iadd, 1) := by decide +kernel
theorem dX7_took_24 : decode cX7_took 24 = .ok (.laload, 1) := by decide +kernel
theorem dX7_took_25 : decode cX7_took 25 = .ok (.goto 4, 3) := by decide +kernel
theorem dX7_took_28 : decode cX7_took 28 = .ok (.lconst 0, 1) := by decide +kernel
theorem dX7_took_29 : decode cX7_took 29 = .ok (.lreturn, 1) := by decide +kernel
theorem dX7_hole_0 : decode cX7_hole 0 = .ok (.aload_n 0, 1) := by decide +kernel
theorem dX7_hole_1 : decode cX7_hole 1 = .ok (.iconst 0, 1) := by decide +kernel
theorem dX7_hole_2 : decode cX7_hole 2 = .ok (.putfield 1, 3) := by decide +kernel
theorem dX7_hole_5 : decode cX7_hole 5 = .ok (.aload_n 0, 1) := by decide +kernel
theorem dX7_hole_6 : decode cX7_hole 6 = .ok (.iload_n 1, 1) := by decide +kernel
theorem dX7_hole_7 : decode cX7_hole 7 = .ok (.iload_n 2, 1) := by decide +kernel
theorem dX7_hole_8 : decode cX7_hole 8 = .ok (.invokevirtual 434, 3) := by decide +kernel
theorem dX7_hole_11 : decode cX7_hole 11 = .ok (.ifCond .eq 17, 3) := by decide +kernel
theorem dX7_hole_14 : decode cX7_hole 14 = .ok (.aload_n 0, 1) := by decide +kernel
theorem dX7_hole_15 : decode cX7_hole 15 = .ok (.getfield 79, 3) := by decide +kernel
theorem dX7_hole_18 : decode cX7_hole 18 = .ok (.bipush 40, 2) := by decide +kernel
theorem dX7_hole_20 : decode cX7_hole 20 = .ok (.iload_n 1, 1) := by decide +kernel
theorem dX7_hole_21 : decode cX7_hole 21 = .ok (.imul, 1) := by decide +kernel
theorem dX7_hole_22 : decode cX7_hole 22 = .ok (.iload_n 2, 1) := by decide +kernel
theorem dX7_hole_23 : decode cX7_hole 23 = .ok (.iadd, 1) := by decide +kernel
theorem dX7_hole_24 : decode cX7_hole 24 = .ok (.laload, 1) := by decide +kernel
theorem dX7_hole_25 : decode cX7_hole 25 = .ok (.goto 4, 3) := by decide +kernel
theorem dX7_hole_28 : decode cX7_hole 28 = .ok (.lconst 0, 1) := by decide +kernel
theorem dX7_hole_29 : decode cX7_hole 29 = .ok (.lreturn, 1) := by decide +kernel
theorem dX7_moved_0 : decode cX7_moved 0 = .ok (.aload_n 0, 1) := by decide +kernel
theorem dX7_moved_1 : decode cX7_moved 1 = .ok (.iconst 0, 1) := by decide +kernel
theorem dX7_moved_2 : decode cX7_moved 2 = .ok (.putfield 1, 3) := by decide +kernel
theorem dX7_moved_5 : decode cX7_moved 5 = .ok (.aload_n 0, 1) := by decide +kernel
theorem dX7_moved_6 : decode cX7_moved 6 = .ok (.iload_n 1, 1) := by decide +kernel
theorem dX7_moved_7 : decode cX7_moved 7 = .ok (.iload_n 2, 1) := by decide +kernel
theorem dX7_moved_8 : decode cX7_moved 8 = .ok (.invokevirtual 434, 3) := by decide +kernel
theorem dX7_moved_11 : decode cX7_moved 11 = .ok (.ifCond .eq 17, 3) := by decide +kernel
theorem dX7_moved_14 : decode cX7_moved 14 = .ok (.aload_n 0, 1) := by decide +kernel
theorem dX7_moved_15 : decode cX7_moved 15 = .ok (.getfield 82, 3) := by decide +kernel
theorem dX7_moved_18 : decode cX7_moved 18 = .ok (.bipush 40, 2) := by decide +kernel
theorem dX7_moved_20 : decode cX7_moved 20 = .ok (.iload_n 1, 1) := by decide +kernel
theorem dX7_moved_21 : decode cX7_moved 21 = .ok (.imul, 1) := by decide +kernel
theorem dX7_moved_22 : decode cX7_moved 22 = .ok (.iload_n 2, 1) := by decide +kernel
theorem dX7_moved_23 : decode cX7_moved 23 = .ok (.iadd, 1) := by decide +kernel
theorem dX7_moved_24 : decode cX7_moved 24 = .ok (.laload, 1) := by decide +kernel
theorem dX7_moved_25 : decode cX7_moved 25 = .ok (.goto 4, 3) := by decide +kernel
theorem dX7_moved_28 : decode cX7_moved 28 = .ok (.lconst 0, 1) := by decide +kernel
theorem dX7_moved_29 : decode cX7_moved 29 = .ok (.lreturn, 1) := by decide +kernel
theorem dX7_bears_0 : decode cX7_bears 0 = .ok (.aload_n 0, 1) := by decide +kernel
theorem dX7_bears_1 : decode cX7_bears 1 = .ok (.iconst 0, 1) := by decide +kernel
theorem dX7_bears_2 : decode cX7_bears 2 = .ok (.putfield 1, 3) := by decide +kernel
theorem dX7_bears_5 : decode cX7_bears 5 = .ok (.aload_n 0, 1) := by decide +kernel
theorem dX7_bears_6 : decode cX7_bears 6 = .ok (.iload_n 1, 1) := by decide +kernel
theorem dX7_bears_7 : decode cX7_bears 7 = .ok (.invokevirtual 397, 3) := by decide +kernel
theorem dX7_bears_10 : decode cX7_bears 10 = .ok (.ifCond .eq 21, 3) := by decide +kernel
theorem dX7_bears_13 : decode cX7_bears 13 = .ok (.aload_n 0, 1) := by decide +kernel
theorem dX7_bears_14 : decode cX7_bears 14 = .ok (.iload_n 2, 1) := by decide +kernel
theorem dX7_bears_15 : decode cX7_bears 15 = .ok (.i2l, 1) := by decide +kernel
theorem dX7_bears_16 : decode cX7_bears 16 = .ok (.lconst 0, 1) := by decide +kernel
theorem dX7_bears_17 : decode cX7_bears 17 = .ok (.ldc2_w 377, 3) := by decide +kernel
theorem dX7_bears_20 : decode cX7_bears 20 = .ok (.invokestatic 352, 3) := by decide +kernel
theorem dX7_bears_23 : decode cX7_bears 23 = .ok (.iconst 2, 1) := by decide +kernel
theorem dX7_bears_24 : decode cX7_bears 24 = .ok (.iconst 1, 1) := by decide +kernel
theorem dX7_bears_25 : decode cX7_bears 25 = .ok (.invokevirtual 346, 3) := by decide +kernel
theorem dX7_bears_28 : decode cX7_bears 28 = .ok (.ifCond .ne 5, 3) := by decide +kernel
theorem dX7_bears_31 : decode cX7_bears 31 = .ok (.lconst 0, 1) := by decide +kernel
theorem dX7_bears_32 : decode cX7_bears 32 = .ok (.lreturn, 1) := by decide +kernel
theorem dX7_bears_33 : decode cX7_bears 33 = .ok (.aload_n 0, 1) := by decide +kernel
theorem dX7_bears_34 : decode cX7_bears 34 = .ok (.iload_n 1, 1) := by decide +kernel
theorem dX7_bears_35 : decode cX7_bears 35 = .ok (.iload_n 2, 1) := by decide +kernel
theorem dX7_bears_36 : decode cX7_bears 36 = .ok (.invokevirtual 280, 3) := by decide +kernel
theorem dX7_bears_39 : decode cX7_bears 39 = .ok (.lreturn, 1) := by decide +kernel
theorem dX7_falls_0 : decode cX7_falls 0 = .ok (.aload_n 0, 1) := by decide +kernel
theorem dX7_falls_1 : decode cX7_falls 1 = .ok (.iconst 0, 1) := by decide +kernel
theorem dX7_falls_2 : decode cX7_falls 2 = .ok (.putfield 1, 3) := by decide +kernel
theorem dX7_falls_5 : decode cX7_falls 5 = .ok (.aload_n 0, 1) := by decide +kernel
theorem dX7_falls_6 : decode cX7_falls 6 = .ok (.iload_n 1, 1) := by decide +kernel
theorem dX7_falls_7 : decode cX7_falls 7 = .ok (.invokevirtual 397, 3) := by decide +kernel
theorem dX7_falls_10 : decode cX7_falls 10 = .ok (.ifCond .eq 21, 3) := by decide +kernel
theorem dX7_falls_13 : decode cX7_falls 13 = .ok (.aload_n 0, 1) := by decide +kernel
theorem dX7_falls_14 : decode cX7_falls 14 = .ok (.iload_n 2, 1) := by decide +kernel
theorem dX7_falls_15 : decode cX7_falls 15 = .ok (.i2l, 1) := by decide +kernel
theorem dX7_falls_16 : decode cX7_falls 16 = .ok (.lconst 0, 1) := by decide +kernel
theorem dX7_falls_17 : decode cX7_falls 17 = .ok (.ldc2_w 421, 3) := by decide +kernel
theorem dX7_falls_20 : decode cX7_falls 20 = .ok (.invokestatic 352, 3) := by decide +kernel
theorem dX7_falls_23 : decode cX7_falls 23 = .ok (.iconst 2, 1) := by decide +kernel
theorem dX7_falls_24 : decode cX7_falls 24 = .ok (.iconst 1, 1) := by decide +kernel
theorem dX7_falls_25 : decode cX7_falls 25 = .ok (.invokevirtual 346, 3) := by decide +kernel
theorem dX7_falls_28 : decode cX7_falls 28 = .ok (.ifCond .ne 5, 3) := by decide +kernel
theorem dX7_falls_31 : decode cX7_falls 31 = .ok (.lconst 0, 1) := by decide +kernel
theorem dX7_falls_32 : decode cX7_falls 32 = .ok (.lreturn, 1) := by decide +kernel
theorem dX7_falls_33 : decode cX7_falls 33 = .ok (.aload_n 0, 1) := by decide +kernel
theorem dX7_falls_34 : decode cX7_falls 34 = .ok (.getfield 91, 3) := by decide +kernel
theorem dX7_falls_37 : decode cX7_falls 37 = .ok (.bipush 7, 2) := by decide +kernel
theorem dX7_falls_39 : decode cX7_falls 39 = .ok (.iload_n 1, 1) := by decide +kernel
theorem dX7_falls_40 : decode cX7_falls 40 = .ok (.imul, 1) := by decide +kernel
theorem dX7_falls_41 : decode cX7_falls 41 = .ok (.iload_n 2, 1) := by decide +kernel
theorem dX7_falls_42 : decode cX7_falls 42 = .ok (.iadd, 1) := by decide +kernel
theorem dX7_falls_43 : decode cX7_falls 43 = .ok (.laload, 1) := by decide +kernel
theorem dX7_falls_44 : decode cX7_falls 44 = .ok (.lreturn, 1) := by decide +kernel
theorem dX7_cashOf_0 : decode cX7_cashOf 0 = .ok (.iload_n 1, 1) := by decide +kernel
theorem dX7_cashOf_1 : decode cX7_cashOf 1 = .ok (.ifCond .le 11, 3) := by decide +kernel
theorem dX7_cashOf_4 : decode cX7_cashOf 4 = .ok (.aload_n 0, 1) := by decide +kernel
theorem dX7_cashOf_5 : decode cX7_cashOf 5 = .ok (.getfield 97, 3) := by decide +kernel
theorem dX7_cashOf_8 : decode cX7_cashOf 8 = .ok (.iload_n 1, 1) := by decide +kernel
theorem dX7_cashOf_9 : decode cX7_cashOf 9 = .ok (.iaload, 1) := by decide +kernel
theorem dX7_cashOf_10 : decode cX7_cashOf 10 = .ok (.i2l, 1) := by decide +kernel
theorem dX7_cashOf_11 : decode cX7_cashOf 11 = .ok (.lreturn, 1) := by decide +kernel
theorem dX7_cashOf_12 : decode cX7_cashOf 12 = .ok (.lconst 0, 1) := by decide +kernel
theorem dX7_cashOf_13 : decode cX7_cashOf 13 = .ok (.lstore_n 2, 1) := by decide +kernel
theorem dX7_cashOf_14 : decode cX7_cashOf 14 = .ok (.iconst 1, 1) := by decide +kernel
theorem dX7_cashOf_15 : decode cX7_cashOf 15 = .ok (.istore 4, 2) := by decide +kernel
theorem dX7_cashOf_17 : decode cX7_cashOf 17 = .ok (.iload 4, 2) := by decide +kernel
theorem dX7_cashOf_19 : decode cX7_cashOf 19 = .ok (.bipush 10, 2) := by decide +kernel
theorem dX7_cashOf_21 : decode cX7_cashOf 21 = .ok (.if_icmp .ge 20, 3) := by decide +kernel
theorem dX7_cashOf_24 : decode cX7_cashOf 24 = .ok (.lload_n 2, 1) := by decide +kernel
theorem dX7_cashOf_25 : decode cX7_cashOf 25 = .ok (.aload_n 0, 1) := by decide +kernel
theorem dX7_cashOf_26 : decode cX7_cashOf 26 = .ok (.getfield 97, 3) := by decide +kernel
theorem dX7_cashOf_29 : decode cX7_cashOf 29 = .ok (.iload 4, 2) := by decide +kernel
theorem dX7_cashOf_31 : decode cX7_cashOf 31 = .ok (.iaload, 1) := by decide +kernel
theorem dX7_cashOf_32 : decode cX7_cashOf 32 = .ok (.i2l, 1) := by decide +kernel
theorem dX7_cashOf_33 : decode cX7_cashOf 33 = .ok (.ladd, 1) := by decide +kernel
theorem dX7_cashOf_34 : decode cX7_cashOf 34 = .ok (.lstore_n 2, 1) := by decide +kernel
theorem dX7_cashOf_35 : decode cX7_cashOf 35 = .ok (.iinc 4 1, 3) := by decide +kernel
theorem dX7_cashOf_38 : decode cX7_cashOf 38 = .ok (.goto (-21), 3) := by decide +kernel
theorem dX7_cashOf_41 : decode cX7_cashOf 41 = .ok (.lload_n 2, 1) := by decide +kernel
theorem dX7_cashOf_42 : decode cX7_cashOf 42 = .ok (.lreturn, 1) := by decide +kernel
theorem dX7_signedBy_0 : decode cX7_signedBy 0 = .ok (.lconst 0, 1) := by decide +kernel
theorem dX7_signedBy_1 : decode cX7_signedBy 1 = .ok (.lstore_n 3, 1) := by decide +kernel
theorem dX7_signedBy_2 : decode cX7_signedBy 2 = .ok (.iconst 0, 1) := by decide +kernel
theorem dX7_signedBy_3 : decode cX7_signedBy 3 = .ok (.istore 5, 2) := by decide +kernel
theorem dX7_signedBy_5 : decode cX7_signedBy 5 = .ok (.iload 5, 2) := by decide +kernel
theorem dX7_signedBy_7 : decode cX7_signedBy 7 = .ok (.bipush 40, 2) := by decide +kernel
theorem dX7_signedBy_9 : decode cX7_signedBy 9 = .ok (.if_icmp .ge 91, 3) := by decide +kernel
theorem dX7_signedBy_12 : decode cX7_signedBy 12 = .ok (.iconst 0, 1) := by decide +kernel
theorem dX7_signedBy_13 : decode cX7_signedBy 13 = .ok (.istore 6, 2) := by decide +kernel
theorem dX7_signedBy_15 : decode cX7_signedBy 15 = .ok (.aload_n 0, 1) := by decide +kernel
theorem dX7_signedBy_16 : decode cX7_signedBy 16 = .ok (.getfield 29, 3) := by decide +kernel
theorem dX7_signedBy_19 : decode cX7_signedBy 19 = .ok (.iload 5, 2) := by decide +kernel
theorem dX7_signedBy_21 : decode cX7_signedBy 21 = .ok (.baload, 1) := by decide +kernel
theorem dX7_signedBy_22 : decode cX7_signedBy 22 = .ok (.ifCond .eq 72, 3) := by decide +kernel
theorem dX7_signedBy_25 : decode cX7_signedBy 25 = .ok (.iload 6, 2) := by decide +kernel
theorem dX7_signedBy_27 : decode cX7_signedBy 27 = .ok (.aload_n 0, 1) := by decide +kernel
theorem dX7_signedBy_28 : decode cX7_signedBy 28 = .ok (.getfield 48, 3) := by decide +kernel
theorem dX7_signedBy_31 : decode cX7_signedBy 31 = .ok (.iload 5, 2) := by decide +kernel
theorem dX7_signedBy_33 : decode cX7_signedBy 33 = .ok (.iaload, 1) := by decide +kernel
theorem dX7_signedBy_34 : decode cX7_signedBy 34 = .ok (.if_icmp .ge 60, 3) := by decide +kernel
theorem dX7_signedBy_37 : decode cX7_signedBy 37 = .ok (.aload_n 0, 1) := by decide +kernel
theorem dX7_signedBy_38 : decode cX7_signedBy 38 = .ok (.getfield 51, 3) := by decide +kernel
theorem dX7_signedBy_41 : decode cX7_signedBy 41 = .ok (.iconst 4, 1) := by decide +kernel
theorem dX7_signedBy_42 : decode cX7_signedBy 42 = .ok (.iload 5, 2) := by decide +kernel
theorem dX7_signedBy_44 : decode cX7_signedBy 44 = .ok (.imul, 1) := by decide +kernel
theorem dX7_signedBy_45 : decode cX7_signedBy 45 = .ok (.iload 6, 2) := by decide +kernel
theorem dX7_signedBy_47 : decode cX7_signedBy 47 = .ok (.iadd, 1) := by decide +kernel
theorem dX7_signedBy_48 : decode cX7_signedBy 48 = .ok (.iaload, 1) := by decide +kernel
theorem dX7_signedBy_49 : decode cX7_signedBy 49 = .ok (.iload_n 1, 1) := by decide +kernel
theorem dX7_signedBy_50 : decode cX7_signedBy 50 = .ok (.if_icmp .ne 38, 3) := by decide +kernel
theorem dX7_signedBy_53 : decode cX7_signedBy 53 = .ok (.lload_n 3, 1) := by decide +kernel
theorem dX7_signedBy_54 : decode cX7_signedBy 54 = .ok (.iload_n 2, 1) := by decide +kernel
theorem dX7_signedBy_55 : decode cX7_signedBy 55 = .ok (.ifCond .ne 7, 3) := by decide +kernel
theorem dX7_signedBy_58 : decode cX7_signedBy 58 = .ok (.lconst 1, 1) := by decide +kernel
theorem dX7_signedBy_59 : decode cX7_signedBy 59 = .ok (.goto 27, 3) := by decide +kernel
theorem dX7_signedBy_62 : decode cX7_signedBy 62 = .ok (.aload_n 0, 1) := by decide +kernel
theorem dX7_signedBy_63 : decode cX7_signedBy 63 = .ok (.iload 5, 2) := by decide +kernel
theorem dX7_signedBy_65 : decode cX7_signedBy 65 = .ok (.invokevirtual 175, 3) := by decide +kernel
theorem dX7_signedBy_68 : decode cX7_signedBy 68 = .ok (.aload_n 0, 1) := by decide +kernel
theorem dX7_signedBy_69 : decode cX7_signedBy 69 = .ok (.getfield 54, 3) := by decide +kernel
theorem dX7_signedBy_72 : decode cX7_signedBy 72 = .ok (.iconst 4, 1) := by decide +kernel
theorem dX7_signedBy_73 : decode cX7_signedBy 73 = .ok (.iload 5, 2) := by decide +kernel
theorem dX7_signedBy_75 : decode cX7_signedBy 75 = .ok (.imul, 1) := by decide +kernel
theorem dX7_signedBy_76 : decode cX7_signedBy 76 = .ok (.iload 6, 2) := by decide +kernel
theorem dX7_signedBy_78 : decode cX7_signedBy 78 = .ok (.iadd, 1) := by decide +kernel
theorem dX7_signedBy_79 : decode cX7_signedBy 79 = .ok (.iaload, 1) := by decide +kernel
theorem dX7_signedBy_80 : decode cX7_signedBy 80 = .ok (.i2l, 1) := by decide +kernel
theorem dX7_signedBy_81 : decode cX7_signedBy 81 = .ok (.lmul, 1) := by decide +kernel
theorem dX7_signedBy_82 : decode cX7_signedBy 82 = .ok (.ldc2_w 252, 3) := by decide +kernel
theorem dX7_signedBy_85 : decode cX7_signedBy 85 = .ok (.ldiv, 1) := by decide +kernel
theorem dX7_signedBy_86 : decode cX7_signedBy 86 = .ok (.ladd, 1) := by decide +kernel
theorem dX7_signedBy_87 : decode cX7_signedBy 87 = .ok (.lstore_n 3, 1) := by decide +kernel
theorem dX7_signedBy_88 : decode cX7_signedBy 88 = .ok (.iinc 6 1, 3) := by decide +kernel
theorem dX7_signedBy_91 : decode cX7_signedBy 91 = .ok (.goto (-76), 3) := by decide +kernel
theorem dX7_signedBy_94 : decode cX7_signedBy 94 = .ok (.iinc 5 1, 3) := by decide +kernel
theorem dX7_signedBy_97 : decode cX7_signedBy 97 = .ok (.goto (-92), 3) := by decide +kernel
theorem dX7_signedBy_100 : decode cX7_signedBy 100 = .ok (.lload_n 3, 1) := by decide +kernel
theorem dX7_signedBy_101 : decode cX7_signedBy 101 = .ok (.lreturn, 1) := by decide +kernel
theorem dX7_insurer_0 : decode cX7_insurer 0 = .ok (.aload_n 0, 1) := by decide +kernel
theorem dX7_insurer_1 : decode cX7_insurer 1 = .ok (.iconst 0, 1) := by decide +kernel
theorem dX7_insurer_2 : decode cX7_insurer 2 = .ok (.putfield 1, 3) := by decide +kernel
theorem dX7_insurer_5 : decode cX7_insurer 5 = .ok (.aload_n 0, 1) := by decide +kernel
theorem dX7_insurer_6 : decode cX7_insurer 6 = .ok (.iload_n 1, 1) := by decide +kernel
theorem dX7_insurer_7 : decode cX7_insurer 7 = .ok (.i2l, 1) := by decide +kernel
theorem dX7_insurer_8 : decode cX7_insurer 8 = .ok (.lconst 0, 1) := by decide +kernel
theorem dX7_insurer_9 : decode cX7_insurer 9 = .ok (.ldc2_w 377, 3) := by decide +kernel
theorem dX7_insurer_12 : decode cX7_insurer 12 = .ok (.invokestatic 352, 3) := by decide +kernel
theorem dX7_insurer_15 : decode cX7_insurer 15 = .ok (.ifCond .eq 19, 3) := by decide +kernel
theorem dX7_insurer_18 : decode cX7_insurer 18 = .ok (.iload_n 2, 1) := by decide +kernel
theorem dX7_insurer_19 : decode cX7_insurer 19 = .ok (.i2l, 1) := by decide +kernel
theorem dX7_insurer_20 : decode cX7_insurer 20 = .ok (.lconst 0, 1) := by decide +kernel
theorem dX7_insurer_21 : decode cX7_insurer 21 = .ok (.ldc2_w 360, 3) := by decide +kernel
theorem dX7_insurer_24 : decode cX7_insurer 24 = .ok (.invokestatic 352, 3) := by decide +kernel
theorem dX7_insurer_27 : decode cX7_insurer 27 = .ok (.ifCond .eq 7, 3) := by decide +kernel
theorem dX7_insurer_30 : decode cX7_insurer 30 = .ok (.iconst 1, 1) := by decide +kernel
theorem dX7_insurer_31 : decode cX7_insurer 31 = .ok (.goto 4, 3) := by decide +kernel
theorem dX7_insurer_34 : decode cX7_insurer 34 = .ok (.iconst 0, 1) := by decide +kernel
theorem dX7_insurer_35 : decode cX7_insurer 35 = .ok (.iconst 1, 1) := by decide +kernel
theorem dX7_insurer_36 : decode cX7_insurer 36 = .ok (.iconst 1, 1) := by decide +kernel
theorem dX7_insurer_37 : decode cX7_insurer 37 = .ok (.invokevirtual 346, 3) := by decide +kernel
theorem dX7_insurer_40 : decode cX7_insurer 40 = .ok (.ifCond .ne 5, 3) := by decide +kernel
theorem dX7_insurer_43 : decode cX7_insurer 43 = .ok (.lconst 0, 1) := by decide +kernel
theorem dX7_insurer_44 : decode cX7_insurer 44 = .ok (.lreturn, 1) := by decide +kernel
theorem dX7_insurer_45 : decode cX7_insurer 45 = .ok (.iload_n 2, 1) := by decide +kernel
theorem dX7_insurer_46 : decode cX7_insurer 46 = .ok (.iconst 3, 1) := by decide +kernel
theorem dX7_insurer_47 : decode cX7_insurer 47 = .ok (.if_icmp .ge 36, 3) := by decide +kernel
theorem dX7_insurer_50 : decode cX7_insurer 50 = .ok (.iload_n 2, 1) := by decide +kernel
theorem dX7_insurer_51 : decode cX7_insurer 51 = .ok (.ifCond .ne 11, 3) := by decide +kernel
theorem dX7_insurer_54 : decode cX7_insurer 54 = .ok (.aload_n 0, 1) := by decide +kernel
theorem dX7_insurer_55 : decode cX7_insurer 55 = .ok (.iload_n 1, 1) := by decide +kernel
theorem dX7_insurer_56 : decode cX7_insurer 56 = .ok (.invokevirtual 437, 3) := by decide +kernel
theorem dX7_insurer_59 : decode cX7_insurer 59 = .ok (.goto 23, 3) := by decide +kernel
theorem dX7_insurer_62 : decode cX7_insurer 62 = .ok (.iload_n 2, 1) := by decide +kernel
theorem dX7_insurer_63 : decode cX7_insurer 63 = .ok (.iconst 1, 1) := by decide +kernel
theorem dX7_insurer_64 : decode cX7_insurer 64 = .ok (.if_icmp .ne 13, 3) := by decide +kernel
theorem dX7_insurer_67 : decode cX7_insurer 67 = .ok (.aload_n 0, 1) := by decide +kernel
theorem dX7_insurer_68 : decode cX7_insurer 68 = .ok (.getfield 94, 3) := by decide +kernel
theorem dX7_insurer_71 : decode cX7_insurer 71 = .ok (.iload_n 1, 1) := by decide +kernel
theorem dX7_insurer_72 : decode cX7_insurer 72 = .ok (.iaload, 1) := by decide +kernel
theorem dX7_insurer_73 : decode cX7_insurer 73 = .ok (.i2l, 1) := by decide +kernel
theorem dX7_insurer_74 : decode cX7_insurer 74 = .ok (.goto 8, 3) := by decide +kernel
theorem dX7_insurer_77 : decode cX7_insurer 77 = .ok (.aload_n 0, 1) := by decide +kernel
theorem dX7_insurer_78 : decode cX7_insurer 78 = .ok (.iload_n 1, 1) := by decide +kernel
theorem dX7_insurer_79 : decode cX7_insurer 79 = .ok (.invokevirtual 440, 3) := by decide +kernel
theorem dX7_insurer_82 : decode cX7_insurer 82 = .ok (.lreturn, 1) := by decide +kernel
theorem dX7_insurer_83 : decode cX7_insurer 83 = .ok (.aload_n 0, 1) := by decide +kernel
theorem dX7_insurer_84 : decode cX7_insurer 84 = .ok (.iload_n 1, 1) := by decide +kernel
theorem dX7_insurer_85 : decode cX7_insurer 85 = .ok (.iload_n 2, 1) := by decide +kernel
theorem dX7_insurer_86 : decode cX7_insurer 86 = .ok (.iconst 3, 1) := by decide +kernel
theorem dX7_insurer_87 : decode cX7_insurer 87 = .ok (.isub, 1) := by decide +kernel
theorem dX7_insurer_88 : decode cX7_insurer 88 = .ok (.invokevirtual 443, 3) := by decide +kernel
theorem dX7_insurer_91 : decode cX7_insurer 91 = .ok (.lreturn, 1) := by decide +kernel
theorem dX7_burden_0 : decode cX7_burden 0 = .ok (.aload_n 0, 1) := by decide +kernel
theorem dX7_burden_1 : decode cX7_burden 1 = .ok (.iconst 0, 1) := by decide +kernel
theorem dX7_burden_2 : decode cX7_burden 2 = .ok (.putfield 1, 3) := by decide +kernel
theorem dX7_burden_5 : decode cX7_burden 5 = .ok (.aload_n 0, 1) := by decide +kernel
theorem dX7_burden_6 : decode cX7_burden 6 = .ok (.iload_n 1, 1) := by decide +kernel
theorem dX7_burden_7 : decode cX7_burden 7 = .ok (.i2l, 1) := by decide +kernel
theorem dX7_burden_8 : decode cX7_burden 8 = .ok (.lconst 0, 1) := by decide +kernel
theorem dX7_burden_9 : decode cX7_burden 9 = .ok (.ldc2_w 421, 3) := by decide +kernel
theorem dX7_burden_12 : decode cX7_burden 12 = .ok (.invokestatic 352, 3) := by decide +kernel
theorem dX7_burden_15 : decode cX7_burden 15 = .ok (.iconst 1, 1) := by decide +kernel
theorem dX7_burden_16 : decode cX7_burden 16 = .ok (.iconst 1, 1) := by decide +kernel
theorem dX7_burden_17 : decode cX7_burden 17 = .ok (.invokevirtual 346, 3) := by decide +kernel
theorem dX7_burden_20 : decode cX7_burden 20 = .ok (.ifCond .ne 5, 3) := by decide +kernel
theorem dX7_burden_23 : decode cX7_burden 23 = .ok (.lconst 0, 1) := by decide +kernel
theorem dX7_burden_24 : decode cX7_burden 24 = .ok (.lreturn, 1) := by decide +kernel
theorem dX7_burden_25 : decode cX7_burden 25 = .ok (.lconst 0, 1) := by decide +kernel
theorem dX7_burden_26 : decode cX7_burden 26 = .ok (.lstore_n 2, 1) := by decide +kernel
theorem dX7_burden_27 : decode cX7_burden 27 = .ok (.iconst 0, 1) := by decide +kernel
theorem dX7_burden_28 : decode cX7_burden 28 = .ok (.istore 4, 2) := by decide +kernel
theorem dX7_burden_30 : decode cX7_burden 30 = .ok (.iload 4, 2) := by decide +kernel
theorem dX7_burden_32 : decode cX7_burden 32 = .ok (.bipush 24, 2) := by decide +kernel
theorem dX7_burden_34 : decode cX7_burden 34 = .ok (.if_icmp .ge 38, 3) := by decide +kernel
theorem dX7_burden_37 : decode cX7_burden 37 = .ok (.lload_n 2, 1) := by decide +kernel
theorem dX7_burden_38 : decode cX7_burden 38 = .ok (.aload_n 0, 1) := by decide +kernel
theorem dX7_burden_39 : decode cX7_burden 39 = .ok (.getfield 33, 3) := by decide +kernel
theorem dX7_burden_42 : decode cX7_burden 42 = .ok (.iload 4, 2) := by decide +kernel
theorem dX7_burden_44 : decode cX7_burden 44 = .ok (.baload, 1) := by decide +kernel
theorem dX7_burden_45 : decode cX7_burden 45 = .ok (.ifCond .eq 18, 3) := by decide +kernel
theorem dX7_burden_48 : decode cX7_burden 48 = .ok (.aload_n 0, 1) := by decide +kernel
theorem dX7_burden_49 : decode cX7_burden 49 = .ok (.getfield 91, 3) := by decide +kernel
theorem dX7_burden_52 : decode cX7_burden 52 = .ok (.bipush 7, 2) := by decide +kernel
theorem dX7_burden_54 : decode cX7_burden 54 = .ok (.iload 4, 2) := by decide +kernel
theorem dX7_burden_56 : decode cX7_burden 56 = .ok (.imul, 1) := by decide +kernel
theorem dX7_burden_57 : decode cX7_burden 57 = .ok (.iload_n 1, 1) := by decide +kernel
theorem dX7_burden_58 : decode cX7_burden 58 = .ok (.iadd, 1) := by decide +kernel
theorem dX7_burden_59 : decode cX7_burden 59 = .ok (.laload, 1) := by decide +kernel
theorem dX7_burden_60 : decode cX7_burden 60 = .ok (.goto 4, 3) := by decide +kernel
theorem dX7_burden_63 : decode cX7_burden 63 = .ok (.lconst 0, 1) := by decide +kernel
theorem dX7_burden_64 : decode cX7_burden 64 = .ok (.ladd, 1) := by decide +kernel
theorem dX7_burden_65 : decode cX7_burden 65 = .ok (.lstore_n 2, 1) := by decide +kernel
theorem dX7_burden_66 : decode cX7_burden 66 = .ok (.iinc 4 1, 3) := by decide +kernel
theorem dX7_burden_69 : decode cX7_burden 69 = .ok (.goto (-39), 3) := by decide +kernel
theorem dX7_burden_72 : decode cX7_burden 72 = .ok (.lload_n 2, 1) := by decide +kernel
theorem dX7_burden_73 : decode cX7_burden 73 = .ok (.lreturn, 1) := by decide +kernel
theorem dX7_rank_0 : decode cX7_rank 0 = .ok (.aload_n 0, 1) := by decide +kernel
theorem dX7_rank_1 : decode cX7_rank 1 = .ok (.iconst 0, 1) := by decide +kernel
theorem dX7_rank_2 : decode cX7_rank 2 = .ok (.putfield 1, 3) := by decide +kernel
theorem dX7_rank_5 : decode cX7_rank 5 = .ok (.aload_n 0, 1) := by decide +kernel
theorem dX7_rank_6 : decode cX7_rank 6 = .ok (.iload_n 1, 1) := by decide +kernel
theorem dX7_rank_7 : decode cX7_rank 7 = .ok (.i2l, 1) := by decide +kernel
theorem dX7_rank_8 : decode cX7_rank 8 = .ok (.lconst 0, 1) := by decide +kernel
theorem dX7_rank_9 : decode cX7_rank 9 = .ok (.ldc2_w 377, 3) := by decide +kernel
theorem dX7_rank_12 : decode cX7_rank 12 = .ok (.invokestatic 352, 3) := by decide +kernel
theorem dX7_rank_15 : decode cX7_rank 15 = .ok (.iconst 1, 1) := by decide +kernel
theorem dX7_rank_16 : decode cX7_rank 16 = .ok (.iconst 1, 1) := by decide +kernel
theorem dX7_rank_17 : decode cX7_rank 17 = .ok (.invokevirtual 346, 3) := by decide +kernel
theorem dX7_rank_20 : decode cX7_rank 20 = .ok (.ifCond .ne 5, 3) := by decide +kernel
theorem dX7_rank_23 : decode cX7_rank 23 = .ok (.iconst 0, 1) := by decide +kernel
theorem dX7_rank_24 : decode cX7_rank 24 = .ok (.ireturn, 1) := by decide +kernel
theorem dX7_rank_25 : decode cX7_rank 25 = .ok (.iconst 0, 1) := by decide +kernel
theorem dX7_rank_26 : decode cX7_rank 26 = .ok (.istore_n 2, 1) := by decide +kernel
theorem dX7_rank_27 : decode cX7_rank 27 = .ok (.iload_n 2, 1) := by decide +kernel
theorem dX7_rank_28 : decode cX7_rank 28 = .ok (.bipush 10, 2) := by decide +kernel
theorem dX7_rank_30 : decode cX7_rank 30 = .ok (.if_icmp .ge 78, 3) := by decide +kernel
theorem dX7_rank_33 : decode cX7_rank 33 = .ok (.iconst 0, 1) := by decide +kernel
theorem dX7_rank_34 : decode cX7_rank 34 = .ok (.istore_n 3, 1) := by decide +kernel
theorem dX7_rank_35 : decode cX7_rank 35 = .ok (.iconst 0, 1) := by decide +kernel
theorem dX7_rank_36 : decode cX7_rank 36 = .ok (.istore 4, 2) := by decide +kernel
theorem dX7_rank_38 : decode cX7_rank 38 = .ok (.iload 4, 2) := by decide +kernel
theorem dX7_rank_40 : decode cX7_rank 40 = .ok (.bipush 10, 2) := by decide +kernel
theorem dX7_rank_42 : decode cX7_rank 42 = .ok (.if_icmp .ge 53, 3) := by decide +kernel
theorem dX7_rank_45 : decode cX7_rank 45 = .ok (.iload_n 3, 1) := by decide +kernel
theorem dX7_rank_46 : decode cX7_rank 46 = .ok (.aload_n 0, 1) := by decide +kernel
theorem dX7_rank_47 : decode cX7_rank 47 = .ok (.iload 4, 2) := by decide +kernel
theorem dX7_rank_49 : decode cX7_rank 49 = .ok (.invokevirtual 437, 3) := by decide +kernel
theorem dX7_rank_52 : decode cX7_rank 52 = .ok (.aload_n 0, 1) := by decide +kernel
theorem dX7_rank_53 : decode cX7_rank 53 = .ok (.iload_n 2, 1) := by decide +kernel
theorem dX7_rank_54 : decode cX7_rank 54 = .ok (.invokevirtual 437, 3) := by decide +kernel
theorem dX7_rank_57 : decode cX7_rank 57 = .ok (.lcmp, 1) := by decide +kernel
theorem dX7_rank_58 : decode cX7_rank 58 = .ok (.ifCond .gt 24, 3) := by decide +kernel
theorem dX7_rank_61 : decode cX7_rank 61 = .ok (.aload_n 0, 1) := by decide +kernel
theorem dX7_rank_62 : decode cX7_rank 62 = .ok (.iload 4, 2) := by decide +kernel
theorem dX7_rank_64 : decode cX7_rank 64 = .ok (.invokevirtual 437, 3) := by decide +kernel
theorem dX7_rank_67 : decode cX7_rank 67 = .ok (.aload_n 0, 1) := by decide +kernel
theorem dX7_rank_68 : decode cX7_rank 68 = .ok (.iload_n 2, 1) := by decide +kernel
theorem dX7_rank_69 : decode cX7_rank 69 = .ok (.invokevirtual 437, 3) := by decide +kernel
theorem dX7_rank_72 : decode cX7_rank 72 = .ok (.lcmp, 1) := by decide +kernel
theorem dX7_rank_73 : decode cX7_rank 73 = .ok (.ifCond .ne 13, 3) := by decide +kernel
theorem dX7_rank_76 : decode cX7_rank 76 = .ok (.iload 4, 2) := by decide +kernel
theorem dX7_rank_78 : decode cX7_rank 78 = .ok (.iload_n 2, 1) := by decide +kernel
theorem dX7_rank_79 : decode cX7_rank 79 = .ok (.if_icmp .ge 7, 3) := by decide +kernel
theorem dX7_rank_82 : decode cX7_rank 82 = .ok (.iconst 1, 1) := by decide +kernel
theorem dX7_rank_83 : decode cX7_rank 83 = .ok (.goto 4, 3) := by decide +kernel
theorem dX7_rank_86 : decode cX7_rank 86 = .ok (.iconst 0, 1) := by decide +kernel
theorem dX7_rank_87 : decode cX7_rank 87 = .ok (.iadd, 1) := by decide +kernel
theorem dX7_rank_88 : decode cX7_rank 88 = .ok (.istore_n 3, 1) := by decide +kernel
theorem dX7_rank_89 : decode cX7_rank 89 = .ok (.iinc 4 1, 3) := by decide +kernel
theorem dX7_rank_92 : decode cX7_rank 92 = .ok (.goto (-54), 3) := by decide +kernel
theorem dX7_rank_95 : decode cX7_rank 95 = .ok (.iload_n 3, 1) := by decide +kernel
theorem dX7_rank_96 : decode cX7_rank 96 = .ok (.iload_n 1, 1) := by decide +kernel
theorem dX7_rank_97 : decode cX7_rank 97 = .ok (.if_icmp .ne 5, 3) := by decide +kernel
theorem dX7_rank_100 : decode cX7_rank 100 = .ok (.iload_n 2, 1) := by decide +kernel
theorem dX7_rank_101 : decode cX7_rank 101 = .ok (.ireturn, 1) := by decide +kernel
theorem dX7_rank_102 : decode cX7_rank 102 = .ok (.iinc 2 1, 3) := by decide +kernel
theorem dX7_rank_105 : decode cX7_rank 105 = .ok (.goto (-78), 3) := by decide +kernel
theorem dX7_rank_108 : decode cX7_rank 108 = .ok (.iconst (-1), 1) := by decide +kernel
theorem dX7_rank_109 : decode cX7_rank 109 = .ok (.ireturn, 1) := by decide +kernel
theorem dX7_offs_0 : decode cX7_offs 0 = .ok (.aload_n 0, 1) := by decide +kernel
theorem dX7_offs_1 : decode cX7_offs 1 = .ok (.iconst 0, 1) := by decide +kernel
theorem dX7_offs_2 : decode cX7_offs 2 = .ok (.putfield 1, 3) := by decide +kernel
theorem dX7_offs_5 : decode cX7_offs 5 = .ok (.aload_n 0, 1) := by decide +kernel
theorem dX7_offs_6 : decode cX7_offs 6 = .ok (.iload_n 1, 1) := by decide +kernel
theorem dX7_offs_7 : decode cX7_offs 7 = .ok (.iload_n 2, 1) := by decide +kernel
theorem dX7_offs_8 : decode cX7_offs 8 = .ok (.iload_n 3, 1) := by decide +kernel
theorem dX7_offs_9 : decode cX7_offs 9 = .ok (.invokestatic 389, 3) := by decide +kernel
theorem dX7_offs_12 : decode cX7_offs 12 = .ok (.ifCond .eq 20, 3) := by decide +kernel
theorem dX7_offs_15 : decode cX7_offs 15 = .ok (.iload 4, 2) := by decide +kernel
theorem dX7_offs_17 : decode cX7_offs 17 = .ok (.i2l, 1) := by decide +kernel
theorem dX7_offs_18 : decode cX7_offs 18 = .ok (.lconst 0, 1) := by decide +kernel
theorem dX7_offs_19 : decode cX7_offs 19 = .ok (.ldc2_w 382, 3) := by decide +kernel
theorem dX7_offs_22 : decode cX7_offs 22 = .ok (.invokestatic 352, 3) := by decide +kernel
theorem dX7_offs_25 : decode cX7_offs 25 = .ok (.ifCond .eq 7, 3) := by decide +kernel
theorem dX7_offs_28 : decode cX7_offs 28 = .ok (.iconst 1, 1) := by decide +kernel
theorem dX7_offs_29 : decode cX7_offs 29 = .ok (.goto 4, 3) := by decide +kernel
theorem dX7_offs_32 : decode cX7_offs 32 = .ok (.iconst 0, 1) := by decide +kernel
theorem dX7_offs_33 : decode cX7_offs 33 = .ok (.iconst 1, 1) := by decide +kernel
theorem dX7_offs_34 : decode cX7_offs 34 = .ok (.iconst 1, 1) := by decide +kernel
theorem dX7_offs_35 : decode cX7_offs 35 = .ok (.invokevirtual 346, 3) := by decide +kernel
theorem dX7_offs_38 : decode cX7_offs 38 = .ok (.ifCond .eq 15, 3) := by decide +kernel
theorem dX7_offs_41 : decode cX7_offs 41 = .ok (.aload_n 0, 1) := by decide +kernel
theorem dX7_offs_42 : decode cX7_offs 42 = .ok (.iload_n 1, 1) := by decide +kernel
theorem dX7_offs_43 : decode cX7_offs 43 = .ok (.iload_n 2, 1) := by decide +kernel
theorem dX7_offs_44 : decode cX7_offs 44 = .ok (.iload_n 3, 1) := by decide +kernel
theorem dX7_offs_45 : decode cX7_offs 45 = .ok (.iload 4, 2) := by decide +kernel
theorem dX7_offs_47 : decode cX7_offs 47 = .ok (.invokevirtual 190, 3) := by decide +kernel
theorem dX7_offs_50 : decode cX7_offs 50 = .ok (.goto 4, 3) := by decide +kernel
theorem dX7_offs_53 : decode cX7_offs 53 = .ok (.iconst 0, 1) := by decide +kernel
theorem dX7_offs_54 : decode cX7_offs 54 = .ok (.ireturn, 1) := by decide +kernel
theorem dX7_thinks_0 : decode cX7_thinks 0 = .ok (.aload_n 0, 1) := by decide +kernel
theorem dX7_thinks_1 : decode cX7_thinks 1 = .ok (.getfield 61, 3) := by decide +kernel
theorem dX7_thinks_4 : decode cX7_thinks 4 = .ok (.bipush 24, 2) := by decide +kernel
theorem dX7_thinks_6 : decode cX7_thinks 6 = .ok (.iload_n 1, 1) := by decide +kernel
theorem dX7_thinks_7 : decode cX7_thinks 7 = .ok (.iastore, 1) := by decide +kernel
theorem dX7_thinks_8 : decode cX7_thinks 8 = .ok (.aload_n 0, 1) := by decide +kernel
theorem dX7_thinks_9 : decode cX7_thinks 9 = .ok (.getfield 64, 3) := by decide +kernel
theorem dX7_thinks_12 : decode cX7_thinks 12 = .ok (.bipush 24, 2) := by decide +kernel
theorem dX7_thinks_14 : decode cX7_thinks 14 = .ok (.iload_n 2, 1) := by decide +kernel
theorem dX7_thinks_15 : decode cX7_thinks 15 = .ok (.iastore, 1) := by decide +kernel
theorem dX7_thinks_16 : decode cX7_thinks 16 = .ok (.aload_n 0, 1) := by decide +kernel
theorem dX7_thinks_17 : decode cX7_thinks 17 = .ok (.getfield 67, 3) := by decide +kernel
theorem dX7_thinks_20 : decode cX7_thinks 20 = .ok (.bipush 24, 2) := by decide +kernel
theorem dX7_thinks_22 : decode cX7_thinks 22 = .ok (.iload_n 3, 1) := by decide +kernel
theorem dX7_thinks_23 : decode cX7_thinks 23 = .ok (.iastore, 1) := by decide +kernel
theorem dX7_thinks_24 : decode cX7_thinks 24 = .ok (.aload_n 0, 1) := by decide +kernel
theorem dX7_thinks_25 : decode cX7_thinks 25 = .ok (.bipush 24, 2) := by decide +kernel
theorem dX7_thinks_27 : decode cX7_thinks 27 = .ok (.invokevirtual 145, 3) := by decide +kernel
theorem dX7_thinks_30 : decode cX7_thinks 30 = .ok (.return_, 1) := by decide +kernel
theorem dX7_thinksOf_0 : decode cX7_thinksOf 0 = .ok (.aload_n 0, 1) := by decide +kernel
theorem dX7_thinksOf_1 : decode cX7_thinksOf 1 = .ok (.iload_n 1, 1) := by decide +kernel
theorem dX7_thinksOf_2 : decode cX7_thinksOf 2 = .ok (.iload_n 2, 1) := by decide +kernel
theorem dX7_thinksOf_3 : decode cX7_thinksOf 3 = .ok (.iload_n 3, 1) := by decide +kernel
theorem dX7_thinksOf_4 : decode cX7_thinksOf 4 = .ok (.invokevirtual 446, 3) := by decide +kernel
theorem dX7_thinksOf_7 : decode cX7_thinksOf 7 = .ok (.aload_n 0, 1) := by decide +kernel
theorem dX7_thinksOf_8 : decode cX7_thinksOf 8 = .ok (.bipush 24, 2) := by decide +kernel
theorem dX7_thinksOf_10 : decode cX7_thinksOf 10 = .ok (.iload 4, 2) := by decide +kernel
theorem dX7_thinksOf_12 : decode cX7_thinksOf 12 = .ok (.i2l, 1) := by decide +kernel
theorem dX7_thinksOf_13 : decode cX7_thinksOf 13 = .ok (.invokevirtual 325, 3) := by decide +kernel
theorem dX7_thinksOf_16 : decode cX7_thinksOf 16 = .ok (.return_, 1) := by decide +kernel
theorem dX7_would_0 : decode cX7_would 0 = .ok (.aload_n 0, 1) := by decide +kernel
theorem dX7_would_1 : decode cX7_would 1 = .ok (.iconst 0, 1) := by decide +kernel
theorem dX7_would_2 : decode cX7_would 2 = .ok (.putfield 1, 3) := by decide +kernel
theorem dX7_would_5 : decode cX7_would 5 = .ok (.aload_n 0, 1) := by decide +kernel
theorem dX7_would_6 : decode cX7_would 6 = .ok (.iload_n 1, 1) := by decide +kernel
theorem dX7_would_7 : decode cX7_would 7 = .ok (.iload_n 2, 1) := by decide +kernel
theorem dX7_would_8 : decode cX7_would 8 = .ok (.iload_n 3, 1) := by decide +kernel
theorem dX7_would_9 : decode cX7_would 9 = .ok (.invokestatic 389, 3) := by decide +kernel
theorem dX7_would_12 : decode cX7_would 12 = .ok (.ifCond .eq 28, 3) := by decide +kernel
theorem dX7_would_15 : decode cX7_would 15 = .ok (.iload 4, 2) := by decide +kernel
theorem dX7_would_17 : decode cX7_would 17 = .ok (.invokestatic 392, 3) := by decide +kernel
theorem dX7_would_20 : decode cX7_would 20 = .ok (.ifCond .eq 20, 3) := by decide +kernel
theorem dX7_would_23 : decode cX7_would 23 = .ok (.iload 5, 2) := by decide +kernel
theorem dX7_would_25 : decode cX7_would 25 = .ok (.i2l, 1) := by decide +kernel
theorem dX7_would_26 : decode cX7_would 26 = .ok (.lconst 0, 1) := by decide +kernel
theorem dX7_would_27 : decode cX7_would 27 = .ok (.ldc2_w 377, 3) := by decide +kernel
theorem dX7_would_30 : decode cX7_would 30 = .ok (.invokestatic 352, 3) := by decide +kernel
theorem dX7_would_33 : decode cX7_would 33 = .ok (.ifCond .eq 7, 3) := by decide +kernel
theorem dX7_would_36 : decode cX7_would 36 = .ok (.iconst 1, 1) := by decide +kernel
theorem dX7_would_37 : decode cX7_would 37 = .ok (.goto 4, 3) := by decide +kernel
theorem dX7_would_40 : decode cX7_would 40 = .ok (.iconst 0, 1) := by decide +kernel
theorem dX7_would_41 : decode cX7_would 41 = .ok (.iconst 1, 1) := by decide +kernel
theorem dX7_would_42 : decode cX7_would 42 = .ok (.iconst 1, 1) := by decide +kernel
theorem dX7_would_43 : decode cX7_would 43 = .ok (.invokevirtual 346, 3) := by decide +kernel
theorem dX7_would_46 : decode cX7_would 46 = .ok (.ifCond .ne 5, 3) := by decide +kernel
theorem dX7_would_49 : decode cX7_would 49 = .ok (.lconst 0, 1) := by decide +kernel
theorem dX7_would_50 : decode cX7_would 50 = .ok (.lreturn, 1) := by decide +kernel
theorem dX7_would_51 : decode cX7_would 51 = .ok (.aload_n 0, 1) := by decide +kernel
theorem dX7_would_52 : decode cX7_would 52 = .ok (.iload_n 1, 1) := by decide +kernel
theorem dX7_would_53 : decode cX7_would 53 = .ok (.iload_n 2, 1) := by decide +kernel
theorem dX7_would_54 : decode cX7_would 54 = .ok (.iload_n 3, 1) := by decide +kernel
theorem dX7_would_55 : decode cX7_would 55 = .ok (.iload 4, 2) := by decide +kernel
theorem dX7_would_57 : decode cX7_would 57 = .ok (.invokevirtual 449, 3) := by decide +kernel
theorem dX7_would_60 : decode cX7_would 60 = .ok (.aload_n 0, 1) := by decide +kernel
theorem dX7_would_61 : decode cX7_would 61 = .ok (.bipush 24, 2) := by decide +kernel
theorem dX7_would_63 : decode cX7_would 63 = .ok (.iload 5, 2) := by decide +kernel
theorem dX7_would_65 : decode cX7_would 65 = .ok (.invokevirtual 280, 3) := by decide +kernel
theorem dX7_would_68 : decode cX7_would 68 = .ok (.lstore 6, 2) := by decide +kernel
theorem dX7_would_70 : decode cX7_would 70 = .ok (.aload_n 0, 1) := by decide +kernel
theorem dX7_would_71 : decode cX7_would 71 = .ok (.invokevirtual 403, 3) := by decide +kernel
theorem dX7_would_74 : decode cX7_would 74 = .ok (.lload 6, 2) := by decide +kernel
theorem dX7_would_76 : decode cX7_would 76 = .ok (.lreturn, 1) := by decide +kernel
theorem dX7_takes_0 : decode cX7_takes 0 = .ok (.aload_n 0, 1) := by decide +kernel
theorem dX7_takes_1 : decode cX7_takes 1 = .ok (.iconst 0, 1) := by decide +kernel
theorem dX7_takes_2 : decode cX7_takes 2 = .ok (.putfield 1, 3) := by decide +kernel
theorem dX7_takes_5 : decode cX7_takes 5 = .ok (.aload_n 0, 1) := by decide +kernel
theorem dX7_takes_6 : decode cX7_takes 6 = .ok (.iload 5, 2) := by decide +kernel
theorem dX7_takes_8 : decode cX7_takes 8 = .ok (.iconst 1, 1) := by decide +kernel
theorem dX7_takes_9 : decode cX7_takes 9 = .ok (.invokevirtual 374, 3) := by decide +kernel
theorem dX7_takes_12 : decode cX7_takes 12 = .ok (.ifCond .eq 34, 3) := by decide +kernel
theorem dX7_takes_15 : decode cX7_takes 15 = .ok (.aload_n 0, 1) := by decide +kernel
theorem dX7_takes_16 : decode cX7_takes 16 = .ok (.iload_n 1, 1) := by decide +kernel
theorem dX7_takes_17 : decode cX7_takes 17 = .ok (.iload_n 2, 1) := by decide +kernel
theorem dX7_takes_18 : decode cX7_takes 18 = .ok (.iload_n 3, 1) := by decide +kernel
theorem dX7_takes_19 : decode cX7_takes 19 = .ok (.invokestatic 389, 3) := by decide +kernel
theorem dX7_takes_22 : decode cX7_takes 22 = .ok (.ifCond .eq 15, 3) := by decide +kernel
theorem dX7_takes_25 : decode cX7_takes 25 = .ok (.iload 4, 2) := by decide +kernel
theorem dX7_takes_27 : decode cX7_takes 27 = .ok (.invokestatic 392, 3) := by decide +kernel
theorem dX7_takes_30 : decode cX7_takes 30 = .ok (.ifCond .eq 7, 3) := by decide +kernel
theorem dX7_takes_33 : decode cX7_takes 33 = .ok (.iconst 1, 1) := by decide +kernel
theorem dX7_takes_34 : decode cX7_takes 34 = .ok (.goto 4, 3) := by decide +kernel
theorem dX7_takes_37 : decode cX7_takes 37 = .ok (.iconst 0, 1) := by decide +kernel
theorem dX7_takes_38 : decode cX7_takes 38 = .ok (.iconst 2, 1) := by decide +kernel
theorem dX7_takes_39 : decode cX7_takes 39 = .ok (.iconst 1, 1) := by decide +kernel
theorem dX7_takes_40 : decode cX7_takes 40 = .ok (.invokevirtual 346, 3) := by decide +kernel
theorem dX7_takes_43 : decode cX7_takes 43 = .ok (.ifCond .ne 5, 3) := by decide +kernel
theorem dX7_takes_46 : decode cX7_takes 46 = .ok (.lconst 0, 1) := by decide +kernel
theorem dX7_takes_47 : decode cX7_takes 47 = .ok (.lreturn, 1) := by decide +kernel
theorem dX7_takes_48 : decode cX7_takes 48 = .ok (.aload_n 0, 1) := by decide +kernel
theorem dX7_takes_49 : decode cX7_takes 49 = .ok (.iload_n 1, 1) := by decide +kernel
theorem dX7_takes_50 : decode cX7_takes 50 = .ok (.iload_n 2, 1) := by decide +kernel
theorem dX7_takes_51 : decode cX7_takes 51 = .ok (.iload_n 3, 1) := by decide +kernel
theorem dX7_takes_52 : decode cX7_takes 52 = .ok (.iload 4, 2) := by decide +kernel
theorem dX7_takes_54 : decode cX7_takes 54 = .ok (.invokevirtual 449, 3) := by decide +kernel
theorem dX7_takes_57 : decode cX7_takes 57 = .ok (.aload_n 0, 1) := by decide +kernel
theorem dX7_takes_58 : decode cX7_takes 58 = .ok (.getfield 76, 3) := by decide +kernel
theorem dX7_takes_61 : decode cX7_takes 61 = .ok (.sipush 960, 3) := by decide +kernel
theorem dX7_takes_64 : decode cX7_takes 64 = .ok (.iload 5, 2) := by decide +kernel
theorem dX7_takes_66 : decode cX7_takes 66 = .ok (.iadd, 1) := by decide +kernel
theorem dX7_takes_67 : decode cX7_takes 67 = .ok (.laload, 1) := by decide +kernel
theorem dX7_takes_68 : decode cX7_takes 68 = .ok (.lstore 6, 2) := by decide +kernel
theorem dX7_takes_70 : decode cX7_takes 70 = .ok (.aload_n 0, 1) := by decide +kernel
theorem dX7_takes_71 : decode cX7_takes 71 = .ok (.invokevirtual 403, 3) := by decide +kernel
theorem dX7_takes_74 : decode cX7_takes 74 = .ok (.lload 6, 2) := by decide +kernel
theorem dX7_takes_76 : decode cX7_takes 76 = .ok (.lreturn, 1) := by decide +kernel
theorem dX7_drops_0 : decode cX7_drops 0 = .ok (.aload_n 0, 1) := by decide +kernel
theorem dX7_drops_1 : decode cX7_drops 1 = .ok (.iconst 0, 1) := by decide +kernel
theorem dX7_drops_2 : decode cX7_drops 2 = .ok (.putfield 1, 3) := by decide +kernel
theorem dX7_drops_5 : decode cX7_drops 5 = .ok (.aload_n 0, 1) := by decide +kernel
theorem dX7_drops_6 : decode cX7_drops 6 = .ok (.iload_n 1, 1) := by decide +kernel
theorem dX7_drops_7 : decode cX7_drops 7 = .ok (.iload_n 2, 1) := by decide +kernel
theorem dX7_drops_8 : decode cX7_drops 8 = .ok (.iload_n 3, 1) := by decide +kernel
theorem dX7_drops_9 : decode cX7_drops 9 = .ok (.invokestatic 389, 3) := by decide +kernel
theorem dX7_drops_12 : decode cX7_drops 12 = .ok (.ifCond .eq 28, 3) := by decide +kernel
theorem dX7_drops_15 : decode cX7_drops 15 = .ok (.iload 4, 2) := by decide +kernel
theorem dX7_drops_17 : decode cX7_drops 17 = .ok (.invokestatic 392, 3) := by decide +kernel
theorem dX7_drops_20 : decode cX7_drops 20 = .ok (.ifCond .eq 20, 3) := by decide +kernel
theorem dX7_drops_23 : decode cX7_drops 23 = .ok (.iload 5, 2) := by decide +kernel
theorem dX7_drops_25 : decode cX7_drops 25 = .ok (.i2l, 1) := by decide +kernel
theorem dX7_drops_26 : decode cX7_drops 26 = .ok (.lconst 0, 1) := by decide +kernel
theorem dX7_drops_27 : decode cX7_drops 27 = .ok (.ldc2_w 421, 3) := by decide +kernel
theorem dX7_drops_30 : decode cX7_drops 30 = .ok (.invokestatic 352, 3) := by decide +kernel
theorem dX7_drops_33 : decode cX7_drops 33 = .ok (.ifCond .eq 7, 3) := by decide +kernel
theorem dX7_drops_36 : decode cX7_drops 36 = .ok (.iconst 1, 1) := by decide +kernel
theorem dX7_drops_37 : decode cX7_drops 37 = .ok (.goto 4, 3) := by decide +kernel
theorem dX7_drops_40 : decode cX7_drops 40 = .ok (.iconst 0, 1) := by decide +kernel
theorem dX7_drops_41 : decode cX7_drops 41 = .ok (.iconst 1, 1) := by decide +kernel
theorem dX7_drops_42 : decode cX7_drops 42 = .ok (.iconst 1, 1) := by decide +kernel
theorem dX7_drops_43 : decode cX7_drops 43 = .ok (.invokevirtual 346, 3) := by decide +kernel
theorem dX7_drops_46 : decode cX7_drops 46 = .ok (.ifCond .ne 5, 3) := by decide +kernel
theorem dX7_drops_49 : decode cX7_drops 49 = .ok (.lconst 0, 1) := by decide +kernel
theorem dX7_drops_50 : decode cX7_drops 50 = .ok (.lreturn, 1) := by decide +kernel
theorem dX7_drops_51 : decode cX7_drops 51 = .ok (.aload_n 0, 1) := by decide +kernel
theorem dX7_drops_52 : decode cX7_drops 52 = .ok (.iload_n 1, 1) := by decide +kernel
theorem dX7_drops_53 : decode cX7_drops 53 = .ok (.iload_n 2, 1) := by decide +kernel
theorem dX7_drops_54 : decode cX7_drops 54 = .ok (.iload_n 3, 1) := by decide +kernel
theorem dX7_drops_55 : decode cX7_drops 55 = .ok (.iload 4, 2) := by decide +kernel
theorem dX7_drops_57 : decode cX7_drops 57 = .ok (.invokevirtual 449, 3) := by decide +kernel
theorem dX7_drops_60 : decode cX7_drops 60 = .ok (.aload_n 0, 1) := by decide +kernel
theorem dX7_drops_61 : decode cX7_drops 61 = .ok (.getfield 91, 3) := by decide +kernel
theorem dX7_drops_64 : decode cX7_drops 64 = .ok (.sipush 168, 3) := by decide +kernel
theorem dX7_drops_67 : decode cX7_drops 67 = .ok (.iload 5, 2) := by decide +kernel
theorem dX7_drops_69 : decode cX7_drops 69 = .ok (.iadd, 1) := by decide +kernel
theorem dX7_drops_70 : decode cX7_drops 70 = .ok (.laload, 1) := by decide +kernel
theorem dX7_drops_71 : decode cX7_drops 71 = .ok (.lstore 6, 2) := by decide +kernel
theorem dX7_drops_73 : decode cX7_drops 73 = .ok (.aload_n 0, 1) := by decide +kernel
theorem dX7_drops_74 : decode cX7_drops 74 = .ok (.invokevirtual 403, 3) := by decide +kernel
theorem dX7_drops_77 : decode cX7_drops 77 = .ok (.lload 6, 2) := by decide +kernel
theorem dX7_drops_79 : decode cX7_drops 79 = .ok (.lreturn, 1) := by decide +kernel
theorem dX7_share_0 : decode cX7_share 0 = .ok (.aload_n 0, 1) := by decide +kernel
theorem dX7_share_1 : decode cX7_share 1 = .ok (.iconst 0, 1) := by decide +kernel
theorem dX7_share_2 : decode cX7_share 2 = .ok (.putfield 1, 3) := by decide +kernel
theorem dX7_share_5 : decode cX7_share 5 = .ok (.aload_n 0, 1) := by decide +kernel
theorem dX7_share_6 : decode cX7_share 6 = .ok (.iload_n 1, 1) := by decide +kernel
theorem dX7_share_7 : decode cX7_share 7 = .ok (.iload_n 2, 1) := by decide +kernel
theorem dX7_share_8 : decode cX7_share 8 = .ok (.iload_n 3, 1) := by decide +kernel
theorem dX7_share_9 : decode cX7_share 9 = .ok (.invokestatic 389, 3) := by decide +kernel
theorem dX7_share_12 : decode cX7_share 12 = .ok (.ifCond .eq 28, 3) := by decide +kernel
theorem dX7_share_15 : decode cX7_share 15 = .ok (.iload 4, 2) := by decide +kernel
theorem dX7_share_17 : decode cX7_share 17 = .ok (.invokestatic 392, 3) := by decide +kernel
theorem dX7_share_20 : decode cX7_share 20 = .ok (.ifCond .eq 20, 3) := by decide +kernel
theorem dX7_share_23 : decode cX7_share 23 = .ok (.iload 5, 2) := by decide +kernel
theorem dX7_share_25 : decode cX7_share 25 = .ok (.i2l, 1) := by decide +kernel
theorem dX7_share_26 : decode cX7_share 26 = .ok (.lconst 0, 1) := by decide +kernel
theorem dX7_share_27 : decode cX7_share 27 = .ok (.ldc2_w 350, 3) := by decide +kernel
theorem dX7_share_30 : decode cX7_share 30 = .ok (.invokestatic 352, 3) := by decide +kernel
theorem dX7_share_33 : decode cX7_share 33 = .ok (.ifCond .eq 7, 3) := by decide +kernel
theorem dX7_share_36 : decode cX7_share 36 = .ok (.iconst 1, 1) := by decide +kernel
theorem dX7_share_37 : decode cX7_share 37 = .ok (.goto 4, 3) := by decide +kernel
theorem dX7_share_40 : decode cX7_share 40 = .ok (.iconst 0, 1) := by decide +kernel
theorem dX7_share_41 : decode cX7_share 41 = .ok (.iconst 1, 1) := by decide +kernel
theorem dX7_share_42 : decode cX7_share 42 = .ok (.iconst 1, 1) := by decide +kernel
theorem dX7_share_43 : decode cX7_share 43 = .ok (.invokevirtual 346, 3) := by decide +kernel
theorem dX7_share_46 : decode cX7_share 46 = .ok (.ifCond .ne 5, 3) := by decide +kernel
theorem dX7_share_49 : decode cX7_share 49 = .ok (.lconst 0, 1) := by decide +kernel
theorem dX7_share_50 : decode cX7_share 50 = .ok (.lreturn, 1) := by decide +kernel
theorem dX7_share_51 : decode cX7_share 51 = .ok (.aload_n 0, 1) := by decide +kernel
theorem dX7_share_52 : decode cX7_share 52 = .ok (.iload_n 1, 1) := by decide +kernel
theorem dX7_share_53 : decode cX7_share 53 = .ok (.iload_n 2, 1) := by decide +kernel
theorem dX7_share_54 : decode cX7_share 54 = .ok (.iload_n 3, 1) := by decide +kernel
theorem dX7_share_55 : decode cX7_share 55 = .ok (.invokevirtual 446, 3) := by decide +kernel
theorem dX7_share_58 : decode cX7_share 58 = .ok (.aload_n 0, 1) := by decide +kernel
theorem dX7_share_59 : decode cX7_share 59 = .ok (.bipush 24, 2) := by decide +kernel
theorem dX7_share_61 : decode cX7_share 61 = .ok (.invokevirtual 231, 3) := by decide +kernel
theorem dX7_share_64 : decode cX7_share 64 = .ok (.aload_n 0, 1) := by decide +kernel
theorem dX7_share_65 : decode cX7_share 65 = .ok (.bipush 12, 2) := by decide +kernel
theorem dX7_share_67 : decode cX7_share 67 = .ok (.invokevirtual 194, 3) := by decide +kernel
theorem dX7_share_70 : decode cX7_share 70 = .ok (.lconst 0, 1) := by decide +kernel
theorem dX7_share_71 : decode cX7_share 71 = .ok (.lcmp, 1) := by decide +kernel
theorem dX7_share_72 : decode cX7_share 72 = .ok (.ifCond .ne 5, 3) := by decide +kernel
theorem dX7_share_75 : decode cX7_share 75 = .ok (.lconst 0, 1) := by decide +kernel
theorem dX7_share_76 : decode cX7_share 76 = .ok (.lreturn, 1) := by decide +kernel
theorem dX7_share_77 : decode cX7_share 77 = .ok (.aload_n 0, 1) := by decide +kernel
theorem dX7_share_78 : decode cX7_share 78 = .ok (.iload 4, 2) := by decide +kernel
theorem dX7_share_80 : decode cX7_share 80 = .ok (.i2l, 1) := by decide +kernel
theorem dX7_share_81 : decode cX7_share 81 = .ok (.bipush 12, 2) := by decide +kernel
theorem dX7_share_83 : decode cX7_share 83 = .ok (.invokevirtual 211, 3) := by decide +kernel
theorem dX7_share_86 : decode cX7_share 86 = .ok (.aload_n 0, 1) := by decide +kernel
theorem dX7_share_87 : decode cX7_share 87 = .ok (.getfield 112, 3) := by decide +kernel
theorem dX7_share_90 : decode cX7_share 90 = .ok (.iload 5, 2) := by decide +kernel
theorem dX7_share_92 : decode cX7_share 92 = .ok (.laload, 1) := by decide +kernel
theorem dX7_share_93 : decode cX7_share 93 = .ok (.lreturn, 1) := by decide +kernel
theorem dX7_weight_0 : decode cX7_weight 0 = .ok (.aload_n 0, 1) := by decide +kernel
theorem dX7_weight_1 : decode cX7_weight 1 = .ok (.iconst 0, 1) := by decide +kernel
theorem dX7_weight_2 : decode cX7_weight 2 = .ok (.putfield 1, 3) := by decide +kernel
theorem dX7_weight_5 : decode cX7_weight 5 = .ok (.aload_n 0, 1) := by decide +kernel
theorem dX7_weight_6 : decode cX7_weight 6 = .ok (.iload_n 1, 1) := by decide +kernel
theorem dX7_weight_7 : decode cX7_weight 7 = .ok (.iload_n 2, 1) := by decide +kernel
theorem dX7_weight_8 : decode cX7_weight 8 = .ok (.iload_n 3, 1) := by decide +kernel
theorem dX7_weight_9 : decode cX7_weight 9 = .ok (.invokestatic 389, 3) := by decide +kernel
theorem dX7_weight_12 : decode cX7_weight 12 = .ok (.ifCond .eq 20, 3) := by decide +kernel
theorem dX7_weight_15 : decode cX7_weight 15 = .ok (.iload 4, 2) := by decide +kernel
theorem dX7_weight_17 : decode cX7_weight 17 = .ok (.i2l, 1) := by decide +kernel
theorem dX7_weight_18 : decode cX7_weight 18 = .ok (.lconst 0, 1) := by decide +kernel
theorem dX7_weight_19 : decode cX7_weight 19 = .ok (.ldc2_w 350, 3) := by decide +kernel
theorem dX7_weight_22 : decode cX7_weight 22 = .ok (.invokestatic 352, 3) := by decide +kernel
theorem dX7_weight_25 : decode cX7_weight 25 = .ok (.ifCond .eq 7, 3) := by decide +kernel
theorem dX7_weight_28 : decode cX7_weight 28 = .ok (.iconst 1, 1) := by decide +kernel
theorem dX7_weight_29 : decode cX7_weight 29 = .ok (.goto 4, 3) := by decide +kernel
theorem dX7_weight_32 : decode cX7_weight 32 = .ok (.iconst 0, 1) := by decide +kernel
theorem dX7_weight_33 : decode cX7_weight 33 = .ok (.iconst 1, 1) := by decide +kernel
theorem dX7_weight_34 : decode cX7_weight 34 = .ok (.iconst 1, 1) := by decide +kernel
theorem dX7_weight_35 : decode cX7_weight 35 = .ok (.invokevirtual 346, 3) := by decide +kernel
theorem dX7_weight_38 : decode cX7_weight 38 = .ok (.ifCond .ne 5, 3) := by decide +kernel
theorem dX7_weight_41 : decode cX7_weight 41 = .ok (.lconst 0, 1) := by decide +kernel
theorem dX7_weight_42 : decode cX7_weight 42 = .ok (.lreturn, 1) := by decide +kernel
theorem dX7_weight_43 : decode cX7_weight 43 = .ok (.aload_n 0, 1) := by decide +kernel
theorem dX7_weight_44 : decode cX7_weight 44 = .ok (.iload_n 1, 1) := by decide +kernel
theorem dX7_weight_45 : decode cX7_weight 45 = .ok (.iload_n 2, 1) := by decide +kernel
theorem dX7_weight_46 : decode cX7_weight 46 = .ok (.iload_n 3, 1) := by decide +kernel
theorem dX7_weight_47 : decode cX7_weight 47 = .ok (.invokevirtual 446, 3) := by decide +kernel
theorem dX7_weight_50 : decode cX7_weight 50 = .ok (.aload_n 0, 1) := by decide +kernel
theorem dX7_weight_51 : decode cX7_weight 51 = .ok (.bipush 24, 2) := by decide +kernel
theorem dX7_weight_53 : decode cX7_weight 53 = .ok (.invokevirtual 270, 3) := by decide +kernel
theorem dX7_weight_56 : decode cX7_weight 56 = .ok (.aload_n 0, 1) := by decide +kernel
theorem dX7_weight_57 : decode cX7_weight 57 = .ok (.getfield 109, 3) := by decide +kernel
theorem dX7_weight_60 : decode cX7_weight 60 = .ok (.iload 4, 2) := by decide +kernel
theorem dX7_weight_62 : decode cX7_weight 62 = .ok (.laload, 1) := by decide +kernel
theorem dX7_weight_63 : decode cX7_weight 63 = .ok (.lreturn, 1) := by decide +kernel
theorem dX7_picks_0 : decode cX7_picks 0 = .ok (.aload_n 0, 1) := by decide +kernel
theorem dX7_picks_1 : decode cX7_picks 1 = .ok (.iconst 0, 1) := by decide +kernel
theorem dX7_picks_2 : decode cX7_picks 2 = .ok (.putfield 1, 3) := by decide +kernel
theorem dX7_picks_5 : decode cX7_picks 5 = .ok (.aload_n 0, 1) := by decide +kernel
theorem dX7_picks_6 : decode cX7_picks 6 = .ok (.iload_n 1, 1) := by decide +kernel
theorem dX7_picks_7 : decode cX7_picks 7 = .ok (.iload_n 2, 1) := by decide +kernel
theorem dX7_picks_8 : decode cX7_picks 8 = .ok (.iload_n 3, 1) := by decide +kernel
theorem dX7_picks_9 : decode cX7_picks 9 = .ok (.invokestatic 389, 3) := by decide +kernel
theorem dX7_picks_12 : decode cX7_picks 12 = .ok (.ifCond .eq 12, 3) := by decide +kernel
theorem dX7_picks_15 : decode cX7_picks 15 = .ok (.iload 4, 2) := by decide +kernel
theorem dX7_picks_17 : decode cX7_picks 17 = .ok (.ifCond .lt 7, 3) := by decide +kernel
theorem dX7_picks_20 : decode cX7_picks 20 = .ok (.iconst 1, 1) := by decide +kernel
theorem dX7_picks_21 : decode cX7_picks 21 = .ok (.goto 4, 3) := by decide +kernel
theorem dX7_picks_24 : decode cX7_picks 24 = .ok (.iconst 0, 1) := by decide +kernel
theorem dX7_picks_25 : decode cX7_picks 25 = .ok (.iconst 1, 1) := by decide +kernel
theorem dX7_picks_26 : decode cX7_picks 26 = .ok (.iconst 1, 1) := by decide +kernel
theorem dX7_picks_27 : decode cX7_picks 27 = .ok (.invokevirtual 346, 3) := by decide +kernel
theorem dX7_picks_30 : decode cX7_picks 30 = .ok (.ifCond .ne 5, 3) := by decide +kernel
theorem dX7_picks_33 : decode cX7_picks 33 = .ok (.iconst 0, 1) := by decide +kernel
theorem dX7_picks_34 : decode cX7_picks 34 = .ok (.ireturn, 1) := by decide +kernel
theorem dX7_picks_35 : decode cX7_picks 35 = .ok (.aload_n 0, 1) := by decide +kernel
theorem dX7_picks_36 : decode cX7_picks 36 = .ok (.iload_n 1, 1) := by decide +kernel
theorem dX7_picks_37 : decode cX7_picks 37 = .ok (.iload_n 2, 1) := by decide +kernel
theorem dX7_picks_38 : decode cX7_picks 38 = .ok (.iload_n 3, 1) := by decide +kernel
theorem dX7_picks_39 : decode cX7_picks 39 = .ok (.invokevirtual 446, 3) := by decide +kernel
theorem dX7_picks_42 : decode cX7_picks 42 = .ok (.aload_n 0, 1) := by decide +kernel
theorem dX7_picks_43 : decode cX7_picks 43 = .ok (.bipush 24, 2) := by decide +kernel
theorem dX7_picks_45 : decode cX7_picks 45 = .ok (.iload 4, 2) := by decide +kernel
theorem dX7_picks_47 : decode cX7_picks 47 = .ok (.invokevirtual 225, 3) := by decide +kernel
theorem dX7_picks_50 : decode cX7_picks 50 = .ok (.ireturn, 1) := by decide +kernel
theorem dX7_uneven_0 : decode cX7_uneven 0 = .ok (.aload_n 0, 1) := by decide +kernel
theorem dX7_uneven_1 : decode cX7_uneven 1 = .ok (.iconst 0, 1) := by decide +kernel
theorem dX7_uneven_2 : decode cX7_uneven 2 = .ok (.putfield 1, 3) := by decide +kernel
theorem dX7_uneven_5 : decode cX7_uneven 5 = .ok (.aload_n 0, 1) := by decide +kernel
theorem dX7_uneven_6 : decode cX7_uneven 6 = .ok (.iload 5, 2) := by decide +kernel
theorem dX7_uneven_8 : decode cX7_uneven 8 = .ok (.iconst 1, 1) := by decide +kernel
theorem dX7_uneven_9 : decode cX7_uneven 9 = .ok (.invokevirtual 374, 3) := by decide +kernel
theorem dX7_uneven_12 : decode cX7_uneven 12 = .ok (.ifCond .eq 34, 3) := by decide +kernel
theorem dX7_uneven_15 : decode cX7_uneven 15 = .ok (.aload_n 0, 1) := by decide +kernel
theorem dX7_uneven_16 : decode cX7_uneven 16 = .ok (.iload_n 1, 1) := by decide +kernel
theorem dX7_uneven_17 : decode cX7_uneven 17 = .ok (.iload_n 2, 1) := by decide +kernel
theorem dX7_uneven_18 : decode cX7_uneven 18 = .ok (.iload_n 3, 1) := by decide +kernel
theorem dX7_uneven_19 : decode cX7_uneven 19 = .ok (.invokestatic 389, 3) := by decide +kernel
theorem dX7_uneven_22 : decode cX7_uneven 22 = .ok (.ifCond .eq 15, 3) := by decide +kernel
theorem dX7_uneven_25 : decode cX7_uneven 25 = .ok (.iload 4, 2) := by decide +kernel
theorem dX7_uneven_27 : decode cX7_uneven 27 = .ok (.invokestatic 392, 3) := by decide +kernel
theorem dX7_uneven_30 : decode cX7_uneven 30 = .ok (.ifCond .eq 7, 3) := by decide +kernel
theorem dX7_uneven_33 : decode cX7_uneven 33 = .ok (.iconst 1, 1) := by decide +kernel
theorem dX7_uneven_34 : decode cX7_uneven 34 = .ok (.goto 4, 3) := by decide +kernel
theorem dX7_uneven_37 : decode cX7_uneven 37 = .ok (.iconst 0, 1) := by decide +kernel
theorem dX7_uneven_38 : decode cX7_uneven 38 = .ok (.iconst 2, 1) := by decide +kernel
theorem dX7_uneven_39 : decode cX7_uneven 39 = .ok (.iconst 1, 1) := by decide +kernel
theorem dX7_uneven_40 : decode cX7_uneven 40 = .ok (.invokevirtual 346, 3) := by decide +kernel
theorem dX7_uneven_43 : decode cX7_uneven 43 = .ok (.ifCond .ne 5, 3) := by decide +kernel
theorem dX7_uneven_46 : decode cX7_uneven 46 = .ok (.lconst 0, 1) := by decide +kernel
theorem dX7_uneven_47 : decode cX7_uneven 47 = .ok (.lreturn, 1) := by decide +kernel
theorem dX7_uneven_48 : decode cX7_uneven 48 = .ok (.aload_n 0, 1) := by decide +kernel
theorem dX7_uneven_49 : decode cX7_uneven 49 = .ok (.iload_n 1, 1) := by decide +kernel
theorem dX7_uneven_50 : decode cX7_uneven 50 = .ok (.iload_n 2, 1) := by decide +kernel
theorem dX7_uneven_51 : decode cX7_uneven 51 = .ok (.iload_n 3, 1) := by decide +kernel
theorem dX7_uneven_52 : decode cX7_uneven 52 = .ok (.invokevirtual 446, 3) := by decide +kernel
theorem dX7_uneven_55 : decode cX7_uneven 55 = .ok (.iconst 0, 1) := by decide +kernel
theorem dX7_uneven_56 : decode cX7_uneven 56 = .ok (.istore 6, 2) := by decide +kernel
theorem dX7_uneven_58 : decode cX7_uneven 58 = .ok (.iload 6, 2) := by decide +kernel
theorem dX7_uneven_60 : decode cX7_uneven 60 = .ok (.bipush 40, 2) := by decide +kernel
theorem dX7_uneven_62 : decode cX7_uneven 62 = .ok (.if_icmp .ge 17, 3) := by decide +kernel
theorem dX7_uneven_65 : decode cX7_uneven 65 = .ok (.aload_n 0, 1) := by decide +kernel
theorem dX7_uneven_66 : decode cX7_uneven 66 = .ok (.getfield 115, 3) := by decide +kernel
theorem dX7_uneven_69 : decode cX7_uneven 69 = .ok (.iload 6, 2) := by decide +kernel
theorem dX7_uneven_71 : decode cX7_uneven 71 = .ok (.lconst 0, 1) := by decide +kernel
theorem dX7_uneven_72 : decode cX7_uneven 72 = .ok (.lastore, 1) := by decide +kernel
theorem dX7_uneven_73 : decode cX7_uneven 73 = .ok (.iinc 6 1, 3) := by decide +kernel
theorem dX7_uneven_76 : decode cX7_uneven 76 = .ok (.goto (-18), 3) := by decide +kernel
theorem dX7_uneven_79 : decode cX7_uneven 79 = .ok (.aload_n 0, 1) := by decide +kernel
theorem dX7_uneven_80 : decode cX7_uneven 80 = .ok (.bipush 24, 2) := by decide +kernel
theorem dX7_uneven_82 : decode cX7_uneven 82 = .ok (.iload 4, 2) := by decide +kernel
theorem dX7_uneven_84 : decode cX7_uneven 84 = .ok (.i2l, 1) := by decide +kernel
theorem dX7_uneven_85 : decode cX7_uneven 85 = .ok (.invokevirtual 258, 3) := by decide +kernel
theorem dX7_uneven_88 : decode cX7_uneven 88 = .ok (.aload_n 0, 1) := by decide +kernel
theorem dX7_uneven_89 : decode cX7_uneven 89 = .ok (.bipush 24, 2) := by decide +kernel
theorem dX7_uneven_91 : decode cX7_uneven 91 = .ok (.iload 4, 2) := by decide +kernel
theorem dX7_uneven_93 : decode cX7_uneven 93 = .ok (.i2l, 1) := by decide +kernel
theorem dX7_uneven_94 : decode cX7_uneven 94 = .ok (.invokevirtual 261, 3) := by decide +kernel
theorem dX7_uneven_97 : decode cX7_uneven 97 = .ok (.aload_n 0, 1) := by decide +kernel
theorem dX7_uneven_98 : decode cX7_uneven 98 = .ok (.getfield 115, 3) := by decide +kernel
theorem dX7_uneven_101 : decode cX7_uneven 101 = .ok (.iload 5, 2) := by decide +kernel
theorem dX7_uneven_103 : decode cX7_uneven 103 = .ok (.laload, 1) := by decide +kernel
theorem dX7_uneven_104 : decode cX7_uneven 104 = .ok (.aload_n 0, 1) := by decide +kernel
theorem dX7_uneven_105 : decode cX7_uneven 105 = .ok (.getfield 118, 3) := by decide +kernel
theorem dX7_uneven_108 : decode cX7_uneven 108 = .ok (.iload 5, 2) := by decide +kernel
theorem dX7_uneven_110 : decode cX7_uneven 110 = .ok (.laload, 1) := by decide +kernel
theorem dX7_uneven_111 : decode cX7_uneven 111 = .ok (.lsub, 1) := by decide +kernel
theorem dX7_uneven_112 : decode cX7_uneven 112 = .ok (.lstore 6, 2) := by decide +kernel
theorem dX7_uneven_114 : decode cX7_uneven 114 = .ok (.aload_n 0, 1) := by decide +kernel
theorem dX7_uneven_115 : decode cX7_uneven 115 = .ok (.invokevirtual 403, 3) := by decide +kernel
theorem dX7_uneven_118 : decode cX7_uneven 118 = .ok (.lload 6, 2) := by decide +kernel
theorem dX7_uneven_120 : decode cX7_uneven 120 = .ok (.lreturn, 1) := by decide +kernel
theorem dX7_behind_0 : decode cX7_behind 0 = .ok (.aload_n 0, 1) := by decide +kernel
theorem dX7_behind_1 : decode cX7_behind 1 = .ok (.iload_n 1, 1) := by decide +kernel
