theorem dX5_put_184 : decode cX5_put 184 = .ok (.iconst 1, 1) := by decide +kernel
theorem dX5_put_185 : decode cX5_put 185 = .ok (.ireturn, 1) := by decide +kernel
theorem dX5_isFree_0 : decode cX5_isFree 0 = .ok (.iconst 0, 1) := by decide +kernel
theorem dX5_isFree_1 : decode cX5_isFree 1 = .ok (.istore 4, 2) := by decide +kernel
theorem dX5_isFree_3 : decode cX5_isFree 3 = .ok (.iload 4, 2) := by decide +kernel
theorem dX5_isFree_5 : decode cX5_isFree 5 = .ok (.aload_n 0, 1) := by decide +kernel
theorem dX5_isFree_6 : decode cX5_isFree 6 = .ok (.getfield 46, 3) := by decide +kernel
theorem dX5_isFree_9 : decode cX5_isFree 9 = .ok (.iload_n 1, 1) := by decide +kernel
theorem dX5_isFree_10 : decode cX5_isFree 10 = .ok (.iaload, 1) := by decide +kernel
theorem dX5_isFree_11 : decode cX5_isFree 11 = .ok (.if_icmp .ge 43, 3) := by decide +kernel
theorem dX5_isFree_14 : decode cX5_isFree 14 = .ok (.aload_n 0, 1) := by decide +kernel
theorem dX5_isFree_15 : decode cX5_isFree 15 = .ok (.iload_n 1, 1) := by decide +kernel
theorem dX5_isFree_16 : decode cX5_isFree 16 = .ok (.iload 4, 2) := by decide +kernel
theorem dX5_isFree_18 : decode cX5_isFree 18 = .ok (.invokevirtual 66, 3) := by decide +kernel
theorem dX5_isFree_21 : decode cX5_isFree 21 = .ok (.istore 5, 2) := by decide +kernel
theorem dX5_isFree_23 : decode cX5_isFree 23 = .ok (.iload_n 2, 1) := by decide +kernel
theorem dX5_isFree_24 : decode cX5_isFree 24 = .ok (.aload_n 0, 1) := by decide +kernel
theorem dX5_isFree_25 : decode cX5_isFree 25 = .ok (.iload 5, 2) := by decide +kernel
theorem dX5_isFree_27 : decode cX5_isFree 27 = .ok (.invokevirtual 70, 3) := by decide +kernel
theorem dX5_isFree_30 : decode cX5_isFree 30 = .ok (.if_icmp .ge 18, 3) := by decide +kernel
theorem dX5_isFree_33 : decode cX5_isFree 33 = .ok (.aload_n 0, 1) := by decide +kernel
theorem dX5_isFree_34 : decode cX5_isFree 34 = .ok (.getfield 15, 3) := by decide +kernel
theorem dX5_isFree_37 : decode cX5_isFree 37 = .ok (.iload 5, 2) := by decide +kernel
theorem dX5_isFree_39 : decode cX5_isFree 39 = .ok (.iaload, 1) := by decide +kernel
theorem dX5_isFree_40 : decode cX5_isFree 40 = .ok (.iload_n 2, 1) := by decide +kernel
theorem dX5_isFree_41 : decode cX5_isFree 41 = .ok (.iload_n 3, 1) := by decide +kernel
theorem dX5_isFree_42 : decode cX5_isFree 42 = .ok (.iadd, 1) := by decide +kernel
theorem dX5_isFree_43 : decode cX5_isFree 43 = .ok (.if_icmp .ge 5, 3) := by decide +kernel
theorem dX5_isFree_46 : decode cX5_isFree 46 = .ok (.iconst 0, 1) := by decide +kernel
theorem dX5_isFree_47 : decode cX5_isFree 47 = .ok (.ireturn, 1) := by decide +kernel
theorem dX5_isFree_48 : decode cX5_isFree 48 = .ok (.iinc 4 1, 3) := by decide +kernel
theorem dX5_isFree_51 : decode cX5_isFree 51 = .ok (.goto (-48), 3) := by decide +kernel
theorem dX5_isFree_54 : decode cX5_isFree 54 = .ok (.iconst 1, 1) := by decide +kernel
theorem dX5_isFree_55 : decode cX5_isFree 55 = .ok (.ireturn, 1) := by decide +kernel
theorem dX5_putSigner_0 : decode cX5_putSigner 0 = .ok (.aload_n 0, 1) := by decide +kernel
theorem dX5_putSigner_1 : decode cX5_putSigner 1 = .ok (.iload_n 1, 1) := by decide +kernel
theorem dX5_putSigner_2 : decode cX5_putSigner 2 = .ok (.invokevirtual 87, 3) := by decide +kernel
theorem dX5_putSigner_5 : decode cX5_putSigner 5 = .ok (.ifCond .eq 46, 3) := by decide +kernel
theorem dX5_putSigner_8 : decode cX5_putSigner 8 = .ok (.aload_n 0, 1) := by decide +kernel
theorem dX5_putSigner_9 : decode cX5_putSigner 9 = .ok (.getfield 28, 3) := by decide +kernel
theorem dX5_putSigner_12 : decode cX5_putSigner 12 = .ok (.iload_n 1, 1) := by decide +kernel
theorem dX5_putSigner_13 : decode cX5_putSigner 13 = .ok (.iaload, 1) := by decide +kernel
theorem dX5_putSigner_14 : decode cX5_putSigner 14 = .ok (.iconst 4, 1) := by decide +kernel
theorem dX5_putSigner_15 : decode cX5_putSigner 15 = .ok (.if_icmp .ge 36, 3) := by decide +kernel
theorem dX5_putSigner_18 : decode cX5_putSigner 18 = .ok (.aload_n 0, 1) := by decide +kernel
theorem dX5_putSigner_19 : decode cX5_putSigner 19 = .ok (.getfield 31, 3) := by decide +kernel
theorem dX5_putSigner_22 : decode cX5_putSigner 22 = .ok (.iload_n 1, 1) := by decide +kernel
theorem dX5_putSigner_23 : decode cX5_putSigner 23 = .ok (.iaload, 1) := by decide +kernel
theorem dX5_putSigner_24 : decode cX5_putSigner 24 = .ok (.iload_n 3, 1) := by decide +kernel
theorem dX5_putSigner_25 : decode cX5_putSigner 25 = .ok (.iadd, 1) := by decide +kernel
theorem dX5_putSigner_26 : decode cX5_putSigner 26 = .ok (.bipush 10, 2) := by decide +kernel
theorem dX5_putSigner_28 : decode cX5_putSigner 28 = .ok (.if_icmp .gt 23, 3) := by decide +kernel
theorem dX5_putSigner_31 : decode cX5_putSigner 31 = .ok (.aload_n 0, 1) := by decide +kernel
theorem dX5_putSigner_32 : decode cX5_putSigner 32 = .ok (.getfield 24, 3) := by decide +kernel
theorem dX5_putSigner_35 : decode cX5_putSigner 35 = .ok (.iload_n 1, 1) := by decide +kernel
theorem dX5_putSigner_36 : decode cX5_putSigner 36 = .ok (.laload, 1) := by decide +kernel
theorem dX5_putSigner_37 : decode cX5_putSigner 37 = .ok (.lconst 0, 1) := by decide +kernel
theorem dX5_putSigner_38 : decode cX5_putSigner 38 = .ok (.lcmp, 1) := by decide +kernel
theorem dX5_putSigner_39 : decode cX5_putSigner 39 = .ok (.ifCond .gt 12, 3) := by decide +kernel
theorem dX5_putSigner_42 : decode cX5_putSigner 42 = .ok (.aload_n 0, 1) := by decide +kernel
theorem dX5_putSigner_43 : decode cX5_putSigner 43 = .ok (.iload_n 1, 1) := by decide +kernel
theorem dX5_putSigner_44 : decode cX5_putSigner 44 = .ok (.iload_n 2, 1) := by decide +kernel
theorem dX5_putSigner_45 : decode cX5_putSigner 45 = .ok (.invokevirtual 90, 3) := by decide +kernel
theorem dX5_putSigner_48 : decode cX5_putSigner 48 = .ok (.ifCond .le 5, 3) := by decide +kernel
theorem dX5_putSigner_51 : decode cX5_putSigner 51 = .ok (.iconst 0, 1) := by decide +kernel
theorem dX5_putSigner_52 : decode cX5_putSigner 52 = .ok (.ireturn, 1) := by decide +kernel
theorem dX5_putSigner_53 : decode cX5_putSigner 53 = .ok (.iload_n 1, 1) := by decide +kernel
theorem dX5_putSigner_54 : decode cX5_putSigner 54 = .ok (.iconst 4, 1) := by decide +kernel
theorem dX5_putSigner_55 : decode cX5_putSigner 55 = .ok (.imul, 1) := by decide +kernel
theorem dX5_putSigner_56 : decode cX5_putSigner 56 = .ok (.aload_n 0, 1) := by decide +kernel
theorem dX5_putSigner_57 : decode cX5_putSigner 57 = .ok (.getfield 28, 3) := by decide +kernel
theorem dX5_putSigner_60 : decode cX5_putSigner 60 = .ok (.iload_n 1, 1) := by decide +kernel
theorem dX5_putSigner_61 : decode cX5_putSigner 61 = .ok (.iaload, 1) := by decide +kernel
theorem dX5_putSigner_62 : decode cX5_putSigner 62 = .ok (.iadd, 1) := by decide +kernel
theorem dX5_putSigner_63 : decode cX5_putSigner 63 = .ok (.istore 4, 2) := by decide +kernel
theorem dX5_putSigner_65 : decode cX5_putSigner 65 = .ok (.aload_n 0, 1) := by decide +kernel
theorem dX5_putSigner_66 : decode cX5_putSigner 66 = .ok (.getfield 34, 3) := by decide +kernel
theorem dX5_putSigner_69 : decode cX5_putSigner 69 = .ok (.iload 4, 2) := by decide +kernel
theorem dX5_putSigner_71 : decode cX5_putSigner 71 = .ok (.iload_n 2, 1) := by decide +kernel
theorem dX5_putSigner_72 : decode cX5_putSigner 72 = .ok (.iastore, 1) := by decide +kernel
theorem dX5_putSigner_73 : decode cX5_putSigner 73 = .ok (.aload_n 0, 1) := by decide +kernel
theorem dX5_putSigner_74 : decode cX5_putSigner 74 = .ok (.getfield 37, 3) := by decide +kernel
theorem dX5_putSigner_77 : decode cX5_putSigner 77 = .ok (.iload 4, 2) := by decide +kernel
theorem dX5_putSigner_79 : decode cX5_putSigner 79 = .ok (.iload_n 3, 1) := by decide +kernel
theorem dX5_putSigner_80 : decode cX5_putSigner 80 = .ok (.iastore, 1) := by decide +kernel
theorem dX5_putSigner_81 : decode cX5_putSigner 81 = .ok (.aload_n 0, 1) := by decide +kernel
theorem dX5_putSigner_82 : decode cX5_putSigner 82 = .ok (.getfield 40, 3) := by decide +kernel
theorem dX5_putSigner_85 : decode cX5_putSigner 85 = .ok (.iload 4, 2) := by decide +kernel
theorem dX5_putSigner_87 : decode cX5_putSigner 87 = .ok (.lconst 0, 1) := by decide +kernel
theorem dX5_putSigner_88 : decode cX5_putSigner 88 = .ok (.lastore, 1) := by decide +kernel
theorem dX5_putSigner_89 : decode cX5_putSigner 89 = .ok (.aload_n 0, 1) := by decide +kernel
theorem dX5_putSigner_90 : decode cX5_putSigner 90 = .ok (.getfield 28, 3) := by decide +kernel
theorem dX5_putSigner_93 : decode cX5_putSigner 93 = .ok (.iload_n 1, 1) := by decide +kernel
theorem dX5_putSigner_94 : decode cX5_putSigner 94 = .ok (.dup2, 1) := by decide +kernel
theorem dX5_putSigner_95 : decode cX5_putSigner 95 = .ok (.iaload, 1) := by decide +kernel
theorem dX5_putSigner_96 : decode cX5_putSigner 96 = .ok (.iconst 1, 1) := by decide +kernel
theorem dX5_putSigner_97 : decode cX5_putSigner 97 = .ok (.iadd, 1) := by decide +kernel
theorem dX5_putSigner_98 : decode cX5_putSigner 98 = .ok (.iastore, 1) := by decide +kernel
theorem dX5_putSigner_99 : decode cX5_putSigner 99 = .ok (.aload_n 0, 1) := by decide +kernel
theorem dX5_putSigner_100 : decode cX5_putSigner 100 = .ok (.getfield 31, 3) := by decide +kernel
theorem dX5_putSigner_103 : decode cX5_putSigner 103 = .ok (.iload_n 1, 1) := by decide +kernel
theorem dX5_putSigner_104 : decode cX5_putSigner 104 = .ok (.dup2, 1) := by decide +kernel
theorem dX5_putSigner_105 : decode cX5_putSigner 105 = .ok (.iaload, 1) := by decide +kernel
theorem dX5_putSigner_106 : decode cX5_putSigner 106 = .ok (.iload_n 3, 1) := by decide +kernel
theorem dX5_putSigner_107 : decode cX5_putSigner 107 = .ok (.iadd, 1) := by decide +kernel
theorem dX5_putSigner_108 : decode cX5_putSigner 108 = .ok (.iastore, 1) := by decide +kernel
theorem dX5_putSigner_109 : decode cX5_putSigner 109 = .ok (.iconst 1, 1) := by decide +kernel
theorem dX5_putSigner_110 : decode cX5_putSigner 110 = .ok (.ireturn, 1) := by decide +kernel
theorem dX5_putLack_0 : decode cX5_putLack 0 = .ok (.aload_n 0, 1) := by decide +kernel
theorem dX5_putLack_1 : decode cX5_putLack 1 = .ok (.iload_n 1, 1) := by decide +kernel
theorem dX5_putLack_2 : decode cX5_putLack 2 = .ok (.invokevirtual 74, 3) := by decide +kernel
theorem dX5_putLack_5 : decode cX5_putLack 5 = .ok (.ifCond .ne 11, 3) := by decide +kernel
theorem dX5_putLack_8 : decode cX5_putLack 8 = .ok (.aload_n 0, 1) := by decide +kernel
theorem dX5_putLack_9 : decode cX5_putLack 9 = .ok (.iload_n 1, 1) := by decide +kernel
theorem dX5_putLack_10 : decode cX5_putLack 10 = .ok (.invokevirtual 93, 3) := by decide +kernel
theorem dX5_putLack_13 : decode cX5_putLack 13 = .ok (.ifCond .ne 5, 3) := by decide +kernel
theorem dX5_putLack_16 : decode cX5_putLack 16 = .ok (.iconst 0, 1) := by decide +kernel
theorem dX5_putLack_17 : decode cX5_putLack 17 = .ok (.ireturn, 1) := by decide +kernel
theorem dX5_putLack_18 : decode cX5_putLack 18 = .ok (.aload_n 0, 1) := by decide +kernel
theorem dX5_putLack_19 : decode cX5_putLack 19 = .ok (.dup, 1) := by decide +kernel
theorem dX5_putLack_20 : decode cX5_putLack 20 = .ok (.getfield 55, 3) := by decide +kernel
theorem dX5_putLack_23 : decode cX5_putLack 23 = .ok (.iconst 1, 1) := by decide +kernel
theorem dX5_putLack_24 : decode cX5_putLack 24 = .ok (.iload_n 1, 1) := by decide +kernel
theorem dX5_putLack_25 : decode cX5_putLack 25 = .ok (.ishl, 1) := by decide +kernel
theorem dX5_putLack_26 : decode cX5_putLack 26 = .ok (.ior, 1) := by decide +kernel
theorem dX5_putLack_27 : decode cX5_putLack 27 = .ok (.putfield 55, 3) := by decide +kernel
theorem dX5_putLack_30 : decode cX5_putLack 30 = .ok (.iconst 1, 1) := by decide +kernel
theorem dX5_putLack_31 : decode cX5_putLack 31 = .ok (.ireturn, 1) := by decide +kernel
theorem dX5_tenthsBy_0 : decode cX5_tenthsBy 0 = .ok (.iconst 0, 1) := by decide +kernel
theorem dX5_tenthsBy_1 : decode cX5_tenthsBy 1 = .ok (.istore_n 3, 1) := by decide +kernel
theorem dX5_tenthsBy_2 : decode cX5_tenthsBy 2 = .ok (.iconst 0, 1) := by decide +kernel
theorem dX5_tenthsBy_3 : decode cX5_tenthsBy 3 = .ok (.istore 4, 2) := by decide +kernel
theorem dX5_tenthsBy_5 : decode cX5_tenthsBy 5 = .ok (.iload 4, 2) := by decide +kernel
theorem dX5_tenthsBy_7 : decode cX5_tenthsBy 7 = .ok (.aload_n 0, 1) := by decide +kernel
theorem dX5_tenthsBy_8 : decode cX5_tenthsBy 8 = .ok (.getfield 28, 3) := by decide +kernel
theorem dX5_tenthsBy_11 : decode cX5_tenthsBy 11 = .ok (.iload_n 1, 1) := by decide +kernel
theorem dX5_tenthsBy_12 : decode cX5_tenthsBy 12 = .ok (.iaload, 1) := by decide +kernel
theorem dX5_tenthsBy_13 : decode cX5_tenthsBy 13 = .ok (.if_icmp .ge 36, 3) := by decide +kernel
theorem dX5_tenthsBy_16 : decode cX5_tenthsBy 16 = .ok (.aload_n 0, 1) := by decide +kernel
theorem dX5_tenthsBy_17 : decode cX5_tenthsBy 17 = .ok (.getfield 34, 3) := by decide +kernel
theorem dX5_tenthsBy_20 : decode cX5_tenthsBy 20 = .ok (.iload_n 1, 1) := by decide +kernel
theorem dX5_tenthsBy_21 : decode cX5_tenthsBy 21 = .ok (.iconst 4, 1) := by decide +kernel
theorem dX5_tenthsBy_22 : decode cX5_tenthsBy 22 = .ok (.imul, 1) := by decide +kernel
theorem dX5_tenthsBy_23 : decode cX5_tenthsBy 23 = .ok (.iload 4, 2) := by decide +kernel
theorem dX5_tenthsBy_25 : decode cX5_tenthsBy 25 = .ok (.iadd, 1) := by decide +kernel
theorem dX5_tenthsBy_26 : decode cX5_tenthsBy 26 = .ok (.iaload, 1) := by decide +kernel
theorem dX5_tenthsBy_27 : decode cX5_tenthsBy 27 = .ok (.iload_n 2, 1) := by decide +kernel
theorem dX5_tenthsBy_28 : decode cX5_tenthsBy 28 = .ok (.if_icmp .ne 15, 3) := by decide +kernel
theorem dX5_tenthsBy_31 : decode cX5_tenthsBy 31 = .ok (.aload_n 0, 1) := by decide +kernel
theorem dX5_tenthsBy_32 : decode cX5_tenthsBy 32 = .ok (.getfield 37, 3) := by decide +kernel
theorem dX5_tenthsBy_35 : decode cX5_tenthsBy 35 = .ok (.iload_n 1, 1) := by decide +kernel
theorem dX5_tenthsBy_36 : decode cX5_tenthsBy 36 = .ok (.iconst 4, 1) := by decide +kernel
theorem dX5_tenthsBy_37 : decode cX5_tenthsBy 37 = .ok (.imul, 1) := by decide +kernel
theorem dX5_tenthsBy_38 : decode cX5_tenthsBy 38 = .ok (.iload 4, 2) := by decide +kernel
theorem dX5_tenthsBy_40 : decode cX5_tenthsBy 40 = .ok (.iadd, 1) := by decide +kernel
theorem dX5_tenthsBy_41 : decode cX5_tenthsBy 41 = .ok (.iaload, 1) := by decide +kernel
theorem dX5_tenthsBy_42 : decode cX5_tenthsBy 42 = .ok (.istore_n 3, 1) := by decide +kernel
theorem dX5_tenthsBy_43 : decode cX5_tenthsBy 43 = .ok (.iinc 4 1, 3) := by decide +kernel
theorem dX5_tenthsBy_46 : decode cX5_tenthsBy 46 = .ok (.goto (-41), 3) := by decide +kernel
theorem dX5_tenthsBy_49 : decode cX5_tenthsBy 49 = .ok (.iload_n 3, 1) := by decide +kernel
theorem dX5_tenthsBy_50 : decode cX5_tenthsBy 50 = .ok (.ireturn, 1) := by decide +kernel
theorem dX5_gapBits_0 : decode cX5_gapBits 0 = .ok (.iconst 0, 1) := by decide +kernel
theorem dX5_gapBits_1 : decode cX5_gapBits 1 = .ok (.istore_n 1, 1) := by decide +kernel
theorem dX5_gapBits_2 : decode cX5_gapBits 2 = .ok (.iconst 0, 1) := by decide +kernel
theorem dX5_gapBits_3 : decode cX5_gapBits 3 = .ok (.istore_n 2, 1) := by decide +kernel
theorem dX5_gapBits_4 : decode cX5_gapBits 4 = .ok (.iload_n 2, 1) := by decide +kernel
theorem dX5_gapBits_5 : decode cX5_gapBits 5 = .ok (.bipush 12, 2) := by decide +kernel
theorem dX5_gapBits_7 : decode cX5_gapBits 7 = .ok (.if_icmp .ge 23, 3) := by decide +kernel
theorem dX5_gapBits_10 : decode cX5_gapBits 10 = .ok (.aload_n 0, 1) := by decide +kernel
theorem dX5_gapBits_11 : decode cX5_gapBits 11 = .ok (.iload_n 2, 1) := by decide +kernel
theorem dX5_gapBits_12 : decode cX5_gapBits 12 = .ok (.invokevirtual 93, 3) := by decide +kernel
theorem dX5_gapBits_15 : decode cX5_gapBits 15 = .ok (.ifCond .eq 9, 3) := by decide +kernel
theorem dX5_gapBits_18 : decode cX5_gapBits 18 = .ok (.iload_n 1, 1) := by decide +kernel
theorem dX5_gapBits_19 : decode cX5_gapBits 19 = .ok (.iconst 1, 1) := by decide +kernel
theorem dX5_gapBits_20 : decode cX5_gapBits 20 = .ok (.iload_n 2, 1) := by decide +kernel
theorem dX5_gapBits_21 : decode cX5_gapBits 21 = .ok (.ishl, 1) := by decide +kernel
theorem dX5_gapBits_22 : decode cX5_gapBits 22 = .ok (.ior, 1) := by decide +kernel
theorem dX5_gapBits_23 : decode cX5_gapBits 23 = .ok (.istore_n 1, 1) := by decide +kernel
theorem dX5_gapBits_24 : decode cX5_gapBits 24 = .ok (.iinc 2 1, 3) := by decide +kernel
theorem dX5_gapBits_27 : decode cX5_gapBits 27 = .ok (.goto (-23), 3) := by decide +kernel
theorem dX5_gapBits_30 : decode cX5_gapBits 30 = .ok (.iload_n 1, 1) := by decide +kernel
theorem dX5_gapBits_31 : decode cX5_gapBits 31 = .ok (.ireturn, 1) := by decide +kernel
theorem dX5_signerBits_0 : decode cX5_signerBits 0 = .ok (.iconst 0, 1) := by decide +kernel
theorem dX5_signerBits_1 : decode cX5_signerBits 1 = .ok (.istore_n 1, 1) := by decide +kernel
theorem dX5_signerBits_2 : decode cX5_signerBits 2 = .ok (.iconst 0, 1) := by decide +kernel
theorem dX5_signerBits_3 : decode cX5_signerBits 3 = .ok (.istore_n 2, 1) := by decide +kernel
theorem dX5_signerBits_4 : decode cX5_signerBits 4 = .ok (.iload_n 2, 1) := by decide +kernel
theorem dX5_signerBits_5 : decode cX5_signerBits 5 = .ok (.aload_n 0, 1) := by decide +kernel
theorem dX5_signerBits_6 : decode cX5_signerBits 6 = .ok (.getfield 59, 3) := by decide +kernel
theorem dX5_signerBits_9 : decode cX5_signerBits 9 = .ok (.if_icmp .ge 42, 3) := by decide +kernel
theorem dX5_signerBits_12 : decode cX5_signerBits 12 = .ok (.iconst 0, 1) := by decide +kernel
theorem dX5_signerBits_13 : decode cX5_signerBits 13 = .ok (.istore_n 3, 1) := by decide +kernel
theorem dX5_signerBits_14 : decode cX5_signerBits 14 = .ok (.iload_n 3, 1) := by decide +kernel
theorem dX5_signerBits_15 : decode cX5_signerBits 15 = .ok (.aload_n 0, 1) := by decide +kernel
theorem dX5_signerBits_16 : decode cX5_signerBits 16 = .ok (.getfield 28, 3) := by decide +kernel
theorem dX5_signerBits_19 : decode cX5_signerBits 19 = .ok (.iload_n 2, 1) := by decide +kernel
theorem dX5_signerBits_20 : decode cX5_signerBits 20 = .ok (.iaload, 1) := by decide +kernel
theorem dX5_signerBits_21 : decode cX5_signerBits 21 = .ok (.if_icmp .ge 24, 3) := by decide +kernel
theorem dX5_signerBits_24 : decode cX5_signerBits 24 = .ok (.iload_n 1, 1) := by decide +kernel
theorem dX5_signerBits_25 : decode cX5_signerBits 25 = .ok (.iconst 1, 1) := by decide +kernel
theorem dX5_signerBits_26 : decode cX5_signerBits 26 = .ok (.aload_n 0, 1) := by decide +kernel
theorem dX5_signerBits_27 : decode cX5_signerBits 27 = .ok (.getfield 34, 3) := by decide +kernel
theorem dX5_signerBits_30 : decode cX5_signerBits 30 = .ok (.iload_n 2, 1) := by decide +kernel
theorem dX5_signerBits_31 : decode cX5_signerBits 31 = .ok (.iconst 4, 1) := by decide +kernel
theorem dX5_signerBits_32 : decode cX5_signerBits 32 = .ok (.imul, 1) := by decide +kernel
theorem dX5_signerBits_33 : decode cX5_signerBits 33 = .ok (.iload_n 3, 1) := by decide +kernel
theorem dX5_signerBits_34 : decode cX5_signerBits 34 = .ok (.iadd, 1) := by decide +kernel
theorem dX5_signerBits_35 : decode cX5_signerBits 35 = .ok (.iaload, 1) := by decide +kernel
theorem dX5_signerBits_36 : decode cX5_signerBits 36 = .ok (.ishl, 1) := by decide +kernel
theorem dX5_signerBits_37 : decode cX5_signerBits 37 = .ok (.ior, 1) := by decide +kernel
theorem dX5_signerBits_38 : decode cX5_signerBits 38 = .ok (.istore_n 1, 1) := by decide +kernel
theorem dX5_signerBits_39 : decode cX5_signerBits 39 = .ok (.iinc 3 1, 3) := by decide +kernel
theorem dX5_signerBits_42 : decode cX5_signerBits 42 = .ok (.goto (-28), 3) := by decide +kernel
theorem dX5_signerBits_45 : decode cX5_signerBits 45 = .ok (.iinc 2 1, 3) := by decide +kernel
theorem dX5_signerBits_48 : decode cX5_signerBits 48 = .ok (.goto (-44), 3) := by decide +kernel
theorem dX5_signerBits_51 : decode cX5_signerBits 51 = .ok (.iload_n 1, 1) := by decide +kernel
theorem dX5_signerBits_52 : decode cX5_signerBits 52 = .ok (.ireturn, 1) := by decide +kernel
theorem dX5_sizesIn_0 : decode cX5_sizesIn 0 = .ok (.lconst 0, 1) := by decide +kernel
theorem dX5_sizesIn_1 : decode cX5_sizesIn 1 = .ok (.lstore_n 2, 1) := by decide +kernel
theorem dX5_sizesIn_2 : decode cX5_sizesIn 2 = .ok (.iconst 0, 1) := by decide +kernel
theorem dX5_sizesIn_3 : decode cX5_sizesIn 3 = .ok (.istore 4, 2) := by decide +kernel
theorem dX5_sizesIn_5 : decode cX5_sizesIn 5 = .ok (.iload 4, 2) := by decide +kernel
theorem dX5_sizesIn_7 : decode cX5_sizesIn 7 = .ok (.aload_n 0, 1) := by decide +kernel
theorem dX5_sizesIn_8 : decode cX5_sizesIn 8 = .ok (.getfield 46, 3) := by decide +kernel
theorem dX5_sizesIn_11 : decode cX5_sizesIn 11 = .ok (.iload_n 1, 1) := by decide +kernel
theorem dX5_sizesIn_12 : decode cX5_sizesIn 12 = .ok (.iaload, 1) := by decide +kernel
theorem dX5_sizesIn_13 : decode cX5_sizesIn 13 = .ok (.if_icmp .ge 25, 3) := by decide +kernel
theorem dX5_sizesIn_16 : decode cX5_sizesIn 16 = .ok (.lload_n 2, 1) := by decide +kernel
theorem dX5_sizesIn_17 : decode cX5_sizesIn 17 = .ok (.aload_n 0, 1) := by decide +kernel
theorem dX5_sizesIn_18 : decode cX5_sizesIn 18 = .ok (.getfield 18, 3) := by decide +kernel
theorem dX5_sizesIn_21 : decode cX5_sizesIn 21 = .ok (.aload_n 0, 1) := by decide +kernel
theorem dX5_sizesIn_22 : decode cX5_sizesIn 22 = .ok (.iload_n 1, 1) := by decide +kernel
theorem dX5_sizesIn_23 : decode cX5_sizesIn 23 = .ok (.iload 4, 2) := by decide +kernel
theorem dX5_sizesIn_25 : decode cX5_sizesIn 25 = .ok (.invokevirtual 66, 3) := by decide +kernel
theorem dX5_sizesIn_28 : decode cX5_sizesIn 28 = .ok (.iaload, 1) := by decide +kernel
theorem dX5_sizesIn_29 : decode cX5_sizesIn 29 = .ok (.i2l, 1) := by decide +kernel
theorem dX5_sizesIn_30 : decode cX5_sizesIn 30 = .ok (.ladd, 1) := by decide +kernel
theorem dX5_sizesIn_31 : decode cX5_sizesIn 31 = .ok (.lstore_n 2, 1) := by decide +kernel
theorem dX5_sizesIn_32 : decode cX5_sizesIn 32 = .ok (.iinc 4 1, 3) := by decide +kernel
theorem dX5_sizesIn_35 : decode cX5_sizesIn 35 = .ok (.goto (-30), 3) := by decide +kernel
theorem dX5_sizesIn_38 : decode cX5_sizesIn 38 = .ok (.lload_n 2, 1) := by decide +kernel
theorem dX5_sizesIn_39 : decode cX5_sizesIn 39 = .ok (.lreturn, 1) := by decide +kernel
theorem dX5_usedIn_0 : decode cX5_usedIn 0 = .ok (.lconst 0, 1) := by decide +kernel
theorem dX5_usedIn_1 : decode cX5_usedIn 1 = .ok (.lstore_n 2, 1) := by decide +kernel
theorem dX5_usedIn_2 : decode cX5_usedIn 2 = .ok (.iconst 0, 1) := by decide +kernel
theorem dX5_usedIn_3 : decode cX5_usedIn 3 = .ok (.istore 4, 2) := by decide +kernel
theorem dX5_usedIn_5 : decode cX5_usedIn 5 = .ok (.iload 4, 2) := by decide +kernel
theorem dX5_usedIn_7 : decode cX5_usedIn 7 = .ok (.aload_n 0, 1) := by decide +kernel
theorem dX5_usedIn_8 : decode cX5_usedIn 8 = .ok (.getfield 46, 3) := by decide +kernel
theorem dX5_usedIn_11 : decode cX5_usedIn 11 = .ok (.iload_n 1, 1) := by decide +kernel
theorem dX5_usedIn_12 : decode cX5_usedIn 12 = .ok (.iaload, 1) := by decide +kernel
theorem dX5_usedIn_13 : decode cX5_usedIn 13 = .ok (.if_icmp .ge 24, 3) := by decide +kernel
theorem dX5_usedIn_16 : decode cX5_usedIn 16 = .ok (.lload_n 2, 1) := by decide +kernel
theorem dX5_usedIn_17 : decode cX5_usedIn 17 = .ok (.aload_n 0, 1) := by decide +kernel
theorem dX5_usedIn_18 : decode cX5_usedIn 18 = .ok (.getfield 24, 3) := by decide +kernel
theorem dX5_usedIn_21 : decode cX5_usedIn 21 = .ok (.aload_n 0, 1) := by decide +kernel
theorem dX5_usedIn_22 : decode cX5_usedIn 22 = .ok (.iload_n 1, 1) := by decide +kernel
theorem dX5_usedIn_23 : decode cX5_usedIn 23 = .ok (.iload 4, 2) := by decide +kernel
theorem dX5_usedIn_25 : decode cX5_usedIn 25 = .ok (.invokevirtual 66, 3) := by decide +kernel
theorem dX5_usedIn_28 : decode cX5_usedIn 28 = .ok (.laload, 1) := by decide +kernel
theorem dX5_usedIn_29 : decode cX5_usedIn 29 = .ok (.ladd, 1) := by decide +kernel
theorem dX5_usedIn_30 : decode cX5_usedIn 30 = .ok (.lstore_n 2, 1) := by decide +kernel
theorem dX5_usedIn_31 : decode cX5_usedIn 31 = .ok (.iinc 4 1, 3) := by decide +kernel
theorem dX5_usedIn_34 : decode cX5_usedIn 34 = .ok (.goto (-29), 3) := by decide +kernel
theorem dX5_usedIn_37 : decode cX5_usedIn 37 = .ok (.lload_n 2, 1) := by decide +kernel
theorem dX5_usedIn_38 : decode cX5_usedIn 38 = .ok (.lreturn, 1) := by decide +kernel
theorem dX5_leftIn_0 : decode cX5_leftIn 0 = .ok (.lconst 0, 1) := by decide +kernel
theorem dX5_leftIn_1 : decode cX5_leftIn 1 = .ok (.lstore_n 2, 1) := by decide +kernel
theorem dX5_leftIn_2 : decode cX5_leftIn 2 = .ok (.iconst 0, 1) := by decide +kernel
theorem dX5_leftIn_3 : decode cX5_leftIn 3 = .ok (.istore 4, 2) := by decide +kernel
theorem dX5_leftIn_5 : decode cX5_leftIn 5 = .ok (.iload 4, 2) := by decide +kernel
theorem dX5_leftIn_7 : decode cX5_leftIn 7 = .ok (.aload_n 0, 1) := by decide +kernel
theorem dX5_leftIn_8 : decode cX5_leftIn 8 = .ok (.getfield 46, 3) := by decide +kernel
theorem dX5_leftIn_11 : decode cX5_leftIn 11 = .ok (.iload_n 1, 1) := by decide +kernel
theorem dX5_leftIn_12 : decode cX5_leftIn 12 = .ok (.iaload, 1) := by decide +kernel
theorem dX5_leftIn_13 : decode cX5_leftIn 13 = .ok (.if_icmp .ge 23, 3) := by decide +kernel
theorem dX5_leftIn_16 : decode cX5_leftIn 16 = .ok (.lload_n 2, 1) := by decide +kernel
theorem dX5_leftIn_17 : decode cX5_leftIn 17 = .ok (.aload_n 0, 1) := by decide +kernel
theorem dX5_leftIn_18 : decode cX5_leftIn 18 = .ok (.aload_n 0, 1) := by decide +kernel
theorem dX5_leftIn_19 : decode cX5_leftIn 19 = .ok (.iload_n 1, 1) := by decide +kernel
theorem dX5_leftIn_20 : decode cX5_leftIn 20 = .ok (.iload 4, 2) := by decide +kernel
theorem dX5_leftIn_22 : decode cX5_leftIn 22 = .ok (.invokevirtual 66, 3) := by decide +kernel
theorem dX5_leftIn_25 : decode cX5_leftIn 25 = .ok (.invokevirtual 62, 3) := by decide +kernel
theorem dX5_leftIn_28 : decode cX5_leftIn 28 = .ok (.ladd, 1) := by decide +kernel
theorem dX5_leftIn_29 : decode cX5_leftIn 29 = .ok (.lstore_n 2, 1) := by decide +kernel
theorem dX5_leftIn_30 : decode cX5_leftIn 30 = .ok (.iinc 4 1, 3) := by decide +kernel
theorem dX5_leftIn_33 : decode cX5_leftIn 33 = .ok (.goto (-28), 3) := by decide +kernel
theorem dX5_leftIn_36 : decode cX5_leftIn 36 = .ok (.lload_n 2, 1) := by decide +kernel
theorem dX5_leftIn_37 : decode cX5_leftIn 37 = .ok (.lreturn, 1) := by decide +kernel
theorem dX5_layerAtHeight_0 : decode cX5_layerAtHeight 0 = .ok (.iconst 0, 1) := by decide +kernel
theorem dX5_layerAtHeight_1 : decode cX5_layerAtHeight 1 = .ok (.istore_n 3, 1) := by decide +kernel
theorem dX5_layerAtHeight_2 : decode cX5_layerAtHeight 2 = .ok (.iload_n 3, 1) := by decide +kernel
theorem dX5_layerAtHeight_3 : decode cX5_layerAtHeight 3 = .ok (.aload_n 0, 1) := by decide +kernel
theorem dX5_layerAtHeight_4 : decode cX5_layerAtHeight 4 = .ok (.getfield 46, 3) := by decide +kernel
theorem dX5_layerAtHeight_7 : decode cX5_layerAtHeight 7 = .ok (.iload_n 1, 1) := by decide +kernel
theorem dX5_layerAtHeight_8 : decode cX5_layerAtHeight 8 = .ok (.iaload, 1) := by decide +kernel
theorem dX5_layerAtHeight_9 : decode cX5_layerAtHeight 9 = .ok (.if_icmp .ge 43, 3) := by decide +kernel
theorem dX5_layerAtHeight_12 : decode cX5_layerAtHeight 12 = .ok (.aload_n 0, 1) := by decide +kernel
theorem dX5_layerAtHeight_13 : decode cX5_layerAtHeight 13 = .ok (.iload_n 1, 1) := by decide +kernel
theorem dX5_layerAtHeight_14 : decode cX5_layerAtHeight 14 = .ok (.iload_n 3, 1) := by decide +kernel
theorem dX5_layerAtHeight_15 : decode cX5_layerAtHeight 15 = .ok (.invokevirtual 66, 3) := by decide +kernel
theorem dX5_layerAtHeight_18 : decode cX5_layerAtHeight 18 = .ok (.istore 4, 2) := by decide +kernel
theorem dX5_layerAtHeight_20 : decode cX5_layerAtHeight 20 = .ok (.iload_n 2, 1) := by decide +kernel
theorem dX5_layerAtHeight_21 : decode cX5_layerAtHeight 21 = .ok (.aload_n 0, 1) := by decide +kernel
theorem dX5_layerAtHeight_22 : decode cX5_layerAtHeight 22 = .ok (.getfield 15, 3) := by decide +kernel
theorem dX5_layerAtHeight_25 : decode cX5_layerAtHeight 25 = .ok (.iload 4, 2) := by decide +kernel
theorem dX5_layerAtHeight_27 : decode cX5_layerAtHeight 27 = .ok (.iaload, 1) := by decide +kernel
theorem dX5_layerAtHeight_28 : decode cX5_layerAtHeight 28 = .ok (.if_icmp .ge 5, 3) := by decide +kernel
theorem dX5_layerAtHeight_31 : decode cX5_layerAtHeight 31 = .ok (.iconst (-1), 1) := by decide +kernel
theorem dX5_layerAtHeight_32 : decode cX5_layerAtHeight 32 = .ok (.ireturn, 1) := by decide +kernel
theorem dX5_layerAtHeight_33 : decode cX5_layerAtHeight 33 = .ok (.iload_n 2, 1) := by decide +kernel
theorem dX5_layerAtHeight_34 : decode cX5_layerAtHeight 34 = .ok (.aload_n 0, 1) := by decide +kernel
theorem dX5_layerAtHeight_35 : decode cX5_layerAtHeight 35 = .ok (.iload 4, 2) := by decide +kernel
theorem dX5_layerAtHeight_37 : decode cX5_layerAtHeight 37 = .ok (.invokevirtual 70, 3) := by decide +kernel
theorem dX5_layerAtHeight_40 : decode cX5_layerAtHeight 40 = .ok (.if_icmp .ge 6, 3) := by decide +kernel
theorem dX5_layerAtHeight_43 : decode cX5_layerAtHeight 43 = .ok (.iload 4, 2) := by decide +kernel
theorem dX5_layerAtHeight_45 : decode cX5_layerAtHeight 45 = .ok (.ireturn, 1) := by decide +kernel
theorem dX5_layerAtHeight_46 : decode cX5_layerAtHeight 46 = .ok (.iinc 3 1, 3) := by decide +kernel
theorem dX5_layerAtHeight_49 : decode cX5_layerAtHeight 49 = .ok (.goto (-47), 3) := by decide +kernel
theorem dX5_layerAtHeight_52 : decode cX5_layerAtHeight 52 = .ok (.bipush (-2), 2) := by decide +kernel
theorem dX5_layerAtHeight_54 : decode cX5_layerAtHeight 54 = .ok (.ireturn, 1) := by decide +kernel
theorem dX5_coveredIn_0 : decode cX5_coveredIn 0 = .ok (.iconst 0, 1) := by decide +kernel
theorem dX5_coveredIn_1 : decode cX5_coveredIn 1 = .ok (.istore 4, 2) := by decide +kernel
theorem dX5_coveredIn_3 : decode cX5_coveredIn 3 = .ok (.iconst 0, 1) := by decide +kernel
theorem dX5_coveredIn_4 : decode cX5_coveredIn 4 = .ok (.istore 5, 2) := by decide +kernel
theorem dX5_coveredIn_6 : decode cX5_coveredIn 6 = .ok (.iload 5, 2) := by decide +kernel
theorem dX5_coveredIn_8 : decode cX5_coveredIn 8 = .ok (.aload_n 0, 1) := by decide +kernel
theorem dX5_coveredIn_9 : decode cX5_coveredIn 9 = .ok (.getfield 46, 3) := by decide +kernel
theorem dX5_coveredIn_12 : decode cX5_coveredIn 12 = .ok (.iload_n 1, 1) := by decide +kernel
theorem dX5_coveredIn_13 : decode cX5_coveredIn 13 = .ok (.iaload, 1) := by decide +kernel
theorem dX5_coveredIn_14 : decode cX5_coveredIn 14 = .ok (.if_icmp .ge 49, 3) := by decide +kernel
theorem dX5_coveredIn_17 : decode cX5_coveredIn 17 = .ok (.aload_n 0, 1) := by decide +kernel
theorem dX5_coveredIn_18 : decode cX5_coveredIn 18 = .ok (.iload_n 1, 1) := by decide +kernel
theorem dX5_coveredIn_19 : decode cX5_coveredIn 19 = .ok (.iload 5, 2) := by decide +kernel
theorem dX5_coveredIn_21 : decode cX5_coveredIn 21 = .ok (.invokevirtual 66, 3) := by decide +kernel
theorem dX5_coveredIn_24 : decode cX5_coveredIn 24 = .ok (.istore 6, 2) := by decide +kernel
theorem dX5_coveredIn_26 : decode cX5_coveredIn 26 = .ok (.iload 4, 2) := by decide +kernel
theorem dX5_coveredIn_28 : decode cX5_coveredIn 28 = .ok (.iconst 0, 1) := by decide +kernel
theorem dX5_coveredIn_29 : decode cX5_coveredIn 29 = .ok (.iload_n 3, 1) := by decide +kernel
theorem dX5_coveredIn_30 : decode cX5_coveredIn 30 = .ok (.aload_n 0, 1) := by decide +kernel
theorem dX5_coveredIn_31 : decode cX5_coveredIn 31 = .ok (.iload 6, 2) := by decide +kernel
theorem dX5_coveredIn_33 : decode cX5_coveredIn 33 = .ok (.invokevirtual 70, 3) := by decide +kernel
theorem dX5_coveredIn_36 : decode cX5_coveredIn 36 = .ok (.invokestatic 96, 3) := by decide +kernel
theorem dX5_coveredIn_39 : decode cX5_coveredIn 39 = .ok (.iload_n 2, 1) := by decide +kernel
theorem dX5_coveredIn_40 : decode cX5_coveredIn 40 = .ok (.aload_n 0, 1) := by decide +kernel
theorem dX5_coveredIn_41 : decode cX5_coveredIn 41 = .ok (.getfield 15, 3) := by decide +kernel
theorem dX5_coveredIn_44 : decode cX5_coveredIn 44 = .ok (.iload 6, 2) := by decide +kernel
theorem dX5_coveredIn_46 : decode cX5_coveredIn 46 = .ok (.iaload, 1) := by decide +kernel
theorem dX5_coveredIn_47 : decode cX5_coveredIn 47 = .ok (.invokestatic 82, 3) := by decide +kernel
theorem dX5_coveredIn_50 : decode cX5_coveredIn 50 = .ok (.isub, 1) := by decide +kernel
theorem dX5_coveredIn_51 : decode cX5_coveredIn 51 = .ok (.invokestatic 82, 3) := by decide +kernel
theorem dX5_coveredIn_54 : decode cX5_coveredIn 54 = .ok (.iadd, 1) := by decide +kernel
theorem dX5_coveredIn_55 : decode cX5_coveredIn 55 = .ok (.istore 4, 2) := by decide +kernel
theorem dX5_coveredIn_57 : decode cX5_coveredIn 57 = .ok (.iinc 5 1, 3) := by decide +kernel
theorem dX5_coveredIn_60 : decode cX5_coveredIn 60 = .ok (.goto (-54), 3) := by decide +kernel
theorem dX5_coveredIn_63 : decode cX5_coveredIn 63 = .ok (.iload 4, 2) := by decide +kernel
theorem dX5_coveredIn_65 : decode cX5_coveredIn 65 = .ok (.ireturn, 1) := by decide +kernel
theorem dX5_layersSignedBy_0 : decode cX5_layersSignedBy 0 = .ok (.iconst 0, 1) := by decide +kernel
theorem dX5_layersSignedBy_1 : decode cX5_layersSignedBy 1 = .ok (.istore_n 2, 1) := by decide +kernel
theorem dX5_layersSignedBy_2 : decode cX5_layersSignedBy 2 = .ok (.iconst 0, 1) := by decide +kernel
theorem dX5_layersSignedBy_3 : decode cX5_layersSignedBy 3 = .ok (.istore_n 3, 1) := by decide +kernel
theorem dX5_layersSignedBy_4 : decode cX5_layersSignedBy 4 = .ok (.iload_n 3, 1) := by decide +kernel
theorem dX5_layersSignedBy_5 : decode cX5_layersSignedBy 5 = .ok (.aload_n 0, 1) := by decide +kernel
theorem dX5_layersSignedBy_6 : decode cX5_layersSignedBy 6 = .ok (.getfield 59, 3) := by decide +kernel
theorem dX5_layersSignedBy_9 : decode cX5_layersSignedBy 9 = .ok (.if_icmp .ge 21, 3) := by decide +kernel
theorem dX5_layersSignedBy_12 : decode cX5_layersSignedBy 12 = .ok (.aload_n 0, 1) := by decide +kernel
theorem dX5_layersSignedBy_13 : decode cX5_layersSignedBy 13 = .ok (.iload_n 3, 1) := by decide +kernel
theorem dX5_layersSignedBy_14 : decode cX5_layersSignedBy 14 = .ok (.iload_n 1, 1) := by decide +kernel
theorem dX5_layersSignedBy_15 : decode cX5_layersSignedBy 15 = .ok (.invokevirtual 90, 3) := by decide +kernel
theorem dX5_layersSignedBy_18 : decode cX5_layersSignedBy 18 = .ok (.ifCond .le 6, 3) := by decide +kernel
theorem dX5_layersSignedBy_21 : decode cX5_layersSignedBy 21 = .ok (.iinc 2 1, 3) := by decide +kernel
theorem dX5_layersSignedBy_24 : decode cX5_layersSignedBy 24 = .ok (.iinc 3 1, 3) := by decide +kernel
theorem dX5_layersSignedBy_27 : decode cX5_layersSignedBy 27 = .ok (.goto (-23), 3) := by decide +kernel
theorem dX5_layersSignedBy_30 : decode cX5_layersSignedBy 30 = .ok (.iload_n 2, 1) := by decide +kernel
theorem dX5_layersSignedBy_31 : decode cX5_layersSignedBy 31 = .ok (.ireturn, 1) := by decide +kernel
theorem dX5_leftSignedBy_0 : decode cX5_leftSignedBy 0 = .ok (.lconst 0, 1) := by decide +kernel
theorem dX5_leftSignedBy_1 : decode cX5_leftSignedBy 1 = .ok (.lstore_n 2, 1) := by decide +kernel
theorem dX5_leftSignedBy_2 : decode cX5_leftSignedBy 2 = .ok (.iconst 0, 1) := by decide +kernel
theorem dX5_leftSignedBy_3 : decode cX5_leftSignedBy 3 = .ok (.istore 4, 2) := by decide +kernel
theorem dX5_leftSignedBy_5 : decode cX5_leftSignedBy 5 = .ok (.iload 4, 2) := by decide +kernel
theorem dX5_leftSignedBy_7 : decode cX5_leftSignedBy 7 = .ok (.aload_n 0, 1) := by decide +kernel
theorem dX5_leftSignedBy_8 : decode cX5_leftSignedBy 8 = .ok (.getfield 59, 3) := by decide +kernel
theorem dX5_leftSignedBy_11 : decode cX5_leftSignedBy 11 = .ok (.if_icmp .ge 31, 3) := by decide +kernel
theorem dX5_leftSignedBy_14 : decode cX5_leftSignedBy 14 = .ok (.lload_n 2, 1) := by decide +kernel
theorem dX5_leftSignedBy_15 : decode cX5_leftSignedBy 15 = .ok (.aload_n 0, 1) := by decide +kernel
theorem dX5_leftSignedBy_16 : decode cX5_leftSignedBy 16 = .ok (.iload 4, 2) := by decide +kernel
theorem dX5_leftSignedBy_18 : decode cX5_leftSignedBy 18 = .ok (.invokevirtual 62, 3) := by decide +kernel
theorem dX5_leftSignedBy_21 : decode cX5_leftSignedBy 21 = .ok (.aload_n 0, 1) := by decide +kernel
theorem dX5_leftSignedBy_22 : decode cX5_leftSignedBy 22 = .ok (.iload 4, 2) := by decide +kernel
theorem dX5_leftSignedBy_24 : decode cX5_leftSignedBy 24 = .ok (.iload_n 1, 1) := by decide +kernel
theorem dX5_leftSignedBy_25 : decode cX5_leftSignedBy 25 = .ok (.invokevirtual 90, 3) := by decide +kernel
theorem dX5_leftSignedBy_28 : decode cX5_leftSignedBy 28 = .ok (.i2l, 1) := by decide +kernel
theorem dX5_leftSignedBy_29 : decode cX5_leftSignedBy 29 = .ok (.lmul, 1) := by decide +kernel
theorem dX5_leftSignedBy_30 : decode cX5_leftSignedBy 30 = .ok (.ldc2_w 99, 3) := by decide +kernel
theorem dX5_leftSignedBy_33 : decode cX5_leftSignedBy 33 = .ok (.ldiv, 1) := by decide +kernel
theorem dX5_leftSignedBy_34 : decode cX5_leftSignedBy 34 = .ok (.ladd, 1) := by decide +kernel
theorem dX5_leftSignedBy_35 : decode cX5_leftSignedBy 35 = .ok (.lstore_n 2, 1) := by decide +kernel
theorem dX5_leftSignedBy_36 : decode cX5_leftSignedBy 36 = .ok (.iinc 4 1, 3) := by decide +kernel
theorem dX5_leftSignedBy_39 : decode cX5_leftSignedBy 39 = .ok (.goto (-34), 3) := by decide +kernel
theorem dX5_leftSignedBy_42 : decode cX5_leftSignedBy 42 = .ok (.lload_n 2, 1) := by decide +kernel
theorem dX5_leftSignedBy_43 : decode cX5_leftSignedBy 43 = .ok (.lreturn, 1) := by decide +kernel
theorem dX6_init_0 : decode cX6_init 0 = .ok (.aload_n 0, 1) := by decide +kernel
theorem dX6_init_1 : decode cX6_init 1 = .ok (.invokespecial 3, 3) := by decide +kernel
theorem dX6_init_4 : decode cX6_init 4 = .ok (.aload_n 0, 1) := by decide +kernel
theorem dX6_init_5 : decode cX6_init 5 = .ok (.new 9, 3) := by decide +kernel
theorem dX6_init_8 : decode cX6_init 8 = .ok (.dup, 1) := by decide +kernel
theorem dX6_init_9 : decode cX6_init 9 = .ok (.invokespecial 11, 3) := by decide +kernel
theorem dX6_init_12 : decode cX6_init 12 = .ok (.putfield 12, 3) := by decide +kernel
theorem dX6_init_15 : decode cX6_init 15 = .ok (.aload_n 0, 1) := by decide +kernel
theorem dX6_init_16 : decode cX6_init 16 = .ok (.new 16, 3) := by decide +kernel
theorem dX6_init_19 : decode cX6_init 19 = .ok (.dup, 1) := by decide +kernel
theorem dX6_init_20 : decode cX6_init 20 = .ok (.invokespecial 18, 3) := by decide +kernel
theorem dX6_init_23 : decode cX6_init 23 = .ok (.putfield 19, 3) := by decide +kernel
theorem dX6_init_26 : decode cX6_init 26 = .ok (.aload_n 0, 1) := by decide +kernel
theorem dX6_init_27 : decode cX6_init 27 = .ok (.new 16, 3) := by decide +kernel
theorem dX6_init_30 : decode cX6_init 30 = .ok (.dup, 1) := by decide +kernel
theorem dX6_init_31 : decode cX6_init 31 = .ok (.invokespecial 18, 3) := by decide +kernel
theorem dX6_init_34 : decode cX6_init 34 = .ok (.putfield 23, 3) := by decide +kernel
theorem dX6_init_37 : decode cX6_init 37 = .ok (.aload_n 0, 1) := by decide +kernel
theorem dX6_init_38 : decode cX6_init 38 = .ok (.new 26, 3) := by decide +kernel
theorem dX6_init_41 : decode cX6_init 41 = .ok (.dup, 1) := by decide +kernel
theorem dX6_init_42 : decode cX6_init 42 = .ok (.invokespecial 28, 3) := by decide +kernel
theorem dX6_init_45 : decode cX6_init 45 = .ok (.putfield 29, 3) := by decide +kernel
theorem dX6_init_48 : decode cX6_init 48 = .ok (.aload_n 0, 1) := by decide +kernel
theorem dX6_init_49 : decode cX6_init 49 = .ok (.iconst 3, 1) := by decide +kernel
theorem dX6_init_50 : decode cX6_init 50 = .ok (.newarray .int, 2) := by decide +kernel
theorem dX6_init_52 : decode cX6_init 52 = .ok (.putfield 33, 3) := by decide +kernel
theorem dX6_init_55 : decode cX6_init 55 = .ok (.return_, 1) := by decide +kernel
theorem dX6_place_0 : decode cX6_place 0 = .ok (.aload_n 0, 1) := by decide +kernel
theorem dX6_place_1 : decode cX6_place 1 = .ok (.iload_n 1, 1) := by decide +kernel
theorem dX6_place_2 : decode cX6_place 2 = .ok (.invokestatic 37, 3) := by decide +kernel
theorem dX6_place_5 : decode cX6_place 5 = .ok (.ifCond .eq 37, 3) := by decide +kernel
theorem dX6_place_8 : decode cX6_place 8 = .ok (.iload_n 2, 1) := by decide +kernel
theorem dX6_place_9 : decode cX6_place 9 = .ok (.iconst 0, 1) := by decide +kernel
theorem dX6_place_10 : decode cX6_place 10 = .ok (.ldc 41, 2) := by decide +kernel
theorem dX6_place_12 : decode cX6_place 12 = .ok (.invokestatic 42, 3) := by decide +kernel
theorem dX6_place_15 : decode cX6_place 15 = .ok (.ifCond .eq 27, 3) := by decide +kernel
theorem dX6_place_18 : decode cX6_place 18 = .ok (.iload_n 3, 1) := by decide +kernel
theorem dX6_place_19 : decode cX6_place 19 = .ok (.iconst 1, 1) := by decide +kernel
theorem dX6_place_20 : decode cX6_place 20 = .ok (.ldc 46, 2) := by decide +kernel
theorem dX6_place_22 : decode cX6_place 22 = .ok (.invokestatic 42, 3) := by decide +kernel
theorem dX6_place_25 : decode cX6_place 25 = .ok (.ifCond .eq 17, 3) := by decide +kernel
theorem dX6_place_28 : decode cX6_place 28 = .ok (.iload 4, 2) := by decide +kernel
theorem dX6_place_30 : decode cX6_place 30 = .ok (.iconst 1, 1) := by decide +kernel
theorem dX6_place_31 : decode cX6_place 31 = .ok (.iconst 4, 1) := by decide +kernel
theorem dX6_place_32 : decode cX6_place 32 = .ok (.invokestatic 42, 3) := by decide +kernel
theorem dX6_place_35 : decode cX6_place 35 = .ok (.ifCond .eq 7, 3) := by decide +kernel
theorem dX6_place_38 : decode cX6_place 38 = .ok (.iconst 1, 1) := by decide +kernel
theorem dX6_place_39 : decode cX6_place 39 = .ok (.goto 4, 3) := by decide +kernel
theorem dX6_place_42 : decode cX6_place 42 = .ok (.iconst 0, 1) := by decide +kernel
theorem dX6_place_43 : decode cX6_place 43 = .ok (.invokevirtual 47, 3) := by decide +kernel
theorem dX6_place_46 : decode cX6_place 46 = .ok (.aload_n 0, 1) := by decide +kernel
theorem dX6_place_47 : decode cX6_place 47 = .ok (.getfield 19, 3) := by decide +kernel
theorem dX6_place_50 : decode cX6_place 50 = .ok (.getfield 51, 3) := by decide +kernel
theorem dX6_place_53 : decode cX6_place 53 = .ok (.getfield 55, 3) := by decide +kernel
theorem dX6_place_56 : decode cX6_place 56 = .ok (.istore 5, 2) := by decide +kernel
theorem dX6_place_58 : decode cX6_place 58 = .ok (.aload_n 0, 1) := by decide +kernel
theorem dX6_place_59 : decode cX6_place 59 = .ok (.getfield 12, 3) := by decide +kernel
theorem dX6_place_62 : decode cX6_place 62 = .ok (.iconst 0, 1) := by decide +kernel
theorem dX6_place_63 : decode cX6_place 63 = .ok (.iload 5, 2) := by decide +kernel
theorem dX6_place_65 : decode cX6_place 65 = .ok (.iload_n 1, 1) := by decide +kernel
theorem dX6_place_66 : decode cX6_place 66 = .ok (.iload_n 2, 1) := by decide +kernel
theorem dX6_place_67 : decode cX6_place 67 = .ok (.iload_n 3, 1) := by decide +kernel
theorem dX6_place_68 : decode cX6_place 68 = .ok (.iload 4, 2) := by decide +kernel
theorem dX6_place_70 : decode cX6_place 70 = .ok (.invokevirtual 61, 3) := by decide +kernel
theorem dX6_place_73 : decode cX6_place 73 = .ok (.aload_n 0, 1) := by decide +kernel
theorem dX6_place_74 : decode cX6_place 74 = .ok (.invokevirtual 65, 3) := by decide +kernel
theorem dX6_place_77 : decode cX6_place 77 = .ok (.iload 5, 2) := by decide +kernel
theorem dX6_place_79 : decode cX6_place 79 = .ok (.ireturn, 1) := by decide +kernel
theorem dX6_sign_0 : decode cX6_sign 0 = .ok (.aload_n 0, 1) := by decide +kernel
theorem dX6_sign_1 : decode cX6_sign 1 = .ok (.aload_n 0, 1) := by decide +kernel
theorem dX6_sign_2 : decode cX6_sign 2 = .ok (.iload_n 1, 1) := by decide +kernel
theorem dX6_sign_3 : decode cX6_sign 3 = .ok (.invokevirtual 68, 3) := by decide +kernel
theorem dX6_sign_6 : decode cX6_sign 6 = .ok (.invokevirtual 71, 3) := by decide +kernel
theorem dX6_sign_9 : decode cX6_sign 9 = .ok (.aload_n 0, 1) := by decide +kernel
theorem dX6_sign_10 : decode cX6_sign 10 = .ok (.iload_n 2, 1) := by decide +kernel
theorem dX6_sign_11 : decode cX6_sign 11 = .ok (.invokestatic 74, 3) := by decide +kernel
theorem dX6_sign_14 : decode cX6_sign 14 = .ok (.ifCond .eq 17, 3) := by decide +kernel
theorem dX6_sign_17 : decode cX6_sign 17 = .ok (.iload_n 3, 1) := by decide +kernel
theorem dX6_sign_18 : decode cX6_sign 18 = .ok (.iconst 1, 1) := by decide +kernel
theorem dX6_sign_19 : decode cX6_sign 19 = .ok (.bipush 10, 2) := by decide +kernel
theorem dX6_sign_21 : decode cX6_sign 21 = .ok (.invokestatic 42, 3) := by decide +kernel
theorem dX6_sign_24 : decode cX6_sign 24 = .ok (.ifCond .eq 7, 3) := by decide +kernel
theorem dX6_sign_27 : decode cX6_sign 27 = .ok (.iconst 1, 1) := by decide +kernel
theorem dX6_sign_28 : decode cX6_sign 28 = .ok (.goto 4, 3) := by decide +kernel
theorem dX6_sign_31 : decode cX6_sign 31 = .ok (.iconst 0, 1) := by decide +kernel
theorem dX6_sign_32 : decode cX6_sign 32 = .ok (.invokevirtual 47, 3) := by decide +kernel
theorem dX6_sign_35 : decode cX6_sign 35 = .ok (.aload_n 0, 1) := by decide +kernel
theorem dX6_sign_36 : decode cX6_sign 36 = .ok (.getfield 12, 3) := by decide +kernel
theorem dX6_sign_39 : decode cX6_sign 39 = .ok (.iconst 1, 1) := by decide +kernel
theorem dX6_sign_40 : decode cX6_sign 40 = .ok (.iload_n 1, 1) := by decide +kernel
theorem dX6_sign_41 : decode cX6_sign 41 = .ok (.iload_n 2, 1) := by decide +kernel
theorem dX6_sign_42 : decode cX6_sign 42 = .ok (.iload_n 3, 1) := by decide +kernel
theorem dX6_sign_43 : decode cX6_sign 43 = .ok (.iconst 0, 1) := by decide +kernel
theorem dX6_sign_44 : decode cX6_sign 44 = .ok (.iconst 0, 1) := by decide +kernel
theorem dX6_sign_45 : decode cX6_sign 45 = .ok (.invokevirtual 61, 3) := by decide +kernel
theorem dX6_sign_48 : decode cX6_sign 48 = .ok (.aload_n 0, 1) := by decide +kernel
theorem dX6_sign_49 : decode cX6_sign 49 = .ok (.invokevirtual 65, 3) := by decide +kernel
theorem dX6_sign_52 : decode cX6_sign 52 = .ok (.bipush 10, 2) := by decide +kernel
theorem dX6_sign_54 : decode cX6_sign 54 = .ok (.aload_n 0, 1) := by decide +kernel
theorem dX6_sign_55 : decode cX6_sign 55 = .ok (.getfield 19, 3) := by decide +kernel
theorem dX6_sign_58 : decode cX6_sign 58 = .ok (.getfield 51, 3) := by decide +kernel
theorem dX6_sign_61 : decode cX6_sign 61 = .ok (.getfield 77, 3) := by decide +kernel
theorem dX6_sign_64 : decode cX6_sign 64 = .ok (.iload_n 1, 1) := by decide +kernel
theorem dX6_sign_65 : decode cX6_sign 65 = .ok (.iaload, 1) := by decide +kernel
theorem dX6_sign_66 : decode cX6_sign 66 = .ok (.isub, 1) := by decide +kernel
theorem dX6_sign_67 : decode cX6_sign 67 = .ok (.ireturn, 1) := by decide +kernel
theorem dX6_lack_0 : decode cX6_lack 0 = .ok (.aload_n 0, 1) := by decide +kernel
theorem dX6_lack_1 : decode cX6_lack 1 = .ok (.iload_n 1, 1) := by decide +kernel
theorem dX6_lack_2 : decode cX6_lack 2 = .ok (.invokestatic 37, 3) := by decide +kernel
theorem dX6_lack_5 : decode cX6_lack 5 = .ok (.invokevirtual 47, 3) := by decide +kernel
theorem dX6_lack_8 : decode cX6_lack 8 = .ok (.aload_n 0, 1) := by decide +kernel
theorem dX6_lack_9 : decode cX6_lack 9 = .ok (.getfield 12, 3) := by decide +kernel
theorem dX6_lack_12 : decode cX6_lack 12 = .ok (.iconst 2, 1) := by decide +kernel
theorem dX6_lack_13 : decode cX6_lack 13 = .ok (.iload_n 1, 1) := by decide +kernel
theorem dX6_lack_14 : decode cX6_lack 14 = .ok (.iconst 0, 1) := by decide +kernel
theorem dX6_lack_15 : decode cX6_lack 15 = .ok (.iconst 0, 1) := by decide +kernel
theorem dX6_lack_16 : decode cX6_lack 16 = .ok (.iconst 0, 1) := by decide +kernel
theorem dX6_lack_17 : decode cX6_lack 17 = .ok (.iconst 0, 1) := by decide +kernel
theorem dX6_lack_18 : decode cX6_lack 18 = .ok (.invokevirtual 61, 3) := by decide +kernel
theorem dX6_lack_21 : decode cX6_lack 21 = .ok (.aload_n 0, 1) := by decide +kernel
theorem dX6_lack_22 : decode cX6_lack 22 = .ok (.invokevirtual 65, 3) := by decide +kernel
theorem dX6_lack_25 : decode cX6_lack 25 = .ok (.aload_n 0, 1) := by decide +kernel
theorem dX6_lack_26 : decode cX6_lack 26 = .ok (.getfield 19, 3) := by decide +kernel
theorem dX6_lack_29 : decode cX6_lack 29 = .ok (.getfield 51, 3) := by decide +kernel
theorem dX6_lack_32 : decode cX6_lack 32 = .ok (.getfield 80, 3) := by decide +kernel
theorem dX6_lack_35 : decode cX6_lack 35 = .ok (.invokestatic 83, 3) := by decide +kernel
theorem dX6_lack_38 : decode cX6_lack 38 = .ok (.ireturn, 1) := by decide +kernel
theorem dX6_rules_0 : decode cX6_rules 0 = .ok (.aload_n 0, 1) := by decide +kernel
theorem dX6_rules_1 : decode cX6_rules 1 = .ok (.iload_n 1, 1) := by decide +kernel
theorem dX6_rules_2 : decode cX6_rules 2 = .ok (.iload_n 2, 1) := by decide +kernel
theorem dX6_rules_3 : decode cX6_rules 3 = .ok (.iload_n 3, 1) := by decide +kernel
theorem dX6_rules_4 : decode cX6_rules 4 = .ok (.invokestatic 89, 3) := by decide +kernel
theorem dX6_rules_7 : decode cX6_rules 7 = .ok (.invokevirtual 47, 3) := by decide +kernel
theorem dX6_rules_10 : decode cX6_rules 10 = .ok (.iload_n 1, 1) := by decide +kernel
theorem dX6_rules_11 : decode cX6_rules 11 = .ok (.aload_n 0, 1) := by decide +kernel
theorem dX6_rules_12 : decode cX6_rules 12 = .ok (.getfield 19, 3) := by decide +kernel
theorem dX6_rules_15 : decode cX6_rules 15 = .ok (.getfield 92, 3) := by decide +kernel
theorem dX6_rules_18 : decode cX6_rules 18 = .ok (.if_icmp .ne 27, 3) := by decide +kernel
theorem dX6_rules_21 : decode cX6_rules 21 = .ok (.iload_n 2, 1) := by decide +kernel
theorem dX6_rules_22 : decode cX6_rules 22 = .ok (.aload_n 0, 1) := by decide +kernel
theorem dX6_rules_23 : decode cX6_rules 23 = .ok (.getfield 19, 3) := by decide +kernel
theorem dX6_rules_26 : decode cX6_rules 26 = .ok (.getfield 95, 3) := by decide +kernel
theorem dX6_rules_29 : decode cX6_rules 29 = .ok (.if_icmp .ne 16, 3) := by decide +kernel
theorem dX6_rules_32 : decode cX6_rules 32 = .ok (.iload_n 3, 1) := by decide +kernel
theorem dX6_rules_33 : decode cX6_rules 33 = .ok (.aload_n 0, 1) := by decide +kernel
theorem dX6_rules_34 : decode cX6_rules 34 = .ok (.getfield 19, 3) := by decide +kernel
theorem dX6_rules_37 : decode cX6_rules 37 = .ok (.getfield 98, 3) := by decide +kernel
theorem dX6_rules_40 : decode cX6_rules 40 = .ok (.if_icmp .ne 5, 3) := by decide +kernel
theorem dX6_rules_43 : decode cX6_rules 43 = .ok (.iconst 0, 1) := by decide +kernel
theorem dX6_rules_44 : decode cX6_rules 44 = .ok (.ireturn, 1) := by decide +kernel
theorem dX6_rules_45 : decode cX6_rules 45 = .ok (.aload_n 0, 1) := by decide +kernel
theorem dX6_rules_46 : decode cX6_rules 46 = .ok (.getfield 12, 3) := by decide +kernel
theorem dX6_rules_49 : decode cX6_rules 49 = .ok (.iconst 3, 1) := by decide +kernel
theorem dX6_rules_50 : decode cX6_rules 50 = .ok (.iload_n 1, 1) := by decide +kernel
theorem dX6_rules_51 : decode cX6_rules 51 = .ok (.iload_n 2, 1) := by decide +kernel
theorem dX6_rules_52 : decode cX6_rules 52 = .ok (.iload_n 3, 1) := by decide +kernel
theorem dX6_rules_53 : decode cX6_rules 53 = .ok (.iconst 0, 1) := by decide +kernel
theorem dX6_rules_54 : decode cX6_rules 54 = .ok (.iconst 0, 1) := by decide +kernel
theorem dX6_rules_55 : decode cX6_rules 55 = .ok (.invokevirtual 61, 3) := by decide +kernel
theorem dX6_rules_58 : decode cX6_rules 58 = .ok (.aload_n 0, 1) := by decide +kernel
theorem dX6_rules_59 : decode cX6_rules 59 = .ok (.invokevirtual 65, 3) := by decide +kernel
theorem dX6_rules_62 : decode cX6_rules 62 = .ok (.iconst 1, 1) := by decide +kernel
theorem dX6_rules_63 : decode cX6_rules 63 = .ok (.ireturn, 1) := by decide +kernel
theorem dX6_harm_0 : decode cX6_harm 0 = .ok (.aload_n 0, 1) := by decide +kernel
theorem dX6_harm_1 : decode cX6_harm 1 = .ok (.iload_n 1, 1) := by decide +kernel
theorem dX6_harm_2 : decode cX6_harm 2 = .ok (.iload_n 2, 1) := by decide +kernel
theorem dX6_harm_3 : decode cX6_harm 3 = .ok (.iload_n 3, 1) := by decide +kernel
theorem dX6_harm_4 : decode cX6_harm 4 = .ok (.invokestatic 101, 3) := by decide +kernel
theorem dX6_harm_7 : decode cX6_harm 7 = .ok (.ifCond .eq 15, 3) := by decide +kernel
theorem dX6_harm_10 : decode cX6_harm 10 = .ok (.iload 4, 2) := by decide +kernel
theorem dX6_harm_12 : decode cX6_harm 12 = .ok (.invokestatic 104, 3) := by decide +kernel
theorem dX6_harm_15 : decode cX6_harm 15 = .ok (.ifCond .eq 7, 3) := by decide +kernel
theorem dX6_harm_18 : decode cX6_harm 18 = .ok (.iconst 1, 1) := by decide +kernel
theorem dX6_harm_19 : decode cX6_harm 19 = .ok (.goto 4, 3) := by decide +kernel
theorem dX6_harm_22 : decode cX6_harm 22 = .ok (.iconst 0, 1) := by decide +kernel
theorem dX6_harm_23 : decode cX6_harm 23 = .ok (.invokevirtual 47, 3) := by decide +kernel
theorem dX6_harm_26 : decode cX6_harm 26 = .ok (.aload_n 0, 1) := by decide +kernel
theorem dX6_harm_27 : decode cX6_harm 27 = .ok (.getfield 19, 3) := by decide +kernel
theorem dX6_harm_30 : decode cX6_harm 30 = .ok (.getfield 107, 3) := by decide +kernel
theorem dX6_harm_33 : decode cX6_harm 33 = .ok (.getfield 111, 3) := by decide +kernel
theorem dX6_harm_36 : decode cX6_harm 36 = .ok (.istore 5, 2) := by decide +kernel
theorem dX6_harm_38 : decode cX6_harm 38 = .ok (.aload_n 0, 1) := by decide +kernel
theorem dX6_harm_39 : decode cX6_harm 39 = .ok (.getfield 12, 3) := by decide +kernel
theorem dX6_harm_42 : decode cX6_harm 42 = .ok (.iconst 4, 1) := by decide +kernel
theorem dX6_harm_43 : decode cX6_harm 43 = .ok (.iload 5, 2) := by decide +kernel
theorem dX6_harm_45 : decode cX6_harm 45 = .ok (.iload_n 1, 1) := by decide +kernel
theorem dX6_harm_46 : decode cX6_harm 46 = .ok (.iload_n 2, 1) := by decide +kernel
theorem dX6_harm_47 : decode cX6_harm 47 = .ok (.iload_n 3, 1) := by decide +kernel
theorem dX6_harm_48 : decode cX6_harm 48 = .ok (.iload 4, 2) := by decide +kernel
theorem dX6_harm_50 : decode cX6_harm 50 = .ok (.invokevirtual 61, 3) := by decide +kernel
theorem dX6_harm_53 : decode cX6_harm 53 = .ok (.aload_n 0, 1) := by decide +kernel
theorem dX6_harm_54 : decode cX6_harm 54 = .ok (.invokevirtual 65, 3) := by decide +kernel
theorem dX6_harm_57 : decode cX6_harm 57 = .ok (.iload 5, 2) := by decide +kernel
theorem dX6_harm_59 : decode cX6_harm 59 = .ok (.ireturn, 1) := by decide +kernel
theorem dX6_grow_0 : decode cX6_grow 0 = .ok (.aload_n 0, 1) := by decide +kernel
theorem dX6_grow_1 : decode cX6_grow 1 = .ok (.aload_n 0, 1) := by decide +kernel
theorem dX6_grow_2 : decode cX6_grow 2 = .ok (.iload_n 1, 1) := by decide +kernel
theorem dX6_grow_3 : decode cX6_grow 3 = .ok (.invokevirtual 114, 3) := by decide +kernel
theorem dX6_grow_6 : decode cX6_grow 6 = .ok (.invokevirtual 71, 3) := by decide +kernel
theorem dX6_grow_9 : decode cX6_grow 9 = .ok (.aload_n 0, 1) := by decide +kernel
theorem dX6_grow_10 : decode cX6_grow 10 = .ok (.iload_n 2, 1) := by decide +kernel
theorem dX6_grow_11 : decode cX6_grow 11 = .ok (.invokestatic 104, 3) := by decide +kernel
theorem dX6_grow_14 : decode cX6_grow 14 = .ok (.invokevirtual 47, 3) := by decide +kernel
theorem dX6_grow_17 : decode cX6_grow 17 = .ok (.aload_n 0, 1) := by decide +kernel
theorem dX6_grow_18 : decode cX6_grow 18 = .ok (.getfield 19, 3) := by decide +kernel
theorem dX6_grow_21 : decode cX6_grow 21 = .ok (.getfield 107, 3) := by decide +kernel
theorem dX6_grow_24 : decode cX6_grow 24 = .ok (.iload_n 1, 1) := by decide +kernel
theorem dX6_grow_25 : decode cX6_grow 25 = .ok (.iconst 0, 1) := by decide +kernel
theorem dX6_grow_26 : decode cX6_grow 26 = .ok (.invokevirtual 117, 3) := by decide +kernel
theorem dX6_grow_29 : decode cX6_grow 29 = .ok (.lstore_n 3, 1) := by decide +kernel
theorem dX6_grow_30 : decode cX6_grow 30 = .ok (.aload_n 0, 1) := by decide +kernel
theorem dX6_grow_31 : decode cX6_grow 31 = .ok (.getfield 12, 3) := by decide +kernel
theorem dX6_grow_34 : decode cX6_grow 34 = .ok (.iconst 5, 1) := by decide +kernel
theorem dX6_grow_35 : decode cX6_grow 35 = .ok (.iload_n 1, 1) := by decide +kernel
theorem dX6_grow_36 : decode cX6_grow 36 = .ok (.iload_n 2, 1) := by decide +kernel
theorem dX6_grow_37 : decode cX6_grow 37 = .ok (.iconst 0, 1) := by decide +kernel
theorem dX6_grow_38 : decode cX6_grow 38 = .ok (.iconst 0, 1) := by decide +kernel
theorem dX6_grow_39 : decode cX6_grow 39 = .ok (.iconst 0, 1) := by decide +kernel
theorem dX6_grow_40 : decode cX6_grow 40 = .ok (.invokevirtual 61, 3) := by decide +kernel
theorem dX6_grow_43 : decode cX6_grow 43 = .ok (.aload_n 0, 1) := by decide +kernel
theorem dX6_grow_44 : decode cX6_grow 44 = .ok (.invokevirtual 65, 3) := by decide +kernel
theorem dX6_grow_47 : decode cX6_grow 47 = .ok (.aload_n 0, 1) := by decide +kernel
theorem dX6_grow_48 : decode cX6_grow 48 = .ok (.getfield 19, 3) := by decide +kernel
theorem dX6_grow_51 : decode cX6_grow 51 = .ok (.getfield 107, 3) := by decide +kernel
theorem dX6_grow_54 : decode cX6_grow 54 = .ok (.iload_n 1, 1) := by decide +kernel
theorem dX6_grow_55 : decode cX6_grow 55 = .ok (.iconst 0, 1) := by decide +kernel
theorem dX6_grow_56 : decode cX6_grow 56 = .ok (.invokevirtual 117, 3) := by decide +kernel
theorem dX6_grow_59 : decode cX6_grow 59 = .ok (.lload_n 3, 1) := by decide +kernel
theorem dX6_grow_60 : decode cX6_grow 60 = .ok (.lsub, 1) := by decide +kernel
theorem dX6_grow_61 : decode cX6_grow 61 = .ok (.lreturn, 1) := by decide +kernel
theorem dX6_settle_0 : decode cX6_settle 0 = .ok (.aload_n 0, 1) := by decide +kernel
theorem dX6_settle_1 : decode cX6_settle 1 = .ok (.iload_n 1, 1) := by decide +kernel
theorem dX6_settle_2 : decode cX6_settle 2 = .ok (.invokestatic 121, 3) := by decide +kernel
theorem dX6_settle_5 : decode cX6_settle 5 = .ok (.ifCond .eq 17, 3) := by decide +kernel
theorem dX6_settle_8 : decode cX6_settle 8 = .ok (.iload_n 2, 1) := by decide +kernel
theorem dX6_settle_9 : decode cX6_settle 9 = .ok (.iconst 0, 1) := by decide +kernel
theorem dX6_settle_10 : decode cX6_settle 10 = .ok (.ldc 124, 2) := by decide +kernel
theorem dX6_settle_12 : decode cX6_settle 12 = .ok (.invokestatic 42, 3) := by decide +kernel
theorem dX6_settle_15 : decode cX6_settle 15 = .ok (.ifCond .eq 7, 3) := by decide +kernel
theorem dX6_settle_18 : decode cX6_settle 18 = .ok (.iconst 1, 1) := by decide +kernel
theorem dX6_settle_19 : decode cX6_settle 19 = .ok (.goto 4, 3) := by decide +kernel
theorem dX6_settle_22 : decode cX6_settle 22 = .ok (.iconst 0, 1) := by decide +kernel
theorem dX6_settle_23 : decode cX6_settle 23 = .ok (.invokevirtual 47, 3) := by decide +kernel
theorem dX6_settle_26 : decode cX6_settle 26 = .ok (.aload_n 0, 1) := by decide +kernel
theorem dX6_settle_27 : decode cX6_settle 27 = .ok (.getfield 12, 3) := by decide +kernel
theorem dX6_settle_30 : decode cX6_settle 30 = .ok (.bipush 6, 2) := by decide +kernel
theorem dX6_settle_32 : decode cX6_settle 32 = .ok (.iload_n 1, 1) := by decide +kernel
theorem dX6_settle_33 : decode cX6_settle 33 = .ok (.iload_n 2, 1) := by decide +kernel
theorem dX6_settle_34 : decode cX6_settle 34 = .ok (.iconst 0, 1) := by decide +kernel
theorem dX6_settle_35 : decode cX6_settle 35 = .ok (.iconst 0, 1) := by decide +kernel
theorem dX6_settle_36 : decode cX6_settle 36 = .ok (.iconst 0, 1) := by decide +kernel
theorem dX6_settle_37 : decode cX6_settle 37 = .ok (.invokevirtual 61, 3) := by decide +kernel
theorem dX6_settle_40 : decode cX6_settle 40 = .ok (.aload_n 0, 1) := by decide +kernel
theorem dX6_settle_41 : decode cX6_settle 41 = .ok (.invokevirtual 65, 3) := by decide +kernel
theorem dX6_settle_44 : decode cX6_settle 44 = .ok (.aload_n 0, 1) := by decide +kernel
theorem dX6_settle_45 : decode cX6_settle 45 = .ok (.getfield 19, 3) := by decide +kernel
theorem dX6_settle_48 : decode cX6_settle 48 = .ok (.iconst 1, 1) := by decide +kernel
theorem dX6_settle_49 : decode cX6_settle 49 = .ok (.invokevirtual 125, 3) := by decide +kernel
theorem dX6_settle_52 : decode cX6_settle 52 = .ok (.invokestatic 83, 3) := by decide +kernel
theorem dX6_settle_55 : decode cX6_settle 55 = .ok (.ireturn, 1) := by decide +kernel
theorem dX6_fall_0 : decode cX6_fall 0 = .ok (.aload_n 0, 1) := by decide +kernel
theorem dX6_fall_1 : decode cX6_fall 1 = .ok (.iload_n 1, 1) := by decide +kernel
theorem dX6_fall_2 : decode cX6_fall 2 = .ok (.invokestatic 121, 3) := by decide +kernel
theorem dX6_fall_5 : decode cX6_fall 5 = .ok (.invokevirtual 47, 3) := by decide +kernel
theorem dX6_fall_8 : decode cX6_fall 8 = .ok (.aload_n 0, 1) := by decide +kernel
theorem dX6_fall_9 : decode cX6_fall 9 = .ok (.getfield 12, 3) := by decide +kernel
theorem dX6_fall_12 : decode cX6_fall 12 = .ok (.bipush 7, 2) := by decide +kernel
theorem dX6_fall_14 : decode cX6_fall 14 = .ok (.iload_n 1, 1) := by decide +kernel
theorem dX6_fall_15 : decode cX6_fall 15 = .ok (.iconst 0, 1) := by decide +kernel
theorem dX6_fall_16 : decode cX6_fall 16 = .ok (.iconst 0, 1) := by decide +kernel
theorem dX6_fall_17 : decode cX6_fall 17 = .ok (.iconst 0, 1) := by decide +kernel
theorem dX6_fall_18 : decode cX6_fall 18 = .ok (.iconst 0, 1) := by decide +kernel
theorem dX6_fall_19 : decode cX6_fall 19 = .ok (.invokevirtual 61, 3) := by decide +kernel
theorem dX6_fall_22 : decode cX6_fall 22 = .ok (.aload_n 0, 1) := by decide +kernel
theorem dX6_fall_23 : decode cX6_fall 23 = .ok (.invokevirtual 65, 3) := by decide +kernel
theorem dX6_fall_26 : decode cX6_fall 26 = .ok (.aload_n 0, 1) := by decide +kernel
theorem dX6_fall_27 : decode cX6_fall 27 = .ok (.getfield 19, 3) := by decide +kernel
theorem dX6_fall_30 : decode cX6_fall 30 = .ok (.iconst 2, 1) := by decide +kernel
theorem dX6_fall_31 : decode cX6_fall 31 = .ok (.invokevirtual 125, 3) := by decide +kernel
theorem dX6_fall_34 : decode cX6_fall 34 = .ok (.invokestatic 83, 3) := by decide +kernel
theorem dX6_fall_37 : decode cX6_fall 37 = .ok (.ireturn, 1) := by decide +kernel
theorem dX6_reopen_0 : decode cX6_reopen 0 = .ok (.aload_n 0, 1) := by decide +kernel
theorem dX6_reopen_1 : decode cX6_reopen 1 = .ok (.aload_n 0, 1) := by decide +kernel
theorem dX6_reopen_2 : decode cX6_reopen 2 = .ok (.iload_n 1, 1) := by decide +kernel
theorem dX6_reopen_3 : decode cX6_reopen 3 = .ok (.invokevirtual 114, 3) := by decide +kernel
theorem dX6_reopen_6 : decode cX6_reopen 6 = .ok (.invokevirtual 71, 3) := by decide +kernel
theorem dX6_reopen_9 : decode cX6_reopen 9 = .ok (.aload_n 0, 1) := by decide +kernel
theorem dX6_reopen_10 : decode cX6_reopen 10 = .ok (.getfield 19, 3) := by decide +kernel
theorem dX6_reopen_13 : decode cX6_reopen 13 = .ok (.getfield 107, 3) := by decide +kernel
theorem dX6_reopen_16 : decode cX6_reopen 16 = .ok (.iload_n 1, 1) := by decide +kernel
theorem dX6_reopen_17 : decode cX6_reopen 17 = .ok (.iconst 0, 1) := by decide +kernel
theorem dX6_reopen_18 : decode cX6_reopen 18 = .ok (.invokevirtual 117, 3) := by decide +kernel
theorem dX6_reopen_21 : decode cX6_reopen 21 = .ok (.lstore_n 2, 1) := by decide +kernel
theorem dX6_reopen_22 : decode cX6_reopen 22 = .ok (.aload_n 0, 1) := by decide +kernel
theorem dX6_reopen_23 : decode cX6_reopen 23 = .ok (.getfield 12, 3) := by decide +kernel
theorem dX6_reopen_26 : decode cX6_reopen 26 = .ok (.bipush 8, 2) := by decide +kernel
theorem dX6_reopen_28 : decode cX6_reopen 28 = .ok (.iload_n 1, 1) := by decide +kernel
theorem dX6_reopen_29 : decode cX6_reopen 29 = .ok (.iconst 0, 1) := by decide +kernel
theorem dX6_reopen_30 : decode cX6_reopen 30 = .ok (.iconst 0, 1) := by decide +kernel
theorem dX6_reopen_31 : decode cX6_reopen 31 = .ok (.iconst 0, 1) := by decide +kernel
theorem dX6_reopen_32 : decode cX6_reopen 32 = .ok (.iconst 0, 1) := by decide +kernel
theorem dX6_reopen_33 : decode cX6_reopen 33 = .ok (.invokevirtual 61, 3) := by decide +kernel
theorem dX6_reopen_36 : decode cX6_reopen 36 = .ok (.aload_n 0, 1) := by decide +kernel
theorem dX6_reopen_37 : decode cX6_reopen 37 = .ok (.invokevirtual 65, 3) := by decide +kernel
theorem dX6_reopen_40 : decode cX6_reopen 40 = .ok (.aload_n 0, 1) := by decide +kernel
theorem dX6_reopen_41 : decode cX6_reopen 41 = .ok (.getfield 19, 3) := by decide +kernel
theorem dX6_reopen_44 : decode cX6_reopen 44 = .ok (.getfield 107, 3) := by decide +kernel
theorem dX6_reopen_47 : decode cX6_reopen 47 = .ok (.iload_n 1, 1) := by decide +kernel
theorem dX6_reopen_48 : decode cX6_reopen 48 = .ok (.iconst 0, 1) := by decide +kernel
theorem dX6_reopen_49 : decode cX6_reopen 49 = .ok (.invokevirtual 117, 3) := by decide +kernel
theorem dX6_reopen_52 : decode cX6_reopen 52 = .ok (.lload_n 2, 1) := by decide +kernel
theorem dX6_reopen_53 : decode cX6_reopen 53 = .ok (.lsub, 1) := by decide +kernel
theorem dX6_reopen_54 : decode cX6_reopen 54 = .ok (.lreturn, 1) := by decide +kernel
theorem dX6_back_0 : decode cX6_back 0 = .ok (.aload_n 0, 1) := by decide +kernel
theorem dX6_back_1 : decode cX6_back 1 = .ok (.getfield 12, 3) := by decide +kernel
theorem dX6_back_4 : decode cX6_back 4 = .ok (.getfield 128, 3) := by decide +kernel
theorem dX6_back_7 : decode cX6_back 7 = .ok (.ifCond .gt 5, 3) := by decide +kernel
theorem dX6_back_10 : decode cX6_back 10 = .ok (.iconst (-1), 1) := by decide +kernel
theorem dX6_back_11 : decode cX6_back 11 = .ok (.ireturn, 1) := by decide +kernel
theorem dX6_back_12 : decode cX6_back 12 = .ok (.aload_n 0, 1) := by decide +kernel
theorem dX6_back_13 : decode cX6_back 13 = .ok (.getfield 12, 3) := by decide +kernel
theorem dX6_back_16 : decode cX6_back 16 = .ok (.dup, 1) := by decide +kernel
theorem dX6_back_17 : decode cX6_back 17 = .ok (.getfield 128, 3) := by decide +kernel
theorem dX6_back_20 : decode cX6_back 20 = .ok (.iconst 1, 1) := by decide +kernel
theorem dX6_back_21 : decode cX6_back 21 = .ok (.isub, 1) := by decide +kernel
theorem dX6_back_22 : decode cX6_back 22 = .ok (.putfield 128, 3) := by decide +kernel
theorem dX6_back_25 : decode cX6_back 25 = .ok (.aload_n 0, 1) := by decide +kernel
theorem dX6_back_26 : decode cX6_back 26 = .ok (.getfield 19, 3) := by decide +kernel
theorem dX6_back_29 : decode cX6_back 29 = .ok (.invokevirtual 129, 3) := by decide +kernel
theorem dX6_back_32 : decode cX6_back 32 = .ok (.iconst 0, 1) := by decide +kernel
theorem dX6_back_33 : decode cX6_back 33 = .ok (.istore_n 1, 1) := by decide +kernel
theorem dX6_back_34 : decode cX6_back 34 = .ok (.iload_n 1, 1) := by decide +kernel
theorem dX6_back_35 : decode cX6_back 35 = .ok (.aload_n 0, 1) := by decide +kernel
theorem dX6_back_36 : decode cX6_back 36 = .ok (.getfield 12, 3) := by decide +kernel
theorem dX6_back_39 : decode cX6_back 39 = .ok (.getfield 128, 3) := by decide +kernel
theorem dX6_back_42 : decode cX6_back 42 = .ok (.if_icmp .ge 26, 3) := by decide +kernel
theorem dX6_back_45 : decode cX6_back 45 = .ok (.aload_n 0, 1) := by decide +kernel
theorem dX6_back_46 : decode cX6_back 46 = .ok (.getfield 19, 3) := by decide +kernel
theorem dX6_back_49 : decode cX6_back 49 = .ok (.aload_n 0, 1) := by decide +kernel
theorem dX6_back_50 : decode cX6_back 50 = .ok (.getfield 12, 3) := by decide +kernel
theorem dX6_back_53 : decode cX6_back 53 = .ok (.iload_n 1, 1) := by decide +kernel
theorem dX6_back_54 : decode cX6_back 54 = .ok (.aload_n 0, 1) := by decide +kernel
theorem dX6_back_55 : decode cX6_back 55 = .ok (.getfield 29, 3) := by decide +kernel
theorem dX6_back_58 : decode cX6_back 58 = .ok (.invokevirtual 132, 3) := by decide +kernel
theorem dX6_back_61 : decode cX6_back 61 = .ok (.pop, 1) := by decide +kernel
theorem dX6_back_62 : decode cX6_back 62 = .ok (.iinc 1 1, 3) := by decide +kernel
theorem dX6_back_65 : decode cX6_back 65 = .ok (.goto (-31), 3) := by decide +kernel
theorem dX6_back_68 : decode cX6_back 68 = .ok (.aload_n 0, 1) := by decide +kernel
theorem dX6_back_69 : decode cX6_back 69 = .ok (.getfield 12, 3) := by decide +kernel
theorem dX6_back_72 : decode cX6_back 72 = .ok (.getfield 128, 3) := by decide +kernel
theorem dX6_back_75 : decode cX6_back 75 = .ok (.ireturn, 1) := by decide +kernel
theorem dX6_told_0 : decode cX6_told 0 = .ok (.aload_n 0, 1) := by decide +kernel
theorem dX6_told_1 : decode cX6_told 1 = .ok (.iload_n 1, 1) := by decide +kernel
theorem dX6_told_2 : decode cX6_told 2 = .ok (.iconst 0, 1) := by decide +kernel
theorem dX6_told_3 : decode cX6_told 3 = .ok (.bipush 10, 2) := by decide +kernel
theorem dX6_told_5 : decode cX6_told 5 = .ok (.invokestatic 42, 3) := by decide +kernel
theorem dX6_told_8 : decode cX6_told 8 = .ok (.invokevirtual 47, 3) := by decide +kernel
theorem dX6_told_11 : decode cX6_told 11 = .ok (.iload_n 1, 1) := by decide +kernel
theorem dX6_told_12 : decode cX6_told 12 = .ok (.tableswitch 150 0 9 #[56, 67, 78, 86, 94, 102, 110, 121, 132, 141], 56) := by decide +kernel
theorem dX6_told_68 : decode cX6_told 68 = .ok (.aload_n 0, 1) := by decide +kernel
theorem dX6_told_69 : decode cX6_told 69 = .ok (.getfield 19, 3) := by decide +kernel
theorem dX6_told_72 : decode cX6_told 72 = .ok (.getfield 51, 3) := by decide +kernel
theorem dX6_told_75 : decode cX6_told 75 = .ok (.getfield 55, 3) := by decide +kernel
theorem dX6_told_78 : decode cX6_told 78 = .ok (.ireturn, 1) := by decide +kernel
theorem dX6_told_79 : decode cX6_told 79 = .ok (.aload_n 0, 1) := by decide +kernel
theorem dX6_told_80 : decode cX6_told 80 = .ok (.getfield 19, 3) := by decide +kernel
theorem dX6_told_83 : decode cX6_told 83 = .ok (.getfield 107, 3) := by decide +kernel
theorem dX6_told_86 : decode cX6_told 86 = .ok (.getfield 111, 3) := by decide +kernel
theorem dX6_told_89 : decode cX6_told 89 = .ok (.ireturn, 1) := by decide +kernel
theorem dX6_told_90 : decode cX6_told 90 = .ok (.aload_n 0, 1) := by decide +kernel
theorem dX6_told_91 : decode cX6_told 91 = .ok (.getfield 12, 3) := by decide +kernel
theorem dX6_told_94 : decode cX6_told 94 = .ok (.getfield 128, 3) := by decide +kernel
theorem dX6_told_97 : decode cX6_told 97 = .ok (.ireturn, 1) := by decide +kernel
theorem dX6_told_98 : decode cX6_told 98 = .ok (.aload_n 0, 1) := by decide +kernel
theorem dX6_told_99 : decode cX6_told 99 = .ok (.getfield 19, 3) := by decide +kernel
theorem dX6_told_102 : decode cX6_told 102 = .ok (.getfield 92, 3) := by decide +kernel
theorem dX6_told_105 : decode cX6_told 105 = .ok (.ireturn, 1) := by decide +kernel
theorem dX6_told_106 : decode cX6_told 106 = .ok (.aload_n 0, 1) := by decide +kernel
theorem dX6_told_107 : decode cX6_told 107 = .ok (.getfield 19, 3) := by decide +kernel
theorem dX6_told_110 : decode cX6_told 110 = .ok (.getfield 95, 3) := by decide +kernel
theorem dX6_told_113 : decode cX6_told 113 = .ok (.ireturn, 1) := by decide +kernel
theorem dX6_told_114 : decode cX6_told 114 = .ok (.aload_n 0, 1) := by decide +kernel
theorem dX6_told_115 : decode cX6_told 115 = .ok (.getfield 19, 3) := by decide +kernel
theorem dX6_told_118 : decode cX6_told 118 = .ok (.getfield 98, 3) := by decide +kernel
theorem dX6_told_121 : decode cX6_told 121 = .ok (.ireturn, 1) := by decide +kernel
theorem dX6_told_122 : decode cX6_told 122 = .ok (.aload_n 0, 1) := by decide +kernel
theorem dX6_told_123 : decode cX6_told 123 = .ok (.getfield 19, 3) := by decide +kernel
theorem dX6_told_126 : decode cX6_told 126 = .ok (.getfield 51, 3) := by decide +kernel
theorem dX6_told_129 : decode cX6_told 129 = .ok (.getfield 80, 3) := by decide +kernel
theorem dX6_told_132 : decode cX6_told 132 = .ok (.ireturn, 1) := by decide +kernel
theorem dX6_told_133 : decode cX6_told 133 = .ok (.aload_n 0, 1) := by decide +kernel
theorem dX6_told_134 : decode cX6_told 134 = .ok (.getfield 19, 3) := by decide +kernel
theorem dX6_told_137 : decode cX6_told 137 = .ok (.getfield 51, 3) := by decide +kernel
theorem dX6_told_140 : decode cX6_told 140 = .ok (.invokevirtual 136, 3) := by decide +kernel
theorem dX6_told_143 : decode cX6_told 143 = .ok (.ireturn, 1) := by decide +kernel
theorem dX6_told_144 : decode cX6_told 144 = .ok (.aload_n 0, 1) := by decide +kernel
theorem dX6_told_145 : decode cX6_told 145 = .ok (.getfield 19, 3) := by decide +kernel
theorem dX6_told_148 : decode cX6_told 148 = .ok (.iconst 1, 1) := by decide +kernel
theorem dX6_told_149 : decode cX6_told 149 = .ok (.invokevirtual 125, 3) := by decide +kernel
theorem dX6_told_152 : decode cX6_told 152 = .ok (.ireturn, 1) := by decide +kernel
theorem dX6_told_153 : decode cX6_told 153 = .ok (.aload_n 0, 1) := by decide +kernel
theorem dX6_told_154 : decode cX6_told 154 = .ok (.getfield 19, 3) := by decide +kernel
theorem dX6_told_157 : decode cX6_told 157 = .ok (.iconst 2, 1) := by decide +kernel
theorem dX6_told_158 : decode cX6_told 158 = .ok (.invokevirtual 125, 3) := by decide +kernel
theorem dX6_told_161 : decode cX6_told 161 = .ok (.ireturn, 1) := by decide +kernel
theorem dX6_told_162 : decode cX6_told 162 = .ok (.aload_n 0, 1) := by decide +kernel
theorem dX6_told_163 : decode cX6_told 163 = .ok (.getfield 19, 3) := by decide +kernel
theorem dX6_told_166 : decode cX6_told 166 = .ok (.getfield 51, 3) := by decide +kernel
theorem dX6_told_169 : decode cX6_told 169 = .ok (.invokevirtual 140, 3) := by decide +kernel
theorem dX6_told_172 : decode cX6_told 172 = .ok (.ireturn, 1) := by decide +kernel
theorem dX6_event_0 : decode cX6_event 0 = .ok (.aload_n 0, 1) := by decide +kernel
theorem dX6_event_1 : decode cX6_event 1 = .ok (.aload_n 0, 1) := by decide +kernel
theorem dX6_event_2 : decode cX6_event 2 = .ok (.iload_n 1, 1) := by decide +kernel
theorem dX6_event_3 : decode cX6_event 3 = .ok (.invokevirtual 143, 3) := by decide +kernel
theorem dX6_event_6 : decode cX6_event 6 = .ok (.invokevirtual 71, 3) := by decide +kernel
theorem dX6_event_9 : decode cX6_event 9 = .ok (.aload_n 0, 1) := by decide +kernel
theorem dX6_event_10 : decode cX6_event 10 = .ok (.iload_n 2, 1) := by decide +kernel
theorem dX6_event_11 : decode cX6_event 11 = .ok (.iconst 0, 1) := by decide +kernel
theorem dX6_event_12 : decode cX6_event 12 = .ok (.iconst 1, 1) := by decide +kernel
theorem dX6_event_13 : decode cX6_event 13 = .ok (.invokestatic 42, 3) := by decide +kernel
theorem dX6_event_16 : decode cX6_event 16 = .ok (.invokevirtual 47, 3) := by decide +kernel
theorem dX6_event_19 : decode cX6_event 19 = .ok (.aload_n 0, 1) := by decide +kernel
theorem dX6_event_20 : decode cX6_event 20 = .ok (.getfield 12, 3) := by decide +kernel
theorem dX6_event_23 : decode cX6_event 23 = .ok (.iload_n 1, 1) := by decide +kernel
theorem dX6_event_24 : decode cX6_event 24 = .ok (.iload_n 2, 1) := by decide +kernel
theorem dX6_event_25 : decode cX6_event 25 = .ok (.invokevirtual 146, 3) := by decide +kernel
theorem dX6_event_28 : decode cX6_event 28 = .ok (.ireturn, 1) := by decide +kernel
theorem dX6_layer_0 : decode cX6_layer 0 = .ok (.aload_n 0, 1) := by decide +kernel
theorem dX6_layer_1 : decode cX6_layer 1 = .ok (.aload_n 0, 1) := by decide +kernel
theorem dX6_layer_2 : decode cX6_layer 2 = .ok (.iload_n 1, 1) := by decide +kernel
theorem dX6_layer_3 : decode cX6_layer 3 = .ok (.invokevirtual 68, 3) := by decide +kernel
theorem dX6_layer_6 : decode cX6_layer 6 = .ok (.invokevirtual 71, 3) := by decide +kernel
theorem dX6_layer_9 : decode cX6_layer 9 = .ok (.aload_n 0, 1) := by decide +kernel
theorem dX6_layer_10 : decode cX6_layer 10 = .ok (.iload_n 2, 1) := by decide +kernel
theorem dX6_layer_11 : decode cX6_layer 11 = .ok (.iconst 0, 1) := by decide +kernel
theorem dX6_layer_12 : decode cX6_layer 12 = .ok (.bipush 10, 2) := by decide +kernel
theorem dX6_layer_14 : decode cX6_layer 14 = .ok (.invokestatic 42, 3) := by decide +kernel
theorem dX6_layer_17 : decode cX6_layer 17 = .ok (.invokevirtual 47, 3) := by decide +kernel
theorem dX6_layer_20 : decode cX6_layer 20 = .ok (.aload_n 0, 1) := by decide +kernel
theorem dX6_layer_21 : decode cX6_layer 21 = .ok (.getfield 19, 3) := by decide +kernel
theorem dX6_layer_24 : decode cX6_layer 24 = .ok (.getfield 51, 3) := by decide +kernel
theorem dX6_layer_27 : decode cX6_layer 27 = .ok (.astore_n 3, 1) := by decide +kernel
theorem dX6_layer_28 : decode cX6_layer 28 = .ok (.iload_n 2, 1) := by decide +kernel
theorem dX6_layer_29 : decode cX6_layer 29 = .ok (.tableswitch 143 0 9 #[55, 63, 71, 79, 87, 94, 100, 117, 125, 136], 55) := by decide +kernel
theorem dX6_layer_84 : decode cX6_layer 84 = .ok (.aload_n 3, 1) := by decide +kernel
theorem dX6_layer_85 : decode cX6_layer 85 = .ok (.getfield 150, 3) := by decide +kernel
theorem dX6_layer_88 : decode cX6_layer 88 = .ok (.iload_n 1, 1) := by decide +kernel
theorem dX6_layer_89 : decode cX6_layer 89 = .ok (.iaload, 1) := by decide +kernel
theorem dX6_layer_90 : decode cX6_layer 90 = .ok (.i2l, 1) := by decide +kernel
theorem dX6_layer_91 : decode cX6_layer 91 = .ok (.lreturn, 1) := by decide +kernel
theorem dX6_layer_92 : decode cX6_layer 92 = .ok (.aload_n 3, 1) := by decide +kernel
theorem dX6_layer_93 : decode cX6_layer 93 = .ok (.getfield 153, 3) := by decide +kernel
theorem dX6_layer_96 : decode cX6_layer 96 = .ok (.iload_n 1, 1) := by decide +kernel
theorem dX6_layer_97 : decode cX6_layer 97 = .ok (.iaload, 1) := by decide +kernel
theorem dX6_layer_98 : decode cX6_layer 98 = .ok (.i2l, 1) := by decide +kernel
theorem dX6_layer_99 : decode cX6_layer 99 = .ok (.lreturn, 1) := by decide +kernel
theorem dX6_layer_100 : decode cX6_layer 100 = .ok (.aload_n 3, 1) := by decide +kernel
theorem dX6_layer_101 : decode cX6_layer 101 = .ok (.getfield 156, 3) := by decide +kernel
theorem dX6_layer_104 : decode cX6_layer 104 = .ok (.iload_n 1, 1) := by decide +kernel
theorem dX6_layer_105 : decode cX6_layer 105 = .ok (.iaload, 1) := by decide +kernel
theorem dX6_layer_106 : decode cX6_layer 106 = .ok (.i2l, 1) := by decide +kernel
theorem dX6_layer_107 : decode cX6_layer 107 = .ok (.lreturn, 1) := by decide +kernel
theorem dX6_layer_108 : decode cX6_layer 108 = .ok (.aload_n 3, 1) := by decide +kernel
theorem dX6_layer_109 : decode cX6_layer 109 = .ok (.getfield 159, 3) := by decide +kernel
theorem dX6_layer_112 : decode cX6_layer 112 = .ok (.iload_n 1, 1) := by decide +kernel
theorem dX6_layer_113 : decode cX6_layer 113 = .ok (.iaload, 1) := by decide +kernel
theorem dX6_layer_114 : decode cX6_layer 114 = .ok (.i2l, 1) := by decide +kernel
theorem dX6_layer_115 : decode cX6_layer 115 = .ok (.lreturn, 1) := by decide +kernel
theorem dX6_layer_116 : decode cX6_layer 116 = .ok (.aload_n 3, 1) := by decide +kernel
theorem dX6_layer_117 : decode cX6_layer 117 = .ok (.getfield 162, 3) := by decide +kernel
theorem dX6_layer_120 : decode cX6_layer 120 = .ok (.iload_n 1, 1) := by decide +kernel
theorem dX6_layer_121 : decode cX6_layer 121 = .ok (.laload, 1) := by decide +kernel
theorem dX6_layer_122 : decode cX6_layer 122 = .ok (.lreturn, 1) := by decide +kernel
theorem dX6_layer_123 : decode cX6_layer 123 = .ok (.aload_n 3, 1) := by decide +kernel
theorem dX6_layer_124 : decode cX6_layer 124 = .ok (.iload_n 1, 1) := by decide +kernel
theorem dX6_layer_125 : decode cX6_layer 125 = .ok (.invokevirtual 166, 3) := by decide +kernel
theorem dX6_layer_128 : decode cX6_layer 128 = .ok (.lreturn, 1) := by decide +kernel
theorem dX6_layer_129 : decode cX6_layer 129 = .ok (.aload_n 3, 1) := by decide +kernel
theorem dX6_layer_130 : decode cX6_layer 130 = .ok (.aload_n 3, 1) := by decide +kernel
theorem dX6_layer_131 : decode cX6_layer 131 = .ok (.getfield 150, 3) := by decide +kernel
theorem dX6_layer_134 : decode cX6_layer 134 = .ok (.iload_n 1, 1) := by decide +kernel
theorem dX6_layer_135 : decode cX6_layer 135 = .ok (.iaload, 1) := by decide +kernel
theorem dX6_layer_136 : decode cX6_layer 136 = .ok (.aload_n 3, 1) := by decide +kernel
theorem dX6_layer_137 : decode cX6_layer 137 = .ok (.iload_n 1, 1) := by decide +kernel
theorem dX6_layer_138 : decode cX6_layer 138 = .ok (.invokevirtual 170, 3) := by decide +kernel
theorem dX6_layer_141 : decode cX6_layer 141 = .ok (.invokevirtual 173, 3) := by decide +kernel
theorem dX6_layer_144 : decode cX6_layer 144 = .ok (.i2l, 1) := by decide +kernel
theorem dX6_layer_145 : decode cX6_layer 145 = .ok (.lreturn, 1) := by decide +kernel
theorem dX6_layer_146 : decode cX6_layer 146 = .ok (.aload_n 3, 1) := by decide +kernel
theorem dX6_layer_147 : decode cX6_layer 147 = .ok (.getfield 176, 3) := by decide +kernel
theorem dX6_layer_150 : decode cX6_layer 150 = .ok (.iload_n 1, 1) := by decide +kernel
theorem dX6_layer_151 : decode cX6_layer 151 = .ok (.iaload, 1) := by decide +kernel
theorem dX6_layer_152 : decode cX6_layer 152 = .ok (.i2l, 1) := by decide +kernel
theorem dX6_layer_153 : decode cX6_layer 153 = .ok (.lreturn, 1) := by decide +kernel
theorem dX6_layer_154 : decode cX6_layer 154 = .ok (.bipush 10, 2) := by decide +kernel
theorem dX6_layer_156 : decode cX6_layer 156 = .ok (.aload_n 3, 1) := by decide +kernel
theorem dX6_layer_157 : decode cX6_layer 157 = .ok (.getfield 77, 3) := by decide +kernel
theorem dX6_layer_160 : decode cX6_layer 160 = .ok (.iload_n 1, 1) := by decide +kernel
theorem dX6_layer_161 : decode cX6_layer 161 = .ok (.iaload, 1) := by decide +kernel
theorem dX6_layer_162 : decode cX6_layer 162 = .ok (.isub, 1) := by decide +kernel
theorem dX6_layer_163 : decode cX6_layer 163 = .ok (.i2l, 1) := by decide +kernel
theorem dX6_layer_164 : decode cX6_layer 164 = .ok (.lreturn, 1) := by decide +kernel
theorem dX6_layer_165 : decode cX6_layer 165 = .ok (.aload_n 3, 1) := by decide +kernel
theorem dX6_layer_166 : decode cX6_layer 166 = .ok (.iload_n 1, 1) := by decide +kernel
theorem dX6_layer_167 : decode cX6_layer 167 = .ok (.invokevirtual 170, 3) := by decide +kernel
theorem dX6_layer_170 : decode cX6_layer 170 = .ok (.i2l, 1) := by decide +kernel
theorem dX6_layer_171 : decode cX6_layer 171 = .ok (.lreturn, 1) := by decide +kernel
theorem dX6_layer_172 : decode cX6_layer 172 = .ok (.aload_n 3, 1) := by decide +kernel
theorem dX6_layer_173 : decode cX6_layer 173 = .ok (.iload_n 1, 1) := by decide +kernel
theorem dX6_layer_174 : decode cX6_layer 174 = .ok (.invokevirtual 179, 3) := by decide +kernel
theorem dX6_layer_177 : decode cX6_layer 177 = .ok (.ifCond .eq 7, 3) := by decide +kernel
theorem dX6_layer_180 : decode cX6_layer 180 = .ok (.lconst 1, 1) := by decide +kernel
theorem dX6_layer_181 : decode cX6_layer 181 = .ok (.goto 4, 3) := by decide +kernel
theorem dX6_layer_184 : decode cX6_layer 184 = .ok (.lconst 0, 1) := by decide +kernel
theorem dX6_layer_185 : decode cX6_layer 185 = .ok (.lreturn, 1) := by decide +kernel
theorem dX6_signed_0 : decode cX6_signed 0 = .ok (.aload_n 0, 1) := by decide +kernel
theorem dX6_signed_1 : decode cX6_signed 1 = .ok (.aload_n 0, 1) := by decide +kernel
theorem dX6_signed_2 : decode cX6_signed 2 = .ok (.iload_n 1, 1) := by decide +kernel
theorem dX6_signed_3 : decode cX6_signed 3 = .ok (.invokevirtual 68, 3) := by decide +kernel
theorem dX6_signed_6 : decode cX6_signed 6 = .ok (.invokevirtual 71, 3) := by decide +kernel
theorem dX6_signed_9 : decode cX6_signed 9 = .ok (.aload_n 0, 1) := by decide +kernel
theorem dX6_signed_10 : decode cX6_signed 10 = .ok (.iload_n 2, 1) := by decide +kernel
theorem dX6_signed_11 : decode cX6_signed 11 = .ok (.ifCond .lt 16, 3) := by decide +kernel
theorem dX6_signed_14 : decode cX6_signed 14 = .ok (.iload_n 3, 1) := by decide +kernel
theorem dX6_signed_15 : decode cX6_signed 15 = .ok (.iconst 0, 1) := by decide +kernel
theorem dX6_signed_16 : decode cX6_signed 16 = .ok (.iconst 2, 1) := by decide +kernel
theorem dX6_signed_17 : decode cX6_signed 17 = .ok (.invokestatic 42, 3) := by decide +kernel
theorem dX6_signed_20 : decode cX6_signed 20 = .ok (.ifCond .eq 7, 3) := by decide +kernel
theorem dX6_signed_23 : decode cX6_signed 23 = .ok (.iconst 1, 1) := by decide +kernel
theorem dX6_signed_24 : decode cX6_signed 24 = .ok (.goto 4, 3) := by decide +kernel
theorem dX6_signed_27 : decode cX6_signed 27 = .ok (.iconst 0, 1) := by decide +kernel
theorem dX6_signed_28 : decode cX6_signed 28 = .ok (.invokevirtual 47, 3) := by decide +kernel
theorem dX6_signed_31 : decode cX6_signed 31 = .ok (.aload_n 0, 1) := by decide +kernel
theorem dX6_signed_32 : decode cX6_signed 32 = .ok (.getfield 19, 3) := by decide +kernel
theorem dX6_signed_35 : decode cX6_signed 35 = .ok (.getfield 51, 3) := by decide +kernel
theorem dX6_signed_38 : decode cX6_signed 38 = .ok (.astore 4, 2) := by decide +kernel
theorem dX6_signed_40 : decode cX6_signed 40 = .ok (.iload_n 2, 1) := by decide +kernel
theorem dX6_signed_41 : decode cX6_signed 41 = .ok (.aload 4, 2) := by decide +kernel
theorem dX6_signed_43 : decode cX6_signed 43 = .ok (.getfield 176, 3) := by decide +kernel
theorem dX6_signed_46 : decode cX6_signed 46 = .ok (.iload_n 1, 1) := by decide +kernel
theorem dX6_signed_47 : decode cX6_signed 47 = .ok (.iaload, 1) := by decide +kernel
theorem dX6_signed_48 : decode cX6_signed 48 = .ok (.if_icmp .lt 7, 3) := by decide +kernel
theorem dX6_signed_51 : decode cX6_signed 51 = .ok (.ldc2_w 182, 3) := by decide +kernel
theorem dX6_signed_54 : decode cX6_signed 54 = .ok (.lreturn, 1) := by decide +kernel
theorem dX6_signed_55 : decode cX6_signed 55 = .ok (.iload_n 1, 1) := by decide +kernel
theorem dX6_signed_56 : decode cX6_signed 56 = .ok (.iconst 4, 1) := by decide +kernel
theorem dX6_signed_57 : decode cX6_signed 57 = .ok (.imul, 1) := by decide +kernel
theorem dX6_signed_58 : decode cX6_signed 58 = .ok (.iload_n 2, 1) := by decide +kernel
theorem dX6_signed_59 : decode cX6_signed 59 = .ok (.iadd, 1) := by decide +kernel
theorem dX6_signed_60 : decode cX6_signed 60 = .ok (.istore 5, 2) := by decide +kernel
theorem dX6_signed_62 : decode cX6_signed 62 = .ok (.iload_n 3, 1) := by decide +kernel
theorem dX6_signed_63 : decode cX6_signed 63 = .ok (.lookupswitch 45 #[(0, 25), (1, 35)], 25) := by decide +kernel
theorem dX6_signed_88 : decode cX6_signed 88 = .ok (.aload 4, 2) := by decide +kernel
theorem dX6_signed_90 : decode cX6_signed 90 = .ok (.getfield 184, 3) := by decide +kernel
theorem dX6_signed_93 : decode cX6_signed 93 = .ok (.iload 5, 2) := by decide +kernel
theorem dX6_signed_95 : decode cX6_signed 95 = .ok (.iaload, 1) := by decide +kernel
theorem dX6_signed_96 : decode cX6_signed 96 = .ok (.i2l, 1) := by decide +kernel
theorem dX6_signed_97 : decode cX6_signed 97 = .ok (.lreturn, 1) := by decide +kernel
theorem dX6_signed_98 : decode cX6_signed 98 = .ok (.aload 4, 2) := by decide +kernel
theorem dX6_signed_100 : decode cX6_signed 100 = .ok (.getfield 187, 3) := by decide +kernel
theorem dX6_signed_103 : decode cX6_signed 103 = .ok (.iload 5, 2) := by decide +kernel
theorem dX6_signed_105 : decode cX6_signed 105 = .ok (.iaload, 1) := by decide +kernel
theorem dX6_signed_106 : decode cX6_signed 106 = .ok (.i2l, 1) := by decide +kernel
theorem dX6_signed_107 : decode cX6_signed 107 = .ok (.lreturn, 1) := by decide +kernel
theorem dX6_signed_108 : decode cX6_signed 108 = .ok (.aload 4, 2) := by decide +kernel
theorem dX6_signed_110 : decode cX6_signed 110 = .ok (.getfield 190, 3) := by decide +kernel
theorem dX6_signed_113 : decode cX6_signed 113 = .ok (.iload 5, 2) := by decide +kernel
theorem dX6_signed_115 : decode cX6_signed 115 = .ok (.laload, 1) := by decide +kernel
theorem dX6_signed_116 : decode cX6_signed 116 = .ok (.lreturn, 1) := by decide +kernel
theorem dX6_year_0 : decode cX6_year 0 = .ok (.aload_n 0, 1) := by decide +kernel
theorem dX6_year_1 : decode cX6_year 1 = .ok (.iload_n 1, 1) := by decide +kernel
theorem dX6_year_2 : decode cX6_year 2 = .ok (.invokestatic 37, 3) := by decide +kernel
theorem dX6_year_5 : decode cX6_year 5 = .ok (.ifCond .eq 17, 3) := by decide +kernel
theorem dX6_year_8 : decode cX6_year 8 = .ok (.iload_n 2, 1) := by decide +kernel
theorem dX6_year_9 : decode cX6_year 9 = .ok (.iconst 0, 1) := by decide +kernel
theorem dX6_year_10 : decode cX6_year 10 = .ok (.bipush 6, 2) := by decide +kernel
theorem dX6_year_12 : decode cX6_year 12 = .ok (.invokestatic 42, 3) := by decide +kernel
theorem dX6_year_15 : decode cX6_year 15 = .ok (.ifCond .eq 7, 3) := by decide +kernel
theorem dX6_year_18 : decode cX6_year 18 = .ok (.iconst 1, 1) := by decide +kernel
theorem dX6_year_19 : decode cX6_year 19 = .ok (.goto 4, 3) := by decide +kernel
theorem dX6_year_22 : decode cX6_year 22 = .ok (.iconst 0, 1) := by decide +kernel
theorem dX6_year_23 : decode cX6_year 23 = .ok (.invokevirtual 47, 3) := by decide +kernel
theorem dX6_year_26 : decode cX6_year 26 = .ok (.aload_n 0, 1) := by decide +kernel
theorem dX6_year_27 : decode cX6_year 27 = .ok (.getfield 19, 3) := by decide +kernel
theorem dX6_year_30 : decode cX6_year 30 = .ok (.getfield 51, 3) := by decide +kernel
theorem dX6_year_33 : decode cX6_year 33 = .ok (.astore_n 3, 1) := by decide +kernel
theorem dX6_year_34 : decode cX6_year 34 = .ok (.aload_n 3, 1) := by decide +kernel
theorem dX6_year_35 : decode cX6_year 35 = .ok (.getfield 193, 3) := by decide +kernel
theorem dX6_year_38 : decode cX6_year 38 = .ok (.iload_n 1, 1) := by decide +kernel
theorem dX6_year_39 : decode cX6_year 39 = .ok (.iaload, 1) := by decide +kernel
theorem dX6_year_40 : decode cX6_year 40 = .ok (.istore 4, 2) := by decide +kernel
theorem dX6_year_42 : decode cX6_year 42 = .ok (.iload_n 2, 1) := by decide +kernel
theorem dX6_year_43 : decode cX6_year 43 = .ok (.tableswitch 127 0 5 #[37, 41, 59, 85, 91, 121], 37) := by decide +kernel
theorem dX6_year_80 : decode cX6_year 80 = .ok (.iload 4, 2) := by decide +kernel
theorem dX6_year_82 : decode cX6_year 82 = .ok (.i2l, 1) := by decide +kernel
theorem dX6_year_83 : decode cX6_year 83 = .ok (.lreturn, 1) := by decide +kernel
theorem dX6_year_84 : decode cX6_year 84 = .ok (.iload 4, 2) := by decide +kernel
theorem dX6_year_86 : decode cX6_year 86 = .ok (.ifCond .le 12, 3) := by decide +kernel
theorem dX6_year_89 : decode cX6_year 89 = .ok (.aload_n 3, 1) := by decide +kernel
theorem dX6_year_90 : decode cX6_year 90 = .ok (.iload_n 1, 1) := by decide +kernel
theorem dX6_year_91 : decode cX6_year 91 = .ok (.invokevirtual 196, 3) := by decide +kernel
theorem dX6_year_94 : decode cX6_year 94 = .ok (.i2l, 1) := by decide +kernel
theorem dX6_year_95 : decode cX6_year 95 = .ok (.goto 6, 3) := by decide +kernel
theorem dX6_year_98 : decode cX6_year 98 = .ok (.ldc2_w 182, 3) := by decide +kernel
theorem dX6_year_101 : decode cX6_year 101 = .ok (.lreturn, 1) := by decide +kernel
theorem dX6_year_102 : decode cX6_year 102 = .ok (.iload 4, 2) := by decide +kernel
theorem dX6_year_104 : decode cX6_year 104 = .ok (.ifCond .le 20, 3) := by decide +kernel
theorem dX6_year_107 : decode cX6_year 107 = .ok (.aload_n 3, 1) := by decide +kernel
theorem dX6_year_108 : decode cX6_year 108 = .ok (.aload_n 3, 1) := by decide +kernel
theorem dX6_year_109 : decode cX6_year 109 = .ok (.iload_n 1, 1) := by decide +kernel
theorem dX6_year_110 : decode cX6_year 110 = .ok (.iload 4, 2) := by decide +kernel
theorem dX6_year_112 : decode cX6_year 112 = .ok (.iconst 1, 1) := by decide +kernel
theorem dX6_year_113 : decode cX6_year 113 = .ok (.isub, 1) := by decide +kernel
theorem dX6_year_114 : decode cX6_year 114 = .ok (.invokevirtual 199, 3) := by decide +kernel
theorem dX6_year_117 : decode cX6_year 117 = .ok (.invokevirtual 202, 3) := by decide +kernel
theorem dX6_year_120 : decode cX6_year 120 = .ok (.i2l, 1) := by decide +kernel
theorem dX6_year_121 : decode cX6_year 121 = .ok (.goto 6, 3) := by decide +kernel
theorem dX6_year_124 : decode cX6_year 124 = .ok (.ldc2_w 182, 3) := by decide +kernel
theorem dX6_year_127 : decode cX6_year 127 = .ok (.lreturn, 1) := by decide +kernel
theorem dX6_year_128 : decode cX6_year 128 = .ok (.aload_n 3, 1) := by decide +kernel
theorem dX6_year_129 : decode cX6_year 129 = .ok (.iload_n 1, 1) := by decide +kernel
theorem dX6_year_130 : decode cX6_year 130 = .ok (.invokevirtual 205, 3) := by decide +kernel
theorem dX6_year_133 : decode cX6_year 133 = .ok (.lreturn, 1) := by decide +kernel
theorem dX6_year_134 : decode cX6_year 134 = .ok (.iload 4, 2) := by decide +kernel
theorem dX6_year_136 : decode cX6_year 136 = .ok (.ifCond .le 26, 3) := by decide +kernel
theorem dX6_year_139 : decode cX6_year 139 = .ok (.aload_n 3, 1) := by decide +kernel
theorem dX6_year_140 : decode cX6_year 140 = .ok (.aload_n 3, 1) := by decide +kernel
theorem dX6_year_141 : decode cX6_year 141 = .ok (.iload_n 1, 1) := by decide +kernel
theorem dX6_year_142 : decode cX6_year 142 = .ok (.iload 4, 2) := by decide +kernel
theorem dX6_year_144 : decode cX6_year 144 = .ok (.iconst 1, 1) := by decide +kernel
theorem dX6_year_145 : decode cX6_year 145 = .ok (.isub, 1) := by decide +kernel
theorem dX6_year_146 : decode cX6_year 146 = .ok (.invokevirtual 199, 3) := by decide +kernel
theorem dX6_year_149 : decode cX6_year 149 = .ok (.invokevirtual 202, 3) := by decide +kernel
theorem dX6_year_152 : decode cX6_year 152 = .ok (.i2l, 1) := by decide +kernel
theorem dX6_year_153 : decode cX6_year 153 = .ok (.aload_n 3, 1) := by decide +kernel
theorem dX6_year_154 : decode cX6_year 154 = .ok (.iload_n 1, 1) := by decide +kernel
theorem dX6_year_155 : decode cX6_year 155 = .ok (.invokevirtual 205, 3) := by decide +kernel
theorem dX6_year_158 : decode cX6_year 158 = .ok (.lsub, 1) := by decide +kernel
theorem dX6_year_159 : decode cX6_year 159 = .ok (.goto 4, 3) := by decide +kernel
theorem dX6_year_162 : decode cX6_year 162 = .ok (.lconst 0, 1) := by decide +kernel
theorem dX6_year_163 : decode cX6_year 163 = .ok (.lreturn, 1) := by decide +kernel
theorem dX6_year_164 : decode cX6_year 164 = .ok (.aload_n 3, 1) := by decide +kernel
theorem dX6_year_165 : decode cX6_year 165 = .ok (.iload_n 1, 1) := by decide +kernel
theorem dX6_year_166 : decode cX6_year 166 = .ok (.invokevirtual 208, 3) := by decide +kernel
theorem dX6_year_169 : decode cX6_year 169 = .ok (.lreturn, 1) := by decide +kernel
theorem dX6_year_170 : decode cX6_year 170 = .ok (.aload_n 3, 1) := by decide +kernel
theorem dX6_year_171 : decode cX6_year 171 = .ok (.iload_n 1, 1) := by decide +kernel
theorem dX6_year_172 : decode cX6_year 172 = .ok (.invokevirtual 211, 3) := by decide +kernel
theorem dX6_year_175 : decode cX6_year 175 = .ok (.lreturn, 1) := by decide +kernel
theorem dX6_at_0 : decode cX6_at 0 = .ok (.aload_n 0, 1) := by decide +kernel
theorem dX6_at_1 : decode cX6_at 1 = .ok (.iload_n 1, 1) := by decide +kernel
theorem dX6_at_2 : decode cX6_at 2 = .ok (.invokestatic 37, 3) := by decide +kernel
theorem dX6_at_5 : decode cX6_at 5 = .ok (.ifCond .eq 14, 3) := by decide +kernel
theorem dX6_at_8 : decode cX6_at 8 = .ok (.iload_n 2, 1) := by decide +kernel
theorem dX6_at_9 : decode cX6_at 9 = .ok (.invokestatic 214, 3) := by decide +kernel
theorem dX6_at_12 : decode cX6_at 12 = .ok (.ifCond .eq 7, 3) := by decide +kernel
theorem dX6_at_15 : decode cX6_at 15 = .ok (.iconst 1, 1) := by decide +kernel
theorem dX6_at_16 : decode cX6_at 16 = .ok (.goto 4, 3) := by decide +kernel
theorem dX6_at_19 : decode cX6_at 19 = .ok (.iconst 0, 1) := by decide +kernel
theorem dX6_at_20 : decode cX6_at 20 = .ok (.invokevirtual 47, 3) := by decide +kernel
theorem dX6_at_23 : decode cX6_at 23 = .ok (.aload_n 0, 1) := by decide +kernel
theorem dX6_at_24 : decode cX6_at 24 = .ok (.getfield 19, 3) := by decide +kernel
theorem dX6_at_27 : decode cX6_at 27 = .ok (.getfield 51, 3) := by decide +kernel
theorem dX6_at_30 : decode cX6_at 30 = .ok (.iload_n 1, 1) := by decide +kernel
theorem dX6_at_31 : decode cX6_at 31 = .ok (.iload_n 2, 1) := by decide +kernel
theorem dX6_at_32 : decode cX6_at 32 = .ok (.invokevirtual 217, 3) := by decide +kernel
theorem dX6_at_35 : decode cX6_at 35 = .ok (.ireturn, 1) := by decide +kernel
theorem dX6_rung_0 : decode cX6_rung 0 = .ok (.aload_n 0, 1) := by decide +kernel
theorem dX6_rung_1 : decode cX6_rung 1 = .ok (.iload_n 1, 1) := by decide +kernel
theorem dX6_rung_2 : decode cX6_rung 2 = .ok (.invokestatic 37, 3) := by decide +kernel
theorem dX6_rung_5 : decode cX6_rung 5 = .ok (.ifCond .eq 11, 3) := by decide +kernel
theorem dX6_rung_8 : decode cX6_rung 8 = .ok (.iload_n 2, 1) := by decide +kernel
theorem dX6_rung_9 : decode cX6_rung 9 = .ok (.ifCond .lt 7, 3) := by decide +kernel
theorem dX6_rung_12 : decode cX6_rung 12 = .ok (.iconst 1, 1) := by decide +kernel
theorem dX6_rung_13 : decode cX6_rung 13 = .ok (.goto 4, 3) := by decide +kernel
theorem dX6_rung_16 : decode cX6_rung 16 = .ok (.iconst 0, 1) := by decide +kernel
theorem dX6_rung_17 : decode cX6_rung 17 = .ok (.invokevirtual 47, 3) := by decide +kernel
theorem dX6_rung_20 : decode cX6_rung 20 = .ok (.iload_n 2, 1) := by decide +kernel
theorem dX6_rung_21 : decode cX6_rung 21 = .ok (.aload_n 0, 1) := by decide +kernel
theorem dX6_rung_22 : decode cX6_rung 22 = .ok (.getfield 19, 3) := by decide +kernel
theorem dX6_rung_25 : decode cX6_rung 25 = .ok (.getfield 51, 3) := by decide +kernel
theorem dX6_rung_28 : decode cX6_rung 28 = .ok (.getfield 193, 3) := by decide +kernel
theorem dX6_rung_31 : decode cX6_rung 31 = .ok (.iload_n 1, 1) := by decide +kernel
theorem dX6_rung_32 : decode cX6_rung 32 = .ok (.iaload, 1) := by decide +kernel
theorem dX6_rung_33 : decode cX6_rung 33 = .ok (.if_icmp .ge 18, 3) := by decide +kernel
theorem dX6_rung_36 : decode cX6_rung 36 = .ok (.aload_n 0, 1) := by decide +kernel
theorem dX6_rung_37 : decode cX6_rung 37 = .ok (.getfield 19, 3) := by decide +kernel
theorem dX6_rung_40 : decode cX6_rung 40 = .ok (.getfield 51, 3) := by decide +kernel
theorem dX6_rung_43 : decode cX6_rung 43 = .ok (.iload_n 1, 1) := by decide +kernel
theorem dX6_rung_44 : decode cX6_rung 44 = .ok (.iload_n 2, 1) := by decide +kernel
theorem dX6_rung_45 : decode cX6_rung 45 = .ok (.invokevirtual 199, 3) := by decide +kernel
theorem dX6_rung_48 : decode cX6_rung 48 = .ok (.goto 4, 3) := by decide +kernel
theorem dX6_rung_51 : decode cX6_rung 51 = .ok (.iconst (-1), 1) := by decide +kernel
theorem dX6_rung_52 : decode cX6_rung 52 = .ok (.ireturn, 1) := by decide +kernel
theorem dX6_damage_0 : decode cX6_damage 0 = .ok (.aload_n 0, 1) := by decide +kernel
theorem dX6_damage_1 : decode cX6_damage 1 = .ok (.aload_n 0, 1) := by decide +kernel
theorem dX6_damage_2 : decode cX6_damage 2 = .ok (.iload_n 1, 1) := by decide +kernel
theorem dX6_damage_3 : decode cX6_damage 3 = .ok (.invokevirtual 114, 3) := by decide +kernel
theorem dX6_damage_6 : decode cX6_damage 6 = .ok (.invokevirtual 71, 3) := by decide +kernel
theorem dX6_damage_9 : decode cX6_damage 9 = .ok (.aload_n 0, 1) := by decide +kernel
theorem dX6_damage_10 : decode cX6_damage 10 = .ok (.iload_n 2, 1) := by decide +kernel
theorem dX6_damage_11 : decode cX6_damage 11 = .ok (.iconst 0, 1) := by decide +kernel
theorem dX6_damage_12 : decode cX6_damage 12 = .ok (.iconst 5, 1) := by decide +kernel
theorem dX6_damage_13 : decode cX6_damage 13 = .ok (.invokestatic 42, 3) := by decide +kernel
theorem dX6_damage_16 : decode cX6_damage 16 = .ok (.invokevirtual 47, 3) := by decide +kernel
theorem dX6_damage_19 : decode cX6_damage 19 = .ok (.aload_n 0, 1) := by decide +kernel
theorem dX6_damage_20 : decode cX6_damage 20 = .ok (.getfield 19, 3) := by decide +kernel
theorem dX6_damage_23 : decode cX6_damage 23 = .ok (.getfield 107, 3) := by decide +kernel
theorem dX6_damage_26 : decode cX6_damage 26 = .ok (.astore_n 3, 1) := by decide +kernel
theorem dX6_damage_27 : decode cX6_damage 27 = .ok (.iload_n 2, 1) := by decide +kernel
theorem dX6_damage_28 : decode cX6_damage 28 = .ok (.tableswitch 74 0 4 #[36, 44, 52, 60, 67], 36) := by decide +kernel
theorem dX6_damage_64 : decode cX6_damage 64 = .ok (.aload_n 3, 1) := by decide +kernel
theorem dX6_damage_65 : decode cX6_damage 65 = .ok (.getfield 220, 3) := by decide +kernel
theorem dX6_damage_68 : decode cX6_damage 68 = .ok (.iload_n 1, 1) := by decide +kernel
theorem dX6_damage_69 : decode cX6_damage 69 = .ok (.iaload, 1) := by decide +kernel
theorem dX6_damage_70 : decode cX6_damage 70 = .ok (.i2l, 1) := by decide +kernel
theorem dX6_damage_71 : decode cX6_damage 71 = .ok (.lreturn, 1) := by decide +kernel
theorem dX6_damage_72 : decode cX6_damage 72 = .ok (.aload_n 3, 1) := by decide +kernel
theorem dX6_damage_73 : decode cX6_damage 73 = .ok (.getfield 223, 3) := by decide +kernel
theorem dX6_damage_76 : decode cX6_damage 76 = .ok (.iload_n 1, 1) := by decide +kernel
theorem dX6_damage_77 : decode cX6_damage 77 = .ok (.iaload, 1) := by decide +kernel
theorem dX6_damage_78 : decode cX6_damage 78 = .ok (.i2l, 1) := by decide +kernel
theorem dX6_damage_79 : decode cX6_damage 79 = .ok (.lreturn, 1) := by decide +kernel
theorem dX6_damage_80 : decode cX6_damage 80 = .ok (.aload_n 3, 1) := by decide +kernel
theorem dX6_damage_81 : decode cX6_damage 81 = .ok (.getfield 226, 3) := by decide +kernel
theorem dX6_damage_84 : decode cX6_damage 84 = .ok (.iload_n 1, 1) := by decide +kernel
theorem dX6_damage_85 : decode cX6_damage 85 = .ok (.iaload, 1) := by decide +kernel
theorem dX6_damage_86 : decode cX6_damage 86 = .ok (.i2l, 1) := by decide +kernel
theorem dX6_damage_87 : decode cX6_damage 87 = .ok (.lreturn, 1) := by decide +kernel
theorem dX6_damage_88 : decode cX6_damage 88 = .ok (.aload_n 3, 1) := by decide +kernel
theorem dX6_damage_89 : decode cX6_damage 89 = .ok (.getfield 229, 3) := by decide +kernel
theorem dX6_damage_92 : decode cX6_damage 92 = .ok (.iload_n 1, 1) := by decide +kernel
theorem dX6_damage_93 : decode cX6_damage 93 = .ok (.laload, 1) := by decide +kernel
theorem dX6_damage_94 : decode cX6_damage 94 = .ok (.lreturn, 1) := by decide +kernel
theorem dX6_damage_95 : decode cX6_damage 95 = .ok (.aload_n 3, 1) := by decide +kernel
theorem dX6_damage_96 : decode cX6_damage 96 = .ok (.iload_n 1, 1) := by decide +kernel
theorem dX6_damage_97 : decode cX6_damage 97 = .ok (.iconst 0, 1) := by decide +kernel
theorem dX6_damage_98 : decode cX6_damage 98 = .ok (.invokevirtual 117, 3) := by decide +kernel
theorem dX6_damage_101 : decode cX6_damage 101 = .ok (.lreturn, 1) := by decide +kernel
theorem dX6_damage_102 : decode cX6_damage 102 = .ok (.aload_n 3, 1) := by decide +kernel
theorem dX6_damage_103 : decode cX6_damage 103 = .ok (.getfield 232, 3) := by decide +kernel
theorem dX6_damage_106 : decode cX6_damage 106 = .ok (.iload_n 1, 1) := by decide +kernel
theorem dX6_damage_107 : decode cX6_damage 107 = .ok (.iaload, 1) := by decide +kernel
theorem dX6_damage_108 : decode cX6_damage 108 = .ok (.i2l, 1) := by decide +kernel
theorem dX6_damage_109 : decode cX6_damage 109 = .ok (.lreturn, 1) := by decide +kernel
theorem dX6_took_0 : decode cX6_took 0 = .ok (.aload_n 0, 1) := by decide +kernel
theorem dX6_took_1 : decode cX6_took 1 = .ok (.aload_n 0, 1) := by decide +kernel
theorem dX6_took_2 : decode cX6_took 2 = .ok (.iload_n 1, 1) := by decide +kernel
theorem dX6_took_3 : decode cX6_took 3 = .ok (.invokevirtual 114, 3) := by decide +kernel
theorem dX6_took_6 : decode cX6_took 6 = .ok (.ifCond .eq 15, 3) := by decide +kernel
theorem dX6_took_9 : decode cX6_took 9 = .ok (.aload_n 0, 1) := by decide +kernel
theorem dX6_took_10 : decode cX6_took 10 = .ok (.iload_n 2, 1) := by decide +kernel
theorem dX6_took_11 : decode cX6_took 11 = .ok (.invokevirtual 68, 3) := by decide +kernel
theorem dX6_took_14 : decode cX6_took 14 = .ok (.ifCond .eq 7, 3) := by decide +kernel
theorem dX6_took_17 : decode cX6_took 17 = .ok (.iconst 1, 1) := by decide +kernel
theorem dX6_took_18 : decode cX6_took 18 = .ok (.goto 4, 3) := by decide +kernel
theorem dX6_took_21 : decode cX6_took 21 = .ok (.iconst 0, 1) := by decide +kernel
theorem dX6_took_22 : decode cX6_took 22 = .ok (.invokevirtual 71, 3) := by decide +kernel
theorem dX6_took_25 : decode cX6_took 25 = .ok (.aload_n 0, 1) := by decide +kernel
theorem dX6_took_26 : decode cX6_took 26 = .ok (.getfield 19, 3) := by decide +kernel
theorem dX6_took_29 : decode cX6_took 29 = .ok (.getfield 107, 3) := by decide +kernel
theorem dX6_took_32 : decode cX6_took 32 = .ok (.getfield 235, 3) := by decide +kernel
theorem dX6_took_35 : decode cX6_took 35 = .ok (.iload_n 1, 1) := by decide +kernel
theorem dX6_took_36 : decode cX6_took 36 = .ok (.bipush 40, 2) := by decide +kernel
theorem dX6_took_38 : decode cX6_took 38 = .ok (.imul, 1) := by decide +kernel
theorem dX6_took_39 : decode cX6_took 39 = .ok (.iload_n 2, 1) := by decide +kernel
theorem dX6_took_40 : decode cX6_took 40 = .ok (.iadd, 1) := by decide +kernel
theorem dX6_took_41 : decode cX6_took 41 = .ok (.laload, 1) := by decide +kernel
theorem dX6_took_42 : decode cX6_took 42 = .ok (.lreturn, 1) := by decide +kernel
theorem dX6_hole_0 : decode cX6_hole 0 = .ok (.aload_n 0, 1) := by decide +kernel
theorem dX6_hole_1 : decode cX6_hole 1 = .ok (.aload_n 0, 1) := by decide +kernel
theorem dX6_hole_2 : decode cX6_hole 2 = .ok (.iload_n 1, 1) := by decide +kernel
theorem dX6_hole_3 : decode cX6_hole 3 = .ok (.invokevirtual 114, 3) := by decide +kernel
theorem dX6_hole_6 : decode cX6_hole 6 = .ok (.ifCond .eq 15, 3) := by decide +kernel
theorem dX6_hole_9 : decode cX6_hole 9 = .ok (.aload_n 0, 1) := by decide +kernel
theorem dX6_hole_10 : decode cX6_hole 10 = .ok (.iload_n 2, 1) := by decide +kernel
theorem dX6_hole_11 : decode cX6_hole 11 = .ok (.invokevirtual 68, 3) := by decide +kernel
theorem dX6_hole_14 : decode cX6_hole 14 = .ok (.ifCond .eq 7, 3) := by decide +kernel
theorem dX6_hole_17 : decode cX6_hole 17 = .ok (.iconst 1, 1) := by decide +kernel
theorem dX6_hole_18 : decode cX6_hole 18 = .ok (.goto 4, 3) := by decide +kernel
theorem dX6_hole_21 : decode cX6_hole 21 = .ok (.iconst 0, 1) := by decide +kernel
theorem dX6_hole_22 : decode cX6_hole 22 = .ok (.invokevirtual 71, 3) := by decide +kernel
theorem dX6_hole_25 : decode cX6_hole 25 = .ok (.aload_n 0, 1) := by decide +kernel
theorem dX6_hole_26 : decode cX6_hole 26 = .ok (.getfield 19, 3) := by decide +kernel
theorem dX6_hole_29 : decode cX6_hole 29 = .ok (.getfield 107, 3) := by decide +kernel
theorem dX6_hole_32 : decode cX6_hole 32 = .ok (.getfield 238, 3) := by decide +kernel
theorem dX6_hole_35 : decode cX6_hole 35 = .ok (.iload_n 1, 1) := by decide +kernel
theorem dX6_hole_36 : decode cX6_hole 36 = .ok (.bipush 40, 2) := by decide +kernel
theorem dX6_hole_38 : decode cX6_hole 38 = .ok (.imul, 1) := by decide +kernel
theorem dX6_hole_39 : decode cX6_hole 39 = .ok (.iload_n 2, 1) := by decide +kernel
theorem dX6_hole_40 : decode cX6_hole 40 = .ok (.iadd, 1) := by decide +kernel
theorem dX6_hole_41 : decode cX6_hole 41 = .ok (.laload, 1) := by decide +kernel
theorem dX6_hole_42 : decode cX6_hole 42 = .ok (.lreturn, 1) := by decide +kernel
theorem dX6_moved_0 : decode cX6_moved 0 = .ok (.aload_n 0, 1) := by decide +kernel
theorem dX6_moved_1 : decode cX6_moved 1 = .ok (.aload_n 0, 1) := by decide +kernel
theorem dX6_moved_2 : decode cX6_moved 2 = .ok (.iload_n 1, 1) := by decide +kernel
theorem dX6_moved_3 : decode cX6_moved 3 = .ok (.invokevirtual 114, 3) := by decide +kernel
theorem dX6_moved_6 : decode cX6_moved 6 = .ok (.ifCond .eq 15, 3) := by decide +kernel
theorem dX6_moved_9 : decode cX6_moved 9 = .ok (.aload_n 0, 1) := by decide +kernel
theorem dX6_moved_10 : decode cX6_moved 10 = .ok (.iload_n 2, 1) := by decide +kernel
theorem dX6_moved_11 : decode cX6_moved 11 = .ok (.invokevirtual 68, 3) := by decide +kernel
theorem dX6_moved_14 : decode cX6_moved 14 = .ok (.ifCond .eq 7, 3) := by decide +kernel
theorem dX6_moved_17 : decode cX6_moved 17 = .ok (.iconst 1, 1) := by decide +kernel
theorem dX6_moved_18 : decode cX6_moved 18 = .ok (.goto 4, 3) := by decide +kernel
theorem dX6_moved_21 : decode cX6_moved 21 = .ok (.iconst 0, 1) := by decide +kernel
theorem dX6_moved_22 : decode cX6_moved 22 = .ok (.invokevirtual 71, 3) := by decide +kernel
theorem dX6_moved_25 : decode cX6_moved 25 = .ok (.aload_n 0, 1) := by decide +kernel
theorem dX6_moved_26 : decode cX6_moved 26 = .ok (.getfield 19, 3) := by decide +kernel
theorem dX6_moved_29 : decode cX6_moved 29 = .ok (.getfield 107, 3) := by decide +kernel
theorem dX6_moved_32 : decode cX6_moved 32 = .ok (.getfield 241, 3) := by decide +kernel
theorem dX6_moved_35 : decode cX6_moved 35 = .ok (.iload_n 1, 1) := by decide +kernel
theorem dX6_moved_36 : decode cX6_moved 36 = .ok (.bipush 40, 2) := by decide +kernel
theorem dX6_moved_38 : decode cX6_moved 38 = .ok (.imul, 1) := by decide +kernel
theorem dX6_moved_39 : decode cX6_moved 39 = .ok (.iload_n 2, 1) := by decide +kernel
theorem dX6_moved_40 : decode cX6_moved 40 = .ok (.iadd, 1) := by decide +kernel
theorem dX6_moved_41 : decode cX6_moved 41 = .ok (.laload, 1) := by decide +kernel
theorem dX6_moved_42 : decode cX6_moved 42 = .ok (.lreturn, 1) := by decide +kernel
theorem dX6_bears_0 : decode cX6_bears 0 = .ok (.aload_n 0, 1) := by decide +kernel
theorem dX6_bears_1 : decode cX6_bears 1 = .ok (.aload_n 0, 1) := by decide +kernel
theorem dX6_bears_2 : decode cX6_bears 2 = .ok (.iload_n 1, 1) := by decide +kernel
theorem dX6_bears_3 : decode cX6_bears 3 = .ok (.invokevirtual 114, 3) := by decide +kernel
theorem dX6_bears_6 : decode cX6_bears 6 = .ok (.invokevirtual 71, 3) := by decide +kernel
theorem dX6_bears_9 : decode cX6_bears 9 = .ok (.aload_n 0, 1) := by decide +kernel
theorem dX6_bears_10 : decode cX6_bears 10 = .ok (.iload_n 2, 1) := by decide +kernel
theorem dX6_bears_11 : decode cX6_bears 11 = .ok (.invokestatic 74, 3) := by decide +kernel
theorem dX6_bears_14 : decode cX6_bears 14 = .ok (.invokevirtual 47, 3) := by decide +kernel
theorem dX6_bears_17 : decode cX6_bears 17 = .ok (.aload_n 0, 1) := by decide +kernel
theorem dX6_bears_18 : decode cX6_bears 18 = .ok (.getfield 19, 3) := by decide +kernel
theorem dX6_bears_21 : decode cX6_bears 21 = .ok (.getfield 107, 3) := by decide +kernel
theorem dX6_bears_24 : decode cX6_bears 24 = .ok (.iload_n 1, 1) := by decide +kernel
theorem dX6_bears_25 : decode cX6_bears 25 = .ok (.iload_n 2, 1) := by decide +kernel
theorem dX6_bears_26 : decode cX6_bears 26 = .ok (.invokevirtual 117, 3) := by decide +kernel
theorem dX6_bears_29 : decode cX6_bears 29 = .ok (.lreturn, 1) := by decide +kernel
theorem dX6_falls_0 : decode cX6_falls 0 = .ok (.aload_n 0, 1) := by decide +kernel
theorem dX6_falls_1 : decode cX6_falls 1 = .ok (.aload_n 0, 1) := by decide +kernel
theorem dX6_falls_2 : decode cX6_falls 2 = .ok (.iload_n 1, 1) := by decide +kernel
theorem dX6_falls_3 : decode cX6_falls 3 = .ok (.invokevirtual 114, 3) := by decide +kernel
theorem dX6_falls_6 : decode cX6_falls 6 = .ok (.invokevirtual 71, 3) := by decide +kernel
theorem dX6_falls_9 : decode cX6_falls 9 = .ok (.aload_n 0, 1) := by decide +kernel
theorem dX6_falls_10 : decode cX6_falls 10 = .ok (.iload_n 2, 1) := by decide +kernel
theorem dX6_falls_11 : decode cX6_falls 11 = .ok (.invokestatic 244, 3) := by decide +kernel
theorem dX6_falls_14 : decode cX6_falls 14 = .ok (.invokevirtual 47, 3) := by decide +kernel
theorem dX6_falls_17 : decode cX6_falls 17 = .ok (.aload_n 0, 1) := by decide +kernel
theorem dX6_falls_18 : decode cX6_falls 18 = .ok (.getfield 19, 3) := by decide +kernel
theorem dX6_falls_21 : decode cX6_falls 21 = .ok (.getfield 107, 3) := by decide +kernel
theorem dX6_falls_24 : decode cX6_falls 24 = .ok (.getfield 247, 3) := by decide +kernel
theorem dX6_falls_27 : decode cX6_falls 27 = .ok (.iload_n 1, 1) := by decide +kernel
theorem dX6_falls_28 : decode cX6_falls 28 = .ok (.bipush 7, 2) := by decide +kernel
theorem dX6_falls_30 : decode cX6_falls 30 = .ok (.imul, 1) := by decide +kernel
theorem dX6_falls_31 : decode cX6_falls 31 = .ok (.iload_n 2, 1) := by decide +kernel
theorem dX6_falls_32 : decode cX6_falls 32 = .ok (.iadd, 1) := by decide +kernel
theorem dX6_falls_33 : decode cX6_falls 33 = .ok (.laload, 1) := by decide +kernel
theorem dX6_falls_34 : decode cX6_falls 34 = .ok (.lreturn, 1) := by decide +kernel
theorem dX6_insurer_0 : decode cX6_insurer 0 = .ok (.aload_n 0, 1) := by decide +kernel
theorem dX6_insurer_1 : decode cX6_insurer 1 = .ok (.iload_n 1, 1) := by decide +kernel
theorem dX6_insurer_2 : decode cX6_insurer 2 = .ok (.invokestatic 74, 3) := by decide +kernel
theorem dX6_insurer_5 : decode cX6_insurer 5 = .ok (.ifCond .eq 16, 3) := by decide +kernel
theorem dX6_insurer_8 : decode cX6_insurer 8 = .ok (.iload_n 2, 1) := by decide +kernel
theorem dX6_insurer_9 : decode cX6_insurer 9 = .ok (.iconst 0, 1) := by decide +kernel
theorem dX6_insurer_10 : decode cX6_insurer 10 = .ok (.iconst 4, 1) := by decide +kernel
theorem dX6_insurer_11 : decode cX6_insurer 11 = .ok (.invokestatic 42, 3) := by decide +kernel
theorem dX6_insurer_14 : decode cX6_insurer 14 = .ok (.ifCond .eq 7, 3) := by decide +kernel
theorem dX6_insurer_17 : decode cX6_insurer 17 = .ok (.iconst 1, 1) := by decide +kernel
theorem dX6_insurer_18 : decode cX6_insurer 18 = .ok (.goto 4, 3) := by decide +kernel
theorem dX6_insurer_21 : decode cX6_insurer 21 = .ok (.iconst 0, 1) := by decide +kernel
theorem dX6_insurer_22 : decode cX6_insurer 22 = .ok (.invokevirtual 47, 3) := by decide +kernel
theorem dX6_insurer_25 : decode cX6_insurer 25 = .ok (.iload_n 2, 1) := by decide +kernel
theorem dX6_insurer_26 : decode cX6_insurer 26 = .ok (.tableswitch 91 0 3 #[30, 42, 53, 78], 30) := by decide +kernel
theorem dX6_insurer_56 : decode cX6_insurer 56 = .ok (.aload_n 0, 1) := by decide +kernel
theorem dX6_insurer_57 : decode cX6_insurer 57 = .ok (.getfield 19, 3) := by decide +kernel
theorem dX6_insurer_60 : decode cX6_insurer 60 = .ok (.getfield 107, 3) := by decide +kernel
theorem dX6_insurer_63 : decode cX6_insurer 63 = .ok (.iload_n 1, 1) := by decide +kernel
theorem dX6_insurer_64 : decode cX6_insurer 64 = .ok (.invokevirtual 250, 3) := by decide +kernel
theorem dX6_insurer_67 : decode cX6_insurer 67 = .ok (.lreturn, 1) := by decide +kernel
theorem dX6_insurer_68 : decode cX6_insurer 68 = .ok (.aload_n 0, 1) := by decide +kernel
theorem dX6_insurer_69 : decode cX6_insurer 69 = .ok (.getfield 19, 3) := by decide +kernel
theorem dX6_insurer_72 : decode cX6_insurer 72 = .ok (.getfield 253, 3) := by decide +kernel
theorem dX6_insurer_75 : decode cX6_insurer 75 = .ok (.iload_n 1, 1) := by decide +kernel
theorem dX6_insurer_76 : decode cX6_insurer 76 = .ok (.iaload, 1) := by decide +kernel
theorem dX6_insurer_77 : decode cX6_insurer 77 = .ok (.i2l, 1) := by decide +kernel
theorem dX6_insurer_78 : decode cX6_insurer 78 = .ok (.lreturn, 1) := by decide +kernel
theorem dX6_insurer_79 : decode cX6_insurer 79 = .ok (.iload_n 1, 1) := by decide +kernel
theorem dX6_insurer_80 : decode cX6_insurer 80 = .ok (.ifCond .ne 13, 3) := by decide +kernel
theorem dX6_insurer_83 : decode cX6_insurer 83 = .ok (.aload_n 0, 1) := by decide +kernel
theorem dX6_insurer_84 : decode cX6_insurer 84 = .ok (.getfield 19, 3) := by decide +kernel
theorem dX6_insurer_87 : decode cX6_insurer 87 = .ok (.invokevirtual 256, 3) := by decide +kernel
theorem dX6_insurer_90 : decode cX6_insurer 90 = .ok (.goto 13, 3) := by decide +kernel
theorem dX6_insurer_93 : decode cX6_insurer 93 = .ok (.aload_n 0, 1) := by decide +kernel
theorem dX6_insurer_94 : decode cX6_insurer 94 = .ok (.getfield 19, 3) := by decide +kernel
theorem dX6_insurer_97 : decode cX6_insurer 97 = .ok (.getfield 260, 3) := by decide +kernel
theorem dX6_insurer_100 : decode cX6_insurer 100 = .ok (.iload_n 1, 1) := by decide +kernel
theorem dX6_insurer_101 : decode cX6_insurer 101 = .ok (.iaload, 1) := by decide +kernel
theorem dX6_insurer_102 : decode cX6_insurer 102 = .ok (.i2l, 1) := by decide +kernel
theorem dX6_insurer_103 : decode cX6_insurer 103 = .ok (.lreturn, 1) := by decide +kernel
theorem dX6_insurer_104 : decode cX6_insurer 104 = .ok (.aload_n 0, 1) := by decide +kernel
theorem dX6_insurer_105 : decode cX6_insurer 105 = .ok (.getfield 19, 3) := by decide +kernel
theorem dX6_insurer_108 : decode cX6_insurer 108 = .ok (.getfield 51, 3) := by decide +kernel
theorem dX6_insurer_111 : decode cX6_insurer 111 = .ok (.iload_n 1, 1) := by decide +kernel
theorem dX6_insurer_112 : decode cX6_insurer 112 = .ok (.invokevirtual 263, 3) := by decide +kernel
theorem dX6_insurer_115 : decode cX6_insurer 115 = .ok (.i2l, 1) := by decide +kernel
theorem dX6_insurer_116 : decode cX6_insurer 116 = .ok (.lreturn, 1) := by decide +kernel
theorem dX6_insurer_117 : decode cX6_insurer 117 = .ok (.aload_n 0, 1) := by decide +kernel
theorem dX6_insurer_118 : decode cX6_insurer 118 = .ok (.getfield 19, 3) := by decide +kernel
theorem dX6_insurer_121 : decode cX6_insurer 121 = .ok (.getfield 51, 3) := by decide +kernel
theorem dX6_insurer_124 : decode cX6_insurer 124 = .ok (.iload_n 1, 1) := by decide +kernel
theorem dX6_insurer_125 : decode cX6_insurer 125 = .ok (.invokevirtual 266, 3) := by decide +kernel
theorem dX6_insurer_128 : decode cX6_insurer 128 = .ok (.lreturn, 1) := by decide +kernel
theorem dX6_burden_0 : decode cX6_burden 0 = .ok (.aload_n 0, 1) := by decide +kernel
theorem dX6_burden_1 : decode cX6_burden 1 = .ok (.iload_n 1, 1) := by decide +kernel
theorem dX6_burden_2 : decode cX6_burden 2 = .ok (.invokestatic 244, 3) := by decide +kernel
theorem dX6_burden_5 : decode cX6_burden 5 = .ok (.invokevirtual 47, 3) := by decide +kernel
theorem dX6_burden_8 : decode cX6_burden 8 = .ok (.aload_n 0, 1) := by decide +kernel
theorem dX6_burden_9 : decode cX6_burden 9 = .ok (.getfield 19, 3) := by decide +kernel
theorem dX6_burden_12 : decode cX6_burden 12 = .ok (.getfield 107, 3) := by decide +kernel
theorem dX6_burden_15 : decode cX6_burden 15 = .ok (.iload_n 1, 1) := by decide +kernel
theorem dX6_burden_16 : decode cX6_burden 16 = .ok (.invokevirtual 269, 3) := by decide +kernel
theorem dX6_burden_19 : decode cX6_burden 19 = .ok (.lreturn, 1) := by decide +kernel
theorem dX6_rank_0 : decode cX6_rank 0 = .ok (.aload_n 0, 1) := by decide +kernel
theorem dX6_rank_1 : decode cX6_rank 1 = .ok (.iload_n 1, 1) := by decide +kernel
theorem dX6_rank_2 : decode cX6_rank 2 = .ok (.invokestatic 74, 3) := by decide +kernel
theorem dX6_rank_5 : decode cX6_rank 5 = .ok (.invokevirtual 47, 3) := by decide +kernel
theorem dX6_rank_8 : decode cX6_rank 8 = .ok (.iconst (-1), 1) := by decide +kernel
theorem dX6_rank_9 : decode cX6_rank 9 = .ok (.istore_n 2, 1) := by decide +kernel
theorem dX6_rank_10 : decode cX6_rank 10 = .ok (.iconst 0, 1) := by decide +kernel
theorem dX6_rank_11 : decode cX6_rank 11 = .ok (.istore_n 3, 1) := by decide +kernel
theorem dX6_rank_12 : decode cX6_rank 12 = .ok (.iload_n 3, 1) := by decide +kernel
theorem dX6_rank_13 : decode cX6_rank 13 = .ok (.bipush 10, 2) := by decide +kernel
theorem dX6_rank_15 : decode cX6_rank 15 = .ok (.if_icmp .ge 31, 3) := by decide +kernel
theorem dX6_rank_18 : decode cX6_rank 18 = .ok (.iload_n 2, 1) := by decide +kernel
theorem dX6_rank_19 : decode cX6_rank 19 = .ok (.iconst (-1), 1) := by decide +kernel
theorem dX6_rank_20 : decode cX6_rank 20 = .ok (.if_icmp .ne 26, 3) := by decide +kernel
theorem dX6_rank_23 : decode cX6_rank 23 = .ok (.aload_n 0, 1) := by decide +kernel
theorem dX6_rank_24 : decode cX6_rank 24 = .ok (.getfield 19, 3) := by decide +kernel
theorem dX6_rank_27 : decode cX6_rank 27 = .ok (.getfield 107, 3) := by decide +kernel
theorem dX6_rank_30 : decode cX6_rank 30 = .ok (.iload_n 3, 1) := by decide +kernel
theorem dX6_rank_31 : decode cX6_rank 31 = .ok (.invokevirtual 272, 3) := by decide +kernel
theorem dX6_rank_34 : decode cX6_rank 34 = .ok (.iload_n 1, 1) := by decide +kernel
theorem dX6_rank_35 : decode cX6_rank 35 = .ok (.if_icmp .ne 5, 3) := by decide +kernel
theorem dX6_rank_38 : decode cX6_rank 38 = .ok (.iload_n 3, 1) := by decide +kernel
theorem dX6_rank_39 : decode cX6_rank 39 = .ok (.istore_n 2, 1) := by decide +kernel
theorem dX6_rank_40 : decode cX6_rank 40 = .ok (.iinc 3 1, 3) := by decide +kernel
theorem dX6_rank_43 : decode cX6_rank 43 = .ok (.goto (-31), 3) := by decide +kernel
theorem dX6_rank_46 : decode cX6_rank 46 = .ok (.iload_n 2, 1) := by decide +kernel
theorem dX6_rank_47 : decode cX6_rank 47 = .ok (.ireturn, 1) := by decide +kernel
theorem dX6_offs_0 : decode cX6_offs 0 = .ok (.aload_n 0, 1) := by decide +kernel
theorem dX6_offs_1 : decode cX6_offs 1 = .ok (.iload_n 1, 1) := by decide +kernel
theorem dX6_offs_2 : decode cX6_offs 2 = .ok (.iload_n 2, 1) := by decide +kernel
theorem dX6_offs_3 : decode cX6_offs 3 = .ok (.iload_n 3, 1) := by decide +kernel
theorem dX6_offs_4 : decode cX6_offs 4 = .ok (.invokestatic 101, 3) := by decide +kernel
theorem dX6_offs_7 : decode cX6_offs 7 = .ok (.ifCond .eq 15, 3) := by decide +kernel
theorem dX6_offs_10 : decode cX6_offs 10 = .ok (.iload 4, 2) := by decide +kernel
theorem dX6_offs_12 : decode cX6_offs 12 = .ok (.invokestatic 275, 3) := by decide +kernel
theorem dX6_offs_15 : decode cX6_offs 15 = .ok (.ifCond .eq 7, 3) := by decide +kernel
theorem dX6_offs_18 : decode cX6_offs 18 = .ok (.iconst 1, 1) := by decide +kernel
theorem dX6_offs_19 : decode cX6_offs 19 = .ok (.goto 4, 3) := by decide +kernel
theorem dX6_offs_22 : decode cX6_offs 22 = .ok (.iconst 0, 1) := by decide +kernel
theorem dX6_offs_23 : decode cX6_offs 23 = .ok (.invokevirtual 47, 3) := by decide +kernel
theorem dX6_offs_26 : decode cX6_offs 26 = .ok (.iload_n 1, 1) := by decide +kernel
theorem dX6_offs_27 : decode cX6_offs 27 = .ok (.iload_n 2, 1) := by decide +kernel
theorem dX6_offs_28 : decode cX6_offs 28 = .ok (.iload_n 3, 1) := by decide +kernel
theorem dX6_offs_29 : decode cX6_offs 29 = .ok (.iload 4, 2) := by decide +kernel
theorem dX6_offs_31 : decode cX6_offs 31 = .ok (.invokestatic 278, 3) := by decide +kernel
theorem dX6_offs_34 : decode cX6_offs 34 = .ok (.ireturn, 1) := by decide +kernel
theorem dX6_would_0 : decode cX6_would 0 = .ok (.aload_n 0, 1) := by decide +kernel
theorem dX6_would_1 : decode cX6_would 1 = .ok (.iload_n 1, 1) := by decide +kernel
theorem dX6_would_2 : decode cX6_would 2 = .ok (.iload_n 2, 1) := by decide +kernel
theorem dX6_would_3 : decode cX6_would 3 = .ok (.iload_n 3, 1) := by decide +kernel
theorem dX6_would_4 : decode cX6_would 4 = .ok (.invokestatic 101, 3) := by decide +kernel
theorem dX6_would_7 : decode cX6_would 7 = .ok (.ifCond .eq 23, 3) := by decide +kernel
theorem dX6_would_10 : decode cX6_would 10 = .ok (.iload 4, 2) := by decide +kernel
theorem dX6_would_12 : decode cX6_would 12 = .ok (.invokestatic 104, 3) := by decide +kernel
theorem dX6_would_15 : decode cX6_would 15 = .ok (.ifCond .eq 15, 3) := by decide +kernel
theorem dX6_would_18 : decode cX6_would 18 = .ok (.iload 5, 2) := by decide +kernel
theorem dX6_would_20 : decode cX6_would 20 = .ok (.invokestatic 74, 3) := by decide +kernel
theorem dX6_would_23 : decode cX6_would 23 = .ok (.ifCond .eq 7, 3) := by decide +kernel
theorem dX6_would_26 : decode cX6_would 26 = .ok (.iconst 1, 1) := by decide +kernel
theorem dX6_would_27 : decode cX6_would 27 = .ok (.goto 4, 3) := by decide +kernel
theorem dX6_would_30 : decode cX6_would 30 = .ok (.iconst 0, 1) := by decide +kernel
theorem dX6_would_31 : decode cX6_would 31 = .ok (.invokevirtual 47, 3) := by decide +kernel
theorem dX6_would_34 : decode cX6_would 34 = .ok (.aload_n 0, 1) := by decide +kernel
theorem dX6_would_35 : decode cX6_would 35 = .ok (.getfield 29, 3) := by decide +kernel
theorem dX6_would_38 : decode cX6_would 38 = .ok (.aload_n 0, 1) := by decide +kernel
theorem dX6_would_39 : decode cX6_would 39 = .ok (.getfield 19, 3) := by decide +kernel
theorem dX6_would_42 : decode cX6_would 42 = .ok (.bipush 24, 2) := by decide +kernel
theorem dX6_would_44 : decode cX6_would 44 = .ok (.aload_n 0, 1) := by decide +kernel
theorem dX6_would_45 : decode cX6_would 45 = .ok (.iload_n 1, 1) := by decide +kernel
theorem dX6_would_46 : decode cX6_would 46 = .ok (.iload_n 2, 1) := by decide +kernel
theorem dX6_would_47 : decode cX6_would 47 = .ok (.iload_n 3, 1) := by decide +kernel
theorem dX6_would_48 : decode cX6_would 48 = .ok (.invokevirtual 282, 3) := by decide +kernel
theorem dX6_would_51 : decode cX6_would 51 = .ok (.iload 4, 2) := by decide +kernel
theorem dX6_would_53 : decode cX6_would 53 = .ok (.i2l, 1) := by decide +kernel
theorem dX6_would_54 : decode cX6_would 54 = .ok (.aload_n 0, 1) := by decide +kernel
theorem dX6_would_55 : decode cX6_would 55 = .ok (.getfield 19, 3) := by decide +kernel
theorem dX6_would_58 : decode cX6_would 58 = .ok (.getfield 95, 3) := by decide +kernel
theorem dX6_would_61 : decode cX6_would 61 = .ok (.invokevirtual 286, 3) := by decide +kernel
theorem dX6_would_64 : decode cX6_would 64 = .ok (.aload_n 0, 1) := by decide +kernel
theorem dX6_would_65 : decode cX6_would 65 = .ok (.getfield 29, 3) := by decide +kernel
theorem dX6_would_68 : decode cX6_would 68 = .ok (.getfield 290, 3) := by decide +kernel
theorem dX6_would_71 : decode cX6_would 71 = .ok (.getfield 294, 3) := by decide +kernel
theorem dX6_would_74 : decode cX6_would 74 = .ok (.iload 5, 2) := by decide +kernel
theorem dX6_would_76 : decode cX6_would 76 = .ok (.laload, 1) := by decide +kernel
theorem dX6_would_77 : decode cX6_would 77 = .ok (.lreturn, 1) := by decide +kernel
theorem dX6_takes_0 : decode cX6_takes 0 = .ok (.aload_n 0, 1) := by decide +kernel
theorem dX6_takes_1 : decode cX6_takes 1 = .ok (.aload_n 0, 1) := by decide +kernel
theorem dX6_takes_2 : decode cX6_takes 2 = .ok (.iload 5, 2) := by decide +kernel
theorem dX6_takes_4 : decode cX6_takes 4 = .ok (.invokevirtual 68, 3) := by decide +kernel
theorem dX6_takes_7 : decode cX6_takes 7 = .ok (.invokevirtual 71, 3) := by decide +kernel
theorem dX6_takes_10 : decode cX6_takes 10 = .ok (.aload_n 0, 1) := by decide +kernel
theorem dX6_takes_11 : decode cX6_takes 11 = .ok (.iload_n 1, 1) := by decide +kernel
theorem dX6_takes_12 : decode cX6_takes 12 = .ok (.iload_n 2, 1) := by decide +kernel
theorem dX6_takes_13 : decode cX6_takes 13 = .ok (.iload_n 3, 1) := by decide +kernel
theorem dX6_takes_14 : decode cX6_takes 14 = .ok (.invokestatic 101, 3) := by decide +kernel
theorem dX6_takes_17 : decode cX6_takes 17 = .ok (.ifCond .eq 15, 3) := by decide +kernel
theorem dX6_takes_20 : decode cX6_takes 20 = .ok (.iload 4, 2) := by decide +kernel
theorem dX6_takes_22 : decode cX6_takes 22 = .ok (.invokestatic 104, 3) := by decide +kernel
theorem dX6_takes_25 : decode cX6_takes 25 = .ok (.ifCond .eq 7, 3) := by decide +kernel
theorem dX6_takes_28 : decode cX6_takes 28 = .ok (.iconst 1, 1) := by decide +kernel
theorem dX6_takes_29 : decode cX6_takes 29 = .ok (.goto 4, 3) := by decide +kernel
theorem dX6_takes_32 : decode cX6_takes 32 = .ok (.iconst 0, 1) := by decide +kernel
theorem dX6_takes_33 : decode cX6_takes 33 = .ok (.invokevirtual 47, 3) := by decide +kernel
theorem dX6_takes_36 : decode cX6_takes 36 = .ok (.aload_n 0, 1) := by decide +kernel
theorem dX6_takes_37 : decode cX6_takes 37 = .ok (.getfield 29, 3) := by decide +kernel
theorem dX6_takes_40 : decode cX6_takes 40 = .ok (.aload_n 0, 1) := by decide +kernel
theorem dX6_takes_41 : decode cX6_takes 41 = .ok (.getfield 19, 3) := by decide +kernel
theorem dX6_takes_44 : decode cX6_takes 44 = .ok (.bipush 24, 2) := by decide +kernel
theorem dX6_takes_46 : decode cX6_takes 46 = .ok (.aload_n 0, 1) := by decide +kernel
theorem dX6_takes_47 : decode cX6_takes 47 = .ok (.iload_n 1, 1) := by decide +kernel
theorem dX6_takes_48 : decode cX6_takes 48 = .ok (.iload_n 2, 1) := by decide +kernel
theorem dX6_takes_49 : decode cX6_takes 49 = .ok (.iload_n 3, 1) := by decide +kernel
theorem dX6_takes_50 : decode cX6_takes 50 = .ok (.invokevirtual 282, 3) := by decide +kernel
theorem dX6_takes_53 : decode cX6_takes 53 = .ok (.iload 4, 2) := by decide +kernel
theorem dX6_takes_55 : decode cX6_takes 55 = .ok (.i2l, 1) := by decide +kernel
theorem dX6_takes_56 : decode cX6_takes 56 = .ok (.aload_n 0, 1) := by decide +kernel
theorem dX6_takes_57 : decode cX6_takes 57 = .ok (.getfield 19, 3) := by decide +kernel
theorem dX6_takes_60 : decode cX6_takes 60 = .ok (.getfield 95, 3) := by decide +kernel
theorem dX6_takes_63 : decode cX6_takes 63 = .ok (.invokevirtual 286, 3) := by decide +kernel
theorem dX6_takes_66 : decode cX6_takes 66 = .ok (.aload_n 0, 1) := by decide +kernel
theorem dX6_takes_67 : decode cX6_takes 67 = .ok (.getfield 29, 3) := by decide +kernel
theorem dX6_takes_70 : decode cX6_takes 70 = .ok (.getfield 290, 3) := by decide +kernel
theorem dX6_takes_73 : decode cX6_takes 73 = .ok (.getfield 299, 3) := by decide +kernel
theorem dX6_takes_76 : decode cX6_takes 76 = .ok (.iload 5, 2) := by decide +kernel
theorem dX6_takes_78 : decode cX6_takes 78 = .ok (.laload, 1) := by decide +kernel
theorem dX6_takes_79 : decode cX6_takes 79 = .ok (.lreturn, 1) := by decide +kernel
theorem dX6_drops_0 : decode cX6_drops 0 = .ok (.aload_n 0, 1) := by decide +kernel
theorem dX6_drops_1 : decode cX6_drops 1 = .ok (.iload_n 1, 1) := by decide +kernel
theorem dX6_drops_2 : decode cX6_drops 2 = .ok (.iload_n 2, 1) := by decide +kernel
theorem dX6_drops_3 : decode cX6_drops 3 = .ok (.iload_n 3, 1) := by decide +kernel
theorem dX6_drops_4 : decode cX6_drops 4 = .ok (.invokestatic 101, 3) := by decide +kernel
theorem dX6_drops_7 : decode cX6_drops 7 = .ok (.ifCond .eq 23, 3) := by decide +kernel
theorem dX6_drops_10 : decode cX6_drops 10 = .ok (.iload 4, 2) := by decide +kernel
theorem dX6_drops_12 : decode cX6_drops 12 = .ok (.invokestatic 104, 3) := by decide +kernel
theorem dX6_drops_15 : decode cX6_drops 15 = .ok (.ifCond .eq 15, 3) := by decide +kernel
theorem dX6_drops_18 : decode cX6_drops 18 = .ok (.iload 5, 2) := by decide +kernel
theorem dX6_drops_20 : decode cX6_drops 20 = .ok (.invokestatic 244, 3) := by decide +kernel
theorem dX6_drops_23 : decode cX6_drops 23 = .ok (.ifCond .eq 7, 3) := by decide +kernel
theorem dX6_drops_26 : decode cX6_drops 26 = .ok (.iconst 1, 1) := by decide +kernel
theorem dX6_drops_27 : decode cX6_drops 27 = .ok (.goto 4, 3) := by decide +kernel
theorem dX6_drops_30 : decode cX6_drops 30 = .ok (.iconst 0, 1) := by decide +kernel
theorem dX6_drops_31 : decode cX6_drops 31 = .ok (.invokevirtual 47, 3) := by decide +kernel
theorem dX6_drops_34 : decode cX6_drops 34 = .ok (.aload_n 0, 1) := by decide +kernel
theorem dX6_drops_35 : decode cX6_drops 35 = .ok (.getfield 29, 3) := by decide +kernel
theorem dX6_drops_38 : decode cX6_drops 38 = .ok (.aload_n 0, 1) := by decide +kernel
theorem dX6_drops_39 : decode cX6_drops 39 = .ok (.getfield 19, 3) := by decide +kernel
theorem dX6_drops_42 : decode cX6_drops 42 = .ok (.bipush 24, 2) := by decide +kernel
theorem dX6_drops_44 : decode cX6_drops 44 = .ok (.aload_n 0, 1) := by decide +kernel
theorem dX6_drops_45 : decode cX6_drops 45 = .ok (.iload_n 1, 1) := by decide +kernel
theorem dX6_drops_46 : decode cX6_drops 46 = .ok (.iload_n 2, 1) := by decide +kernel
theorem dX6_drops_47 : decode cX6_drops 47 = .ok (.iload_n 3, 1) := by decide +kernel
theorem dX6_drops_48 : decode cX6_drops 48 = .ok (.invokevirtual 282, 3) := by decide +kernel
theorem dX6_drops_51 : decode cX6_drops 51 = .ok (.iload 4, 2) := by decide +kernel
theorem dX6_drops_53 : decode cX6_drops 53 = .ok (.i2l, 1) := by decide +kernel
theorem dX6_drops_54 : decode cX6_drops 54 = .ok (.aload_n 0, 1) := by decide +kernel
theorem dX6_drops_55 : decode cX6_drops 55 = .ok (.getfield 19, 3) := by decide +kernel
theorem dX6_drops_58 : decode cX6_drops 58 = .ok (.getfield 95, 3) := by decide +kernel
theorem dX6_drops_61 : decode cX6_drops 61 = .ok (.invokevirtual 286, 3) := by decide +kernel
theorem dX6_drops_64 : decode cX6_drops 64 = .ok (.aload_n 0, 1) := by decide +kernel
theorem dX6_drops_65 : decode cX6_drops 65 = .ok (.getfield 29, 3) := by decide +kernel
theorem dX6_drops_68 : decode cX6_drops 68 = .ok (.getfield 290, 3) := by decide +kernel
theorem dX6_drops_71 : decode cX6_drops 71 = .ok (.getfield 300, 3) := by decide +kernel
theorem dX6_drops_74 : decode cX6_drops 74 = .ok (.iload 5, 2) := by decide +kernel
theorem dX6_drops_76 : decode cX6_drops 76 = .ok (.laload, 1) := by decide +kernel
theorem dX6_drops_77 : decode cX6_drops 77 = .ok (.lreturn, 1) := by decide +kernel
theorem dX6_share_0 : decode cX6_share 0 = .ok (.aload_n 0, 1) := by decide +kernel
theorem dX6_share_1 : decode cX6_share 1 = .ok (.iload_n 1, 1) := by decide +kernel
theorem dX6_share_2 : decode cX6_share 2 = .ok (.iload_n 2, 1) := by decide +kernel
theorem dX6_share_3 : decode cX6_share 3 = .ok (.iload_n 3, 1) := by decide +kernel
theorem dX6_share_4 : decode cX6_share 4 = .ok (.invokestatic 101, 3) := by decide +kernel
theorem dX6_share_7 : decode cX6_share 7 = .ok (.ifCond .eq 23, 3) := by decide +kernel
theorem dX6_share_10 : decode cX6_share 10 = .ok (.iload 4, 2) := by decide +kernel
theorem dX6_share_12 : decode cX6_share 12 = .ok (.invokestatic 104, 3) := by decide +kernel
theorem dX6_share_15 : decode cX6_share 15 = .ok (.ifCond .eq 15, 3) := by decide +kernel
theorem dX6_share_18 : decode cX6_share 18 = .ok (.iload 5, 2) := by decide +kernel
theorem dX6_share_20 : decode cX6_share 20 = .ok (.invokestatic 37, 3) := by decide +kernel
theorem dX6_share_23 : decode cX6_share 23 = .ok (.ifCond .eq 7, 3) := by decide +kernel
theorem dX6_share_26 : decode cX6_share 26 = .ok (.iconst 1, 1) := by decide +kernel
theorem dX6_share_27 : decode cX6_share 27 = .ok (.goto 4, 3) := by decide +kernel
theorem dX6_share_30 : decode cX6_share 30 = .ok (.iconst 0, 1) := by decide +kernel
theorem dX6_share_31 : decode cX6_share 31 = .ok (.invokevirtual 47, 3) := by decide +kernel
theorem dX6_share_34 : decode cX6_share 34 = .ok (.aload_n 0, 1) := by decide +kernel
theorem dX6_share_35 : decode cX6_share 35 = .ok (.getfield 29, 3) := by decide +kernel
theorem dX6_share_38 : decode cX6_share 38 = .ok (.aload_n 0, 1) := by decide +kernel
theorem dX6_share_39 : decode cX6_share 39 = .ok (.getfield 19, 3) := by decide +kernel
theorem dX6_share_42 : decode cX6_share 42 = .ok (.getfield 51, 3) := by decide +kernel
theorem dX6_share_45 : decode cX6_share 45 = .ok (.aload_n 0, 1) := by decide +kernel
theorem dX6_share_46 : decode cX6_share 46 = .ok (.iload_n 1, 1) := by decide +kernel
theorem dX6_share_47 : decode cX6_share 47 = .ok (.iload_n 2, 1) := by decide +kernel
theorem dX6_share_48 : decode cX6_share 48 = .ok (.iload_n 3, 1) := by decide +kernel
theorem dX6_share_49 : decode cX6_share 49 = .ok (.invokevirtual 282, 3) := by decide +kernel
theorem dX6_share_52 : decode cX6_share 52 = .ok (.invokevirtual 301, 3) := by decide +kernel
theorem dX6_share_55 : decode cX6_share 55 = .ok (.iload 4, 2) := by decide +kernel
theorem dX6_share_57 : decode cX6_share 57 = .ok (.i2l, 1) := by decide +kernel
theorem dX6_share_58 : decode cX6_share 58 = .ok (.aload_n 0, 1) := by decide +kernel
theorem dX6_share_59 : decode cX6_share 59 = .ok (.getfield 29, 3) := by decide +kernel
theorem dX6_share_62 : decode cX6_share 62 = .ok (.getfield 305, 3) := by decide +kernel
theorem dX6_share_65 : decode cX6_share 65 = .ok (.bipush 12, 2) := by decide +kernel
theorem dX6_share_67 : decode cX6_share 67 = .ok (.aload_n 0, 1) := by decide +kernel
theorem dX6_share_68 : decode cX6_share 68 = .ok (.getfield 29, 3) := by decide +kernel
theorem dX6_share_71 : decode cX6_share 71 = .ok (.getfield 308, 3) := by decide +kernel
theorem dX6_share_74 : decode cX6_share 74 = .ok (.invokestatic 311, 3) := by decide +kernel
theorem dX6_share_77 : decode cX6_share 77 = .ok (.aload_n 0, 1) := by decide +kernel
theorem dX6_share_78 : decode cX6_share 78 = .ok (.getfield 29, 3) := by decide +kernel
theorem dX6_share_81 : decode cX6_share 81 = .ok (.getfield 308, 3) := by decide +kernel
theorem dX6_share_84 : decode cX6_share 84 = .ok (.iload 5, 2) := by decide +kernel
theorem dX6_share_86 : decode cX6_share 86 = .ok (.laload, 1) := by decide +kernel
theorem dX6_share_87 : decode cX6_share 87 = .ok (.lreturn, 1) := by decide +kernel
theorem dX6_weight_0 : decode cX6_weight 0 = .ok (.aload_n 0, 1) := by decide +kernel
theorem dX6_weight_1 : decode cX6_weight 1 = .ok (.iload_n 1, 1) := by decide +kernel
theorem dX6_weight_2 : decode cX6_weight 2 = .ok (.iload_n 2, 1) := by decide +kernel
theorem dX6_weight_3 : decode cX6_weight 3 = .ok (.iload_n 3, 1) := by decide +kernel
theorem dX6_weight_4 : decode cX6_weight 4 = .ok (.invokestatic 101, 3) := by decide +kernel
theorem dX6_weight_7 : decode cX6_weight 7 = .ok (.ifCond .eq 15, 3) := by decide +kernel
theorem dX6_weight_10 : decode cX6_weight 10 = .ok (.iload 4, 2) := by decide +kernel
theorem dX6_weight_12 : decode cX6_weight 12 = .ok (.invokestatic 37, 3) := by decide +kernel
theorem dX6_weight_15 : decode cX6_weight 15 = .ok (.ifCond .eq 7, 3) := by decide +kernel
theorem dX6_weight_18 : decode cX6_weight 18 = .ok (.iconst 1, 1) := by decide +kernel
theorem dX6_weight_19 : decode cX6_weight 19 = .ok (.goto 4, 3) := by decide +kernel
theorem dX6_weight_22 : decode cX6_weight 22 = .ok (.iconst 0, 1) := by decide +kernel
theorem dX6_weight_23 : decode cX6_weight 23 = .ok (.invokevirtual 47, 3) := by decide +kernel
theorem dX6_weight_26 : decode cX6_weight 26 = .ok (.aload_n 0, 1) := by decide +kernel
theorem dX6_weight_27 : decode cX6_weight 27 = .ok (.getfield 29, 3) := by decide +kernel
theorem dX6_weight_30 : decode cX6_weight 30 = .ok (.aload_n 0, 1) := by decide +kernel
theorem dX6_weight_31 : decode cX6_weight 31 = .ok (.getfield 19, 3) := by decide +kernel
theorem dX6_weight_34 : decode cX6_weight 34 = .ok (.getfield 51, 3) := by decide +kernel
theorem dX6_weight_37 : decode cX6_weight 37 = .ok (.aload_n 0, 1) := by decide +kernel
theorem dX6_weight_38 : decode cX6_weight 38 = .ok (.iload_n 1, 1) := by decide +kernel
theorem dX6_weight_39 : decode cX6_weight 39 = .ok (.iload_n 2, 1) := by decide +kernel
theorem dX6_weight_40 : decode cX6_weight 40 = .ok (.iload_n 3, 1) := by decide +kernel
theorem dX6_weight_41 : decode cX6_weight 41 = .ok (.invokevirtual 282, 3) := by decide +kernel
theorem dX6_weight_44 : decode cX6_weight 44 = .ok (.invokevirtual 315, 3) := by decide +kernel
theorem dX6_weight_47 : decode cX6_weight 47 = .ok (.aload_n 0, 1) := by decide +kernel
theorem dX6_weight_48 : decode cX6_weight 48 = .ok (.getfield 29, 3) := by decide +kernel
theorem dX6_weight_51 : decode cX6_weight 51 = .ok (.getfield 305, 3) := by decide +kernel
theorem dX6_weight_54 : decode cX6_weight 54 = .ok (.iload 4, 2) := by decide +kernel
theorem dX6_weight_56 : decode cX6_weight 56 = .ok (.laload, 1) := by decide +kernel
theorem dX6_weight_57 : decode cX6_weight 57 = .ok (.lreturn, 1) := by decide +kernel
theorem dX6_picks_0 : decode cX6_picks 0 = .ok (.aload_n 0, 1) := by decide +kernel
theorem dX6_picks_1 : decode cX6_picks 1 = .ok (.iload_n 1, 1) := by decide +kernel
theorem dX6_picks_2 : decode cX6_picks 2 = .ok (.iload_n 2, 1) := by decide +kernel
theorem dX6_picks_3 : decode cX6_picks 3 = .ok (.iload_n 3, 1) := by decide +kernel
theorem dX6_picks_4 : decode cX6_picks 4 = .ok (.invokestatic 101, 3) := by decide +kernel
theorem dX6_picks_7 : decode cX6_picks 7 = .ok (.ifCond .eq 12, 3) := by decide +kernel
theorem dX6_picks_10 : decode cX6_picks 10 = .ok (.iload 4, 2) := by decide +kernel
theorem dX6_picks_12 : decode cX6_picks 12 = .ok (.ifCond .lt 7, 3) := by decide +kernel
theorem dX6_picks_15 : decode cX6_picks 15 = .ok (.iconst 1, 1) := by decide +kernel
theorem dX6_picks_16 : decode cX6_picks 16 = .ok (.goto 4, 3) := by decide +kernel
theorem dX6_picks_19 : decode cX6_picks 19 = .ok (.iconst 0, 1) := by decide +kernel
theorem dX6_picks_20 : decode cX6_picks 20 = .ok (.invokevirtual 47, 3) := by decide +kernel
theorem dX6_picks_23 : decode cX6_picks 23 = .ok (.aload_n 0, 1) := by decide +kernel
theorem dX6_picks_24 : decode cX6_picks 24 = .ok (.getfield 29, 3) := by decide +kernel
theorem dX6_picks_27 : decode cX6_picks 27 = .ok (.aload_n 0, 1) := by decide +kernel
theorem dX6_picks_28 : decode cX6_picks 28 = .ok (.getfield 19, 3) := by decide +kernel
theorem dX6_picks_31 : decode cX6_picks 31 = .ok (.bipush 24, 2) := by decide +kernel
theorem dX6_picks_33 : decode cX6_picks 33 = .ok (.aload_n 0, 1) := by decide +kernel
theorem dX6_picks_34 : decode cX6_picks 34 = .ok (.iload_n 1, 1) := by decide +kernel
theorem dX6_picks_35 : decode cX6_picks 35 = .ok (.iload_n 2, 1) := by decide +kernel
theorem dX6_picks_36 : decode cX6_picks 36 = .ok (.iload_n 3, 1) := by decide +kernel
theorem dX6_picks_37 : decode cX6_picks 37 = .ok (.invokevirtual 282, 3) := by decide +kernel
theorem dX6_picks_40 : decode cX6_picks 40 = .ok (.invokevirtual 318, 3) := by decide +kernel
theorem dX6_picks_43 : decode cX6_picks 43 = .ok (.aload_n 0, 1) := by decide +kernel
theorem dX6_picks_44 : decode cX6_picks 44 = .ok (.getfield 29, 3) := by decide +kernel
theorem dX6_picks_47 : decode cX6_picks 47 = .ok (.aload_n 0, 1) := by decide +kernel
theorem dX6_picks_48 : decode cX6_picks 48 = .ok (.getfield 19, 3) := by decide +kernel
theorem dX6_picks_51 : decode cX6_picks 51 = .ok (.invokevirtual 322, 3) := by decide +kernel
theorem dX6_picks_54 : decode cX6_picks 54 = .ok (.iload 4, 2) := by decide +kernel
theorem dX6_picks_56 : decode cX6_picks 56 = .ok (.aload_n 0, 1) := by decide +kernel
theorem dX6_picks_57 : decode cX6_picks 57 = .ok (.getfield 29, 3) := by decide +kernel
theorem dX6_picks_60 : decode cX6_picks 60 = .ok (.getfield 326, 3) := by decide +kernel
theorem dX6_picks_63 : decode cX6_picks 63 = .ok (.if_icmp .ge 16, 3) := by decide +kernel
theorem dX6_picks_66 : decode cX6_picks 66 = .ok (.aload_n 0, 1) := by decide +kernel
theorem dX6_picks_67 : decode cX6_picks 67 = .ok (.getfield 29, 3) := by decide +kernel
theorem dX6_picks_70 : decode cX6_picks 70 = .ok (.getfield 329, 3) := by decide +kernel
theorem dX6_picks_73 : decode cX6_picks 73 = .ok (.iload 4, 2) := by decide +kernel
theorem dX6_picks_75 : decode cX6_picks 75 = .ok (.iaload, 1) := by decide +kernel
theorem dX6_picks_76 : decode cX6_picks 76 = .ok (.goto 4, 3) := by decide +kernel
theorem dX6_picks_79 : decode cX6_picks 79 = .ok (.iconst (-1), 1) := by decide +kernel
theorem dX6_picks_80 : decode cX6_picks 80 = .ok (.ireturn, 1) := by decide +kernel
theorem dX6_other_0 : decode cX6_other 0 = .ok (.aload_n 0, 1) := by decide +kernel
theorem dX6_other_1 : decode cX6_other 1 = .ok (.iload_n 1, 1) := by decide +kernel
theorem dX6_other_2 : decode cX6_other 2 = .ok (.iload_n 2, 1) := by decide +kernel
theorem dX6_other_3 : decode cX6_other 3 = .ok (.iload_n 3, 1) := by decide +kernel
theorem dX6_other_4 : decode cX6_other 4 = .ok (.invokestatic 89, 3) := by decide +kernel
theorem dX6_other_7 : decode cX6_other 7 = .ok (.ifCond .eq 15, 3) := by decide +kernel
theorem dX6_other_10 : decode cX6_other 10 = .ok (.iload 4, 2) := by decide +kernel
theorem dX6_other_12 : decode cX6_other 12 = .ok (.invokestatic 74, 3) := by decide +kernel
theorem dX6_other_15 : decode cX6_other 15 = .ok (.ifCond .eq 7, 3) := by decide +kernel
theorem dX6_other_18 : decode cX6_other 18 = .ok (.iconst 1, 1) := by decide +kernel
theorem dX6_other_19 : decode cX6_other 19 = .ok (.goto 4, 3) := by decide +kernel
theorem dX6_other_22 : decode cX6_other 22 = .ok (.iconst 0, 1) := by decide +kernel
theorem dX6_other_23 : decode cX6_other 23 = .ok (.invokevirtual 47, 3) := by decide +kernel
theorem dX6_other_26 : decode cX6_other 26 = .ok (.aload_n 0, 1) := by decide +kernel
theorem dX6_other_27 : decode cX6_other 27 = .ok (.iload_n 1, 1) := by decide +kernel
theorem dX6_other_28 : decode cX6_other 28 = .ok (.iload_n 2, 1) := by decide +kernel
theorem dX6_other_29 : decode cX6_other 29 = .ok (.iload_n 3, 1) := by decide +kernel
theorem dX6_other_30 : decode cX6_other 30 = .ok (.invokevirtual 332, 3) := by decide +kernel
theorem dX6_other_33 : decode cX6_other 33 = .ok (.aload_n 0, 1) := by decide +kernel
theorem dX6_other_34 : decode cX6_other 34 = .ok (.getfield 23, 3) := by decide +kernel
theorem dX6_other_37 : decode cX6_other 37 = .ok (.getfield 107, 3) := by decide +kernel
theorem dX6_other_40 : decode cX6_other 40 = .ok (.iload 4, 2) := by decide +kernel
theorem dX6_other_42 : decode cX6_other 42 = .ok (.invokevirtual 250, 3) := by decide +kernel
theorem dX6_other_45 : decode cX6_other 45 = .ok (.lreturn, 1) := by decide +kernel
theorem dX6_best_0 : decode cX6_best 0 = .ok (.aload_n 0, 1) := by decide +kernel
theorem dX6_best_1 : decode cX6_best 1 = .ok (.iload_n 1, 1) := by decide +kernel
theorem dX6_best_2 : decode cX6_best 2 = .ok (.invokestatic 74, 3) := by decide +kernel
theorem dX6_best_5 : decode cX6_best 5 = .ok (.ifCond .eq 16, 3) := by decide +kernel
theorem dX6_best_8 : decode cX6_best 8 = .ok (.iload_n 2, 1) := by decide +kernel
theorem dX6_best_9 : decode cX6_best 9 = .ok (.iconst 0, 1) := by decide +kernel
theorem dX6_best_10 : decode cX6_best 10 = .ok (.iconst 3, 1) := by decide +kernel
theorem dX6_best_11 : decode cX6_best 11 = .ok (.invokestatic 42, 3) := by decide +kernel
theorem dX6_best_14 : decode cX6_best 14 = .ok (.ifCond .eq 7, 3) := by decide +kernel
theorem dX6_best_17 : decode cX6_best 17 = .ok (.iconst 1, 1) := by decide +kernel
theorem dX6_best_18 : decode cX6_best 18 = .ok (.goto 4, 3) := by decide +kernel
theorem dX6_best_21 : decode cX6_best 21 = .ok (.iconst 0, 1) := by decide +kernel
theorem dX6_best_22 : decode cX6_best 22 = .ok (.invokevirtual 47, 3) := by decide +kernel
theorem dX6_best_25 : decode cX6_best 25 = .ok (.iconst (-1), 1) := by decide +kernel
theorem dX6_best_26 : decode cX6_best 26 = .ok (.istore_n 3, 1) := by decide +kernel
theorem dX6_best_27 : decode cX6_best 27 = .ok (.lconst 0, 1) := by decide +kernel
theorem dX6_best_28 : decode cX6_best 28 = .ok (.lstore 4, 2) := by decide +kernel
theorem dX6_best_30 : decode cX6_best 30 = .ok (.iconst 0, 1) := by decide +kernel
theorem dX6_best_31 : decode cX6_best 31 = .ok (.istore 6, 2) := by decide +kernel
theorem dX6_best_33 : decode cX6_best 33 = .ok (.iload 6, 2) := by decide +kernel
theorem dX6_best_35 : decode cX6_best 35 = .ok (.bipush 64, 2) := by decide +kernel
theorem dX6_best_37 : decode cX6_best 37 = .ok (.if_icmp .ge 79, 3) := by decide +kernel
theorem dX6_best_40 : decode cX6_best 40 = .ok (.iload 6, 2) := by decide +kernel
theorem dX6_best_42 : decode cX6_best 42 = .ok (.iconst 2, 1) := by decide +kernel
theorem dX6_best_43 : decode cX6_best 43 = .ok (.ishr, 1) := by decide +kernel
theorem dX6_best_44 : decode cX6_best 44 = .ok (.iconst 3, 1) := by decide +kernel
theorem dX6_best_45 : decode cX6_best 45 = .ok (.iand, 1) := by decide +kernel
theorem dX6_best_46 : decode cX6_best 46 = .ok (.istore 7, 2) := by decide +kernel
theorem dX6_best_48 : decode cX6_best 48 = .ok (.iload 6, 2) := by decide +kernel
theorem dX6_best_50 : decode cX6_best 50 = .ok (.iconst 3, 1) := by decide +kernel
theorem dX6_best_51 : decode cX6_best 51 = .ok (.iand, 1) := by decide +kernel
theorem dX6_best_52 : decode cX6_best 52 = .ok (.istore 8, 2) := by decide +kernel
theorem dX6_best_54 : decode cX6_best 54 = .ok (.iload 7, 2) := by decide +kernel
theorem dX6_best_56 : decode cX6_best 56 = .ok (.iconst 2, 1) := by decide +kernel
theorem dX6_best_57 : decode cX6_best 57 = .ok (.if_icmp .eq 8, 3) := by decide +kernel
theorem dX6_best_60 : decode cX6_best 60 = .ok (.iload 8, 2) := by decide +kernel
theorem dX6_best_62 : decode cX6_best 62 = .ok (.ifCond .ne 48, 3) := by decide +kernel
theorem dX6_best_65 : decode cX6_best 65 = .ok (.aload_n 0, 1) := by decide +kernel
theorem dX6_best_66 : decode cX6_best 66 = .ok (.iload 6, 2) := by decide +kernel
theorem dX6_best_68 : decode cX6_best 68 = .ok (.iconst 4, 1) := by decide +kernel
theorem dX6_best_69 : decode cX6_best 69 = .ok (.ishr, 1) := by decide +kernel
theorem dX6_best_70 : decode cX6_best 70 = .ok (.iload 7, 2) := by decide +kernel
theorem dX6_best_72 : decode cX6_best 72 = .ok (.iload 8, 2) := by decide +kernel
theorem dX6_best_74 : decode cX6_best 74 = .ok (.invokevirtual 332, 3) := by decide +kernel
theorem dX6_best_77 : decode cX6_best 77 = .ok (.aload_n 0, 1) := by decide +kernel
theorem dX6_best_78 : decode cX6_best 78 = .ok (.getfield 23, 3) := by decide +kernel
theorem dX6_best_81 : decode cX6_best 81 = .ok (.getfield 107, 3) := by decide +kernel
theorem dX6_best_84 : decode cX6_best 84 = .ok (.iload_n 1, 1) := by decide +kernel
theorem dX6_best_85 : decode cX6_best 85 = .ok (.invokevirtual 250, 3) := by decide +kernel
theorem dX6_best_88 : decode cX6_best 88 = .ok (.lstore 9, 2) := by decide +kernel
theorem dX6_best_90 : decode cX6_best 90 = .ok (.iload_n 3, 1) := by decide +kernel
theorem dX6_best_91 : decode cX6_best 91 = .ok (.iconst (-1), 1) := by decide +kernel
theorem dX6_best_92 : decode cX6_best 92 = .ok (.if_icmp .eq 11, 3) := by decide +kernel
theorem dX6_best_95 : decode cX6_best 95 = .ok (.lload 9, 2) := by decide +kernel
theorem dX6_best_97 : decode cX6_best 97 = .ok (.lload 4, 2) := by decide +kernel
theorem dX6_best_99 : decode cX6_best 99 = .ok (.lcmp, 1) := by decide +kernel
theorem dX6_best_100 : decode cX6_best 100 = .ok (.ifCond .ge 10, 3) := by decide +kernel
theorem dX6_best_103 : decode cX6_best 103 = .ok (.iload 6, 2) := by decide +kernel
theorem dX6_best_105 : decode cX6_best 105 = .ok (.istore_n 3, 1) := by decide +kernel
theorem dX6_best_106 : decode cX6_best 106 = .ok (.lload 9, 2) := by decide +kernel
theorem dX6_best_108 : decode cX6_best 108 = .ok (.lstore 4, 2) := by decide +kernel
theorem dX6_best_110 : decode cX6_best 110 = .ok (.iinc 6 1, 3) := by decide +kernel
theorem dX6_best_113 : decode cX6_best 113 = .ok (.goto (-80), 3) := by decide +kernel
theorem dX6_best_116 : decode cX6_best 116 = .ok (.iload_n 2, 1) := by decide +kernel
theorem dX6_best_117 : decode cX6_best 117 = .ok (.tableswitch 44 0 2 #[27, 32, 39], 27) := by decide +kernel
theorem dX6_best_144 : decode cX6_best 144 = .ok (.iload_n 3, 1) := by decide +kernel
theorem dX6_best_145 : decode cX6_best 145 = .ok (.iconst 4, 1) := by decide +kernel
theorem dX6_best_146 : decode cX6_best 146 = .ok (.ishr, 1) := by decide +kernel
theorem dX6_best_147 : decode cX6_best 147 = .ok (.i2l, 1) := by decide +kernel
theorem dX6_best_148 : decode cX6_best 148 = .ok (.lreturn, 1) := by decide +kernel
theorem dX6_best_149 : decode cX6_best 149 = .ok (.iload_n 3, 1) := by decide +kernel
theorem dX6_best_150 : decode cX6_best 150 = .ok (.iconst 2, 1) := by decide +kernel
theorem dX6_best_151 : decode cX6_best 151 = .ok (.ishr, 1) := by decide +kernel
theorem dX6_best_152 : decode cX6_best 152 = .ok (.iconst 3, 1) := by decide +kernel
theorem dX6_best_153 : decode cX6_best 153 = .ok (.iand, 1) := by decide +kernel
theorem dX6_best_154 : decode cX6_best 154 = .ok (.i2l, 1) := by decide +kernel
theorem dX6_best_155 : decode cX6_best 155 = .ok (.lreturn, 1) := by decide +kernel
theorem dX6_best_156 : decode cX6_best 156 = .ok (.iload_n 3, 1) := by decide +kernel
theorem dX6_best_157 : decode cX6_best 157 = .ok (.iconst 3, 1) := by decide +kernel
theorem dX6_best_158 : decode cX6_best 158 = .ok (.iand, 1) := by decide +kernel
theorem dX6_best_159 : decode cX6_best 159 = .ok (.i2l, 1) := by decide +kernel
theorem dX6_best_160 : decode cX6_best 160 = .ok (.lreturn, 1) := by decide +kernel
theorem dX6_best_161 : decode cX6_best 161 = .ok (.lload 4, 2) := by decide +kernel
theorem dX6_best_163 : decode cX6_best 163 = .ok (.lreturn, 1) := by decide +kernel
theorem dX6_without_0 : decode cX6_without 0 = .ok (.aload_n 0, 1) := by decide +kernel
theorem dX6_without_1 : decode cX6_without 1 = .ok (.aload_n 0, 1) := by decide +kernel
theorem dX6_without_2 : decode cX6_without 2 = .ok (.iload_n 1, 1) := by decide +kernel
theorem dX6_without_3 : decode cX6_without 3 = .ok (.invokevirtual 143, 3) := by decide +kernel
theorem dX6_without_6 : decode cX6_without 6 = .ok (.invokevirtual 71, 3) := by decide +kernel
theorem dX6_without_9 : decode cX6_without 9 = .ok (.aload_n 0, 1) := by decide +kernel
theorem dX6_without_10 : decode cX6_without 10 = .ok (.iload_n 2, 1) := by decide +kernel
theorem dX6_without_11 : decode cX6_without 11 = .ok (.invokestatic 74, 3) := by decide +kernel
theorem dX6_without_14 : decode cX6_without 14 = .ok (.invokevirtual 47, 3) := by decide +kernel
theorem dX6_without_17 : decode cX6_without 17 = .ok (.aload_n 0, 1) := by decide +kernel
theorem dX6_without_18 : decode cX6_without 18 = .ok (.iload_n 1, 1) := by decide +kernel
theorem dX6_without_19 : decode cX6_without 19 = .ok (.invokevirtual 336, 3) := by decide +kernel
theorem dX6_without_22 : decode cX6_without 22 = .ok (.pop, 1) := by decide +kernel
theorem dX6_without_23 : decode cX6_without 23 = .ok (.aload_n 0, 1) := by decide +kernel
theorem dX6_without_24 : decode cX6_without 24 = .ok (.getfield 23, 3) := by decide +kernel
theorem dX6_without_27 : decode cX6_without 27 = .ok (.getfield 107, 3) := by decide +kernel
theorem dX6_without_30 : decode cX6_without 30 = .ok (.iload_n 2, 1) := by decide +kernel
theorem dX6_without_31 : decode cX6_without 31 = .ok (.invokevirtual 250, 3) := by decide +kernel
theorem dX6_without_34 : decode cX6_without 34 = .ok (.lreturn, 1) := by decide +kernel
theorem dX6_undone_0 : decode cX6_undone 0 = .ok (.aload_n 0, 1) := by decide +kernel
theorem dX6_undone_1 : decode cX6_undone 1 = .ok (.aload_n 0, 1) := by decide +kernel
theorem dX6_undone_2 : decode cX6_undone 2 = .ok (.iload_n 1, 1) := by decide +kernel
theorem dX6_undone_3 : decode cX6_undone 3 = .ok (.invokevirtual 143, 3) := by decide +kernel
theorem dX6_undone_6 : decode cX6_undone 6 = .ok (.invokevirtual 71, 3) := by decide +kernel
theorem dX6_undone_9 : decode cX6_undone 9 = .ok (.aload_n 0, 1) := by decide +kernel
theorem dX6_undone_10 : decode cX6_undone 10 = .ok (.iload_n 1, 1) := by decide +kernel
theorem dX6_undone_11 : decode cX6_undone 11 = .ok (.invokevirtual 336, 3) := by decide +kernel
theorem dX6_undone_14 : decode cX6_undone 14 = .ok (.ireturn, 1) := by decide +kernel
theorem dX6_spared_0 : decode cX6_spared 0 = .ok (.aload_n 0, 1) := by decide +kernel
theorem dX6_spared_1 : decode cX6_spared 1 = .ok (.iload_n 1, 1) := by decide +kernel
theorem dX6_spared_2 : decode cX6_spared 2 = .ok (.invokestatic 121, 3) := by decide +kernel
theorem dX6_spared_5 : decode cX6_spared 5 = .ok (.invokevirtual 47, 3) := by decide +kernel
theorem dX6_spared_8 : decode cX6_spared 8 = .ok (.aload_n 0, 1) := by decide +kernel
theorem dX6_spared_9 : decode cX6_spared 9 = .ok (.getfield 12, 3) := by decide +kernel
theorem dX6_spared_12 : decode cX6_spared 12 = .ok (.bipush 6, 2) := by decide +kernel
theorem dX6_spared_14 : decode cX6_spared 14 = .ok (.iload_n 1, 1) := by decide +kernel
theorem dX6_spared_15 : decode cX6_spared 15 = .ok (.invokevirtual 339, 3) := by decide +kernel
theorem dX6_spared_18 : decode cX6_spared 18 = .ok (.istore_n 2, 1) := by decide +kernel
theorem dX6_spared_19 : decode cX6_spared 19 = .ok (.iload_n 2, 1) := by decide +kernel
theorem dX6_spared_20 : decode cX6_spared 20 = .ok (.iconst (-1), 1) := by decide +kernel
theorem dX6_spared_21 : decode cX6_spared 21 = .ok (.if_icmp .ne 5, 3) := by decide +kernel
theorem dX6_spared_24 : decode cX6_spared 24 = .ok (.lconst 0, 1) := by decide +kernel
theorem dX6_spared_25 : decode cX6_spared 25 = .ok (.lreturn, 1) := by decide +kernel
theorem dX6_spared_26 : decode cX6_spared 26 = .ok (.aload_n 0, 1) := by decide +kernel
theorem dX6_spared_27 : decode cX6_spared 27 = .ok (.iload_n 2, 1) := by decide +kernel
theorem dX6_spared_28 : decode cX6_spared 28 = .ok (.invokevirtual 336, 3) := by decide +kernel
theorem dX6_spared_31 : decode cX6_spared 31 = .ok (.pop, 1) := by decide +kernel
theorem dX6_spared_32 : decode cX6_spared 32 = .ok (.aload_n 0, 1) := by decide +kernel
theorem dX6_spared_33 : decode cX6_spared 33 = .ok (.getfield 23, 3) := by decide +kernel
theorem dX6_spared_36 : decode cX6_spared 36 = .ok (.getfield 107, 3) := by decide +kernel
theorem dX6_spared_39 : decode cX6_spared 39 = .ok (.iload_n 1, 1) := by decide +kernel
theorem dX6_spared_40 : decode cX6_spared 40 = .ok (.invokevirtual 250, 3) := by decide +kernel
theorem dX6_spared_43 : decode cX6_spared 43 = .ok (.aload_n 0, 1) := by decide +kernel
theorem dX6_spared_44 : decode cX6_spared 44 = .ok (.getfield 19, 3) := by decide +kernel
theorem dX6_spared_47 : decode cX6_spared 47 = .ok (.getfield 107, 3) := by decide +kernel
theorem dX6_spared_50 : decode cX6_spared 50 = .ok (.iload_n 1, 1) := by decide +kernel
theorem dX6_spared_51 : decode cX6_spared 51 = .ok (.invokevirtual 250, 3) := by decide +kernel
theorem dX6_spared_54 : decode cX6_spared 54 = .ok (.lsub, 1) := by decide +kernel
theorem dX6_spared_55 : decode cX6_spared 55 = .ok (.aload_n 0, 1) := by decide +kernel
theorem dX6_spared_56 : decode cX6_spared 56 = .ok (.getfield 19, 3) := by decide +kernel
theorem dX6_spared_59 : decode cX6_spared 59 = .ok (.getfield 260, 3) := by decide +kernel
theorem dX6_spared_62 : decode cX6_spared 62 = .ok (.iload_n 1, 1) := by decide +kernel
theorem dX6_spared_63 : decode cX6_spared 63 = .ok (.iaload, 1) := by decide +kernel
theorem dX6_spared_64 : decode cX6_spared 64 = .ok (.i2l, 1) := by decide +kernel
theorem dX6_spared_65 : decode cX6_spared 65 = .ok (.lsub, 1) := by decide +kernel
theorem dX6_spared_66 : decode cX6_spared 66 = .ok (.lreturn, 1) := by decide +kernel
theorem dX6_shift_0 : decode cX6_shift 0 = .ok (.aload_n 0, 1) := by decide +kernel
theorem dX6_shift_1 : decode cX6_shift 1 = .ok (.aload_n 0, 1) := by decide +kernel
theorem dX6_shift_2 : decode cX6_shift 2 = .ok (.iload_n 1, 1) := by decide +kernel
theorem dX6_shift_3 : decode cX6_shift 3 = .ok (.invokevirtual 143, 3) := by decide +kernel
theorem dX6_shift_6 : decode cX6_shift 6 = .ok (.invokevirtual 71, 3) := by decide +kernel
theorem dX6_shift_9 : decode cX6_shift 9 = .ok (.aload_n 0, 1) := by decide +kernel
theorem dX6_shift_10 : decode cX6_shift 10 = .ok (.iload_n 2, 1) := by decide +kernel
theorem dX6_shift_11 : decode cX6_shift 11 = .ok (.iconst 0, 1) := by decide +kernel
theorem dX6_shift_12 : decode cX6_shift 12 = .ok (.aload_n 0, 1) := by decide +kernel
theorem dX6_shift_13 : decode cX6_shift 13 = .ok (.getfield 12, 3) := by decide +kernel
theorem dX6_shift_16 : decode cX6_shift 16 = .ok (.getfield 128, 3) := by decide +kernel
theorem dX6_shift_19 : decode cX6_shift 19 = .ok (.invokestatic 42, 3) := by decide +kernel
theorem dX6_shift_22 : decode cX6_shift 22 = .ok (.ifCond .eq 14, 3) := by decide +kernel
theorem dX6_shift_25 : decode cX6_shift 25 = .ok (.iload_n 3, 1) := by decide +kernel
theorem dX6_shift_26 : decode cX6_shift 26 = .ok (.invokestatic 74, 3) := by decide +kernel
theorem dX6_shift_29 : decode cX6_shift 29 = .ok (.ifCond .eq 7, 3) := by decide +kernel
theorem dX6_shift_32 : decode cX6_shift 32 = .ok (.iconst 1, 1) := by decide +kernel
theorem dX6_shift_33 : decode cX6_shift 33 = .ok (.goto 4, 3) := by decide +kernel
theorem dX6_shift_36 : decode cX6_shift 36 = .ok (.iconst 0, 1) := by decide +kernel
theorem dX6_shift_37 : decode cX6_shift 37 = .ok (.invokevirtual 47, 3) := by decide +kernel
theorem dX6_shift_40 : decode cX6_shift 40 = .ok (.aload_n 0, 1) := by decide +kernel
theorem dX6_shift_41 : decode cX6_shift 41 = .ok (.getfield 23, 3) := by decide +kernel
theorem dX6_shift_44 : decode cX6_shift 44 = .ok (.invokevirtual 129, 3) := by decide +kernel
theorem dX6_shift_47 : decode cX6_shift 47 = .ok (.iconst 0, 1) := by decide +kernel
theorem dX6_shift_48 : decode cX6_shift 48 = .ok (.istore 4, 2) := by decide +kernel
theorem dX6_shift_50 : decode cX6_shift 50 = .ok (.iload 4, 2) := by decide +kernel
theorem dX6_shift_52 : decode cX6_shift 52 = .ok (.aload_n 0, 1) := by decide +kernel
theorem dX6_shift_53 : decode cX6_shift 53 = .ok (.getfield 12, 3) := by decide +kernel
theorem dX6_shift_56 : decode cX6_shift 56 = .ok (.getfield 128, 3) := by decide +kernel
theorem dX6_shift_59 : decode cX6_shift 59 = .ok (.if_icmp .gt 68, 3) := by decide +kernel
theorem dX6_shift_62 : decode cX6_shift 62 = .ok (.iload 4, 2) := by decide +kernel
theorem dX6_shift_64 : decode cX6_shift 64 = .ok (.iload_n 2, 1) := by decide +kernel
theorem dX6_shift_65 : decode cX6_shift 65 = .ok (.if_icmp .ne 20, 3) := by decide +kernel
theorem dX6_shift_68 : decode cX6_shift 68 = .ok (.aload_n 0, 1) := by decide +kernel
theorem dX6_shift_69 : decode cX6_shift 69 = .ok (.getfield 23, 3) := by decide +kernel
theorem dX6_shift_72 : decode cX6_shift 72 = .ok (.aload_n 0, 1) := by decide +kernel
theorem dX6_shift_73 : decode cX6_shift 73 = .ok (.getfield 12, 3) := by decide +kernel
theorem dX6_shift_76 : decode cX6_shift 76 = .ok (.iload_n 1, 1) := by decide +kernel
theorem dX6_shift_77 : decode cX6_shift 77 = .ok (.aload_n 0, 1) := by decide +kernel
theorem dX6_shift_78 : decode cX6_shift 78 = .ok (.getfield 29, 3) := by decide +kernel
theorem dX6_shift_81 : decode cX6_shift 81 = .ok (.invokevirtual 132, 3) := by decide +kernel
theorem dX6_shift_84 : decode cX6_shift 84 = .ok (.pop, 1) := by decide +kernel
theorem dX6_shift_85 : decode cX6_shift 85 = .ok (.iload 4, 2) := by decide +kernel
theorem dX6_shift_87 : decode cX6_shift 87 = .ok (.aload_n 0, 1) := by decide +kernel
theorem dX6_shift_88 : decode cX6_shift 88 = .ok (.getfield 12, 3) := by decide +kernel
theorem dX6_shift_91 : decode cX6_shift 91 = .ok (.getfield 128, 3) := by decide +kernel
theorem dX6_shift_94 : decode cX6_shift 94 = .ok (.if_icmp .ge 27, 3) := by decide +kernel
theorem dX6_shift_97 : decode cX6_shift 97 = .ok (.iload 4, 2) := by decide +kernel
theorem dX6_shift_99 : decode cX6_shift 99 = .ok (.iload_n 1, 1) := by decide +kernel
theorem dX6_shift_100 : decode cX6_shift 100 = .ok (.if_icmp .eq 21, 3) := by decide +kernel
theorem dX6_shift_103 : decode cX6_shift 103 = .ok (.aload_n 0, 1) := by decide +kernel
theorem dX6_shift_104 : decode cX6_shift 104 = .ok (.getfield 23, 3) := by decide +kernel
theorem dX6_shift_107 : decode cX6_shift 107 = .ok (.aload_n 0, 1) := by decide +kernel
theorem dX6_shift_108 : decode cX6_shift 108 = .ok (.getfield 12, 3) := by decide +kernel
theorem dX6_shift_111 : decode cX6_shift 111 = .ok (.iload 4, 2) := by decide +kernel
theorem dX6_shift_113 : decode cX6_shift 113 = .ok (.aload_n 0, 1) := by decide +kernel
theorem dX6_shift_114 : decode cX6_shift 114 = .ok (.getfield 29, 3) := by decide +kernel
theorem dX6_shift_117 : decode cX6_shift 117 = .ok (.invokevirtual 132, 3) := by decide +kernel
theorem dX6_shift_120 : decode cX6_shift 120 = .ok (.pop, 1) := by decide +kernel
theorem dX6_shift_121 : decode cX6_shift 121 = .ok (.iinc 4 1, 3) := by decide +kernel
theorem dX6_shift_124 : decode cX6_shift 124 = .ok (.goto (-74), 3) := by decide +kernel
theorem dX6_shift_127 : decode cX6_shift 127 = .ok (.aload_n 0, 1) := by decide +kernel
theorem dX6_shift_128 : decode cX6_shift 128 = .ok (.getfield 23, 3) := by decide +kernel
theorem dX6_shift_131 : decode cX6_shift 131 = .ok (.getfield 107, 3) := by decide +kernel
theorem dX6_shift_134 : decode cX6_shift 134 = .ok (.iload_n 3, 1) := by decide +kernel
theorem dX6_shift_135 : decode cX6_shift 135 = .ok (.invokevirtual 250, 3) := by decide +kernel
theorem dX6_shift_138 : decode cX6_shift 138 = .ok (.lreturn, 1) := by decide +kernel
theorem dX6_after_0 : decode cX6_after 0 = .ok (.aload_n 0, 1) := by decide +kernel
theorem dX6_after_1 : decode cX6_after 1 = .ok (.aload_n 0, 1) := by decide +kernel
theorem dX6_after_2 : decode cX6_after 2 = .ok (.iload_n 1, 1) := by decide +kernel
theorem dX6_after_3 : decode cX6_after 3 = .ok (.invokevirtual 143, 3) := by decide +kernel
theorem dX6_after_6 : decode cX6_after 6 = .ok (.invokevirtual 71, 3) := by decide +kernel
theorem dX6_after_9 : decode cX6_after 9 = .ok (.aload_n 0, 1) := by decide +kernel
theorem dX6_after_10 : decode cX6_after 10 = .ok (.iload_n 2, 1) := by decide +kernel
theorem dX6_after_11 : decode cX6_after 11 = .ok (.invokestatic 74, 3) := by decide +kernel
theorem dX6_after_14 : decode cX6_after 14 = .ok (.invokevirtual 47, 3) := by decide +kernel
theorem dX6_after_17 : decode cX6_after 17 = .ok (.aload_n 0, 1) := by decide +kernel
theorem dX6_after_18 : decode cX6_after 18 = .ok (.getfield 23, 3) := by decide +kernel
theorem dX6_after_21 : decode cX6_after 21 = .ok (.invokevirtual 129, 3) := by decide +kernel
theorem dX6_after_24 : decode cX6_after 24 = .ok (.iconst 0, 1) := by decide +kernel
theorem dX6_after_25 : decode cX6_after 25 = .ok (.istore_n 3, 1) := by decide +kernel
theorem dX6_after_26 : decode cX6_after 26 = .ok (.iload_n 3, 1) := by decide +kernel
theorem dX6_after_27 : decode cX6_after 27 = .ok (.iload_n 1, 1) := by decide +kernel
theorem dX6_after_28 : decode cX6_after 28 = .ok (.if_icmp .gt 26, 3) := by decide +kernel
theorem dX6_after_31 : decode cX6_after 31 = .ok (.aload_n 0, 1) := by decide +kernel
theorem dX6_after_32 : decode cX6_after 32 = .ok (.getfield 23, 3) := by decide +kernel
theorem dX6_after_35 : decode cX6_after 35 = .ok (.aload_n 0, 1) := by decide +kernel
theorem dX6_after_36 : decode cX6_after 36 = .ok (.getfield 12, 3) := by decide +kernel
theorem dX6_after_39 : decode cX6_after 39 = .ok (.iload_n 3, 1) := by decide +kernel
theorem dX6_after_40 : decode cX6_after 40 = .ok (.aload_n 0, 1) := by decide +kernel
theorem dX6_after_41 : decode cX6_after 41 = .ok (.getfield 29, 3) := by decide +kernel
theorem dX6_after_44 : decode cX6_after 44 = .ok (.invokevirtual 132, 3) := by decide +kernel
theorem dX6_after_47 : decode cX6_after 47 = .ok (.pop, 1) := by decide +kernel
theorem dX6_after_48 : decode cX6_after 48 = .ok (.iinc 3 1, 3) := by decide +kernel
theorem dX6_after_51 : decode cX6_after 51 = .ok (.goto (-25), 3) := by decide +kernel
theorem dX6_after_54 : decode cX6_after 54 = .ok (.aload_n 0, 1) := by decide +kernel
theorem dX6_after_55 : decode cX6_after 55 = .ok (.getfield 23, 3) := by decide +kernel
theorem dX6_after_58 : decode cX6_after 58 = .ok (.getfield 107, 3) := by decide +kernel
theorem dX6_after_61 : decode cX6_after 61 = .ok (.iload_n 2, 1) := by decide +kernel
theorem dX6_after_62 : decode cX6_after 62 = .ok (.invokevirtual 250, 3) := by decide +kernel
theorem dX6_after_65 : decode cX6_after 65 = .ok (.lreturn, 1) := by decide +kernel
theorem dX6_usedUp_0 : decode cX6_usedUp 0 = .ok (.aload_n 0, 1) := by decide +kernel
theorem dX6_usedUp_1 : decode cX6_usedUp 1 = .ok (.aload_n 0, 1) := by decide +kernel
theorem dX6_usedUp_2 : decode cX6_usedUp 2 = .ok (.iload_n 1, 1) := by decide +kernel
theorem dX6_usedUp_3 : decode cX6_usedUp 3 = .ok (.invokevirtual 68, 3) := by decide +kernel
theorem dX6_usedUp_6 : decode cX6_usedUp 6 = .ok (.invokevirtual 71, 3) := by decide +kernel
theorem dX6_usedUp_9 : decode cX6_usedUp 9 = .ok (.aload_n 0, 1) := by decide +kernel
theorem dX6_usedUp_10 : decode cX6_usedUp 10 = .ok (.getfield 23, 3) := by decide +kernel
theorem dX6_usedUp_13 : decode cX6_usedUp 13 = .ok (.invokevirtual 129, 3) := by decide +kernel
theorem dX6_usedUp_16 : decode cX6_usedUp 16 = .ok (.iconst 0, 1) := by decide +kernel
theorem dX6_usedUp_17 : decode cX6_usedUp 17 = .ok (.istore_n 2, 1) := by decide +kernel
theorem dX6_usedUp_18 : decode cX6_usedUp 18 = .ok (.iload_n 2, 1) := by decide +kernel
theorem dX6_usedUp_19 : decode cX6_usedUp 19 = .ok (.aload_n 0, 1) := by decide +kernel
theorem dX6_usedUp_20 : decode cX6_usedUp 20 = .ok (.getfield 12, 3) := by decide +kernel
theorem dX6_usedUp_23 : decode cX6_usedUp 23 = .ok (.getfield 128, 3) := by decide +kernel
theorem dX6_usedUp_26 : decode cX6_usedUp 26 = .ok (.if_icmp .ge 56, 3) := by decide +kernel
theorem dX6_usedUp_29 : decode cX6_usedUp 29 = .ok (.aload_n 0, 1) := by decide +kernel
theorem dX6_usedUp_30 : decode cX6_usedUp 30 = .ok (.getfield 23, 3) := by decide +kernel
theorem dX6_usedUp_33 : decode cX6_usedUp 33 = .ok (.aload_n 0, 1) := by decide +kernel
theorem dX6_usedUp_34 : decode cX6_usedUp 34 = .ok (.getfield 12, 3) := by decide +kernel
theorem dX6_usedUp_37 : decode cX6_usedUp 37 = .ok (.iload_n 2, 1) := by decide +kernel
theorem dX6_usedUp_38 : decode cX6_usedUp 38 = .ok (.aload_n 0, 1) := by decide +kernel
theorem dX6_usedUp_39 : decode cX6_usedUp 39 = .ok (.getfield 29, 3) := by decide +kernel
theorem dX6_usedUp_42 : decode cX6_usedUp 42 = .ok (.invokevirtual 132, 3) := by decide +kernel
theorem dX6_usedUp_45 : decode cX6_usedUp 45 = .ok (.pop, 1) := by decide +kernel
theorem dX6_usedUp_46 : decode cX6_usedUp 46 = .ok (.aload_n 0, 1) := by decide +kernel
theorem dX6_usedUp_47 : decode cX6_usedUp 47 = .ok (.getfield 23, 3) := by decide +kernel
theorem dX6_usedUp_50 : decode cX6_usedUp 50 = .ok (.getfield 51, 3) := by decide +kernel
theorem dX6_usedUp_53 : decode cX6_usedUp 53 = .ok (.iload_n 1, 1) := by decide +kernel
theorem dX6_usedUp_54 : decode cX6_usedUp 54 = .ok (.invokevirtual 342, 3) := by decide +kernel
theorem dX6_usedUp_57 : decode cX6_usedUp 57 = .ok (.ifCond .eq 19, 3) := by decide +kernel
theorem dX6_usedUp_60 : decode cX6_usedUp 60 = .ok (.aload_n 0, 1) := by decide +kernel
theorem dX6_usedUp_61 : decode cX6_usedUp 61 = .ok (.getfield 23, 3) := by decide +kernel
theorem dX6_usedUp_64 : decode cX6_usedUp 64 = .ok (.getfield 51, 3) := by decide +kernel
theorem dX6_usedUp_67 : decode cX6_usedUp 67 = .ok (.iload_n 1, 1) := by decide +kernel
theorem dX6_usedUp_68 : decode cX6_usedUp 68 = .ok (.invokevirtual 179, 3) := by decide +kernel
theorem dX6_usedUp_71 : decode cX6_usedUp 71 = .ok (.ifCond .eq 5, 3) := by decide +kernel
theorem dX6_usedUp_74 : decode cX6_usedUp 74 = .ok (.iload_n 2, 1) := by decide +kernel
theorem dX6_usedUp_75 : decode cX6_usedUp 75 = .ok (.ireturn, 1) := by decide +kernel
theorem dX6_usedUp_76 : decode cX6_usedUp 76 = .ok (.iinc 2 1, 3) := by decide +kernel
theorem dX6_usedUp_79 : decode cX6_usedUp 79 = .ok (.goto (-61), 3) := by decide +kernel
theorem dX6_usedUp_82 : decode cX6_usedUp 82 = .ok (.iconst (-1), 1) := by decide +kernel
theorem dX6_usedUp_83 : decode cX6_usedUp 83 = .ok (.ireturn, 1) := by decide +kernel
theorem dX6_heaviest_0 : decode cX6_heaviest 0 = .ok (.aload_n 0, 1) := by decide +kernel
theorem dX6_heaviest_1 : decode cX6_heaviest 1 = .ok (.iload_n 1, 1) := by decide +kernel
theorem dX6_heaviest_2 : decode cX6_heaviest 2 = .ok (.invokestatic 74, 3) := by decide +kernel
theorem dX6_heaviest_5 : decode cX6_heaviest 5 = .ok (.ifCond .eq 16, 3) := by decide +kernel
theorem dX6_heaviest_8 : decode cX6_heaviest 8 = .ok (.iload_n 2, 1) := by decide +kernel
theorem dX6_heaviest_9 : decode cX6_heaviest 9 = .ok (.iconst 0, 1) := by decide +kernel
theorem dX6_heaviest_10 : decode cX6_heaviest 10 = .ok (.iconst 1, 1) := by decide +kernel
theorem dX6_heaviest_11 : decode cX6_heaviest 11 = .ok (.invokestatic 42, 3) := by decide +kernel
theorem dX6_heaviest_14 : decode cX6_heaviest 14 = .ok (.ifCond .eq 7, 3) := by decide +kernel
theorem dX6_heaviest_17 : decode cX6_heaviest 17 = .ok (.iconst 1, 1) := by decide +kernel
theorem dX6_heaviest_18 : decode cX6_heaviest 18 = .ok (.goto 4, 3) := by decide +kernel
theorem dX6_heaviest_21 : decode cX6_heaviest 21 = .ok (.iconst 0, 1) := by decide +kernel
theorem dX6_heaviest_22 : decode cX6_heaviest 22 = .ok (.invokevirtual 47, 3) := by decide +kernel
theorem dX6_heaviest_25 : decode cX6_heaviest 25 = .ok (.iconst (-1), 1) := by decide +kernel
theorem dX6_heaviest_26 : decode cX6_heaviest 26 = .ok (.istore_n 3, 1) := by decide +kernel
theorem dX6_heaviest_27 : decode cX6_heaviest 27 = .ok (.lconst 0, 1) := by decide +kernel
theorem dX6_heaviest_28 : decode cX6_heaviest 28 = .ok (.lstore 4, 2) := by decide +kernel
theorem dX6_heaviest_30 : decode cX6_heaviest 30 = .ok (.iconst 0, 1) := by decide +kernel
theorem dX6_heaviest_31 : decode cX6_heaviest 31 = .ok (.istore 6, 2) := by decide +kernel
theorem dX6_heaviest_33 : decode cX6_heaviest 33 = .ok (.iload 6, 2) := by decide +kernel
theorem dX6_heaviest_35 : decode cX6_heaviest 35 = .ok (.aload_n 0, 1) := by decide +kernel
theorem dX6_heaviest_36 : decode cX6_heaviest 36 = .ok (.getfield 19, 3) := by decide +kernel
theorem dX6_heaviest_39 : decode cX6_heaviest 39 = .ok (.getfield 107, 3) := by decide +kernel
theorem dX6_heaviest_42 : decode cX6_heaviest 42 = .ok (.getfield 111, 3) := by decide +kernel
theorem dX6_heaviest_45 : decode cX6_heaviest 45 = .ok (.if_icmp .ge 57, 3) := by decide +kernel
theorem dX6_heaviest_48 : decode cX6_heaviest 48 = .ok (.aload_n 0, 1) := by decide +kernel
theorem dX6_heaviest_49 : decode cX6_heaviest 49 = .ok (.aload_n 0, 1) := by decide +kernel
theorem dX6_heaviest_50 : decode cX6_heaviest 50 = .ok (.getfield 12, 3) := by decide +kernel
theorem dX6_heaviest_53 : decode cX6_heaviest 53 = .ok (.iconst 4, 1) := by decide +kernel
theorem dX6_heaviest_54 : decode cX6_heaviest 54 = .ok (.iload 6, 2) := by decide +kernel
theorem dX6_heaviest_56 : decode cX6_heaviest 56 = .ok (.invokevirtual 339, 3) := by decide +kernel
theorem dX6_heaviest_59 : decode cX6_heaviest 59 = .ok (.invokevirtual 336, 3) := by decide +kernel
theorem dX6_heaviest_62 : decode cX6_heaviest 62 = .ok (.pop, 1) := by decide +kernel
theorem dX6_heaviest_63 : decode cX6_heaviest 63 = .ok (.aload_n 0, 1) := by decide +kernel
theorem dX6_heaviest_64 : decode cX6_heaviest 64 = .ok (.getfield 23, 3) := by decide +kernel
theorem dX6_heaviest_67 : decode cX6_heaviest 67 = .ok (.getfield 107, 3) := by decide +kernel
theorem dX6_heaviest_70 : decode cX6_heaviest 70 = .ok (.iload_n 1, 1) := by decide +kernel
theorem dX6_heaviest_71 : decode cX6_heaviest 71 = .ok (.invokevirtual 250, 3) := by decide +kernel
theorem dX6_heaviest_74 : decode cX6_heaviest 74 = .ok (.lstore 7, 2) := by decide +kernel
theorem dX6_heaviest_76 : decode cX6_heaviest 76 = .ok (.iload_n 3, 1) := by decide +kernel
theorem dX6_heaviest_77 : decode cX6_heaviest 77 = .ok (.iconst (-1), 1) := by decide +kernel
theorem dX6_heaviest_78 : decode cX6_heaviest 78 = .ok (.if_icmp .eq 11, 3) := by decide +kernel
theorem dX6_heaviest_81 : decode cX6_heaviest 81 = .ok (.lload 7, 2) := by decide +kernel
theorem dX6_heaviest_83 : decode cX6_heaviest 83 = .ok (.lload 4, 2) := by decide +kernel
theorem dX6_heaviest_85 : decode cX6_heaviest 85 = .ok (.lcmp, 1) := by decide +kernel
theorem dX6_heaviest_86 : decode cX6_heaviest 86 = .ok (.ifCond .ge 10, 3) := by decide +kernel
theorem dX6_heaviest_89 : decode cX6_heaviest 89 = .ok (.iload 6, 2) := by decide +kernel
theorem dX6_heaviest_91 : decode cX6_heaviest 91 = .ok (.istore_n 3, 1) := by decide +kernel
theorem dX6_heaviest_92 : decode cX6_heaviest 92 = .ok (.lload 7, 2) := by decide +kernel
theorem dX6_heaviest_94 : decode cX6_heaviest 94 = .ok (.lstore 4, 2) := by decide +kernel
theorem dX6_heaviest_96 : decode cX6_heaviest 96 = .ok (.iinc 6 1, 3) := by decide +kernel
theorem dX6_heaviest_99 : decode cX6_heaviest 99 = .ok (.goto (-66), 3) := by decide +kernel
theorem dX6_heaviest_102 : decode cX6_heaviest 102 = .ok (.iload_n 2, 1) := by decide +kernel
theorem dX6_heaviest_103 : decode cX6_heaviest 103 = .ok (.ifCond .ne 8, 3) := by decide +kernel
theorem dX6_heaviest_106 : decode cX6_heaviest 106 = .ok (.iload_n 3, 1) := by decide +kernel
theorem dX6_heaviest_107 : decode cX6_heaviest 107 = .ok (.i2l, 1) := by decide +kernel
theorem dX6_heaviest_108 : decode cX6_heaviest 108 = .ok (.goto 5, 3) := by decide +kernel
theorem dX6_heaviest_111 : decode cX6_heaviest 111 = .ok (.lload 4, 2) := by decide +kernel
theorem dX6_heaviest_113 : decode cX6_heaviest 113 = .ok (.lreturn, 1) := by decide +kernel
theorem dX6_cover_0 : decode cX6_cover 0 = .ok (.aload_n 0, 1) := by decide +kernel
theorem dX6_cover_1 : decode cX6_cover 1 = .ok (.iload_n 1, 1) := by decide +kernel
theorem dX6_cover_2 : decode cX6_cover 2 = .ok (.invokestatic 37, 3) := by decide +kernel
theorem dX6_cover_5 : decode cX6_cover 5 = .ok (.ifCond .eq 26, 3) := by decide +kernel
theorem dX6_cover_8 : decode cX6_cover 8 = .ok (.iload_n 2, 1) := by decide +kernel
theorem dX6_cover_9 : decode cX6_cover 9 = .ok (.invokestatic 214, 3) := by decide +kernel
theorem dX6_cover_12 : decode cX6_cover 12 = .ok (.ifCond .eq 19, 3) := by decide +kernel
theorem dX6_cover_15 : decode cX6_cover 15 = .ok (.iload_n 3, 1) := by decide +kernel
theorem dX6_cover_16 : decode cX6_cover 16 = .ok (.invokestatic 214, 3) := by decide +kernel
theorem dX6_cover_19 : decode cX6_cover 19 = .ok (.ifCond .eq 12, 3) := by decide +kernel
theorem dX6_cover_22 : decode cX6_cover 22 = .ok (.iload_n 2, 1) := by decide +kernel
theorem dX6_cover_23 : decode cX6_cover 23 = .ok (.iload_n 3, 1) := by decide +kernel
theorem dX6_cover_24 : decode cX6_cover 24 = .ok (.if_icmp .gt 7, 3) := by decide +kernel
theorem dX6_cover_27 : decode cX6_cover 27 = .ok (.iconst 1, 1) := by decide +kernel
theorem dX6_cover_28 : decode cX6_cover 28 = .ok (.goto 4, 3) := by decide +kernel
theorem dX6_cover_31 : decode cX6_cover 31 = .ok (.iconst 0, 1) := by decide +kernel
theorem dX6_cover_32 : decode cX6_cover 32 = .ok (.invokevirtual 47, 3) := by decide +kernel
theorem dX6_cover_35 : decode cX6_cover 35 = .ok (.aload_n 0, 1) := by decide +kernel
theorem dX6_cover_36 : decode cX6_cover 36 = .ok (.getfield 19, 3) := by decide +kernel
theorem dX6_cover_39 : decode cX6_cover 39 = .ok (.getfield 51, 3) := by decide +kernel
theorem dX6_cover_42 : decode cX6_cover 42 = .ok (.iload_n 1, 1) := by decide +kernel
theorem dX6_cover_43 : decode cX6_cover 43 = .ok (.iload_n 2, 1) := by decide +kernel
theorem dX6_cover_44 : decode cX6_cover 44 = .ok (.iload_n 3, 1) := by decide +kernel
theorem dX6_cover_45 : decode cX6_cover 45 = .ok (.invokevirtual 345, 3) := by decide +kernel
theorem dX6_cover_48 : decode cX6_cover 48 = .ok (.ireturn, 1) := by decide +kernel
theorem dX6_reach_0 : decode cX6_reach 0 = .ok (.aload_n 0, 1) := by decide +kernel
theorem dX6_reach_1 : decode cX6_reach 1 = .ok (.aload_n 0, 1) := by decide +kernel
theorem dX6_reach_2 : decode cX6_reach 2 = .ok (.iload_n 1, 1) := by decide +kernel
theorem dX6_reach_3 : decode cX6_reach 3 = .ok (.invokevirtual 68, 3) := by decide +kernel
theorem dX6_reach_6 : decode cX6_reach 6 = .ok (.invokevirtual 71, 3) := by decide +kernel
theorem dX6_reach_9 : decode cX6_reach 9 = .ok (.aload_n 0, 1) := by decide +kernel
theorem dX6_reach_10 : decode cX6_reach 10 = .ok (.getfield 19, 3) := by decide +kernel
theorem dX6_reach_13 : decode cX6_reach 13 = .ok (.getfield 51, 3) := by decide +kernel
theorem dX6_reach_16 : decode cX6_reach 16 = .ok (.iload_n 1, 1) := by decide +kernel
theorem dX6_reach_17 : decode cX6_reach 17 = .ok (.invokevirtual 179, 3) := by decide +kernel
theorem dX6_reach_20 : decode cX6_reach 20 = .ok (.ifCond .eq 9, 3) := by decide +kernel
theorem dX6_reach_23 : decode cX6_reach 23 = .ok (.ldc2_w 182, 3) := by decide +kernel
theorem dX6_reach_26 : decode cX6_reach 26 = .ok (.goto 13, 3) := by decide +kernel
theorem dX6_reach_29 : decode cX6_reach 29 = .ok (.aload_n 0, 1) := by decide +kernel
theorem dX6_reach_30 : decode cX6_reach 30 = .ok (.getfield 19, 3) := by decide +kernel
theorem dX6_reach_33 : decode cX6_reach 33 = .ok (.iload_n 1, 1) := by decide +kernel
theorem dX6_reach_34 : decode cX6_reach 34 = .ok (.invokevirtual 348, 3) := by decide +kernel
theorem dX6_reach_37 : decode cX6_reach 37 = .ok (.lconst 1, 1) := by decide +kernel
theorem dX6_reach_38 : decode cX6_reach 38 = .ok (.ladd, 1) := by decide +kernel
theorem dX6_reach_39 : decode cX6_reach 39 = .ok (.lreturn, 1) := by decide +kernel
theorem dX6_uneven_0 : decode cX6_uneven 0 = .ok (.aload_n 0, 1) := by decide +kernel
theorem dX6_uneven_1 : decode cX6_uneven 1 = .ok (.aload_n 0, 1) := by decide +kernel
theorem dX6_uneven_2 : decode cX6_uneven 2 = .ok (.iload 5, 2) := by decide +kernel
theorem dX6_uneven_4 : decode cX6_uneven 4 = .ok (.invokevirtual 68, 3) := by decide +kernel
theorem dX6_uneven_7 : decode cX6_uneven 7 = .ok (.invokevirtual 71, 3) := by decide +kernel
theorem dX6_uneven_10 : decode cX6_uneven 10 = .ok (.aload_n 0, 1) := by decide +kernel
theorem dX6_uneven_11 : decode cX6_uneven 11 = .ok (.iload_n 1, 1) := by decide +kernel
theorem dX6_uneven_12 : decode cX6_uneven 12 = .ok (.iload_n 2, 1) := by decide +kernel
theorem dX6_uneven_13 : decode cX6_uneven 13 = .ok (.iload_n 3, 1) := by decide +kernel
theorem dX6_uneven_14 : decode cX6_uneven 14 = .ok (.invokestatic 101, 3) := by decide +kernel
theorem dX6_uneven_17 : decode cX6_uneven 17 = .ok (.ifCond .eq 15, 3) := by decide +kernel
theorem dX6_uneven_20 : decode cX6_uneven 20 = .ok (.iload 4, 2) := by decide +kernel
theorem dX6_uneven_22 : decode cX6_uneven 22 = .ok (.invokestatic 104, 3) := by decide +kernel
theorem dX6_uneven_25 : decode cX6_uneven 25 = .ok (.ifCond .eq 7, 3) := by decide +kernel
theorem dX6_uneven_28 : decode cX6_uneven 28 = .ok (.iconst 1, 1) := by decide +kernel
theorem dX6_uneven_29 : decode cX6_uneven 29 = .ok (.goto 4, 3) := by decide +kernel
theorem dX6_uneven_32 : decode cX6_uneven 32 = .ok (.iconst 0, 1) := by decide +kernel
theorem dX6_uneven_33 : decode cX6_uneven 33 = .ok (.invokevirtual 47, 3) := by decide +kernel
theorem dX6_uneven_36 : decode cX6_uneven 36 = .ok (.aload_n 0, 1) := by decide +kernel
theorem dX6_uneven_37 : decode cX6_uneven 37 = .ok (.getfield 29, 3) := by decide +kernel
theorem dX6_uneven_40 : decode cX6_uneven 40 = .ok (.aload_n 0, 1) := by decide +kernel
theorem dX6_uneven_41 : decode cX6_uneven 41 = .ok (.getfield 19, 3) := by decide +kernel
theorem dX6_uneven_44 : decode cX6_uneven 44 = .ok (.bipush 24, 2) := by decide +kernel
theorem dX6_uneven_46 : decode cX6_uneven 46 = .ok (.aload_n 0, 1) := by decide +kernel
theorem dX6_uneven_47 : decode cX6_uneven 47 = .ok (.iload_n 1, 1) := by decide +kernel
theorem dX6_uneven_48 : decode cX6_uneven 48 = .ok (.iload_n 2, 1) := by decide +kernel
theorem dX6_uneven_49 : decode cX6_uneven 49 = .ok (.iload_n 3, 1) := by decide +kernel
theorem dX6_uneven_50 : decode cX6_uneven 50 = .ok (.invokevirtual 282, 3) := by decide +kernel
theorem dX6_uneven_53 : decode cX6_uneven 53 = .ok (.iload 4, 2) := by decide +kernel
theorem dX6_uneven_55 : decode cX6_uneven 55 = .ok (.i2l, 1) := by decide +kernel
theorem dX6_uneven_56 : decode cX6_uneven 56 = .ok (.iconst 2, 1) := by decide +kernel
theorem dX6_uneven_57 : decode cX6_uneven 57 = .ok (.invokevirtual 286, 3) := by decide +kernel
theorem dX6_uneven_60 : decode cX6_uneven 60 = .ok (.aload_n 0, 1) := by decide +kernel
theorem dX6_uneven_61 : decode cX6_uneven 61 = .ok (.getfield 29, 3) := by decide +kernel
theorem dX6_uneven_64 : decode cX6_uneven 64 = .ok (.getfield 351, 3) := by decide +kernel
theorem dX6_uneven_67 : decode cX6_uneven 67 = .ok (.iload 5, 2) := by decide +kernel
theorem dX6_uneven_69 : decode cX6_uneven 69 = .ok (.laload, 1) := by decide +kernel
theorem dX6_uneven_70 : decode cX6_uneven 70 = .ok (.aload_n 0, 1) := by decide +kernel
theorem dX6_uneven_71 : decode cX6_uneven 71 = .ok (.getfield 29, 3) := by decide +kernel
theorem dX6_uneven_74 : decode cX6_uneven 74 = .ok (.getfield 354, 3) := by decide +kernel
theorem dX6_uneven_77 : decode cX6_uneven 77 = .ok (.iload 5, 2) := by decide +kernel
theorem dX6_uneven_79 : decode cX6_uneven 79 = .ok (.laload, 1) := by decide +kernel
theorem dX6_uneven_80 : decode cX6_uneven 80 = .ok (.lsub, 1) := by decide +kernel
theorem dX6_uneven_81 : decode cX6_uneven 81 = .ok (.lreturn, 1) := by decide +kernel
theorem dX6_widest_0 : decode cX6_widest 0 = .ok (.aload_n 0, 1) := by decide +kernel
theorem dX6_widest_1 : decode cX6_widest 1 = .ok (.iload_n 1, 1) := by decide +kernel
theorem dX6_widest_2 : decode cX6_widest 2 = .ok (.invokestatic 37, 3) := by decide +kernel
theorem dX6_widest_5 : decode cX6_widest 5 = .ok (.ifCond .eq 16, 3) := by decide +kernel
theorem dX6_widest_8 : decode cX6_widest 8 = .ok (.iload_n 2, 1) := by decide +kernel
theorem dX6_widest_9 : decode cX6_widest 9 = .ok (.iconst 0, 1) := by decide +kernel
theorem dX6_widest_10 : decode cX6_widest 10 = .ok (.iconst 1, 1) := by decide +kernel
theorem dX6_widest_11 : decode cX6_widest 11 = .ok (.invokestatic 42, 3) := by decide +kernel
theorem dX6_widest_14 : decode cX6_widest 14 = .ok (.ifCond .eq 7, 3) := by decide +kernel
theorem dX6_widest_17 : decode cX6_widest 17 = .ok (.iconst 1, 1) := by decide +kernel
theorem dX6_widest_18 : decode cX6_widest 18 = .ok (.goto 4, 3) := by decide +kernel
theorem dX6_widest_21 : decode cX6_widest 21 = .ok (.iconst 0, 1) := by decide +kernel
theorem dX6_widest_22 : decode cX6_widest 22 = .ok (.invokevirtual 47, 3) := by decide +kernel
theorem dX6_widest_25 : decode cX6_widest 25 = .ok (.iconst (-1), 1) := by decide +kernel
theorem dX6_widest_26 : decode cX6_widest 26 = .ok (.istore_n 3, 1) := by decide +kernel
theorem dX6_widest_27 : decode cX6_widest 27 = .ok (.iconst 0, 1) := by decide +kernel
theorem dX6_widest_28 : decode cX6_widest 28 = .ok (.istore 4, 2) := by decide +kernel
theorem dX6_widest_30 : decode cX6_widest 30 = .ok (.iconst 0, 1) := by decide +kernel
theorem dX6_widest_31 : decode cX6_widest 31 = .ok (.istore 5, 2) := by decide +kernel
theorem dX6_widest_33 : decode cX6_widest 33 = .ok (.iload 5, 2) := by decide +kernel
theorem dX6_widest_35 : decode cX6_widest 35 = .ok (.aload_n 0, 1) := by decide +kernel
theorem dX6_widest_36 : decode cX6_widest 36 = .ok (.getfield 19, 3) := by decide +kernel
theorem dX6_widest_39 : decode cX6_widest 39 = .ok (.getfield 51, 3) := by decide +kernel
theorem dX6_widest_42 : decode cX6_widest 42 = .ok (.getfield 193, 3) := by decide +kernel
theorem dX6_widest_45 : decode cX6_widest 45 = .ok (.iload_n 1, 1) := by decide +kernel
theorem dX6_widest_46 : decode cX6_widest 46 = .ok (.iaload, 1) := by decide +kernel
theorem dX6_widest_47 : decode cX6_widest 47 = .ok (.if_icmp .ge 49, 3) := by decide +kernel
theorem dX6_widest_50 : decode cX6_widest 50 = .ok (.aload_n 0, 1) := by decide +kernel
theorem dX6_widest_51 : decode cX6_widest 51 = .ok (.getfield 19, 3) := by decide +kernel
theorem dX6_widest_54 : decode cX6_widest 54 = .ok (.getfield 51, 3) := by decide +kernel
theorem dX6_widest_57 : decode cX6_widest 57 = .ok (.iload_n 1, 1) := by decide +kernel
theorem dX6_widest_58 : decode cX6_widest 58 = .ok (.iload 5, 2) := by decide +kernel
theorem dX6_widest_60 : decode cX6_widest 60 = .ok (.invokevirtual 173, 3) := by decide +kernel
theorem dX6_widest_63 : decode cX6_widest 63 = .ok (.istore 6, 2) := by decide +kernel
theorem dX6_widest_65 : decode cX6_widest 65 = .ok (.iload 6, 2) := by decide +kernel
theorem dX6_widest_67 : decode cX6_widest 67 = .ok (.iload 4, 2) := by decide +kernel
theorem dX6_widest_69 : decode cX6_widest 69 = .ok (.if_icmp .le 21, 3) := by decide +kernel
theorem dX6_widest_72 : decode cX6_widest 72 = .ok (.aload_n 0, 1) := by decide +kernel
theorem dX6_widest_73 : decode cX6_widest 73 = .ok (.getfield 19, 3) := by decide +kernel
theorem dX6_widest_76 : decode cX6_widest 76 = .ok (.getfield 51, 3) := by decide +kernel
theorem dX6_widest_79 : decode cX6_widest 79 = .ok (.iload_n 1, 1) := by decide +kernel
theorem dX6_widest_80 : decode cX6_widest 80 = .ok (.iload 5, 2) := by decide +kernel
theorem dX6_widest_82 : decode cX6_widest 82 = .ok (.invokevirtual 199, 3) := by decide +kernel
theorem dX6_widest_85 : decode cX6_widest 85 = .ok (.istore_n 3, 1) := by decide +kernel
theorem dX6_widest_86 : decode cX6_widest 86 = .ok (.iload 6, 2) := by decide +kernel
theorem dX6_widest_88 : decode cX6_widest 88 = .ok (.istore 4, 2) := by decide +kernel
theorem dX6_widest_90 : decode cX6_widest 90 = .ok (.iinc 5 1, 3) := by decide +kernel
theorem dX6_widest_93 : decode cX6_widest 93 = .ok (.goto (-60), 3) := by decide +kernel
theorem dX6_widest_96 : decode cX6_widest 96 = .ok (.iload_n 2, 1) := by decide +kernel
theorem dX6_widest_97 : decode cX6_widest 97 = .ok (.ifCond .ne 7, 3) := by decide +kernel
theorem dX6_widest_100 : decode cX6_widest 100 = .ok (.iload_n 3, 1) := by decide +kernel
theorem dX6_widest_101 : decode cX6_widest 101 = .ok (.goto 5, 3) := by decide +kernel
theorem dX6_widest_104 : decode cX6_widest 104 = .ok (.iload 4, 2) := by decide +kernel
theorem dX6_widest_106 : decode cX6_widest 106 = .ok (.ireturn, 1) := by decide +kernel
theorem dX6_strongest_0 : decode cX6_strongest 0 = .ok (.aload_n 0, 1) := by decide +kernel
theorem dX6_strongest_1 : decode cX6_strongest 1 = .ok (.iload_n 1, 1) := by decide +kernel
theorem dX6_strongest_2 : decode cX6_strongest 2 = .ok (.iconst 0, 1) := by decide +kernel
theorem dX6_strongest_3 : decode cX6_strongest 3 = .ok (.iconst 1, 1) := by decide +kernel
theorem dX6_strongest_4 : decode cX6_strongest 4 = .ok (.invokestatic 42, 3) := by decide +kernel
theorem dX6_strongest_7 : decode cX6_strongest 7 = .ok (.invokevirtual 47, 3) := by decide +kernel
theorem dX6_strongest_10 : decode cX6_strongest 10 = .ok (.iconst (-1), 1) := by decide +kernel
theorem dX6_strongest_11 : decode cX6_strongest 11 = .ok (.istore_n 2, 1) := by decide +kernel
theorem dX6_strongest_12 : decode cX6_strongest 12 = .ok (.lconst 0, 1) := by decide +kernel
theorem dX6_strongest_13 : decode cX6_strongest 13 = .ok (.lstore_n 3, 1) := by decide +kernel
theorem dX6_strongest_14 : decode cX6_strongest 14 = .ok (.iconst 0, 1) := by decide +kernel
theorem dX6_strongest_15 : decode cX6_strongest 15 = .ok (.istore 5, 2) := by decide +kernel
theorem dX6_strongest_17 : decode cX6_strongest 17 = .ok (.iload 5, 2) := by decide +kernel
theorem dX6_strongest_19 : decode cX6_strongest 19 = .ok (.bipush 12, 2) := by decide +kernel
theorem dX6_strongest_21 : decode cX6_strongest 21 = .ok (.if_icmp .ge 36, 3) := by decide +kernel
theorem dX6_strongest_24 : decode cX6_strongest 24 = .ok (.aload_n 0, 1) := by decide +kernel
theorem dX6_strongest_25 : decode cX6_strongest 25 = .ok (.getfield 19, 3) := by decide +kernel
theorem dX6_strongest_28 : decode cX6_strongest 28 = .ok (.getfield 51, 3) := by decide +kernel
theorem dX6_strongest_31 : decode cX6_strongest 31 = .ok (.iload 5, 2) := by decide +kernel
theorem dX6_strongest_33 : decode cX6_strongest 33 = .ok (.invokevirtual 211, 3) := by decide +kernel
theorem dX6_strongest_36 : decode cX6_strongest 36 = .ok (.lstore 6, 2) := by decide +kernel
theorem dX6_strongest_38 : decode cX6_strongest 38 = .ok (.lload 6, 2) := by decide +kernel
theorem dX6_strongest_40 : decode cX6_strongest 40 = .ok (.lload_n 3, 1) := by decide +kernel
theorem dX6_strongest_41 : decode cX6_strongest 41 = .ok (.lcmp, 1) := by decide +kernel
theorem dX6_strongest_42 : decode cX6_strongest 42 = .ok (.ifCond .le 9, 3) := by decide +kernel
theorem dX6_strongest_45 : decode cX6_strongest 45 = .ok (.iload 5, 2) := by decide +kernel
theorem dX6_strongest_47 : decode cX6_strongest 47 = .ok (.istore_n 2, 1) := by decide +kernel
theorem dX6_strongest_48 : decode cX6_strongest 48 = .ok (.lload 6, 2) := by decide +kernel
theorem dX6_strongest_50 : decode cX6_strongest 50 = .ok (.lstore_n 3, 1) := by decide +kernel
theorem dX6_strongest_51 : decode cX6_strongest 51 = .ok (.iinc 5 1, 3) := by decide +kernel
theorem dX6_strongest_54 : decode cX6_strongest 54 = .ok (.goto (-37), 3) := by decide +kernel
theorem dX6_strongest_57 : decode cX6_strongest 57 = .ok (.iload_n 1, 1) := by decide +kernel
theorem dX6_strongest_58 : decode cX6_strongest 58 = .ok (.ifCond .ne 8, 3) := by decide +kernel
theorem dX6_strongest_61 : decode cX6_strongest 61 = .ok (.iload_n 2, 1) := by decide +kernel
theorem dX6_strongest_62 : decode cX6_strongest 62 = .ok (.i2l, 1) := by decide +kernel
theorem dX6_strongest_63 : decode cX6_strongest 63 = .ok (.goto 4, 3) := by decide +kernel
theorem dX6_strongest_66 : decode cX6_strongest 66 = .ok (.lload_n 3, 1) := by decide +kernel
theorem dX6_strongest_67 : decode cX6_strongest 67 = .ok (.lreturn, 1) := by decide +kernel
theorem dX6_holds_0 : decode cX6_holds 0 = .ok (.aload_n 0, 1) := by decide +kernel
theorem dX6_holds_1 : decode cX6_holds 1 = .ok (.iload_n 1, 1) := by decide +kernel
theorem dX6_holds_2 : decode cX6_holds 2 = .ok (.invokestatic 74, 3) := by decide +kernel
theorem dX6_holds_5 : decode cX6_holds 5 = .ok (.ifCond .eq 21, 3) := by decide +kernel
theorem dX6_holds_8 : decode cX6_holds 8 = .ok (.iload_n 2, 1) := by decide +kernel
theorem dX6_holds_9 : decode cX6_holds 9 = .ok (.invokestatic 37, 3) := by decide +kernel
theorem dX6_holds_12 : decode cX6_holds 12 = .ok (.ifCond .eq 14, 3) := by decide +kernel
theorem dX6_holds_15 : decode cX6_holds 15 = .ok (.iload_n 3, 1) := by decide +kernel
theorem dX6_holds_16 : decode cX6_holds 16 = .ok (.invokestatic 214, 3) := by decide +kernel
theorem dX6_holds_19 : decode cX6_holds 19 = .ok (.ifCond .eq 7, 3) := by decide +kernel
theorem dX6_holds_22 : decode cX6_holds 22 = .ok (.iconst 1, 1) := by decide +kernel
theorem dX6_holds_23 : decode cX6_holds 23 = .ok (.goto 4, 3) := by decide +kernel
theorem dX6_holds_26 : decode cX6_holds 26 = .ok (.iconst 0, 1) := by decide +kernel
theorem dX6_holds_27 : decode cX6_holds 27 = .ok (.invokevirtual 47, 3) := by decide +kernel
theorem dX6_holds_30 : decode cX6_holds 30 = .ok (.aload_n 0, 1) := by decide +kernel
theorem dX6_holds_31 : decode cX6_holds 31 = .ok (.getfield 19, 3) := by decide +kernel
theorem dX6_holds_34 : decode cX6_holds 34 = .ok (.getfield 51, 3) := by decide +kernel
theorem dX6_holds_37 : decode cX6_holds 37 = .ok (.iload_n 2, 1) := by decide +kernel
theorem dX6_holds_38 : decode cX6_holds 38 = .ok (.iload_n 3, 1) := by decide +kernel
theorem dX6_holds_39 : decode cX6_holds 39 = .ok (.invokevirtual 217, 3) := by decide +kernel
theorem dX6_holds_42 : decode cX6_holds 42 = .ok (.istore 4, 2) := by decide +kernel
theorem dX6_holds_44 : decode cX6_holds 44 = .ok (.iload 4, 2) := by decide +kernel
theorem dX6_holds_46 : decode cX6_holds 46 = .ok (.ifCond .lt 19, 3) := by decide +kernel
theorem dX6_holds_49 : decode cX6_holds 49 = .ok (.aload_n 0, 1) := by decide +kernel
theorem dX6_holds_50 : decode cX6_holds 50 = .ok (.getfield 19, 3) := by decide +kernel
theorem dX6_holds_53 : decode cX6_holds 53 = .ok (.getfield 51, 3) := by decide +kernel
theorem dX6_holds_56 : decode cX6_holds 56 = .ok (.iload 4, 2) := by decide +kernel
theorem dX6_holds_58 : decode cX6_holds 58 = .ok (.iload_n 1, 1) := by decide +kernel
theorem dX6_holds_59 : decode cX6_holds 59 = .ok (.invokevirtual 357, 3) := by decide +kernel
theorem dX6_holds_62 : decode cX6_holds 62 = .ok (.goto 4, 3) := by decide +kernel
theorem dX6_holds_65 : decode cX6_holds 65 = .ok (.iconst 0, 1) := by decide +kernel
theorem dX6_holds_66 : decode cX6_holds 66 = .ok (.ireturn, 1) := by decide +kernel
theorem dX6_spent_0 : decode cX6_spent 0 = .ok (.lconst 0, 1) := by decide +kernel
theorem dX6_spent_1 : decode cX6_spent 1 = .ok (.lstore_n 1, 1) := by decide +kernel
theorem dX6_spent_2 : decode cX6_spent 2 = .ok (.iconst 0, 1) := by decide +kernel
theorem dX6_spent_3 : decode cX6_spent 3 = .ok (.istore_n 3, 1) := by decide +kernel
theorem dX6_spent_4 : decode cX6_spent 4 = .ok (.iload_n 3, 1) := by decide +kernel
theorem dX6_spent_5 : decode cX6_spent 5 = .ok (.aload_n 0, 1) := by decide +kernel
theorem dX6_spent_6 : decode cX6_spent 6 = .ok (.getfield 19, 3) := by decide +kernel
theorem dX6_spent_9 : decode cX6_spent 9 = .ok (.getfield 51, 3) := by decide +kernel
theorem dX6_spent_12 : decode cX6_spent 12 = .ok (.getfield 55, 3) := by decide +kernel
theorem dX6_spent_15 : decode cX6_spent 15 = .ok (.if_icmp .ge 29, 3) := by decide +kernel
theorem dX6_spent_18 : decode cX6_spent 18 = .ok (.aload_n 0, 1) := by decide +kernel
theorem dX6_spent_19 : decode cX6_spent 19 = .ok (.getfield 19, 3) := by decide +kernel
theorem dX6_spent_22 : decode cX6_spent 22 = .ok (.getfield 51, 3) := by decide +kernel
theorem dX6_spent_25 : decode cX6_spent 25 = .ok (.iload_n 3, 1) := by decide +kernel
theorem dX6_spent_26 : decode cX6_spent 26 = .ok (.invokevirtual 179, 3) := by decide +kernel
theorem dX6_spent_29 : decode cX6_spent 29 = .ok (.ifCond .eq 9, 3) := by decide +kernel
theorem dX6_spent_32 : decode cX6_spent 32 = .ok (.lload_n 1, 1) := by decide +kernel
theorem dX6_spent_33 : decode cX6_spent 33 = .ok (.lconst 1, 1) := by decide +kernel
theorem dX6_spent_34 : decode cX6_spent 34 = .ok (.iload_n 3, 1) := by decide +kernel
theorem dX6_spent_35 : decode cX6_spent 35 = .ok (.lshl, 1) := by decide +kernel
theorem dX6_spent_36 : decode cX6_spent 36 = .ok (.lor, 1) := by decide +kernel
theorem dX6_spent_37 : decode cX6_spent 37 = .ok (.lstore_n 1, 1) := by decide +kernel
theorem dX6_spent_38 : decode cX6_spent 38 = .ok (.iinc 3 1, 3) := by decide +kernel
theorem dX6_spent_41 : decode cX6_spent 41 = .ok (.goto (-37), 3) := by decide +kernel
theorem dX6_spent_44 : decode cX6_spent 44 = .ok (.lload_n 1, 1) := by decide +kernel
theorem dX6_spent_45 : decode cX6_spent 45 = .ok (.lreturn, 1) := by decide +kernel
theorem dX6_status_0 : decode cX6_status 0 = .ok (.iload_n 1, 1) := by decide +kernel
theorem dX6_status_1 : decode cX6_status 1 = .ok (.iconst 0, 1) := by decide +kernel
theorem dX6_status_2 : decode cX6_status 2 = .ok (.iconst 2, 1) := by decide +kernel
theorem dX6_status_3 : decode cX6_status 3 = .ok (.invokestatic 42, 3) := by decide +kernel
theorem dX6_status_6 : decode cX6_status 6 = .ok (.ifCond .eq 12, 3) := by decide +kernel
theorem dX6_status_9 : decode cX6_status 9 = .ok (.aload_n 0, 1) := by decide +kernel
theorem dX6_status_10 : decode cX6_status 10 = .ok (.getfield 33, 3) := by decide +kernel
theorem dX6_status_13 : decode cX6_status 13 = .ok (.iload_n 1, 1) := by decide +kernel
theorem dX6_status_14 : decode cX6_status 14 = .ok (.iaload, 1) := by decide +kernel
theorem dX6_status_15 : decode cX6_status 15 = .ok (.goto 4, 3) := by decide +kernel
theorem dX6_status_18 : decode cX6_status 18 = .ok (.iconst (-1), 1) := by decide +kernel
theorem dX6_status_19 : decode cX6_status 19 = .ok (.ireturn, 1) := by decide +kernel
theorem dX6_needThere_0 : decode cX6_needThere 0 = .ok (.iload_n 1, 1) := by decide +kernel
theorem dX6_needThere_1 : decode cX6_needThere 1 = .ok (.ifCond .ne 24, 3) := by decide +kernel
theorem dX6_needThere_4 : decode cX6_needThere 4 = .ok (.aload_n 0, 1) := by decide +kernel
theorem dX6_needThere_5 : decode cX6_needThere 5 = .ok (.getfield 33, 3) := by decide +kernel
theorem dX6_needThere_8 : decode cX6_needThere 8 = .ok (.iconst 0, 1) := by decide +kernel
theorem dX6_needThere_9 : decode cX6_needThere 9 = .ok (.dup2, 1) := by decide +kernel
theorem dX6_needThere_10 : decode cX6_needThere 10 = .ok (.iaload, 1) := by decide +kernel
theorem dX6_needThere_11 : decode cX6_needThere 11 = .ok (.iconst 1, 1) := by decide +kernel
theorem dX6_needThere_12 : decode cX6_needThere 12 = .ok (.iadd, 1) := by decide +kernel
theorem dX6_needThere_13 : decode cX6_needThere 13 = .ok (.iastore, 1) := by decide +kernel
theorem dX6_needThere_14 : decode cX6_needThere 14 = .ok (.new 360, 3) := by decide +kernel
theorem dX6_needThere_17 : decode cX6_needThere 17 = .ok (.dup, 1) := by decide +kernel
theorem dX6_needThere_18 : decode cX6_needThere 18 = .ok (.ldc_w 362, 3) := by decide +kernel
theorem dX6_needThere_21 : decode cX6_needThere 21 = .ok (.invokespecial 364, 3) := by decide +kernel
theorem dX6_needThere_24 : decode cX6_needThere 24 = .ok (.athrow, 1) := by decide +kernel
theorem dX6_needThere_25 : decode cX6_needThere 25 = .ok (.return_, 1) := by decide +kernel
theorem dX6_needRight_0 : decode cX6_needRight 0 = .ok (.iload_n 1, 1) := by decide +kernel
theorem dX6_needRight_1 : decode cX6_needRight 1 = .ok (.ifCond .ne 24, 3) := by decide +kernel
theorem dX6_needRight_4 : decode cX6_needRight 4 = .ok (.aload_n 0, 1) := by decide +kernel
theorem dX6_needRight_5 : decode cX6_needRight 5 = .ok (.getfield 33, 3) := by decide +kernel
theorem dX6_needRight_8 : decode cX6_needRight 8 = .ok (.iconst 1, 1) := by decide +kernel
theorem dX6_needRight_9 : decode cX6_needRight 9 = .ok (.dup2, 1) := by decide +kernel
theorem dX6_needRight_10 : decode cX6_needRight 10 = .ok (.iaload, 1) := by decide +kernel
theorem dX6_needRight_11 : decode cX6_needRight 11 = .ok (.iconst 1, 1) := by decide +kernel
theorem dX6_needRight_12 : decode cX6_needRight 12 = .ok (.iadd, 1) := by decide +kernel
theorem dX6_needRight_13 : decode cX6_needRight 13 = .ok (.iastore, 1) := by decide +kernel
theorem dX6_needRight_14 : decode cX6_needRight 14 = .ok (.new 367, 3) := by decide +kernel
theorem dX6_needRight_17 : decode cX6_needRight 17 = .ok (.dup, 1) := by decide +kernel
theorem dX6_needRight_18 : decode cX6_needRight 18 = .ok (.ldc_w 369, 3) := by decide +kernel
theorem dX6_needRight_21 : decode cX6_needRight 21 = .ok (.invokespecial 371, 3) := by decide +kernel
theorem dX6_needRight_24 : decode cX6_needRight 24 = .ok (.athrow, 1) := by decide +kernel
theorem dX6_needRight_25 : decode cX6_needRight 25 = .ok (.return_, 1) := by decide +kernel
theorem dX6_enter_0 : decode cX6_enter 0 = .ok (.aload_n 0, 1) := by decide +kernel
theorem dX6_enter_1 : decode cX6_enter 1 = .ok (.getfield 12, 3) := by decide +kernel
theorem dX6_enter_4 : decode cX6_enter 4 = .ok (.getfield 128, 3) := by decide +kernel
theorem dX6_enter_7 : decode cX6_enter 7 = .ok (.sipush 160, 3) := by decide +kernel
theorem dX6_enter_10 : decode cX6_enter 10 = .ok (.if_icmp .ge 28, 3) := by decide +kernel
theorem dX6_enter_13 : decode cX6_enter 13 = .ok (.aload_n 0, 1) := by decide +kernel
theorem dX6_enter_14 : decode cX6_enter 14 = .ok (.getfield 19, 3) := by decide +kernel
theorem dX6_enter_17 : decode cX6_enter 17 = .ok (.aload_n 0, 1) := by decide +kernel
theorem dX6_enter_18 : decode cX6_enter 18 = .ok (.getfield 12, 3) := by decide +kernel
theorem dX6_enter_21 : decode cX6_enter 21 = .ok (.aload_n 0, 1) := by decide +kernel
theorem dX6_enter_22 : decode cX6_enter 22 = .ok (.getfield 12, 3) := by decide +kernel
theorem dX6_enter_25 : decode cX6_enter 25 = .ok (.getfield 128, 3) := by decide +kernel
theorem dX6_enter_28 : decode cX6_enter 28 = .ok (.aload_n 0, 1) := by decide +kernel
theorem dX6_enter_29 : decode cX6_enter 29 = .ok (.getfield 29, 3) := by decide +kernel
theorem dX6_enter_32 : decode cX6_enter 32 = .ok (.invokevirtual 132, 3) := by decide +kernel
theorem dX6_enter_35 : decode cX6_enter 35 = .ok (.ifCond .ne 24, 3) := by decide +kernel
theorem dX6_enter_38 : decode cX6_enter 38 = .ok (.aload_n 0, 1) := by decide +kernel
theorem dX6_enter_39 : decode cX6_enter 39 = .ok (.getfield 33, 3) := by decide +kernel
theorem dX6_enter_42 : decode cX6_enter 42 = .ok (.iconst 2, 1) := by decide +kernel
theorem dX6_enter_43 : decode cX6_enter 43 = .ok (.dup2, 1) := by decide +kernel
theorem dX6_enter_44 : decode cX6_enter 44 = .ok (.iaload, 1) := by decide +kernel
theorem dX6_enter_45 : decode cX6_enter 45 = .ok (.iconst 1, 1) := by decide +kernel
theorem dX6_enter_46 : decode cX6_enter 46 = .ok (.iadd, 1) := by decide +kernel
theorem dX6_enter_47 : decode cX6_enter 47 = .ok (.iastore, 1) := by decide +kernel
theorem dX6_enter_48 : decode cX6_enter 48 = .ok (.new 372, 3) := by decide +kernel
theorem dX6_enter_51 : decode cX6_enter 51 = .ok (.dup, 1) := by decide +kernel
theorem dX6_enter_52 : decode cX6_enter 52 = .ok (.ldc_w 374, 3) := by decide +kernel
theorem dX6_enter_55 : decode cX6_enter 55 = .ok (.invokespecial 376, 3) := by decide +kernel
theorem dX6_enter_58 : decode cX6_enter 58 = .ok (.athrow, 1) := by decide +kernel
theorem dX6_enter_59 : decode cX6_enter 59 = .ok (.aload_n 0, 1) := by decide +kernel
theorem dX6_enter_60 : decode cX6_enter 60 = .ok (.getfield 12, 3) := by decide +kernel
theorem dX6_enter_63 : decode cX6_enter 63 = .ok (.dup, 1) := by decide +kernel
theorem dX6_enter_64 : decode cX6_enter 64 = .ok (.getfield 128, 3) := by decide +kernel
theorem dX6_enter_67 : decode cX6_enter 67 = .ok (.iconst 1, 1) := by decide +kernel
theorem dX6_enter_68 : decode cX6_enter 68 = .ok (.iadd, 1) := by decide +kernel
theorem dX6_enter_69 : decode cX6_enter 69 = .ok (.putfield 128, 3) := by decide +kernel
theorem dX6_enter_72 : decode cX6_enter 72 = .ok (.return_, 1) := by decide +kernel
theorem dX6_isLayer_0 : decode cX6_isLayer 0 = .ok (.iload_n 1, 1) := by decide +kernel
theorem dX6_isLayer_1 : decode cX6_isLayer 1 = .ok (.ifCond .lt 21, 3) := by decide +kernel
theorem dX6_isLayer_4 : decode cX6_isLayer 4 = .ok (.iload_n 1, 1) := by decide +kernel
theorem dX6_isLayer_5 : decode cX6_isLayer 5 = .ok (.aload_n 0, 1) := by decide +kernel
theorem dX6_isLayer_6 : decode cX6_isLayer 6 = .ok (.getfield 19, 3) := by decide +kernel
theorem dX6_isLayer_9 : decode cX6_isLayer 9 = .ok (.getfield 51, 3) := by decide +kernel
theorem dX6_isLayer_12 : decode cX6_isLayer 12 = .ok (.getfield 55, 3) := by decide +kernel
theorem dX6_isLayer_15 : decode cX6_isLayer 15 = .ok (.if_icmp .ge 7, 3) := by decide +kernel
theorem dX6_isLayer_18 : decode cX6_isLayer 18 = .ok (.iconst 1, 1) := by decide +kernel
theorem dX6_isLayer_19 : decode cX6_isLayer 19 = .ok (.goto 4, 3) := by decide +kernel
theorem dX6_isLayer_22 : decode cX6_isLayer 22 = .ok (.iconst 0, 1) := by decide +kernel
theorem dX6_isLayer_23 : decode cX6_isLayer 23 = .ok (.ireturn, 1) := by decide +kernel
theorem dX6_isHarm_0 : decode cX6_isHarm 0 = .ok (.iload_n 1, 1) := by decide +kernel
theorem dX6_isHarm_1 : decode cX6_isHarm 1 = .ok (.ifCond .lt 21, 3) := by decide +kernel
theorem dX6_isHarm_4 : decode cX6_isHarm 4 = .ok (.iload_n 1, 1) := by decide +kernel
theorem dX6_isHarm_5 : decode cX6_isHarm 5 = .ok (.aload_n 0, 1) := by decide +kernel
theorem dX6_isHarm_6 : decode cX6_isHarm 6 = .ok (.getfield 19, 3) := by decide +kernel
theorem dX6_isHarm_9 : decode cX6_isHarm 9 = .ok (.getfield 107, 3) := by decide +kernel
theorem dX6_isHarm_12 : decode cX6_isHarm 12 = .ok (.getfield 111, 3) := by decide +kernel
theorem dX6_isHarm_15 : decode cX6_isHarm 15 = .ok (.if_icmp .ge 7, 3) := by decide +kernel
theorem dX6_isHarm_18 : decode cX6_isHarm 18 = .ok (.iconst 1, 1) := by decide +kernel
theorem dX6_isHarm_19 : decode cX6_isHarm 19 = .ok (.goto 4, 3) := by decide +kernel
theorem dX6_isHarm_22 : decode cX6_isHarm 22 = .ok (.iconst 0, 1) := by decide +kernel
theorem dX6_isHarm_23 : decode cX6_isHarm 23 = .ok (.ireturn, 1) := by decide +kernel
theorem dX6_isEvent_0 : decode cX6_isEvent 0 = .ok (.iload_n 1, 1) := by decide +kernel
theorem dX6_isEvent_1 : decode cX6_isEvent 1 = .ok (.ifCond .lt 18, 3) := by decide +kernel
theorem dX6_isEvent_4 : decode cX6_isEvent 4 = .ok (.iload_n 1, 1) := by decide +kernel
theorem dX6_isEvent_5 : decode cX6_isEvent 5 = .ok (.aload_n 0, 1) := by decide +kernel
theorem dX6_isEvent_6 : decode cX6_isEvent 6 = .ok (.getfield 12, 3) := by decide +kernel
theorem dX6_isEvent_9 : decode cX6_isEvent 9 = .ok (.getfield 128, 3) := by decide +kernel
theorem dX6_isEvent_12 : decode cX6_isEvent 12 = .ok (.if_icmp .ge 7, 3) := by decide +kernel
theorem dX6_isEvent_15 : decode cX6_isEvent 15 = .ok (.iconst 1, 1) := by decide +kernel
theorem dX6_isEvent_16 : decode cX6_isEvent 16 = .ok (.goto 4, 3) := by decide +kernel
theorem dX6_isEvent_19 : decode cX6_isEvent 19 = .ok (.iconst 0, 1) := by decide +kernel
theorem dX6_isEvent_20 : decode cX6_isEvent 20 = .ok (.ireturn, 1) := by decide +kernel
theorem dX6_isWithin_0 : decode cX6_isWithin 0 = .ok (.iload_n 0, 1) := by decide +kernel
theorem dX6_isWithin_1 : decode cX6_isWithin 1 = .ok (.iload_n 1, 1) := by decide +kernel
theorem dX6_isWithin_2 : decode cX6_isWithin 2 = .ok (.if_icmp .lt 12, 3) := by decide +kernel
theorem dX6_isWithin_5 : decode cX6_isWithin 5 = .ok (.iload_n 0, 1) := by decide +kernel
theorem dX6_isWithin_6 : decode cX6_isWithin 6 = .ok (.iload_n 2, 1) := by decide +kernel
theorem dX6_isWithin_7 : decode cX6_isWithin 7 = .ok (.if_icmp .gt 7, 3) := by decide +kernel
theorem dX6_isWithin_10 : decode cX6_isWithin 10 = .ok (.iconst 1, 1) := by decide +kernel
theorem dX6_isWithin_11 : decode cX6_isWithin 11 = .ok (.goto 4, 3) := by decide +kernel
theorem dX6_isWithin_14 : decode cX6_isWithin 14 = .ok (.iconst 0, 1) := by decide +kernel
theorem dX6_isWithin_15 : decode cX6_isWithin 15 = .ok (.ireturn, 1) := by decide +kernel
theorem dX6_isYear_0 : decode cX6_isYear 0 = .ok (.iload_n 0, 1) := by decide +kernel
theorem dX6_isYear_1 : decode cX6_isYear 1 = .ok (.iconst 0, 1) := by decide +kernel
theorem dX6_isYear_2 : decode cX6_isYear 2 = .ok (.bipush 11, 2) := by decide +kernel
theorem dX6_isYear_4 : decode cX6_isYear 4 = .ok (.invokestatic 42, 3) := by decide +kernel
theorem dX6_isYear_7 : decode cX6_isYear 7 = .ok (.ireturn, 1) := by decide +kernel
theorem dX6_isHeight_0 : decode cX6_isHeight 0 = .ok (.iload_n 0, 1) := by decide +kernel
theorem dX6_isHeight_1 : decode cX6_isHeight 1 = .ok (.iconst 0, 1) := by decide +kernel
theorem dX6_isHeight_2 : decode cX6_isHeight 2 = .ok (.ldc 124, 2) := by decide +kernel
theorem dX6_isHeight_4 : decode cX6_isHeight 4 = .ok (.invokestatic 42, 3) := by decide +kernel
theorem dX6_isHeight_7 : decode cX6_isHeight 7 = .ok (.ireturn, 1) := by decide +kernel
theorem dX6_isAmount_0 : decode cX6_isAmount 0 = .ok (.iload_n 0, 1) := by decide +kernel
theorem dX6_isAmount_1 : decode cX6_isAmount 1 = .ok (.iconst 1, 1) := by decide +kernel
theorem dX6_isAmount_2 : decode cX6_isAmount 2 = .ok (.ldc 124, 2) := by decide +kernel
theorem dX6_isAmount_4 : decode cX6_isAmount 4 = .ok (.invokestatic 42, 3) := by decide +kernel
theorem dX6_isAmount_7 : decode cX6_isAmount 7 = .ok (.ireturn, 1) := by decide +kernel
theorem dX6_isInsurer_0 : decode cX6_isInsurer 0 = .ok (.iload_n 0, 1) := by decide +kernel
theorem dX6_isInsurer_1 : decode cX6_isInsurer 1 = .ok (.iconst 0, 1) := by decide +kernel
theorem dX6_isInsurer_2 : decode cX6_isInsurer 2 = .ok (.bipush 9, 2) := by decide +kernel
theorem dX6_isInsurer_4 : decode cX6_isInsurer 4 = .ok (.invokestatic 42, 3) := by decide +kernel
theorem dX6_isInsurer_7 : decode cX6_isInsurer 7 = .ok (.ireturn, 1) := by decide +kernel
theorem dX6_isOutsider_0 : decode cX6_isOutsider 0 = .ok (.iload_n 0, 1) := by decide +kernel
theorem dX6_isOutsider_1 : decode cX6_isOutsider 1 = .ok (.iconst 1, 1) := by decide +kernel
theorem dX6_isOutsider_2 : decode cX6_isOutsider 2 = .ok (.bipush 9, 2) := by decide +kernel
theorem dX6_isOutsider_4 : decode cX6_isOutsider 4 = .ok (.invokestatic 42, 3) := by decide +kernel
theorem dX6_isOutsider_7 : decode cX6_isOutsider 7 = .ok (.ireturn, 1) := by decide +kernel
theorem dX6_isReason_0 : decode cX6_isReason 0 = .ok (.iload_n 0, 1) := by decide +kernel
theorem dX6_isReason_1 : decode cX6_isReason 1 = .ok (.iconst 0, 1) := by decide +kernel
theorem dX6_isReason_2 : decode cX6_isReason 2 = .ok (.bipush 6, 2) := by decide +kernel
theorem dX6_isReason_4 : decode cX6_isReason 4 = .ok (.invokestatic 42, 3) := by decide +kernel
theorem dX6_isReason_7 : decode cX6_isReason 7 = .ok (.ireturn, 1) := by decide +kernel
theorem dX6_isRule_0 : decode cX6_isRule 0 = .ok (.iload_n 0, 1) := by decide +kernel
theorem dX6_isRule_1 : decode cX6_isRule 1 = .ok (.iconst 0, 1) := by decide +kernel
theorem dX6_isRule_2 : decode cX6_isRule 2 = .ok (.iconst 3, 1) := by decide +kernel
theorem dX6_isRule_3 : decode cX6_isRule 3 = .ok (.invokestatic 42, 3) := by decide +kernel
theorem dX6_isRule_6 : decode cX6_isRule 6 = .ok (.ireturn, 1) := by decide +kernel
theorem dX6_areRules_0 : decode cX6_areRules 0 = .ok (.iload_n 0, 1) := by decide +kernel
theorem dX6_areRules_1 : decode cX6_areRules 1 = .ok (.invokestatic 275, 3) := by decide +kernel
theorem dX6_areRules_4 : decode cX6_areRules 4 = .ok (.ifCond .eq 21, 3) := by decide +kernel
theorem dX6_areRules_7 : decode cX6_areRules 7 = .ok (.iload_n 1, 1) := by decide +kernel
theorem dX6_areRules_8 : decode cX6_areRules 8 = .ok (.invokestatic 275, 3) := by decide +kernel
theorem dX6_areRules_11 : decode cX6_areRules 11 = .ok (.ifCond .eq 14, 3) := by decide +kernel
theorem dX6_areRules_14 : decode cX6_areRules 14 = .ok (.iload_n 2, 1) := by decide +kernel
theorem dX6_areRules_15 : decode cX6_areRules 15 = .ok (.invokestatic 275, 3) := by decide +kernel
theorem dX6_areRules_18 : decode cX6_areRules 18 = .ok (.ifCond .eq 7, 3) := by decide +kernel
theorem dX6_areRules_21 : decode cX6_areRules 21 = .ok (.iconst 1, 1) := by decide +kernel
theorem dX6_areRules_22 : decode cX6_areRules 22 = .ok (.goto 4, 3) := by decide +kernel
theorem dX6_areRules_25 : decode cX6_areRules 25 = .ok (.iconst 0, 1) := by decide +kernel
theorem dX6_areRules_26 : decode cX6_areRules 26 = .ok (.ireturn, 1) := by decide +kernel
theorem dX6_areHarmYears_0 : decode cX6_areHarmYears 0 = .ok (.iload_n 0, 1) := by decide +kernel
theorem dX6_areHarmYears_1 : decode cX6_areHarmYears 1 = .ok (.ifCond .lt 23, 3) := by decide +kernel
theorem dX6_areHarmYears_4 : decode cX6_areHarmYears 4 = .ok (.iload_n 0, 1) := by decide +kernel
theorem dX6_areHarmYears_5 : decode cX6_areHarmYears 5 = .ok (.iload_n 1, 1) := by decide +kernel
theorem dX6_areHarmYears_6 : decode cX6_areHarmYears 6 = .ok (.if_icmp .gt 18, 3) := by decide +kernel
theorem dX6_areHarmYears_9 : decode cX6_areHarmYears 9 = .ok (.iload_n 1, 1) := by decide +kernel
theorem dX6_areHarmYears_10 : decode cX6_areHarmYears 10 = .ok (.iload_n 2, 1) := by decide +kernel
theorem dX6_areHarmYears_11 : decode cX6_areHarmYears 11 = .ok (.if_icmp .gt 13, 3) := by decide +kernel
theorem dX6_areHarmYears_14 : decode cX6_areHarmYears 14 = .ok (.iload_n 2, 1) := by decide +kernel
theorem dX6_areHarmYears_15 : decode cX6_areHarmYears 15 = .ok (.bipush 12, 2) := by decide +kernel
theorem dX6_areHarmYears_17 : decode cX6_areHarmYears 17 = .ok (.if_icmp .ge 7, 3) := by decide +kernel
theorem dX6_areHarmYears_20 : decode cX6_areHarmYears 20 = .ok (.iconst 1, 1) := by decide +kernel
theorem dX6_areHarmYears_21 : decode cX6_areHarmYears 21 = .ok (.goto 4, 3) := by decide +kernel
theorem dX6_areHarmYears_24 : decode cX6_areHarmYears 24 = .ok (.iconst 0, 1) := by decide +kernel
theorem dX6_areHarmYears_25 : decode cX6_areHarmYears 25 = .ok (.ireturn, 1) := by decide +kernel
theorem dX6_goOverWithout_0 : decode cX6_goOverWithout 0 = .ok (.iconst 0, 1) := by decide +kernel
theorem dX6_goOverWithout_1 : decode cX6_goOverWithout 1 = .ok (.istore_n 2, 1) := by decide +kernel
theorem dX6_goOverWithout_2 : decode cX6_goOverWithout 2 = .ok (.aload_n 0, 1) := by decide +kernel
theorem dX6_goOverWithout_3 : decode cX6_goOverWithout 3 = .ok (.getfield 23, 3) := by decide +kernel
theorem dX6_goOverWithout_6 : decode cX6_goOverWithout 6 = .ok (.invokevirtual 129, 3) := by decide +kernel
theorem dX6_goOverWithout_9 : decode cX6_goOverWithout 9 = .ok (.iconst 0, 1) := by decide +kernel
theorem dX6_goOverWithout_10 : decode cX6_goOverWithout 10 = .ok (.istore_n 3, 1) := by decide +kernel
theorem dX6_goOverWithout_11 : decode cX6_goOverWithout 11 = .ok (.iload_n 3, 1) := by decide +kernel
theorem dX6_goOverWithout_12 : decode cX6_goOverWithout 12 = .ok (.aload_n 0, 1) := by decide +kernel
theorem dX6_goOverWithout_13 : decode cX6_goOverWithout 13 = .ok (.getfield 12, 3) := by decide +kernel
theorem dX6_goOverWithout_16 : decode cX6_goOverWithout 16 = .ok (.getfield 128, 3) := by decide +kernel
theorem dX6_goOverWithout_19 : decode cX6_goOverWithout 19 = .ok (.if_icmp .ge 36, 3) := by decide +kernel
theorem dX6_goOverWithout_22 : decode cX6_goOverWithout 22 = .ok (.iload_n 3, 1) := by decide +kernel
theorem dX6_goOverWithout_23 : decode cX6_goOverWithout 23 = .ok (.iload_n 1, 1) := by decide +kernel
theorem dX6_goOverWithout_24 : decode cX6_goOverWithout 24 = .ok (.if_icmp .eq 25, 3) := by decide +kernel
theorem dX6_goOverWithout_27 : decode cX6_goOverWithout 27 = .ok (.aload_n 0, 1) := by decide +kernel
theorem dX6_goOverWithout_28 : decode cX6_goOverWithout 28 = .ok (.getfield 23, 3) := by decide +kernel
theorem dX6_goOverWithout_31 : decode cX6_goOverWithout 31 = .ok (.aload_n 0, 1) := by decide +kernel
theorem dX6_goOverWithout_32 : decode cX6_goOverWithout 32 = .ok (.getfield 12, 3) := by decide +kernel
theorem dX6_goOverWithout_35 : decode cX6_goOverWithout 35 = .ok (.iload_n 3, 1) := by decide +kernel
theorem dX6_goOverWithout_36 : decode cX6_goOverWithout 36 = .ok (.aload_n 0, 1) := by decide +kernel
theorem dX6_goOverWithout_37 : decode cX6_goOverWithout 37 = .ok (.getfield 29, 3) := by decide +kernel
theorem dX6_goOverWithout_40 : decode cX6_goOverWithout 40 = .ok (.invokevirtual 132, 3) := by decide +kernel
theorem dX6_goOverWithout_43 : decode cX6_goOverWithout 43 = .ok (.ifCond .ne 6, 3) := by decide +kernel
theorem dX6_goOverWithout_46 : decode cX6_goOverWithout 46 = .ok (.iinc 2 1, 3) := by decide +kernel
theorem dX6_goOverWithout_49 : decode cX6_goOverWithout 49 = .ok (.iinc 3 1, 3) := by decide +kernel
theorem dX6_goOverWithout_52 : decode cX6_goOverWithout 52 = .ok (.goto (-41), 3) := by decide +kernel
theorem dX6_goOverWithout_55 : decode cX6_goOverWithout 55 = .ok (.iload_n 2, 1) := by decide +kernel
theorem dX6_goOverWithout_56 : decode cX6_goOverWithout 56 = .ok (.ireturn, 1) := by decide +kernel
theorem dX6_goOverByRules_0 : decode cX6_goOverByRules 0 = .ok (.aload_n 0, 1) := by decide +kernel
theorem dX6_goOverByRules_1 : decode cX6_goOverByRules 1 = .ok (.getfield 23, 3) := by decide +kernel
theorem dX6_goOverByRules_4 : decode cX6_goOverByRules 4 = .ok (.invokevirtual 129, 3) := by decide +kernel
theorem dX6_goOverByRules_7 : decode cX6_goOverByRules 7 = .ok (.aload_n 0, 1) := by decide +kernel
theorem dX6_goOverByRules_8 : decode cX6_goOverByRules 8 = .ok (.getfield 23, 3) := by decide +kernel
theorem dX6_goOverByRules_11 : decode cX6_goOverByRules 11 = .ok (.iload_n 1, 1) := by decide +kernel
theorem dX6_goOverByRules_12 : decode cX6_goOverByRules 12 = .ok (.iload_n 2, 1) := by decide +kernel
theorem dX6_goOverByRules_13 : decode cX6_goOverByRules 13 = .ok (.iload_n 3, 1) := by decide +kernel
theorem dX6_goOverByRules_14 : decode cX6_goOverByRules 14 = .ok (.invokevirtual 377, 3) := by decide +kernel
theorem dX6_goOverByRules_17 : decode cX6_goOverByRules 17 = .ok (.iconst 0, 1) := by decide +kernel
theorem dX6_goOverByRules_18 : decode cX6_goOverByRules 18 = .ok (.istore 4, 2) := by decide +kernel
theorem dX6_goOverByRules_20 : decode cX6_goOverByRules 20 = .ok (.iload 4, 2) := by decide +kernel
theorem dX6_goOverByRules_22 : decode cX6_goOverByRules 22 = .ok (.aload_n 0, 1) := by decide +kernel
theorem dX6_goOverByRules_23 : decode cX6_goOverByRules 23 = .ok (.getfield 12, 3) := by decide +kernel
theorem dX6_goOverByRules_26 : decode cX6_goOverByRules 26 = .ok (.getfield 128, 3) := by decide +kernel
theorem dX6_goOverByRules_29 : decode cX6_goOverByRules 29 = .ok (.if_icmp .ge 41, 3) := by decide +kernel
theorem dX6_goOverByRules_32 : decode cX6_goOverByRules 32 = .ok (.aload_n 0, 1) := by decide +kernel
theorem dX6_goOverByRules_33 : decode cX6_goOverByRules 33 = .ok (.getfield 12, 3) := by decide +kernel
theorem dX6_goOverByRules_36 : decode cX6_goOverByRules 36 = .ok (.iload 4, 2) := by decide +kernel
theorem dX6_goOverByRules_38 : decode cX6_goOverByRules 38 = .ok (.iconst 0, 1) := by decide +kernel
theorem dX6_goOverByRules_39 : decode cX6_goOverByRules 39 = .ok (.invokevirtual 146, 3) := by decide +kernel
theorem dX6_goOverByRules_42 : decode cX6_goOverByRules 42 = .ok (.iconst 3, 1) := by decide +kernel
theorem dX6_goOverByRules_43 : decode cX6_goOverByRules 43 = .ok (.if_icmp .eq 21, 3) := by decide +kernel
theorem dX6_goOverByRules_46 : decode cX6_goOverByRules 46 = .ok (.aload_n 0, 1) := by decide +kernel
theorem dX6_goOverByRules_47 : decode cX6_goOverByRules 47 = .ok (.getfield 23, 3) := by decide +kernel
theorem dX6_goOverByRules_50 : decode cX6_goOverByRules 50 = .ok (.aload_n 0, 1) := by decide +kernel
theorem dX6_goOverByRules_51 : decode cX6_goOverByRules 51 = .ok (.getfield 12, 3) := by decide +kernel
theorem dX6_goOverByRules_54 : decode cX6_goOverByRules 54 = .ok (.iload 4, 2) := by decide +kernel
theorem dX6_goOverByRules_56 : decode cX6_goOverByRules 56 = .ok (.aload_n 0, 1) := by decide +kernel
theorem dX6_goOverByRules_57 : decode cX6_goOverByRules 57 = .ok (.getfield 29, 3) := by decide +kernel
theorem dX6_goOverByRules_60 : decode cX6_goOverByRules 60 = .ok (.invokevirtual 132, 3) := by decide +kernel
theorem dX6_goOverByRules_63 : decode cX6_goOverByRules 63 = .ok (.pop, 1) := by decide +kernel
theorem dX6_goOverByRules_64 : decode cX6_goOverByRules 64 = .ok (.iinc 4 1, 3) := by decide +kernel
theorem dX6_goOverByRules_67 : decode cX6_goOverByRules 67 = .ok (.goto (-47), 3) := by decide +kernel
theorem dX6_goOverByRules_70 : decode cX6_goOverByRules 70 = .ok (.return_, 1) := by decide +kernel
theorem dX6_setOffNow_0 : decode cX6_setOffNow 0 = .ok (.iload_n 1, 1) := by decide +kernel
theorem dX6_setOffNow_1 : decode cX6_setOffNow 1 = .ok (.iload_n 2, 1) := by decide +kernel
theorem dX6_setOffNow_2 : decode cX6_setOffNow 2 = .ok (.iload_n 3, 1) := by decide +kernel
theorem dX6_setOffNow_3 : decode cX6_setOffNow 3 = .ok (.aload_n 0, 1) := by decide +kernel
theorem dX6_setOffNow_4 : decode cX6_setOffNow 4 = .ok (.getfield 19, 3) := by decide +kernel
theorem dX6_setOffNow_7 : decode cX6_setOffNow 7 = .ok (.getfield 92, 3) := by decide +kernel
theorem dX6_setOffNow_10 : decode cX6_setOffNow 10 = .ok (.invokestatic 278, 3) := by decide +kernel
theorem dX6_setOffNow_13 : decode cX6_setOffNow 13 = .ok (.ireturn, 1) := by decide +kernel
theorem dX6_yearsSetOff_0 : decode cX6_yearsSetOff 0 = .ok (.iload_n 3, 1) := by decide +kernel
theorem dX6_yearsSetOff_1 : decode cX6_yearsSetOff 1 = .ok (.tableswitch 45 0 2 #[27, 33, 39], 27) := by decide +kernel
theorem dX6_yearsSetOff_28 : decode cX6_yearsSetOff 28 = .ok (.iload_n 0, 1) := by decide +kernel
theorem dX6_yearsSetOff_29 : decode cX6_yearsSetOff 29 = .ok (.iload_n 1, 1) := by decide +kernel
theorem dX6_yearsSetOff_30 : decode cX6_yearsSetOff 30 = .ok (.invokestatic 380, 3) := by decide +kernel
theorem dX6_yearsSetOff_33 : decode cX6_yearsSetOff 33 = .ok (.ireturn, 1) := by decide +kernel
theorem dX6_yearsSetOff_34 : decode cX6_yearsSetOff 34 = .ok (.iload_n 2, 1) := by decide +kernel
theorem dX6_yearsSetOff_35 : decode cX6_yearsSetOff 35 = .ok (.iload_n 2, 1) := by decide +kernel
theorem dX6_yearsSetOff_36 : decode cX6_yearsSetOff 36 = .ok (.invokestatic 380, 3) := by decide +kernel
theorem dX6_yearsSetOff_39 : decode cX6_yearsSetOff 39 = .ok (.ireturn, 1) := by decide +kernel
theorem dX6_yearsSetOff_40 : decode cX6_yearsSetOff 40 = .ok (.iload_n 0, 1) := by decide +kernel
theorem dX6_yearsSetOff_41 : decode cX6_yearsSetOff 41 = .ok (.iload_n 2, 1) := by decide +kernel
theorem dX6_yearsSetOff_42 : decode cX6_yearsSetOff 42 = .ok (.invokestatic 380, 3) := by decide +kernel
theorem dX6_yearsSetOff_45 : decode cX6_yearsSetOff 45 = .ok (.ireturn, 1) := by decide +kernel
theorem dX6_yearsSetOff_46 : decode cX6_yearsSetOff 46 = .ok (.iload_n 0, 1) := by decide +kernel
theorem dX6_yearsSetOff_47 : decode cX6_yearsSetOff 47 = .ok (.iload_n 1, 1) := by decide +kernel
theorem dX6_yearsSetOff_48 : decode cX6_yearsSetOff 48 = .ok (.invokestatic 380, 3) := by decide +kernel
theorem dX6_yearsSetOff_51 : decode cX6_yearsSetOff 51 = .ok (.iload_n 2, 1) := by decide +kernel
theorem dX6_yearsSetOff_52 : decode cX6_yearsSetOff 52 = .ok (.iload_n 2, 1) := by decide +kernel
theorem dX6_yearsSetOff_53 : decode cX6_yearsSetOff 53 = .ok (.invokestatic 380, 3) := by decide +kernel
theorem dX6_yearsSetOff_56 : decode cX6_yearsSetOff 56 = .ok (.ior, 1) := by decide +kernel
theorem dX6_yearsSetOff_57 : decode cX6_yearsSetOff 57 = .ok (.ireturn, 1) := by decide +kernel
theorem dX6_yearBits_0 : decode cX6_yearBits 0 = .ok (.iconst 0, 1) := by decide +kernel
theorem dX6_yearBits_1 : decode cX6_yearBits 1 = .ok (.istore_n 2, 1) := by decide +kernel
theorem dX6_yearBits_2 : decode cX6_yearBits 2 = .ok (.iload_n 0, 1) := by decide +kernel
theorem dX6_yearBits_3 : decode cX6_yearBits 3 = .ok (.istore_n 3, 1) := by decide +kernel
theorem dX6_yearBits_4 : decode cX6_yearBits 4 = .ok (.iload_n 3, 1) := by decide +kernel
