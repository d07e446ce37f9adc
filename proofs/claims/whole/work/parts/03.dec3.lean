theorem dX10_forget_16 : decode cX10_forget 16 = .ok (.aload_n 0, 1) := by decide +kernel
theorem dX10_forget_17 : decode cX10_forget 17 = .ok (.getfield 66, 3) := by decide +kernel
theorem dX10_forget_20 : decode cX10_forget 20 = .ok (.iconst 0, 1) := by decide +kernel
theorem dX10_forget_21 : decode cX10_forget 21 = .ok (.putfield 316, 3) := by decide +kernel
theorem dX10_forget_24 : decode cX10_forget 24 = .ok (.aload_n 0, 1) := by decide +kernel
theorem dX10_forget_25 : decode cX10_forget 25 = .ok (.getfield 73, 3) := by decide +kernel
theorem dX10_forget_28 : decode cX10_forget 28 = .ok (.iconst 0, 1) := by decide +kernel
theorem dX10_forget_29 : decode cX10_forget 29 = .ok (.putfield 273, 3) := by decide +kernel
theorem dX10_forget_32 : decode cX10_forget 32 = .ok (.aload_n 0, 1) := by decide +kernel
theorem dX10_forget_33 : decode cX10_forget 33 = .ok (.getfield 80, 3) := by decide +kernel
theorem dX10_forget_36 : decode cX10_forget 36 = .ok (.iconst 0, 1) := by decide +kernel
theorem dX10_forget_37 : decode cX10_forget 37 = .ok (.putfield 294, 3) := by decide +kernel
theorem dX10_forget_40 : decode cX10_forget 40 = .ok (.return_, 1) := by decide +kernel
theorem dX10_gathered_0 : decode cX10_gathered 0 = .ok (.aload_n 0, 1) := by decide +kernel
theorem dX10_gathered_1 : decode cX10_gathered 1 = .ok (.getfield 52, 3) := by decide +kernel
theorem dX10_gathered_4 : decode cX10_gathered 4 = .ok (.getfield 314, 3) := by decide +kernel
theorem dX10_gathered_7 : decode cX10_gathered 7 = .ok (.ifCond .ne 18, 3) := by decide +kernel
theorem dX10_gathered_10 : decode cX10_gathered 10 = .ok (.aload_n 0, 1) := by decide +kernel
theorem dX10_gathered_11 : decode cX10_gathered 11 = .ok (.getfield 52, 3) := by decide +kernel
theorem dX10_gathered_14 : decode cX10_gathered 14 = .ok (.aload_n 0, 1) := by decide +kernel
theorem dX10_gathered_15 : decode cX10_gathered 15 = .ok (.getfield 18, 3) := by decide +kernel
theorem dX10_gathered_18 : decode cX10_gathered 18 = .ok (.aload_n 0, 1) := by decide +kernel
theorem dX10_gathered_19 : decode cX10_gathered 19 = .ok (.getfield 137, 3) := by decide +kernel
theorem dX10_gathered_22 : decode cX10_gathered 22 = .ok (.invokevirtual 317, 3) := by decide +kernel
theorem dX10_gathered_25 : decode cX10_gathered 25 = .ok (.aload_n 0, 1) := by decide +kernel
theorem dX10_gathered_26 : decode cX10_gathered 26 = .ok (.getfield 52, 3) := by decide +kernel
theorem dX10_gathered_29 : decode cX10_gathered 29 = .ok (.areturn, 1) := by decide +kernel
theorem dX10_joined_0 : decode cX10_joined 0 = .ok (.aload_n 0, 1) := by decide +kernel
theorem dX10_joined_1 : decode cX10_joined 1 = .ok (.getfield 59, 3) := by decide +kernel
theorem dX10_joined_4 : decode cX10_joined 4 = .ok (.getfield 315, 3) := by decide +kernel
theorem dX10_joined_7 : decode cX10_joined 7 = .ok (.ifCond .ne 14, 3) := by decide +kernel
theorem dX10_joined_10 : decode cX10_joined 10 = .ok (.aload_n 0, 1) := by decide +kernel
theorem dX10_joined_11 : decode cX10_joined 11 = .ok (.getfield 59, 3) := by decide +kernel
theorem dX10_joined_14 : decode cX10_joined 14 = .ok (.aload_n 0, 1) := by decide +kernel
theorem dX10_joined_15 : decode cX10_joined 15 = .ok (.invokevirtual 165, 3) := by decide +kernel
theorem dX10_joined_18 : decode cX10_joined 18 = .ok (.invokevirtual 321, 3) := by decide +kernel
theorem dX10_joined_21 : decode cX10_joined 21 = .ok (.aload_n 0, 1) := by decide +kernel
theorem dX10_joined_22 : decode cX10_joined 22 = .ok (.getfield 59, 3) := by decide +kernel
theorem dX10_joined_25 : decode cX10_joined 25 = .ok (.areturn, 1) := by decide +kernel
theorem dX10_peeled_0 : decode cX10_peeled 0 = .ok (.aload_n 0, 1) := by decide +kernel
theorem dX10_peeled_1 : decode cX10_peeled 1 = .ok (.getfield 66, 3) := by decide +kernel
theorem dX10_peeled_4 : decode cX10_peeled 4 = .ok (.getfield 316, 3) := by decide +kernel
theorem dX10_peeled_7 : decode cX10_peeled 7 = .ok (.ifCond .ne 14, 3) := by decide +kernel
theorem dX10_peeled_10 : decode cX10_peeled 10 = .ok (.aload_n 0, 1) := by decide +kernel
theorem dX10_peeled_11 : decode cX10_peeled 11 = .ok (.getfield 66, 3) := by decide +kernel
theorem dX10_peeled_14 : decode cX10_peeled 14 = .ok (.aload_n 0, 1) := by decide +kernel
theorem dX10_peeled_15 : decode cX10_peeled 15 = .ok (.invokevirtual 165, 3) := by decide +kernel
theorem dX10_peeled_18 : decode cX10_peeled 18 = .ok (.invokevirtual 324, 3) := by decide +kernel
theorem dX10_peeled_21 : decode cX10_peeled 21 = .ok (.aload_n 0, 1) := by decide +kernel
theorem dX10_peeled_22 : decode cX10_peeled 22 = .ok (.getfield 66, 3) := by decide +kernel
theorem dX10_peeled_25 : decode cX10_peeled 25 = .ok (.areturn, 1) := by decide +kernel
theorem dX10_isBelow_0 : decode cX10_isBelow 0 = .ok (.iload_n 0, 1) := by decide +kernel
theorem dX10_isBelow_1 : decode cX10_isBelow 1 = .ok (.ifCond .lt 12, 3) := by decide +kernel
theorem dX10_isBelow_4 : decode cX10_isBelow 4 = .ok (.iload_n 0, 1) := by decide +kernel
theorem dX10_isBelow_5 : decode cX10_isBelow 5 = .ok (.iload_n 1, 1) := by decide +kernel
theorem dX10_isBelow_6 : decode cX10_isBelow 6 = .ok (.if_icmp .ge 7, 3) := by decide +kernel
theorem dX10_isBelow_9 : decode cX10_isBelow 9 = .ok (.iconst 1, 1) := by decide +kernel
theorem dX10_isBelow_10 : decode cX10_isBelow 10 = .ok (.goto 4, 3) := by decide +kernel
theorem dX10_isBelow_13 : decode cX10_isBelow 13 = .ok (.iconst 0, 1) := by decide +kernel
theorem dX10_isBelow_14 : decode cX10_isBelow 14 = .ok (.ireturn, 1) := by decide +kernel
theorem dX10_isWithin_0 : decode cX10_isWithin 0 = .ok (.lload_n 0, 1) := by decide +kernel
theorem dX10_isWithin_1 : decode cX10_isWithin 1 = .ok (.lload_n 2, 1) := by decide +kernel
theorem dX10_isWithin_2 : decode cX10_isWithin 2 = .ok (.lneg, 1) := by decide +kernel
theorem dX10_isWithin_3 : decode cX10_isWithin 3 = .ok (.lcmp, 1) := by decide +kernel
theorem dX10_isWithin_4 : decode cX10_isWithin 4 = .ok (.ifCond .lt 13, 3) := by decide +kernel
theorem dX10_isWithin_7 : decode cX10_isWithin 7 = .ok (.lload_n 0, 1) := by decide +kernel
theorem dX10_isWithin_8 : decode cX10_isWithin 8 = .ok (.lload_n 2, 1) := by decide +kernel
theorem dX10_isWithin_9 : decode cX10_isWithin 9 = .ok (.lcmp, 1) := by decide +kernel
theorem dX10_isWithin_10 : decode cX10_isWithin 10 = .ok (.ifCond .gt 7, 3) := by decide +kernel
theorem dX10_isWithin_13 : decode cX10_isWithin 13 = .ok (.iconst 1, 1) := by decide +kernel
theorem dX10_isWithin_14 : decode cX10_isWithin 14 = .ok (.goto 4, 3) := by decide +kernel
theorem dX10_isWithin_17 : decode cX10_isWithin 17 = .ok (.iconst 0, 1) := by decide +kernel
theorem dX10_isWithin_18 : decode cX10_isWithin 18 = .ok (.ireturn, 1) := by decide +kernel
theorem dX10_isInField_0 : decode cX10_isInField 0 = .ok (.lload_n 0, 1) := by decide +kernel
theorem dX10_isInField_1 : decode cX10_isInField 1 = .ok (.ldc2_w 327, 3) := by decide +kernel
theorem dX10_isInField_4 : decode cX10_isInField 4 = .ok (.invokestatic 225, 3) := by decide +kernel
theorem dX10_isInField_7 : decode cX10_isInField 7 = .ok (.ireturn, 1) := by decide +kernel
theorem dX10_isBed_0 : decode cX10_isBed 0 = .ok (.iload_n 0, 1) := by decide +kernel
theorem dX10_isBed_1 : decode cX10_isBed 1 = .ok (.bipush 8, 2) := by decide +kernel
theorem dX10_isBed_3 : decode cX10_isBed 3 = .ok (.invokestatic 88, 3) := by decide +kernel
theorem dX10_isBed_6 : decode cX10_isBed 6 = .ok (.ireturn, 1) := by decide +kernel
theorem dX10_commonDivisor_0 : decode cX10_commonDivisor 0 = .ok (.lload_n 0, 1) := by decide +kernel
theorem dX10_commonDivisor_1 : decode cX10_commonDivisor 1 = .ok (.lconst 0, 1) := by decide +kernel
theorem dX10_commonDivisor_2 : decode cX10_commonDivisor 2 = .ok (.lcmp, 1) := by decide +kernel
theorem dX10_commonDivisor_3 : decode cX10_commonDivisor 3 = .ok (.ifCond .ge 8, 3) := by decide +kernel
theorem dX10_commonDivisor_6 : decode cX10_commonDivisor 6 = .ok (.lload_n 0, 1) := by decide +kernel
theorem dX10_commonDivisor_7 : decode cX10_commonDivisor 7 = .ok (.lneg, 1) := by decide +kernel
theorem dX10_commonDivisor_8 : decode cX10_commonDivisor 8 = .ok (.goto 4, 3) := by decide +kernel
theorem dX10_commonDivisor_11 : decode cX10_commonDivisor 11 = .ok (.lload_n 0, 1) := by decide +kernel
theorem dX10_commonDivisor_12 : decode cX10_commonDivisor 12 = .ok (.lstore 4, 2) := by decide +kernel
theorem dX10_commonDivisor_14 : decode cX10_commonDivisor 14 = .ok (.lload_n 2, 1) := by decide +kernel
theorem dX10_commonDivisor_15 : decode cX10_commonDivisor 15 = .ok (.lconst 0, 1) := by decide +kernel
theorem dX10_commonDivisor_16 : decode cX10_commonDivisor 16 = .ok (.lcmp, 1) := by decide +kernel
theorem dX10_commonDivisor_17 : decode cX10_commonDivisor 17 = .ok (.ifCond .ge 8, 3) := by decide +kernel
theorem dX10_commonDivisor_20 : decode cX10_commonDivisor 20 = .ok (.lload_n 2, 1) := by decide +kernel
theorem dX10_commonDivisor_21 : decode cX10_commonDivisor 21 = .ok (.lneg, 1) := by decide +kernel
theorem dX10_commonDivisor_22 : decode cX10_commonDivisor 22 = .ok (.goto 4, 3) := by decide +kernel
theorem dX10_commonDivisor_25 : decode cX10_commonDivisor 25 = .ok (.lload_n 2, 1) := by decide +kernel
theorem dX10_commonDivisor_26 : decode cX10_commonDivisor 26 = .ok (.lstore 6, 2) := by decide +kernel
theorem dX10_commonDivisor_28 : decode cX10_commonDivisor 28 = .ok (.iconst 0, 1) := by decide +kernel
theorem dX10_commonDivisor_29 : decode cX10_commonDivisor 29 = .ok (.istore 8, 2) := by decide +kernel
theorem dX10_commonDivisor_31 : decode cX10_commonDivisor 31 = .ok (.iload 8, 2) := by decide +kernel
theorem dX10_commonDivisor_33 : decode cX10_commonDivisor 33 = .ok (.bipush 100, 2) := by decide +kernel
theorem dX10_commonDivisor_35 : decode cX10_commonDivisor 35 = .ok (.if_icmp .ge 31, 3) := by decide +kernel
theorem dX10_commonDivisor_38 : decode cX10_commonDivisor 38 = .ok (.lload 6, 2) := by decide +kernel
theorem dX10_commonDivisor_40 : decode cX10_commonDivisor 40 = .ok (.lconst 0, 1) := by decide +kernel
theorem dX10_commonDivisor_41 : decode cX10_commonDivisor 41 = .ok (.lcmp, 1) := by decide +kernel
theorem dX10_commonDivisor_42 : decode cX10_commonDivisor 42 = .ok (.ifCond .eq 24, 3) := by decide +kernel
theorem dX10_commonDivisor_45 : decode cX10_commonDivisor 45 = .ok (.lload 4, 2) := by decide +kernel
theorem dX10_commonDivisor_47 : decode cX10_commonDivisor 47 = .ok (.lload 6, 2) := by decide +kernel
theorem dX10_commonDivisor_49 : decode cX10_commonDivisor 49 = .ok (.lrem, 1) := by decide +kernel
theorem dX10_commonDivisor_50 : decode cX10_commonDivisor 50 = .ok (.lstore 9, 2) := by decide +kernel
theorem dX10_commonDivisor_52 : decode cX10_commonDivisor 52 = .ok (.lload 6, 2) := by decide +kernel
theorem dX10_commonDivisor_54 : decode cX10_commonDivisor 54 = .ok (.lstore 4, 2) := by decide +kernel
theorem dX10_commonDivisor_56 : decode cX10_commonDivisor 56 = .ok (.lload 9, 2) := by decide +kernel
theorem dX10_commonDivisor_58 : decode cX10_commonDivisor 58 = .ok (.lstore 6, 2) := by decide +kernel
theorem dX10_commonDivisor_60 : decode cX10_commonDivisor 60 = .ok (.iinc 8 1, 3) := by decide +kernel
theorem dX10_commonDivisor_63 : decode cX10_commonDivisor 63 = .ok (.goto (-32), 3) := by decide +kernel
theorem dX10_commonDivisor_66 : decode cX10_commonDivisor 66 = .ok (.lload 4, 2) := by decide +kernel
theorem dX10_commonDivisor_68 : decode cX10_commonDivisor 68 = .ok (.lreturn, 1) := by decide +kernel
theorem dX10_without_0 : decode cX10_without 0 = .ok (.lload_n 0, 1) := by decide +kernel
theorem dX10_without_1 : decode cX10_without 1 = .ok (.lload_n 2, 1) := by decide +kernel
theorem dX10_without_2 : decode cX10_without 2 = .ok (.invokestatic 329, 3) := by decide +kernel
theorem dX10_without_5 : decode cX10_without 5 = .ok (.lstore 4, 2) := by decide +kernel
theorem dX10_without_7 : decode cX10_without 7 = .ok (.lload 4, 2) := by decide +kernel
theorem dX10_without_9 : decode cX10_without 9 = .ok (.lconst 1, 1) := by decide +kernel
theorem dX10_without_10 : decode cX10_without 10 = .ok (.lcmp, 1) := by decide +kernel
theorem dX10_without_11 : decode cX10_without 11 = .ok (.ifCond .le 10, 3) := by decide +kernel
theorem dX10_without_14 : decode cX10_without 14 = .ok (.lload_n 0, 1) := by decide +kernel
theorem dX10_without_15 : decode cX10_without 15 = .ok (.lload 4, 2) := by decide +kernel
theorem dX10_without_17 : decode cX10_without 17 = .ok (.ldiv, 1) := by decide +kernel
theorem dX10_without_18 : decode cX10_without 18 = .ok (.goto 4, 3) := by decide +kernel
theorem dX10_without_21 : decode cX10_without 21 = .ok (.lload_n 0, 1) := by decide +kernel
theorem dX10_without_22 : decode cX10_without 22 = .ok (.lreturn, 1) := by decide +kernel
theorem dX11_init_0 : decode cX11_init 0 = .ok (.aload_n 0, 1) := by decide +kernel
theorem dX11_init_1 : decode cX11_init 1 = .ok (.invokespecial 1, 3) := by decide +kernel
theorem dX11_init_4 : decode cX11_init 4 = .ok (.aload_n 0, 1) := by decide +kernel
theorem dX11_init_5 : decode cX11_init 5 = .ok (.bipush 40, 2) := by decide +kernel
theorem dX11_init_7 : decode cX11_init 7 = .ok (.newarray .int, 2) := by decide +kernel
theorem dX11_init_9 : decode cX11_init 9 = .ok (.putfield 7, 3) := by decide +kernel
theorem dX11_init_12 : decode cX11_init 12 = .ok (.aload_n 0, 1) := by decide +kernel
theorem dX11_init_13 : decode cX11_init 13 = .ok (.bipush 40, 2) := by decide +kernel
theorem dX11_init_15 : decode cX11_init 15 = .ok (.newarray .int, 2) := by decide +kernel
theorem dX11_init_17 : decode cX11_init 17 = .ok (.putfield 13, 3) := by decide +kernel
theorem dX11_init_20 : decode cX11_init 20 = .ok (.aload_n 0, 1) := by decide +kernel
theorem dX11_init_21 : decode cX11_init 21 = .ok (.bipush 40, 2) := by decide +kernel
theorem dX11_init_23 : decode cX11_init 23 = .ok (.newarray .int, 2) := by decide +kernel
theorem dX11_init_25 : decode cX11_init 25 = .ok (.putfield 16, 3) := by decide +kernel
theorem dX11_init_28 : decode cX11_init 28 = .ok (.aload_n 0, 1) := by decide +kernel
theorem dX11_init_29 : decode cX11_init 29 = .ok (.bipush 40, 2) := by decide +kernel
theorem dX11_init_31 : decode cX11_init 31 = .ok (.newarray .int, 2) := by decide +kernel
theorem dX11_init_33 : decode cX11_init 33 = .ok (.putfield 19, 3) := by decide +kernel
theorem dX11_init_36 : decode cX11_init 36 = .ok (.aload_n 0, 1) := by decide +kernel
theorem dX11_init_37 : decode cX11_init 37 = .ok (.bipush 40, 2) := by decide +kernel
theorem dX11_init_39 : decode cX11_init 39 = .ok (.newarray .boolean, 2) := by decide +kernel
theorem dX11_init_41 : decode cX11_init 41 = .ok (.putfield 22, 3) := by decide +kernel
theorem dX11_init_44 : decode cX11_init 44 = .ok (.aload_n 0, 1) := by decide +kernel
theorem dX11_init_45 : decode cX11_init 45 = .ok (.ldc 26, 2) := by decide +kernel
theorem dX11_init_47 : decode cX11_init 47 = .ok (.putfield 27, 3) := by decide +kernel
theorem dX11_init_50 : decode cX11_init 50 = .ok (.aload_n 0, 1) := by decide +kernel
theorem dX11_init_51 : decode cX11_init 51 = .ok (.bipush 8, 2) := by decide +kernel
theorem dX11_init_53 : decode cX11_init 53 = .ok (.newarray .int, 2) := by decide +kernel
theorem dX11_init_55 : decode cX11_init 55 = .ok (.putfield 31, 3) := by decide +kernel
theorem dX11_init_58 : decode cX11_init 58 = .ok (.aload_n 0, 1) := by decide +kernel
theorem dX11_init_59 : decode cX11_init 59 = .ok (.bipush 8, 2) := by decide +kernel
theorem dX11_init_61 : decode cX11_init 61 = .ok (.newarray .int, 2) := by decide +kernel
theorem dX11_init_63 : decode cX11_init 63 = .ok (.putfield 34, 3) := by decide +kernel
theorem dX11_init_66 : decode cX11_init 66 = .ok (.aload_n 0, 1) := by decide +kernel
theorem dX11_init_67 : decode cX11_init 67 = .ok (.sipush 800, 3) := by decide +kernel
theorem dX11_init_70 : decode cX11_init 70 = .ok (.newarray .long, 2) := by decide +kernel
theorem dX11_init_72 : decode cX11_init 72 = .ok (.putfield 37, 3) := by decide +kernel
theorem dX11_init_75 : decode cX11_init 75 = .ok (.aload_n 0, 1) := by decide +kernel
theorem dX11_init_76 : decode cX11_init 76 = .ok (.bipush 100, 2) := by decide +kernel
theorem dX11_init_78 : decode cX11_init 78 = .ok (.newarray .long, 2) := by decide +kernel
theorem dX11_init_80 : decode cX11_init 80 = .ok (.putfield 41, 3) := by decide +kernel
theorem dX11_init_83 : decode cX11_init 83 = .ok (.aload_n 0, 1) := by decide +kernel
theorem dX11_init_84 : decode cX11_init 84 = .ok (.bipush 16, 2) := by decide +kernel
theorem dX11_init_86 : decode cX11_init 86 = .ok (.newarray .int, 2) := by decide +kernel
theorem dX11_init_88 : decode cX11_init 88 = .ok (.putfield 44, 3) := by decide +kernel
theorem dX11_init_91 : decode cX11_init 91 = .ok (.aload_n 0, 1) := by decide +kernel
theorem dX11_init_92 : decode cX11_init 92 = .ok (.lconst 1, 1) := by decide +kernel
theorem dX11_init_93 : decode cX11_init 93 = .ok (.putfield 47, 3) := by decide +kernel
theorem dX11_init_96 : decode cX11_init 96 = .ok (.aload_n 0, 1) := by decide +kernel
theorem dX11_init_97 : decode cX11_init 97 = .ok (.bipush 40, 2) := by decide +kernel
theorem dX11_init_99 : decode cX11_init 99 = .ok (.newarray .long, 2) := by decide +kernel
theorem dX11_init_101 : decode cX11_init 101 = .ok (.putfield 51, 3) := by decide +kernel
theorem dX11_init_104 : decode cX11_init 104 = .ok (.aload_n 0, 1) := by decide +kernel
theorem dX11_init_105 : decode cX11_init 105 = .ok (.bipush 40, 2) := by decide +kernel
theorem dX11_init_107 : decode cX11_init 107 = .ok (.newarray .long, 2) := by decide +kernel
theorem dX11_init_109 : decode cX11_init 109 = .ok (.putfield 54, 3) := by decide +kernel
theorem dX11_init_112 : decode cX11_init 112 = .ok (.aload_n 0, 1) := by decide +kernel
theorem dX11_init_113 : decode cX11_init 113 = .ok (.bipush 40, 2) := by decide +kernel
theorem dX11_init_115 : decode cX11_init 115 = .ok (.newarray .int, 2) := by decide +kernel
theorem dX11_init_117 : decode cX11_init 117 = .ok (.putfield 57, 3) := by decide +kernel
theorem dX11_init_120 : decode cX11_init 120 = .ok (.aload_n 0, 1) := by decide +kernel
theorem dX11_init_121 : decode cX11_init 121 = .ok (.bipush 66, 2) := by decide +kernel
theorem dX11_init_123 : decode cX11_init 123 = .ok (.newarray .long, 2) := by decide +kernel
theorem dX11_init_125 : decode cX11_init 125 = .ok (.putfield 60, 3) := by decide +kernel
theorem dX11_init_128 : decode cX11_init 128 = .ok (.aload_n 0, 1) := by decide +kernel
theorem dX11_init_129 : decode cX11_init 129 = .ok (.bipush 66, 2) := by decide +kernel
theorem dX11_init_131 : decode cX11_init 131 = .ok (.newarray .long, 2) := by decide +kernel
theorem dX11_init_133 : decode cX11_init 133 = .ok (.putfield 63, 3) := by decide +kernel
theorem dX11_init_136 : decode cX11_init 136 = .ok (.aload_n 0, 1) := by decide +kernel
theorem dX11_init_137 : decode cX11_init 137 = .ok (.bipush 66, 2) := by decide +kernel
theorem dX11_init_139 : decode cX11_init 139 = .ok (.newarray .long, 2) := by decide +kernel
theorem dX11_init_141 : decode cX11_init 141 = .ok (.putfield 66, 3) := by decide +kernel
theorem dX11_init_144 : decode cX11_init 144 = .ok (.aload_n 0, 1) := by decide +kernel
theorem dX11_init_145 : decode cX11_init 145 = .ok (.bipush 40, 2) := by decide +kernel
theorem dX11_init_147 : decode cX11_init 147 = .ok (.newarray .int, 2) := by decide +kernel
theorem dX11_init_149 : decode cX11_init 149 = .ok (.putfield 69, 3) := by decide +kernel
theorem dX11_init_152 : decode cX11_init 152 = .ok (.aload_n 0, 1) := by decide +kernel
theorem dX11_init_153 : decode cX11_init 153 = .ok (.bipush 40, 2) := by decide +kernel
theorem dX11_init_155 : decode cX11_init 155 = .ok (.newarray .boolean, 2) := by decide +kernel
theorem dX11_init_157 : decode cX11_init 157 = .ok (.putfield 72, 3) := by decide +kernel
theorem dX11_init_160 : decode cX11_init 160 = .ok (.return_, 1) := by decide +kernel
theorem dX11_in_0 : decode cX11_in 0 = .ok (.lload_n 0, 1) := by decide +kernel
theorem dX11_in_1 : decode cX11_in 1 = .ok (.lload_n 2, 1) := by decide +kernel
theorem dX11_in_2 : decode cX11_in 2 = .ok (.lcmp, 1) := by decide +kernel
theorem dX11_in_3 : decode cX11_in 3 = .ok (.ifCond .lt 14, 3) := by decide +kernel
theorem dX11_in_6 : decode cX11_in 6 = .ok (.lload_n 0, 1) := by decide +kernel
theorem dX11_in_7 : decode cX11_in 7 = .ok (.lload 4, 2) := by decide +kernel
theorem dX11_in_9 : decode cX11_in 9 = .ok (.lcmp, 1) := by decide +kernel
theorem dX11_in_10 : decode cX11_in 10 = .ok (.ifCond .gt 7, 3) := by decide +kernel
theorem dX11_in_13 : decode cX11_in 13 = .ok (.iconst 1, 1) := by decide +kernel
theorem dX11_in_14 : decode cX11_in 14 = .ok (.goto 4, 3) := by decide +kernel
theorem dX11_in_17 : decode cX11_in 17 = .ok (.iconst 0, 1) := by decide +kernel
theorem dX11_in_18 : decode cX11_in 18 = .ok (.ireturn, 1) := by decide +kernel
theorem dX11_finds_0 : decode cX11_finds 0 = .ok (.aload_n 0, 1) := by decide +kernel
theorem dX11_finds_1 : decode cX11_finds 1 = .ok (.iload_n 1, 1) := by decide +kernel
theorem dX11_finds_2 : decode cX11_finds 2 = .ok (.putfield 75, 3) := by decide +kernel
theorem dX11_finds_5 : decode cX11_finds 5 = .ok (.ldc 78, 2) := by decide +kernel
theorem dX11_finds_7 : decode cX11_finds 7 = .ok (.iload_n 1, 1) := by decide +kernel
theorem dX11_finds_8 : decode cX11_finds 8 = .ok (.isub, 1) := by decide +kernel
theorem dX11_finds_9 : decode cX11_finds 9 = .ok (.ireturn, 1) := by decide +kernel
theorem dX11_well_0 : decode cX11_well 0 = .ok (.aload_n 0, 1) := by decide +kernel
theorem dX11_well_1 : decode cX11_well 1 = .ok (.iconst 0, 1) := by decide +kernel
theorem dX11_well_2 : decode cX11_well 2 = .ok (.putfield 75, 3) := by decide +kernel
theorem dX11_well_5 : decode cX11_well 5 = .ok (.iload_n 1, 1) := by decide +kernel
theorem dX11_well_6 : decode cX11_well 6 = .ok (.ireturn, 1) := by decide +kernel
theorem dX11_isBed_0 : decode cX11_isBed 0 = .ok (.iload_n 0, 1) := by decide +kernel
theorem dX11_isBed_1 : decode cX11_isBed 1 = .ok (.i2l, 1) := by decide +kernel
theorem dX11_isBed_2 : decode cX11_isBed 2 = .ok (.lconst 0, 1) := by decide +kernel
theorem dX11_isBed_3 : decode cX11_isBed 3 = .ok (.ldc2_w 79, 3) := by decide +kernel
theorem dX11_isBed_6 : decode cX11_isBed 6 = .ok (.invokestatic 81, 3) := by decide +kernel
theorem dX11_isBed_9 : decode cX11_isBed 9 = .ok (.ireturn, 1) := by decide +kernel
theorem dX11_bed_0 : decode cX11_bed 0 = .ok (.iload_n 1, 1) := by decide +kernel
theorem dX11_bed_1 : decode cX11_bed 1 = .ok (.invokestatic 85, 3) := by decide +kernel
theorem dX11_bed_4 : decode cX11_bed 4 = .ok (.ifCond .eq 21, 3) := by decide +kernel
theorem dX11_bed_7 : decode cX11_bed 7 = .ok (.iload_n 2, 1) := by decide +kernel
theorem dX11_bed_8 : decode cX11_bed 8 = .ok (.i2l, 1) := by decide +kernel
theorem dX11_bed_9 : decode cX11_bed 9 = .ok (.lconst 0, 1) := by decide +kernel
theorem dX11_bed_10 : decode cX11_bed 10 = .ok (.ldc2_w 89, 3) := by decide +kernel
theorem dX11_bed_13 : decode cX11_bed 13 = .ok (.invokestatic 81, 3) := by decide +kernel
theorem dX11_bed_16 : decode cX11_bed 16 = .ok (.ifCond .eq 9, 3) := by decide +kernel
theorem dX11_bed_19 : decode cX11_bed 19 = .ok (.iload_n 3, 1) := by decide +kernel
theorem dX11_bed_20 : decode cX11_bed 20 = .ok (.bipush 100, 2) := by decide +kernel
theorem dX11_bed_22 : decode cX11_bed 22 = .ok (.if_icmp .le 6, 3) := by decide +kernel
theorem dX11_bed_25 : decode cX11_bed 25 = .ok (.ldc 91, 2) := by decide +kernel
theorem dX11_bed_27 : decode cX11_bed 27 = .ok (.ireturn, 1) := by decide +kernel
theorem dX11_bed_28 : decode cX11_bed 28 = .ok (.iload_n 3, 1) := by decide +kernel
theorem dX11_bed_29 : decode cX11_bed 29 = .ok (.ifCond .ge 9, 3) := by decide +kernel
theorem dX11_bed_32 : decode cX11_bed 32 = .ok (.aload_n 0, 1) := by decide +kernel
theorem dX11_bed_33 : decode cX11_bed 33 = .ok (.iconst 4, 1) := by decide +kernel
theorem dX11_bed_34 : decode cX11_bed 34 = .ok (.invokevirtual 92, 3) := by decide +kernel
theorem dX11_bed_37 : decode cX11_bed 37 = .ok (.ireturn, 1) := by decide +kernel
theorem dX11_bed_38 : decode cX11_bed 38 = .ok (.aload_n 0, 1) := by decide +kernel
theorem dX11_bed_39 : decode cX11_bed 39 = .ok (.getfield 31, 3) := by decide +kernel
theorem dX11_bed_42 : decode cX11_bed 42 = .ok (.iload_n 1, 1) := by decide +kernel
theorem dX11_bed_43 : decode cX11_bed 43 = .ok (.iload_n 2, 1) := by decide +kernel
theorem dX11_bed_44 : decode cX11_bed 44 = .ok (.iconst 1, 1) := by decide +kernel
theorem dX11_bed_45 : decode cX11_bed 45 = .ok (.iadd, 1) := by decide +kernel
theorem dX11_bed_46 : decode cX11_bed 46 = .ok (.iastore, 1) := by decide +kernel
theorem dX11_bed_47 : decode cX11_bed 47 = .ok (.aload_n 0, 1) := by decide +kernel
theorem dX11_bed_48 : decode cX11_bed 48 = .ok (.getfield 34, 3) := by decide +kernel
theorem dX11_bed_51 : decode cX11_bed 51 = .ok (.iload_n 1, 1) := by decide +kernel
theorem dX11_bed_52 : decode cX11_bed 52 = .ok (.iload_n 3, 1) := by decide +kernel
theorem dX11_bed_53 : decode cX11_bed 53 = .ok (.iastore, 1) := by decide +kernel
theorem dX11_bed_54 : decode cX11_bed 54 = .ok (.iconst 0, 1) := by decide +kernel
theorem dX11_bed_55 : decode cX11_bed 55 = .ok (.istore 4, 2) := by decide +kernel
theorem dX11_bed_57 : decode cX11_bed 57 = .ok (.iload 4, 2) := by decide +kernel
theorem dX11_bed_59 : decode cX11_bed 59 = .ok (.iload_n 3, 1) := by decide +kernel
theorem dX11_bed_60 : decode cX11_bed 60 = .ok (.if_icmp .ge 22, 3) := by decide +kernel
theorem dX11_bed_63 : decode cX11_bed 63 = .ok (.aload_n 0, 1) := by decide +kernel
theorem dX11_bed_64 : decode cX11_bed 64 = .ok (.getfield 37, 3) := by decide +kernel
theorem dX11_bed_67 : decode cX11_bed 67 = .ok (.bipush 100, 2) := by decide +kernel
theorem dX11_bed_69 : decode cX11_bed 69 = .ok (.iload_n 1, 1) := by decide +kernel
theorem dX11_bed_70 : decode cX11_bed 70 = .ok (.imul, 1) := by decide +kernel
theorem dX11_bed_71 : decode cX11_bed 71 = .ok (.iload 4, 2) := by decide +kernel
theorem dX11_bed_73 : decode cX11_bed 73 = .ok (.iadd, 1) := by decide +kernel
theorem dX11_bed_74 : decode cX11_bed 74 = .ok (.lconst 0, 1) := by decide +kernel
theorem dX11_bed_75 : decode cX11_bed 75 = .ok (.lastore, 1) := by decide +kernel
theorem dX11_bed_76 : decode cX11_bed 76 = .ok (.iinc 4 1, 3) := by decide +kernel
theorem dX11_bed_79 : decode cX11_bed 79 = .ok (.goto (-22), 3) := by decide +kernel
theorem dX11_bed_82 : decode cX11_bed 82 = .ok (.aload_n 0, 1) := by decide +kernel
theorem dX11_bed_83 : decode cX11_bed 83 = .ok (.iload_n 3, 1) := by decide +kernel
theorem dX11_bed_84 : decode cX11_bed 84 = .ok (.invokevirtual 96, 3) := by decide +kernel
theorem dX11_bed_87 : decode cX11_bed 87 = .ok (.ireturn, 1) := by decide +kernel
theorem dX11_set_0 : decode cX11_set 0 = .ok (.iload_n 1, 1) := by decide +kernel
theorem dX11_set_1 : decode cX11_set 1 = .ok (.invokestatic 85, 3) := by decide +kernel
theorem dX11_set_4 : decode cX11_set 4 = .ok (.ifCond .ne 7, 3) := by decide +kernel
theorem dX11_set_7 : decode cX11_set 7 = .ok (.ldc2_w 99, 3) := by decide +kernel
theorem dX11_set_10 : decode cX11_set 10 = .ok (.lreturn, 1) := by decide +kernel
theorem dX11_set_11 : decode cX11_set 11 = .ok (.aload_n 0, 1) := by decide +kernel
theorem dX11_set_12 : decode cX11_set 12 = .ok (.getfield 31, 3) := by decide +kernel
theorem dX11_set_15 : decode cX11_set 15 = .ok (.iload_n 1, 1) := by decide +kernel
theorem dX11_set_16 : decode cX11_set 16 = .ok (.iaload, 1) := by decide +kernel
theorem dX11_set_17 : decode cX11_set 17 = .ok (.ifCond .ne 10, 3) := by decide +kernel
theorem dX11_set_20 : decode cX11_set 20 = .ok (.aload_n 0, 1) := by decide +kernel
theorem dX11_set_21 : decode cX11_set 21 = .ok (.iconst 1, 1) := by decide +kernel
theorem dX11_set_22 : decode cX11_set 22 = .ok (.invokevirtual 92, 3) := by decide +kernel
theorem dX11_set_25 : decode cX11_set 25 = .ok (.i2l, 1) := by decide +kernel
theorem dX11_set_26 : decode cX11_set 26 = .ok (.lreturn, 1) := by decide +kernel
theorem dX11_set_27 : decode cX11_set 27 = .ok (.iload_n 2, 1) := by decide +kernel
theorem dX11_set_28 : decode cX11_set 28 = .ok (.i2l, 1) := by decide +kernel
theorem dX11_set_29 : decode cX11_set 29 = .ok (.lconst 0, 1) := by decide +kernel
theorem dX11_set_30 : decode cX11_set 30 = .ok (.aload_n 0, 1) := by decide +kernel
theorem dX11_set_31 : decode cX11_set 31 = .ok (.getfield 34, 3) := by decide +kernel
theorem dX11_set_34 : decode cX11_set 34 = .ok (.iload_n 1, 1) := by decide +kernel
theorem dX11_set_35 : decode cX11_set 35 = .ok (.iaload, 1) := by decide +kernel
theorem dX11_set_36 : decode cX11_set 36 = .ok (.iconst 1, 1) := by decide +kernel
theorem dX11_set_37 : decode cX11_set 37 = .ok (.isub, 1) := by decide +kernel
theorem dX11_set_38 : decode cX11_set 38 = .ok (.i2l, 1) := by decide +kernel
theorem dX11_set_39 : decode cX11_set 39 = .ok (.invokestatic 81, 3) := by decide +kernel
theorem dX11_set_42 : decode cX11_set 42 = .ok (.ifCond .ne 10, 3) := by decide +kernel
theorem dX11_set_45 : decode cX11_set 45 = .ok (.aload_n 0, 1) := by decide +kernel
theorem dX11_set_46 : decode cX11_set 46 = .ok (.iconst 2, 1) := by decide +kernel
theorem dX11_set_47 : decode cX11_set 47 = .ok (.invokevirtual 92, 3) := by decide +kernel
theorem dX11_set_50 : decode cX11_set 50 = .ok (.i2l, 1) := by decide +kernel
theorem dX11_set_51 : decode cX11_set 51 = .ok (.lreturn, 1) := by decide +kernel
theorem dX11_set_52 : decode cX11_set 52 = .ok (.aload_n 0, 1) := by decide +kernel
theorem dX11_set_53 : decode cX11_set 53 = .ok (.getfield 31, 3) := by decide +kernel
theorem dX11_set_56 : decode cX11_set 56 = .ok (.iload_n 1, 1) := by decide +kernel
theorem dX11_set_57 : decode cX11_set 57 = .ok (.iaload, 1) := by decide +kernel
theorem dX11_set_58 : decode cX11_set 58 = .ok (.iconst 1, 1) := by decide +kernel
theorem dX11_set_59 : decode cX11_set 59 = .ok (.if_icmp .ne 10, 3) := by decide +kernel
theorem dX11_set_62 : decode cX11_set 62 = .ok (.lload_n 3, 1) := by decide +kernel
theorem dX11_set_63 : decode cX11_set 63 = .ok (.l2i, 1) := by decide +kernel
theorem dX11_set_64 : decode cX11_set 64 = .ok (.i2s, 1) := by decide +kernel
theorem dX11_set_65 : decode cX11_set 65 = .ok (.i2l, 1) := by decide +kernel
theorem dX11_set_66 : decode cX11_set 66 = .ok (.goto 20, 3) := by decide +kernel
theorem dX11_set_69 : decode cX11_set 69 = .ok (.aload_n 0, 1) := by decide +kernel
theorem dX11_set_70 : decode cX11_set 70 = .ok (.getfield 31, 3) := by decide +kernel
theorem dX11_set_73 : decode cX11_set 73 = .ok (.iload_n 1, 1) := by decide +kernel
theorem dX11_set_74 : decode cX11_set 74 = .ok (.iaload, 1) := by decide +kernel
theorem dX11_set_75 : decode cX11_set 75 = .ok (.iconst 2, 1) := by decide +kernel
theorem dX11_set_76 : decode cX11_set 76 = .ok (.if_icmp .ne 9, 3) := by decide +kernel
theorem dX11_set_79 : decode cX11_set 79 = .ok (.lload_n 3, 1) := by decide +kernel
theorem dX11_set_80 : decode cX11_set 80 = .ok (.l2i, 1) := by decide +kernel
theorem dX11_set_81 : decode cX11_set 81 = .ok (.i2l, 1) := by decide +kernel
theorem dX11_set_82 : decode cX11_set 82 = .ok (.goto 4, 3) := by decide +kernel
theorem dX11_set_85 : decode cX11_set 85 = .ok (.lload_n 3, 1) := by decide +kernel
theorem dX11_set_86 : decode cX11_set 86 = .ok (.lstore 5, 2) := by decide +kernel
theorem dX11_set_88 : decode cX11_set 88 = .ok (.aload_n 0, 1) := by decide +kernel
theorem dX11_set_89 : decode cX11_set 89 = .ok (.getfield 37, 3) := by decide +kernel
theorem dX11_set_92 : decode cX11_set 92 = .ok (.bipush 100, 2) := by decide +kernel
theorem dX11_set_94 : decode cX11_set 94 = .ok (.iload_n 1, 1) := by decide +kernel
theorem dX11_set_95 : decode cX11_set 95 = .ok (.imul, 1) := by decide +kernel
theorem dX11_set_96 : decode cX11_set 96 = .ok (.iload_n 2, 1) := by decide +kernel
theorem dX11_set_97 : decode cX11_set 97 = .ok (.iadd, 1) := by decide +kernel
theorem dX11_set_98 : decode cX11_set 98 = .ok (.lload 5, 2) := by decide +kernel
theorem dX11_set_100 : decode cX11_set 100 = .ok (.lastore, 1) := by decide +kernel
theorem dX11_set_101 : decode cX11_set 101 = .ok (.aload_n 0, 1) := by decide +kernel
theorem dX11_set_102 : decode cX11_set 102 = .ok (.iconst 0, 1) := by decide +kernel
theorem dX11_set_103 : decode cX11_set 103 = .ok (.putfield 75, 3) := by decide +kernel
theorem dX11_set_106 : decode cX11_set 106 = .ok (.lload 5, 2) := by decide +kernel
theorem dX11_set_108 : decode cX11_set 108 = .ok (.lreturn, 1) := by decide +kernel
theorem dX11_drop_0 : decode cX11_drop 0 = .ok (.iload_n 1, 1) := by decide +kernel
theorem dX11_drop_1 : decode cX11_drop 1 = .ok (.invokestatic 85, 3) := by decide +kernel
theorem dX11_drop_4 : decode cX11_drop 4 = .ok (.ifCond .ne 6, 3) := by decide +kernel
theorem dX11_drop_7 : decode cX11_drop 7 = .ok (.ldc 91, 2) := by decide +kernel
theorem dX11_drop_9 : decode cX11_drop 9 = .ok (.ireturn, 1) := by decide +kernel
theorem dX11_drop_10 : decode cX11_drop 10 = .ok (.aload_n 0, 1) := by decide +kernel
theorem dX11_drop_11 : decode cX11_drop 11 = .ok (.getfield 31, 3) := by decide +kernel
theorem dX11_drop_14 : decode cX11_drop 14 = .ok (.iload_n 1, 1) := by decide +kernel
theorem dX11_drop_15 : decode cX11_drop 15 = .ok (.iaload, 1) := by decide +kernel
theorem dX11_drop_16 : decode cX11_drop 16 = .ok (.ifCond .ne 9, 3) := by decide +kernel
theorem dX11_drop_19 : decode cX11_drop 19 = .ok (.aload_n 0, 1) := by decide +kernel
theorem dX11_drop_20 : decode cX11_drop 20 = .ok (.iconst 1, 1) := by decide +kernel
theorem dX11_drop_21 : decode cX11_drop 21 = .ok (.invokevirtual 92, 3) := by decide +kernel
theorem dX11_drop_24 : decode cX11_drop 24 = .ok (.ireturn, 1) := by decide +kernel
theorem dX11_drop_25 : decode cX11_drop 25 = .ok (.aload_n 0, 1) := by decide +kernel
theorem dX11_drop_26 : decode cX11_drop 26 = .ok (.getfield 31, 3) := by decide +kernel
theorem dX11_drop_29 : decode cX11_drop 29 = .ok (.iload_n 1, 1) := by decide +kernel
theorem dX11_drop_30 : decode cX11_drop 30 = .ok (.iconst 0, 1) := by decide +kernel
theorem dX11_drop_31 : decode cX11_drop 31 = .ok (.iastore, 1) := by decide +kernel
theorem dX11_drop_32 : decode cX11_drop 32 = .ok (.aload_n 0, 1) := by decide +kernel
theorem dX11_drop_33 : decode cX11_drop 33 = .ok (.aload_n 0, 1) := by decide +kernel
theorem dX11_drop_34 : decode cX11_drop 34 = .ok (.getfield 34, 3) := by decide +kernel
theorem dX11_drop_37 : decode cX11_drop 37 = .ok (.iload_n 1, 1) := by decide +kernel
theorem dX11_drop_38 : decode cX11_drop 38 = .ok (.iaload, 1) := by decide +kernel
theorem dX11_drop_39 : decode cX11_drop 39 = .ok (.invokevirtual 96, 3) := by decide +kernel
theorem dX11_drop_42 : decode cX11_drop 42 = .ok (.ireturn, 1) := by decide +kernel
theorem dX11_copy_0 : decode cX11_copy 0 = .ok (.iload_n 1, 1) := by decide +kernel
theorem dX11_copy_1 : decode cX11_copy 1 = .ok (.invokestatic 85, 3) := by decide +kernel
theorem dX11_copy_4 : decode cX11_copy 4 = .ok (.ifCond .eq 10, 3) := by decide +kernel
theorem dX11_copy_7 : decode cX11_copy 7 = .ok (.iload_n 3, 1) := by decide +kernel
theorem dX11_copy_8 : decode cX11_copy 8 = .ok (.invokestatic 85, 3) := by decide +kernel
theorem dX11_copy_11 : decode cX11_copy 11 = .ok (.ifCond .ne 6, 3) := by decide +kernel
theorem dX11_copy_14 : decode cX11_copy 14 = .ok (.ldc 91, 2) := by decide +kernel
theorem dX11_copy_16 : decode cX11_copy 16 = .ok (.ireturn, 1) := by decide +kernel
theorem dX11_copy_17 : decode cX11_copy 17 = .ok (.aload_n 0, 1) := by decide +kernel
theorem dX11_copy_18 : decode cX11_copy 18 = .ok (.getfield 31, 3) := by decide +kernel
theorem dX11_copy_21 : decode cX11_copy 21 = .ok (.iload_n 1, 1) := by decide +kernel
theorem dX11_copy_22 : decode cX11_copy 22 = .ok (.iaload, 1) := by decide +kernel
theorem dX11_copy_23 : decode cX11_copy 23 = .ok (.ifCond .eq 12, 3) := by decide +kernel
theorem dX11_copy_26 : decode cX11_copy 26 = .ok (.aload_n 0, 1) := by decide +kernel
theorem dX11_copy_27 : decode cX11_copy 27 = .ok (.getfield 31, 3) := by decide +kernel
theorem dX11_copy_30 : decode cX11_copy 30 = .ok (.iload_n 3, 1) := by decide +kernel
theorem dX11_copy_31 : decode cX11_copy 31 = .ok (.iaload, 1) := by decide +kernel
theorem dX11_copy_32 : decode cX11_copy 32 = .ok (.ifCond .ne 9, 3) := by decide +kernel
theorem dX11_copy_35 : decode cX11_copy 35 = .ok (.aload_n 0, 1) := by decide +kernel
theorem dX11_copy_36 : decode cX11_copy 36 = .ok (.iconst 1, 1) := by decide +kernel
theorem dX11_copy_37 : decode cX11_copy 37 = .ok (.invokevirtual 92, 3) := by decide +kernel
theorem dX11_copy_40 : decode cX11_copy 40 = .ok (.ireturn, 1) := by decide +kernel
theorem dX11_copy_41 : decode cX11_copy 41 = .ok (.aload_n 0, 1) := by decide +kernel
theorem dX11_copy_42 : decode cX11_copy 42 = .ok (.getfield 31, 3) := by decide +kernel
theorem dX11_copy_45 : decode cX11_copy 45 = .ok (.iload_n 1, 1) := by decide +kernel
theorem dX11_copy_46 : decode cX11_copy 46 = .ok (.iaload, 1) := by decide +kernel
theorem dX11_copy_47 : decode cX11_copy 47 = .ok (.aload_n 0, 1) := by decide +kernel
theorem dX11_copy_48 : decode cX11_copy 48 = .ok (.getfield 31, 3) := by decide +kernel
theorem dX11_copy_51 : decode cX11_copy 51 = .ok (.iload_n 3, 1) := by decide +kernel
theorem dX11_copy_52 : decode cX11_copy 52 = .ok (.iaload, 1) := by decide +kernel
theorem dX11_copy_53 : decode cX11_copy 53 = .ok (.if_icmp .eq 9, 3) := by decide +kernel
theorem dX11_copy_56 : decode cX11_copy 56 = .ok (.aload_n 0, 1) := by decide +kernel
theorem dX11_copy_57 : decode cX11_copy 57 = .ok (.iconst 5, 1) := by decide +kernel
theorem dX11_copy_58 : decode cX11_copy 58 = .ok (.invokevirtual 92, 3) := by decide +kernel
theorem dX11_copy_61 : decode cX11_copy 61 = .ok (.ireturn, 1) := by decide +kernel
theorem dX11_copy_62 : decode cX11_copy 62 = .ok (.iload_n 2, 1) := by decide +kernel
theorem dX11_copy_63 : decode cX11_copy 63 = .ok (.ifCond .lt 48, 3) := by decide +kernel
theorem dX11_copy_66 : decode cX11_copy 66 = .ok (.iload 4, 2) := by decide +kernel
theorem dX11_copy_68 : decode cX11_copy 68 = .ok (.ifCond .lt 43, 3) := by decide +kernel
theorem dX11_copy_71 : decode cX11_copy 71 = .ok (.iload 5, 2) := by decide +kernel
theorem dX11_copy_73 : decode cX11_copy 73 = .ok (.ifCond .lt 38, 3) := by decide +kernel
theorem dX11_copy_76 : decode cX11_copy 76 = .ok (.iload_n 2, 1) := by decide +kernel
theorem dX11_copy_77 : decode cX11_copy 77 = .ok (.i2l, 1) := by decide +kernel
theorem dX11_copy_78 : decode cX11_copy 78 = .ok (.iload 5, 2) := by decide +kernel
theorem dX11_copy_80 : decode cX11_copy 80 = .ok (.i2l, 1) := by decide +kernel
theorem dX11_copy_81 : decode cX11_copy 81 = .ok (.ladd, 1) := by decide +kernel
theorem dX11_copy_82 : decode cX11_copy 82 = .ok (.aload_n 0, 1) := by decide +kernel
theorem dX11_copy_83 : decode cX11_copy 83 = .ok (.getfield 34, 3) := by decide +kernel
theorem dX11_copy_86 : decode cX11_copy 86 = .ok (.iload_n 1, 1) := by decide +kernel
theorem dX11_copy_87 : decode cX11_copy 87 = .ok (.iaload, 1) := by decide +kernel
theorem dX11_copy_88 : decode cX11_copy 88 = .ok (.i2l, 1) := by decide +kernel
theorem dX11_copy_89 : decode cX11_copy 89 = .ok (.lcmp, 1) := by decide +kernel
theorem dX11_copy_90 : decode cX11_copy 90 = .ok (.ifCond .gt 21, 3) := by decide +kernel
theorem dX11_copy_93 : decode cX11_copy 93 = .ok (.iload 4, 2) := by decide +kernel
theorem dX11_copy_95 : decode cX11_copy 95 = .ok (.i2l, 1) := by decide +kernel
theorem dX11_copy_96 : decode cX11_copy 96 = .ok (.iload 5, 2) := by decide +kernel
theorem dX11_copy_98 : decode cX11_copy 98 = .ok (.i2l, 1) := by decide +kernel
theorem dX11_copy_99 : decode cX11_copy 99 = .ok (.ladd, 1) := by decide +kernel
theorem dX11_copy_100 : decode cX11_copy 100 = .ok (.aload_n 0, 1) := by decide +kernel
theorem dX11_copy_101 : decode cX11_copy 101 = .ok (.getfield 34, 3) := by decide +kernel
theorem dX11_copy_104 : decode cX11_copy 104 = .ok (.iload_n 3, 1) := by decide +kernel
theorem dX11_copy_105 : decode cX11_copy 105 = .ok (.iaload, 1) := by decide +kernel
theorem dX11_copy_106 : decode cX11_copy 106 = .ok (.i2l, 1) := by decide +kernel
theorem dX11_copy_107 : decode cX11_copy 107 = .ok (.lcmp, 1) := by decide +kernel
theorem dX11_copy_108 : decode cX11_copy 108 = .ok (.ifCond .le 9, 3) := by decide +kernel
theorem dX11_copy_111 : decode cX11_copy 111 = .ok (.aload_n 0, 1) := by decide +kernel
theorem dX11_copy_112 : decode cX11_copy 112 = .ok (.iconst 2, 1) := by decide +kernel
theorem dX11_copy_113 : decode cX11_copy 113 = .ok (.invokevirtual 92, 3) := by decide +kernel
theorem dX11_copy_116 : decode cX11_copy 116 = .ok (.ireturn, 1) := by decide +kernel
theorem dX11_copy_117 : decode cX11_copy 117 = .ok (.iconst 0, 1) := by decide +kernel
theorem dX11_copy_118 : decode cX11_copy 118 = .ok (.istore 6, 2) := by decide +kernel
theorem dX11_copy_120 : decode cX11_copy 120 = .ok (.iload 6, 2) := by decide +kernel
theorem dX11_copy_122 : decode cX11_copy 122 = .ok (.iload 5, 2) := by decide +kernel
theorem dX11_copy_124 : decode cX11_copy 124 = .ok (.if_icmp .ge 30, 3) := by decide +kernel
theorem dX11_copy_127 : decode cX11_copy 127 = .ok (.aload_n 0, 1) := by decide +kernel
theorem dX11_copy_128 : decode cX11_copy 128 = .ok (.getfield 41, 3) := by decide +kernel
theorem dX11_copy_131 : decode cX11_copy 131 = .ok (.iload 6, 2) := by decide +kernel
theorem dX11_copy_133 : decode cX11_copy 133 = .ok (.aload_n 0, 1) := by decide +kernel
theorem dX11_copy_134 : decode cX11_copy 134 = .ok (.getfield 37, 3) := by decide +kernel
theorem dX11_copy_137 : decode cX11_copy 137 = .ok (.bipush 100, 2) := by decide +kernel
theorem dX11_copy_139 : decode cX11_copy 139 = .ok (.iload_n 1, 1) := by decide +kernel
theorem dX11_copy_140 : decode cX11_copy 140 = .ok (.imul, 1) := by decide +kernel
theorem dX11_copy_141 : decode cX11_copy 141 = .ok (.iload_n 2, 1) := by decide +kernel
theorem dX11_copy_142 : decode cX11_copy 142 = .ok (.iadd, 1) := by decide +kernel
theorem dX11_copy_143 : decode cX11_copy 143 = .ok (.iload 6, 2) := by decide +kernel
theorem dX11_copy_145 : decode cX11_copy 145 = .ok (.iadd, 1) := by decide +kernel
theorem dX11_copy_146 : decode cX11_copy 146 = .ok (.laload, 1) := by decide +kernel
theorem dX11_copy_147 : decode cX11_copy 147 = .ok (.lastore, 1) := by decide +kernel
theorem dX11_copy_148 : decode cX11_copy 148 = .ok (.iinc 6 1, 3) := by decide +kernel
theorem dX11_copy_151 : decode cX11_copy 151 = .ok (.goto (-31), 3) := by decide +kernel
theorem dX11_copy_154 : decode cX11_copy 154 = .ok (.iconst 0, 1) := by decide +kernel
theorem dX11_copy_155 : decode cX11_copy 155 = .ok (.istore 6, 2) := by decide +kernel
theorem dX11_copy_157 : decode cX11_copy 157 = .ok (.iload 6, 2) := by decide +kernel
theorem dX11_copy_159 : decode cX11_copy 159 = .ok (.iload 5, 2) := by decide +kernel
theorem dX11_copy_161 : decode cX11_copy 161 = .ok (.if_icmp .ge 31, 3) := by decide +kernel
theorem dX11_copy_164 : decode cX11_copy 164 = .ok (.aload_n 0, 1) := by decide +kernel
theorem dX11_copy_165 : decode cX11_copy 165 = .ok (.getfield 37, 3) := by decide +kernel
theorem dX11_copy_168 : decode cX11_copy 168 = .ok (.bipush 100, 2) := by decide +kernel
theorem dX11_copy_170 : decode cX11_copy 170 = .ok (.iload_n 3, 1) := by decide +kernel
theorem dX11_copy_171 : decode cX11_copy 171 = .ok (.imul, 1) := by decide +kernel
theorem dX11_copy_172 : decode cX11_copy 172 = .ok (.iload 4, 2) := by decide +kernel
theorem dX11_copy_174 : decode cX11_copy 174 = .ok (.iadd, 1) := by decide +kernel
theorem dX11_copy_175 : decode cX11_copy 175 = .ok (.iload 6, 2) := by decide +kernel
theorem dX11_copy_177 : decode cX11_copy 177 = .ok (.iadd, 1) := by decide +kernel
theorem dX11_copy_178 : decode cX11_copy 178 = .ok (.aload_n 0, 1) := by decide +kernel
theorem dX11_copy_179 : decode cX11_copy 179 = .ok (.getfield 41, 3) := by decide +kernel
theorem dX11_copy_182 : decode cX11_copy 182 = .ok (.iload 6, 2) := by decide +kernel
theorem dX11_copy_184 : decode cX11_copy 184 = .ok (.laload, 1) := by decide +kernel
theorem dX11_copy_185 : decode cX11_copy 185 = .ok (.lastore, 1) := by decide +kernel
theorem dX11_copy_186 : decode cX11_copy 186 = .ok (.iinc 6 1, 3) := by decide +kernel
theorem dX11_copy_189 : decode cX11_copy 189 = .ok (.goto (-32), 3) := by decide +kernel
theorem dX11_copy_192 : decode cX11_copy 192 = .ok (.aload_n 0, 1) := by decide +kernel
theorem dX11_copy_193 : decode cX11_copy 193 = .ok (.iload 5, 2) := by decide +kernel
theorem dX11_copy_195 : decode cX11_copy 195 = .ok (.invokevirtual 96, 3) := by decide +kernel
theorem dX11_copy_198 : decode cX11_copy 198 = .ok (.ireturn, 1) := by decide +kernel
theorem dX11_isPlant_0 : decode cX11_isPlant 0 = .ok (.iload_n 1, 1) := by decide +kernel
theorem dX11_isPlant_1 : decode cX11_isPlant 1 = .ok (.i2l, 1) := by decide +kernel
theorem dX11_isPlant_2 : decode cX11_isPlant 2 = .ok (.lconst 0, 1) := by decide +kernel
theorem dX11_isPlant_3 : decode cX11_isPlant 3 = .ok (.aload_n 0, 1) := by decide +kernel
theorem dX11_isPlant_4 : decode cX11_isPlant 4 = .ok (.getfield 101, 3) := by decide +kernel
theorem dX11_isPlant_7 : decode cX11_isPlant 7 = .ok (.iconst 1, 1) := by decide +kernel
theorem dX11_isPlant_8 : decode cX11_isPlant 8 = .ok (.isub, 1) := by decide +kernel
theorem dX11_isPlant_9 : decode cX11_isPlant 9 = .ok (.i2l, 1) := by decide +kernel
theorem dX11_isPlant_10 : decode cX11_isPlant 10 = .ok (.invokestatic 81, 3) := by decide +kernel
theorem dX11_isPlant_13 : decode cX11_isPlant 13 = .ok (.ireturn, 1) := by decide +kernel
theorem dX11_keep_0 : decode cX11_keep 0 = .ok (.aload_n 0, 1) := by decide +kernel
theorem dX11_keep_1 : decode cX11_keep 1 = .ok (.iload_n 1, 1) := by decide +kernel
theorem dX11_keep_2 : decode cX11_keep 2 = .ok (.putfield 27, 3) := by decide +kernel
theorem dX11_keep_5 : decode cX11_keep 5 = .ok (.aload_n 0, 1) := by decide +kernel
theorem dX11_keep_6 : decode cX11_keep 6 = .ok (.iload_n 2, 1) := by decide +kernel
theorem dX11_keep_7 : decode cX11_keep 7 = .ok (.putfield 104, 3) := by decide +kernel
theorem dX11_keep_10 : decode cX11_keep 10 = .ok (.aload_n 0, 1) := by decide +kernel
theorem dX11_keep_11 : decode cX11_keep 11 = .ok (.aload_n 0, 1) := by decide +kernel
theorem dX11_keep_12 : decode cX11_keep 12 = .ok (.getfield 7, 3) := by decide +kernel
theorem dX11_keep_15 : decode cX11_keep 15 = .ok (.iload_n 1, 1) := by decide +kernel
theorem dX11_keep_16 : decode cX11_keep 16 = .ok (.iaload, 1) := by decide +kernel
theorem dX11_keep_17 : decode cX11_keep 17 = .ok (.putfield 108, 3) := by decide +kernel
theorem dX11_keep_20 : decode cX11_keep 20 = .ok (.aload_n 0, 1) := by decide +kernel
theorem dX11_keep_21 : decode cX11_keep 21 = .ok (.aload_n 0, 1) := by decide +kernel
theorem dX11_keep_22 : decode cX11_keep 22 = .ok (.getfield 13, 3) := by decide +kernel
theorem dX11_keep_25 : decode cX11_keep 25 = .ok (.iload_n 1, 1) := by decide +kernel
theorem dX11_keep_26 : decode cX11_keep 26 = .ok (.iaload, 1) := by decide +kernel
theorem dX11_keep_27 : decode cX11_keep 27 = .ok (.putfield 111, 3) := by decide +kernel
theorem dX11_keep_30 : decode cX11_keep 30 = .ok (.aload_n 0, 1) := by decide +kernel
theorem dX11_keep_31 : decode cX11_keep 31 = .ok (.aload_n 0, 1) := by decide +kernel
theorem dX11_keep_32 : decode cX11_keep 32 = .ok (.getfield 19, 3) := by decide +kernel
theorem dX11_keep_35 : decode cX11_keep 35 = .ok (.iload_n 1, 1) := by decide +kernel
theorem dX11_keep_36 : decode cX11_keep 36 = .ok (.iaload, 1) := by decide +kernel
theorem dX11_keep_37 : decode cX11_keep 37 = .ok (.putfield 114, 3) := by decide +kernel
theorem dX11_keep_40 : decode cX11_keep 40 = .ok (.aload_n 0, 1) := by decide +kernel
theorem dX11_keep_41 : decode cX11_keep 41 = .ok (.aload_n 0, 1) := by decide +kernel
theorem dX11_keep_42 : decode cX11_keep 42 = .ok (.getfield 22, 3) := by decide +kernel
theorem dX11_keep_45 : decode cX11_keep 45 = .ok (.iload_n 1, 1) := by decide +kernel
theorem dX11_keep_46 : decode cX11_keep 46 = .ok (.baload, 1) := by decide +kernel
theorem dX11_keep_47 : decode cX11_keep 47 = .ok (.putfield 117, 3) := by decide +kernel
theorem dX11_keep_50 : decode cX11_keep 50 = .ok (.return_, 1) := by decide +kernel
theorem dX11_plant_0 : decode cX11_plant 0 = .ok (.iload_n 1, 1) := by decide +kernel
theorem dX11_plant_1 : decode cX11_plant 1 = .ok (.invokestatic 85, 3) := by decide +kernel
theorem dX11_plant_4 : decode cX11_plant 4 = .ok (.ifCond .eq 15, 3) := by decide +kernel
theorem dX11_plant_7 : decode cX11_plant 7 = .ok (.iload_n 3, 1) := by decide +kernel
theorem dX11_plant_8 : decode cX11_plant 8 = .ok (.i2l, 1) := by decide +kernel
theorem dX11_plant_9 : decode cX11_plant 9 = .ok (.lconst 0, 1) := by decide +kernel
theorem dX11_plant_10 : decode cX11_plant 10 = .ok (.ldc2_w 120, 3) := by decide +kernel
theorem dX11_plant_13 : decode cX11_plant 13 = .ok (.invokestatic 81, 3) := by decide +kernel
theorem dX11_plant_16 : decode cX11_plant 16 = .ok (.ifCond .ne 6, 3) := by decide +kernel
theorem dX11_plant_19 : decode cX11_plant 19 = .ok (.ldc 91, 2) := by decide +kernel
theorem dX11_plant_21 : decode cX11_plant 21 = .ok (.ireturn, 1) := by decide +kernel
theorem dX11_plant_22 : decode cX11_plant 22 = .ok (.aload_n 0, 1) := by decide +kernel
theorem dX11_plant_23 : decode cX11_plant 23 = .ok (.getfield 101, 3) := by decide +kernel
theorem dX11_plant_26 : decode cX11_plant 26 = .ok (.bipush 40, 2) := by decide +kernel
theorem dX11_plant_28 : decode cX11_plant 28 = .ok (.if_icmp .ne 6, 3) := by decide +kernel
theorem dX11_plant_31 : decode cX11_plant 31 = .ok (.ldc 122, 2) := by decide +kernel
theorem dX11_plant_33 : decode cX11_plant 33 = .ok (.ireturn, 1) := by decide +kernel
theorem dX11_plant_34 : decode cX11_plant 34 = .ok (.aload_n 0, 1) := by decide +kernel
theorem dX11_plant_35 : decode cX11_plant 35 = .ok (.getfield 31, 3) := by decide +kernel
theorem dX11_plant_38 : decode cX11_plant 38 = .ok (.iload_n 1, 1) := by decide +kernel
theorem dX11_plant_39 : decode cX11_plant 39 = .ok (.iaload, 1) := by decide +kernel
theorem dX11_plant_40 : decode cX11_plant 40 = .ok (.ifCond .ne 9, 3) := by decide +kernel
theorem dX11_plant_43 : decode cX11_plant 43 = .ok (.aload_n 0, 1) := by decide +kernel
theorem dX11_plant_44 : decode cX11_plant 44 = .ok (.iconst 1, 1) := by decide +kernel
theorem dX11_plant_45 : decode cX11_plant 45 = .ok (.invokevirtual 92, 3) := by decide +kernel
theorem dX11_plant_48 : decode cX11_plant 48 = .ok (.ireturn, 1) := by decide +kernel
theorem dX11_plant_49 : decode cX11_plant 49 = .ok (.iload_n 2, 1) := by decide +kernel
theorem dX11_plant_50 : decode cX11_plant 50 = .ok (.i2l, 1) := by decide +kernel
theorem dX11_plant_51 : decode cX11_plant 51 = .ok (.lconst 0, 1) := by decide +kernel
theorem dX11_plant_52 : decode cX11_plant 52 = .ok (.aload_n 0, 1) := by decide +kernel
theorem dX11_plant_53 : decode cX11_plant 53 = .ok (.getfield 34, 3) := by decide +kernel
theorem dX11_plant_56 : decode cX11_plant 56 = .ok (.iload_n 1, 1) := by decide +kernel
theorem dX11_plant_57 : decode cX11_plant 57 = .ok (.iaload, 1) := by decide +kernel
theorem dX11_plant_58 : decode cX11_plant 58 = .ok (.iconst 2, 1) := by decide +kernel
theorem dX11_plant_59 : decode cX11_plant 59 = .ok (.isub, 1) := by decide +kernel
theorem dX11_plant_60 : decode cX11_plant 60 = .ok (.i2l, 1) := by decide +kernel
theorem dX11_plant_61 : decode cX11_plant 61 = .ok (.invokestatic 81, 3) := by decide +kernel
theorem dX11_plant_64 : decode cX11_plant 64 = .ok (.ifCond .ne 9, 3) := by decide +kernel
theorem dX11_plant_67 : decode cX11_plant 67 = .ok (.aload_n 0, 1) := by decide +kernel
theorem dX11_plant_68 : decode cX11_plant 68 = .ok (.iconst 2, 1) := by decide +kernel
theorem dX11_plant_69 : decode cX11_plant 69 = .ok (.invokevirtual 92, 3) := by decide +kernel
theorem dX11_plant_72 : decode cX11_plant 72 = .ok (.ireturn, 1) := by decide +kernel
theorem dX11_plant_73 : decode cX11_plant 73 = .ok (.aload_n 0, 1) := by decide +kernel
theorem dX11_plant_74 : decode cX11_plant 74 = .ok (.getfield 37, 3) := by decide +kernel
theorem dX11_plant_77 : decode cX11_plant 77 = .ok (.bipush 100, 2) := by decide +kernel
theorem dX11_plant_79 : decode cX11_plant 79 = .ok (.iload_n 1, 1) := by decide +kernel
theorem dX11_plant_80 : decode cX11_plant 80 = .ok (.imul, 1) := by decide +kernel
theorem dX11_plant_81 : decode cX11_plant 81 = .ok (.iload_n 2, 1) := by decide +kernel
theorem dX11_plant_82 : decode cX11_plant 82 = .ok (.iadd, 1) := by decide +kernel
theorem dX11_plant_83 : decode cX11_plant 83 = .ok (.laload, 1) := by decide +kernel
theorem dX11_plant_84 : decode cX11_plant 84 = .ok (.lstore 4, 2) := by decide +kernel
theorem dX11_plant_86 : decode cX11_plant 86 = .ok (.aload_n 0, 1) := by decide +kernel
theorem dX11_plant_87 : decode cX11_plant 87 = .ok (.getfield 37, 3) := by decide +kernel
theorem dX11_plant_90 : decode cX11_plant 90 = .ok (.bipush 100, 2) := by decide +kernel
theorem dX11_plant_92 : decode cX11_plant 92 = .ok (.iload_n 1, 1) := by decide +kernel
theorem dX11_plant_93 : decode cX11_plant 93 = .ok (.imul, 1) := by decide +kernel
theorem dX11_plant_94 : decode cX11_plant 94 = .ok (.iload_n 2, 1) := by decide +kernel
theorem dX11_plant_95 : decode cX11_plant 95 = .ok (.iadd, 1) := by decide +kernel
theorem dX11_plant_96 : decode cX11_plant 96 = .ok (.iconst 1, 1) := by decide +kernel
theorem dX11_plant_97 : decode cX11_plant 97 = .ok (.iadd, 1) := by decide +kernel
theorem dX11_plant_98 : decode cX11_plant 98 = .ok (.laload, 1) := by decide +kernel
theorem dX11_plant_99 : decode cX11_plant 99 = .ok (.lstore 6, 2) := by decide +kernel
theorem dX11_plant_101 : decode cX11_plant 101 = .ok (.lload 4, 2) := by decide +kernel
theorem dX11_plant_103 : decode cX11_plant 103 = .ok (.ldc2_w 123, 3) := by decide +kernel
theorem dX11_plant_106 : decode cX11_plant 106 = .ok (.ldc2_w 125, 3) := by decide +kernel
theorem dX11_plant_109 : decode cX11_plant 109 = .ok (.invokestatic 81, 3) := by decide +kernel
theorem dX11_plant_112 : decode cX11_plant 112 = .ok (.ifCond .eq 17, 3) := by decide +kernel
theorem dX11_plant_115 : decode cX11_plant 115 = .ok (.lload 6, 2) := by decide +kernel
theorem dX11_plant_117 : decode cX11_plant 117 = .ok (.ldc2_w 123, 3) := by decide +kernel
theorem dX11_plant_120 : decode cX11_plant 120 = .ok (.ldc2_w 125, 3) := by decide +kernel
theorem dX11_plant_123 : decode cX11_plant 123 = .ok (.invokestatic 81, 3) := by decide +kernel
theorem dX11_plant_126 : decode cX11_plant 126 = .ok (.ifCond .ne 6, 3) := by decide +kernel
theorem dX11_plant_129 : decode cX11_plant 129 = .ok (.ldc 91, 2) := by decide +kernel
theorem dX11_plant_131 : decode cX11_plant 131 = .ok (.ireturn, 1) := by decide +kernel
theorem dX11_plant_132 : decode cX11_plant 132 = .ok (.aload_n 0, 1) := by decide +kernel
theorem dX11_plant_133 : decode cX11_plant 133 = .ok (.aload_n 0, 1) := by decide +kernel
theorem dX11_plant_134 : decode cX11_plant 134 = .ok (.getfield 101, 3) := by decide +kernel
theorem dX11_plant_137 : decode cX11_plant 137 = .ok (.iconst 1, 1) := by decide +kernel
theorem dX11_plant_138 : decode cX11_plant 138 = .ok (.invokevirtual 127, 3) := by decide +kernel
theorem dX11_plant_141 : decode cX11_plant 141 = .ok (.aload_n 0, 1) := by decide +kernel
theorem dX11_plant_142 : decode cX11_plant 142 = .ok (.getfield 7, 3) := by decide +kernel
theorem dX11_plant_145 : decode cX11_plant 145 = .ok (.aload_n 0, 1) := by decide +kernel
theorem dX11_plant_146 : decode cX11_plant 146 = .ok (.getfield 101, 3) := by decide +kernel
theorem dX11_plant_149 : decode cX11_plant 149 = .ok (.lload 4, 2) := by decide +kernel
theorem dX11_plant_151 : decode cX11_plant 151 = .ok (.l2i, 1) := by decide +kernel
theorem dX11_plant_152 : decode cX11_plant 152 = .ok (.iastore, 1) := by decide +kernel
theorem dX11_plant_153 : decode cX11_plant 153 = .ok (.aload_n 0, 1) := by decide +kernel
theorem dX11_plant_154 : decode cX11_plant 154 = .ok (.getfield 13, 3) := by decide +kernel
theorem dX11_plant_157 : decode cX11_plant 157 = .ok (.aload_n 0, 1) := by decide +kernel
theorem dX11_plant_158 : decode cX11_plant 158 = .ok (.getfield 101, 3) := by decide +kernel
theorem dX11_plant_161 : decode cX11_plant 161 = .ok (.lload 6, 2) := by decide +kernel
theorem dX11_plant_163 : decode cX11_plant 163 = .ok (.l2i, 1) := by decide +kernel
theorem dX11_plant_164 : decode cX11_plant 164 = .ok (.iastore, 1) := by decide +kernel
theorem dX11_plant_165 : decode cX11_plant 165 = .ok (.aload_n 0, 1) := by decide +kernel
theorem dX11_plant_166 : decode cX11_plant 166 = .ok (.getfield 16, 3) := by decide +kernel
theorem dX11_plant_169 : decode cX11_plant 169 = .ok (.aload_n 0, 1) := by decide +kernel
theorem dX11_plant_170 : decode cX11_plant 170 = .ok (.getfield 101, 3) := by decide +kernel
theorem dX11_plant_173 : decode cX11_plant 173 = .ok (.iload_n 3, 1) := by decide +kernel
theorem dX11_plant_174 : decode cX11_plant 174 = .ok (.iastore, 1) := by decide +kernel
theorem dX11_plant_175 : decode cX11_plant 175 = .ok (.aload_n 0, 1) := by decide +kernel
theorem dX11_plant_176 : decode cX11_plant 176 = .ok (.getfield 19, 3) := by decide +kernel
theorem dX11_plant_179 : decode cX11_plant 179 = .ok (.aload_n 0, 1) := by decide +kernel
theorem dX11_plant_180 : decode cX11_plant 180 = .ok (.getfield 101, 3) := by decide +kernel
theorem dX11_plant_183 : decode cX11_plant 183 = .ok (.iconst 0, 1) := by decide +kernel
theorem dX11_plant_184 : decode cX11_plant 184 = .ok (.iastore, 1) := by decide +kernel
theorem dX11_plant_185 : decode cX11_plant 185 = .ok (.aload_n 0, 1) := by decide +kernel
theorem dX11_plant_186 : decode cX11_plant 186 = .ok (.getfield 22, 3) := by decide +kernel
theorem dX11_plant_189 : decode cX11_plant 189 = .ok (.aload_n 0, 1) := by decide +kernel
theorem dX11_plant_190 : decode cX11_plant 190 = .ok (.getfield 101, 3) := by decide +kernel
theorem dX11_plant_193 : decode cX11_plant 193 = .ok (.iconst 0, 1) := by decide +kernel
theorem dX11_plant_194 : decode cX11_plant 194 = .ok (.bastore, 1) := by decide +kernel
theorem dX11_plant_195 : decode cX11_plant 195 = .ok (.aload_n 0, 1) := by decide +kernel
theorem dX11_plant_196 : decode cX11_plant 196 = .ok (.dup, 1) := by decide +kernel
theorem dX11_plant_197 : decode cX11_plant 197 = .ok (.getfield 101, 3) := by decide +kernel
theorem dX11_plant_200 : decode cX11_plant 200 = .ok (.iconst 1, 1) := by decide +kernel
theorem dX11_plant_201 : decode cX11_plant 201 = .ok (.iadd, 1) := by decide +kernel
theorem dX11_plant_202 : decode cX11_plant 202 = .ok (.putfield 101, 3) := by decide +kernel
theorem dX11_plant_205 : decode cX11_plant 205 = .ok (.aload_n 0, 1) := by decide +kernel
theorem dX11_plant_206 : decode cX11_plant 206 = .ok (.aload_n 0, 1) := by decide +kernel
theorem dX11_plant_207 : decode cX11_plant 207 = .ok (.getfield 101, 3) := by decide +kernel
theorem dX11_plant_210 : decode cX11_plant 210 = .ok (.iconst 1, 1) := by decide +kernel
theorem dX11_plant_211 : decode cX11_plant 211 = .ok (.isub, 1) := by decide +kernel
theorem dX11_plant_212 : decode cX11_plant 212 = .ok (.invokevirtual 96, 3) := by decide +kernel
theorem dX11_plant_215 : decode cX11_plant 215 = .ok (.ireturn, 1) := by decide +kernel
theorem dX11_move_0 : decode cX11_move 0 = .ok (.aload_n 0, 1) := by decide +kernel
theorem dX11_move_1 : decode cX11_move 1 = .ok (.iload_n 1, 1) := by decide +kernel
theorem dX11_move_2 : decode cX11_move 2 = .ok (.invokevirtual 131, 3) := by decide +kernel
theorem dX11_move_5 : decode cX11_move 5 = .ok (.ifCond .ne 6, 3) := by decide +kernel
theorem dX11_move_8 : decode cX11_move 8 = .ok (.ldc 91, 2) := by decide +kernel
theorem dX11_move_10 : decode cX11_move 10 = .ok (.ireturn, 1) := by decide +kernel
theorem dX11_move_11 : decode cX11_move 11 = .ok (.aload_n 0, 1) := by decide +kernel
theorem dX11_move_12 : decode cX11_move 12 = .ok (.getfield 22, 3) := by decide +kernel
theorem dX11_move_15 : decode cX11_move 15 = .ok (.iload_n 1, 1) := by decide +kernel
theorem dX11_move_16 : decode cX11_move 16 = .ok (.baload, 1) := by decide +kernel
theorem dX11_move_17 : decode cX11_move 17 = .ok (.ifCond .eq 9, 3) := by decide +kernel
theorem dX11_move_20 : decode cX11_move 20 = .ok (.aload_n 0, 1) := by decide +kernel
theorem dX11_move_21 : decode cX11_move 21 = .ok (.iconst 1, 1) := by decide +kernel
theorem dX11_move_22 : decode cX11_move 22 = .ok (.invokevirtual 92, 3) := by decide +kernel
theorem dX11_move_25 : decode cX11_move 25 = .ok (.ireturn, 1) := by decide +kernel
theorem dX11_move_26 : decode cX11_move 26 = .ok (.aload_n 0, 1) := by decide +kernel
theorem dX11_move_27 : decode cX11_move 27 = .ok (.getfield 7, 3) := by decide +kernel
theorem dX11_move_30 : decode cX11_move 30 = .ok (.iload_n 1, 1) := by decide +kernel
theorem dX11_move_31 : decode cX11_move 31 = .ok (.iaload, 1) := by decide +kernel
theorem dX11_move_32 : decode cX11_move 32 = .ok (.i2l, 1) := by decide +kernel
theorem dX11_move_33 : decode cX11_move 33 = .ok (.iload_n 2, 1) := by decide +kernel
theorem dX11_move_34 : decode cX11_move 34 = .ok (.i2l, 1) := by decide +kernel
theorem dX11_move_35 : decode cX11_move 35 = .ok (.ladd, 1) := by decide +kernel
theorem dX11_move_36 : decode cX11_move 36 = .ok (.ldc2_w 123, 3) := by decide +kernel
theorem dX11_move_39 : decode cX11_move 39 = .ok (.ldc2_w 125, 3) := by decide +kernel
theorem dX11_move_42 : decode cX11_move 42 = .ok (.invokestatic 81, 3) := by decide +kernel
theorem dX11_move_45 : decode cX11_move 45 = .ok (.ifCond .eq 25, 3) := by decide +kernel
theorem dX11_move_48 : decode cX11_move 48 = .ok (.aload_n 0, 1) := by decide +kernel
theorem dX11_move_49 : decode cX11_move 49 = .ok (.getfield 13, 3) := by decide +kernel
theorem dX11_move_52 : decode cX11_move 52 = .ok (.iload_n 1, 1) := by decide +kernel
theorem dX11_move_53 : decode cX11_move 53 = .ok (.iaload, 1) := by decide +kernel
theorem dX11_move_54 : decode cX11_move 54 = .ok (.i2l, 1) := by decide +kernel
theorem dX11_move_55 : decode cX11_move 55 = .ok (.iload_n 3, 1) := by decide +kernel
theorem dX11_move_56 : decode cX11_move 56 = .ok (.i2l, 1) := by decide +kernel
theorem dX11_move_57 : decode cX11_move 57 = .ok (.ladd, 1) := by decide +kernel
theorem dX11_move_58 : decode cX11_move 58 = .ok (.ldc2_w 123, 3) := by decide +kernel
theorem dX11_move_61 : decode cX11_move 61 = .ok (.ldc2_w 125, 3) := by decide +kernel
theorem dX11_move_64 : decode cX11_move 64 = .ok (.invokestatic 81, 3) := by decide +kernel
theorem dX11_move_67 : decode cX11_move 67 = .ok (.ifCond .ne 6, 3) := by decide +kernel
theorem dX11_move_70 : decode cX11_move 70 = .ok (.ldc 91, 2) := by decide +kernel
theorem dX11_move_72 : decode cX11_move 72 = .ok (.ireturn, 1) := by decide +kernel
theorem dX11_move_73 : decode cX11_move 73 = .ok (.aload_n 0, 1) := by decide +kernel
theorem dX11_move_74 : decode cX11_move 74 = .ok (.iload_n 1, 1) := by decide +kernel
theorem dX11_move_75 : decode cX11_move 75 = .ok (.iconst 0, 1) := by decide +kernel
theorem dX11_move_76 : decode cX11_move 76 = .ok (.invokevirtual 127, 3) := by decide +kernel
theorem dX11_move_79 : decode cX11_move 79 = .ok (.aload_n 0, 1) := by decide +kernel
theorem dX11_move_80 : decode cX11_move 80 = .ok (.getfield 7, 3) := by decide +kernel
theorem dX11_move_83 : decode cX11_move 83 = .ok (.iload_n 1, 1) := by decide +kernel
theorem dX11_move_84 : decode cX11_move 84 = .ok (.dup2, 1) := by decide +kernel
theorem dX11_move_85 : decode cX11_move 85 = .ok (.iaload, 1) := by decide +kernel
theorem dX11_move_86 : decode cX11_move 86 = .ok (.iload_n 2, 1) := by decide +kernel
theorem dX11_move_87 : decode cX11_move 87 = .ok (.iadd, 1) := by decide +kernel
theorem dX11_move_88 : decode cX11_move 88 = .ok (.iastore, 1) := by decide +kernel
theorem dX11_move_89 : decode cX11_move 89 = .ok (.aload_n 0, 1) := by decide +kernel
theorem dX11_move_90 : decode cX11_move 90 = .ok (.getfield 13, 3) := by decide +kernel
theorem dX11_move_93 : decode cX11_move 93 = .ok (.iload_n 1, 1) := by decide +kernel
theorem dX11_move_94 : decode cX11_move 94 = .ok (.dup2, 1) := by decide +kernel
theorem dX11_move_95 : decode cX11_move 95 = .ok (.iaload, 1) := by decide +kernel
theorem dX11_move_96 : decode cX11_move 96 = .ok (.iload_n 3, 1) := by decide +kernel
theorem dX11_move_97 : decode cX11_move 97 = .ok (.iadd, 1) := by decide +kernel
theorem dX11_move_98 : decode cX11_move 98 = .ok (.iastore, 1) := by decide +kernel
theorem dX11_move_99 : decode cX11_move 99 = .ok (.aload_n 0, 1) := by decide +kernel
theorem dX11_move_100 : decode cX11_move 100 = .ok (.iconst 1, 1) := by decide +kernel
theorem dX11_move_101 : decode cX11_move 101 = .ok (.invokevirtual 96, 3) := by decide +kernel
theorem dX11_move_104 : decode cX11_move 104 = .ok (.ireturn, 1) := by decide +kernel
theorem dX11_there_0 : decode cX11_there 0 = .ok (.iconst 0, 1) := by decide +kernel
theorem dX11_there_1 : decode cX11_there 1 = .ok (.istore_n 1, 1) := by decide +kernel
theorem dX11_there_2 : decode cX11_there 2 = .ok (.iconst 0, 1) := by decide +kernel
theorem dX11_there_3 : decode cX11_there 3 = .ok (.istore_n 2, 1) := by decide +kernel
theorem dX11_there_4 : decode cX11_there 4 = .ok (.iload_n 2, 1) := by decide +kernel
theorem dX11_there_5 : decode cX11_there 5 = .ok (.aload_n 0, 1) := by decide +kernel
theorem dX11_there_6 : decode cX11_there 6 = .ok (.getfield 101, 3) := by decide +kernel
theorem dX11_there_9 : decode cX11_there 9 = .ok (.if_icmp .ge 26, 3) := by decide +kernel
theorem dX11_there_12 : decode cX11_there 12 = .ok (.iload_n 1, 1) := by decide +kernel
theorem dX11_there_13 : decode cX11_there 13 = .ok (.aload_n 0, 1) := by decide +kernel
theorem dX11_there_14 : decode cX11_there 14 = .ok (.getfield 22, 3) := by decide +kernel
theorem dX11_there_17 : decode cX11_there 17 = .ok (.iload_n 2, 1) := by decide +kernel
theorem dX11_there_18 : decode cX11_there 18 = .ok (.baload, 1) := by decide +kernel
theorem dX11_there_19 : decode cX11_there 19 = .ok (.ifCond .eq 7, 3) := by decide +kernel
theorem dX11_there_22 : decode cX11_there 22 = .ok (.iconst 0, 1) := by decide +kernel
theorem dX11_there_23 : decode cX11_there 23 = .ok (.goto 4, 3) := by decide +kernel
theorem dX11_there_26 : decode cX11_there 26 = .ok (.iconst 1, 1) := by decide +kernel
theorem dX11_there_27 : decode cX11_there 27 = .ok (.iadd, 1) := by decide +kernel
theorem dX11_there_28 : decode cX11_there 28 = .ok (.istore_n 1, 1) := by decide +kernel
theorem dX11_there_29 : decode cX11_there 29 = .ok (.iinc 2 1, 3) := by decide +kernel
theorem dX11_there_32 : decode cX11_there 32 = .ok (.goto (-28), 3) := by decide +kernel
theorem dX11_there_35 : decode cX11_there 35 = .ok (.iload_n 1, 1) := by decide +kernel
theorem dX11_there_36 : decode cX11_there 36 = .ok (.ireturn, 1) := by decide +kernel
theorem dX11_away_0 : decode cX11_away 0 = .ok (.aload_n 0, 1) := by decide +kernel
theorem dX11_away_1 : decode cX11_away 1 = .ok (.iload_n 1, 1) := by decide +kernel
theorem dX11_away_2 : decode cX11_away 2 = .ok (.invokevirtual 131, 3) := by decide +kernel
theorem dX11_away_5 : decode cX11_away 5 = .ok (.ifCond .ne 6, 3) := by decide +kernel
theorem dX11_away_8 : decode cX11_away 8 = .ok (.ldc 91, 2) := by decide +kernel
theorem dX11_away_10 : decode cX11_away 10 = .ok (.ireturn, 1) := by decide +kernel
theorem dX11_away_11 : decode cX11_away 11 = .ok (.aload_n 0, 1) := by decide +kernel
theorem dX11_away_12 : decode cX11_away 12 = .ok (.getfield 22, 3) := by decide +kernel
theorem dX11_away_15 : decode cX11_away 15 = .ok (.iload_n 1, 1) := by decide +kernel
theorem dX11_away_16 : decode cX11_away 16 = .ok (.baload, 1) := by decide +kernel
theorem dX11_away_17 : decode cX11_away 17 = .ok (.ifCond .eq 9, 3) := by decide +kernel
theorem dX11_away_20 : decode cX11_away 20 = .ok (.aload_n 0, 1) := by decide +kernel
theorem dX11_away_21 : decode cX11_away 21 = .ok (.iconst 1, 1) := by decide +kernel
theorem dX11_away_22 : decode cX11_away 22 = .ok (.invokevirtual 92, 3) := by decide +kernel
theorem dX11_away_25 : decode cX11_away 25 = .ok (.ireturn, 1) := by decide +kernel
theorem dX11_away_26 : decode cX11_away 26 = .ok (.aload_n 0, 1) := by decide +kernel
theorem dX11_away_27 : decode cX11_away 27 = .ok (.iload_n 1, 1) := by decide +kernel
theorem dX11_away_28 : decode cX11_away 28 = .ok (.iconst 0, 1) := by decide +kernel
theorem dX11_away_29 : decode cX11_away 29 = .ok (.invokevirtual 127, 3) := by decide +kernel
theorem dX11_away_32 : decode cX11_away 32 = .ok (.aload_n 0, 1) := by decide +kernel
theorem dX11_away_33 : decode cX11_away 33 = .ok (.getfield 22, 3) := by decide +kernel
theorem dX11_away_36 : decode cX11_away 36 = .ok (.iload_n 1, 1) := by decide +kernel
theorem dX11_away_37 : decode cX11_away 37 = .ok (.iconst 1, 1) := by decide +kernel
theorem dX11_away_38 : decode cX11_away 38 = .ok (.bastore, 1) := by decide +kernel
theorem dX11_away_39 : decode cX11_away 39 = .ok (.aload_n 0, 1) := by decide +kernel
theorem dX11_away_40 : decode cX11_away 40 = .ok (.aload_n 0, 1) := by decide +kernel
theorem dX11_away_41 : decode cX11_away 41 = .ok (.invokevirtual 134, 3) := by decide +kernel
theorem dX11_away_44 : decode cX11_away 44 = .ok (.invokevirtual 96, 3) := by decide +kernel
theorem dX11_away_47 : decode cX11_away 47 = .ok (.ireturn, 1) := by decide +kernel
theorem dX11_colour_0 : decode cX11_colour 0 = .ok (.aload_n 0, 1) := by decide +kernel
theorem dX11_colour_1 : decode cX11_colour 1 = .ok (.iload_n 1, 1) := by decide +kernel
theorem dX11_colour_2 : decode cX11_colour 2 = .ok (.invokevirtual 131, 3) := by decide +kernel
theorem dX11_colour_5 : decode cX11_colour 5 = .ok (.ifCond .eq 15, 3) := by decide +kernel
theorem dX11_colour_8 : decode cX11_colour 8 = .ok (.iload_n 2, 1) := by decide +kernel
theorem dX11_colour_9 : decode cX11_colour 9 = .ok (.i2l, 1) := by decide +kernel
theorem dX11_colour_10 : decode cX11_colour 10 = .ok (.lconst 0, 1) := by decide +kernel
theorem dX11_colour_11 : decode cX11_colour 11 = .ok (.ldc2_w 89, 3) := by decide +kernel
theorem dX11_colour_14 : decode cX11_colour 14 = .ok (.invokestatic 81, 3) := by decide +kernel
theorem dX11_colour_17 : decode cX11_colour 17 = .ok (.ifCond .ne 6, 3) := by decide +kernel
theorem dX11_colour_20 : decode cX11_colour 20 = .ok (.ldc 91, 2) := by decide +kernel
theorem dX11_colour_22 : decode cX11_colour 22 = .ok (.ireturn, 1) := by decide +kernel
theorem dX11_colour_23 : decode cX11_colour 23 = .ok (.aload_n 0, 1) := by decide +kernel
theorem dX11_colour_24 : decode cX11_colour 24 = .ok (.getfield 22, 3) := by decide +kernel
theorem dX11_colour_27 : decode cX11_colour 27 = .ok (.iload_n 1, 1) := by decide +kernel
theorem dX11_colour_28 : decode cX11_colour 28 = .ok (.baload, 1) := by decide +kernel
theorem dX11_colour_29 : decode cX11_colour 29 = .ok (.ifCond .eq 9, 3) := by decide +kernel
theorem dX11_colour_32 : decode cX11_colour 32 = .ok (.aload_n 0, 1) := by decide +kernel
theorem dX11_colour_33 : decode cX11_colour 33 = .ok (.iconst 1, 1) := by decide +kernel
theorem dX11_colour_34 : decode cX11_colour 34 = .ok (.invokevirtual 92, 3) := by decide +kernel
theorem dX11_colour_37 : decode cX11_colour 37 = .ok (.ireturn, 1) := by decide +kernel
theorem dX11_colour_38 : decode cX11_colour 38 = .ok (.aload_n 0, 1) := by decide +kernel
theorem dX11_colour_39 : decode cX11_colour 39 = .ok (.getfield 16, 3) := by decide +kernel
theorem dX11_colour_42 : decode cX11_colour 42 = .ok (.iload_n 1, 1) := by decide +kernel
theorem dX11_colour_43 : decode cX11_colour 43 = .ok (.iaload, 1) := by decide +kernel
theorem dX11_colour_44 : decode cX11_colour 44 = .ok (.iconst 4, 1) := by decide +kernel
theorem dX11_colour_45 : decode cX11_colour 45 = .ok (.if_icmp .eq 9, 3) := by decide +kernel
theorem dX11_colour_48 : decode cX11_colour 48 = .ok (.aload_n 0, 1) := by decide +kernel
theorem dX11_colour_49 : decode cX11_colour 49 = .ok (.iconst 3, 1) := by decide +kernel
theorem dX11_colour_50 : decode cX11_colour 50 = .ok (.invokevirtual 92, 3) := by decide +kernel
theorem dX11_colour_53 : decode cX11_colour 53 = .ok (.ireturn, 1) := by decide +kernel
theorem dX11_colour_54 : decode cX11_colour 54 = .ok (.aload_n 0, 1) := by decide +kernel
theorem dX11_colour_55 : decode cX11_colour 55 = .ok (.iload_n 1, 1) := by decide +kernel
theorem dX11_colour_56 : decode cX11_colour 56 = .ok (.iconst 0, 1) := by decide +kernel
theorem dX11_colour_57 : decode cX11_colour 57 = .ok (.invokevirtual 127, 3) := by decide +kernel
theorem dX11_colour_60 : decode cX11_colour 60 = .ok (.aload_n 0, 1) := by decide +kernel
theorem dX11_colour_61 : decode cX11_colour 61 = .ok (.getfield 19, 3) := by decide +kernel
theorem dX11_colour_64 : decode cX11_colour 64 = .ok (.iload_n 1, 1) := by decide +kernel
theorem dX11_colour_65 : decode cX11_colour 65 = .ok (.iaload, 1) := by decide +kernel
theorem dX11_colour_66 : decode cX11_colour 66 = .ok (.istore_n 3, 1) := by decide +kernel
theorem dX11_colour_67 : decode cX11_colour 67 = .ok (.aload_n 0, 1) := by decide +kernel
theorem dX11_colour_68 : decode cX11_colour 68 = .ok (.getfield 19, 3) := by decide +kernel
theorem dX11_colour_71 : decode cX11_colour 71 = .ok (.iload_n 1, 1) := by decide +kernel
theorem dX11_colour_72 : decode cX11_colour 72 = .ok (.iload_n 2, 1) := by decide +kernel
theorem dX11_colour_73 : decode cX11_colour 73 = .ok (.iastore, 1) := by decide +kernel
theorem dX11_colour_74 : decode cX11_colour 74 = .ok (.aload_n 0, 1) := by decide +kernel
theorem dX11_colour_75 : decode cX11_colour 75 = .ok (.iload_n 3, 1) := by decide +kernel
theorem dX11_colour_76 : decode cX11_colour 76 = .ok (.invokevirtual 96, 3) := by decide +kernel
theorem dX11_colour_79 : decode cX11_colour 79 = .ok (.ireturn, 1) := by decide +kernel
theorem dX11_told_0 : decode cX11_told 0 = .ok (.aload_n 0, 1) := by decide +kernel
theorem dX11_told_1 : decode cX11_told 1 = .ok (.iload_n 1, 1) := by decide +kernel
theorem dX11_told_2 : decode cX11_told 2 = .ok (.invokevirtual 131, 3) := by decide +kernel
theorem dX11_told_5 : decode cX11_told 5 = .ok (.ifCond .eq 15, 3) := by decide +kernel
theorem dX11_told_8 : decode cX11_told 8 = .ok (.iload_n 2, 1) := by decide +kernel
theorem dX11_told_9 : decode cX11_told 9 = .ok (.i2l, 1) := by decide +kernel
theorem dX11_told_10 : decode cX11_told 10 = .ok (.lconst 0, 1) := by decide +kernel
theorem dX11_told_11 : decode cX11_told 11 = .ok (.ldc2_w 138, 3) := by decide +kernel
theorem dX11_told_14 : decode cX11_told 14 = .ok (.invokestatic 81, 3) := by decide +kernel
theorem dX11_told_17 : decode cX11_told 17 = .ok (.ifCond .ne 6, 3) := by decide +kernel
theorem dX11_told_20 : decode cX11_told 20 = .ok (.ldc 91, 2) := by decide +kernel
theorem dX11_told_22 : decode cX11_told 22 = .ok (.ireturn, 1) := by decide +kernel
theorem dX11_told_23 : decode cX11_told 23 = .ok (.aload_n 0, 1) := by decide +kernel
theorem dX11_told_24 : decode cX11_told 24 = .ok (.getfield 22, 3) := by decide +kernel
theorem dX11_told_27 : decode cX11_told 27 = .ok (.iload_n 1, 1) := by decide +kernel
theorem dX11_told_28 : decode cX11_told 28 = .ok (.baload, 1) := by decide +kernel
theorem dX11_told_29 : decode cX11_told 29 = .ok (.ifCond .eq 9, 3) := by decide +kernel
theorem dX11_told_32 : decode cX11_told 32 = .ok (.aload_n 0, 1) := by decide +kernel
theorem dX11_told_33 : decode cX11_told 33 = .ok (.iconst 1, 1) := by decide +kernel
theorem dX11_told_34 : decode cX11_told 34 = .ok (.invokevirtual 92, 3) := by decide +kernel
theorem dX11_told_37 : decode cX11_told 37 = .ok (.ireturn, 1) := by decide +kernel
theorem dX11_told_38 : decode cX11_told 38 = .ok (.iload_n 2, 1) := by decide +kernel
theorem dX11_told_39 : decode cX11_told 39 = .ok (.iconst 3, 1) := by decide +kernel
theorem dX11_told_40 : decode cX11_told 40 = .ok (.if_icmp .ne 8, 3) := by decide +kernel
theorem dX11_told_43 : decode cX11_told 43 = .ok (.aload_n 0, 1) := by decide +kernel
theorem dX11_told_44 : decode cX11_told 44 = .ok (.invokevirtual 140, 3) := by decide +kernel
theorem dX11_told_47 : decode cX11_told 47 = .ok (.istore_n 3, 1) := by decide +kernel
theorem dX11_told_48 : decode cX11_told 48 = .ok (.aload_n 0, 1) := by decide +kernel
theorem dX11_told_49 : decode cX11_told 49 = .ok (.iload_n 2, 1) := by decide +kernel
theorem dX11_told_50 : decode cX11_told 50 = .ok (.ifCond .ne 12, 3) := by decide +kernel
theorem dX11_told_53 : decode cX11_told 53 = .ok (.aload_n 0, 1) := by decide +kernel
theorem dX11_told_54 : decode cX11_told 54 = .ok (.getfield 7, 3) := by decide +kernel
theorem dX11_told_57 : decode cX11_told 57 = .ok (.iload_n 1, 1) := by decide +kernel
theorem dX11_told_58 : decode cX11_told 58 = .ok (.iaload, 1) := by decide +kernel
theorem dX11_told_59 : decode cX11_told 59 = .ok (.goto 37, 3) := by decide +kernel
theorem dX11_told_62 : decode cX11_told 62 = .ok (.iload_n 2, 1) := by decide +kernel
theorem dX11_told_63 : decode cX11_told 63 = .ok (.iconst 1, 1) := by decide +kernel
theorem dX11_told_64 : decode cX11_told 64 = .ok (.if_icmp .ne 12, 3) := by decide +kernel
theorem dX11_told_67 : decode cX11_told 67 = .ok (.aload_n 0, 1) := by decide +kernel
theorem dX11_told_68 : decode cX11_told 68 = .ok (.getfield 13, 3) := by decide +kernel
theorem dX11_told_71 : decode cX11_told 71 = .ok (.iload_n 1, 1) := by decide +kernel
theorem dX11_told_72 : decode cX11_told 72 = .ok (.iaload, 1) := by decide +kernel
theorem dX11_told_73 : decode cX11_told 73 = .ok (.goto 23, 3) := by decide +kernel
theorem dX11_told_76 : decode cX11_told 76 = .ok (.iload_n 2, 1) := by decide +kernel
theorem dX11_told_77 : decode cX11_told 77 = .ok (.iconst 2, 1) := by decide +kernel
theorem dX11_told_78 : decode cX11_told 78 = .ok (.if_icmp .ne 12, 3) := by decide +kernel
theorem dX11_told_81 : decode cX11_told 81 = .ok (.aload_n 0, 1) := by decide +kernel
theorem dX11_told_82 : decode cX11_told 82 = .ok (.getfield 16, 3) := by decide +kernel
theorem dX11_told_85 : decode cX11_told 85 = .ok (.iload_n 1, 1) := by decide +kernel
theorem dX11_told_86 : decode cX11_told 86 = .ok (.iaload, 1) := by decide +kernel
theorem dX11_told_87 : decode cX11_told 87 = .ok (.goto 9, 3) := by decide +kernel
theorem dX11_told_90 : decode cX11_told 90 = .ok (.aload_n 0, 1) := by decide +kernel
theorem dX11_told_91 : decode cX11_told 91 = .ok (.getfield 69, 3) := by decide +kernel
theorem dX11_told_94 : decode cX11_told 94 = .ok (.iload_n 1, 1) := by decide +kernel
theorem dX11_told_95 : decode cX11_told 95 = .ok (.iaload, 1) := by decide +kernel
theorem dX11_told_96 : decode cX11_told 96 = .ok (.invokevirtual 96, 3) := by decide +kernel
theorem dX11_told_99 : decode cX11_told 99 = .ok (.ireturn, 1) := by decide +kernel
theorem dX11_isOf_0 : decode cX11_isOf 0 = .ok (.iload_n 1, 1) := by decide +kernel
theorem dX11_isOf_1 : decode cX11_isOf 1 = .ok (.iload_n 2, 1) := by decide +kernel
theorem dX11_isOf_2 : decode cX11_isOf 2 = .ok (.if_icmp .eq 17, 3) := by decide +kernel
theorem dX11_isOf_5 : decode cX11_isOf 5 = .ok (.iload_n 2, 1) := by decide +kernel
theorem dX11_isOf_6 : decode cX11_isOf 6 = .ok (.ifCond .eq 13, 3) := by decide +kernel
theorem dX11_isOf_9 : decode cX11_isOf 9 = .ok (.iload_n 1, 1) := by decide +kernel
theorem dX11_isOf_10 : decode cX11_isOf 10 = .ok (.iconst 3, 1) := by decide +kernel
theorem dX11_isOf_11 : decode cX11_isOf 11 = .ok (.if_icmp .ne 12, 3) := by decide +kernel
theorem dX11_isOf_14 : decode cX11_isOf 14 = .ok (.iload_n 2, 1) := by decide +kernel
theorem dX11_isOf_15 : decode cX11_isOf 15 = .ok (.iconst 1, 1) := by decide +kernel
theorem dX11_isOf_16 : decode cX11_isOf 16 = .ok (.if_icmp .ne 7, 3) := by decide +kernel
theorem dX11_isOf_19 : decode cX11_isOf 19 = .ok (.iconst 1, 1) := by decide +kernel
theorem dX11_isOf_20 : decode cX11_isOf 20 = .ok (.goto 4, 3) := by decide +kernel
theorem dX11_isOf_23 : decode cX11_isOf 23 = .ok (.iconst 0, 1) := by decide +kernel
theorem dX11_isOf_24 : decode cX11_isOf 24 = .ok (.ireturn, 1) := by decide +kernel
theorem dX11_is_0 : decode cX11_is 0 = .ok (.aload_n 0, 1) := by decide +kernel
theorem dX11_is_1 : decode cX11_is 1 = .ok (.iload_n 1, 1) := by decide +kernel
theorem dX11_is_2 : decode cX11_is 2 = .ok (.invokevirtual 131, 3) := by decide +kernel
theorem dX11_is_5 : decode cX11_is 5 = .ok (.ifCond .eq 15, 3) := by decide +kernel
theorem dX11_is_8 : decode cX11_is 8 = .ok (.iload_n 2, 1) := by decide +kernel
theorem dX11_is_9 : decode cX11_is 9 = .ok (.i2l, 1) := by decide +kernel
theorem dX11_is_10 : decode cX11_is 10 = .ok (.lconst 0, 1) := by decide +kernel
theorem dX11_is_11 : decode cX11_is 11 = .ok (.ldc2_w 120, 3) := by decide +kernel
theorem dX11_is_14 : decode cX11_is 14 = .ok (.invokestatic 81, 3) := by decide +kernel
theorem dX11_is_17 : decode cX11_is 17 = .ok (.ifCond .ne 6, 3) := by decide +kernel
theorem dX11_is_20 : decode cX11_is 20 = .ok (.ldc 91, 2) := by decide +kernel
theorem dX11_is_22 : decode cX11_is 22 = .ok (.ireturn, 1) := by decide +kernel
theorem dX11_is_23 : decode cX11_is 23 = .ok (.aload_n 0, 1) := by decide +kernel
theorem dX11_is_24 : decode cX11_is 24 = .ok (.getfield 22, 3) := by decide +kernel
theorem dX11_is_27 : decode cX11_is 27 = .ok (.iload_n 1, 1) := by decide +kernel
theorem dX11_is_28 : decode cX11_is 28 = .ok (.baload, 1) := by decide +kernel
theorem dX11_is_29 : decode cX11_is 29 = .ok (.ifCond .eq 9, 3) := by decide +kernel
theorem dX11_is_32 : decode cX11_is 32 = .ok (.aload_n 0, 1) := by decide +kernel
theorem dX11_is_33 : decode cX11_is 33 = .ok (.iconst 1, 1) := by decide +kernel
theorem dX11_is_34 : decode cX11_is 34 = .ok (.invokevirtual 92, 3) := by decide +kernel
theorem dX11_is_37 : decode cX11_is 37 = .ok (.ireturn, 1) := by decide +kernel
theorem dX11_is_38 : decode cX11_is 38 = .ok (.aload_n 0, 1) := by decide +kernel
theorem dX11_is_39 : decode cX11_is 39 = .ok (.aload_n 0, 1) := by decide +kernel
theorem dX11_is_40 : decode cX11_is 40 = .ok (.aload_n 0, 1) := by decide +kernel
theorem dX11_is_41 : decode cX11_is 41 = .ok (.getfield 16, 3) := by decide +kernel
theorem dX11_is_44 : decode cX11_is 44 = .ok (.iload_n 1, 1) := by decide +kernel
theorem dX11_is_45 : decode cX11_is 45 = .ok (.iaload, 1) := by decide +kernel
theorem dX11_is_46 : decode cX11_is 46 = .ok (.iload_n 2, 1) := by decide +kernel
theorem dX11_is_47 : decode cX11_is 47 = .ok (.invokevirtual 143, 3) := by decide +kernel
theorem dX11_is_50 : decode cX11_is 50 = .ok (.ifCond .eq 7, 3) := by decide +kernel
theorem dX11_is_53 : decode cX11_is 53 = .ok (.iconst 1, 1) := by decide +kernel
theorem dX11_is_54 : decode cX11_is 54 = .ok (.goto 4, 3) := by decide +kernel
theorem dX11_is_57 : decode cX11_is 57 = .ok (.iconst 0, 1) := by decide +kernel
theorem dX11_is_58 : decode cX11_is 58 = .ok (.invokevirtual 96, 3) := by decide +kernel
theorem dX11_is_61 : decode cX11_is 61 = .ok (.ireturn, 1) := by decide +kernel
theorem dX11_begins_0 : decode cX11_begins 0 = .ok (.aload_n 0, 1) := by decide +kernel
theorem dX11_begins_1 : decode cX11_begins 1 = .ok (.getfield 147, 3) := by decide +kernel
theorem dX11_begins_4 : decode cX11_begins 4 = .ok (.ifCond .eq 32, 3) := by decide +kernel
theorem dX11_begins_7 : decode cX11_begins 7 = .ok (.aload_n 0, 1) := by decide +kernel
theorem dX11_begins_8 : decode cX11_begins 8 = .ok (.getfield 150, 3) := by decide +kernel
theorem dX11_begins_11 : decode cX11_begins 11 = .ok (.bipush 16, 2) := by decide +kernel
theorem dX11_begins_13 : decode cX11_begins 13 = .ok (.if_icmp .ge 23, 3) := by decide +kernel
theorem dX11_begins_16 : decode cX11_begins 16 = .ok (.aload_n 0, 1) := by decide +kernel
theorem dX11_begins_17 : decode cX11_begins 17 = .ok (.getfield 44, 3) := by decide +kernel
theorem dX11_begins_20 : decode cX11_begins 20 = .ok (.aload_n 0, 1) := by decide +kernel
theorem dX11_begins_21 : decode cX11_begins 21 = .ok (.getfield 150, 3) := by decide +kernel
theorem dX11_begins_24 : decode cX11_begins 24 = .ok (.iload_n 1, 1) := by decide +kernel
theorem dX11_begins_25 : decode cX11_begins 25 = .ok (.iastore, 1) := by decide +kernel
theorem dX11_begins_26 : decode cX11_begins 26 = .ok (.aload_n 0, 1) := by decide +kernel
theorem dX11_begins_27 : decode cX11_begins 27 = .ok (.dup, 1) := by decide +kernel
theorem dX11_begins_28 : decode cX11_begins 28 = .ok (.getfield 150, 3) := by decide +kernel
theorem dX11_begins_31 : decode cX11_begins 31 = .ok (.iconst 1, 1) := by decide +kernel
theorem dX11_begins_32 : decode cX11_begins 32 = .ok (.iadd, 1) := by decide +kernel
theorem dX11_begins_33 : decode cX11_begins 33 = .ok (.putfield 150, 3) := by decide +kernel
theorem dX11_begins_36 : decode cX11_begins 36 = .ok (.return_, 1) := by decide +kernel
theorem dX11_red_0 : decode cX11_red 0 = .ok (.aload_n 0, 1) := by decide +kernel
theorem dX11_red_1 : decode cX11_red 1 = .ok (.getfield 16, 3) := by decide +kernel
theorem dX11_red_4 : decode cX11_red 4 = .ok (.iload_n 1, 1) := by decide +kernel
theorem dX11_red_5 : decode cX11_red 5 = .ok (.iaload, 1) := by decide +kernel
theorem dX11_red_6 : decode cX11_red 6 = .ok (.tableswitch 78 1 4 #[30, 78, 38, 52], 30) := by decide +kernel
theorem dX11_red_36 : decode cX11_red 36 = .ok (.aload_n 0, 1) := by decide +kernel
theorem dX11_red_37 : decode cX11_red 37 = .ok (.bipush 11, 2) := by decide +kernel
theorem dX11_red_39 : decode cX11_red 39 = .ok (.invokevirtual 153, 3) := by decide +kernel
theorem dX11_red_42 : decode cX11_red 42 = .ok (.iconst 1, 1) := by decide +kernel
theorem dX11_red_43 : decode cX11_red 43 = .ok (.ireturn, 1) := by decide +kernel
theorem dX11_red_44 : decode cX11_red 44 = .ok (.aload_n 0, 1) := by decide +kernel
theorem dX11_red_45 : decode cX11_red 45 = .ok (.bipush 12, 2) := by decide +kernel
theorem dX11_red_47 : decode cX11_red 47 = .ok (.invokevirtual 153, 3) := by decide +kernel
theorem dX11_red_50 : decode cX11_red 50 = .ok (.aload_n 0, 1) := by decide +kernel
theorem dX11_red_51 : decode cX11_red 51 = .ok (.bipush 11, 2) := by decide +kernel
theorem dX11_red_53 : decode cX11_red 53 = .ok (.invokevirtual 153, 3) := by decide +kernel
theorem dX11_red_56 : decode cX11_red 56 = .ok (.iconst 2, 1) := by decide +kernel
theorem dX11_red_57 : decode cX11_red 57 = .ok (.ireturn, 1) := by decide +kernel
theorem dX11_red_58 : decode cX11_red 58 = .ok (.aload_n 0, 1) := by decide +kernel
theorem dX11_red_59 : decode cX11_red 59 = .ok (.bipush 13, 2) := by decide +kernel
theorem dX11_red_61 : decode cX11_red 61 = .ok (.invokevirtual 153, 3) := by decide +kernel
theorem dX11_red_64 : decode cX11_red 64 = .ok (.aload_n 0, 1) := by decide +kernel
theorem dX11_red_65 : decode cX11_red 65 = .ok (.getfield 19, 3) := by decide +kernel
theorem dX11_red_68 : decode cX11_red 68 = .ok (.iload_n 1, 1) := by decide +kernel
theorem dX11_red_69 : decode cX11_red 69 = .ok (.iaload, 1) := by decide +kernel
theorem dX11_red_70 : decode cX11_red 70 = .ok (.iconst 1, 1) := by decide +kernel
theorem dX11_red_71 : decode cX11_red 71 = .ok (.if_icmp .ne 5, 3) := by decide +kernel
theorem dX11_red_74 : decode cX11_red 74 = .ok (.iconst 1, 1) := by decide +kernel
theorem dX11_red_75 : decode cX11_red 75 = .ok (.ireturn, 1) := by decide +kernel
theorem dX11_red_76 : decode cX11_red 76 = .ok (.aload_n 0, 1) := by decide +kernel
theorem dX11_red_77 : decode cX11_red 77 = .ok (.bipush 10, 2) := by decide +kernel
theorem dX11_red_79 : decode cX11_red 79 = .ok (.invokevirtual 153, 3) := by decide +kernel
theorem dX11_red_82 : decode cX11_red 82 = .ok (.iconst 0, 1) := by decide +kernel
theorem dX11_red_83 : decode cX11_red 83 = .ok (.ireturn, 1) := by decide +kernel
theorem dX11_red_84 : decode cX11_red 84 = .ok (.aload_n 0, 1) := by decide +kernel
