theorem dX0_init_0 : decode cX0_init 0 = .ok (.aload_n 0, 1) := by decide +kernel
theorem dX0_init_1 : decode cX0_init 1 = .ok (.invokespecial 3, 3) := by decide +kernel
theorem dX0_init_4 : decode cX0_init 4 = .ok (.aload_n 0, 1) := by decide +kernel
theorem dX0_init_5 : decode cX0_init 5 = .ok (.bipush 100, 2) := by decide +kernel
theorem dX0_init_7 : decode cX0_init 7 = .ok (.newarray .long, 2) := by decide +kernel
theorem dX0_init_9 : decode cX0_init 9 = .ok (.putfield 9, 3) := by decide +kernel
theorem dX0_init_12 : decode cX0_init 12 = .ok (.return_, 1) := by decide +kernel
theorem dX0_lay_0 : decode cX0_lay 0 = .ok (.aload_n 0, 1) := by decide +kernel
theorem dX0_lay_1 : decode cX0_lay 1 = .ok (.iconst 1, 1) := by decide +kernel
theorem dX0_lay_2 : decode cX0_lay 2 = .ok (.putfield 15, 3) := by decide +kernel
theorem dX0_lay_5 : decode cX0_lay 5 = .ok (.aload_n 0, 1) := by decide +kernel
theorem dX0_lay_6 : decode cX0_lay 6 = .ok (.iload_n 1, 1) := by decide +kernel
theorem dX0_lay_7 : decode cX0_lay 7 = .ok (.putfield 19, 3) := by decide +kernel
theorem dX0_lay_10 : decode cX0_lay 10 = .ok (.aload_n 0, 1) := by decide +kernel
theorem dX0_lay_11 : decode cX0_lay 11 = .ok (.iload_n 2, 1) := by decide +kernel
theorem dX0_lay_12 : decode cX0_lay 12 = .ok (.putfield 23, 3) := by decide +kernel
theorem dX0_lay_15 : decode cX0_lay 15 = .ok (.iconst 0, 1) := by decide +kernel
theorem dX0_lay_16 : decode cX0_lay 16 = .ok (.istore_n 3, 1) := by decide +kernel
theorem dX0_lay_17 : decode cX0_lay 17 = .ok (.iload_n 3, 1) := by decide +kernel
theorem dX0_lay_18 : decode cX0_lay 18 = .ok (.bipush 100, 2) := by decide +kernel
theorem dX0_lay_20 : decode cX0_lay 20 = .ok (.if_icmp .ge 16, 3) := by decide +kernel
theorem dX0_lay_23 : decode cX0_lay 23 = .ok (.aload_n 0, 1) := by decide +kernel
theorem dX0_lay_24 : decode cX0_lay 24 = .ok (.getfield 9, 3) := by decide +kernel
theorem dX0_lay_27 : decode cX0_lay 27 = .ok (.iload_n 3, 1) := by decide +kernel
theorem dX0_lay_28 : decode cX0_lay 28 = .ok (.lconst 0, 1) := by decide +kernel
theorem dX0_lay_29 : decode cX0_lay 29 = .ok (.lastore, 1) := by decide +kernel
theorem dX0_lay_30 : decode cX0_lay 30 = .ok (.iinc 3 1, 3) := by decide +kernel
theorem dX0_lay_33 : decode cX0_lay 33 = .ok (.goto (-16), 3) := by decide +kernel
theorem dX0_lay_36 : decode cX0_lay 36 = .ok (.return_, 1) := by decide +kernel
theorem dX0_has_0 : decode cX0_has 0 = .ok (.iload_n 1, 1) := by decide +kernel
theorem dX0_has_1 : decode cX0_has 1 = .ok (.ifCond .lt 29, 3) := by decide +kernel
theorem dX0_has_4 : decode cX0_has 4 = .ok (.iload_n 2, 1) := by decide +kernel
theorem dX0_has_5 : decode cX0_has 5 = .ok (.ifCond .lt 25, 3) := by decide +kernel
theorem dX0_has_8 : decode cX0_has 8 = .ok (.iload_n 2, 1) := by decide +kernel
theorem dX0_has_9 : decode cX0_has 9 = .ok (.aload_n 0, 1) := by decide +kernel
theorem dX0_has_10 : decode cX0_has 10 = .ok (.getfield 23, 3) := by decide +kernel
theorem dX0_has_13 : decode cX0_has 13 = .ok (.if_icmp .gt 17, 3) := by decide +kernel
theorem dX0_has_16 : decode cX0_has 16 = .ok (.iload_n 1, 1) := by decide +kernel
theorem dX0_has_17 : decode cX0_has 17 = .ok (.aload_n 0, 1) := by decide +kernel
theorem dX0_has_18 : decode cX0_has 18 = .ok (.getfield 23, 3) := by decide +kernel
theorem dX0_has_21 : decode cX0_has 21 = .ok (.iload_n 2, 1) := by decide +kernel
theorem dX0_has_22 : decode cX0_has 22 = .ok (.isub, 1) := by decide +kernel
theorem dX0_has_23 : decode cX0_has 23 = .ok (.if_icmp .gt 7, 3) := by decide +kernel
theorem dX0_has_26 : decode cX0_has 26 = .ok (.iconst 1, 1) := by decide +kernel
theorem dX0_has_27 : decode cX0_has 27 = .ok (.goto 4, 3) := by decide +kernel
theorem dX0_has_30 : decode cX0_has 30 = .ok (.iconst 0, 1) := by decide +kernel
theorem dX0_has_31 : decode cX0_has 31 = .ok (.ireturn, 1) := by decide +kernel
theorem dX0_narrowed_0 : decode cX0_narrowed 0 = .ok (.aload_n 0, 1) := by decide +kernel
theorem dX0_narrowed_1 : decode cX0_narrowed 1 = .ok (.getfield 19, 3) := by decide +kernel
theorem dX0_narrowed_4 : decode cX0_narrowed 4 = .ok (.ifCond .ne 8, 3) := by decide +kernel
theorem dX0_narrowed_7 : decode cX0_narrowed 7 = .ok (.lload_n 1, 1) := by decide +kernel
theorem dX0_narrowed_8 : decode cX0_narrowed 8 = .ok (.l2i, 1) := by decide +kernel
theorem dX0_narrowed_9 : decode cX0_narrowed 9 = .ok (.i2s, 1) := by decide +kernel
theorem dX0_narrowed_10 : decode cX0_narrowed 10 = .ok (.i2l, 1) := by decide +kernel
theorem dX0_narrowed_11 : decode cX0_narrowed 11 = .ok (.lreturn, 1) := by decide +kernel
theorem dX0_narrowed_12 : decode cX0_narrowed 12 = .ok (.aload_n 0, 1) := by decide +kernel
theorem dX0_narrowed_13 : decode cX0_narrowed 13 = .ok (.getfield 19, 3) := by decide +kernel
theorem dX0_narrowed_16 : decode cX0_narrowed 16 = .ok (.iconst 1, 1) := by decide +kernel
theorem dX0_narrowed_17 : decode cX0_narrowed 17 = .ok (.if_icmp .ne 9, 3) := by decide +kernel
theorem dX0_narrowed_20 : decode cX0_narrowed 20 = .ok (.lload_n 1, 1) := by decide +kernel
theorem dX0_narrowed_21 : decode cX0_narrowed 21 = .ok (.l2i, 1) := by decide +kernel
theorem dX0_narrowed_22 : decode cX0_narrowed 22 = .ok (.i2l, 1) := by decide +kernel
theorem dX0_narrowed_23 : decode cX0_narrowed 23 = .ok (.goto 4, 3) := by decide +kernel
theorem dX0_narrowed_26 : decode cX0_narrowed 26 = .ok (.lload_n 1, 1) := by decide +kernel
theorem dX0_narrowed_27 : decode cX0_narrowed 27 = .ok (.lreturn, 1) := by decide +kernel
theorem dX1_init_0 : decode cX1_init 0 = .ok (.aload_n 0, 1) := by decide +kernel
theorem dX1_init_1 : decode cX1_init 1 = .ok (.invokespecial 1, 3) := by decide +kernel
theorem dX1_init_4 : decode cX1_init 4 = .ok (.aload_n 0, 1) := by decide +kernel
theorem dX1_init_5 : decode cX1_init 5 = .ok (.new 7, 3) := by decide +kernel
theorem dX1_init_8 : decode cX1_init 8 = .ok (.dup, 1) := by decide +kernel
theorem dX1_init_9 : decode cX1_init 9 = .ok (.invokespecial 9, 3) := by decide +kernel
theorem dX1_init_12 : decode cX1_init 12 = .ok (.putfield 10, 3) := by decide +kernel
theorem dX1_init_15 : decode cX1_init 15 = .ok (.return_, 1) := by decide +kernel
theorem dX2_init_0 : decode cX2_init 0 = .ok (.aload_n 0, 1) := by decide +kernel
theorem dX2_init_1 : decode cX2_init 1 = .ok (.invokespecial 3, 3) := by decide +kernel
theorem dX2_init_4 : decode cX2_init 4 = .ok (.aload_n 0, 1) := by decide +kernel
theorem dX2_init_5 : decode cX2_init 5 = .ok (.bipush 40, 2) := by decide +kernel
theorem dX2_init_7 : decode cX2_init 7 = .ok (.newarray .long, 2) := by decide +kernel
theorem dX2_init_9 : decode cX2_init 9 = .ok (.putfield 9, 3) := by decide +kernel
theorem dX2_init_12 : decode cX2_init 12 = .ok (.aload_n 0, 1) := by decide +kernel
theorem dX2_init_13 : decode cX2_init 13 = .ok (.bipush 40, 2) := by decide +kernel
theorem dX2_init_15 : decode cX2_init 15 = .ok (.newarray .long, 2) := by decide +kernel
theorem dX2_init_17 : decode cX2_init 17 = .ok (.putfield 15, 3) := by decide +kernel
theorem dX2_init_20 : decode cX2_init 20 = .ok (.return_, 1) := by decide +kernel
theorem dX2_depthAt_0 : decode cX2_depthAt 0 = .ok (.iconst 0, 1) := by decide +kernel
theorem dX2_depthAt_1 : decode cX2_depthAt 1 = .ok (.istore 9, 2) := by decide +kernel
theorem dX2_depthAt_3 : decode cX2_depthAt 3 = .ok (.iconst 0, 1) := by decide +kernel
theorem dX2_depthAt_4 : decode cX2_depthAt 4 = .ok (.istore 10, 2) := by decide +kernel
theorem dX2_depthAt_6 : decode cX2_depthAt 6 = .ok (.iload 10, 2) := by decide +kernel
theorem dX2_depthAt_8 : decode cX2_depthAt 8 = .ok (.aload_n 1, 1) := by decide +kernel
theorem dX2_depthAt_9 : decode cX2_depthAt 9 = .ok (.getfield 18, 3) := by decide +kernel
theorem dX2_depthAt_12 : decode cX2_depthAt 12 = .ok (.if_icmp .ge 71, 3) := by decide +kernel
theorem dX2_depthAt_15 : decode cX2_depthAt 15 = .ok (.aload_n 0, 1) := by decide +kernel
theorem dX2_depthAt_16 : decode cX2_depthAt 16 = .ok (.getfield 9, 3) := by decide +kernel
theorem dX2_depthAt_19 : decode cX2_depthAt 19 = .ok (.iload 10, 2) := by decide +kernel
theorem dX2_depthAt_21 : decode cX2_depthAt 21 = .ok (.aload_n 1, 1) := by decide +kernel
theorem dX2_depthAt_22 : decode cX2_depthAt 22 = .ok (.getfield 24, 3) := by decide +kernel
theorem dX2_depthAt_25 : decode cX2_depthAt 25 = .ok (.iload 10, 2) := by decide +kernel
theorem dX2_depthAt_27 : decode cX2_depthAt 27 = .ok (.iaload, 1) := by decide +kernel
theorem dX2_depthAt_28 : decode cX2_depthAt 28 = .ok (.i2l, 1) := by decide +kernel
theorem dX2_depthAt_29 : decode cX2_depthAt 29 = .ok (.lload 6, 2) := by decide +kernel
theorem dX2_depthAt_31 : decode cX2_depthAt 31 = .ok (.lmul, 1) := by decide +kernel
theorem dX2_depthAt_32 : decode cX2_depthAt 32 = .ok (.lload_n 2, 1) := by decide +kernel
theorem dX2_depthAt_33 : decode cX2_depthAt 33 = .ok (.lsub, 1) := by decide +kernel
theorem dX2_depthAt_34 : decode cX2_depthAt 34 = .ok (.lastore, 1) := by decide +kernel
theorem dX2_depthAt_35 : decode cX2_depthAt 35 = .ok (.aload_n 0, 1) := by decide +kernel
theorem dX2_depthAt_36 : decode cX2_depthAt 36 = .ok (.getfield 15, 3) := by decide +kernel
theorem dX2_depthAt_39 : decode cX2_depthAt 39 = .ok (.iload 10, 2) := by decide +kernel
theorem dX2_depthAt_41 : decode cX2_depthAt 41 = .ok (.aload_n 1, 1) := by decide +kernel
theorem dX2_depthAt_42 : decode cX2_depthAt 42 = .ok (.getfield 28, 3) := by decide +kernel
theorem dX2_depthAt_45 : decode cX2_depthAt 45 = .ok (.iload 10, 2) := by decide +kernel
theorem dX2_depthAt_47 : decode cX2_depthAt 47 = .ok (.iaload, 1) := by decide +kernel
theorem dX2_depthAt_48 : decode cX2_depthAt 48 = .ok (.i2l, 1) := by decide +kernel
theorem dX2_depthAt_49 : decode cX2_depthAt 49 = .ok (.lload 6, 2) := by decide +kernel
theorem dX2_depthAt_51 : decode cX2_depthAt 51 = .ok (.lmul, 1) := by decide +kernel
theorem dX2_depthAt_52 : decode cX2_depthAt 52 = .ok (.lload 4, 2) := by decide +kernel
theorem dX2_depthAt_54 : decode cX2_depthAt 54 = .ok (.lsub, 1) := by decide +kernel
theorem dX2_depthAt_55 : decode cX2_depthAt 55 = .ok (.lastore, 1) := by decide +kernel
theorem dX2_depthAt_56 : decode cX2_depthAt 56 = .ok (.aload_n 0, 1) := by decide +kernel
theorem dX2_depthAt_57 : decode cX2_depthAt 57 = .ok (.iload 10, 2) := by decide +kernel
theorem dX2_depthAt_59 : decode cX2_depthAt 59 = .ok (.invokevirtual 31, 3) := by decide +kernel
theorem dX2_depthAt_62 : decode cX2_depthAt 62 = .ok (.ifCond .eq 15, 3) := by decide +kernel
theorem dX2_depthAt_65 : decode cX2_depthAt 65 = .ok (.iload 9, 2) := by decide +kernel
theorem dX2_depthAt_67 : decode cX2_depthAt 67 = .ok (.aload_n 1, 1) := by decide +kernel
theorem dX2_depthAt_68 : decode cX2_depthAt 68 = .ok (.getfield 35, 3) := by decide +kernel
theorem dX2_depthAt_71 : decode cX2_depthAt 71 = .ok (.iload 10, 2) := by decide +kernel
theorem dX2_depthAt_73 : decode cX2_depthAt 73 = .ok (.iaload, 1) := by decide +kernel
theorem dX2_depthAt_74 : decode cX2_depthAt 74 = .ok (.iadd, 1) := by decide +kernel
theorem dX2_depthAt_75 : decode cX2_depthAt 75 = .ok (.istore 9, 2) := by decide +kernel
theorem dX2_depthAt_77 : decode cX2_depthAt 77 = .ok (.iinc 10 1, 3) := by decide +kernel
theorem dX2_depthAt_80 : decode cX2_depthAt 80 = .ok (.goto (-74), 3) := by decide +kernel
theorem dX2_depthAt_83 : decode cX2_depthAt 83 = .ok (.aload_n 1, 1) := by decide +kernel
theorem dX2_depthAt_84 : decode cX2_depthAt 84 = .ok (.iconst 2, 1) := by decide +kernel
theorem dX2_depthAt_85 : decode cX2_depthAt 85 = .ok (.invokevirtual 38, 3) := by decide +kernel
theorem dX2_depthAt_88 : decode cX2_depthAt 88 = .ok (.istore 10, 2) := by decide +kernel
theorem dX2_depthAt_90 : decode cX2_depthAt 90 = .ok (.iconst 0, 1) := by decide +kernel
theorem dX2_depthAt_91 : decode cX2_depthAt 91 = .ok (.istore 11, 2) := by decide +kernel
theorem dX2_depthAt_93 : decode cX2_depthAt 93 = .ok (.iload 11, 2) := by decide +kernel
theorem dX2_depthAt_95 : decode cX2_depthAt 95 = .ok (.aload_n 1, 1) := by decide +kernel
theorem dX2_depthAt_96 : decode cX2_depthAt 96 = .ok (.getfield 18, 3) := by decide +kernel
theorem dX2_depthAt_99 : decode cX2_depthAt 99 = .ok (.if_icmp .ge 42, 3) := by decide +kernel
theorem dX2_depthAt_102 : decode cX2_depthAt 102 = .ok (.iload 10, 2) := by decide +kernel
theorem dX2_depthAt_104 : decode cX2_depthAt 104 = .ok (.iload 8, 2) := by decide +kernel
theorem dX2_depthAt_106 : decode cX2_depthAt 106 = .ok (.if_icmp .lt 35, 3) := by decide +kernel
theorem dX2_depthAt_109 : decode cX2_depthAt 109 = .ok (.aload_n 0, 1) := by decide +kernel
theorem dX2_depthAt_110 : decode cX2_depthAt 110 = .ok (.iload 11, 2) := by decide +kernel
theorem dX2_depthAt_112 : decode cX2_depthAt 112 = .ok (.invokevirtual 31, 3) := by decide +kernel
theorem dX2_depthAt_115 : decode cX2_depthAt 115 = .ok (.ifCond .ne 20, 3) := by decide +kernel
theorem dX2_depthAt_118 : decode cX2_depthAt 118 = .ok (.iload 10, 2) := by decide +kernel
theorem dX2_depthAt_120 : decode cX2_depthAt 120 = .ok (.iload 9, 2) := by decide +kernel
theorem dX2_depthAt_122 : decode cX2_depthAt 122 = .ok (.aload_n 0, 1) := by decide +kernel
theorem dX2_depthAt_123 : decode cX2_depthAt 123 = .ok (.aload_n 1, 1) := by decide +kernel
theorem dX2_depthAt_124 : decode cX2_depthAt 124 = .ok (.iload 11, 2) := by decide +kernel
theorem dX2_depthAt_126 : decode cX2_depthAt 126 = .ok (.invokevirtual 42, 3) := by decide +kernel
theorem dX2_depthAt_129 : decode cX2_depthAt 129 = .ok (.iadd, 1) := by decide +kernel
theorem dX2_depthAt_130 : decode cX2_depthAt 130 = .ok (.invokestatic 46, 3) := by decide +kernel
theorem dX2_depthAt_133 : decode cX2_depthAt 133 = .ok (.istore 10, 2) := by decide +kernel
theorem dX2_depthAt_135 : decode cX2_depthAt 135 = .ok (.iinc 11 1, 3) := by decide +kernel
theorem dX2_depthAt_138 : decode cX2_depthAt 138 = .ok (.goto (-45), 3) := by decide +kernel
theorem dX2_depthAt_141 : decode cX2_depthAt 141 = .ok (.iload 10, 2) := by decide +kernel
theorem dX2_depthAt_143 : decode cX2_depthAt 143 = .ok (.ireturn, 1) := by decide +kernel
theorem dX2_isHere_0 : decode cX2_isHere 0 = .ok (.aload_n 0, 1) := by decide +kernel
theorem dX2_isHere_1 : decode cX2_isHere 1 = .ok (.getfield 9, 3) := by decide +kernel
theorem dX2_isHere_4 : decode cX2_isHere 4 = .ok (.iload_n 1, 1) := by decide +kernel
theorem dX2_isHere_5 : decode cX2_isHere 5 = .ok (.laload, 1) := by decide +kernel
theorem dX2_isHere_6 : decode cX2_isHere 6 = .ok (.lconst 0, 1) := by decide +kernel
theorem dX2_isHere_7 : decode cX2_isHere 7 = .ok (.lcmp, 1) := by decide +kernel
theorem dX2_isHere_8 : decode cX2_isHere 8 = .ok (.ifCond .ne 18, 3) := by decide +kernel
theorem dX2_isHere_11 : decode cX2_isHere 11 = .ok (.aload_n 0, 1) := by decide +kernel
theorem dX2_isHere_12 : decode cX2_isHere 12 = .ok (.getfield 15, 3) := by decide +kernel
theorem dX2_isHere_15 : decode cX2_isHere 15 = .ok (.iload_n 1, 1) := by decide +kernel
theorem dX2_isHere_16 : decode cX2_isHere 16 = .ok (.laload, 1) := by decide +kernel
theorem dX2_isHere_17 : decode cX2_isHere 17 = .ok (.lconst 0, 1) := by decide +kernel
theorem dX2_isHere_18 : decode cX2_isHere 18 = .ok (.lcmp, 1) := by decide +kernel
theorem dX2_isHere_19 : decode cX2_isHere 19 = .ok (.ifCond .ne 7, 3) := by decide +kernel
theorem dX2_isHere_22 : decode cX2_isHere 22 = .ok (.iconst 1, 1) := by decide +kernel
theorem dX2_isHere_23 : decode cX2_isHere 23 = .ok (.goto 4, 3) := by decide +kernel
theorem dX2_isHere_26 : decode cX2_isHere 26 = .ok (.iconst 0, 1) := by decide +kernel
theorem dX2_isHere_27 : decode cX2_isHere 27 = .ok (.ireturn, 1) := by decide +kernel
theorem dX2_leastBeside_0 : decode cX2_leastBeside 0 = .ok (.iconst 0, 1) := by decide +kernel
theorem dX2_leastBeside_1 : decode cX2_leastBeside 1 = .ok (.istore_n 3, 1) := by decide +kernel
theorem dX2_leastBeside_2 : decode cX2_leastBeside 2 = .ok (.iconst 0, 1) := by decide +kernel
theorem dX2_leastBeside_3 : decode cX2_leastBeside 3 = .ok (.istore 4, 2) := by decide +kernel
theorem dX2_leastBeside_5 : decode cX2_leastBeside 5 = .ok (.iconst 0, 1) := by decide +kernel
theorem dX2_leastBeside_6 : decode cX2_leastBeside 6 = .ok (.istore 5, 2) := by decide +kernel
theorem dX2_leastBeside_8 : decode cX2_leastBeside 8 = .ok (.iconst 0, 1) := by decide +kernel
theorem dX2_leastBeside_9 : decode cX2_leastBeside 9 = .ok (.istore 6, 2) := by decide +kernel
theorem dX2_leastBeside_11 : decode cX2_leastBeside 11 = .ok (.iconst 0, 1) := by decide +kernel
theorem dX2_leastBeside_12 : decode cX2_leastBeside 12 = .ok (.istore 7, 2) := by decide +kernel
theorem dX2_leastBeside_14 : decode cX2_leastBeside 14 = .ok (.iload 7, 2) := by decide +kernel
theorem dX2_leastBeside_16 : decode cX2_leastBeside 16 = .ok (.aload_n 1, 1) := by decide +kernel
theorem dX2_leastBeside_17 : decode cX2_leastBeside 17 = .ok (.getfield 18, 3) := by decide +kernel
theorem dX2_leastBeside_20 : decode cX2_leastBeside 20 = .ok (.if_icmp .ge 154, 3) := by decide +kernel
theorem dX2_leastBeside_23 : decode cX2_leastBeside 23 = .ok (.aload_n 0, 1) := by decide +kernel
theorem dX2_leastBeside_24 : decode cX2_leastBeside 24 = .ok (.getfield 9, 3) := by decide +kernel
theorem dX2_leastBeside_27 : decode cX2_leastBeside 27 = .ok (.iload_n 2, 1) := by decide +kernel
theorem dX2_leastBeside_28 : decode cX2_leastBeside 28 = .ok (.laload, 1) := by decide +kernel
theorem dX2_leastBeside_29 : decode cX2_leastBeside 29 = .ok (.aload_n 0, 1) := by decide +kernel
theorem dX2_leastBeside_30 : decode cX2_leastBeside 30 = .ok (.getfield 15, 3) := by decide +kernel
theorem dX2_leastBeside_33 : decode cX2_leastBeside 33 = .ok (.iload 7, 2) := by decide +kernel
theorem dX2_leastBeside_35 : decode cX2_leastBeside 35 = .ok (.laload, 1) := by decide +kernel
theorem dX2_leastBeside_36 : decode cX2_leastBeside 36 = .ok (.lmul, 1) := by decide +kernel
theorem dX2_leastBeside_37 : decode cX2_leastBeside 37 = .ok (.aload_n 0, 1) := by decide +kernel
theorem dX2_leastBeside_38 : decode cX2_leastBeside 38 = .ok (.getfield 15, 3) := by decide +kernel
theorem dX2_leastBeside_41 : decode cX2_leastBeside 41 = .ok (.iload_n 2, 1) := by decide +kernel
theorem dX2_leastBeside_42 : decode cX2_leastBeside 42 = .ok (.laload, 1) := by decide +kernel
theorem dX2_leastBeside_43 : decode cX2_leastBeside 43 = .ok (.aload_n 0, 1) := by decide +kernel
theorem dX2_leastBeside_44 : decode cX2_leastBeside 44 = .ok (.getfield 9, 3) := by decide +kernel
theorem dX2_leastBeside_47 : decode cX2_leastBeside 47 = .ok (.iload 7, 2) := by decide +kernel
theorem dX2_leastBeside_49 : decode cX2_leastBeside 49 = .ok (.laload, 1) := by decide +kernel
theorem dX2_leastBeside_50 : decode cX2_leastBeside 50 = .ok (.lmul, 1) := by decide +kernel
theorem dX2_leastBeside_51 : decode cX2_leastBeside 51 = .ok (.lsub, 1) := by decide +kernel
theorem dX2_leastBeside_52 : decode cX2_leastBeside 52 = .ok (.lstore 8, 2) := by decide +kernel
theorem dX2_leastBeside_54 : decode cX2_leastBeside 54 = .ok (.aload_n 0, 1) := by decide +kernel
theorem dX2_leastBeside_55 : decode cX2_leastBeside 55 = .ok (.getfield 9, 3) := by decide +kernel
theorem dX2_leastBeside_58 : decode cX2_leastBeside 58 = .ok (.iload_n 2, 1) := by decide +kernel
theorem dX2_leastBeside_59 : decode cX2_leastBeside 59 = .ok (.laload, 1) := by decide +kernel
theorem dX2_leastBeside_60 : decode cX2_leastBeside 60 = .ok (.aload_n 0, 1) := by decide +kernel
theorem dX2_leastBeside_61 : decode cX2_leastBeside 61 = .ok (.getfield 9, 3) := by decide +kernel
theorem dX2_leastBeside_64 : decode cX2_leastBeside 64 = .ok (.iload 7, 2) := by decide +kernel
theorem dX2_leastBeside_66 : decode cX2_leastBeside 66 = .ok (.laload, 1) := by decide +kernel
theorem dX2_leastBeside_67 : decode cX2_leastBeside 67 = .ok (.lmul, 1) := by decide +kernel
theorem dX2_leastBeside_68 : decode cX2_leastBeside 68 = .ok (.aload_n 0, 1) := by decide +kernel
theorem dX2_leastBeside_69 : decode cX2_leastBeside 69 = .ok (.getfield 15, 3) := by decide +kernel
theorem dX2_leastBeside_72 : decode cX2_leastBeside 72 = .ok (.iload_n 2, 1) := by decide +kernel
theorem dX2_leastBeside_73 : decode cX2_leastBeside 73 = .ok (.laload, 1) := by decide +kernel
theorem dX2_leastBeside_74 : decode cX2_leastBeside 74 = .ok (.aload_n 0, 1) := by decide +kernel
theorem dX2_leastBeside_75 : decode cX2_leastBeside 75 = .ok (.getfield 15, 3) := by decide +kernel
theorem dX2_leastBeside_78 : decode cX2_leastBeside 78 = .ok (.iload 7, 2) := by decide +kernel
theorem dX2_leastBeside_80 : decode cX2_leastBeside 80 = .ok (.laload, 1) := by decide +kernel
theorem dX2_leastBeside_81 : decode cX2_leastBeside 81 = .ok (.lmul, 1) := by decide +kernel
theorem dX2_leastBeside_82 : decode cX2_leastBeside 82 = .ok (.ladd, 1) := by decide +kernel
theorem dX2_leastBeside_83 : decode cX2_leastBeside 83 = .ok (.lstore 10, 2) := by decide +kernel
theorem dX2_leastBeside_85 : decode cX2_leastBeside 85 = .ok (.lload 8, 2) := by decide +kernel
theorem dX2_leastBeside_87 : decode cX2_leastBeside 87 = .ok (.lconst 0, 1) := by decide +kernel
theorem dX2_leastBeside_88 : decode cX2_leastBeside 88 = .ok (.lcmp, 1) := by decide +kernel
theorem dX2_leastBeside_89 : decode cX2_leastBeside 89 = .ok (.ifCond .le 16, 3) := by decide +kernel
theorem dX2_leastBeside_92 : decode cX2_leastBeside 92 = .ok (.iload_n 3, 1) := by decide +kernel
theorem dX2_leastBeside_93 : decode cX2_leastBeside 93 = .ok (.aload_n 1, 1) := by decide +kernel
theorem dX2_leastBeside_94 : decode cX2_leastBeside 94 = .ok (.getfield 35, 3) := by decide +kernel
theorem dX2_leastBeside_97 : decode cX2_leastBeside 97 = .ok (.iload 7, 2) := by decide +kernel
theorem dX2_leastBeside_99 : decode cX2_leastBeside 99 = .ok (.iaload, 1) := by decide +kernel
theorem dX2_leastBeside_100 : decode cX2_leastBeside 100 = .ok (.iadd, 1) := by decide +kernel
theorem dX2_leastBeside_101 : decode cX2_leastBeside 101 = .ok (.istore_n 3, 1) := by decide +kernel
theorem dX2_leastBeside_102 : decode cX2_leastBeside 102 = .ok (.goto 66, 3) := by decide +kernel
theorem dX2_leastBeside_105 : decode cX2_leastBeside 105 = .ok (.lload 8, 2) := by decide +kernel
theorem dX2_leastBeside_107 : decode cX2_leastBeside 107 = .ok (.lconst 0, 1) := by decide +kernel
theorem dX2_leastBeside_108 : decode cX2_leastBeside 108 = .ok (.lcmp, 1) := by decide +kernel
theorem dX2_leastBeside_109 : decode cX2_leastBeside 109 = .ok (.ifCond .ge 18, 3) := by decide +kernel
theorem dX2_leastBeside_112 : decode cX2_leastBeside 112 = .ok (.iload 4, 2) := by decide +kernel
theorem dX2_leastBeside_114 : decode cX2_leastBeside 114 = .ok (.aload_n 1, 1) := by decide +kernel
theorem dX2_leastBeside_115 : decode cX2_leastBeside 115 = .ok (.getfield 35, 3) := by decide +kernel
theorem dX2_leastBeside_118 : decode cX2_leastBeside 118 = .ok (.iload 7, 2) := by decide +kernel
theorem dX2_leastBeside_120 : decode cX2_leastBeside 120 = .ok (.iaload, 1) := by decide +kernel
theorem dX2_leastBeside_121 : decode cX2_leastBeside 121 = .ok (.iadd, 1) := by decide +kernel
theorem dX2_leastBeside_122 : decode cX2_leastBeside 122 = .ok (.istore 4, 2) := by decide +kernel
theorem dX2_leastBeside_124 : decode cX2_leastBeside 124 = .ok (.goto 44, 3) := by decide +kernel
theorem dX2_leastBeside_127 : decode cX2_leastBeside 127 = .ok (.lload 10, 2) := by decide +kernel
theorem dX2_leastBeside_129 : decode cX2_leastBeside 129 = .ok (.lconst 0, 1) := by decide +kernel
theorem dX2_leastBeside_130 : decode cX2_leastBeside 130 = .ok (.lcmp, 1) := by decide +kernel
theorem dX2_leastBeside_131 : decode cX2_leastBeside 131 = .ok (.ifCond .le 18, 3) := by decide +kernel
theorem dX2_leastBeside_134 : decode cX2_leastBeside 134 = .ok (.iload 5, 2) := by decide +kernel
theorem dX2_leastBeside_136 : decode cX2_leastBeside 136 = .ok (.aload_n 1, 1) := by decide +kernel
theorem dX2_leastBeside_137 : decode cX2_leastBeside 137 = .ok (.getfield 35, 3) := by decide +kernel
theorem dX2_leastBeside_140 : decode cX2_leastBeside 140 = .ok (.iload 7, 2) := by decide +kernel
theorem dX2_leastBeside_142 : decode cX2_leastBeside 142 = .ok (.iaload, 1) := by decide +kernel
theorem dX2_leastBeside_143 : decode cX2_leastBeside 143 = .ok (.iadd, 1) := by decide +kernel
theorem dX2_leastBeside_144 : decode cX2_leastBeside 144 = .ok (.istore 5, 2) := by decide +kernel
theorem dX2_leastBeside_146 : decode cX2_leastBeside 146 = .ok (.goto 22, 3) := by decide +kernel
theorem dX2_leastBeside_149 : decode cX2_leastBeside 149 = .ok (.lload 10, 2) := by decide +kernel
theorem dX2_leastBeside_151 : decode cX2_leastBeside 151 = .ok (.lconst 0, 1) := by decide +kernel
theorem dX2_leastBeside_152 : decode cX2_leastBeside 152 = .ok (.lcmp, 1) := by decide +kernel
theorem dX2_leastBeside_153 : decode cX2_leastBeside 153 = .ok (.ifCond .ge 15, 3) := by decide +kernel
theorem dX2_leastBeside_156 : decode cX2_leastBeside 156 = .ok (.iload 6, 2) := by decide +kernel
theorem dX2_leastBeside_158 : decode cX2_leastBeside 158 = .ok (.aload_n 1, 1) := by decide +kernel
theorem dX2_leastBeside_159 : decode cX2_leastBeside 159 = .ok (.getfield 35, 3) := by decide +kernel
theorem dX2_leastBeside_162 : decode cX2_leastBeside 162 = .ok (.iload 7, 2) := by decide +kernel
theorem dX2_leastBeside_164 : decode cX2_leastBeside 164 = .ok (.iaload, 1) := by decide +kernel
theorem dX2_leastBeside_165 : decode cX2_leastBeside 165 = .ok (.iadd, 1) := by decide +kernel
theorem dX2_leastBeside_166 : decode cX2_leastBeside 166 = .ok (.istore 6, 2) := by decide +kernel
theorem dX2_leastBeside_168 : decode cX2_leastBeside 168 = .ok (.iinc 7 1, 3) := by decide +kernel
theorem dX2_leastBeside_171 : decode cX2_leastBeside 171 = .ok (.goto (-157), 3) := by decide +kernel
theorem dX2_leastBeside_174 : decode cX2_leastBeside 174 = .ok (.iload_n 3, 1) := by decide +kernel
theorem dX2_leastBeside_175 : decode cX2_leastBeside 175 = .ok (.iload 4, 2) := by decide +kernel
theorem dX2_leastBeside_177 : decode cX2_leastBeside 177 = .ok (.invokestatic 46, 3) := by decide +kernel
theorem dX2_leastBeside_180 : decode cX2_leastBeside 180 = .ok (.iload 5, 2) := by decide +kernel
theorem dX2_leastBeside_182 : decode cX2_leastBeside 182 = .ok (.iload 6, 2) := by decide +kernel
theorem dX2_leastBeside_184 : decode cX2_leastBeside 184 = .ok (.invokestatic 46, 3) := by decide +kernel
theorem dX2_leastBeside_187 : decode cX2_leastBeside 187 = .ok (.iadd, 1) := by decide +kernel
theorem dX2_leastBeside_188 : decode cX2_leastBeside 188 = .ok (.ireturn, 1) := by decide +kernel
theorem dX2_findDeepest_0 : decode cX2_findDeepest 0 = .ok (.aload_n 0, 1) := by decide +kernel
theorem dX2_findDeepest_1 : decode cX2_findDeepest 1 = .ok (.iconst 0, 1) := by decide +kernel
theorem dX2_findDeepest_2 : decode cX2_findDeepest 2 = .ok (.putfield 52, 3) := by decide +kernel
theorem dX2_findDeepest_5 : decode cX2_findDeepest 5 = .ok (.aload_n 0, 1) := by decide +kernel
theorem dX2_findDeepest_6 : decode cX2_findDeepest 6 = .ok (.lconst 0, 1) := by decide +kernel
theorem dX2_findDeepest_7 : decode cX2_findDeepest 7 = .ok (.putfield 55, 3) := by decide +kernel
theorem dX2_findDeepest_10 : decode cX2_findDeepest 10 = .ok (.aload_n 0, 1) := by decide +kernel
theorem dX2_findDeepest_11 : decode cX2_findDeepest 11 = .ok (.lconst 0, 1) := by decide +kernel
theorem dX2_findDeepest_12 : decode cX2_findDeepest 12 = .ok (.putfield 58, 3) := by decide +kernel
theorem dX2_findDeepest_15 : decode cX2_findDeepest 15 = .ok (.aload_n 0, 1) := by decide +kernel
theorem dX2_findDeepest_16 : decode cX2_findDeepest 16 = .ok (.lconst 1, 1) := by decide +kernel
theorem dX2_findDeepest_17 : decode cX2_findDeepest 17 = .ok (.putfield 60, 3) := by decide +kernel
theorem dX2_findDeepest_20 : decode cX2_findDeepest 20 = .ok (.iconst 0, 1) := by decide +kernel
theorem dX2_findDeepest_21 : decode cX2_findDeepest 21 = .ok (.istore_n 3, 1) := by decide +kernel
theorem dX2_findDeepest_22 : decode cX2_findDeepest 22 = .ok (.iload_n 3, 1) := by decide +kernel
theorem dX2_findDeepest_23 : decode cX2_findDeepest 23 = .ok (.aload_n 1, 1) := by decide +kernel
theorem dX2_findDeepest_24 : decode cX2_findDeepest 24 = .ok (.getfield 18, 3) := by decide +kernel
theorem dX2_findDeepest_27 : decode cX2_findDeepest 27 = .ok (.if_icmp .ge 29, 3) := by decide +kernel
theorem dX2_findDeepest_30 : decode cX2_findDeepest 30 = .ok (.aload_n 0, 1) := by decide +kernel
theorem dX2_findDeepest_31 : decode cX2_findDeepest 31 = .ok (.aload_n 1, 1) := by decide +kernel
theorem dX2_findDeepest_32 : decode cX2_findDeepest 32 = .ok (.aload_n 1, 1) := by decide +kernel
theorem dX2_findDeepest_33 : decode cX2_findDeepest 33 = .ok (.getfield 24, 3) := by decide +kernel
theorem dX2_findDeepest_36 : decode cX2_findDeepest 36 = .ok (.iload_n 3, 1) := by decide +kernel
theorem dX2_findDeepest_37 : decode cX2_findDeepest 37 = .ok (.iaload, 1) := by decide +kernel
theorem dX2_findDeepest_38 : decode cX2_findDeepest 38 = .ok (.i2l, 1) := by decide +kernel
theorem dX2_findDeepest_39 : decode cX2_findDeepest 39 = .ok (.aload_n 1, 1) := by decide +kernel
theorem dX2_findDeepest_40 : decode cX2_findDeepest 40 = .ok (.getfield 28, 3) := by decide +kernel
theorem dX2_findDeepest_43 : decode cX2_findDeepest 43 = .ok (.iload_n 3, 1) := by decide +kernel
theorem dX2_findDeepest_44 : decode cX2_findDeepest 44 = .ok (.iaload, 1) := by decide +kernel
theorem dX2_findDeepest_45 : decode cX2_findDeepest 45 = .ok (.i2l, 1) := by decide +kernel
theorem dX2_findDeepest_46 : decode cX2_findDeepest 46 = .ok (.lconst 1, 1) := by decide +kernel
theorem dX2_findDeepest_47 : decode cX2_findDeepest 47 = .ok (.invokevirtual 63, 3) := by decide +kernel
theorem dX2_findDeepest_50 : decode cX2_findDeepest 50 = .ok (.iinc 3 1, 3) := by decide +kernel
theorem dX2_findDeepest_53 : decode cX2_findDeepest 53 = .ok (.goto (-31), 3) := by decide +kernel
theorem dX2_findDeepest_56 : decode cX2_findDeepest 56 = .ok (.iconst 0, 1) := by decide +kernel
theorem dX2_findDeepest_57 : decode cX2_findDeepest 57 = .ok (.istore_n 3, 1) := by decide +kernel
theorem dX2_findDeepest_58 : decode cX2_findDeepest 58 = .ok (.iload_n 3, 1) := by decide +kernel
theorem dX2_findDeepest_59 : decode cX2_findDeepest 59 = .ok (.aload_n 2, 1) := by decide +kernel
theorem dX2_findDeepest_60 : decode cX2_findDeepest 60 = .ok (.getfield 67, 3) := by decide +kernel
theorem dX2_findDeepest_63 : decode cX2_findDeepest 63 = .ok (.if_icmp .ge 38, 3) := by decide +kernel
theorem dX2_findDeepest_66 : decode cX2_findDeepest 66 = .ok (.iload_n 3, 1) := by decide +kernel
theorem dX2_findDeepest_67 : decode cX2_findDeepest 67 = .ok (.iconst 1, 1) := by decide +kernel
theorem dX2_findDeepest_68 : decode cX2_findDeepest 68 = .ok (.iadd, 1) := by decide +kernel
theorem dX2_findDeepest_69 : decode cX2_findDeepest 69 = .ok (.istore 4, 2) := by decide +kernel
theorem dX2_findDeepest_71 : decode cX2_findDeepest 71 = .ok (.iload 4, 2) := by decide +kernel
theorem dX2_findDeepest_73 : decode cX2_findDeepest 73 = .ok (.aload_n 2, 1) := by decide +kernel
theorem dX2_findDeepest_74 : decode cX2_findDeepest 74 = .ok (.getfield 67, 3) := by decide +kernel
theorem dX2_findDeepest_77 : decode cX2_findDeepest 77 = .ok (.if_icmp .ge 18, 3) := by decide +kernel
theorem dX2_findDeepest_80 : decode cX2_findDeepest 80 = .ok (.aload_n 0, 1) := by decide +kernel
theorem dX2_findDeepest_81 : decode cX2_findDeepest 81 = .ok (.aload_n 1, 1) := by decide +kernel
theorem dX2_findDeepest_82 : decode cX2_findDeepest 82 = .ok (.aload_n 2, 1) := by decide +kernel
theorem dX2_findDeepest_83 : decode cX2_findDeepest 83 = .ok (.iload_n 3, 1) := by decide +kernel
theorem dX2_findDeepest_84 : decode cX2_findDeepest 84 = .ok (.iload 4, 2) := by decide +kernel
theorem dX2_findDeepest_86 : decode cX2_findDeepest 86 = .ok (.invokevirtual 70, 3) := by decide +kernel
theorem dX2_findDeepest_89 : decode cX2_findDeepest 89 = .ok (.iinc 4 1, 3) := by decide +kernel
theorem dX2_findDeepest_92 : decode cX2_findDeepest 92 = .ok (.goto (-21), 3) := by decide +kernel
theorem dX2_findDeepest_95 : decode cX2_findDeepest 95 = .ok (.iinc 3 1, 3) := by decide +kernel
theorem dX2_findDeepest_98 : decode cX2_findDeepest 98 = .ok (.goto (-40), 3) := by decide +kernel
theorem dX2_findDeepest_101 : decode cX2_findDeepest 101 = .ok (.aload_n 0, 1) := by decide +kernel
theorem dX2_findDeepest_102 : decode cX2_findDeepest 102 = .ok (.iconst 1, 1) := by decide +kernel
theorem dX2_findDeepest_103 : decode cX2_findDeepest 103 = .ok (.putfield 74, 3) := by decide +kernel
theorem dX2_findDeepest_106 : decode cX2_findDeepest 106 = .ok (.return_, 1) := by decide +kernel
theorem dX2_considerCrossing_0 : decode cX2_considerCrossing 0 = .ok (.aload_n 2, 1) := by decide +kernel
theorem dX2_considerCrossing_1 : decode cX2_considerCrossing 1 = .ok (.getfield 78, 3) := by decide +kernel
theorem dX2_considerCrossing_4 : decode cX2_considerCrossing 4 = .ok (.iload_n 3, 1) := by decide +kernel
theorem dX2_considerCrossing_5 : decode cX2_considerCrossing 5 = .ok (.iaload, 1) := by decide +kernel
theorem dX2_considerCrossing_6 : decode cX2_considerCrossing 6 = .ok (.i2l, 1) := by decide +kernel
theorem dX2_considerCrossing_7 : decode cX2_considerCrossing 7 = .ok (.aload_n 2, 1) := by decide +kernel
theorem dX2_considerCrossing_8 : decode cX2_considerCrossing 8 = .ok (.getfield 81, 3) := by decide +kernel
theorem dX2_considerCrossing_11 : decode cX2_considerCrossing 11 = .ok (.iload 4, 2) := by decide +kernel
theorem dX2_considerCrossing_13 : decode cX2_considerCrossing 13 = .ok (.iaload, 1) := by decide +kernel
theorem dX2_considerCrossing_14 : decode cX2_considerCrossing 14 = .ok (.i2l, 1) := by decide +kernel
theorem dX2_considerCrossing_15 : decode cX2_considerCrossing 15 = .ok (.lmul, 1) := by decide +kernel
theorem dX2_considerCrossing_16 : decode cX2_considerCrossing 16 = .ok (.aload_n 2, 1) := by decide +kernel
theorem dX2_considerCrossing_17 : decode cX2_considerCrossing 17 = .ok (.getfield 78, 3) := by decide +kernel
theorem dX2_considerCrossing_20 : decode cX2_considerCrossing 20 = .ok (.iload 4, 2) := by decide +kernel
theorem dX2_considerCrossing_22 : decode cX2_considerCrossing 22 = .ok (.iaload, 1) := by decide +kernel
theorem dX2_considerCrossing_23 : decode cX2_considerCrossing 23 = .ok (.i2l, 1) := by decide +kernel
theorem dX2_considerCrossing_24 : decode cX2_considerCrossing 24 = .ok (.aload_n 2, 1) := by decide +kernel
theorem dX2_considerCrossing_25 : decode cX2_considerCrossing 25 = .ok (.getfield 81, 3) := by decide +kernel
theorem dX2_considerCrossing_28 : decode cX2_considerCrossing 28 = .ok (.iload_n 3, 1) := by decide +kernel
theorem dX2_considerCrossing_29 : decode cX2_considerCrossing 29 = .ok (.iaload, 1) := by decide +kernel
theorem dX2_considerCrossing_30 : decode cX2_considerCrossing 30 = .ok (.i2l, 1) := by decide +kernel
theorem dX2_considerCrossing_31 : decode cX2_considerCrossing 31 = .ok (.lmul, 1) := by decide +kernel
theorem dX2_considerCrossing_32 : decode cX2_considerCrossing 32 = .ok (.lsub, 1) := by decide +kernel
theorem dX2_considerCrossing_33 : decode cX2_considerCrossing 33 = .ok (.lstore 5, 2) := by decide +kernel
theorem dX2_considerCrossing_35 : decode cX2_considerCrossing 35 = .ok (.lload 5, 2) := by decide +kernel
theorem dX2_considerCrossing_37 : decode cX2_considerCrossing 37 = .ok (.lconst 0, 1) := by decide +kernel
theorem dX2_considerCrossing_38 : decode cX2_considerCrossing 38 = .ok (.lcmp, 1) := by decide +kernel
theorem dX2_considerCrossing_39 : decode cX2_considerCrossing 39 = .ok (.ifCond .ne 4, 3) := by decide +kernel
theorem dX2_considerCrossing_42 : decode cX2_considerCrossing 42 = .ok (.return_, 1) := by decide +kernel
theorem dX2_considerCrossing_43 : decode cX2_considerCrossing 43 = .ok (.aload_n 2, 1) := by decide +kernel
theorem dX2_considerCrossing_44 : decode cX2_considerCrossing 44 = .ok (.getfield 81, 3) := by decide +kernel
theorem dX2_considerCrossing_47 : decode cX2_considerCrossing 47 = .ok (.iload_n 3, 1) := by decide +kernel
theorem dX2_considerCrossing_48 : decode cX2_considerCrossing 48 = .ok (.iaload, 1) := by decide +kernel
theorem dX2_considerCrossing_49 : decode cX2_considerCrossing 49 = .ok (.i2l, 1) := by decide +kernel
theorem dX2_considerCrossing_50 : decode cX2_considerCrossing 50 = .ok (.aload_n 2, 1) := by decide +kernel
theorem dX2_considerCrossing_51 : decode cX2_considerCrossing 51 = .ok (.getfield 84, 3) := by decide +kernel
theorem dX2_considerCrossing_54 : decode cX2_considerCrossing 54 = .ok (.iload 4, 2) := by decide +kernel
theorem dX2_considerCrossing_56 : decode cX2_considerCrossing 56 = .ok (.iaload, 1) := by decide +kernel
theorem dX2_considerCrossing_57 : decode cX2_considerCrossing 57 = .ok (.i2l, 1) := by decide +kernel
theorem dX2_considerCrossing_58 : decode cX2_considerCrossing 58 = .ok (.lmul, 1) := by decide +kernel
theorem dX2_considerCrossing_59 : decode cX2_considerCrossing 59 = .ok (.aload_n 2, 1) := by decide +kernel
theorem dX2_considerCrossing_60 : decode cX2_considerCrossing 60 = .ok (.getfield 81, 3) := by decide +kernel
theorem dX2_considerCrossing_63 : decode cX2_considerCrossing 63 = .ok (.iload 4, 2) := by decide +kernel
theorem dX2_considerCrossing_65 : decode cX2_considerCrossing 65 = .ok (.iaload, 1) := by decide +kernel
theorem dX2_considerCrossing_66 : decode cX2_considerCrossing 66 = .ok (.i2l, 1) := by decide +kernel
theorem dX2_considerCrossing_67 : decode cX2_considerCrossing 67 = .ok (.aload_n 2, 1) := by decide +kernel
theorem dX2_considerCrossing_68 : decode cX2_considerCrossing 68 = .ok (.getfield 84, 3) := by decide +kernel
theorem dX2_considerCrossing_71 : decode cX2_considerCrossing 71 = .ok (.iload_n 3, 1) := by decide +kernel
theorem dX2_considerCrossing_72 : decode cX2_considerCrossing 72 = .ok (.iaload, 1) := by decide +kernel
theorem dX2_considerCrossing_73 : decode cX2_considerCrossing 73 = .ok (.i2l, 1) := by decide +kernel
theorem dX2_considerCrossing_74 : decode cX2_considerCrossing 74 = .ok (.lmul, 1) := by decide +kernel
theorem dX2_considerCrossing_75 : decode cX2_considerCrossing 75 = .ok (.lsub, 1) := by decide +kernel
theorem dX2_considerCrossing_76 : decode cX2_considerCrossing 76 = .ok (.lstore 7, 2) := by decide +kernel
theorem dX2_considerCrossing_78 : decode cX2_considerCrossing 78 = .ok (.aload_n 2, 1) := by decide +kernel
theorem dX2_considerCrossing_79 : decode cX2_considerCrossing 79 = .ok (.getfield 84, 3) := by decide +kernel
theorem dX2_considerCrossing_82 : decode cX2_considerCrossing 82 = .ok (.iload_n 3, 1) := by decide +kernel
theorem dX2_considerCrossing_83 : decode cX2_considerCrossing 83 = .ok (.iaload, 1) := by decide +kernel
theorem dX2_considerCrossing_84 : decode cX2_considerCrossing 84 = .ok (.i2l, 1) := by decide +kernel
theorem dX2_considerCrossing_85 : decode cX2_considerCrossing 85 = .ok (.aload_n 2, 1) := by decide +kernel
theorem dX2_considerCrossing_86 : decode cX2_considerCrossing 86 = .ok (.getfield 78, 3) := by decide +kernel
theorem dX2_considerCrossing_89 : decode cX2_considerCrossing 89 = .ok (.iload 4, 2) := by decide +kernel
theorem dX2_considerCrossing_91 : decode cX2_considerCrossing 91 = .ok (.iaload, 1) := by decide +kernel
theorem dX2_considerCrossing_92 : decode cX2_considerCrossing 92 = .ok (.i2l, 1) := by decide +kernel
theorem dX2_considerCrossing_93 : decode cX2_considerCrossing 93 = .ok (.lmul, 1) := by decide +kernel
theorem dX2_considerCrossing_94 : decode cX2_considerCrossing 94 = .ok (.aload_n 2, 1) := by decide +kernel
theorem dX2_considerCrossing_95 : decode cX2_considerCrossing 95 = .ok (.getfield 84, 3) := by decide +kernel
theorem dX2_considerCrossing_98 : decode cX2_considerCrossing 98 = .ok (.iload 4, 2) := by decide +kernel
theorem dX2_considerCrossing_100 : decode cX2_considerCrossing 100 = .ok (.iaload, 1) := by decide +kernel
theorem dX2_considerCrossing_101 : decode cX2_considerCrossing 101 = .ok (.i2l, 1) := by decide +kernel
theorem dX2_considerCrossing_102 : decode cX2_considerCrossing 102 = .ok (.aload_n 2, 1) := by decide +kernel
theorem dX2_considerCrossing_103 : decode cX2_considerCrossing 103 = .ok (.getfield 78, 3) := by decide +kernel
theorem dX2_considerCrossing_106 : decode cX2_considerCrossing 106 = .ok (.iload_n 3, 1) := by decide +kernel
theorem dX2_considerCrossing_107 : decode cX2_considerCrossing 107 = .ok (.iaload, 1) := by decide +kernel
theorem dX2_considerCrossing_108 : decode cX2_considerCrossing 108 = .ok (.i2l, 1) := by decide +kernel
theorem dX2_considerCrossing_109 : decode cX2_considerCrossing 109 = .ok (.lmul, 1) := by decide +kernel
theorem dX2_considerCrossing_110 : decode cX2_considerCrossing 110 = .ok (.lsub, 1) := by decide +kernel
theorem dX2_considerCrossing_111 : decode cX2_considerCrossing 111 = .ok (.lstore 9, 2) := by decide +kernel
theorem dX2_considerCrossing_113 : decode cX2_considerCrossing 113 = .ok (.lload 5, 2) := by decide +kernel
theorem dX2_considerCrossing_115 : decode cX2_considerCrossing 115 = .ok (.lconst 0, 1) := by decide +kernel
theorem dX2_considerCrossing_116 : decode cX2_considerCrossing 116 = .ok (.lcmp, 1) := by decide +kernel
theorem dX2_considerCrossing_117 : decode cX2_considerCrossing 117 = .ok (.ifCond .le 17, 3) := by decide +kernel
theorem dX2_considerCrossing_120 : decode cX2_considerCrossing 120 = .ok (.aload_n 0, 1) := by decide +kernel
theorem dX2_considerCrossing_121 : decode cX2_considerCrossing 121 = .ok (.aload_n 1, 1) := by decide +kernel
theorem dX2_considerCrossing_122 : decode cX2_considerCrossing 122 = .ok (.lload 7, 2) := by decide +kernel
theorem dX2_considerCrossing_124 : decode cX2_considerCrossing 124 = .ok (.lload 9, 2) := by decide +kernel
theorem dX2_considerCrossing_126 : decode cX2_considerCrossing 126 = .ok (.lload 5, 2) := by decide +kernel
theorem dX2_considerCrossing_128 : decode cX2_considerCrossing 128 = .ok (.invokevirtual 63, 3) := by decide +kernel
theorem dX2_considerCrossing_131 : decode cX2_considerCrossing 131 = .ok (.goto 17, 3) := by decide +kernel
theorem dX2_considerCrossing_134 : decode cX2_considerCrossing 134 = .ok (.aload_n 0, 1) := by decide +kernel
theorem dX2_considerCrossing_135 : decode cX2_considerCrossing 135 = .ok (.aload_n 1, 1) := by decide +kernel
theorem dX2_considerCrossing_136 : decode cX2_considerCrossing 136 = .ok (.lload 7, 2) := by decide +kernel
theorem dX2_considerCrossing_138 : decode cX2_considerCrossing 138 = .ok (.lneg, 1) := by decide +kernel
theorem dX2_considerCrossing_139 : decode cX2_considerCrossing 139 = .ok (.lload 9, 2) := by decide +kernel
theorem dX2_considerCrossing_141 : decode cX2_considerCrossing 141 = .ok (.lneg, 1) := by decide +kernel
theorem dX2_considerCrossing_142 : decode cX2_considerCrossing 142 = .ok (.lload 5, 2) := by decide +kernel
theorem dX2_considerCrossing_144 : decode cX2_considerCrossing 144 = .ok (.lneg, 1) := by decide +kernel
theorem dX2_considerCrossing_145 : decode cX2_considerCrossing 145 = .ok (.invokevirtual 63, 3) := by decide +kernel
theorem dX2_considerCrossing_148 : decode cX2_considerCrossing 148 = .ok (.return_, 1) := by decide +kernel
theorem dX2_consider_0 : decode cX2_consider 0 = .ok (.aload_n 0, 1) := by decide +kernel
theorem dX2_consider_1 : decode cX2_consider 1 = .ok (.lload_n 2, 1) := by decide +kernel
theorem dX2_consider_2 : decode cX2_consider 2 = .ok (.lload 4, 2) := by decide +kernel
theorem dX2_consider_4 : decode cX2_consider 4 = .ok (.lload 6, 2) := by decide +kernel
theorem dX2_consider_6 : decode cX2_consider 6 = .ok (.invokevirtual 87, 3) := by decide +kernel
theorem dX2_consider_9 : decode cX2_consider 9 = .ok (.ifCond .eq 10, 3) := by decide +kernel
theorem dX2_consider_12 : decode cX2_consider 12 = .ok (.aload_n 0, 1) := by decide +kernel
theorem dX2_consider_13 : decode cX2_consider 13 = .ok (.getfield 52, 3) := by decide +kernel
theorem dX2_consider_16 : decode cX2_consider 16 = .ok (.goto 9, 3) := by decide +kernel
theorem dX2_consider_19 : decode cX2_consider 19 = .ok (.aload_n 0, 1) := by decide +kernel
theorem dX2_consider_20 : decode cX2_consider 20 = .ok (.getfield 52, 3) := by decide +kernel
theorem dX2_consider_23 : decode cX2_consider 23 = .ok (.iconst 1, 1) := by decide +kernel
theorem dX2_consider_24 : decode cX2_consider 24 = .ok (.iadd, 1) := by decide +kernel
theorem dX2_consider_25 : decode cX2_consider 25 = .ok (.istore 8, 2) := by decide +kernel
theorem dX2_consider_27 : decode cX2_consider 27 = .ok (.aload_n 0, 1) := by decide +kernel
theorem dX2_consider_28 : decode cX2_consider 28 = .ok (.aload_n 1, 1) := by decide +kernel
theorem dX2_consider_29 : decode cX2_consider 29 = .ok (.lload_n 2, 1) := by decide +kernel
theorem dX2_consider_30 : decode cX2_consider 30 = .ok (.lload 4, 2) := by decide +kernel
theorem dX2_consider_32 : decode cX2_consider 32 = .ok (.lload 6, 2) := by decide +kernel
theorem dX2_consider_34 : decode cX2_consider 34 = .ok (.iload 8, 2) := by decide +kernel
theorem dX2_consider_36 : decode cX2_consider 36 = .ok (.invokevirtual 91, 3) := by decide +kernel
theorem dX2_consider_39 : decode cX2_consider 39 = .ok (.istore 9, 2) := by decide +kernel
theorem dX2_consider_41 : decode cX2_consider 41 = .ok (.iload 9, 2) := by decide +kernel
theorem dX2_consider_43 : decode cX2_consider 43 = .ok (.iload 8, 2) := by decide +kernel
theorem dX2_consider_45 : decode cX2_consider 45 = .ok (.if_icmp .lt 26, 3) := by decide +kernel
theorem dX2_consider_48 : decode cX2_consider 48 = .ok (.aload_n 0, 1) := by decide +kernel
theorem dX2_consider_49 : decode cX2_consider 49 = .ok (.iload 9, 2) := by decide +kernel
theorem dX2_consider_51 : decode cX2_consider 51 = .ok (.putfield 52, 3) := by decide +kernel
theorem dX2_consider_54 : decode cX2_consider 54 = .ok (.aload_n 0, 1) := by decide +kernel
theorem dX2_consider_55 : decode cX2_consider 55 = .ok (.lload_n 2, 1) := by decide +kernel
theorem dX2_consider_56 : decode cX2_consider 56 = .ok (.putfield 55, 3) := by decide +kernel
theorem dX2_consider_59 : decode cX2_consider 59 = .ok (.aload_n 0, 1) := by decide +kernel
theorem dX2_consider_60 : decode cX2_consider 60 = .ok (.lload 4, 2) := by decide +kernel
theorem dX2_consider_62 : decode cX2_consider 62 = .ok (.putfield 58, 3) := by decide +kernel
theorem dX2_consider_65 : decode cX2_consider 65 = .ok (.aload_n 0, 1) := by decide +kernel
theorem dX2_consider_66 : decode cX2_consider 66 = .ok (.lload 6, 2) := by decide +kernel
theorem dX2_consider_68 : decode cX2_consider 68 = .ok (.putfield 60, 3) := by decide +kernel
theorem dX2_consider_71 : decode cX2_consider 71 = .ok (.return_, 1) := by decide +kernel
theorem dX2_isAhead_0 : decode cX2_isAhead 0 = .ok (.lload_n 1, 1) := by decide +kernel
theorem dX2_isAhead_1 : decode cX2_isAhead 1 = .ok (.aload_n 0, 1) := by decide +kernel
theorem dX2_isAhead_2 : decode cX2_isAhead 2 = .ok (.getfield 60, 3) := by decide +kernel
theorem dX2_isAhead_5 : decode cX2_isAhead 5 = .ok (.lmul, 1) := by decide +kernel
theorem dX2_isAhead_6 : decode cX2_isAhead 6 = .ok (.lstore 7, 2) := by decide +kernel
theorem dX2_isAhead_8 : decode cX2_isAhead 8 = .ok (.aload_n 0, 1) := by decide +kernel
theorem dX2_isAhead_9 : decode cX2_isAhead 9 = .ok (.getfield 55, 3) := by decide +kernel
theorem dX2_isAhead_12 : decode cX2_isAhead 12 = .ok (.lload 5, 2) := by decide +kernel
theorem dX2_isAhead_14 : decode cX2_isAhead 14 = .ok (.lmul, 1) := by decide +kernel
theorem dX2_isAhead_15 : decode cX2_isAhead 15 = .ok (.lstore 9, 2) := by decide +kernel
theorem dX2_isAhead_17 : decode cX2_isAhead 17 = .ok (.lload 7, 2) := by decide +kernel
theorem dX2_isAhead_19 : decode cX2_isAhead 19 = .ok (.lload 9, 2) := by decide +kernel
theorem dX2_isAhead_21 : decode cX2_isAhead 21 = .ok (.lcmp, 1) := by decide +kernel
theorem dX2_isAhead_22 : decode cX2_isAhead 22 = .ok (.ifCond .lt 28, 3) := by decide +kernel
theorem dX2_isAhead_25 : decode cX2_isAhead 25 = .ok (.lload 7, 2) := by decide +kernel
theorem dX2_isAhead_27 : decode cX2_isAhead 27 = .ok (.lload 9, 2) := by decide +kernel
theorem dX2_isAhead_29 : decode cX2_isAhead 29 = .ok (.lcmp, 1) := by decide +kernel
theorem dX2_isAhead_30 : decode cX2_isAhead 30 = .ok (.ifCond .ne 24, 3) := by decide +kernel
theorem dX2_isAhead_33 : decode cX2_isAhead 33 = .ok (.lload_n 3, 1) := by decide +kernel
theorem dX2_isAhead_34 : decode cX2_isAhead 34 = .ok (.aload_n 0, 1) := by decide +kernel
theorem dX2_isAhead_35 : decode cX2_isAhead 35 = .ok (.getfield 60, 3) := by decide +kernel
theorem dX2_isAhead_38 : decode cX2_isAhead 38 = .ok (.lmul, 1) := by decide +kernel
theorem dX2_isAhead_39 : decode cX2_isAhead 39 = .ok (.aload_n 0, 1) := by decide +kernel
theorem dX2_isAhead_40 : decode cX2_isAhead 40 = .ok (.getfield 58, 3) := by decide +kernel
theorem dX2_isAhead_43 : decode cX2_isAhead 43 = .ok (.lload 5, 2) := by decide +kernel
theorem dX2_isAhead_45 : decode cX2_isAhead 45 = .ok (.lmul, 1) := by decide +kernel
theorem dX2_isAhead_46 : decode cX2_isAhead 46 = .ok (.lcmp, 1) := by decide +kernel
theorem dX2_isAhead_47 : decode cX2_isAhead 47 = .ok (.ifCond .ge 7, 3) := by decide +kernel
theorem dX2_isAhead_50 : decode cX2_isAhead 50 = .ok (.iconst 1, 1) := by decide +kernel
theorem dX2_isAhead_51 : decode cX2_isAhead 51 = .ok (.goto 4, 3) := by decide +kernel
theorem dX2_isAhead_54 : decode cX2_isAhead 54 = .ok (.iconst 0, 1) := by decide +kernel
theorem dX2_isAhead_55 : decode cX2_isAhead 55 = .ok (.ireturn, 1) := by decide +kernel
theorem dX2_tell_0 : decode cX2_tell 0 = .ok (.iload_n 1, 1) := by decide +kernel
theorem dX2_tell_1 : decode cX2_tell 1 = .ok (.tableswitch 73 0 3 #[31, 37, 49, 61], 31) := by decide +kernel
theorem dX2_tell_32 : decode cX2_tell 32 = .ok (.aload_n 0, 1) := by decide +kernel
theorem dX2_tell_33 : decode cX2_tell 33 = .ok (.getfield 52, 3) := by decide +kernel
theorem dX2_tell_36 : decode cX2_tell 36 = .ok (.i2l, 1) := by decide +kernel
theorem dX2_tell_37 : decode cX2_tell 37 = .ok (.lreturn, 1) := by decide +kernel
theorem dX2_tell_38 : decode cX2_tell 38 = .ok (.aload_n 0, 1) := by decide +kernel
theorem dX2_tell_39 : decode cX2_tell 39 = .ok (.getfield 55, 3) := by decide +kernel
theorem dX2_tell_42 : decode cX2_tell 42 = .ok (.aload_n 0, 1) := by decide +kernel
theorem dX2_tell_43 : decode cX2_tell 43 = .ok (.getfield 60, 3) := by decide +kernel
theorem dX2_tell_46 : decode cX2_tell 46 = .ok (.invokestatic 95, 3) := by decide +kernel
theorem dX2_tell_49 : decode cX2_tell 49 = .ok (.lreturn, 1) := by decide +kernel
theorem dX2_tell_50 : decode cX2_tell 50 = .ok (.aload_n 0, 1) := by decide +kernel
theorem dX2_tell_51 : decode cX2_tell 51 = .ok (.getfield 60, 3) := by decide +kernel
theorem dX2_tell_54 : decode cX2_tell 54 = .ok (.aload_n 0, 1) := by decide +kernel
theorem dX2_tell_55 : decode cX2_tell 55 = .ok (.getfield 55, 3) := by decide +kernel
theorem dX2_tell_58 : decode cX2_tell 58 = .ok (.invokestatic 95, 3) := by decide +kernel
theorem dX2_tell_61 : decode cX2_tell 61 = .ok (.lreturn, 1) := by decide +kernel
theorem dX2_tell_62 : decode cX2_tell 62 = .ok (.aload_n 0, 1) := by decide +kernel
theorem dX2_tell_63 : decode cX2_tell 63 = .ok (.getfield 58, 3) := by decide +kernel
theorem dX2_tell_66 : decode cX2_tell 66 = .ok (.aload_n 0, 1) := by decide +kernel
theorem dX2_tell_67 : decode cX2_tell 67 = .ok (.getfield 60, 3) := by decide +kernel
theorem dX2_tell_70 : decode cX2_tell 70 = .ok (.invokestatic 95, 3) := by decide +kernel
theorem dX2_tell_73 : decode cX2_tell 73 = .ok (.lreturn, 1) := by decide +kernel
theorem dX2_tell_74 : decode cX2_tell 74 = .ok (.aload_n 0, 1) := by decide +kernel
theorem dX2_tell_75 : decode cX2_tell 75 = .ok (.getfield 60, 3) := by decide +kernel
theorem dX2_tell_78 : decode cX2_tell 78 = .ok (.aload_n 0, 1) := by decide +kernel
theorem dX2_tell_79 : decode cX2_tell 79 = .ok (.getfield 58, 3) := by decide +kernel
theorem dX2_tell_82 : decode cX2_tell 82 = .ok (.invokestatic 95, 3) := by decide +kernel
theorem dX2_tell_85 : decode cX2_tell 85 = .ok (.lreturn, 1) := by decide +kernel
theorem dX3_init_0 : decode cX3_init 0 = .ok (.aload_n 0, 1) := by decide +kernel
theorem dX3_init_1 : decode cX3_init 1 = .ok (.invokespecial 3, 3) := by decide +kernel
theorem dX3_init_4 : decode cX3_init 4 = .ok (.aload_n 0, 1) := by decide +kernel
theorem dX3_init_5 : decode cX3_init 5 = .ok (.bipush 40, 2) := by decide +kernel
theorem dX3_init_7 : decode cX3_init 7 = .ok (.newarray .int, 2) := by decide +kernel
theorem dX3_init_9 : decode cX3_init 9 = .ok (.putfield 9, 3) := by decide +kernel
theorem dX3_init_12 : decode cX3_init 12 = .ok (.return_, 1) := by decide +kernel
theorem dX3_peel_0 : decode cX3_peel 0 = .ok (.aload_n 0, 1) := by decide +kernel
theorem dX3_peel_1 : decode cX3_peel 1 = .ok (.iconst 0, 1) := by decide +kernel
theorem dX3_peel_2 : decode cX3_peel 2 = .ok (.putfield 15, 3) := by decide +kernel
theorem dX3_peel_5 : decode cX3_peel 5 = .ok (.aload_n 1, 1) := by decide +kernel
theorem dX3_peel_6 : decode cX3_peel 6 = .ok (.getfield 19, 3) := by decide +kernel
theorem dX3_peel_9 : decode cX3_peel 9 = .ok (.istore_n 2, 1) := by decide +kernel
theorem dX3_peel_10 : decode cX3_peel 10 = .ok (.iconst 0, 1) := by decide +kernel
theorem dX3_peel_11 : decode cX3_peel 11 = .ok (.istore_n 3, 1) := by decide +kernel
theorem dX3_peel_12 : decode cX3_peel 12 = .ok (.iload_n 3, 1) := by decide +kernel
theorem dX3_peel_13 : decode cX3_peel 13 = .ok (.bipush 40, 2) := by decide +kernel
theorem dX3_peel_15 : decode cX3_peel 15 = .ok (.if_icmp .ge 16, 3) := by decide +kernel
theorem dX3_peel_18 : decode cX3_peel 18 = .ok (.aload_n 0, 1) := by decide +kernel
theorem dX3_peel_19 : decode cX3_peel 19 = .ok (.getfield 9, 3) := by decide +kernel
theorem dX3_peel_22 : decode cX3_peel 22 = .ok (.iload_n 3, 1) := by decide +kernel
theorem dX3_peel_23 : decode cX3_peel 23 = .ok (.iconst 0, 1) := by decide +kernel
theorem dX3_peel_24 : decode cX3_peel 24 = .ok (.iastore, 1) := by decide +kernel
theorem dX3_peel_25 : decode cX3_peel 25 = .ok (.iinc 3 1, 3) := by decide +kernel
theorem dX3_peel_28 : decode cX3_peel 28 = .ok (.goto (-16), 3) := by decide +kernel
theorem dX3_peel_31 : decode cX3_peel 31 = .ok (.iconst 1, 1) := by decide +kernel
theorem dX3_peel_32 : decode cX3_peel 32 = .ok (.istore_n 3, 1) := by decide +kernel
theorem dX3_peel_33 : decode cX3_peel 33 = .ok (.iload_n 3, 1) := by decide +kernel
theorem dX3_peel_34 : decode cX3_peel 34 = .ok (.bipush 40, 2) := by decide +kernel
theorem dX3_peel_36 : decode cX3_peel 36 = .ok (.if_icmp .gt 27, 3) := by decide +kernel
theorem dX3_peel_39 : decode cX3_peel 39 = .ok (.iload_n 2, 1) := by decide +kernel
theorem dX3_peel_40 : decode cX3_peel 40 = .ok (.ifCond .le 23, 3) := by decide +kernel
theorem dX3_peel_43 : decode cX3_peel 43 = .ok (.iload_n 2, 1) := by decide +kernel
theorem dX3_peel_44 : decode cX3_peel 44 = .ok (.aload_n 0, 1) := by decide +kernel
theorem dX3_peel_45 : decode cX3_peel 45 = .ok (.aload_n 1, 1) := by decide +kernel
theorem dX3_peel_46 : decode cX3_peel 46 = .ok (.iload_n 3, 1) := by decide +kernel
theorem dX3_peel_47 : decode cX3_peel 47 = .ok (.invokevirtual 22, 3) := by decide +kernel
theorem dX3_peel_50 : decode cX3_peel 50 = .ok (.isub, 1) := by decide +kernel
theorem dX3_peel_51 : decode cX3_peel 51 = .ok (.istore_n 2, 1) := by decide +kernel
theorem dX3_peel_52 : decode cX3_peel 52 = .ok (.aload_n 0, 1) := by decide +kernel
theorem dX3_peel_53 : decode cX3_peel 53 = .ok (.iload_n 3, 1) := by decide +kernel
theorem dX3_peel_54 : decode cX3_peel 54 = .ok (.putfield 15, 3) := by decide +kernel
theorem dX3_peel_57 : decode cX3_peel 57 = .ok (.iinc 3 1, 3) := by decide +kernel
theorem dX3_peel_60 : decode cX3_peel 60 = .ok (.goto (-27), 3) := by decide +kernel
theorem dX3_peel_63 : decode cX3_peel 63 = .ok (.aload_n 0, 1) := by decide +kernel
theorem dX3_peel_64 : decode cX3_peel 64 = .ok (.iconst 1, 1) := by decide +kernel
theorem dX3_peel_65 : decode cX3_peel 65 = .ok (.putfield 26, 3) := by decide +kernel
theorem dX3_peel_68 : decode cX3_peel 68 = .ok (.return_, 1) := by decide +kernel
theorem dX3_peelOne_0 : decode cX3_peelOne 0 = .ok (.iconst 0, 1) := by decide +kernel
theorem dX3_peelOne_1 : decode cX3_peelOne 1 = .ok (.istore_n 3, 1) := by decide +kernel
theorem dX3_peelOne_2 : decode cX3_peelOne 2 = .ok (.iconst 0, 1) := by decide +kernel
theorem dX3_peelOne_3 : decode cX3_peelOne 3 = .ok (.istore 4, 2) := by decide +kernel
theorem dX3_peelOne_5 : decode cX3_peelOne 5 = .ok (.iload 4, 2) := by decide +kernel
theorem dX3_peelOne_7 : decode cX3_peelOne 7 = .ok (.aload_n 1, 1) := by decide +kernel
theorem dX3_peelOne_8 : decode cX3_peelOne 8 = .ok (.getfield 19, 3) := by decide +kernel
theorem dX3_peelOne_11 : decode cX3_peelOne 11 = .ok (.if_icmp .ge 41, 3) := by decide +kernel
theorem dX3_peelOne_14 : decode cX3_peelOne 14 = .ok (.aload_n 0, 1) := by decide +kernel
theorem dX3_peelOne_15 : decode cX3_peelOne 15 = .ok (.getfield 9, 3) := by decide +kernel
theorem dX3_peelOne_18 : decode cX3_peelOne 18 = .ok (.iload 4, 2) := by decide +kernel
theorem dX3_peelOne_20 : decode cX3_peelOne 20 = .ok (.iaload, 1) := by decide +kernel
theorem dX3_peelOne_21 : decode cX3_peelOne 21 = .ok (.ifCond .ne 25, 3) := by decide +kernel
theorem dX3_peelOne_24 : decode cX3_peelOne 24 = .ok (.aload_n 0, 1) := by decide +kernel
theorem dX3_peelOne_25 : decode cX3_peelOne 25 = .ok (.aload_n 1, 1) := by decide +kernel
theorem dX3_peelOne_26 : decode cX3_peelOne 26 = .ok (.iload 4, 2) := by decide +kernel
theorem dX3_peelOne_28 : decode cX3_peelOne 28 = .ok (.iload_n 2, 1) := by decide +kernel
theorem dX3_peelOne_29 : decode cX3_peelOne 29 = .ok (.invokevirtual 30, 3) := by decide +kernel
theorem dX3_peelOne_32 : decode cX3_peelOne 32 = .ok (.ifCond .eq 14, 3) := by decide +kernel
theorem dX3_peelOne_35 : decode cX3_peelOne 35 = .ok (.aload_n 0, 1) := by decide +kernel
theorem dX3_peelOne_36 : decode cX3_peelOne 36 = .ok (.getfield 9, 3) := by decide +kernel
theorem dX3_peelOne_39 : decode cX3_peelOne 39 = .ok (.iload 4, 2) := by decide +kernel
theorem dX3_peelOne_41 : decode cX3_peelOne 41 = .ok (.iload_n 2, 1) := by decide +kernel
theorem dX3_peelOne_42 : decode cX3_peelOne 42 = .ok (.iastore, 1) := by decide +kernel
theorem dX3_peelOne_43 : decode cX3_peelOne 43 = .ok (.iinc 3 1, 3) := by decide +kernel
theorem dX3_peelOne_46 : decode cX3_peelOne 46 = .ok (.iinc 4 1, 3) := by decide +kernel
theorem dX3_peelOne_49 : decode cX3_peelOne 49 = .ok (.goto (-44), 3) := by decide +kernel
theorem dX3_peelOne_52 : decode cX3_peelOne 52 = .ok (.iload_n 3, 1) := by decide +kernel
theorem dX3_peelOne_53 : decode cX3_peelOne 53 = .ok (.ireturn, 1) := by decide +kernel
theorem dX3_isIn_0 : decode cX3_isIn 0 = .ok (.aload_n 0, 1) := by decide +kernel
theorem dX3_isIn_1 : decode cX3_isIn 1 = .ok (.getfield 9, 3) := by decide +kernel
theorem dX3_isIn_4 : decode cX3_isIn 4 = .ok (.iload_n 1, 1) := by decide +kernel
theorem dX3_isIn_5 : decode cX3_isIn 5 = .ok (.iaload, 1) := by decide +kernel
theorem dX3_isIn_6 : decode cX3_isIn 6 = .ok (.ifCond .eq 13, 3) := by decide +kernel
theorem dX3_isIn_9 : decode cX3_isIn 9 = .ok (.aload_n 0, 1) := by decide +kernel
theorem dX3_isIn_10 : decode cX3_isIn 10 = .ok (.getfield 9, 3) := by decide +kernel
theorem dX3_isIn_13 : decode cX3_isIn 13 = .ok (.iload_n 1, 1) := by decide +kernel
theorem dX3_isIn_14 : decode cX3_isIn 14 = .ok (.iaload, 1) := by decide +kernel
theorem dX3_isIn_15 : decode cX3_isIn 15 = .ok (.iload_n 2, 1) := by decide +kernel
theorem dX3_isIn_16 : decode cX3_isIn 16 = .ok (.if_icmp .ne 7, 3) := by decide +kernel
theorem dX3_isIn_19 : decode cX3_isIn 19 = .ok (.iconst 1, 1) := by decide +kernel
theorem dX3_isIn_20 : decode cX3_isIn 20 = .ok (.goto 4, 3) := by decide +kernel
theorem dX3_isIn_23 : decode cX3_isIn 23 = .ok (.iconst 0, 1) := by decide +kernel
theorem dX3_isIn_24 : decode cX3_isIn 24 = .ok (.ireturn, 1) := by decide +kernel
theorem dX3_isOnEdge_0 : decode cX3_isOnEdge 0 = .ok (.iconst 1, 1) := by decide +kernel
theorem dX3_isOnEdge_1 : decode cX3_isOnEdge 1 = .ok (.istore 4, 2) := by decide +kernel
theorem dX3_isOnEdge_3 : decode cX3_isOnEdge 3 = .ok (.iconst 0, 1) := by decide +kernel
theorem dX3_isOnEdge_4 : decode cX3_isOnEdge 4 = .ok (.istore 5, 2) := by decide +kernel
theorem dX3_isOnEdge_6 : decode cX3_isOnEdge 6 = .ok (.iload 5, 2) := by decide +kernel
theorem dX3_isOnEdge_8 : decode cX3_isOnEdge 8 = .ok (.aload_n 1, 1) := by decide +kernel
theorem dX3_isOnEdge_9 : decode cX3_isOnEdge 9 = .ok (.getfield 19, 3) := by decide +kernel
theorem dX3_isOnEdge_12 : decode cX3_isOnEdge 12 = .ok (.if_icmp .ge 46, 3) := by decide +kernel
theorem dX3_isOnEdge_15 : decode cX3_isOnEdge 15 = .ok (.aload_n 0, 1) := by decide +kernel
theorem dX3_isOnEdge_16 : decode cX3_isOnEdge 16 = .ok (.iload 5, 2) := by decide +kernel
theorem dX3_isOnEdge_18 : decode cX3_isOnEdge 18 = .ok (.iload_n 3, 1) := by decide +kernel
theorem dX3_isOnEdge_19 : decode cX3_isOnEdge 19 = .ok (.invokevirtual 34, 3) := by decide +kernel
theorem dX3_isOnEdge_22 : decode cX3_isOnEdge 22 = .ok (.ifCond .eq 30, 3) := by decide +kernel
theorem dX3_isOnEdge_25 : decode cX3_isOnEdge 25 = .ok (.aload_n 1, 1) := by decide +kernel
theorem dX3_isOnEdge_26 : decode cX3_isOnEdge 26 = .ok (.iload_n 2, 1) := by decide +kernel
theorem dX3_isOnEdge_27 : decode cX3_isOnEdge 27 = .ok (.iload 5, 2) := by decide +kernel
theorem dX3_isOnEdge_29 : decode cX3_isOnEdge 29 = .ok (.invokevirtual 38, 3) := by decide +kernel
theorem dX3_isOnEdge_32 : decode cX3_isOnEdge 32 = .ok (.ifCond .ne 20, 3) := by decide +kernel
theorem dX3_isOnEdge_35 : decode cX3_isOnEdge 35 = .ok (.iconst 0, 1) := by decide +kernel
theorem dX3_isOnEdge_36 : decode cX3_isOnEdge 36 = .ok (.istore 4, 2) := by decide +kernel
theorem dX3_isOnEdge_38 : decode cX3_isOnEdge 38 = .ok (.aload_n 0, 1) := by decide +kernel
theorem dX3_isOnEdge_39 : decode cX3_isOnEdge 39 = .ok (.aload_n 1, 1) := by decide +kernel
theorem dX3_isOnEdge_40 : decode cX3_isOnEdge 40 = .ok (.iload_n 2, 1) := by decide +kernel
theorem dX3_isOnEdge_41 : decode cX3_isOnEdge 41 = .ok (.iload 5, 2) := by decide +kernel
theorem dX3_isOnEdge_43 : decode cX3_isOnEdge 43 = .ok (.iload_n 3, 1) := by decide +kernel
theorem dX3_isOnEdge_44 : decode cX3_isOnEdge 44 = .ok (.invokevirtual 41, 3) := by decide +kernel
theorem dX3_isOnEdge_47 : decode cX3_isOnEdge 47 = .ok (.ifCond .eq 5, 3) := by decide +kernel
theorem dX3_isOnEdge_50 : decode cX3_isOnEdge 50 = .ok (.iconst 1, 1) := by decide +kernel
theorem dX3_isOnEdge_51 : decode cX3_isOnEdge 51 = .ok (.ireturn, 1) := by decide +kernel
theorem dX3_isOnEdge_52 : decode cX3_isOnEdge 52 = .ok (.iinc 5 1, 3) := by decide +kernel
theorem dX3_isOnEdge_55 : decode cX3_isOnEdge 55 = .ok (.goto (-49), 3) := by decide +kernel
theorem dX3_isOnEdge_58 : decode cX3_isOnEdge 58 = .ok (.iload 4, 2) := by decide +kernel
theorem dX3_isOnEdge_60 : decode cX3_isOnEdge 60 = .ok (.ireturn, 1) := by decide +kernel
theorem dX3_isOneSided_0 : decode cX3_isOneSided 0 = .ok (.iconst 0, 1) := by decide +kernel
theorem dX3_isOneSided_1 : decode cX3_isOneSided 1 = .ok (.istore 5, 2) := by decide +kernel
theorem dX3_isOneSided_3 : decode cX3_isOneSided 3 = .ok (.iconst 0, 1) := by decide +kernel
theorem dX3_isOneSided_4 : decode cX3_isOneSided 4 = .ok (.istore 6, 2) := by decide +kernel
theorem dX3_isOneSided_6 : decode cX3_isOneSided 6 = .ok (.iconst 0, 1) := by decide +kernel
theorem dX3_isOneSided_7 : decode cX3_isOneSided 7 = .ok (.istore 7, 2) := by decide +kernel
theorem dX3_isOneSided_9 : decode cX3_isOneSided 9 = .ok (.iload 7, 2) := by decide +kernel
theorem dX3_isOneSided_11 : decode cX3_isOneSided 11 = .ok (.aload_n 1, 1) := by decide +kernel
theorem dX3_isOneSided_12 : decode cX3_isOneSided 12 = .ok (.getfield 19, 3) := by decide +kernel
theorem dX3_isOneSided_15 : decode cX3_isOneSided 15 = .ok (.if_icmp .ge 76, 3) := by decide +kernel
theorem dX3_isOneSided_18 : decode cX3_isOneSided 18 = .ok (.aload_n 0, 1) := by decide +kernel
theorem dX3_isOneSided_19 : decode cX3_isOneSided 19 = .ok (.iload 7, 2) := by decide +kernel
theorem dX3_isOneSided_21 : decode cX3_isOneSided 21 = .ok (.iload 4, 2) := by decide +kernel
theorem dX3_isOneSided_23 : decode cX3_isOneSided 23 = .ok (.invokevirtual 34, 3) := by decide +kernel
theorem dX3_isOneSided_26 : decode cX3_isOneSided 26 = .ok (.ifCond .eq 59, 3) := by decide +kernel
theorem dX3_isOneSided_29 : decode cX3_isOneSided 29 = .ok (.aload_n 1, 1) := by decide +kernel
theorem dX3_isOneSided_30 : decode cX3_isOneSided 30 = .ok (.iload_n 2, 1) := by decide +kernel
theorem dX3_isOneSided_31 : decode cX3_isOneSided 31 = .ok (.iload_n 3, 1) := by decide +kernel
theorem dX3_isOneSided_32 : decode cX3_isOneSided 32 = .ok (.iload 7, 2) := by decide +kernel
theorem dX3_isOneSided_34 : decode cX3_isOneSided 34 = .ok (.invokevirtual 45, 3) := by decide +kernel
theorem dX3_isOneSided_37 : decode cX3_isOneSided 37 = .ok (.istore 8, 2) := by decide +kernel
theorem dX3_isOneSided_39 : decode cX3_isOneSided 39 = .ok (.iload 5, 2) := by decide +kernel
theorem dX3_isOneSided_41 : decode cX3_isOneSided 41 = .ok (.ifCond .ne 8, 3) := by decide +kernel
theorem dX3_isOneSided_44 : decode cX3_isOneSided 44 = .ok (.iload 8, 2) := by decide +kernel
theorem dX3_isOneSided_46 : decode cX3_isOneSided 46 = .ok (.ifCond .le 7, 3) := by decide +kernel
theorem dX3_isOneSided_49 : decode cX3_isOneSided 49 = .ok (.iconst 1, 1) := by decide +kernel
theorem dX3_isOneSided_50 : decode cX3_isOneSided 50 = .ok (.goto 4, 3) := by decide +kernel
theorem dX3_isOneSided_53 : decode cX3_isOneSided 53 = .ok (.iconst 0, 1) := by decide +kernel
theorem dX3_isOneSided_54 : decode cX3_isOneSided 54 = .ok (.istore 5, 2) := by decide +kernel
theorem dX3_isOneSided_56 : decode cX3_isOneSided 56 = .ok (.iload 6, 2) := by decide +kernel
theorem dX3_isOneSided_58 : decode cX3_isOneSided 58 = .ok (.ifCond .ne 8, 3) := by decide +kernel
theorem dX3_isOneSided_61 : decode cX3_isOneSided 61 = .ok (.iload 8, 2) := by decide +kernel
theorem dX3_isOneSided_63 : decode cX3_isOneSided 63 = .ok (.ifCond .ge 7, 3) := by decide +kernel
theorem dX3_isOneSided_66 : decode cX3_isOneSided 66 = .ok (.iconst 1, 1) := by decide +kernel
theorem dX3_isOneSided_67 : decode cX3_isOneSided 67 = .ok (.goto 4, 3) := by decide +kernel
theorem dX3_isOneSided_70 : decode cX3_isOneSided 70 = .ok (.iconst 0, 1) := by decide +kernel
theorem dX3_isOneSided_71 : decode cX3_isOneSided 71 = .ok (.istore 6, 2) := by decide +kernel
theorem dX3_isOneSided_73 : decode cX3_isOneSided 73 = .ok (.iload 5, 2) := by decide +kernel
theorem dX3_isOneSided_75 : decode cX3_isOneSided 75 = .ok (.ifCond .eq 10, 3) := by decide +kernel
theorem dX3_isOneSided_78 : decode cX3_isOneSided 78 = .ok (.iload 6, 2) := by decide +kernel
theorem dX3_isOneSided_80 : decode cX3_isOneSided 80 = .ok (.ifCond .eq 5, 3) := by decide +kernel
theorem dX3_isOneSided_83 : decode cX3_isOneSided 83 = .ok (.iconst 0, 1) := by decide +kernel
theorem dX3_isOneSided_84 : decode cX3_isOneSided 84 = .ok (.ireturn, 1) := by decide +kernel
theorem dX3_isOneSided_85 : decode cX3_isOneSided 85 = .ok (.iinc 7 1, 3) := by decide +kernel
theorem dX3_isOneSided_88 : decode cX3_isOneSided 88 = .ok (.goto (-79), 3) := by decide +kernel
theorem dX3_isOneSided_91 : decode cX3_isOneSided 91 = .ok (.iconst 1, 1) := by decide +kernel
theorem dX3_isOneSided_92 : decode cX3_isOneSided 92 = .ok (.ireturn, 1) := by decide +kernel
theorem dX3_layerOf_0 : decode cX3_layerOf 0 = .ok (.iload_n 1, 1) := by decide +kernel
theorem dX3_layerOf_1 : decode cX3_layerOf 1 = .ok (.bipush 40, 2) := by decide +kernel
theorem dX3_layerOf_3 : decode cX3_layerOf 3 = .ok (.invokestatic 49, 3) := by decide +kernel
theorem dX3_layerOf_6 : decode cX3_layerOf 6 = .ok (.ifCond .eq 12, 3) := by decide +kernel
theorem dX3_layerOf_9 : decode cX3_layerOf 9 = .ok (.aload_n 0, 1) := by decide +kernel
theorem dX3_layerOf_10 : decode cX3_layerOf 10 = .ok (.getfield 9, 3) := by decide +kernel
theorem dX3_layerOf_13 : decode cX3_layerOf 13 = .ok (.iload_n 1, 1) := by decide +kernel
theorem dX3_layerOf_14 : decode cX3_layerOf 14 = .ok (.iaload, 1) := by decide +kernel
theorem dX3_layerOf_15 : decode cX3_layerOf 15 = .ok (.goto 4, 3) := by decide +kernel
theorem dX3_layerOf_18 : decode cX3_layerOf 18 = .ok (.iconst 0, 1) := by decide +kernel
theorem dX3_layerOf_19 : decode cX3_layerOf 19 = .ok (.ireturn, 1) := by decide +kernel
theorem dX3_sizeOf_0 : decode cX3_sizeOf 0 = .ok (.iconst 0, 1) := by decide +kernel
theorem dX3_sizeOf_1 : decode cX3_sizeOf 1 = .ok (.istore_n 2, 1) := by decide +kernel
theorem dX3_sizeOf_2 : decode cX3_sizeOf 2 = .ok (.iconst 0, 1) := by decide +kernel
theorem dX3_sizeOf_3 : decode cX3_sizeOf 3 = .ok (.istore_n 3, 1) := by decide +kernel
theorem dX3_sizeOf_4 : decode cX3_sizeOf 4 = .ok (.iload_n 3, 1) := by decide +kernel
theorem dX3_sizeOf_5 : decode cX3_sizeOf 5 = .ok (.bipush 40, 2) := by decide +kernel
theorem dX3_sizeOf_7 : decode cX3_sizeOf 7 = .ok (.if_icmp .ge 22, 3) := by decide +kernel
theorem dX3_sizeOf_10 : decode cX3_sizeOf 10 = .ok (.aload_n 0, 1) := by decide +kernel
theorem dX3_sizeOf_11 : decode cX3_sizeOf 11 = .ok (.getfield 9, 3) := by decide +kernel
theorem dX3_sizeOf_14 : decode cX3_sizeOf 14 = .ok (.iload_n 3, 1) := by decide +kernel
theorem dX3_sizeOf_15 : decode cX3_sizeOf 15 = .ok (.iaload, 1) := by decide +kernel
theorem dX3_sizeOf_16 : decode cX3_sizeOf 16 = .ok (.iload_n 1, 1) := by decide +kernel
theorem dX3_sizeOf_17 : decode cX3_sizeOf 17 = .ok (.if_icmp .ne 6, 3) := by decide +kernel
theorem dX3_sizeOf_20 : decode cX3_sizeOf 20 = .ok (.iinc 2 1, 3) := by decide +kernel
theorem dX3_sizeOf_23 : decode cX3_sizeOf 23 = .ok (.iinc 3 1, 3) := by decide +kernel
theorem dX3_sizeOf_26 : decode cX3_sizeOf 26 = .ok (.goto (-22), 3) := by decide +kernel
theorem dX3_sizeOf_29 : decode cX3_sizeOf 29 = .ok (.iload_n 2, 1) := by decide +kernel
theorem dX3_sizeOf_30 : decode cX3_sizeOf 30 = .ok (.ireturn, 1) := by decide +kernel
theorem dX4_init_0 : decode cX4_init 0 = .ok (.aload_n 0, 1) := by decide +kernel
theorem dX4_init_1 : decode cX4_init 1 = .ok (.invokespecial 3, 3) := by decide +kernel
theorem dX4_init_4 : decode cX4_init 4 = .ok (.aload_n 0, 1) := by decide +kernel
theorem dX4_init_5 : decode cX4_init 5 = .ok (.iconst 0, 1) := by decide +kernel
theorem dX4_init_6 : decode cX4_init 6 = .ok (.putfield 9, 3) := by decide +kernel
theorem dX4_init_9 : decode cX4_init 9 = .ok (.aload_n 0, 1) := by decide +kernel
theorem dX4_init_10 : decode cX4_init 10 = .ok (.iconst 1, 1) := by decide +kernel
theorem dX4_init_11 : decode cX4_init 11 = .ok (.putfield 15, 3) := by decide +kernel
theorem dX4_init_14 : decode cX4_init 14 = .ok (.aload_n 0, 1) := by decide +kernel
theorem dX4_init_15 : decode cX4_init 15 = .ok (.iconst 0, 1) := by decide +kernel
theorem dX4_init_16 : decode cX4_init 16 = .ok (.putfield 18, 3) := by decide +kernel
theorem dX4_init_19 : decode cX4_init 19 = .ok (.return_, 1) := by decide +kernel
theorem dX4_become_0 : decode cX4_become 0 = .ok (.aload_n 0, 1) := by decide +kernel
theorem dX4_become_1 : decode cX4_become 1 = .ok (.iload_n 1, 1) := by decide +kernel
theorem dX4_become_2 : decode cX4_become 2 = .ok (.putfield 9, 3) := by decide +kernel
theorem dX4_become_5 : decode cX4_become 5 = .ok (.aload_n 0, 1) := by decide +kernel
theorem dX4_become_6 : decode cX4_become 6 = .ok (.iload_n 2, 1) := by decide +kernel
theorem dX4_become_7 : decode cX4_become 7 = .ok (.putfield 15, 3) := by decide +kernel
theorem dX4_become_10 : decode cX4_become 10 = .ok (.aload_n 0, 1) := by decide +kernel
theorem dX4_become_11 : decode cX4_become 11 = .ok (.iload_n 3, 1) := by decide +kernel
theorem dX4_become_12 : decode cX4_become 12 = .ok (.putfield 18, 3) := by decide +kernel
theorem dX4_become_15 : decode cX4_become 15 = .ok (.aload_n 0, 1) := by decide +kernel
theorem dX4_become_16 : decode cX4_become 16 = .ok (.getfield 9, 3) := by decide +kernel
theorem dX4_become_19 : decode cX4_become 19 = .ok (.i2l, 1) := by decide +kernel
theorem dX4_become_20 : decode cX4_become 20 = .ok (.aload_n 0, 1) := by decide +kernel
theorem dX4_become_21 : decode cX4_become 21 = .ok (.getfield 15, 3) := by decide +kernel
theorem dX4_become_24 : decode cX4_become 24 = .ok (.i2l, 1) := by decide +kernel
theorem dX4_become_25 : decode cX4_become 25 = .ok (.invokestatic 21, 3) := by decide +kernel
theorem dX4_become_28 : decode cX4_become 28 = .ok (.aload_n 0, 1) := by decide +kernel
theorem dX4_become_29 : decode cX4_become 29 = .ok (.getfield 18, 3) := by decide +kernel
theorem dX4_become_32 : decode cX4_become 32 = .ok (.i2l, 1) := by decide +kernel
theorem dX4_become_33 : decode cX4_become 33 = .ok (.invokestatic 21, 3) := by decide +kernel
theorem dX4_become_36 : decode cX4_become 36 = .ok (.l2i, 1) := by decide +kernel
theorem dX4_become_37 : decode cX4_become 37 = .ok (.istore 4, 2) := by decide +kernel
theorem dX4_become_39 : decode cX4_become 39 = .ok (.iload 4, 2) := by decide +kernel
theorem dX4_become_41 : decode cX4_become 41 = .ok (.iconst 1, 1) := by decide +kernel
theorem dX4_become_42 : decode cX4_become 42 = .ok (.if_icmp .le 36, 3) := by decide +kernel
theorem dX4_become_45 : decode cX4_become 45 = .ok (.aload_n 0, 1) := by decide +kernel
theorem dX4_become_46 : decode cX4_become 46 = .ok (.aload_n 0, 1) := by decide +kernel
theorem dX4_become_47 : decode cX4_become 47 = .ok (.getfield 9, 3) := by decide +kernel
theorem dX4_become_50 : decode cX4_become 50 = .ok (.iload 4, 2) := by decide +kernel
theorem dX4_become_52 : decode cX4_become 52 = .ok (.idiv, 1) := by decide +kernel
theorem dX4_become_53 : decode cX4_become 53 = .ok (.putfield 9, 3) := by decide +kernel
theorem dX4_become_56 : decode cX4_become 56 = .ok (.aload_n 0, 1) := by decide +kernel
theorem dX4_become_57 : decode cX4_become 57 = .ok (.aload_n 0, 1) := by decide +kernel
theorem dX4_become_58 : decode cX4_become 58 = .ok (.getfield 15, 3) := by decide +kernel
theorem dX4_become_61 : decode cX4_become 61 = .ok (.iload 4, 2) := by decide +kernel
theorem dX4_become_63 : decode cX4_become 63 = .ok (.idiv, 1) := by decide +kernel
theorem dX4_become_64 : decode cX4_become 64 = .ok (.putfield 15, 3) := by decide +kernel
theorem dX4_become_67 : decode cX4_become 67 = .ok (.aload_n 0, 1) := by decide +kernel
theorem dX4_become_68 : decode cX4_become 68 = .ok (.aload_n 0, 1) := by decide +kernel
theorem dX4_become_69 : decode cX4_become 69 = .ok (.getfield 18, 3) := by decide +kernel
theorem dX4_become_72 : decode cX4_become 72 = .ok (.iload 4, 2) := by decide +kernel
theorem dX4_become_74 : decode cX4_become 74 = .ok (.idiv, 1) := by decide +kernel
theorem dX4_become_75 : decode cX4_become 75 = .ok (.putfield 18, 3) := by decide +kernel
theorem dX4_become_78 : decode cX4_become 78 = .ok (.return_, 1) := by decide +kernel
theorem dX4_join_0 : decode cX4_join 0 = .ok (.iload_n 2, 1) := by decide +kernel
theorem dX4_join_1 : decode cX4_join 1 = .ok (.iload 4, 2) := by decide +kernel
theorem dX4_join_3 : decode cX4_join 3 = .ok (.isub, 1) := by decide +kernel
theorem dX4_join_4 : decode cX4_join 4 = .ok (.istore 5, 2) := by decide +kernel
theorem dX4_join_6 : decode cX4_join 6 = .ok (.iload_n 3, 1) := by decide +kernel
theorem dX4_join_7 : decode cX4_join 7 = .ok (.iload_n 1, 1) := by decide +kernel
theorem dX4_join_8 : decode cX4_join 8 = .ok (.isub, 1) := by decide +kernel
theorem dX4_join_9 : decode cX4_join 9 = .ok (.istore 6, 2) := by decide +kernel
theorem dX4_join_11 : decode cX4_join 11 = .ok (.iload 5, 2) := by decide +kernel
theorem dX4_join_13 : decode cX4_join 13 = .ok (.iload_n 1, 1) := by decide +kernel
theorem dX4_join_14 : decode cX4_join 14 = .ok (.imul, 1) := by decide +kernel
theorem dX4_join_15 : decode cX4_join 15 = .ok (.iload 6, 2) := by decide +kernel
theorem dX4_join_17 : decode cX4_join 17 = .ok (.iload_n 2, 1) := by decide +kernel
theorem dX4_join_18 : decode cX4_join 18 = .ok (.imul, 1) := by decide +kernel
theorem dX4_join_19 : decode cX4_join 19 = .ok (.iadd, 1) := by decide +kernel
theorem dX4_join_20 : decode cX4_join 20 = .ok (.ineg, 1) := by decide +kernel
theorem dX4_join_21 : decode cX4_join 21 = .ok (.istore 7, 2) := by decide +kernel
theorem dX4_join_23 : decode cX4_join 23 = .ok (.iload 5, 2) := by decide +kernel
theorem dX4_join_25 : decode cX4_join 25 = .ok (.ifCond .lt 13, 3) := by decide +kernel
theorem dX4_join_28 : decode cX4_join 28 = .ok (.iload 5, 2) := by decide +kernel
theorem dX4_join_30 : decode cX4_join 30 = .ok (.ifCond .ne 24, 3) := by decide +kernel
theorem dX4_join_33 : decode cX4_join 33 = .ok (.iload 6, 2) := by decide +kernel
theorem dX4_join_35 : decode cX4_join 35 = .ok (.ifCond .ge 19, 3) := by decide +kernel
theorem dX4_join_38 : decode cX4_join 38 = .ok (.aload_n 0, 1) := by decide +kernel
theorem dX4_join_39 : decode cX4_join 39 = .ok (.iload 5, 2) := by decide +kernel
theorem dX4_join_41 : decode cX4_join 41 = .ok (.ineg, 1) := by decide +kernel
theorem dX4_join_42 : decode cX4_join 42 = .ok (.iload 6, 2) := by decide +kernel
theorem dX4_join_44 : decode cX4_join 44 = .ok (.ineg, 1) := by decide +kernel
theorem dX4_join_45 : decode cX4_join 45 = .ok (.iload 7, 2) := by decide +kernel
theorem dX4_join_47 : decode cX4_join 47 = .ok (.ineg, 1) := by decide +kernel
theorem dX4_join_48 : decode cX4_join 48 = .ok (.invokevirtual 25, 3) := by decide +kernel
theorem dX4_join_51 : decode cX4_join 51 = .ok (.goto 13, 3) := by decide +kernel
theorem dX4_join_54 : decode cX4_join 54 = .ok (.aload_n 0, 1) := by decide +kernel
theorem dX4_join_55 : decode cX4_join 55 = .ok (.iload 5, 2) := by decide +kernel
theorem dX4_join_57 : decode cX4_join 57 = .ok (.iload 6, 2) := by decide +kernel
theorem dX4_join_59 : decode cX4_join 59 = .ok (.iload 7, 2) := by decide +kernel
theorem dX4_join_61 : decode cX4_join 61 = .ok (.invokevirtual 25, 3) := by decide +kernel
theorem dX4_join_64 : decode cX4_join 64 = .ok (.return_, 1) := by decide +kernel
theorem dX4_sideOf_0 : decode cX4_sideOf 0 = .ok (.aload_n 0, 1) := by decide +kernel
theorem dX4_sideOf_1 : decode cX4_sideOf 1 = .ok (.getfield 9, 3) := by decide +kernel
theorem dX4_sideOf_4 : decode cX4_sideOf 4 = .ok (.i2l, 1) := by decide +kernel
theorem dX4_sideOf_5 : decode cX4_sideOf 5 = .ok (.iload_n 1, 1) := by decide +kernel
theorem dX4_sideOf_6 : decode cX4_sideOf 6 = .ok (.i2l, 1) := by decide +kernel
theorem dX4_sideOf_7 : decode cX4_sideOf 7 = .ok (.lmul, 1) := by decide +kernel
theorem dX4_sideOf_8 : decode cX4_sideOf 8 = .ok (.aload_n 0, 1) := by decide +kernel
theorem dX4_sideOf_9 : decode cX4_sideOf 9 = .ok (.getfield 15, 3) := by decide +kernel
theorem dX4_sideOf_12 : decode cX4_sideOf 12 = .ok (.i2l, 1) := by decide +kernel
theorem dX4_sideOf_13 : decode cX4_sideOf 13 = .ok (.iload_n 2, 1) := by decide +kernel
theorem dX4_sideOf_14 : decode cX4_sideOf 14 = .ok (.i2l, 1) := by decide +kernel
theorem dX4_sideOf_15 : decode cX4_sideOf 15 = .ok (.lmul, 1) := by decide +kernel
theorem dX4_sideOf_16 : decode cX4_sideOf 16 = .ok (.ladd, 1) := by decide +kernel
theorem dX4_sideOf_17 : decode cX4_sideOf 17 = .ok (.aload_n 0, 1) := by decide +kernel
theorem dX4_sideOf_18 : decode cX4_sideOf 18 = .ok (.getfield 18, 3) := by decide +kernel
theorem dX4_sideOf_21 : decode cX4_sideOf 21 = .ok (.i2l, 1) := by decide +kernel
theorem dX4_sideOf_22 : decode cX4_sideOf 22 = .ok (.ladd, 1) := by decide +kernel
theorem dX4_sideOf_23 : decode cX4_sideOf 23 = .ok (.lstore_n 3, 1) := by decide +kernel
theorem dX4_sideOf_24 : decode cX4_sideOf 24 = .ok (.lload_n 3, 1) := by decide +kernel
theorem dX4_sideOf_25 : decode cX4_sideOf 25 = .ok (.lconst 0, 1) := by decide +kernel
theorem dX4_sideOf_26 : decode cX4_sideOf 26 = .ok (.lcmp, 1) := by decide +kernel
theorem dX4_sideOf_27 : decode cX4_sideOf 27 = .ok (.ifCond .ne 5, 3) := by decide +kernel
theorem dX4_sideOf_30 : decode cX4_sideOf 30 = .ok (.iconst 1, 1) := by decide +kernel
theorem dX4_sideOf_31 : decode cX4_sideOf 31 = .ok (.ireturn, 1) := by decide +kernel
theorem dX4_sideOf_32 : decode cX4_sideOf 32 = .ok (.lload_n 3, 1) := by decide +kernel
theorem dX4_sideOf_33 : decode cX4_sideOf 33 = .ok (.lconst 0, 1) := by decide +kernel
theorem dX4_sideOf_34 : decode cX4_sideOf 34 = .ok (.lcmp, 1) := by decide +kernel
theorem dX4_sideOf_35 : decode cX4_sideOf 35 = .ok (.ifCond .le 7, 3) := by decide +kernel
theorem dX4_sideOf_38 : decode cX4_sideOf 38 = .ok (.iconst 0, 1) := by decide +kernel
theorem dX4_sideOf_39 : decode cX4_sideOf 39 = .ok (.goto 4, 3) := by decide +kernel
theorem dX4_sideOf_42 : decode cX4_sideOf 42 = .ok (.iconst 2, 1) := by decide +kernel
theorem dX4_sideOf_43 : decode cX4_sideOf 43 = .ok (.ireturn, 1) := by decide +kernel
theorem dX5_init_0 : decode cX5_init 0 = .ok (.aload_n 0, 1) := by decide +kernel
theorem dX5_init_1 : decode cX5_init 1 = .ok (.invokespecial 3, 3) := by decide +kernel
theorem dX5_init_4 : decode cX5_init 4 = .ok (.aload_n 0, 1) := by decide +kernel
theorem dX5_init_5 : decode cX5_init 5 = .ok (.sipush 780, 3) := by decide +kernel
theorem dX5_init_8 : decode cX5_init 8 = .ok (.newarray .int, 2) := by decide +kernel
theorem dX5_init_10 : decode cX5_init 10 = .ok (.putfield 9, 3) := by decide +kernel
theorem dX5_init_13 : decode cX5_init 13 = .ok (.aload_n 0, 1) := by decide +kernel
theorem dX5_init_14 : decode cX5_init 14 = .ok (.sipush 780, 3) := by decide +kernel
theorem dX5_init_17 : decode cX5_init 17 = .ok (.newarray .int, 2) := by decide +kernel
theorem dX5_init_19 : decode cX5_init 19 = .ok (.putfield 15, 3) := by decide +kernel
theorem dX5_init_22 : decode cX5_init 22 = .ok (.aload_n 0, 1) := by decide +kernel
theorem dX5_init_23 : decode cX5_init 23 = .ok (.sipush 780, 3) := by decide +kernel
theorem dX5_init_26 : decode cX5_init 26 = .ok (.newarray .int, 2) := by decide +kernel
theorem dX5_init_28 : decode cX5_init 28 = .ok (.putfield 18, 3) := by decide +kernel
theorem dX5_init_31 : decode cX5_init 31 = .ok (.aload_n 0, 1) := by decide +kernel
theorem dX5_init_32 : decode cX5_init 32 = .ok (.sipush 780, 3) := by decide +kernel
theorem dX5_init_35 : decode cX5_init 35 = .ok (.newarray .int, 2) := by decide +kernel
theorem dX5_init_37 : decode cX5_init 37 = .ok (.putfield 21, 3) := by decide +kernel
theorem dX5_init_40 : decode cX5_init 40 = .ok (.aload_n 0, 1) := by decide +kernel
theorem dX5_init_41 : decode cX5_init 41 = .ok (.new 24, 3) := by decide +kernel
theorem dX5_init_44 : decode cX5_init 44 = .ok (.dup, 1) := by decide +kernel
theorem dX5_init_45 : decode cX5_init 45 = .ok (.invokespecial 26, 3) := by decide +kernel
theorem dX5_init_48 : decode cX5_init 48 = .ok (.putfield 27, 3) := by decide +kernel
theorem dX5_init_51 : decode cX5_init 51 = .ok (.return_, 1) := by decide +kernel
theorem dX5_gather_0 : decode cX5_gather 0 = .ok (.aload_n 0, 1) := by decide +kernel
theorem dX5_gather_1 : decode cX5_gather 1 = .ok (.iconst 0, 1) := by decide +kernel
theorem dX5_gather_2 : decode cX5_gather 2 = .ok (.putfield 31, 3) := by decide +kernel
theorem dX5_gather_5 : decode cX5_gather 5 = .ok (.aload_n 0, 1) := by decide +kernel
theorem dX5_gather_6 : decode cX5_gather 6 = .ok (.iconst 0, 1) := by decide +kernel
theorem dX5_gather_7 : decode cX5_gather 7 = .ok (.putfield 35, 3) := by decide +kernel
theorem dX5_gather_10 : decode cX5_gather 10 = .ok (.aload_n 0, 1) := by decide +kernel
theorem dX5_gather_11 : decode cX5_gather 11 = .ok (.iconst 0, 1) := by decide +kernel
theorem dX5_gather_12 : decode cX5_gather 12 = .ok (.putfield 38, 3) := by decide +kernel
theorem dX5_gather_15 : decode cX5_gather 15 = .ok (.aload_n 0, 1) := by decide +kernel
theorem dX5_gather_16 : decode cX5_gather 16 = .ok (.iconst 0, 1) := by decide +kernel
theorem dX5_gather_17 : decode cX5_gather 17 = .ok (.putfield 41, 3) := by decide +kernel
theorem dX5_gather_20 : decode cX5_gather 20 = .ok (.iconst 0, 1) := by decide +kernel
theorem dX5_gather_21 : decode cX5_gather 21 = .ok (.istore_n 2, 1) := by decide +kernel
theorem dX5_gather_22 : decode cX5_gather 22 = .ok (.iload_n 2, 1) := by decide +kernel
theorem dX5_gather_23 : decode cX5_gather 23 = .ok (.aload_n 1, 1) := by decide +kernel
theorem dX5_gather_24 : decode cX5_gather 24 = .ok (.getfield 45, 3) := by decide +kernel
theorem dX5_gather_27 : decode cX5_gather 27 = .ok (.if_icmp .ge 53, 3) := by decide +kernel
theorem dX5_gather_30 : decode cX5_gather 30 = .ok (.iload_n 2, 1) := by decide +kernel
theorem dX5_gather_31 : decode cX5_gather 31 = .ok (.iconst 1, 1) := by decide +kernel
theorem dX5_gather_32 : decode cX5_gather 32 = .ok (.iadd, 1) := by decide +kernel
theorem dX5_gather_33 : decode cX5_gather 33 = .ok (.istore_n 3, 1) := by decide +kernel
theorem dX5_gather_34 : decode cX5_gather 34 = .ok (.iload_n 3, 1) := by decide +kernel
theorem dX5_gather_35 : decode cX5_gather 35 = .ok (.aload_n 1, 1) := by decide +kernel
theorem dX5_gather_36 : decode cX5_gather 36 = .ok (.getfield 45, 3) := by decide +kernel
theorem dX5_gather_39 : decode cX5_gather 39 = .ok (.if_icmp .ge 35, 3) := by decide +kernel
theorem dX5_gather_42 : decode cX5_gather 42 = .ok (.aload_n 1, 1) := by decide +kernel
theorem dX5_gather_43 : decode cX5_gather 43 = .ok (.iload_n 2, 1) := by decide +kernel
theorem dX5_gather_44 : decode cX5_gather 44 = .ok (.iload_n 3, 1) := by decide +kernel
theorem dX5_gather_45 : decode cX5_gather 45 = .ok (.invokevirtual 48, 3) := by decide +kernel
theorem dX5_gather_48 : decode cX5_gather 48 = .ok (.ifCond .ne 20, 3) := by decide +kernel
theorem dX5_gather_51 : decode cX5_gather 51 = .ok (.aload_n 0, 1) := by decide +kernel
theorem dX5_gather_52 : decode cX5_gather 52 = .ok (.aload_n 1, 1) := by decide +kernel
theorem dX5_gather_53 : decode cX5_gather 53 = .ok (.iload_n 2, 1) := by decide +kernel
theorem dX5_gather_54 : decode cX5_gather 54 = .ok (.iload_n 3, 1) := by decide +kernel
theorem dX5_gather_55 : decode cX5_gather 55 = .ok (.invokevirtual 52, 3) := by decide +kernel
theorem dX5_gather_58 : decode cX5_gather 58 = .ok (.ifCond .eq 10, 3) := by decide +kernel
theorem dX5_gather_61 : decode cX5_gather 61 = .ok (.aload_n 0, 1) := by decide +kernel
theorem dX5_gather_62 : decode cX5_gather 62 = .ok (.aload_n 1, 1) := by decide +kernel
theorem dX5_gather_63 : decode cX5_gather 63 = .ok (.iload_n 2, 1) := by decide +kernel
theorem dX5_gather_64 : decode cX5_gather 64 = .ok (.iload_n 3, 1) := by decide +kernel
theorem dX5_gather_65 : decode cX5_gather 65 = .ok (.invokevirtual 56, 3) := by decide +kernel
theorem dX5_gather_68 : decode cX5_gather 68 = .ok (.iinc 3 1, 3) := by decide +kernel
theorem dX5_gather_71 : decode cX5_gather 71 = .ok (.goto (-37), 3) := by decide +kernel
theorem dX5_gather_74 : decode cX5_gather 74 = .ok (.iinc 2 1, 3) := by decide +kernel
theorem dX5_gather_77 : decode cX5_gather 77 = .ok (.goto (-55), 3) := by decide +kernel
theorem dX5_gather_80 : decode cX5_gather 80 = .ok (.aload_n 0, 1) := by decide +kernel
theorem dX5_gather_81 : decode cX5_gather 81 = .ok (.iconst 1, 1) := by decide +kernel
theorem dX5_gather_82 : decode cX5_gather 82 = .ok (.putfield 60, 3) := by decide +kernel
theorem dX5_gather_85 : decode cX5_gather 85 = .ok (.return_, 1) := by decide +kernel
theorem dX5_isFirstPair_0 : decode cX5_isFirstPair 0 = .ok (.iconst 0, 1) := by decide +kernel
theorem dX5_isFirstPair_1 : decode cX5_isFirstPair 1 = .ok (.istore 4, 2) := by decide +kernel
theorem dX5_isFirstPair_3 : decode cX5_isFirstPair 3 = .ok (.iload 4, 2) := by decide +kernel
theorem dX5_isFirstPair_5 : decode cX5_isFirstPair 5 = .ok (.iload_n 3, 1) := by decide +kernel
theorem dX5_isFirstPair_6 : decode cX5_isFirstPair 6 = .ok (.if_icmp .ge 56, 3) := by decide +kernel
theorem dX5_isFirstPair_9 : decode cX5_isFirstPair 9 = .ok (.iload 4, 2) := by decide +kernel
theorem dX5_isFirstPair_11 : decode cX5_isFirstPair 11 = .ok (.iload_n 2, 1) := by decide +kernel
theorem dX5_isFirstPair_12 : decode cX5_isFirstPair 12 = .ok (.if_icmp .lt 19, 3) := by decide +kernel
theorem dX5_isFirstPair_15 : decode cX5_isFirstPair 15 = .ok (.iload 4, 2) := by decide +kernel
theorem dX5_isFirstPair_17 : decode cX5_isFirstPair 17 = .ok (.iload_n 2, 1) := by decide +kernel
theorem dX5_isFirstPair_18 : decode cX5_isFirstPair 18 = .ok (.if_icmp .le 17, 3) := by decide +kernel
theorem dX5_isFirstPair_21 : decode cX5_isFirstPair 21 = .ok (.aload_n 1, 1) := by decide +kernel
theorem dX5_isFirstPair_22 : decode cX5_isFirstPair 22 = .ok (.iload_n 2, 1) := by decide +kernel
theorem dX5_isFirstPair_23 : decode cX5_isFirstPair 23 = .ok (.iload 4, 2) := by decide +kernel
theorem dX5_isFirstPair_25 : decode cX5_isFirstPair 25 = .ok (.invokevirtual 48, 3) := by decide +kernel
theorem dX5_isFirstPair_28 : decode cX5_isFirstPair 28 = .ok (.ifCond .ne 7, 3) := by decide +kernel
theorem dX5_isFirstPair_31 : decode cX5_isFirstPair 31 = .ok (.iconst 1, 1) := by decide +kernel
theorem dX5_isFirstPair_32 : decode cX5_isFirstPair 32 = .ok (.goto 4, 3) := by decide +kernel
theorem dX5_isFirstPair_35 : decode cX5_isFirstPair 35 = .ok (.iconst 0, 1) := by decide +kernel
theorem dX5_isFirstPair_36 : decode cX5_isFirstPair 36 = .ok (.istore 5, 2) := by decide +kernel
theorem dX5_isFirstPair_38 : decode cX5_isFirstPair 38 = .ok (.iload 5, 2) := by decide +kernel
theorem dX5_isFirstPair_40 : decode cX5_isFirstPair 40 = .ok (.ifCond .eq 16, 3) := by decide +kernel
theorem dX5_isFirstPair_43 : decode cX5_isFirstPair 43 = .ok (.aload_n 1, 1) := by decide +kernel
theorem dX5_isFirstPair_44 : decode cX5_isFirstPair 44 = .ok (.iload_n 2, 1) := by decide +kernel
theorem dX5_isFirstPair_45 : decode cX5_isFirstPair 45 = .ok (.iload_n 3, 1) := by decide +kernel
theorem dX5_isFirstPair_46 : decode cX5_isFirstPair 46 = .ok (.iload 4, 2) := by decide +kernel
theorem dX5_isFirstPair_48 : decode cX5_isFirstPair 48 = .ok (.invokevirtual 63, 3) := by decide +kernel
theorem dX5_isFirstPair_51 : decode cX5_isFirstPair 51 = .ok (.ifCond .ne 5, 3) := by decide +kernel
theorem dX5_isFirstPair_54 : decode cX5_isFirstPair 54 = .ok (.iconst 0, 1) := by decide +kernel
theorem dX5_isFirstPair_55 : decode cX5_isFirstPair 55 = .ok (.ireturn, 1) := by decide +kernel
theorem dX5_isFirstPair_56 : decode cX5_isFirstPair 56 = .ok (.iinc 4 1, 3) := by decide +kernel
theorem dX5_isFirstPair_59 : decode cX5_isFirstPair 59 = .ok (.goto (-56), 3) := by decide +kernel
theorem dX5_isFirstPair_62 : decode cX5_isFirstPair 62 = .ok (.iconst 1, 1) := by decide +kernel
theorem dX5_isFirstPair_63 : decode cX5_isFirstPair 63 = .ok (.ireturn, 1) := by decide +kernel
theorem dX5_add_0 : decode cX5_add 0 = .ok (.aload_n 0, 1) := by decide +kernel
theorem dX5_add_1 : decode cX5_add 1 = .ok (.getfield 31, 3) := by decide +kernel
theorem dX5_add_4 : decode cX5_add 4 = .ok (.sipush 780, 3) := by decide +kernel
theorem dX5_add_7 : decode cX5_add 7 = .ok (.if_icmp .lt 4, 3) := by decide +kernel
theorem dX5_add_10 : decode cX5_add 10 = .ok (.return_, 1) := by decide +kernel
theorem dX5_add_11 : decode cX5_add 11 = .ok (.aload_n 0, 1) := by decide +kernel
theorem dX5_add_12 : decode cX5_add 12 = .ok (.getfield 27, 3) := by decide +kernel
theorem dX5_add_15 : decode cX5_add 15 = .ok (.aload_n 1, 1) := by decide +kernel
theorem dX5_add_16 : decode cX5_add 16 = .ok (.getfield 67, 3) := by decide +kernel
theorem dX5_add_19 : decode cX5_add 19 = .ok (.iload_n 2, 1) := by decide +kernel
theorem dX5_add_20 : decode cX5_add 20 = .ok (.iaload, 1) := by decide +kernel
theorem dX5_add_21 : decode cX5_add 21 = .ok (.aload_n 1, 1) := by decide +kernel
theorem dX5_add_22 : decode cX5_add 22 = .ok (.getfield 70, 3) := by decide +kernel
theorem dX5_add_25 : decode cX5_add 25 = .ok (.iload_n 2, 1) := by decide +kernel
theorem dX5_add_26 : decode cX5_add 26 = .ok (.iaload, 1) := by decide +kernel
