theorem dX11_red_85 : decode cX11_red 85 = .ok (.bipush 10, 2) := by decide +kernel
theorem dX11_red_87 : decode cX11_red 87 = .ok (.invokevirtual 153, 3) := by decide +kernel
theorem dX11_red_90 : decode cX11_red 90 = .ok (.iconst 0, 1) := by decide +kernel
theorem dX11_red_91 : decode cX11_red 91 = .ok (.ireturn, 1) := by decide +kernel
theorem dX11_blue_0 : decode cX11_blue 0 = .ok (.aload_n 0, 1) := by decide +kernel
theorem dX11_blue_1 : decode cX11_blue 1 = .ok (.getfield 16, 3) := by decide +kernel
theorem dX11_blue_4 : decode cX11_blue 4 = .ok (.iload_n 1, 1) := by decide +kernel
theorem dX11_blue_5 : decode cX11_blue 5 = .ok (.iaload, 1) := by decide +kernel
theorem dX11_blue_6 : decode cX11_blue 6 = .ok (.iconst 2, 1) := by decide +kernel
theorem dX11_blue_7 : decode cX11_blue 7 = .ok (.if_icmp .ne 11, 3) := by decide +kernel
theorem dX11_blue_10 : decode cX11_blue 10 = .ok (.aload_n 0, 1) := by decide +kernel
theorem dX11_blue_11 : decode cX11_blue 11 = .ok (.bipush 21, 2) := by decide +kernel
theorem dX11_blue_13 : decode cX11_blue 13 = .ok (.invokevirtual 153, 3) := by decide +kernel
theorem dX11_blue_16 : decode cX11_blue 16 = .ok (.iconst 1, 1) := by decide +kernel
theorem dX11_blue_17 : decode cX11_blue 17 = .ok (.ireturn, 1) := by decide +kernel
theorem dX11_blue_18 : decode cX11_blue 18 = .ok (.aload_n 0, 1) := by decide +kernel
theorem dX11_blue_19 : decode cX11_blue 19 = .ok (.getfield 16, 3) := by decide +kernel
theorem dX11_blue_22 : decode cX11_blue 22 = .ok (.iload_n 1, 1) := by decide +kernel
theorem dX11_blue_23 : decode cX11_blue 23 = .ok (.iaload, 1) := by decide +kernel
theorem dX11_blue_24 : decode cX11_blue 24 = .ok (.iconst 4, 1) := by decide +kernel
theorem dX11_blue_25 : decode cX11_blue 25 = .ok (.if_icmp .ne 21, 3) := by decide +kernel
theorem dX11_blue_28 : decode cX11_blue 28 = .ok (.aload_n 0, 1) := by decide +kernel
theorem dX11_blue_29 : decode cX11_blue 29 = .ok (.bipush 22, 2) := by decide +kernel
theorem dX11_blue_31 : decode cX11_blue 31 = .ok (.invokevirtual 153, 3) := by decide +kernel
theorem dX11_blue_34 : decode cX11_blue 34 = .ok (.aload_n 0, 1) := by decide +kernel
theorem dX11_blue_35 : decode cX11_blue 35 = .ok (.getfield 19, 3) := by decide +kernel
theorem dX11_blue_38 : decode cX11_blue 38 = .ok (.iload_n 1, 1) := by decide +kernel
theorem dX11_blue_39 : decode cX11_blue 39 = .ok (.iaload, 1) := by decide +kernel
theorem dX11_blue_40 : decode cX11_blue 40 = .ok (.iconst 2, 1) := by decide +kernel
theorem dX11_blue_41 : decode cX11_blue 41 = .ok (.if_icmp .ne 5, 3) := by decide +kernel
theorem dX11_blue_44 : decode cX11_blue 44 = .ok (.iconst 1, 1) := by decide +kernel
theorem dX11_blue_45 : decode cX11_blue 45 = .ok (.ireturn, 1) := by decide +kernel
theorem dX11_blue_46 : decode cX11_blue 46 = .ok (.aload_n 0, 1) := by decide +kernel
theorem dX11_blue_47 : decode cX11_blue 47 = .ok (.bipush 20, 2) := by decide +kernel
theorem dX11_blue_49 : decode cX11_blue 49 = .ok (.invokevirtual 153, 3) := by decide +kernel
theorem dX11_blue_52 : decode cX11_blue 52 = .ok (.iconst 0, 1) := by decide +kernel
theorem dX11_blue_53 : decode cX11_blue 53 = .ok (.ireturn, 1) := by decide +kernel
theorem dX11_lentAll_0 : decode cX11_lentAll 0 = .ok (.aload_n 0, 1) := by decide +kernel
theorem dX11_lentAll_1 : decode cX11_lentAll 1 = .ok (.bipush 30, 2) := by decide +kernel
theorem dX11_lentAll_3 : decode cX11_lentAll 3 = .ok (.invokevirtual 153, 3) := by decide +kernel
theorem dX11_lentAll_6 : decode cX11_lentAll 6 = .ok (.aload_n 0, 1) := by decide +kernel
theorem dX11_lentAll_7 : decode cX11_lentAll 7 = .ok (.iload_n 1, 1) := by decide +kernel
theorem dX11_lentAll_8 : decode cX11_lentAll 8 = .ok (.invokevirtual 157, 3) := by decide +kernel
theorem dX11_lentAll_11 : decode cX11_lentAll 11 = .ok (.istore_n 2, 1) := by decide +kernel
theorem dX11_lentAll_12 : decode cX11_lentAll 12 = .ok (.iload_n 2, 1) := by decide +kernel
theorem dX11_lentAll_13 : decode cX11_lentAll 13 = .ok (.aload_n 0, 1) := by decide +kernel
theorem dX11_lentAll_14 : decode cX11_lentAll 14 = .ok (.iload_n 1, 1) := by decide +kernel
theorem dX11_lentAll_15 : decode cX11_lentAll 15 = .ok (.invokevirtual 160, 3) := by decide +kernel
theorem dX11_lentAll_18 : decode cX11_lentAll 18 = .ok (.iadd, 1) := by decide +kernel
theorem dX11_lentAll_19 : decode cX11_lentAll 19 = .ok (.istore_n 3, 1) := by decide +kernel
theorem dX11_lentAll_20 : decode cX11_lentAll 20 = .ok (.iload_n 3, 1) := by decide +kernel
theorem dX11_lentAll_21 : decode cX11_lentAll 21 = .ok (.ifCond .ne 7, 3) := by decide +kernel
theorem dX11_lentAll_24 : decode cX11_lentAll 24 = .ok (.iconst 1, 1) := by decide +kernel
theorem dX11_lentAll_25 : decode cX11_lentAll 25 = .ok (.goto 4, 3) := by decide +kernel
theorem dX11_lentAll_28 : decode cX11_lentAll 28 = .ok (.iload_n 3, 1) := by decide +kernel
theorem dX11_lentAll_29 : decode cX11_lentAll 29 = .ok (.ireturn, 1) := by decide +kernel
theorem dX11_all_0 : decode cX11_all 0 = .ok (.aload_n 0, 1) := by decide +kernel
theorem dX11_all_1 : decode cX11_all 1 = .ok (.getfield 16, 3) := by decide +kernel
theorem dX11_all_4 : decode cX11_all 4 = .ok (.iload_n 1, 1) := by decide +kernel
theorem dX11_all_5 : decode cX11_all 5 = .ok (.iaload, 1) := by decide +kernel
theorem dX11_all_6 : decode cX11_all 6 = .ok (.iconst 3, 1) := by decide +kernel
theorem dX11_all_7 : decode cX11_all 7 = .ok (.if_icmp .ne 17, 3) := by decide +kernel
theorem dX11_all_10 : decode cX11_all 10 = .ok (.aload_n 0, 1) := by decide +kernel
theorem dX11_all_11 : decode cX11_all 11 = .ok (.bipush 31, 2) := by decide +kernel
theorem dX11_all_13 : decode cX11_all 13 = .ok (.invokevirtual 153, 3) := by decide +kernel
theorem dX11_all_16 : decode cX11_all 16 = .ok (.iconst 1, 1) := by decide +kernel
theorem dX11_all_17 : decode cX11_all 17 = .ok (.aload_n 0, 1) := by decide +kernel
theorem dX11_all_18 : decode cX11_all 18 = .ok (.iload_n 1, 1) := by decide +kernel
theorem dX11_all_19 : decode cX11_all 19 = .ok (.invokevirtual 163, 3) := by decide +kernel
theorem dX11_all_22 : decode cX11_all 22 = .ok (.iadd, 1) := by decide +kernel
theorem dX11_all_23 : decode cX11_all 23 = .ok (.ireturn, 1) := by decide +kernel
theorem dX11_all_24 : decode cX11_all 24 = .ok (.aload_n 0, 1) := by decide +kernel
theorem dX11_all_25 : decode cX11_all 25 = .ok (.iload_n 1, 1) := by decide +kernel
theorem dX11_all_26 : decode cX11_all 26 = .ok (.invokevirtual 163, 3) := by decide +kernel
theorem dX11_all_29 : decode cX11_all 29 = .ok (.ireturn, 1) := by decide +kernel
theorem dX11_worth_0 : decode cX11_worth 0 = .ok (.aload_n 0, 1) := by decide +kernel
theorem dX11_worth_1 : decode cX11_worth 1 = .ok (.getfield 16, 3) := by decide +kernel
theorem dX11_worth_4 : decode cX11_worth 4 = .ok (.iload_n 1, 1) := by decide +kernel
theorem dX11_worth_5 : decode cX11_worth 5 = .ok (.iaload, 1) := by decide +kernel
theorem dX11_worth_6 : decode cX11_worth 6 = .ok (.iconst 4, 1) := by decide +kernel
theorem dX11_worth_7 : decode cX11_worth 7 = .ok (.if_icmp .ne 15, 3) := by decide +kernel
theorem dX11_worth_10 : decode cX11_worth 10 = .ok (.aload_n 0, 1) := by decide +kernel
theorem dX11_worth_11 : decode cX11_worth 11 = .ok (.bipush 42, 2) := by decide +kernel
theorem dX11_worth_13 : decode cX11_worth 13 = .ok (.invokevirtual 153, 3) := by decide +kernel
theorem dX11_worth_16 : decode cX11_worth 16 = .ok (.aload_n 0, 1) := by decide +kernel
theorem dX11_worth_17 : decode cX11_worth 17 = .ok (.iload_n 1, 1) := by decide +kernel
theorem dX11_worth_18 : decode cX11_worth 18 = .ok (.invokevirtual 163, 3) := by decide +kernel
theorem dX11_worth_21 : decode cX11_worth 21 = .ok (.ireturn, 1) := by decide +kernel
theorem dX11_worth_22 : decode cX11_worth 22 = .ok (.aload_n 0, 1) := by decide +kernel
theorem dX11_worth_23 : decode cX11_worth 23 = .ok (.getfield 16, 3) := by decide +kernel
theorem dX11_worth_26 : decode cX11_worth 26 = .ok (.iload_n 1, 1) := by decide +kernel
theorem dX11_worth_27 : decode cX11_worth 27 = .ok (.iaload, 1) := by decide +kernel
theorem dX11_worth_28 : decode cX11_worth 28 = .ok (.iconst 2, 1) := by decide +kernel
theorem dX11_worth_29 : decode cX11_worth 29 = .ok (.if_icmp .ne 9, 3) := by decide +kernel
theorem dX11_worth_32 : decode cX11_worth 32 = .ok (.aload_n 0, 1) := by decide +kernel
theorem dX11_worth_33 : decode cX11_worth 33 = .ok (.bipush 41, 2) := by decide +kernel
theorem dX11_worth_35 : decode cX11_worth 35 = .ok (.invokevirtual 153, 3) := by decide +kernel
theorem dX11_worth_38 : decode cX11_worth 38 = .ok (.aload_n 0, 1) := by decide +kernel
theorem dX11_worth_39 : decode cX11_worth 39 = .ok (.bipush 40, 2) := by decide +kernel
theorem dX11_worth_41 : decode cX11_worth 41 = .ok (.invokevirtual 153, 3) := by decide +kernel
theorem dX11_worth_44 : decode cX11_worth 44 = .ok (.bipush 10, 2) := by decide +kernel
theorem dX11_worth_46 : decode cX11_worth 46 = .ok (.aload_n 0, 1) := by decide +kernel
theorem dX11_worth_47 : decode cX11_worth 47 = .ok (.iload_n 1, 1) := by decide +kernel
theorem dX11_worth_48 : decode cX11_worth 48 = .ok (.invokevirtual 166, 3) := by decide +kernel
theorem dX11_worth_51 : decode cX11_worth 51 = .ok (.imul, 1) := by decide +kernel
theorem dX11_worth_52 : decode cX11_worth 52 = .ok (.aload_n 0, 1) := by decide +kernel
theorem dX11_worth_53 : decode cX11_worth 53 = .ok (.getfield 16, 3) := by decide +kernel
theorem dX11_worth_56 : decode cX11_worth 56 = .ok (.iload_n 1, 1) := by decide +kernel
theorem dX11_worth_57 : decode cX11_worth 57 = .ok (.iaload, 1) := by decide +kernel
theorem dX11_worth_58 : decode cX11_worth 58 = .ok (.iconst 2, 1) := by decide +kernel
theorem dX11_worth_59 : decode cX11_worth 59 = .ok (.if_icmp .ne 7, 3) := by decide +kernel
theorem dX11_worth_62 : decode cX11_worth 62 = .ok (.iconst 5, 1) := by decide +kernel
theorem dX11_worth_63 : decode cX11_worth 63 = .ok (.goto 4, 3) := by decide +kernel
theorem dX11_worth_66 : decode cX11_worth 66 = .ok (.iconst 0, 1) := by decide +kernel
theorem dX11_worth_67 : decode cX11_worth 67 = .ok (.isub, 1) := by decide +kernel
theorem dX11_worth_68 : decode cX11_worth 68 = .ok (.ireturn, 1) := by decide +kernel
theorem dX11_asked_0 : decode cX11_asked 0 = .ok (.iload_n 2, 1) := by decide +kernel
theorem dX11_asked_1 : decode cX11_asked 1 = .ok (.ifCond .ne 11, 3) := by decide +kernel
theorem dX11_asked_4 : decode cX11_asked 4 = .ok (.aload_n 0, 1) := by decide +kernel
theorem dX11_asked_5 : decode cX11_asked 5 = .ok (.iload_n 1, 1) := by decide +kernel
theorem dX11_asked_6 : decode cX11_asked 6 = .ok (.invokevirtual 157, 3) := by decide +kernel
theorem dX11_asked_9 : decode cX11_asked 9 = .ok (.goto 34, 3) := by decide +kernel
theorem dX11_asked_12 : decode cX11_asked 12 = .ok (.iload_n 2, 1) := by decide +kernel
theorem dX11_asked_13 : decode cX11_asked 13 = .ok (.iconst 1, 1) := by decide +kernel
theorem dX11_asked_14 : decode cX11_asked 14 = .ok (.if_icmp .ne 11, 3) := by decide +kernel
theorem dX11_asked_17 : decode cX11_asked 17 = .ok (.aload_n 0, 1) := by decide +kernel
theorem dX11_asked_18 : decode cX11_asked 18 = .ok (.iload_n 1, 1) := by decide +kernel
theorem dX11_asked_19 : decode cX11_asked 19 = .ok (.invokevirtual 160, 3) := by decide +kernel
theorem dX11_asked_22 : decode cX11_asked 22 = .ok (.goto 21, 3) := by decide +kernel
theorem dX11_asked_25 : decode cX11_asked 25 = .ok (.iload_n 2, 1) := by decide +kernel
theorem dX11_asked_26 : decode cX11_asked 26 = .ok (.iconst 2, 1) := by decide +kernel
theorem dX11_asked_27 : decode cX11_asked 27 = .ok (.if_icmp .ne 11, 3) := by decide +kernel
theorem dX11_asked_30 : decode cX11_asked 30 = .ok (.aload_n 0, 1) := by decide +kernel
theorem dX11_asked_31 : decode cX11_asked 31 = .ok (.iload_n 1, 1) := by decide +kernel
theorem dX11_asked_32 : decode cX11_asked 32 = .ok (.invokevirtual 166, 3) := by decide +kernel
theorem dX11_asked_35 : decode cX11_asked 35 = .ok (.goto 8, 3) := by decide +kernel
theorem dX11_asked_38 : decode cX11_asked 38 = .ok (.aload_n 0, 1) := by decide +kernel
theorem dX11_asked_39 : decode cX11_asked 39 = .ok (.iload_n 1, 1) := by decide +kernel
theorem dX11_asked_40 : decode cX11_asked 40 = .ok (.invokevirtual 169, 3) := by decide +kernel
theorem dX11_asked_43 : decode cX11_asked 43 = .ok (.ireturn, 1) := by decide +kernel
theorem dX11_ask_0 : decode cX11_ask 0 = .ok (.aload_n 0, 1) := by decide +kernel
theorem dX11_ask_1 : decode cX11_ask 1 = .ok (.iload_n 1, 1) := by decide +kernel
theorem dX11_ask_2 : decode cX11_ask 2 = .ok (.invokevirtual 131, 3) := by decide +kernel
theorem dX11_ask_5 : decode cX11_ask 5 = .ok (.ifCond .eq 15, 3) := by decide +kernel
theorem dX11_ask_8 : decode cX11_ask 8 = .ok (.iload_n 2, 1) := by decide +kernel
theorem dX11_ask_9 : decode cX11_ask 9 = .ok (.i2l, 1) := by decide +kernel
theorem dX11_ask_10 : decode cX11_ask 10 = .ok (.lconst 0, 1) := by decide +kernel
theorem dX11_ask_11 : decode cX11_ask 11 = .ok (.ldc2_w 138, 3) := by decide +kernel
theorem dX11_ask_14 : decode cX11_ask 14 = .ok (.invokestatic 81, 3) := by decide +kernel
theorem dX11_ask_17 : decode cX11_ask 17 = .ok (.ifCond .ne 6, 3) := by decide +kernel
theorem dX11_ask_20 : decode cX11_ask 20 = .ok (.ldc 91, 2) := by decide +kernel
theorem dX11_ask_22 : decode cX11_ask 22 = .ok (.ireturn, 1) := by decide +kernel
theorem dX11_ask_23 : decode cX11_ask 23 = .ok (.aload_n 0, 1) := by decide +kernel
theorem dX11_ask_24 : decode cX11_ask 24 = .ok (.iconst 0, 1) := by decide +kernel
theorem dX11_ask_25 : decode cX11_ask 25 = .ok (.putfield 150, 3) := by decide +kernel
theorem dX11_ask_28 : decode cX11_ask 28 = .ok (.aload_n 0, 1) := by decide +kernel
theorem dX11_ask_29 : decode cX11_ask 29 = .ok (.getfield 22, 3) := by decide +kernel
theorem dX11_ask_32 : decode cX11_ask 32 = .ok (.iload_n 1, 1) := by decide +kernel
theorem dX11_ask_33 : decode cX11_ask 33 = .ok (.baload, 1) := by decide +kernel
theorem dX11_ask_34 : decode cX11_ask 34 = .ok (.ifCond .eq 9, 3) := by decide +kernel
theorem dX11_ask_37 : decode cX11_ask 37 = .ok (.aload_n 0, 1) := by decide +kernel
theorem dX11_ask_38 : decode cX11_ask 38 = .ok (.iconst 1, 1) := by decide +kernel
theorem dX11_ask_39 : decode cX11_ask 39 = .ok (.invokevirtual 92, 3) := by decide +kernel
theorem dX11_ask_42 : decode cX11_ask 42 = .ok (.ireturn, 1) := by decide +kernel
theorem dX11_ask_43 : decode cX11_ask 43 = .ok (.aload_n 0, 1) := by decide +kernel
theorem dX11_ask_44 : decode cX11_ask 44 = .ok (.iconst 1, 1) := by decide +kernel
theorem dX11_ask_45 : decode cX11_ask 45 = .ok (.putfield 147, 3) := by decide +kernel
theorem dX11_ask_48 : decode cX11_ask 48 = .ok (.aload_n 0, 1) := by decide +kernel
theorem dX11_ask_49 : decode cX11_ask 49 = .ok (.iload_n 1, 1) := by decide +kernel
theorem dX11_ask_50 : decode cX11_ask 50 = .ok (.iload_n 2, 1) := by decide +kernel
theorem dX11_ask_51 : decode cX11_ask 51 = .ok (.invokevirtual 172, 3) := by decide +kernel
theorem dX11_ask_54 : decode cX11_ask 54 = .ok (.istore_n 3, 1) := by decide +kernel
theorem dX11_ask_55 : decode cX11_ask 55 = .ok (.aload_n 0, 1) := by decide +kernel
theorem dX11_ask_56 : decode cX11_ask 56 = .ok (.iconst 0, 1) := by decide +kernel
theorem dX11_ask_57 : decode cX11_ask 57 = .ok (.putfield 147, 3) := by decide +kernel
theorem dX11_ask_60 : decode cX11_ask 60 = .ok (.aload_n 0, 1) := by decide +kernel
theorem dX11_ask_61 : decode cX11_ask 61 = .ok (.iload_n 3, 1) := by decide +kernel
theorem dX11_ask_62 : decode cX11_ask 62 = .ok (.invokevirtual 96, 3) := by decide +kernel
theorem dX11_ask_65 : decode cX11_ask 65 = .ok (.ireturn, 1) := by decide +kernel
theorem dX11_trace_0 : decode cX11_trace 0 = .ok (.iload_n 1, 1) := by decide +kernel
theorem dX11_trace_1 : decode cX11_trace 1 = .ok (.i2l, 1) := by decide +kernel
theorem dX11_trace_2 : decode cX11_trace 2 = .ok (.lconst 0, 1) := by decide +kernel
theorem dX11_trace_3 : decode cX11_trace 3 = .ok (.aload_n 0, 1) := by decide +kernel
theorem dX11_trace_4 : decode cX11_trace 4 = .ok (.getfield 150, 3) := by decide +kernel
theorem dX11_trace_7 : decode cX11_trace 7 = .ok (.iconst 1, 1) := by decide +kernel
theorem dX11_trace_8 : decode cX11_trace 8 = .ok (.isub, 1) := by decide +kernel
theorem dX11_trace_9 : decode cX11_trace 9 = .ok (.i2l, 1) := by decide +kernel
theorem dX11_trace_10 : decode cX11_trace 10 = .ok (.invokestatic 81, 3) := by decide +kernel
theorem dX11_trace_13 : decode cX11_trace 13 = .ok (.ifCond .eq 12, 3) := by decide +kernel
theorem dX11_trace_16 : decode cX11_trace 16 = .ok (.aload_n 0, 1) := by decide +kernel
theorem dX11_trace_17 : decode cX11_trace 17 = .ok (.getfield 44, 3) := by decide +kernel
theorem dX11_trace_20 : decode cX11_trace 20 = .ok (.iload_n 1, 1) := by decide +kernel
theorem dX11_trace_21 : decode cX11_trace 21 = .ok (.iaload, 1) := by decide +kernel
theorem dX11_trace_22 : decode cX11_trace 22 = .ok (.goto 5, 3) := by decide +kernel
theorem dX11_trace_25 : decode cX11_trace 25 = .ok (.ldc 26, 2) := by decide +kernel
theorem dX11_trace_27 : decode cX11_trace 27 = .ok (.ireturn, 1) := by decide +kernel
theorem dX11_undo_0 : decode cX11_undo 0 = .ok (.aload_n 0, 1) := by decide +kernel
theorem dX11_undo_1 : decode cX11_undo 1 = .ok (.getfield 27, 3) := by decide +kernel
theorem dX11_undo_4 : decode cX11_undo 4 = .ok (.ifCond .ge 6, 3) := by decide +kernel
theorem dX11_undo_7 : decode cX11_undo 7 = .ok (.ldc 176, 2) := by decide +kernel
theorem dX11_undo_9 : decode cX11_undo 9 = .ok (.ireturn, 1) := by decide +kernel
theorem dX11_undo_10 : decode cX11_undo 10 = .ok (.aload_n 0, 1) := by decide +kernel
theorem dX11_undo_11 : decode cX11_undo 11 = .ok (.getfield 104, 3) := by decide +kernel
theorem dX11_undo_14 : decode cX11_undo 14 = .ok (.ifCond .eq 16, 3) := by decide +kernel
theorem dX11_undo_17 : decode cX11_undo 17 = .ok (.aload_n 0, 1) := by decide +kernel
theorem dX11_undo_18 : decode cX11_undo 18 = .ok (.dup, 1) := by decide +kernel
theorem dX11_undo_19 : decode cX11_undo 19 = .ok (.getfield 101, 3) := by decide +kernel
theorem dX11_undo_22 : decode cX11_undo 22 = .ok (.iconst 1, 1) := by decide +kernel
theorem dX11_undo_23 : decode cX11_undo 23 = .ok (.isub, 1) := by decide +kernel
theorem dX11_undo_24 : decode cX11_undo 24 = .ok (.putfield 101, 3) := by decide +kernel
theorem dX11_undo_27 : decode cX11_undo 27 = .ok (.goto 55, 3) := by decide +kernel
theorem dX11_undo_30 : decode cX11_undo 30 = .ok (.aload_n 0, 1) := by decide +kernel
theorem dX11_undo_31 : decode cX11_undo 31 = .ok (.getfield 7, 3) := by decide +kernel
theorem dX11_undo_34 : decode cX11_undo 34 = .ok (.aload_n 0, 1) := by decide +kernel
theorem dX11_undo_35 : decode cX11_undo 35 = .ok (.getfield 27, 3) := by decide +kernel
theorem dX11_undo_38 : decode cX11_undo 38 = .ok (.aload_n 0, 1) := by decide +kernel
theorem dX11_undo_39 : decode cX11_undo 39 = .ok (.getfield 108, 3) := by decide +kernel
theorem dX11_undo_42 : decode cX11_undo 42 = .ok (.iastore, 1) := by decide +kernel
theorem dX11_undo_43 : decode cX11_undo 43 = .ok (.aload_n 0, 1) := by decide +kernel
theorem dX11_undo_44 : decode cX11_undo 44 = .ok (.getfield 13, 3) := by decide +kernel
theorem dX11_undo_47 : decode cX11_undo 47 = .ok (.aload_n 0, 1) := by decide +kernel
theorem dX11_undo_48 : decode cX11_undo 48 = .ok (.getfield 27, 3) := by decide +kernel
theorem dX11_undo_51 : decode cX11_undo 51 = .ok (.aload_n 0, 1) := by decide +kernel
theorem dX11_undo_52 : decode cX11_undo 52 = .ok (.getfield 111, 3) := by decide +kernel
theorem dX11_undo_55 : decode cX11_undo 55 = .ok (.iastore, 1) := by decide +kernel
theorem dX11_undo_56 : decode cX11_undo 56 = .ok (.aload_n 0, 1) := by decide +kernel
theorem dX11_undo_57 : decode cX11_undo 57 = .ok (.getfield 19, 3) := by decide +kernel
theorem dX11_undo_60 : decode cX11_undo 60 = .ok (.aload_n 0, 1) := by decide +kernel
theorem dX11_undo_61 : decode cX11_undo 61 = .ok (.getfield 27, 3) := by decide +kernel
theorem dX11_undo_64 : decode cX11_undo 64 = .ok (.aload_n 0, 1) := by decide +kernel
theorem dX11_undo_65 : decode cX11_undo 65 = .ok (.getfield 114, 3) := by decide +kernel
theorem dX11_undo_68 : decode cX11_undo 68 = .ok (.iastore, 1) := by decide +kernel
theorem dX11_undo_69 : decode cX11_undo 69 = .ok (.aload_n 0, 1) := by decide +kernel
theorem dX11_undo_70 : decode cX11_undo 70 = .ok (.getfield 22, 3) := by decide +kernel
theorem dX11_undo_73 : decode cX11_undo 73 = .ok (.aload_n 0, 1) := by decide +kernel
theorem dX11_undo_74 : decode cX11_undo 74 = .ok (.getfield 27, 3) := by decide +kernel
theorem dX11_undo_77 : decode cX11_undo 77 = .ok (.aload_n 0, 1) := by decide +kernel
theorem dX11_undo_78 : decode cX11_undo 78 = .ok (.getfield 117, 3) := by decide +kernel
theorem dX11_undo_81 : decode cX11_undo 81 = .ok (.bastore, 1) := by decide +kernel
theorem dX11_undo_82 : decode cX11_undo 82 = .ok (.aload_n 0, 1) := by decide +kernel
theorem dX11_undo_83 : decode cX11_undo 83 = .ok (.ldc 26, 2) := by decide +kernel
theorem dX11_undo_85 : decode cX11_undo 85 = .ok (.putfield 27, 3) := by decide +kernel
theorem dX11_undo_88 : decode cX11_undo 88 = .ok (.iconst 1, 1) := by decide +kernel
theorem dX11_undo_89 : decode cX11_undo 89 = .ok (.ireturn, 1) := by decide +kernel
theorem dX11_divisor_0 : decode cX11_divisor 0 = .ok (.lload_n 0, 1) := by decide +kernel
theorem dX11_divisor_1 : decode cX11_divisor 1 = .ok (.lconst 0, 1) := by decide +kernel
theorem dX11_divisor_2 : decode cX11_divisor 2 = .ok (.lcmp, 1) := by decide +kernel
theorem dX11_divisor_3 : decode cX11_divisor 3 = .ok (.ifCond .ge 8, 3) := by decide +kernel
theorem dX11_divisor_6 : decode cX11_divisor 6 = .ok (.lload_n 0, 1) := by decide +kernel
theorem dX11_divisor_7 : decode cX11_divisor 7 = .ok (.lneg, 1) := by decide +kernel
theorem dX11_divisor_8 : decode cX11_divisor 8 = .ok (.goto 4, 3) := by decide +kernel
theorem dX11_divisor_11 : decode cX11_divisor 11 = .ok (.lload_n 0, 1) := by decide +kernel
theorem dX11_divisor_12 : decode cX11_divisor 12 = .ok (.lstore 4, 2) := by decide +kernel
theorem dX11_divisor_14 : decode cX11_divisor 14 = .ok (.lload_n 2, 1) := by decide +kernel
theorem dX11_divisor_15 : decode cX11_divisor 15 = .ok (.lconst 0, 1) := by decide +kernel
theorem dX11_divisor_16 : decode cX11_divisor 16 = .ok (.lcmp, 1) := by decide +kernel
theorem dX11_divisor_17 : decode cX11_divisor 17 = .ok (.ifCond .ge 8, 3) := by decide +kernel
theorem dX11_divisor_20 : decode cX11_divisor 20 = .ok (.lload_n 2, 1) := by decide +kernel
theorem dX11_divisor_21 : decode cX11_divisor 21 = .ok (.lneg, 1) := by decide +kernel
theorem dX11_divisor_22 : decode cX11_divisor 22 = .ok (.goto 4, 3) := by decide +kernel
theorem dX11_divisor_25 : decode cX11_divisor 25 = .ok (.lload_n 2, 1) := by decide +kernel
theorem dX11_divisor_26 : decode cX11_divisor 26 = .ok (.lstore 6, 2) := by decide +kernel
theorem dX11_divisor_28 : decode cX11_divisor 28 = .ok (.lload 6, 2) := by decide +kernel
theorem dX11_divisor_30 : decode cX11_divisor 30 = .ok (.lconst 0, 1) := by decide +kernel
theorem dX11_divisor_31 : decode cX11_divisor 31 = .ok (.lcmp, 1) := by decide +kernel
theorem dX11_divisor_32 : decode cX11_divisor 32 = .ok (.ifCond .le 21, 3) := by decide +kernel
theorem dX11_divisor_35 : decode cX11_divisor 35 = .ok (.lload 4, 2) := by decide +kernel
theorem dX11_divisor_37 : decode cX11_divisor 37 = .ok (.lload 6, 2) := by decide +kernel
theorem dX11_divisor_39 : decode cX11_divisor 39 = .ok (.lrem, 1) := by decide +kernel
theorem dX11_divisor_40 : decode cX11_divisor 40 = .ok (.lstore 8, 2) := by decide +kernel
theorem dX11_divisor_42 : decode cX11_divisor 42 = .ok (.lload 6, 2) := by decide +kernel
theorem dX11_divisor_44 : decode cX11_divisor 44 = .ok (.lstore 4, 2) := by decide +kernel
theorem dX11_divisor_46 : decode cX11_divisor 46 = .ok (.lload 8, 2) := by decide +kernel
theorem dX11_divisor_48 : decode cX11_divisor 48 = .ok (.lstore 6, 2) := by decide +kernel
theorem dX11_divisor_50 : decode cX11_divisor 50 = .ok (.goto (-22), 3) := by decide +kernel
theorem dX11_divisor_53 : decode cX11_divisor 53 = .ok (.lload 4, 2) := by decide +kernel
theorem dX11_divisor_55 : decode cX11_divisor 55 = .ok (.lreturn, 1) := by decide +kernel
theorem dX11_line_0 : decode cX11_line 0 = .ok (.iload_n 1, 1) := by decide +kernel
theorem dX11_line_1 : decode cX11_line 1 = .ok (.i2l, 1) := by decide +kernel
theorem dX11_line_2 : decode cX11_line 2 = .ok (.ldc2_w 177, 3) := by decide +kernel
theorem dX11_line_5 : decode cX11_line 5 = .ok (.ldc2_w 179, 3) := by decide +kernel
theorem dX11_line_8 : decode cX11_line 8 = .ok (.invokestatic 81, 3) := by decide +kernel
theorem dX11_line_11 : decode cX11_line 11 = .ok (.ifCond .eq 31, 3) := by decide +kernel
theorem dX11_line_14 : decode cX11_line 14 = .ok (.iload_n 2, 1) := by decide +kernel
theorem dX11_line_15 : decode cX11_line 15 = .ok (.i2l, 1) := by decide +kernel
theorem dX11_line_16 : decode cX11_line 16 = .ok (.ldc2_w 177, 3) := by decide +kernel
theorem dX11_line_19 : decode cX11_line 19 = .ok (.ldc2_w 179, 3) := by decide +kernel
theorem dX11_line_22 : decode cX11_line 22 = .ok (.invokestatic 81, 3) := by decide +kernel
theorem dX11_line_25 : decode cX11_line 25 = .ok (.ifCond .eq 17, 3) := by decide +kernel
theorem dX11_line_28 : decode cX11_line 28 = .ok (.iload_n 3, 1) := by decide +kernel
theorem dX11_line_29 : decode cX11_line 29 = .ok (.i2l, 1) := by decide +kernel
theorem dX11_line_30 : decode cX11_line 30 = .ok (.ldc2_w 177, 3) := by decide +kernel
theorem dX11_line_33 : decode cX11_line 33 = .ok (.ldc2_w 179, 3) := by decide +kernel
theorem dX11_line_36 : decode cX11_line 36 = .ok (.invokestatic 81, 3) := by decide +kernel
theorem dX11_line_39 : decode cX11_line 39 = .ok (.ifCond .ne 6, 3) := by decide +kernel
theorem dX11_line_42 : decode cX11_line 42 = .ok (.ldc 91, 2) := by decide +kernel
theorem dX11_line_44 : decode cX11_line 44 = .ok (.ireturn, 1) := by decide +kernel
theorem dX11_line_45 : decode cX11_line 45 = .ok (.iload_n 1, 1) := by decide +kernel
theorem dX11_line_46 : decode cX11_line 46 = .ok (.ifCond .ne 10, 3) := by decide +kernel
theorem dX11_line_49 : decode cX11_line 49 = .ok (.iload_n 2, 1) := by decide +kernel
theorem dX11_line_50 : decode cX11_line 50 = .ok (.ifCond .ne 6, 3) := by decide +kernel
theorem dX11_line_53 : decode cX11_line 53 = .ok (.ldc 176, 2) := by decide +kernel
theorem dX11_line_55 : decode cX11_line 55 = .ok (.ireturn, 1) := by decide +kernel
theorem dX11_line_56 : decode cX11_line 56 = .ok (.iload_n 1, 1) := by decide +kernel
theorem dX11_line_57 : decode cX11_line 57 = .ok (.i2l, 1) := by decide +kernel
theorem dX11_line_58 : decode cX11_line 58 = .ok (.iload_n 2, 1) := by decide +kernel
theorem dX11_line_59 : decode cX11_line 59 = .ok (.i2l, 1) := by decide +kernel
theorem dX11_line_60 : decode cX11_line 60 = .ok (.invokestatic 181, 3) := by decide +kernel
theorem dX11_line_63 : decode cX11_line 63 = .ok (.iload_n 3, 1) := by decide +kernel
theorem dX11_line_64 : decode cX11_line 64 = .ok (.i2l, 1) := by decide +kernel
theorem dX11_line_65 : decode cX11_line 65 = .ok (.invokestatic 181, 3) := by decide +kernel
theorem dX11_line_68 : decode cX11_line 68 = .ok (.lstore 4, 2) := by decide +kernel
theorem dX11_line_70 : decode cX11_line 70 = .ok (.aload_n 0, 1) := by decide +kernel
theorem dX11_line_71 : decode cX11_line 71 = .ok (.iload_n 1, 1) := by decide +kernel
theorem dX11_line_72 : decode cX11_line 72 = .ok (.i2l, 1) := by decide +kernel
theorem dX11_line_73 : decode cX11_line 73 = .ok (.lload 4, 2) := by decide +kernel
theorem dX11_line_75 : decode cX11_line 75 = .ok (.ldiv, 1) := by decide +kernel
theorem dX11_line_76 : decode cX11_line 76 = .ok (.putfield 185, 3) := by decide +kernel
theorem dX11_line_79 : decode cX11_line 79 = .ok (.aload_n 0, 1) := by decide +kernel
theorem dX11_line_80 : decode cX11_line 80 = .ok (.iload_n 2, 1) := by decide +kernel
theorem dX11_line_81 : decode cX11_line 81 = .ok (.i2l, 1) := by decide +kernel
theorem dX11_line_82 : decode cX11_line 82 = .ok (.lload 4, 2) := by decide +kernel
theorem dX11_line_84 : decode cX11_line 84 = .ok (.ldiv, 1) := by decide +kernel
theorem dX11_line_85 : decode cX11_line 85 = .ok (.putfield 47, 3) := by decide +kernel
theorem dX11_line_88 : decode cX11_line 88 = .ok (.aload_n 0, 1) := by decide +kernel
theorem dX11_line_89 : decode cX11_line 89 = .ok (.iload_n 3, 1) := by decide +kernel
theorem dX11_line_90 : decode cX11_line 90 = .ok (.i2l, 1) := by decide +kernel
theorem dX11_line_91 : decode cX11_line 91 = .ok (.lload 4, 2) := by decide +kernel
theorem dX11_line_93 : decode cX11_line 93 = .ok (.ldiv, 1) := by decide +kernel
theorem dX11_line_94 : decode cX11_line 94 = .ok (.putfield 188, 3) := by decide +kernel
theorem dX11_line_97 : decode cX11_line 97 = .ok (.iconst 1, 1) := by decide +kernel
theorem dX11_line_98 : decode cX11_line 98 = .ok (.ireturn, 1) := by decide +kernel
theorem dX11_isApart_0 : decode cX11_isApart 0 = .ok (.aload_n 0, 1) := by decide +kernel
theorem dX11_isApart_1 : decode cX11_isApart 1 = .ok (.getfield 7, 3) := by decide +kernel
theorem dX11_isApart_4 : decode cX11_isApart 4 = .ok (.iload_n 1, 1) := by decide +kernel
theorem dX11_isApart_5 : decode cX11_isApart 5 = .ok (.iaload, 1) := by decide +kernel
theorem dX11_isApart_6 : decode cX11_isApart 6 = .ok (.aload_n 0, 1) := by decide +kernel
theorem dX11_isApart_7 : decode cX11_isApart 7 = .ok (.getfield 7, 3) := by decide +kernel
theorem dX11_isApart_10 : decode cX11_isApart 10 = .ok (.iload_n 2, 1) := by decide +kernel
theorem dX11_isApart_11 : decode cX11_isApart 11 = .ok (.iaload, 1) := by decide +kernel
theorem dX11_isApart_12 : decode cX11_isApart 12 = .ok (.if_icmp .ne 18, 3) := by decide +kernel
theorem dX11_isApart_15 : decode cX11_isApart 15 = .ok (.aload_n 0, 1) := by decide +kernel
theorem dX11_isApart_16 : decode cX11_isApart 16 = .ok (.getfield 13, 3) := by decide +kernel
theorem dX11_isApart_19 : decode cX11_isApart 19 = .ok (.iload_n 1, 1) := by decide +kernel
theorem dX11_isApart_20 : decode cX11_isApart 20 = .ok (.iaload, 1) := by decide +kernel
theorem dX11_isApart_21 : decode cX11_isApart 21 = .ok (.aload_n 0, 1) := by decide +kernel
theorem dX11_isApart_22 : decode cX11_isApart 22 = .ok (.getfield 13, 3) := by decide +kernel
theorem dX11_isApart_25 : decode cX11_isApart 25 = .ok (.iload_n 2, 1) := by decide +kernel
theorem dX11_isApart_26 : decode cX11_isApart 26 = .ok (.iaload, 1) := by decide +kernel
theorem dX11_isApart_27 : decode cX11_isApart 27 = .ok (.if_icmp .eq 7, 3) := by decide +kernel
theorem dX11_isApart_30 : decode cX11_isApart 30 = .ok (.iconst 1, 1) := by decide +kernel
theorem dX11_isApart_31 : decode cX11_isApart 31 = .ok (.goto 4, 3) := by decide +kernel
theorem dX11_isApart_34 : decode cX11_isApart 34 = .ok (.iconst 0, 1) := by decide +kernel
theorem dX11_isApart_35 : decode cX11_isApart 35 = .ok (.ireturn, 1) := by decide +kernel
theorem dX11_look_0 : decode cX11_look 0 = .ok (.aload_n 0, 1) := by decide +kernel
theorem dX11_look_1 : decode cX11_look 1 = .ok (.aload_n 0, 1) := by decide +kernel
theorem dX11_look_2 : decode cX11_look 2 = .ok (.getfield 13, 3) := by decide +kernel
theorem dX11_look_5 : decode cX11_look 5 = .ok (.iload_n 1, 1) := by decide +kernel
theorem dX11_look_6 : decode cX11_look 6 = .ok (.iaload, 1) := by decide +kernel
theorem dX11_look_7 : decode cX11_look 7 = .ok (.aload_n 0, 1) := by decide +kernel
theorem dX11_look_8 : decode cX11_look 8 = .ok (.getfield 13, 3) := by decide +kernel
theorem dX11_look_11 : decode cX11_look 11 = .ok (.iload_n 2, 1) := by decide +kernel
theorem dX11_look_12 : decode cX11_look 12 = .ok (.iaload, 1) := by decide +kernel
theorem dX11_look_13 : decode cX11_look 13 = .ok (.isub, 1) := by decide +kernel
theorem dX11_look_14 : decode cX11_look 14 = .ok (.i2l, 1) := by decide +kernel
theorem dX11_look_15 : decode cX11_look 15 = .ok (.putfield 191, 3) := by decide +kernel
theorem dX11_look_18 : decode cX11_look 18 = .ok (.aload_n 0, 1) := by decide +kernel
theorem dX11_look_19 : decode cX11_look 19 = .ok (.aload_n 0, 1) := by decide +kernel
theorem dX11_look_20 : decode cX11_look 20 = .ok (.getfield 7, 3) := by decide +kernel
theorem dX11_look_23 : decode cX11_look 23 = .ok (.iload_n 2, 1) := by decide +kernel
theorem dX11_look_24 : decode cX11_look 24 = .ok (.iaload, 1) := by decide +kernel
theorem dX11_look_25 : decode cX11_look 25 = .ok (.aload_n 0, 1) := by decide +kernel
theorem dX11_look_26 : decode cX11_look 26 = .ok (.getfield 7, 3) := by decide +kernel
theorem dX11_look_29 : decode cX11_look 29 = .ok (.iload_n 1, 1) := by decide +kernel
theorem dX11_look_30 : decode cX11_look 30 = .ok (.iaload, 1) := by decide +kernel
theorem dX11_look_31 : decode cX11_look 31 = .ok (.isub, 1) := by decide +kernel
theorem dX11_look_32 : decode cX11_look 32 = .ok (.i2l, 1) := by decide +kernel
theorem dX11_look_33 : decode cX11_look 33 = .ok (.putfield 194, 3) := by decide +kernel
theorem dX11_look_36 : decode cX11_look 36 = .ok (.aload_n 0, 1) := by decide +kernel
theorem dX11_look_37 : decode cX11_look 37 = .ok (.aload_n 0, 1) := by decide +kernel
theorem dX11_look_38 : decode cX11_look 38 = .ok (.getfield 7, 3) := by decide +kernel
theorem dX11_look_41 : decode cX11_look 41 = .ok (.iload_n 1, 1) := by decide +kernel
theorem dX11_look_42 : decode cX11_look 42 = .ok (.iaload, 1) := by decide +kernel
theorem dX11_look_43 : decode cX11_look 43 = .ok (.i2l, 1) := by decide +kernel
theorem dX11_look_44 : decode cX11_look 44 = .ok (.aload_n 0, 1) := by decide +kernel
theorem dX11_look_45 : decode cX11_look 45 = .ok (.getfield 13, 3) := by decide +kernel
theorem dX11_look_48 : decode cX11_look 48 = .ok (.iload_n 2, 1) := by decide +kernel
theorem dX11_look_49 : decode cX11_look 49 = .ok (.iaload, 1) := by decide +kernel
theorem dX11_look_50 : decode cX11_look 50 = .ok (.i2l, 1) := by decide +kernel
theorem dX11_look_51 : decode cX11_look 51 = .ok (.lmul, 1) := by decide +kernel
theorem dX11_look_52 : decode cX11_look 52 = .ok (.aload_n 0, 1) := by decide +kernel
theorem dX11_look_53 : decode cX11_look 53 = .ok (.getfield 7, 3) := by decide +kernel
theorem dX11_look_56 : decode cX11_look 56 = .ok (.iload_n 2, 1) := by decide +kernel
theorem dX11_look_57 : decode cX11_look 57 = .ok (.iaload, 1) := by decide +kernel
theorem dX11_look_58 : decode cX11_look 58 = .ok (.i2l, 1) := by decide +kernel
theorem dX11_look_59 : decode cX11_look 59 = .ok (.aload_n 0, 1) := by decide +kernel
theorem dX11_look_60 : decode cX11_look 60 = .ok (.getfield 13, 3) := by decide +kernel
theorem dX11_look_63 : decode cX11_look 63 = .ok (.iload_n 1, 1) := by decide +kernel
theorem dX11_look_64 : decode cX11_look 64 = .ok (.iaload, 1) := by decide +kernel
theorem dX11_look_65 : decode cX11_look 65 = .ok (.i2l, 1) := by decide +kernel
theorem dX11_look_66 : decode cX11_look 66 = .ok (.lmul, 1) := by decide +kernel
theorem dX11_look_67 : decode cX11_look 67 = .ok (.lsub, 1) := by decide +kernel
theorem dX11_look_68 : decode cX11_look 68 = .ok (.putfield 197, 3) := by decide +kernel
theorem dX11_look_71 : decode cX11_look 71 = .ok (.aload_n 0, 1) := by decide +kernel
theorem dX11_look_72 : decode cX11_look 72 = .ok (.getfield 191, 3) := by decide +kernel
theorem dX11_look_75 : decode cX11_look 75 = .ok (.aload_n 0, 1) := by decide +kernel
theorem dX11_look_76 : decode cX11_look 76 = .ok (.getfield 194, 3) := by decide +kernel
theorem dX11_look_79 : decode cX11_look 79 = .ok (.invokestatic 181, 3) := by decide +kernel
theorem dX11_look_82 : decode cX11_look 82 = .ok (.aload_n 0, 1) := by decide +kernel
theorem dX11_look_83 : decode cX11_look 83 = .ok (.getfield 197, 3) := by decide +kernel
theorem dX11_look_86 : decode cX11_look 86 = .ok (.invokestatic 181, 3) := by decide +kernel
theorem dX11_look_89 : decode cX11_look 89 = .ok (.lstore_n 3, 1) := by decide +kernel
theorem dX11_look_90 : decode cX11_look 90 = .ok (.aload_n 0, 1) := by decide +kernel
theorem dX11_look_91 : decode cX11_look 91 = .ok (.getfield 191, 3) := by decide +kernel
theorem dX11_look_94 : decode cX11_look 94 = .ok (.lconst 0, 1) := by decide +kernel
theorem dX11_look_95 : decode cX11_look 95 = .ok (.lcmp, 1) := by decide +kernel
theorem dX11_look_96 : decode cX11_look 96 = .ok (.ifCond .lt 21, 3) := by decide +kernel
theorem dX11_look_99 : decode cX11_look 99 = .ok (.aload_n 0, 1) := by decide +kernel
theorem dX11_look_100 : decode cX11_look 100 = .ok (.getfield 191, 3) := by decide +kernel
theorem dX11_look_103 : decode cX11_look 103 = .ok (.lconst 0, 1) := by decide +kernel
theorem dX11_look_104 : decode cX11_look 104 = .ok (.lcmp, 1) := by decide +kernel
theorem dX11_look_105 : decode cX11_look 105 = .ok (.ifCond .ne 15, 3) := by decide +kernel
theorem dX11_look_108 : decode cX11_look 108 = .ok (.aload_n 0, 1) := by decide +kernel
theorem dX11_look_109 : decode cX11_look 109 = .ok (.getfield 194, 3) := by decide +kernel
theorem dX11_look_112 : decode cX11_look 112 = .ok (.lconst 0, 1) := by decide +kernel
theorem dX11_look_113 : decode cX11_look 113 = .ok (.lcmp, 1) := by decide +kernel
theorem dX11_look_114 : decode cX11_look 114 = .ok (.ifCond .ge 6, 3) := by decide +kernel
theorem dX11_look_117 : decode cX11_look 117 = .ok (.lload_n 3, 1) := by decide +kernel
theorem dX11_look_118 : decode cX11_look 118 = .ok (.lneg, 1) := by decide +kernel
theorem dX11_look_119 : decode cX11_look 119 = .ok (.lstore_n 3, 1) := by decide +kernel
theorem dX11_look_120 : decode cX11_look 120 = .ok (.aload_n 0, 1) := by decide +kernel
theorem dX11_look_121 : decode cX11_look 121 = .ok (.dup, 1) := by decide +kernel
theorem dX11_look_122 : decode cX11_look 122 = .ok (.getfield 191, 3) := by decide +kernel
theorem dX11_look_125 : decode cX11_look 125 = .ok (.lload_n 3, 1) := by decide +kernel
theorem dX11_look_126 : decode cX11_look 126 = .ok (.ldiv, 1) := by decide +kernel
theorem dX11_look_127 : decode cX11_look 127 = .ok (.putfield 191, 3) := by decide +kernel
theorem dX11_look_130 : decode cX11_look 130 = .ok (.aload_n 0, 1) := by decide +kernel
theorem dX11_look_131 : decode cX11_look 131 = .ok (.dup, 1) := by decide +kernel
theorem dX11_look_132 : decode cX11_look 132 = .ok (.getfield 194, 3) := by decide +kernel
theorem dX11_look_135 : decode cX11_look 135 = .ok (.lload_n 3, 1) := by decide +kernel
theorem dX11_look_136 : decode cX11_look 136 = .ok (.ldiv, 1) := by decide +kernel
theorem dX11_look_137 : decode cX11_look 137 = .ok (.putfield 194, 3) := by decide +kernel
theorem dX11_look_140 : decode cX11_look 140 = .ok (.aload_n 0, 1) := by decide +kernel
theorem dX11_look_141 : decode cX11_look 141 = .ok (.dup, 1) := by decide +kernel
theorem dX11_look_142 : decode cX11_look 142 = .ok (.getfield 197, 3) := by decide +kernel
theorem dX11_look_145 : decode cX11_look 145 = .ok (.lload_n 3, 1) := by decide +kernel
theorem dX11_look_146 : decode cX11_look 146 = .ok (.ldiv, 1) := by decide +kernel
theorem dX11_look_147 : decode cX11_look 147 = .ok (.putfield 197, 3) := by decide +kernel
theorem dX11_look_150 : decode cX11_look 150 = .ok (.return_, 1) := by decide +kernel
theorem dX11_at_0 : decode cX11_at 0 = .ok (.aload_n 0, 1) := by decide +kernel
theorem dX11_at_1 : decode cX11_at 1 = .ok (.getfield 191, 3) := by decide +kernel
theorem dX11_at_4 : decode cX11_at 4 = .ok (.aload_n 0, 1) := by decide +kernel
theorem dX11_at_5 : decode cX11_at 5 = .ok (.getfield 7, 3) := by decide +kernel
theorem dX11_at_8 : decode cX11_at 8 = .ok (.iload_n 1, 1) := by decide +kernel
theorem dX11_at_9 : decode cX11_at 9 = .ok (.iaload, 1) := by decide +kernel
theorem dX11_at_10 : decode cX11_at 10 = .ok (.i2l, 1) := by decide +kernel
theorem dX11_at_11 : decode cX11_at 11 = .ok (.lmul, 1) := by decide +kernel
theorem dX11_at_12 : decode cX11_at 12 = .ok (.aload_n 0, 1) := by decide +kernel
theorem dX11_at_13 : decode cX11_at 13 = .ok (.getfield 194, 3) := by decide +kernel
theorem dX11_at_16 : decode cX11_at 16 = .ok (.aload_n 0, 1) := by decide +kernel
theorem dX11_at_17 : decode cX11_at 17 = .ok (.getfield 13, 3) := by decide +kernel
theorem dX11_at_20 : decode cX11_at 20 = .ok (.iload_n 1, 1) := by decide +kernel
theorem dX11_at_21 : decode cX11_at 21 = .ok (.iaload, 1) := by decide +kernel
theorem dX11_at_22 : decode cX11_at 22 = .ok (.i2l, 1) := by decide +kernel
theorem dX11_at_23 : decode cX11_at 23 = .ok (.lmul, 1) := by decide +kernel
theorem dX11_at_24 : decode cX11_at 24 = .ok (.ladd, 1) := by decide +kernel
theorem dX11_at_25 : decode cX11_at 25 = .ok (.aload_n 0, 1) := by decide +kernel
theorem dX11_at_26 : decode cX11_at 26 = .ok (.getfield 197, 3) := by decide +kernel
theorem dX11_at_29 : decode cX11_at 29 = .ok (.ladd, 1) := by decide +kernel
theorem dX11_at_30 : decode cX11_at 30 = .ok (.lreturn, 1) := by decide +kernel
theorem dX11_lookAtLine_0 : decode cX11_lookAtLine 0 = .ok (.aload_n 0, 1) := by decide +kernel
theorem dX11_lookAtLine_1 : decode cX11_lookAtLine 1 = .ok (.aload_n 0, 1) := by decide +kernel
theorem dX11_lookAtLine_2 : decode cX11_lookAtLine 2 = .ok (.getfield 185, 3) := by decide +kernel
theorem dX11_lookAtLine_5 : decode cX11_lookAtLine 5 = .ok (.putfield 191, 3) := by decide +kernel
theorem dX11_lookAtLine_8 : decode cX11_lookAtLine 8 = .ok (.aload_n 0, 1) := by decide +kernel
theorem dX11_lookAtLine_9 : decode cX11_lookAtLine 9 = .ok (.aload_n 0, 1) := by decide +kernel
theorem dX11_lookAtLine_10 : decode cX11_lookAtLine 10 = .ok (.getfield 47, 3) := by decide +kernel
theorem dX11_lookAtLine_13 : decode cX11_lookAtLine 13 = .ok (.putfield 194, 3) := by decide +kernel
theorem dX11_lookAtLine_16 : decode cX11_lookAtLine 16 = .ok (.aload_n 0, 1) := by decide +kernel
theorem dX11_lookAtLine_17 : decode cX11_lookAtLine 17 = .ok (.aload_n 0, 1) := by decide +kernel
theorem dX11_lookAtLine_18 : decode cX11_lookAtLine 18 = .ok (.getfield 188, 3) := by decide +kernel
theorem dX11_lookAtLine_21 : decode cX11_lookAtLine 21 = .ok (.putfield 197, 3) := by decide +kernel
theorem dX11_lookAtLine_24 : decode cX11_lookAtLine 24 = .ok (.return_, 1) := by decide +kernel
theorem dX11_putLine_0 : decode cX11_putLine 0 = .ok (.aload_n 0, 1) := by decide +kernel
theorem dX11_putLine_1 : decode cX11_putLine 1 = .ok (.aload_n 0, 1) := by decide +kernel
theorem dX11_putLine_2 : decode cX11_putLine 2 = .ok (.getfield 191, 3) := by decide +kernel
theorem dX11_putLine_5 : decode cX11_putLine 5 = .ok (.putfield 185, 3) := by decide +kernel
theorem dX11_putLine_8 : decode cX11_putLine 8 = .ok (.aload_n 0, 1) := by decide +kernel
theorem dX11_putLine_9 : decode cX11_putLine 9 = .ok (.aload_n 0, 1) := by decide +kernel
theorem dX11_putLine_10 : decode cX11_putLine 10 = .ok (.getfield 194, 3) := by decide +kernel
theorem dX11_putLine_13 : decode cX11_putLine 13 = .ok (.putfield 47, 3) := by decide +kernel
theorem dX11_putLine_16 : decode cX11_putLine 16 = .ok (.aload_n 0, 1) := by decide +kernel
theorem dX11_putLine_17 : decode cX11_putLine 17 = .ok (.aload_n 0, 1) := by decide +kernel
theorem dX11_putLine_18 : decode cX11_putLine 18 = .ok (.getfield 197, 3) := by decide +kernel
theorem dX11_putLine_21 : decode cX11_putLine 21 = .ok (.putfield 188, 3) := by decide +kernel
theorem dX11_putLine_24 : decode cX11_putLine 24 = .ok (.return_, 1) := by decide +kernel
theorem dX11_through_0 : decode cX11_through 0 = .ok (.aload_n 0, 1) := by decide +kernel
theorem dX11_through_1 : decode cX11_through 1 = .ok (.iload_n 1, 1) := by decide +kernel
theorem dX11_through_2 : decode cX11_through 2 = .ok (.invokevirtual 131, 3) := by decide +kernel
theorem dX11_through_5 : decode cX11_through 5 = .ok (.ifCond .eq 11, 3) := by decide +kernel
theorem dX11_through_8 : decode cX11_through 8 = .ok (.aload_n 0, 1) := by decide +kernel
theorem dX11_through_9 : decode cX11_through 9 = .ok (.iload_n 2, 1) := by decide +kernel
theorem dX11_through_10 : decode cX11_through 10 = .ok (.invokevirtual 131, 3) := by decide +kernel
theorem dX11_through_13 : decode cX11_through 13 = .ok (.ifCond .ne 6, 3) := by decide +kernel
theorem dX11_through_16 : decode cX11_through 16 = .ok (.ldc 91, 2) := by decide +kernel
theorem dX11_through_18 : decode cX11_through 18 = .ok (.ireturn, 1) := by decide +kernel
theorem dX11_through_19 : decode cX11_through 19 = .ok (.aload_n 0, 1) := by decide +kernel
theorem dX11_through_20 : decode cX11_through 20 = .ok (.getfield 22, 3) := by decide +kernel
theorem dX11_through_23 : decode cX11_through 23 = .ok (.iload_n 1, 1) := by decide +kernel
theorem dX11_through_24 : decode cX11_through 24 = .ok (.baload, 1) := by decide +kernel
theorem dX11_through_25 : decode cX11_through 25 = .ok (.ifCond .ne 12, 3) := by decide +kernel
theorem dX11_through_28 : decode cX11_through 28 = .ok (.aload_n 0, 1) := by decide +kernel
theorem dX11_through_29 : decode cX11_through 29 = .ok (.getfield 22, 3) := by decide +kernel
theorem dX11_through_32 : decode cX11_through 32 = .ok (.iload_n 2, 1) := by decide +kernel
theorem dX11_through_33 : decode cX11_through 33 = .ok (.baload, 1) := by decide +kernel
theorem dX11_through_34 : decode cX11_through 34 = .ok (.ifCond .eq 9, 3) := by decide +kernel
theorem dX11_through_37 : decode cX11_through 37 = .ok (.aload_n 0, 1) := by decide +kernel
theorem dX11_through_38 : decode cX11_through 38 = .ok (.iconst 1, 1) := by decide +kernel
theorem dX11_through_39 : decode cX11_through 39 = .ok (.invokevirtual 92, 3) := by decide +kernel
theorem dX11_through_42 : decode cX11_through 42 = .ok (.ireturn, 1) := by decide +kernel
theorem dX11_through_43 : decode cX11_through 43 = .ok (.aload_n 0, 1) := by decide +kernel
theorem dX11_through_44 : decode cX11_through 44 = .ok (.iload_n 1, 1) := by decide +kernel
theorem dX11_through_45 : decode cX11_through 45 = .ok (.iload_n 2, 1) := by decide +kernel
theorem dX11_through_46 : decode cX11_through 46 = .ok (.invokevirtual 200, 3) := by decide +kernel
theorem dX11_through_49 : decode cX11_through 49 = .ok (.ifCond .ne 6, 3) := by decide +kernel
theorem dX11_through_52 : decode cX11_through 52 = .ok (.ldc 176, 2) := by decide +kernel
theorem dX11_through_54 : decode cX11_through 54 = .ok (.ireturn, 1) := by decide +kernel
theorem dX11_through_55 : decode cX11_through 55 = .ok (.aload_n 0, 1) := by decide +kernel
theorem dX11_through_56 : decode cX11_through 56 = .ok (.iload_n 1, 1) := by decide +kernel
theorem dX11_through_57 : decode cX11_through 57 = .ok (.iload_n 2, 1) := by decide +kernel
theorem dX11_through_58 : decode cX11_through 58 = .ok (.invokevirtual 203, 3) := by decide +kernel
theorem dX11_through_61 : decode cX11_through 61 = .ok (.aload_n 0, 1) := by decide +kernel
theorem dX11_through_62 : decode cX11_through 62 = .ok (.invokevirtual 207, 3) := by decide +kernel
theorem dX11_through_65 : decode cX11_through 65 = .ok (.aload_n 0, 1) := by decide +kernel
theorem dX11_through_66 : decode cX11_through 66 = .ok (.iconst 1, 1) := by decide +kernel
theorem dX11_through_67 : decode cX11_through 67 = .ok (.invokevirtual 96, 3) := by decide +kernel
theorem dX11_through_70 : decode cX11_through 70 = .ok (.ireturn, 1) := by decide +kernel
theorem dX11_lineAt_0 : decode cX11_lineAt 0 = .ok (.iload_n 1, 1) := by decide +kernel
theorem dX11_lineAt_1 : decode cX11_lineAt 1 = .ok (.i2l, 1) := by decide +kernel
theorem dX11_lineAt_2 : decode cX11_lineAt 2 = .ok (.lconst 0, 1) := by decide +kernel
theorem dX11_lineAt_3 : decode cX11_lineAt 3 = .ok (.ldc2_w 89, 3) := by decide +kernel
theorem dX11_lineAt_6 : decode cX11_lineAt 6 = .ok (.invokestatic 81, 3) := by decide +kernel
theorem dX11_lineAt_9 : decode cX11_lineAt 9 = .ok (.ifCond .ne 8, 3) := by decide +kernel
theorem dX11_lineAt_12 : decode cX11_lineAt 12 = .ok (.ldc 91, 2) := by decide +kernel
theorem dX11_lineAt_14 : decode cX11_lineAt 14 = .ok (.goto 31, 3) := by decide +kernel
theorem dX11_lineAt_17 : decode cX11_lineAt 17 = .ok (.iload_n 1, 1) := by decide +kernel
theorem dX11_lineAt_18 : decode cX11_lineAt 18 = .ok (.ifCond .ne 10, 3) := by decide +kernel
theorem dX11_lineAt_21 : decode cX11_lineAt 21 = .ok (.aload_n 0, 1) := by decide +kernel
theorem dX11_lineAt_22 : decode cX11_lineAt 22 = .ok (.getfield 185, 3) := by decide +kernel
theorem dX11_lineAt_25 : decode cX11_lineAt 25 = .ok (.goto 19, 3) := by decide +kernel
theorem dX11_lineAt_28 : decode cX11_lineAt 28 = .ok (.iload_n 1, 1) := by decide +kernel
theorem dX11_lineAt_29 : decode cX11_lineAt 29 = .ok (.iconst 1, 1) := by decide +kernel
theorem dX11_lineAt_30 : decode cX11_lineAt 30 = .ok (.if_icmp .ne 10, 3) := by decide +kernel
theorem dX11_lineAt_33 : decode cX11_lineAt 33 = .ok (.aload_n 0, 1) := by decide +kernel
theorem dX11_lineAt_34 : decode cX11_lineAt 34 = .ok (.getfield 47, 3) := by decide +kernel
theorem dX11_lineAt_37 : decode cX11_lineAt 37 = .ok (.goto 7, 3) := by decide +kernel
theorem dX11_lineAt_40 : decode cX11_lineAt 40 = .ok (.aload_n 0, 1) := by decide +kernel
theorem dX11_lineAt_41 : decode cX11_lineAt 41 = .ok (.getfield 188, 3) := by decide +kernel
theorem dX11_lineAt_44 : decode cX11_lineAt 44 = .ok (.l2i, 1) := by decide +kernel
theorem dX11_lineAt_45 : decode cX11_lineAt 45 = .ok (.ireturn, 1) := by decide +kernel
theorem dX11_sumOf_0 : decode cX11_sumOf 0 = .ok (.iconst 0, 1) := by decide +kernel
theorem dX11_sumOf_1 : decode cX11_sumOf 1 = .ok (.istore_n 3, 1) := by decide +kernel
theorem dX11_sumOf_2 : decode cX11_sumOf 2 = .ok (.iconst 0, 1) := by decide +kernel
theorem dX11_sumOf_3 : decode cX11_sumOf 3 = .ok (.istore 4, 2) := by decide +kernel
theorem dX11_sumOf_5 : decode cX11_sumOf 5 = .ok (.iload 4, 2) := by decide +kernel
theorem dX11_sumOf_7 : decode cX11_sumOf 7 = .ok (.aload_n 0, 1) := by decide +kernel
theorem dX11_sumOf_8 : decode cX11_sumOf 8 = .ok (.getfield 101, 3) := by decide +kernel
theorem dX11_sumOf_11 : decode cX11_sumOf 11 = .ok (.if_icmp .ge 72, 3) := by decide +kernel
theorem dX11_sumOf_14 : decode cX11_sumOf 14 = .ok (.aload_n 0, 1) := by decide +kernel
theorem dX11_sumOf_15 : decode cX11_sumOf 15 = .ok (.getfield 22, 3) := by decide +kernel
theorem dX11_sumOf_18 : decode cX11_sumOf 18 = .ok (.iload 4, 2) := by decide +kernel
theorem dX11_sumOf_20 : decode cX11_sumOf 20 = .ok (.baload, 1) := by decide +kernel
theorem dX11_sumOf_21 : decode cX11_sumOf 21 = .ok (.ifCond .ne 56, 3) := by decide +kernel
theorem dX11_sumOf_24 : decode cX11_sumOf 24 = .ok (.aload_n 0, 1) := by decide +kernel
theorem dX11_sumOf_25 : decode cX11_sumOf 25 = .ok (.iload 4, 2) := by decide +kernel
theorem dX11_sumOf_27 : decode cX11_sumOf 27 = .ok (.invokevirtual 210, 3) := by decide +kernel
theorem dX11_sumOf_30 : decode cX11_sumOf 30 = .ok (.lstore 5, 2) := by decide +kernel
theorem dX11_sumOf_32 : decode cX11_sumOf 32 = .ok (.lload 5, 2) := by decide +kernel
theorem dX11_sumOf_34 : decode cX11_sumOf 34 = .ok (.lconst 0, 1) := by decide +kernel
theorem dX11_sumOf_35 : decode cX11_sumOf 35 = .ok (.lcmp, 1) := by decide +kernel
theorem dX11_sumOf_36 : decode cX11_sumOf 36 = .ok (.ifCond .le 7, 3) := by decide +kernel
theorem dX11_sumOf_39 : decode cX11_sumOf 39 = .ok (.iconst 0, 1) := by decide +kernel
theorem dX11_sumOf_40 : decode cX11_sumOf 40 = .ok (.goto 15, 3) := by decide +kernel
theorem dX11_sumOf_43 : decode cX11_sumOf 43 = .ok (.lload 5, 2) := by decide +kernel
theorem dX11_sumOf_45 : decode cX11_sumOf 45 = .ok (.lconst 0, 1) := by decide +kernel
theorem dX11_sumOf_46 : decode cX11_sumOf 46 = .ok (.lcmp, 1) := by decide +kernel
theorem dX11_sumOf_47 : decode cX11_sumOf 47 = .ok (.ifCond .ne 7, 3) := by decide +kernel
theorem dX11_sumOf_50 : decode cX11_sumOf 50 = .ok (.iconst 1, 1) := by decide +kernel
theorem dX11_sumOf_51 : decode cX11_sumOf 51 = .ok (.goto 4, 3) := by decide +kernel
theorem dX11_sumOf_54 : decode cX11_sumOf 54 = .ok (.iconst 2, 1) := by decide +kernel
theorem dX11_sumOf_55 : decode cX11_sumOf 55 = .ok (.istore 7, 2) := by decide +kernel
theorem dX11_sumOf_57 : decode cX11_sumOf 57 = .ok (.iload_n 3, 1) := by decide +kernel
theorem dX11_sumOf_58 : decode cX11_sumOf 58 = .ok (.iload 7, 2) := by decide +kernel
theorem dX11_sumOf_60 : decode cX11_sumOf 60 = .ok (.iload_n 2, 1) := by decide +kernel
theorem dX11_sumOf_61 : decode cX11_sumOf 61 = .ok (.if_icmp .ne 13, 3) := by decide +kernel
theorem dX11_sumOf_64 : decode cX11_sumOf 64 = .ok (.aload_n 0, 1) := by decide +kernel
theorem dX11_sumOf_65 : decode cX11_sumOf 65 = .ok (.iload 4, 2) := by decide +kernel
theorem dX11_sumOf_67 : decode cX11_sumOf 67 = .ok (.iload_n 1, 1) := by decide +kernel
theorem dX11_sumOf_68 : decode cX11_sumOf 68 = .ok (.invokevirtual 172, 3) := by decide +kernel
theorem dX11_sumOf_71 : decode cX11_sumOf 71 = .ok (.goto 4, 3) := by decide +kernel
theorem dX11_sumOf_74 : decode cX11_sumOf 74 = .ok (.iconst 0, 1) := by decide +kernel
theorem dX11_sumOf_75 : decode cX11_sumOf 75 = .ok (.iadd, 1) := by decide +kernel
theorem dX11_sumOf_76 : decode cX11_sumOf 76 = .ok (.istore_n 3, 1) := by decide +kernel
theorem dX11_sumOf_77 : decode cX11_sumOf 77 = .ok (.iinc 4 1, 3) := by decide +kernel
theorem dX11_sumOf_80 : decode cX11_sumOf 80 = .ok (.goto (-75), 3) := by decide +kernel
theorem dX11_sumOf_83 : decode cX11_sumOf 83 = .ok (.iload_n 3, 1) := by decide +kernel
theorem dX11_sumOf_84 : decode cX11_sumOf 84 = .ok (.ireturn, 1) := by decide +kernel
theorem dX11_isHalved_0 : decode cX11_isHalved 0 = .ok (.aload_n 0, 1) := by decide +kernel
theorem dX11_isHalved_1 : decode cX11_isHalved 1 = .ok (.iload_n 1, 1) := by decide +kernel
theorem dX11_isHalved_2 : decode cX11_isHalved 2 = .ok (.iconst 0, 1) := by decide +kernel
theorem dX11_isHalved_3 : decode cX11_isHalved 3 = .ok (.invokevirtual 214, 3) := by decide +kernel
theorem dX11_isHalved_6 : decode cX11_isHalved 6 = .ok (.istore_n 2, 1) := by decide +kernel
theorem dX11_isHalved_7 : decode cX11_isHalved 7 = .ok (.aload_n 0, 1) := by decide +kernel
theorem dX11_isHalved_8 : decode cX11_isHalved 8 = .ok (.iload_n 1, 1) := by decide +kernel
theorem dX11_isHalved_9 : decode cX11_isHalved 9 = .ok (.iconst 2, 1) := by decide +kernel
theorem dX11_isHalved_10 : decode cX11_isHalved 10 = .ok (.invokevirtual 214, 3) := by decide +kernel
theorem dX11_isHalved_13 : decode cX11_isHalved 13 = .ok (.istore_n 3, 1) := by decide +kernel
theorem dX11_isHalved_14 : decode cX11_isHalved 14 = .ok (.iload_n 2, 1) := by decide +kernel
theorem dX11_isHalved_15 : decode cX11_isHalved 15 = .ok (.iload_n 3, 1) := by decide +kernel
theorem dX11_isHalved_16 : decode cX11_isHalved 16 = .ok (.iadd, 1) := by decide +kernel
theorem dX11_isHalved_17 : decode cX11_isHalved 17 = .ok (.aload_n 0, 1) := by decide +kernel
theorem dX11_isHalved_18 : decode cX11_isHalved 18 = .ok (.iload_n 1, 1) := by decide +kernel
theorem dX11_isHalved_19 : decode cX11_isHalved 19 = .ok (.iconst 1, 1) := by decide +kernel
theorem dX11_isHalved_20 : decode cX11_isHalved 20 = .ok (.invokevirtual 214, 3) := by decide +kernel
theorem dX11_isHalved_23 : decode cX11_isHalved 23 = .ok (.iadd, 1) := by decide +kernel
theorem dX11_isHalved_24 : decode cX11_isHalved 24 = .ok (.istore 4, 2) := by decide +kernel
theorem dX11_isHalved_26 : decode cX11_isHalved 26 = .ok (.iconst 2, 1) := by decide +kernel
theorem dX11_isHalved_27 : decode cX11_isHalved 27 = .ok (.iload_n 2, 1) := by decide +kernel
theorem dX11_isHalved_28 : decode cX11_isHalved 28 = .ok (.imul, 1) := by decide +kernel
theorem dX11_isHalved_29 : decode cX11_isHalved 29 = .ok (.iload 4, 2) := by decide +kernel
theorem dX11_isHalved_31 : decode cX11_isHalved 31 = .ok (.if_icmp .gt 15, 3) := by decide +kernel
theorem dX11_isHalved_34 : decode cX11_isHalved 34 = .ok (.iconst 2, 1) := by decide +kernel
theorem dX11_isHalved_35 : decode cX11_isHalved 35 = .ok (.iload_n 3, 1) := by decide +kernel
theorem dX11_isHalved_36 : decode cX11_isHalved 36 = .ok (.imul, 1) := by decide +kernel
theorem dX11_isHalved_37 : decode cX11_isHalved 37 = .ok (.iload 4, 2) := by decide +kernel
theorem dX11_isHalved_39 : decode cX11_isHalved 39 = .ok (.if_icmp .gt 7, 3) := by decide +kernel
theorem dX11_isHalved_42 : decode cX11_isHalved 42 = .ok (.iconst 1, 1) := by decide +kernel
theorem dX11_isHalved_43 : decode cX11_isHalved 43 = .ok (.goto 4, 3) := by decide +kernel
theorem dX11_isHalved_46 : decode cX11_isHalved 46 = .ok (.iconst 0, 1) := by decide +kernel
theorem dX11_isHalved_47 : decode cX11_isHalved 47 = .ok (.ireturn, 1) := by decide +kernel
theorem dX11_side_0 : decode cX11_side 0 = .ok (.iload_n 1, 1) := by decide +kernel
theorem dX11_side_1 : decode cX11_side 1 = .ok (.i2l, 1) := by decide +kernel
theorem dX11_side_2 : decode cX11_side 2 = .ok (.lconst 0, 1) := by decide +kernel
theorem dX11_side_3 : decode cX11_side 3 = .ok (.ldc2_w 89, 3) := by decide +kernel
theorem dX11_side_6 : decode cX11_side 6 = .ok (.invokestatic 81, 3) := by decide +kernel
theorem dX11_side_9 : decode cX11_side 9 = .ok (.ifCond .eq 15, 3) := by decide +kernel
theorem dX11_side_12 : decode cX11_side 12 = .ok (.iload_n 2, 1) := by decide +kernel
theorem dX11_side_13 : decode cX11_side 13 = .ok (.i2l, 1) := by decide +kernel
theorem dX11_side_14 : decode cX11_side 14 = .ok (.lconst 0, 1) := by decide +kernel
theorem dX11_side_15 : decode cX11_side 15 = .ok (.ldc2_w 89, 3) := by decide +kernel
theorem dX11_side_18 : decode cX11_side 18 = .ok (.invokestatic 81, 3) := by decide +kernel
theorem dX11_side_21 : decode cX11_side 21 = .ok (.ifCond .ne 6, 3) := by decide +kernel
theorem dX11_side_24 : decode cX11_side 24 = .ok (.ldc 91, 2) := by decide +kernel
theorem dX11_side_26 : decode cX11_side 26 = .ok (.ireturn, 1) := by decide +kernel
theorem dX11_side_27 : decode cX11_side 27 = .ok (.aload_n 0, 1) := by decide +kernel
theorem dX11_side_28 : decode cX11_side 28 = .ok (.invokevirtual 217, 3) := by decide +kernel
theorem dX11_side_31 : decode cX11_side 31 = .ok (.aload_n 0, 1) := by decide +kernel
theorem dX11_side_32 : decode cX11_side 32 = .ok (.iload_n 1, 1) := by decide +kernel
theorem dX11_side_33 : decode cX11_side 33 = .ok (.iload_n 2, 1) := by decide +kernel
theorem dX11_side_34 : decode cX11_side 34 = .ok (.invokevirtual 214, 3) := by decide +kernel
theorem dX11_side_37 : decode cX11_side 37 = .ok (.ireturn, 1) := by decide +kernel
theorem dX11_halves_0 : decode cX11_halves 0 = .ok (.iload_n 1, 1) := by decide +kernel
theorem dX11_halves_1 : decode cX11_halves 1 = .ok (.i2l, 1) := by decide +kernel
theorem dX11_halves_2 : decode cX11_halves 2 = .ok (.lconst 0, 1) := by decide +kernel
theorem dX11_halves_3 : decode cX11_halves 3 = .ok (.ldc2_w 89, 3) := by decide +kernel
theorem dX11_halves_6 : decode cX11_halves 6 = .ok (.invokestatic 81, 3) := by decide +kernel
theorem dX11_halves_9 : decode cX11_halves 9 = .ok (.ifCond .ne 6, 3) := by decide +kernel
theorem dX11_halves_12 : decode cX11_halves 12 = .ok (.ldc 91, 2) := by decide +kernel
theorem dX11_halves_14 : decode cX11_halves 14 = .ok (.ireturn, 1) := by decide +kernel
theorem dX11_halves_15 : decode cX11_halves 15 = .ok (.aload_n 0, 1) := by decide +kernel
theorem dX11_halves_16 : decode cX11_halves 16 = .ok (.invokevirtual 217, 3) := by decide +kernel
theorem dX11_halves_19 : decode cX11_halves 19 = .ok (.aload_n 0, 1) := by decide +kernel
theorem dX11_halves_20 : decode cX11_halves 20 = .ok (.iload_n 1, 1) := by decide +kernel
theorem dX11_halves_21 : decode cX11_halves 21 = .ok (.invokevirtual 220, 3) := by decide +kernel
theorem dX11_halves_24 : decode cX11_halves 24 = .ok (.ifCond .eq 7, 3) := by decide +kernel
theorem dX11_halves_27 : decode cX11_halves 27 = .ok (.iconst 1, 1) := by decide +kernel
theorem dX11_halves_28 : decode cX11_halves 28 = .ok (.goto 4, 3) := by decide +kernel
theorem dX11_halves_31 : decode cX11_halves 31 = .ok (.iconst 0, 1) := by decide +kernel
theorem dX11_halves_32 : decode cX11_halves 32 = .ok (.ireturn, 1) := by decide +kernel
theorem dX11_isFirst_0 : decode cX11_isFirst 0 = .ok (.aload_n 0, 1) := by decide +kernel
theorem dX11_isFirst_1 : decode cX11_isFirst 1 = .ok (.iload_n 1, 1) := by decide +kernel
theorem dX11_isFirst_2 : decode cX11_isFirst 2 = .ok (.iload_n 2, 1) := by decide +kernel
theorem dX11_isFirst_3 : decode cX11_isFirst 3 = .ok (.invokevirtual 203, 3) := by decide +kernel
theorem dX11_isFirst_6 : decode cX11_isFirst 6 = .ok (.iconst 0, 1) := by decide +kernel
theorem dX11_isFirst_7 : decode cX11_isFirst 7 = .ok (.istore_n 3, 1) := by decide +kernel
theorem dX11_isFirst_8 : decode cX11_isFirst 8 = .ok (.iload_n 3, 1) := by decide +kernel
theorem dX11_isFirst_9 : decode cX11_isFirst 9 = .ok (.iload_n 1, 1) := by decide +kernel
theorem dX11_isFirst_10 : decode cX11_isFirst 10 = .ok (.if_icmp .gt 92, 3) := by decide +kernel
theorem dX11_isFirst_13 : decode cX11_isFirst 13 = .ok (.aload_n 0, 1) := by decide +kernel
theorem dX11_isFirst_14 : decode cX11_isFirst 14 = .ok (.getfield 22, 3) := by decide +kernel
theorem dX11_isFirst_17 : decode cX11_isFirst 17 = .ok (.iload_n 3, 1) := by decide +kernel
theorem dX11_isFirst_18 : decode cX11_isFirst 18 = .ok (.baload, 1) := by decide +kernel
theorem dX11_isFirst_19 : decode cX11_isFirst 19 = .ok (.ifCond .ne 77, 3) := by decide +kernel
theorem dX11_isFirst_22 : decode cX11_isFirst 22 = .ok (.aload_n 0, 1) := by decide +kernel
theorem dX11_isFirst_23 : decode cX11_isFirst 23 = .ok (.iload_n 3, 1) := by decide +kernel
theorem dX11_isFirst_24 : decode cX11_isFirst 24 = .ok (.invokevirtual 210, 3) := by decide +kernel
theorem dX11_isFirst_27 : decode cX11_isFirst 27 = .ok (.lconst 0, 1) := by decide +kernel
theorem dX11_isFirst_28 : decode cX11_isFirst 28 = .ok (.lcmp, 1) := by decide +kernel
theorem dX11_isFirst_29 : decode cX11_isFirst 29 = .ok (.ifCond .ne 67, 3) := by decide +kernel
theorem dX11_isFirst_32 : decode cX11_isFirst 32 = .ok (.iload_n 3, 1) := by decide +kernel
theorem dX11_isFirst_33 : decode cX11_isFirst 33 = .ok (.iconst 1, 1) := by decide +kernel
theorem dX11_isFirst_34 : decode cX11_isFirst 34 = .ok (.iadd, 1) := by decide +kernel
theorem dX11_isFirst_35 : decode cX11_isFirst 35 = .ok (.istore 4, 2) := by decide +kernel
theorem dX11_isFirst_37 : decode cX11_isFirst 37 = .ok (.iload 4, 2) := by decide +kernel
theorem dX11_isFirst_39 : decode cX11_isFirst 39 = .ok (.aload_n 0, 1) := by decide +kernel
theorem dX11_isFirst_40 : decode cX11_isFirst 40 = .ok (.getfield 101, 3) := by decide +kernel
theorem dX11_isFirst_43 : decode cX11_isFirst 43 = .ok (.if_icmp .ge 53, 3) := by decide +kernel
theorem dX11_isFirst_46 : decode cX11_isFirst 46 = .ok (.iload_n 3, 1) := by decide +kernel
theorem dX11_isFirst_47 : decode cX11_isFirst 47 = .ok (.iload_n 1, 1) := by decide +kernel
theorem dX11_isFirst_48 : decode cX11_isFirst 48 = .ok (.if_icmp .lt 9, 3) := by decide +kernel
theorem dX11_isFirst_51 : decode cX11_isFirst 51 = .ok (.iload 4, 2) := by decide +kernel
theorem dX11_isFirst_53 : decode cX11_isFirst 53 = .ok (.iload_n 2, 1) := by decide +kernel
theorem dX11_isFirst_54 : decode cX11_isFirst 54 = .ok (.if_icmp .ge 36, 3) := by decide +kernel
theorem dX11_isFirst_57 : decode cX11_isFirst 57 = .ok (.aload_n 0, 1) := by decide +kernel
theorem dX11_isFirst_58 : decode cX11_isFirst 58 = .ok (.getfield 22, 3) := by decide +kernel
theorem dX11_isFirst_61 : decode cX11_isFirst 61 = .ok (.iload 4, 2) := by decide +kernel
theorem dX11_isFirst_63 : decode cX11_isFirst 63 = .ok (.baload, 1) := by decide +kernel
theorem dX11_isFirst_64 : decode cX11_isFirst 64 = .ok (.ifCond .ne 26, 3) := by decide +kernel
theorem dX11_isFirst_67 : decode cX11_isFirst 67 = .ok (.aload_n 0, 1) := by decide +kernel
theorem dX11_isFirst_68 : decode cX11_isFirst 68 = .ok (.iload 4, 2) := by decide +kernel
theorem dX11_isFirst_70 : decode cX11_isFirst 70 = .ok (.invokevirtual 210, 3) := by decide +kernel
theorem dX11_isFirst_73 : decode cX11_isFirst 73 = .ok (.lconst 0, 1) := by decide +kernel
theorem dX11_isFirst_74 : decode cX11_isFirst 74 = .ok (.lcmp, 1) := by decide +kernel
theorem dX11_isFirst_75 : decode cX11_isFirst 75 = .ok (.ifCond .ne 15, 3) := by decide +kernel
theorem dX11_isFirst_78 : decode cX11_isFirst 78 = .ok (.aload_n 0, 1) := by decide +kernel
theorem dX11_isFirst_79 : decode cX11_isFirst 79 = .ok (.iload_n 3, 1) := by decide +kernel
theorem dX11_isFirst_80 : decode cX11_isFirst 80 = .ok (.iload 4, 2) := by decide +kernel
theorem dX11_isFirst_82 : decode cX11_isFirst 82 = .ok (.invokevirtual 200, 3) := by decide +kernel
theorem dX11_isFirst_85 : decode cX11_isFirst 85 = .ok (.ifCond .eq 5, 3) := by decide +kernel
theorem dX11_isFirst_88 : decode cX11_isFirst 88 = .ok (.iconst 0, 1) := by decide +kernel
theorem dX11_isFirst_89 : decode cX11_isFirst 89 = .ok (.ireturn, 1) := by decide +kernel
theorem dX11_isFirst_90 : decode cX11_isFirst 90 = .ok (.iinc 4 1, 3) := by decide +kernel
theorem dX11_isFirst_93 : decode cX11_isFirst 93 = .ok (.goto (-56), 3) := by decide +kernel
theorem dX11_isFirst_96 : decode cX11_isFirst 96 = .ok (.iinc 3 1, 3) := by decide +kernel
theorem dX11_isFirst_99 : decode cX11_isFirst 99 = .ok (.goto (-91), 3) := by decide +kernel
theorem dX11_isFirst_102 : decode cX11_isFirst 102 = .ok (.iconst 1, 1) := by decide +kernel
theorem dX11_isFirst_103 : decode cX11_isFirst 103 = .ok (.ireturn, 1) := by decide +kernel
theorem dX11_firstThere_0 : decode cX11_firstThere 0 = .ok (.iconst 0, 1) := by decide +kernel
theorem dX11_firstThere_1 : decode cX11_firstThere 1 = .ok (.istore_n 1, 1) := by decide +kernel
theorem dX11_firstThere_2 : decode cX11_firstThere 2 = .ok (.iload_n 1, 1) := by decide +kernel
theorem dX11_firstThere_3 : decode cX11_firstThere 3 = .ok (.aload_n 0, 1) := by decide +kernel
theorem dX11_firstThere_4 : decode cX11_firstThere 4 = .ok (.getfield 101, 3) := by decide +kernel
theorem dX11_firstThere_7 : decode cX11_firstThere 7 = .ok (.if_icmp .ge 18, 3) := by decide +kernel
theorem dX11_firstThere_10 : decode cX11_firstThere 10 = .ok (.aload_n 0, 1) := by decide +kernel
theorem dX11_firstThere_11 : decode cX11_firstThere 11 = .ok (.getfield 22, 3) := by decide +kernel
theorem dX11_firstThere_14 : decode cX11_firstThere 14 = .ok (.iload_n 1, 1) := by decide +kernel
theorem dX11_firstThere_15 : decode cX11_firstThere 15 = .ok (.baload, 1) := by decide +kernel
theorem dX11_firstThere_16 : decode cX11_firstThere 16 = .ok (.ifCond .eq 9, 3) := by decide +kernel
theorem dX11_firstThere_19 : decode cX11_firstThere 19 = .ok (.iinc 1 1, 3) := by decide +kernel
theorem dX11_firstThere_22 : decode cX11_firstThere 22 = .ok (.goto (-20), 3) := by decide +kernel
theorem dX11_firstThere_25 : decode cX11_firstThere 25 = .ok (.iload_n 1, 1) := by decide +kernel
theorem dX11_firstThere_26 : decode cX11_firstThere 26 = .ok (.aload_n 0, 1) := by decide +kernel
theorem dX11_firstThere_27 : decode cX11_firstThere 27 = .ok (.getfield 101, 3) := by decide +kernel
theorem dX11_firstThere_30 : decode cX11_firstThere 30 = .ok (.if_icmp .ge 7, 3) := by decide +kernel
theorem dX11_firstThere_33 : decode cX11_firstThere 33 = .ok (.iload_n 1, 1) := by decide +kernel
theorem dX11_firstThere_34 : decode cX11_firstThere 34 = .ok (.goto 5, 3) := by decide +kernel
theorem dX11_firstThere_37 : decode cX11_firstThere 37 = .ok (.ldc 26, 2) := by decide +kernel
theorem dX11_firstThere_39 : decode cX11_firstThere 39 = .ok (.ireturn, 1) := by decide +kernel
theorem dX11_findFurrow_0 : decode cX11_findFurrow 0 = .ok (.iconst 0, 1) := by decide +kernel
theorem dX11_findFurrow_1 : decode cX11_findFurrow 1 = .ok (.istore_n 2, 1) := by decide +kernel
theorem dX11_findFurrow_2 : decode cX11_findFurrow 2 = .ok (.iconst 1, 1) := by decide +kernel
theorem dX11_findFurrow_3 : decode cX11_findFurrow 3 = .ok (.istore_n 3, 1) := by decide +kernel
theorem dX11_findFurrow_4 : decode cX11_findFurrow 4 = .ok (.iconst 0, 1) := by decide +kernel
theorem dX11_findFurrow_5 : decode cX11_findFurrow 5 = .ok (.istore 4, 2) := by decide +kernel
theorem dX11_findFurrow_7 : decode cX11_findFurrow 7 = .ok (.iload 4, 2) := by decide +kernel
theorem dX11_findFurrow_9 : decode cX11_findFurrow 9 = .ok (.aload_n 0, 1) := by decide +kernel
theorem dX11_findFurrow_10 : decode cX11_findFurrow 10 = .ok (.getfield 101, 3) := by decide +kernel
theorem dX11_findFurrow_13 : decode cX11_findFurrow 13 = .ok (.if_icmp .ge 102, 3) := by decide +kernel
theorem dX11_findFurrow_16 : decode cX11_findFurrow 16 = .ok (.iload 4, 2) := by decide +kernel
theorem dX11_findFurrow_18 : decode cX11_findFurrow 18 = .ok (.iconst 1, 1) := by decide +kernel
theorem dX11_findFurrow_19 : decode cX11_findFurrow 19 = .ok (.iadd, 1) := by decide +kernel
theorem dX11_findFurrow_20 : decode cX11_findFurrow 20 = .ok (.istore 5, 2) := by decide +kernel
theorem dX11_findFurrow_22 : decode cX11_findFurrow 22 = .ok (.iload 5, 2) := by decide +kernel
theorem dX11_findFurrow_24 : decode cX11_findFurrow 24 = .ok (.aload_n 0, 1) := by decide +kernel
theorem dX11_findFurrow_25 : decode cX11_findFurrow 25 = .ok (.getfield 101, 3) := by decide +kernel
theorem dX11_findFurrow_28 : decode cX11_findFurrow 28 = .ok (.if_icmp .ge 81, 3) := by decide +kernel
theorem dX11_findFurrow_31 : decode cX11_findFurrow 31 = .ok (.aload_n 0, 1) := by decide +kernel
theorem dX11_findFurrow_32 : decode cX11_findFurrow 32 = .ok (.getfield 22, 3) := by decide +kernel
theorem dX11_findFurrow_35 : decode cX11_findFurrow 35 = .ok (.iload 4, 2) := by decide +kernel
theorem dX11_findFurrow_37 : decode cX11_findFurrow 37 = .ok (.baload, 1) := by decide +kernel
theorem dX11_findFurrow_38 : decode cX11_findFurrow 38 = .ok (.ifCond .ne 71, 3) := by decide +kernel
theorem dX11_findFurrow_41 : decode cX11_findFurrow 41 = .ok (.aload_n 0, 1) := by decide +kernel
theorem dX11_findFurrow_42 : decode cX11_findFurrow 42 = .ok (.getfield 22, 3) := by decide +kernel
theorem dX11_findFurrow_45 : decode cX11_findFurrow 45 = .ok (.iload 5, 2) := by decide +kernel
theorem dX11_findFurrow_47 : decode cX11_findFurrow 47 = .ok (.baload, 1) := by decide +kernel
theorem dX11_findFurrow_48 : decode cX11_findFurrow 48 = .ok (.ifCond .ne 55, 3) := by decide +kernel
theorem dX11_findFurrow_51 : decode cX11_findFurrow 51 = .ok (.aload_n 0, 1) := by decide +kernel
theorem dX11_findFurrow_52 : decode cX11_findFurrow 52 = .ok (.iload 4, 2) := by decide +kernel
theorem dX11_findFurrow_54 : decode cX11_findFurrow 54 = .ok (.iload 5, 2) := by decide +kernel
theorem dX11_findFurrow_56 : decode cX11_findFurrow 56 = .ok (.invokevirtual 200, 3) := by decide +kernel
theorem dX11_findFurrow_59 : decode cX11_findFurrow 59 = .ok (.ifCond .eq 44, 3) := by decide +kernel
theorem dX11_findFurrow_62 : decode cX11_findFurrow 62 = .ok (.iconst 0, 1) := by decide +kernel
theorem dX11_findFurrow_63 : decode cX11_findFurrow 63 = .ok (.istore_n 3, 1) := by decide +kernel
theorem dX11_findFurrow_64 : decode cX11_findFurrow 64 = .ok (.aload_n 0, 1) := by decide +kernel
theorem dX11_findFurrow_65 : decode cX11_findFurrow 65 = .ok (.iload 4, 2) := by decide +kernel
theorem dX11_findFurrow_67 : decode cX11_findFurrow 67 = .ok (.iload 5, 2) := by decide +kernel
theorem dX11_findFurrow_69 : decode cX11_findFurrow 69 = .ok (.invokevirtual 223, 3) := by decide +kernel
theorem dX11_findFurrow_72 : decode cX11_findFurrow 72 = .ok (.ifCond .eq 31, 3) := by decide +kernel
theorem dX11_findFurrow_75 : decode cX11_findFurrow 75 = .ok (.aload_n 0, 1) := by decide +kernel
theorem dX11_findFurrow_76 : decode cX11_findFurrow 76 = .ok (.iconst 0, 1) := by decide +kernel
theorem dX11_findFurrow_77 : decode cX11_findFurrow 77 = .ok (.invokevirtual 220, 3) := by decide +kernel
theorem dX11_findFurrow_80 : decode cX11_findFurrow 80 = .ok (.ifCond .eq 23, 3) := by decide +kernel
theorem dX11_findFurrow_83 : decode cX11_findFurrow 83 = .ok (.aload_n 0, 1) := by decide +kernel
theorem dX11_findFurrow_84 : decode cX11_findFurrow 84 = .ok (.iconst 1, 1) := by decide +kernel
theorem dX11_findFurrow_85 : decode cX11_findFurrow 85 = .ok (.invokevirtual 220, 3) := by decide +kernel
theorem dX11_findFurrow_88 : decode cX11_findFurrow 88 = .ok (.ifCond .eq 15, 3) := by decide +kernel
theorem dX11_findFurrow_91 : decode cX11_findFurrow 91 = .ok (.iload_n 2, 1) := by decide +kernel
theorem dX11_findFurrow_92 : decode cX11_findFurrow 92 = .ok (.iload_n 1, 1) := by decide +kernel
theorem dX11_findFurrow_93 : decode cX11_findFurrow 93 = .ok (.if_icmp .ne 7, 3) := by decide +kernel
theorem dX11_findFurrow_96 : decode cX11_findFurrow 96 = .ok (.iload_n 2, 1) := by decide +kernel
theorem dX11_findFurrow_97 : decode cX11_findFurrow 97 = .ok (.iconst 1, 1) := by decide +kernel
theorem dX11_findFurrow_98 : decode cX11_findFurrow 98 = .ok (.iadd, 1) := by decide +kernel
theorem dX11_findFurrow_99 : decode cX11_findFurrow 99 = .ok (.ireturn, 1) := by decide +kernel
theorem dX11_findFurrow_100 : decode cX11_findFurrow 100 = .ok (.iinc 2 1, 3) := by decide +kernel
theorem dX11_findFurrow_103 : decode cX11_findFurrow 103 = .ok (.iinc 5 1, 3) := by decide +kernel
theorem dX11_findFurrow_106 : decode cX11_findFurrow 106 = .ok (.goto (-84), 3) := by decide +kernel
theorem dX11_findFurrow_109 : decode cX11_findFurrow 109 = .ok (.iinc 4 1, 3) := by decide +kernel
theorem dX11_findFurrow_112 : decode cX11_findFurrow 112 = .ok (.goto (-105), 3) := by decide +kernel
theorem dX11_findFurrow_115 : decode cX11_findFurrow 115 = .ok (.iload_n 3, 1) := by decide +kernel
theorem dX11_findFurrow_116 : decode cX11_findFurrow 116 = .ok (.ifCond .eq 30, 3) := by decide +kernel
theorem dX11_findFurrow_119 : decode cX11_findFurrow 119 = .ok (.aload_n 0, 1) := by decide +kernel
theorem dX11_findFurrow_120 : decode cX11_findFurrow 120 = .ok (.lconst 0, 1) := by decide +kernel
theorem dX11_findFurrow_121 : decode cX11_findFurrow 121 = .ok (.putfield 191, 3) := by decide +kernel
theorem dX11_findFurrow_124 : decode cX11_findFurrow 124 = .ok (.aload_n 0, 1) := by decide +kernel
theorem dX11_findFurrow_125 : decode cX11_findFurrow 125 = .ok (.lconst 1, 1) := by decide +kernel
theorem dX11_findFurrow_126 : decode cX11_findFurrow 126 = .ok (.putfield 194, 3) := by decide +kernel
theorem dX11_findFurrow_129 : decode cX11_findFurrow 129 = .ok (.aload_n 0, 1) := by decide +kernel
theorem dX11_findFurrow_130 : decode cX11_findFurrow 130 = .ok (.aload_n 0, 1) := by decide +kernel
theorem dX11_findFurrow_131 : decode cX11_findFurrow 131 = .ok (.getfield 13, 3) := by decide +kernel
theorem dX11_findFurrow_134 : decode cX11_findFurrow 134 = .ok (.aload_n 0, 1) := by decide +kernel
theorem dX11_findFurrow_135 : decode cX11_findFurrow 135 = .ok (.invokevirtual 226, 3) := by decide +kernel
theorem dX11_findFurrow_138 : decode cX11_findFurrow 138 = .ok (.iaload, 1) := by decide +kernel
theorem dX11_findFurrow_139 : decode cX11_findFurrow 139 = .ok (.ineg, 1) := by decide +kernel
theorem dX11_findFurrow_140 : decode cX11_findFurrow 140 = .ok (.i2l, 1) := by decide +kernel
theorem dX11_findFurrow_141 : decode cX11_findFurrow 141 = .ok (.putfield 197, 3) := by decide +kernel
theorem dX11_findFurrow_144 : decode cX11_findFurrow 144 = .ok (.iconst 1, 1) := by decide +kernel
theorem dX11_findFurrow_145 : decode cX11_findFurrow 145 = .ok (.istore_n 2, 1) := by decide +kernel
theorem dX11_findFurrow_146 : decode cX11_findFurrow 146 = .ok (.iload_n 2, 1) := by decide +kernel
theorem dX11_findFurrow_147 : decode cX11_findFurrow 147 = .ok (.ireturn, 1) := by decide +kernel
theorem dX11_furrow_0 : decode cX11_furrow 0 = .ok (.iload_n 1, 1) := by decide +kernel
theorem dX11_furrow_1 : decode cX11_furrow 1 = .ok (.ifCond .ge 6, 3) := by decide +kernel
theorem dX11_furrow_4 : decode cX11_furrow 4 = .ok (.ldc 91, 2) := by decide +kernel
theorem dX11_furrow_6 : decode cX11_furrow 6 = .ok (.ireturn, 1) := by decide +kernel
theorem dX11_furrow_7 : decode cX11_furrow 7 = .ok (.aload_n 0, 1) := by decide +kernel
theorem dX11_furrow_8 : decode cX11_furrow 8 = .ok (.invokevirtual 134, 3) := by decide +kernel
theorem dX11_furrow_11 : decode cX11_furrow 11 = .ok (.ifCond .ne 6, 3) := by decide +kernel
theorem dX11_furrow_14 : decode cX11_furrow 14 = .ok (.ldc 176, 2) := by decide +kernel
theorem dX11_furrow_16 : decode cX11_furrow 16 = .ok (.ireturn, 1) := by decide +kernel
theorem dX11_furrow_17 : decode cX11_furrow 17 = .ok (.aload_n 0, 1) := by decide +kernel
theorem dX11_furrow_18 : decode cX11_furrow 18 = .ok (.iload_n 1, 1) := by decide +kernel
theorem dX11_furrow_19 : decode cX11_furrow 19 = .ok (.invokevirtual 229, 3) := by decide +kernel
theorem dX11_furrow_22 : decode cX11_furrow 22 = .ok (.iload_n 1, 1) := by decide +kernel
theorem dX11_furrow_23 : decode cX11_furrow 23 = .ok (.if_icmp .gt 5, 3) := by decide +kernel
theorem dX11_furrow_26 : decode cX11_furrow 26 = .ok (.iconst 0, 1) := by decide +kernel
theorem dX11_furrow_27 : decode cX11_furrow 27 = .ok (.ireturn, 1) := by decide +kernel
theorem dX11_furrow_28 : decode cX11_furrow 28 = .ok (.aload_n 0, 1) := by decide +kernel
theorem dX11_furrow_29 : decode cX11_furrow 29 = .ok (.invokevirtual 207, 3) := by decide +kernel
theorem dX11_furrow_32 : decode cX11_furrow 32 = .ok (.iconst 1, 1) := by decide +kernel
theorem dX11_furrow_33 : decode cX11_furrow 33 = .ok (.ireturn, 1) := by decide +kernel
theorem dX11_furrows_0 : decode cX11_furrows 0 = .ok (.aload_n 0, 1) := by decide +kernel
theorem dX11_furrows_1 : decode cX11_furrows 1 = .ok (.invokevirtual 134, 3) := by decide +kernel
theorem dX11_furrows_4 : decode cX11_furrows 4 = .ok (.ifCond .ne 8, 3) := by decide +kernel
theorem dX11_furrows_7 : decode cX11_furrows 7 = .ok (.ldc 176, 2) := by decide +kernel
theorem dX11_furrows_9 : decode cX11_furrows 9 = .ok (.goto 8, 3) := by decide +kernel
theorem dX11_furrows_12 : decode cX11_furrows 12 = .ok (.aload_n 0, 1) := by decide +kernel
theorem dX11_furrows_13 : decode cX11_furrows 13 = .ok (.iconst (-1), 1) := by decide +kernel
theorem dX11_furrows_14 : decode cX11_furrows 14 = .ok (.invokevirtual 229, 3) := by decide +kernel
theorem dX11_furrows_17 : decode cX11_furrows 17 = .ok (.ireturn, 1) := by decide +kernel
theorem dX11_sumBeyond_0 : decode cX11_sumBeyond 0 = .ok (.iconst 0, 1) := by decide +kernel
theorem dX11_sumBeyond_1 : decode cX11_sumBeyond 1 = .ok (.istore 10, 2) := by decide +kernel
theorem dX11_sumBeyond_3 : decode cX11_sumBeyond 3 = .ok (.iconst 0, 1) := by decide +kernel
theorem dX11_sumBeyond_4 : decode cX11_sumBeyond 4 = .ok (.istore 11, 2) := by decide +kernel
theorem dX11_sumBeyond_6 : decode cX11_sumBeyond 6 = .ok (.iload 11, 2) := by decide +kernel
theorem dX11_sumBeyond_8 : decode cX11_sumBeyond 8 = .ok (.iload_n 1, 1) := by decide +kernel
theorem dX11_sumBeyond_9 : decode cX11_sumBeyond 9 = .ok (.if_icmp .ge 127, 3) := by decide +kernel
theorem dX11_sumBeyond_12 : decode cX11_sumBeyond 12 = .ok (.lload_n 2, 1) := by decide +kernel
theorem dX11_sumBeyond_13 : decode cX11_sumBeyond 13 = .ok (.aload_n 0, 1) := by decide +kernel
theorem dX11_sumBeyond_14 : decode cX11_sumBeyond 14 = .ok (.getfield 51, 3) := by decide +kernel
theorem dX11_sumBeyond_17 : decode cX11_sumBeyond 17 = .ok (.iload 11, 2) := by decide +kernel
theorem dX11_sumBeyond_19 : decode cX11_sumBeyond 19 = .ok (.laload, 1) := by decide +kernel
theorem dX11_sumBeyond_20 : decode cX11_sumBeyond 20 = .ok (.lmul, 1) := by decide +kernel
theorem dX11_sumBeyond_21 : decode cX11_sumBeyond 21 = .ok (.lload 4, 2) := by decide +kernel
theorem dX11_sumBeyond_23 : decode cX11_sumBeyond 23 = .ok (.aload_n 0, 1) := by decide +kernel
theorem dX11_sumBeyond_24 : decode cX11_sumBeyond 24 = .ok (.getfield 54, 3) := by decide +kernel
theorem dX11_sumBeyond_27 : decode cX11_sumBeyond 27 = .ok (.iload 11, 2) := by decide +kernel
theorem dX11_sumBeyond_29 : decode cX11_sumBeyond 29 = .ok (.laload, 1) := by decide +kernel
theorem dX11_sumBeyond_30 : decode cX11_sumBeyond 30 = .ok (.lmul, 1) := by decide +kernel
theorem dX11_sumBeyond_31 : decode cX11_sumBeyond 31 = .ok (.ladd, 1) := by decide +kernel
theorem dX11_sumBeyond_32 : decode cX11_sumBeyond 32 = .ok (.lstore 12, 2) := by decide +kernel
theorem dX11_sumBeyond_34 : decode cX11_sumBeyond 34 = .ok (.lload 6, 2) := by decide +kernel
theorem dX11_sumBeyond_36 : decode cX11_sumBeyond 36 = .ok (.aload_n 0, 1) := by decide +kernel
theorem dX11_sumBeyond_37 : decode cX11_sumBeyond 37 = .ok (.getfield 51, 3) := by decide +kernel
theorem dX11_sumBeyond_40 : decode cX11_sumBeyond 40 = .ok (.iload 11, 2) := by decide +kernel
theorem dX11_sumBeyond_42 : decode cX11_sumBeyond 42 = .ok (.laload, 1) := by decide +kernel
theorem dX11_sumBeyond_43 : decode cX11_sumBeyond 43 = .ok (.lmul, 1) := by decide +kernel
theorem dX11_sumBeyond_44 : decode cX11_sumBeyond 44 = .ok (.lload 8, 2) := by decide +kernel
theorem dX11_sumBeyond_46 : decode cX11_sumBeyond 46 = .ok (.aload_n 0, 1) := by decide +kernel
theorem dX11_sumBeyond_47 : decode cX11_sumBeyond 47 = .ok (.getfield 54, 3) := by decide +kernel
theorem dX11_sumBeyond_50 : decode cX11_sumBeyond 50 = .ok (.iload 11, 2) := by decide +kernel
theorem dX11_sumBeyond_52 : decode cX11_sumBeyond 52 = .ok (.laload, 1) := by decide +kernel
theorem dX11_sumBeyond_53 : decode cX11_sumBeyond 53 = .ok (.lmul, 1) := by decide +kernel
theorem dX11_sumBeyond_54 : decode cX11_sumBeyond 54 = .ok (.ladd, 1) := by decide +kernel
theorem dX11_sumBeyond_55 : decode cX11_sumBeyond 55 = .ok (.lstore 14, 2) := by decide +kernel
theorem dX11_sumBeyond_57 : decode cX11_sumBeyond 57 = .ok (.aload_n 0, 1) := by decide +kernel
theorem dX11_sumBeyond_58 : decode cX11_sumBeyond 58 = .ok (.getfield 51, 3) := by decide +kernel
theorem dX11_sumBeyond_61 : decode cX11_sumBeyond 61 = .ok (.iload 11, 2) := by decide +kernel
theorem dX11_sumBeyond_63 : decode cX11_sumBeyond 63 = .ok (.laload, 1) := by decide +kernel
theorem dX11_sumBeyond_64 : decode cX11_sumBeyond 64 = .ok (.lconst 0, 1) := by decide +kernel
theorem dX11_sumBeyond_65 : decode cX11_sumBeyond 65 = .ok (.lcmp, 1) := by decide +kernel
theorem dX11_sumBeyond_66 : decode cX11_sumBeyond 66 = .ok (.ifCond .ne 19, 3) := by decide +kernel
theorem dX11_sumBeyond_69 : decode cX11_sumBeyond 69 = .ok (.aload_n 0, 1) := by decide +kernel
theorem dX11_sumBeyond_70 : decode cX11_sumBeyond 70 = .ok (.getfield 54, 3) := by decide +kernel
theorem dX11_sumBeyond_73 : decode cX11_sumBeyond 73 = .ok (.iload 11, 2) := by decide +kernel
theorem dX11_sumBeyond_75 : decode cX11_sumBeyond 75 = .ok (.laload, 1) := by decide +kernel
theorem dX11_sumBeyond_76 : decode cX11_sumBeyond 76 = .ok (.lconst 0, 1) := by decide +kernel
theorem dX11_sumBeyond_77 : decode cX11_sumBeyond 77 = .ok (.lcmp, 1) := by decide +kernel
theorem dX11_sumBeyond_78 : decode cX11_sumBeyond 78 = .ok (.ifCond .ne 7, 3) := by decide +kernel
theorem dX11_sumBeyond_81 : decode cX11_sumBeyond 81 = .ok (.iconst 1, 1) := by decide +kernel
theorem dX11_sumBeyond_82 : decode cX11_sumBeyond 82 = .ok (.goto 4, 3) := by decide +kernel
theorem dX11_sumBeyond_85 : decode cX11_sumBeyond 85 = .ok (.iconst 0, 1) := by decide +kernel
theorem dX11_sumBeyond_86 : decode cX11_sumBeyond 86 = .ok (.istore 16, 2) := by decide +kernel
theorem dX11_sumBeyond_88 : decode cX11_sumBeyond 88 = .ok (.iload 10, 2) := by decide +kernel
theorem dX11_sumBeyond_90 : decode cX11_sumBeyond 90 = .ok (.iload 16, 2) := by decide +kernel
theorem dX11_sumBeyond_92 : decode cX11_sumBeyond 92 = .ok (.ifCond .ne 24, 3) := by decide +kernel
theorem dX11_sumBeyond_95 : decode cX11_sumBeyond 95 = .ok (.lload 12, 2) := by decide +kernel
theorem dX11_sumBeyond_97 : decode cX11_sumBeyond 97 = .ok (.lconst 0, 1) := by decide +kernel
theorem dX11_sumBeyond_98 : decode cX11_sumBeyond 98 = .ok (.lcmp, 1) := by decide +kernel
theorem dX11_sumBeyond_99 : decode cX11_sumBeyond 99 = .ok (.ifCond .gt 17, 3) := by decide +kernel
theorem dX11_sumBeyond_102 : decode cX11_sumBeyond 102 = .ok (.lload 12, 2) := by decide +kernel
theorem dX11_sumBeyond_104 : decode cX11_sumBeyond 104 = .ok (.lconst 0, 1) := by decide +kernel
theorem dX11_sumBeyond_105 : decode cX11_sumBeyond 105 = .ok (.lcmp, 1) := by decide +kernel
theorem dX11_sumBeyond_106 : decode cX11_sumBeyond 106 = .ok (.ifCond .ne 20, 3) := by decide +kernel
theorem dX11_sumBeyond_109 : decode cX11_sumBeyond 109 = .ok (.lload 14, 2) := by decide +kernel
theorem dX11_sumBeyond_111 : decode cX11_sumBeyond 111 = .ok (.lconst 0, 1) := by decide +kernel
theorem dX11_sumBeyond_112 : decode cX11_sumBeyond 112 = .ok (.lcmp, 1) := by decide +kernel
theorem dX11_sumBeyond_113 : decode cX11_sumBeyond 113 = .ok (.ifCond .le 13, 3) := by decide +kernel
theorem dX11_sumBeyond_116 : decode cX11_sumBeyond 116 = .ok (.aload_n 0, 1) := by decide +kernel
theorem dX11_sumBeyond_117 : decode cX11_sumBeyond 117 = .ok (.getfield 57, 3) := by decide +kernel
theorem dX11_sumBeyond_120 : decode cX11_sumBeyond 120 = .ok (.iload 11, 2) := by decide +kernel
theorem dX11_sumBeyond_122 : decode cX11_sumBeyond 122 = .ok (.iaload, 1) := by decide +kernel
theorem dX11_sumBeyond_123 : decode cX11_sumBeyond 123 = .ok (.goto 4, 3) := by decide +kernel
theorem dX11_sumBeyond_126 : decode cX11_sumBeyond 126 = .ok (.iconst 0, 1) := by decide +kernel
theorem dX11_sumBeyond_127 : decode cX11_sumBeyond 127 = .ok (.iadd, 1) := by decide +kernel
theorem dX11_sumBeyond_128 : decode cX11_sumBeyond 128 = .ok (.istore 10, 2) := by decide +kernel
theorem dX11_sumBeyond_130 : decode cX11_sumBeyond 130 = .ok (.iinc 11 1, 3) := by decide +kernel
theorem dX11_sumBeyond_133 : decode cX11_sumBeyond 133 = .ok (.goto (-127), 3) := by decide +kernel
theorem dX11_sumBeyond_136 : decode cX11_sumBeyond 136 = .ok (.iload 10, 2) := by decide +kernel
theorem dX11_sumBeyond_138 : decode cX11_sumBeyond 138 = .ok (.ireturn, 1) := by decide +kernel
theorem dX11_depthOf_0 : decode cX11_depthOf 0 = .ok (.iconst 0, 1) := by decide +kernel
theorem dX11_depthOf_1 : decode cX11_depthOf 1 = .ok (.istore 7, 2) := by decide +kernel
theorem dX11_depthOf_3 : decode cX11_depthOf 3 = .ok (.iconst 0, 1) := by decide +kernel
theorem dX11_depthOf_4 : decode cX11_depthOf 4 = .ok (.istore 8, 2) := by decide +kernel
theorem dX11_depthOf_6 : decode cX11_depthOf 6 = .ok (.iconst 0, 1) := by decide +kernel
theorem dX11_depthOf_7 : decode cX11_depthOf 7 = .ok (.istore 9, 2) := by decide +kernel
theorem dX11_depthOf_9 : decode cX11_depthOf 9 = .ok (.iload 9, 2) := by decide +kernel
theorem dX11_depthOf_11 : decode cX11_depthOf 11 = .ok (.aload_n 0, 1) := by decide +kernel
theorem dX11_depthOf_12 : decode cX11_depthOf 12 = .ok (.getfield 101, 3) := by decide +kernel
theorem dX11_depthOf_15 : decode cX11_depthOf 15 = .ok (.if_icmp .ge 87, 3) := by decide +kernel
theorem dX11_depthOf_18 : decode cX11_depthOf 18 = .ok (.aload_n 0, 1) := by decide +kernel
theorem dX11_depthOf_19 : decode cX11_depthOf 19 = .ok (.getfield 22, 3) := by decide +kernel
theorem dX11_depthOf_22 : decode cX11_depthOf 22 = .ok (.iload 9, 2) := by decide +kernel
theorem dX11_depthOf_24 : decode cX11_depthOf 24 = .ok (.baload, 1) := by decide +kernel
theorem dX11_depthOf_25 : decode cX11_depthOf 25 = .ok (.ifCond .ne 71, 3) := by decide +kernel
theorem dX11_depthOf_28 : decode cX11_depthOf 28 = .ok (.aload_n 0, 1) := by decide +kernel
theorem dX11_depthOf_29 : decode cX11_depthOf 29 = .ok (.getfield 51, 3) := by decide +kernel
theorem dX11_depthOf_32 : decode cX11_depthOf 32 = .ok (.iload 7, 2) := by decide +kernel
theorem dX11_depthOf_34 : decode cX11_depthOf 34 = .ok (.aload_n 0, 1) := by decide +kernel
theorem dX11_depthOf_35 : decode cX11_depthOf 35 = .ok (.getfield 7, 3) := by decide +kernel
theorem dX11_depthOf_38 : decode cX11_depthOf 38 = .ok (.iload 9, 2) := by decide +kernel
theorem dX11_depthOf_40 : decode cX11_depthOf 40 = .ok (.iaload, 1) := by decide +kernel
theorem dX11_depthOf_41 : decode cX11_depthOf 41 = .ok (.i2l, 1) := by decide +kernel
theorem dX11_depthOf_42 : decode cX11_depthOf 42 = .ok (.lload 5, 2) := by decide +kernel
theorem dX11_depthOf_44 : decode cX11_depthOf 44 = .ok (.lmul, 1) := by decide +kernel
theorem dX11_depthOf_45 : decode cX11_depthOf 45 = .ok (.lload_n 1, 1) := by decide +kernel
theorem dX11_depthOf_46 : decode cX11_depthOf 46 = .ok (.lsub, 1) := by decide +kernel
theorem dX11_depthOf_47 : decode cX11_depthOf 47 = .ok (.lastore, 1) := by decide +kernel
theorem dX11_depthOf_48 : decode cX11_depthOf 48 = .ok (.aload_n 0, 1) := by decide +kernel
theorem dX11_depthOf_49 : decode cX11_depthOf 49 = .ok (.getfield 54, 3) := by decide +kernel
theorem dX11_depthOf_52 : decode cX11_depthOf 52 = .ok (.iload 7, 2) := by decide +kernel
theorem dX11_depthOf_54 : decode cX11_depthOf 54 = .ok (.aload_n 0, 1) := by decide +kernel
theorem dX11_depthOf_55 : decode cX11_depthOf 55 = .ok (.getfield 13, 3) := by decide +kernel
theorem dX11_depthOf_58 : decode cX11_depthOf 58 = .ok (.iload 9, 2) := by decide +kernel
theorem dX11_depthOf_60 : decode cX11_depthOf 60 = .ok (.iaload, 1) := by decide +kernel
theorem dX11_depthOf_61 : decode cX11_depthOf 61 = .ok (.i2l, 1) := by decide +kernel
theorem dX11_depthOf_62 : decode cX11_depthOf 62 = .ok (.lload 5, 2) := by decide +kernel
theorem dX11_depthOf_64 : decode cX11_depthOf 64 = .ok (.lmul, 1) := by decide +kernel
theorem dX11_depthOf_65 : decode cX11_depthOf 65 = .ok (.lload_n 3, 1) := by decide +kernel
theorem dX11_depthOf_66 : decode cX11_depthOf 66 = .ok (.lsub, 1) := by decide +kernel
theorem dX11_depthOf_67 : decode cX11_depthOf 67 = .ok (.lastore, 1) := by decide +kernel
theorem dX11_depthOf_68 : decode cX11_depthOf 68 = .ok (.aload_n 0, 1) := by decide +kernel
theorem dX11_depthOf_69 : decode cX11_depthOf 69 = .ok (.getfield 57, 3) := by decide +kernel
theorem dX11_depthOf_72 : decode cX11_depthOf 72 = .ok (.iload 7, 2) := by decide +kernel
theorem dX11_depthOf_74 : decode cX11_depthOf 74 = .ok (.aload_n 0, 1) := by decide +kernel
theorem dX11_depthOf_75 : decode cX11_depthOf 75 = .ok (.iload 9, 2) := by decide +kernel
theorem dX11_depthOf_77 : decode cX11_depthOf 77 = .ok (.invokevirtual 166, 3) := by decide +kernel
theorem dX11_depthOf_80 : decode cX11_depthOf 80 = .ok (.iastore, 1) := by decide +kernel
theorem dX11_depthOf_81 : decode cX11_depthOf 81 = .ok (.iload 8, 2) := by decide +kernel
theorem dX11_depthOf_83 : decode cX11_depthOf 83 = .ok (.aload_n 0, 1) := by decide +kernel
theorem dX11_depthOf_84 : decode cX11_depthOf 84 = .ok (.getfield 57, 3) := by decide +kernel
theorem dX11_depthOf_87 : decode cX11_depthOf 87 = .ok (.iload 7, 2) := by decide +kernel
