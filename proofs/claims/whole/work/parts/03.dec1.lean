theorem dX5_add_27 : decode cX5_add 27 = .ok (.aload_n 1, 1) := by decide +kernel
theorem dX5_add_28 : decode cX5_add 28 = .ok (.getfield 67, 3) := by decide +kernel
theorem dX5_add_31 : decode cX5_add 31 = .ok (.iload_n 3, 1) := by decide +kernel
theorem dX5_add_32 : decode cX5_add 32 = .ok (.iaload, 1) := by decide +kernel
theorem dX5_add_33 : decode cX5_add 33 = .ok (.aload_n 1, 1) := by decide +kernel
theorem dX5_add_34 : decode cX5_add 34 = .ok (.getfield 70, 3) := by decide +kernel
theorem dX5_add_37 : decode cX5_add 37 = .ok (.iload_n 3, 1) := by decide +kernel
theorem dX5_add_38 : decode cX5_add 38 = .ok (.iaload, 1) := by decide +kernel
theorem dX5_add_39 : decode cX5_add 39 = .ok (.invokevirtual 73, 3) := by decide +kernel
theorem dX5_add_42 : decode cX5_add 42 = .ok (.aload_n 0, 1) := by decide +kernel
theorem dX5_add_43 : decode cX5_add 43 = .ok (.getfield 9, 3) := by decide +kernel
theorem dX5_add_46 : decode cX5_add 46 = .ok (.aload_n 0, 1) := by decide +kernel
theorem dX5_add_47 : decode cX5_add 47 = .ok (.getfield 31, 3) := by decide +kernel
theorem dX5_add_50 : decode cX5_add 50 = .ok (.aload_n 0, 1) := by decide +kernel
theorem dX5_add_51 : decode cX5_add 51 = .ok (.getfield 27, 3) := by decide +kernel
theorem dX5_add_54 : decode cX5_add 54 = .ok (.getfield 77, 3) := by decide +kernel
theorem dX5_add_57 : decode cX5_add 57 = .ok (.iastore, 1) := by decide +kernel
theorem dX5_add_58 : decode cX5_add 58 = .ok (.aload_n 0, 1) := by decide +kernel
theorem dX5_add_59 : decode cX5_add 59 = .ok (.getfield 15, 3) := by decide +kernel
theorem dX5_add_62 : decode cX5_add 62 = .ok (.aload_n 0, 1) := by decide +kernel
theorem dX5_add_63 : decode cX5_add 63 = .ok (.getfield 31, 3) := by decide +kernel
theorem dX5_add_66 : decode cX5_add 66 = .ok (.aload_n 0, 1) := by decide +kernel
theorem dX5_add_67 : decode cX5_add 67 = .ok (.getfield 27, 3) := by decide +kernel
theorem dX5_add_70 : decode cX5_add 70 = .ok (.getfield 79, 3) := by decide +kernel
theorem dX5_add_73 : decode cX5_add 73 = .ok (.iastore, 1) := by decide +kernel
theorem dX5_add_74 : decode cX5_add 74 = .ok (.aload_n 0, 1) := by decide +kernel
theorem dX5_add_75 : decode cX5_add 75 = .ok (.getfield 18, 3) := by decide +kernel
theorem dX5_add_78 : decode cX5_add 78 = .ok (.aload_n 0, 1) := by decide +kernel
theorem dX5_add_79 : decode cX5_add 79 = .ok (.getfield 31, 3) := by decide +kernel
theorem dX5_add_82 : decode cX5_add 82 = .ok (.aload_n 0, 1) := by decide +kernel
theorem dX5_add_83 : decode cX5_add 83 = .ok (.getfield 27, 3) := by decide +kernel
theorem dX5_add_86 : decode cX5_add 86 = .ok (.getfield 81, 3) := by decide +kernel
theorem dX5_add_89 : decode cX5_add 89 = .ok (.iastore, 1) := by decide +kernel
theorem dX5_add_90 : decode cX5_add 90 = .ok (.aload_n 0, 1) := by decide +kernel
theorem dX5_add_91 : decode cX5_add 91 = .ok (.dup, 1) := by decide +kernel
theorem dX5_add_92 : decode cX5_add 92 = .ok (.getfield 31, 3) := by decide +kernel
theorem dX5_add_95 : decode cX5_add 95 = .ok (.iconst 1, 1) := by decide +kernel
theorem dX5_add_96 : decode cX5_add 96 = .ok (.iadd, 1) := by decide +kernel
theorem dX5_add_97 : decode cX5_add 97 = .ok (.putfield 31, 3) := by decide +kernel
theorem dX5_add_100 : decode cX5_add 100 = .ok (.aload_n 0, 1) := by decide +kernel
theorem dX5_add_101 : decode cX5_add 101 = .ok (.aload_n 1, 1) := by decide +kernel
theorem dX5_add_102 : decode cX5_add 102 = .ok (.iload_n 2, 1) := by decide +kernel
theorem dX5_add_103 : decode cX5_add 103 = .ok (.iload_n 3, 1) := by decide +kernel
theorem dX5_add_104 : decode cX5_add 104 = .ok (.invokevirtual 83, 3) := by decide +kernel
theorem dX5_add_107 : decode cX5_add 107 = .ok (.istore 4, 2) := by decide +kernel
theorem dX5_add_109 : decode cX5_add 109 = .ok (.aload_n 0, 1) := by decide +kernel
theorem dX5_add_110 : decode cX5_add 110 = .ok (.aload_n 0, 1) := by decide +kernel
theorem dX5_add_111 : decode cX5_add 111 = .ok (.getfield 35, 3) := by decide +kernel
theorem dX5_add_114 : decode cX5_add 114 = .ok (.iload 4, 2) := by decide +kernel
theorem dX5_add_116 : decode cX5_add 116 = .ok (.invokestatic 87, 3) := by decide +kernel
theorem dX5_add_119 : decode cX5_add 119 = .ok (.putfield 35, 3) := by decide +kernel
theorem dX5_add_122 : decode cX5_add 122 = .ok (.aload_n 0, 1) := by decide +kernel
theorem dX5_add_123 : decode cX5_add 123 = .ok (.aload_n 0, 1) := by decide +kernel
theorem dX5_add_124 : decode cX5_add 124 = .ok (.getfield 31, 3) := by decide +kernel
theorem dX5_add_127 : decode cX5_add 127 = .ok (.iconst 1, 1) := by decide +kernel
theorem dX5_add_128 : decode cX5_add 128 = .ok (.if_icmp .ne 8, 3) := by decide +kernel
theorem dX5_add_131 : decode cX5_add 131 = .ok (.iload 4, 2) := by decide +kernel
theorem dX5_add_133 : decode cX5_add 133 = .ok (.goto 12, 3) := by decide +kernel
theorem dX5_add_136 : decode cX5_add 136 = .ok (.aload_n 0, 1) := by decide +kernel
theorem dX5_add_137 : decode cX5_add 137 = .ok (.getfield 38, 3) := by decide +kernel
theorem dX5_add_140 : decode cX5_add 140 = .ok (.iload 4, 2) := by decide +kernel
theorem dX5_add_142 : decode cX5_add 142 = .ok (.invokestatic 93, 3) := by decide +kernel
theorem dX5_add_145 : decode cX5_add 145 = .ok (.putfield 38, 3) := by decide +kernel
theorem dX5_add_148 : decode cX5_add 148 = .ok (.return_, 1) := by decide +kernel
theorem dX5_plantsOn_0 : decode cX5_plantsOn 0 = .ok (.iconst 0, 1) := by decide +kernel
theorem dX5_plantsOn_1 : decode cX5_plantsOn 1 = .ok (.istore 4, 2) := by decide +kernel
theorem dX5_plantsOn_3 : decode cX5_plantsOn 3 = .ok (.iconst 0, 1) := by decide +kernel
theorem dX5_plantsOn_4 : decode cX5_plantsOn 4 = .ok (.istore 5, 2) := by decide +kernel
theorem dX5_plantsOn_6 : decode cX5_plantsOn 6 = .ok (.iload 5, 2) := by decide +kernel
theorem dX5_plantsOn_8 : decode cX5_plantsOn 8 = .ok (.aload_n 1, 1) := by decide +kernel
theorem dX5_plantsOn_9 : decode cX5_plantsOn 9 = .ok (.getfield 45, 3) := by decide +kernel
theorem dX5_plantsOn_12 : decode cX5_plantsOn 12 = .ok (.if_icmp .ge 23, 3) := by decide +kernel
theorem dX5_plantsOn_15 : decode cX5_plantsOn 15 = .ok (.aload_n 1, 1) := by decide +kernel
theorem dX5_plantsOn_16 : decode cX5_plantsOn 16 = .ok (.iload_n 2, 1) := by decide +kernel
theorem dX5_plantsOn_17 : decode cX5_plantsOn 17 = .ok (.iload_n 3, 1) := by decide +kernel
theorem dX5_plantsOn_18 : decode cX5_plantsOn 18 = .ok (.iload 5, 2) := by decide +kernel
theorem dX5_plantsOn_20 : decode cX5_plantsOn 20 = .ok (.invokevirtual 63, 3) := by decide +kernel
theorem dX5_plantsOn_23 : decode cX5_plantsOn 23 = .ok (.ifCond .ne 6, 3) := by decide +kernel
theorem dX5_plantsOn_26 : decode cX5_plantsOn 26 = .ok (.iinc 4 1, 3) := by decide +kernel
theorem dX5_plantsOn_29 : decode cX5_plantsOn 29 = .ok (.iinc 5 1, 3) := by decide +kernel
theorem dX5_plantsOn_32 : decode cX5_plantsOn 32 = .ok (.goto (-26), 3) := by decide +kernel
theorem dX5_plantsOn_35 : decode cX5_plantsOn 35 = .ok (.iload 4, 2) := by decide +kernel
theorem dX5_plantsOn_37 : decode cX5_plantsOn 37 = .ok (.ireturn, 1) := by decide +kernel
theorem dX5_furrowCount_0 : decode cX5_furrowCount 0 = .ok (.aload_n 0, 1) := by decide +kernel
theorem dX5_furrowCount_1 : decode cX5_furrowCount 1 = .ok (.getfield 41, 3) := by decide +kernel
theorem dX5_furrowCount_4 : decode cX5_furrowCount 4 = .ok (.ifCond .ne 8, 3) := by decide +kernel
theorem dX5_furrowCount_7 : decode cX5_furrowCount 7 = .ok (.aload_n 0, 1) := by decide +kernel
theorem dX5_furrowCount_8 : decode cX5_furrowCount 8 = .ok (.aload_n 1, 1) := by decide +kernel
theorem dX5_furrowCount_9 : decode cX5_furrowCount 9 = .ok (.invokevirtual 96, 3) := by decide +kernel
theorem dX5_furrowCount_12 : decode cX5_furrowCount 12 = .ok (.aload_n 0, 1) := by decide +kernel
theorem dX5_furrowCount_13 : decode cX5_furrowCount 13 = .ok (.getfield 31, 3) := by decide +kernel
theorem dX5_furrowCount_16 : decode cX5_furrowCount 16 = .ok (.ifCond .ne 7, 3) := by decide +kernel
theorem dX5_furrowCount_19 : decode cX5_furrowCount 19 = .ok (.iconst 1, 1) := by decide +kernel
theorem dX5_furrowCount_20 : decode cX5_furrowCount 20 = .ok (.goto 7, 3) := by decide +kernel
theorem dX5_furrowCount_23 : decode cX5_furrowCount 23 = .ok (.aload_n 0, 1) := by decide +kernel
theorem dX5_furrowCount_24 : decode cX5_furrowCount 24 = .ok (.getfield 100, 3) := by decide +kernel
theorem dX5_furrowCount_27 : decode cX5_furrowCount 27 = .ok (.ireturn, 1) := by decide +kernel
theorem dX5_findFurrows_0 : decode cX5_findFurrows 0 = .ok (.aload_n 0, 1) := by decide +kernel
theorem dX5_findFurrows_1 : decode cX5_findFurrows 1 = .ok (.iconst 0, 1) := by decide +kernel
theorem dX5_findFurrows_2 : decode cX5_findFurrows 2 = .ok (.putfield 100, 3) := by decide +kernel
theorem dX5_findFurrows_5 : decode cX5_findFurrows 5 = .ok (.iconst 0, 1) := by decide +kernel
theorem dX5_findFurrows_6 : decode cX5_findFurrows 6 = .ok (.istore_n 2, 1) := by decide +kernel
theorem dX5_findFurrows_7 : decode cX5_findFurrows 7 = .ok (.iload_n 2, 1) := by decide +kernel
theorem dX5_findFurrows_8 : decode cX5_findFurrows 8 = .ok (.aload_n 0, 1) := by decide +kernel
theorem dX5_findFurrows_9 : decode cX5_findFurrows 9 = .ok (.getfield 31, 3) := by decide +kernel
theorem dX5_findFurrows_12 : decode cX5_findFurrows 12 = .ok (.if_icmp .ge 78, 3) := by decide +kernel
theorem dX5_findFurrows_15 : decode cX5_findFurrows 15 = .ok (.aload_n 0, 1) := by decide +kernel
theorem dX5_findFurrows_16 : decode cX5_findFurrows 16 = .ok (.getfield 27, 3) := by decide +kernel
theorem dX5_findFurrows_19 : decode cX5_findFurrows 19 = .ok (.aload_n 0, 1) := by decide +kernel
theorem dX5_findFurrows_20 : decode cX5_findFurrows 20 = .ok (.getfield 9, 3) := by decide +kernel
theorem dX5_findFurrows_23 : decode cX5_findFurrows 23 = .ok (.iload_n 2, 1) := by decide +kernel
theorem dX5_findFurrows_24 : decode cX5_findFurrows 24 = .ok (.iaload, 1) := by decide +kernel
theorem dX5_findFurrows_25 : decode cX5_findFurrows 25 = .ok (.aload_n 0, 1) := by decide +kernel
theorem dX5_findFurrows_26 : decode cX5_findFurrows 26 = .ok (.getfield 15, 3) := by decide +kernel
theorem dX5_findFurrows_29 : decode cX5_findFurrows 29 = .ok (.iload_n 2, 1) := by decide +kernel
theorem dX5_findFurrows_30 : decode cX5_findFurrows 30 = .ok (.iaload, 1) := by decide +kernel
theorem dX5_findFurrows_31 : decode cX5_findFurrows 31 = .ok (.aload_n 0, 1) := by decide +kernel
theorem dX5_findFurrows_32 : decode cX5_findFurrows 32 = .ok (.getfield 18, 3) := by decide +kernel
theorem dX5_findFurrows_35 : decode cX5_findFurrows 35 = .ok (.iload_n 2, 1) := by decide +kernel
theorem dX5_findFurrows_36 : decode cX5_findFurrows 36 = .ok (.iaload, 1) := by decide +kernel
theorem dX5_findFurrows_37 : decode cX5_findFurrows 37 = .ok (.invokevirtual 103, 3) := by decide +kernel
theorem dX5_findFurrows_40 : decode cX5_findFurrows 40 = .ok (.aload_n 1, 1) := by decide +kernel
theorem dX5_findFurrows_41 : decode cX5_findFurrows 41 = .ok (.aload_n 0, 1) := by decide +kernel
theorem dX5_findFurrows_42 : decode cX5_findFurrows 42 = .ok (.getfield 27, 3) := by decide +kernel
theorem dX5_findFurrows_45 : decode cX5_findFurrows 45 = .ok (.iconst 0, 1) := by decide +kernel
theorem dX5_findFurrows_46 : decode cX5_findFurrows 46 = .ok (.invokevirtual 107, 3) := by decide +kernel
theorem dX5_findFurrows_49 : decode cX5_findFurrows 49 = .ok (.ifCond .eq 35, 3) := by decide +kernel
theorem dX5_findFurrows_52 : decode cX5_findFurrows 52 = .ok (.aload_n 1, 1) := by decide +kernel
theorem dX5_findFurrows_53 : decode cX5_findFurrows 53 = .ok (.aload_n 0, 1) := by decide +kernel
theorem dX5_findFurrows_54 : decode cX5_findFurrows 54 = .ok (.getfield 27, 3) := by decide +kernel
theorem dX5_findFurrows_57 : decode cX5_findFurrows 57 = .ok (.iconst 1, 1) := by decide +kernel
theorem dX5_findFurrows_58 : decode cX5_findFurrows 58 = .ok (.invokevirtual 107, 3) := by decide +kernel
theorem dX5_findFurrows_61 : decode cX5_findFurrows 61 = .ok (.ifCond .eq 23, 3) := by decide +kernel
theorem dX5_findFurrows_64 : decode cX5_findFurrows 64 = .ok (.aload_n 0, 1) := by decide +kernel
theorem dX5_findFurrows_65 : decode cX5_findFurrows 65 = .ok (.getfield 21, 3) := by decide +kernel
theorem dX5_findFurrows_68 : decode cX5_findFurrows 68 = .ok (.aload_n 0, 1) := by decide +kernel
theorem dX5_findFurrows_69 : decode cX5_findFurrows 69 = .ok (.getfield 100, 3) := by decide +kernel
theorem dX5_findFurrows_72 : decode cX5_findFurrows 72 = .ok (.iload_n 2, 1) := by decide +kernel
theorem dX5_findFurrows_73 : decode cX5_findFurrows 73 = .ok (.iastore, 1) := by decide +kernel
theorem dX5_findFurrows_74 : decode cX5_findFurrows 74 = .ok (.aload_n 0, 1) := by decide +kernel
theorem dX5_findFurrows_75 : decode cX5_findFurrows 75 = .ok (.dup, 1) := by decide +kernel
theorem dX5_findFurrows_76 : decode cX5_findFurrows 76 = .ok (.getfield 100, 3) := by decide +kernel
theorem dX5_findFurrows_79 : decode cX5_findFurrows 79 = .ok (.iconst 1, 1) := by decide +kernel
theorem dX5_findFurrows_80 : decode cX5_findFurrows 80 = .ok (.iadd, 1) := by decide +kernel
theorem dX5_findFurrows_81 : decode cX5_findFurrows 81 = .ok (.putfield 100, 3) := by decide +kernel
theorem dX5_findFurrows_84 : decode cX5_findFurrows 84 = .ok (.iinc 2 1, 3) := by decide +kernel
theorem dX5_findFurrows_87 : decode cX5_findFurrows 87 = .ok (.goto (-80), 3) := by decide +kernel
theorem dX5_findFurrows_90 : decode cX5_findFurrows 90 = .ok (.aload_n 0, 1) := by decide +kernel
theorem dX5_findFurrows_91 : decode cX5_findFurrows 91 = .ok (.iconst 1, 1) := by decide +kernel
theorem dX5_findFurrows_92 : decode cX5_findFurrows 92 = .ok (.putfield 41, 3) := by decide +kernel
theorem dX5_findFurrows_95 : decode cX5_findFurrows 95 = .ok (.return_, 1) := by decide +kernel
theorem dX5_giveFurrow_0 : decode cX5_giveFurrow 0 = .ok (.aload_n 0, 1) := by decide +kernel
theorem dX5_giveFurrow_1 : decode cX5_giveFurrow 1 = .ok (.getfield 31, 3) := by decide +kernel
theorem dX5_giveFurrow_4 : decode cX5_giveFurrow 4 = .ok (.ifCond .ne 26, 3) := by decide +kernel
theorem dX5_giveFurrow_7 : decode cX5_giveFurrow 7 = .ok (.aload_n 1, 1) := by decide +kernel
theorem dX5_giveFurrow_8 : decode cX5_giveFurrow 8 = .ok (.getfield 45, 3) := by decide +kernel
theorem dX5_giveFurrow_11 : decode cX5_giveFurrow 11 = .ok (.ifCond .le 19, 3) := by decide +kernel
theorem dX5_giveFurrow_14 : decode cX5_giveFurrow 14 = .ok (.aload_n 3, 1) := by decide +kernel
theorem dX5_giveFurrow_15 : decode cX5_giveFurrow 15 = .ok (.iconst 0, 1) := by decide +kernel
theorem dX5_giveFurrow_16 : decode cX5_giveFurrow 16 = .ok (.iconst 1, 1) := by decide +kernel
theorem dX5_giveFurrow_17 : decode cX5_giveFurrow 17 = .ok (.aload_n 1, 1) := by decide +kernel
theorem dX5_giveFurrow_18 : decode cX5_giveFurrow 18 = .ok (.getfield 70, 3) := by decide +kernel
theorem dX5_giveFurrow_21 : decode cX5_giveFurrow 21 = .ok (.iconst 0, 1) := by decide +kernel
theorem dX5_giveFurrow_22 : decode cX5_giveFurrow 22 = .ok (.iaload, 1) := by decide +kernel
theorem dX5_giveFurrow_23 : decode cX5_giveFurrow 23 = .ok (.ineg, 1) := by decide +kernel
theorem dX5_giveFurrow_24 : decode cX5_giveFurrow 24 = .ok (.invokevirtual 103, 3) := by decide +kernel
theorem dX5_giveFurrow_27 : decode cX5_giveFurrow 27 = .ok (.goto 47, 3) := by decide +kernel
theorem dX5_giveFurrow_30 : decode cX5_giveFurrow 30 = .ok (.iload_n 2, 1) := by decide +kernel
theorem dX5_giveFurrow_31 : decode cX5_giveFurrow 31 = .ok (.aload_n 0, 1) := by decide +kernel
theorem dX5_giveFurrow_32 : decode cX5_giveFurrow 32 = .ok (.getfield 100, 3) := by decide +kernel
theorem dX5_giveFurrow_35 : decode cX5_giveFurrow 35 = .ok (.invokestatic 111, 3) := by decide +kernel
theorem dX5_giveFurrow_38 : decode cX5_giveFurrow 38 = .ok (.ifCond .eq 36, 3) := by decide +kernel
theorem dX5_giveFurrow_41 : decode cX5_giveFurrow 41 = .ok (.aload_n 0, 1) := by decide +kernel
theorem dX5_giveFurrow_42 : decode cX5_giveFurrow 42 = .ok (.getfield 21, 3) := by decide +kernel
theorem dX5_giveFurrow_45 : decode cX5_giveFurrow 45 = .ok (.iload_n 2, 1) := by decide +kernel
theorem dX5_giveFurrow_46 : decode cX5_giveFurrow 46 = .ok (.iaload, 1) := by decide +kernel
theorem dX5_giveFurrow_47 : decode cX5_giveFurrow 47 = .ok (.istore 4, 2) := by decide +kernel
theorem dX5_giveFurrow_49 : decode cX5_giveFurrow 49 = .ok (.aload_n 3, 1) := by decide +kernel
theorem dX5_giveFurrow_50 : decode cX5_giveFurrow 50 = .ok (.aload_n 0, 1) := by decide +kernel
theorem dX5_giveFurrow_51 : decode cX5_giveFurrow 51 = .ok (.getfield 9, 3) := by decide +kernel
theorem dX5_giveFurrow_54 : decode cX5_giveFurrow 54 = .ok (.iload 4, 2) := by decide +kernel
theorem dX5_giveFurrow_56 : decode cX5_giveFurrow 56 = .ok (.iaload, 1) := by decide +kernel
theorem dX5_giveFurrow_57 : decode cX5_giveFurrow 57 = .ok (.aload_n 0, 1) := by decide +kernel
theorem dX5_giveFurrow_58 : decode cX5_giveFurrow 58 = .ok (.getfield 15, 3) := by decide +kernel
theorem dX5_giveFurrow_61 : decode cX5_giveFurrow 61 = .ok (.iload 4, 2) := by decide +kernel
theorem dX5_giveFurrow_63 : decode cX5_giveFurrow 63 = .ok (.iaload, 1) := by decide +kernel
theorem dX5_giveFurrow_64 : decode cX5_giveFurrow 64 = .ok (.aload_n 0, 1) := by decide +kernel
theorem dX5_giveFurrow_65 : decode cX5_giveFurrow 65 = .ok (.getfield 18, 3) := by decide +kernel
theorem dX5_giveFurrow_68 : decode cX5_giveFurrow 68 = .ok (.iload 4, 2) := by decide +kernel
theorem dX5_giveFurrow_70 : decode cX5_giveFurrow 70 = .ok (.iaload, 1) := by decide +kernel
theorem dX5_giveFurrow_71 : decode cX5_giveFurrow 71 = .ok (.invokevirtual 103, 3) := by decide +kernel
theorem dX5_giveFurrow_74 : decode cX5_giveFurrow 74 = .ok (.return_, 1) := by decide +kernel
theorem dX6_init_0 : decode cX6_init 0 = .ok (.aload_n 0, 1) := by decide +kernel
theorem dX6_init_1 : decode cX6_init 1 = .ok (.invokespecial 3, 3) := by decide +kernel
theorem dX6_init_4 : decode cX6_init 4 = .ok (.return_, 1) := by decide +kernel
theorem dX6_begin_0 : decode cX6_begin 0 = .ok (.aload_n 0, 1) := by decide +kernel
theorem dX6_begin_1 : decode cX6_begin 1 = .ok (.iload_n 1, 1) := by decide +kernel
theorem dX6_begin_2 : decode cX6_begin 2 = .ok (.putfield 9, 3) := by decide +kernel
theorem dX6_begin_5 : decode cX6_begin 5 = .ok (.aload_n 0, 1) := by decide +kernel
theorem dX6_begin_6 : decode cX6_begin 6 = .ok (.iload_n 2, 1) := by decide +kernel
theorem dX6_begin_7 : decode cX6_begin 7 = .ok (.putfield 15, 3) := by decide +kernel
theorem dX6_begin_10 : decode cX6_begin 10 = .ok (.aload_n 0, 1) := by decide +kernel
theorem dX6_begin_11 : decode cX6_begin 11 = .ok (.iload_n 3, 1) := by decide +kernel
theorem dX6_begin_12 : decode cX6_begin 12 = .ok (.putfield 18, 3) := by decide +kernel
theorem dX6_begin_15 : decode cX6_begin 15 = .ok (.aload_n 0, 1) := by decide +kernel
theorem dX6_begin_16 : decode cX6_begin 16 = .ok (.iconst 1, 1) := by decide +kernel
theorem dX6_begin_17 : decode cX6_begin 17 = .ok (.putfield 21, 3) := by decide +kernel
theorem dX6_begin_20 : decode cX6_begin 20 = .ok (.aload_n 0, 1) := by decide +kernel
theorem dX6_begin_21 : decode cX6_begin 21 = .ok (.iconst 0, 1) := by decide +kernel
theorem dX6_begin_22 : decode cX6_begin 22 = .ok (.aload 4, 2) := by decide +kernel
theorem dX6_begin_24 : decode cX6_begin 24 = .ok (.invokevirtual 25, 3) := by decide +kernel
theorem dX6_begin_27 : decode cX6_begin 27 = .ok (.return_, 1) := by decide +kernel
theorem dX6_paint_0 : decode cX6_paint 0 = .ok (.aload_n 0, 1) := by decide +kernel
theorem dX6_paint_1 : decode cX6_paint 1 = .ok (.iload_n 1, 1) := by decide +kernel
theorem dX6_paint_2 : decode cX6_paint 2 = .ok (.putfield 29, 3) := by decide +kernel
theorem dX6_paint_5 : decode cX6_paint 5 = .ok (.aload_n 0, 1) := by decide +kernel
theorem dX6_paint_6 : decode cX6_paint 6 = .ok (.aload_n 0, 1) := by decide +kernel
theorem dX6_paint_7 : decode cX6_paint 7 = .ok (.iconst 0, 1) := by decide +kernel
theorem dX6_paint_8 : decode cX6_paint 8 = .ok (.aload_n 2, 1) := by decide +kernel
theorem dX6_paint_9 : decode cX6_paint 9 = .ok (.iconst 0, 1) := by decide +kernel
theorem dX6_paint_10 : decode cX6_paint 10 = .ok (.invokevirtual 32, 3) := by decide +kernel
theorem dX6_paint_13 : decode cX6_paint 13 = .ok (.putfield 36, 3) := by decide +kernel
theorem dX6_paint_16 : decode cX6_paint 16 = .ok (.aload_n 0, 1) := by decide +kernel
theorem dX6_paint_17 : decode cX6_paint 17 = .ok (.aload_n 0, 1) := by decide +kernel
theorem dX6_paint_18 : decode cX6_paint 18 = .ok (.iconst 1, 1) := by decide +kernel
theorem dX6_paint_19 : decode cX6_paint 19 = .ok (.aload_n 2, 1) := by decide +kernel
theorem dX6_paint_20 : decode cX6_paint 20 = .ok (.iconst 0, 1) := by decide +kernel
theorem dX6_paint_21 : decode cX6_paint 21 = .ok (.invokevirtual 32, 3) := by decide +kernel
theorem dX6_paint_24 : decode cX6_paint 24 = .ok (.putfield 39, 3) := by decide +kernel
theorem dX6_paint_27 : decode cX6_paint 27 = .ok (.aload_n 0, 1) := by decide +kernel
theorem dX6_paint_28 : decode cX6_paint 28 = .ok (.aload_n 0, 1) := by decide +kernel
theorem dX6_paint_29 : decode cX6_paint 29 = .ok (.iconst 2, 1) := by decide +kernel
theorem dX6_paint_30 : decode cX6_paint 30 = .ok (.aload_n 2, 1) := by decide +kernel
theorem dX6_paint_31 : decode cX6_paint 31 = .ok (.iconst 0, 1) := by decide +kernel
theorem dX6_paint_32 : decode cX6_paint 32 = .ok (.invokevirtual 32, 3) := by decide +kernel
theorem dX6_paint_35 : decode cX6_paint 35 = .ok (.putfield 42, 3) := by decide +kernel
theorem dX6_paint_38 : decode cX6_paint 38 = .ok (.return_, 1) := by decide +kernel
theorem dX6_become_0 : decode cX6_become 0 = .ok (.aload_n 0, 1) := by decide +kernel
theorem dX6_become_1 : decode cX6_become 1 = .ok (.aload_n 1, 1) := by decide +kernel
theorem dX6_become_2 : decode cX6_become 2 = .ok (.getfield 9, 3) := by decide +kernel
theorem dX6_become_5 : decode cX6_become 5 = .ok (.putfield 9, 3) := by decide +kernel
theorem dX6_become_8 : decode cX6_become 8 = .ok (.aload_n 0, 1) := by decide +kernel
theorem dX6_become_9 : decode cX6_become 9 = .ok (.aload_n 1, 1) := by decide +kernel
theorem dX6_become_10 : decode cX6_become 10 = .ok (.getfield 15, 3) := by decide +kernel
theorem dX6_become_13 : decode cX6_become 13 = .ok (.putfield 15, 3) := by decide +kernel
theorem dX6_become_16 : decode cX6_become 16 = .ok (.aload_n 0, 1) := by decide +kernel
theorem dX6_become_17 : decode cX6_become 17 = .ok (.aload_n 1, 1) := by decide +kernel
theorem dX6_become_18 : decode cX6_become 18 = .ok (.getfield 18, 3) := by decide +kernel
theorem dX6_become_21 : decode cX6_become 21 = .ok (.putfield 18, 3) := by decide +kernel
theorem dX6_become_24 : decode cX6_become 24 = .ok (.aload_n 0, 1) := by decide +kernel
theorem dX6_become_25 : decode cX6_become 25 = .ok (.aload_n 1, 1) := by decide +kernel
theorem dX6_become_26 : decode cX6_become 26 = .ok (.getfield 29, 3) := by decide +kernel
theorem dX6_become_29 : decode cX6_become 29 = .ok (.putfield 29, 3) := by decide +kernel
theorem dX6_become_32 : decode cX6_become 32 = .ok (.aload_n 0, 1) := by decide +kernel
theorem dX6_become_33 : decode cX6_become 33 = .ok (.aload_n 1, 1) := by decide +kernel
theorem dX6_become_34 : decode cX6_become 34 = .ok (.getfield 36, 3) := by decide +kernel
theorem dX6_become_37 : decode cX6_become 37 = .ok (.putfield 36, 3) := by decide +kernel
theorem dX6_become_40 : decode cX6_become 40 = .ok (.aload_n 0, 1) := by decide +kernel
theorem dX6_become_41 : decode cX6_become 41 = .ok (.aload_n 1, 1) := by decide +kernel
theorem dX6_become_42 : decode cX6_become 42 = .ok (.getfield 39, 3) := by decide +kernel
theorem dX6_become_45 : decode cX6_become 45 = .ok (.putfield 39, 3) := by decide +kernel
theorem dX6_become_48 : decode cX6_become 48 = .ok (.aload_n 0, 1) := by decide +kernel
theorem dX6_become_49 : decode cX6_become 49 = .ok (.aload_n 1, 1) := by decide +kernel
theorem dX6_become_50 : decode cX6_become 50 = .ok (.getfield 42, 3) := by decide +kernel
theorem dX6_become_53 : decode cX6_become 53 = .ok (.putfield 42, 3) := by decide +kernel
theorem dX6_become_56 : decode cX6_become 56 = .ok (.aload_n 0, 1) := by decide +kernel
theorem dX6_become_57 : decode cX6_become 57 = .ok (.aload_n 1, 1) := by decide +kernel
theorem dX6_become_58 : decode cX6_become 58 = .ok (.getfield 21, 3) := by decide +kernel
theorem dX6_become_61 : decode cX6_become 61 = .ok (.putfield 21, 3) := by decide +kernel
theorem dX6_become_64 : decode cX6_become 64 = .ok (.return_, 1) := by decide +kernel
theorem dX6_isOf_0 : decode cX6_isOf 0 = .ok (.aload_n 0, 1) := by decide +kernel
theorem dX6_isOf_1 : decode cX6_isOf 1 = .ok (.getfield 18, 3) := by decide +kernel
theorem dX6_isOf_4 : decode cX6_isOf 4 = .ok (.istore_n 2, 1) := by decide +kernel
theorem dX6_isOf_5 : decode cX6_isOf 5 = .ok (.iconst 0, 1) := by decide +kernel
theorem dX6_isOf_6 : decode cX6_isOf 6 = .ok (.istore_n 3, 1) := by decide +kernel
theorem dX6_isOf_7 : decode cX6_isOf 7 = .ok (.iload_n 3, 1) := by decide +kernel
theorem dX6_isOf_8 : decode cX6_isOf 8 = .ok (.iconst 5, 1) := by decide +kernel
theorem dX6_isOf_9 : decode cX6_isOf 9 = .ok (.if_icmp .ge 30, 3) := by decide +kernel
theorem dX6_isOf_12 : decode cX6_isOf 12 = .ok (.iload_n 2, 1) := by decide +kernel
theorem dX6_isOf_13 : decode cX6_isOf 13 = .ok (.iconst 5, 1) := by decide +kernel
theorem dX6_isOf_14 : decode cX6_isOf 14 = .ok (.invokestatic 45, 3) := by decide +kernel
theorem dX6_isOf_17 : decode cX6_isOf 17 = .ok (.ifCond .eq 22, 3) := by decide +kernel
theorem dX6_isOf_20 : decode cX6_isOf 20 = .ok (.iload_n 2, 1) := by decide +kernel
theorem dX6_isOf_21 : decode cX6_isOf 21 = .ok (.iload_n 1, 1) := by decide +kernel
theorem dX6_isOf_22 : decode cX6_isOf 22 = .ok (.if_icmp .ne 5, 3) := by decide +kernel
theorem dX6_isOf_25 : decode cX6_isOf 25 = .ok (.iconst 1, 1) := by decide +kernel
theorem dX6_isOf_26 : decode cX6_isOf 26 = .ok (.ireturn, 1) := by decide +kernel
theorem dX6_isOf_27 : decode cX6_isOf 27 = .ok (.getstatic 49, 3) := by decide +kernel
theorem dX6_isOf_30 : decode cX6_isOf 30 = .ok (.iload_n 2, 1) := by decide +kernel
theorem dX6_isOf_31 : decode cX6_isOf 31 = .ok (.iaload, 1) := by decide +kernel
theorem dX6_isOf_32 : decode cX6_isOf 32 = .ok (.istore_n 2, 1) := by decide +kernel
theorem dX6_isOf_33 : decode cX6_isOf 33 = .ok (.iinc 3 1, 3) := by decide +kernel
theorem dX6_isOf_36 : decode cX6_isOf 36 = .ok (.goto (-29), 3) := by decide +kernel
theorem dX6_isOf_39 : decode cX6_isOf 39 = .ok (.iconst 0, 1) := by decide +kernel
theorem dX6_isOf_40 : decode cX6_isOf 40 = .ok (.ireturn, 1) := by decide +kernel
theorem dX6_answer_0 : decode cX6_answer 0 = .ok (.aload_n 0, 1) := by decide +kernel
theorem dX6_answer_1 : decode cX6_answer 1 = .ok (.iload_n 1, 1) := by decide +kernel
theorem dX6_answer_2 : decode cX6_answer 2 = .ok (.aload_n 2, 1) := by decide +kernel
theorem dX6_answer_3 : decode cX6_answer 3 = .ok (.iconst 0, 1) := by decide +kernel
theorem dX6_answer_4 : decode cX6_answer 4 = .ok (.invokevirtual 32, 3) := by decide +kernel
theorem dX6_answer_7 : decode cX6_answer 7 = .ok (.ireturn, 1) := by decide +kernel
theorem dX6_begun_0 : decode cX6_begun 0 = .ok (.iload_n 1, 1) := by decide +kernel
theorem dX6_begun_1 : decode cX6_begun 1 = .ok (.iconst 5, 1) := by decide +kernel
theorem dX6_begun_2 : decode cX6_begun 2 = .ok (.imul, 1) := by decide +kernel
theorem dX6_begun_3 : decode cX6_begun 3 = .ok (.aload_n 0, 1) := by decide +kernel
theorem dX6_begun_4 : decode cX6_begun 4 = .ok (.getfield 18, 3) := by decide +kernel
theorem dX6_begun_7 : decode cX6_begun 7 = .ok (.iadd, 1) := by decide +kernel
theorem dX6_begun_8 : decode cX6_begun 8 = .ok (.istore 4, 2) := by decide +kernel
theorem dX6_begun_10 : decode cX6_begun 10 = .ok (.iload 4, 2) := by decide +kernel
theorem dX6_begun_12 : decode cX6_begun 12 = .ok (.getstatic 53, 3) := by decide +kernel
theorem dX6_begun_15 : decode cX6_begun 15 = .ok (.arraylength, 1) := by decide +kernel
theorem dX6_begun_16 : decode cX6_begun 16 = .ok (.invokestatic 45, 3) := by decide +kernel
theorem dX6_begun_19 : decode cX6_begun 19 = .ok (.ifCond .eq 18, 3) := by decide +kernel
theorem dX6_begun_22 : decode cX6_begun 22 = .ok (.aload_n 0, 1) := by decide +kernel
theorem dX6_begun_23 : decode cX6_begun 23 = .ok (.getstatic 53, 3) := by decide +kernel
theorem dX6_begun_26 : decode cX6_begun 26 = .ok (.iload 4, 2) := by decide +kernel
theorem dX6_begun_28 : decode cX6_begun 28 = .ok (.iaload, 1) := by decide +kernel
theorem dX6_begun_29 : decode cX6_begun 29 = .ok (.aload_n 2, 1) := by decide +kernel
theorem dX6_begun_30 : decode cX6_begun 30 = .ok (.iload_n 3, 1) := by decide +kernel
theorem dX6_begun_31 : decode cX6_begun 31 = .ok (.invokevirtual 56, 3) := by decide +kernel
theorem dX6_begun_34 : decode cX6_begun 34 = .ok (.goto 4, 3) := by decide +kernel
theorem dX6_begun_37 : decode cX6_begun 37 = .ok (.iconst 0, 1) := by decide +kernel
theorem dX6_begun_38 : decode cX6_begun 38 = .ok (.ireturn, 1) := by decide +kernel
theorem dX6_gives_0 : decode cX6_gives 0 = .ok (.iload_n 3, 1) := by decide +kernel
theorem dX6_gives_1 : decode cX6_gives 1 = .ok (.bipush 8, 2) := by decide +kernel
theorem dX6_gives_3 : decode cX6_gives 3 = .ok (.if_icmp .lt 5, 3) := by decide +kernel
theorem dX6_gives_6 : decode cX6_gives 6 = .ok (.iconst 0, 1) := by decide +kernel
theorem dX6_gives_7 : decode cX6_gives 7 = .ok (.ireturn, 1) := by decide +kernel
theorem dX6_gives_8 : decode cX6_gives 8 = .ok (.aload_n 2, 1) := by decide +kernel
theorem dX6_gives_9 : decode cX6_gives 9 = .ok (.iload_n 1, 1) := by decide +kernel
theorem dX6_gives_10 : decode cX6_gives 10 = .ok (.invokevirtual 59, 3) := by decide +kernel
theorem dX6_gives_13 : decode cX6_gives 13 = .ok (.iload_n 3, 1) := by decide +kernel
theorem dX6_gives_14 : decode cX6_gives 14 = .ok (.iconst 1, 1) := by decide +kernel
theorem dX6_gives_15 : decode cX6_gives 15 = .ok (.iadd, 1) := by decide +kernel
theorem dX6_gives_16 : decode cX6_gives 16 = .ok (.istore 4, 2) := by decide +kernel
theorem dX6_gives_18 : decode cX6_gives 18 = .ok (.iload_n 1, 1) := by decide +kernel
theorem dX6_gives_19 : decode cX6_gives 19 = .ok (.tableswitch 267 11 42 #[141, 143, 155, 267, 267, 267, 267, 267, 267, 267, 141, 177, 267, 267, 267, 267, 267, 267, 267, 199, 221, 267, 267, 267, 267, 267, 267, 267, 267, 233, 245, 257], 141) := by decide +kernel
theorem dX6_gives_160 : decode cX6_gives 160 = .ok (.iconst 1, 1) := by decide +kernel
theorem dX6_gives_161 : decode cX6_gives 161 = .ok (.ireturn, 1) := by decide +kernel
theorem dX6_gives_162 : decode cX6_gives 162 = .ok (.iconst 2, 1) := by decide +kernel
theorem dX6_gives_163 : decode cX6_gives 163 = .ok (.aload_n 0, 1) := by decide +kernel
theorem dX6_gives_164 : decode cX6_gives 164 = .ok (.bipush 11, 2) := by decide +kernel
theorem dX6_gives_166 : decode cX6_gives 166 = .ok (.aload_n 2, 1) := by decide +kernel
theorem dX6_gives_167 : decode cX6_gives 167 = .ok (.iload 4, 2) := by decide +kernel
theorem dX6_gives_169 : decode cX6_gives 169 = .ok (.invokevirtual 56, 3) := by decide +kernel
theorem dX6_gives_172 : decode cX6_gives 172 = .ok (.imul, 1) := by decide +kernel
theorem dX6_gives_173 : decode cX6_gives 173 = .ok (.ireturn, 1) := by decide +kernel
theorem dX6_gives_174 : decode cX6_gives 174 = .ok (.aload_n 0, 1) := by decide +kernel
theorem dX6_gives_175 : decode cX6_gives 175 = .ok (.getfield 29, 3) := by decide +kernel
theorem dX6_gives_178 : decode cX6_gives 178 = .ok (.iconst 1, 1) := by decide +kernel
theorem dX6_gives_179 : decode cX6_gives 179 = .ok (.if_icmp .ne 7, 3) := by decide +kernel
theorem dX6_gives_182 : decode cX6_gives 182 = .ok (.iconst 1, 1) := by decide +kernel
theorem dX6_gives_183 : decode cX6_gives 183 = .ok (.goto 12, 3) := by decide +kernel
theorem dX6_gives_186 : decode cX6_gives 186 = .ok (.aload_n 0, 1) := by decide +kernel
theorem dX6_gives_187 : decode cX6_gives 187 = .ok (.bipush 10, 2) := by decide +kernel
theorem dX6_gives_189 : decode cX6_gives 189 = .ok (.aload_n 2, 1) := by decide +kernel
theorem dX6_gives_190 : decode cX6_gives 190 = .ok (.iload 4, 2) := by decide +kernel
theorem dX6_gives_192 : decode cX6_gives 192 = .ok (.invokevirtual 56, 3) := by decide +kernel
theorem dX6_gives_195 : decode cX6_gives 195 = .ok (.ireturn, 1) := by decide +kernel
theorem dX6_gives_196 : decode cX6_gives 196 = .ok (.aload_n 0, 1) := by decide +kernel
theorem dX6_gives_197 : decode cX6_gives 197 = .ok (.getfield 29, 3) := by decide +kernel
theorem dX6_gives_200 : decode cX6_gives 200 = .ok (.iconst 2, 1) := by decide +kernel
theorem dX6_gives_201 : decode cX6_gives 201 = .ok (.if_icmp .ne 7, 3) := by decide +kernel
theorem dX6_gives_204 : decode cX6_gives 204 = .ok (.iconst 1, 1) := by decide +kernel
theorem dX6_gives_205 : decode cX6_gives 205 = .ok (.goto 12, 3) := by decide +kernel
theorem dX6_gives_208 : decode cX6_gives 208 = .ok (.aload_n 0, 1) := by decide +kernel
theorem dX6_gives_209 : decode cX6_gives 209 = .ok (.bipush 20, 2) := by decide +kernel
theorem dX6_gives_211 : decode cX6_gives 211 = .ok (.aload_n 2, 1) := by decide +kernel
theorem dX6_gives_212 : decode cX6_gives 212 = .ok (.iload 4, 2) := by decide +kernel
theorem dX6_gives_214 : decode cX6_gives 214 = .ok (.invokevirtual 56, 3) := by decide +kernel
theorem dX6_gives_217 : decode cX6_gives 217 = .ok (.ireturn, 1) := by decide +kernel
theorem dX6_gives_218 : decode cX6_gives 218 = .ok (.iconst 1, 1) := by decide +kernel
theorem dX6_gives_219 : decode cX6_gives 219 = .ok (.aload_n 0, 1) := by decide +kernel
theorem dX6_gives_220 : decode cX6_gives 220 = .ok (.iconst 0, 1) := by decide +kernel
theorem dX6_gives_221 : decode cX6_gives 221 = .ok (.aload_n 2, 1) := by decide +kernel
theorem dX6_gives_222 : decode cX6_gives 222 = .ok (.iload 4, 2) := by decide +kernel
theorem dX6_gives_224 : decode cX6_gives 224 = .ok (.invokevirtual 32, 3) := by decide +kernel
theorem dX6_gives_227 : decode cX6_gives 227 = .ok (.aload_n 0, 1) := by decide +kernel
theorem dX6_gives_228 : decode cX6_gives 228 = .ok (.iconst 1, 1) := by decide +kernel
theorem dX6_gives_229 : decode cX6_gives 229 = .ok (.aload_n 2, 1) := by decide +kernel
theorem dX6_gives_230 : decode cX6_gives 230 = .ok (.iload 4, 2) := by decide +kernel
theorem dX6_gives_232 : decode cX6_gives 232 = .ok (.invokevirtual 32, 3) := by decide +kernel
theorem dX6_gives_235 : decode cX6_gives 235 = .ok (.iadd, 1) := by decide +kernel
theorem dX6_gives_236 : decode cX6_gives 236 = .ok (.invokestatic 65, 3) := by decide +kernel
theorem dX6_gives_239 : decode cX6_gives 239 = .ok (.ireturn, 1) := by decide +kernel
theorem dX6_gives_240 : decode cX6_gives 240 = .ok (.iconst 1, 1) := by decide +kernel
theorem dX6_gives_241 : decode cX6_gives 241 = .ok (.aload_n 0, 1) := by decide +kernel
theorem dX6_gives_242 : decode cX6_gives 242 = .ok (.bipush 30, 2) := by decide +kernel
theorem dX6_gives_244 : decode cX6_gives 244 = .ok (.aload_n 2, 1) := by decide +kernel
theorem dX6_gives_245 : decode cX6_gives 245 = .ok (.iload 4, 2) := by decide +kernel
theorem dX6_gives_247 : decode cX6_gives 247 = .ok (.invokevirtual 56, 3) := by decide +kernel
theorem dX6_gives_250 : decode cX6_gives 250 = .ok (.iadd, 1) := by decide +kernel
theorem dX6_gives_251 : decode cX6_gives 251 = .ok (.ireturn, 1) := by decide +kernel
theorem dX6_gives_252 : decode cX6_gives 252 = .ok (.bipush 10, 2) := by decide +kernel
theorem dX6_gives_254 : decode cX6_gives 254 = .ok (.aload_n 0, 1) := by decide +kernel
theorem dX6_gives_255 : decode cX6_gives 255 = .ok (.iconst 2, 1) := by decide +kernel
theorem dX6_gives_256 : decode cX6_gives 256 = .ok (.aload_n 2, 1) := by decide +kernel
theorem dX6_gives_257 : decode cX6_gives 257 = .ok (.iload 4, 2) := by decide +kernel
theorem dX6_gives_259 : decode cX6_gives 259 = .ok (.invokevirtual 32, 3) := by decide +kernel
theorem dX6_gives_262 : decode cX6_gives 262 = .ok (.imul, 1) := by decide +kernel
theorem dX6_gives_263 : decode cX6_gives 263 = .ok (.ireturn, 1) := by decide +kernel
theorem dX6_gives_264 : decode cX6_gives 264 = .ok (.aload_n 0, 1) := by decide +kernel
theorem dX6_gives_265 : decode cX6_gives 265 = .ok (.bipush 40, 2) := by decide +kernel
theorem dX6_gives_267 : decode cX6_gives 267 = .ok (.aload_n 2, 1) := by decide +kernel
theorem dX6_gives_268 : decode cX6_gives 268 = .ok (.iload 4, 2) := by decide +kernel
theorem dX6_gives_270 : decode cX6_gives 270 = .ok (.invokevirtual 56, 3) := by decide +kernel
theorem dX6_gives_273 : decode cX6_gives 273 = .ok (.iconst 5, 1) := by decide +kernel
theorem dX6_gives_274 : decode cX6_gives 274 = .ok (.isub, 1) := by decide +kernel
theorem dX6_gives_275 : decode cX6_gives 275 = .ok (.ireturn, 1) := by decide +kernel
theorem dX6_gives_276 : decode cX6_gives 276 = .ok (.aload_n 0, 1) := by decide +kernel
theorem dX6_gives_277 : decode cX6_gives 277 = .ok (.bipush 30, 2) := by decide +kernel
theorem dX6_gives_279 : decode cX6_gives 279 = .ok (.aload_n 2, 1) := by decide +kernel
theorem dX6_gives_280 : decode cX6_gives 280 = .ok (.iload 4, 2) := by decide +kernel
theorem dX6_gives_282 : decode cX6_gives 282 = .ok (.invokevirtual 56, 3) := by decide +kernel
theorem dX6_gives_285 : decode cX6_gives 285 = .ok (.ireturn, 1) := by decide +kernel
theorem dX6_gives_286 : decode cX6_gives 286 = .ok (.iconst 0, 1) := by decide +kernel
theorem dX6_gives_287 : decode cX6_gives 287 = .ok (.ireturn, 1) := by decide +kernel
theorem dX7_init_0 : decode cX7_init 0 = .ok (.aload_n 0, 1) := by decide +kernel
theorem dX7_init_1 : decode cX7_init 1 = .ok (.invokespecial 3, 3) := by decide +kernel
theorem dX7_init_4 : decode cX7_init 4 = .ok (.aload_n 0, 1) := by decide +kernel
theorem dX7_init_5 : decode cX7_init 5 = .ok (.bipush 40, 2) := by decide +kernel
theorem dX7_init_7 : decode cX7_init 7 = .ok (.newarray .int, 2) := by decide +kernel
theorem dX7_init_9 : decode cX7_init 9 = .ok (.putfield 9, 3) := by decide +kernel
theorem dX7_init_12 : decode cX7_init 12 = .ok (.aload_n 0, 1) := by decide +kernel
theorem dX7_init_13 : decode cX7_init 13 = .ok (.bipush 40, 2) := by decide +kernel
theorem dX7_init_15 : decode cX7_init 15 = .ok (.newarray .int, 2) := by decide +kernel
theorem dX7_init_17 : decode cX7_init 17 = .ok (.putfield 15, 3) := by decide +kernel
theorem dX7_init_20 : decode cX7_init 20 = .ok (.aload_n 0, 1) := by decide +kernel
theorem dX7_init_21 : decode cX7_init 21 = .ok (.bipush 40, 2) := by decide +kernel
theorem dX7_init_23 : decode cX7_init 23 = .ok (.newarray .int, 2) := by decide +kernel
theorem dX7_init_25 : decode cX7_init 25 = .ok (.putfield 18, 3) := by decide +kernel
theorem dX7_init_28 : decode cX7_init 28 = .ok (.aload_n 0, 1) := by decide +kernel
theorem dX7_init_29 : decode cX7_init 29 = .ok (.bipush 40, 2) := by decide +kernel
theorem dX7_init_31 : decode cX7_init 31 = .ok (.newarray .int, 2) := by decide +kernel
theorem dX7_init_33 : decode cX7_init 33 = .ok (.putfield 21, 3) := by decide +kernel
theorem dX7_init_36 : decode cX7_init 36 = .ok (.aload_n 0, 1) := by decide +kernel
theorem dX7_init_37 : decode cX7_init 37 = .ok (.bipush 40, 2) := by decide +kernel
theorem dX7_init_39 : decode cX7_init 39 = .ok (.newarray .int, 2) := by decide +kernel
theorem dX7_init_41 : decode cX7_init 41 = .ok (.putfield 24, 3) := by decide +kernel
theorem dX7_init_44 : decode cX7_init 44 = .ok (.aload_n 0, 1) := by decide +kernel
theorem dX7_init_45 : decode cX7_init 45 = .ok (.bipush 40, 2) := by decide +kernel
theorem dX7_init_47 : decode cX7_init 47 = .ok (.newarray .int, 2) := by decide +kernel
theorem dX7_init_49 : decode cX7_init 49 = .ok (.putfield 27, 3) := by decide +kernel
theorem dX7_init_52 : decode cX7_init 52 = .ok (.return_, 1) := by decide +kernel
theorem dX7_gather_0 : decode cX7_gather 0 = .ok (.aload_n 0, 1) := by decide +kernel
theorem dX7_gather_1 : decode cX7_gather 1 = .ok (.iconst 0, 1) := by decide +kernel
theorem dX7_gather_2 : decode cX7_gather 2 = .ok (.putfield 30, 3) := by decide +kernel
theorem dX7_gather_5 : decode cX7_gather 5 = .ok (.iconst 0, 1) := by decide +kernel
theorem dX7_gather_6 : decode cX7_gather 6 = .ok (.istore_n 3, 1) := by decide +kernel
theorem dX7_gather_7 : decode cX7_gather 7 = .ok (.iload_n 3, 1) := by decide +kernel
theorem dX7_gather_8 : decode cX7_gather 8 = .ok (.iload_n 2, 1) := by decide +kernel
theorem dX7_gather_9 : decode cX7_gather 9 = .ok (.if_icmp .ge 32, 3) := by decide +kernel
theorem dX7_gather_12 : decode cX7_gather 12 = .ok (.iload_n 3, 1) := by decide +kernel
theorem dX7_gather_13 : decode cX7_gather 13 = .ok (.bipush 40, 2) := by decide +kernel
theorem dX7_gather_15 : decode cX7_gather 15 = .ok (.if_icmp .ge 26, 3) := by decide +kernel
theorem dX7_gather_18 : decode cX7_gather 18 = .ok (.aload_n 1, 1) := by decide +kernel
theorem dX7_gather_19 : decode cX7_gather 19 = .ok (.iload_n 3, 1) := by decide +kernel
theorem dX7_gather_20 : decode cX7_gather 20 = .ok (.aaload, 1) := by decide +kernel
theorem dX7_gather_21 : decode cX7_gather 21 = .ok (.getfield 34, 3) := by decide +kernel
theorem dX7_gather_24 : decode cX7_gather 24 = .ok (.ifCond .eq 11, 3) := by decide +kernel
theorem dX7_gather_27 : decode cX7_gather 27 = .ok (.aload_n 0, 1) := by decide +kernel
theorem dX7_gather_28 : decode cX7_gather 28 = .ok (.iload_n 3, 1) := by decide +kernel
theorem dX7_gather_29 : decode cX7_gather 29 = .ok (.aload_n 1, 1) := by decide +kernel
theorem dX7_gather_30 : decode cX7_gather 30 = .ok (.iload_n 3, 1) := by decide +kernel
theorem dX7_gather_31 : decode cX7_gather 31 = .ok (.aaload, 1) := by decide +kernel
theorem dX7_gather_32 : decode cX7_gather 32 = .ok (.invokevirtual 40, 3) := by decide +kernel
theorem dX7_gather_35 : decode cX7_gather 35 = .ok (.iinc 3 1, 3) := by decide +kernel
theorem dX7_gather_38 : decode cX7_gather 38 = .ok (.goto (-31), 3) := by decide +kernel
theorem dX7_gather_41 : decode cX7_gather 41 = .ok (.aload_n 0, 1) := by decide +kernel
theorem dX7_gather_42 : decode cX7_gather 42 = .ok (.iconst 1, 1) := by decide +kernel
theorem dX7_gather_43 : decode cX7_gather 43 = .ok (.putfield 44, 3) := by decide +kernel
theorem dX7_gather_46 : decode cX7_gather 46 = .ok (.return_, 1) := by decide +kernel
theorem dX7_add_0 : decode cX7_add 0 = .ok (.aload_n 0, 1) := by decide +kernel
theorem dX7_add_1 : decode cX7_add 1 = .ok (.getfield 9, 3) := by decide +kernel
theorem dX7_add_4 : decode cX7_add 4 = .ok (.aload_n 0, 1) := by decide +kernel
theorem dX7_add_5 : decode cX7_add 5 = .ok (.getfield 30, 3) := by decide +kernel
theorem dX7_add_8 : decode cX7_add 8 = .ok (.iload_n 1, 1) := by decide +kernel
theorem dX7_add_9 : decode cX7_add 9 = .ok (.iastore, 1) := by decide +kernel
theorem dX7_add_10 : decode cX7_add 10 = .ok (.aload_n 0, 1) := by decide +kernel
theorem dX7_add_11 : decode cX7_add 11 = .ok (.getfield 15, 3) := by decide +kernel
theorem dX7_add_14 : decode cX7_add 14 = .ok (.aload_n 0, 1) := by decide +kernel
theorem dX7_add_15 : decode cX7_add 15 = .ok (.getfield 30, 3) := by decide +kernel
theorem dX7_add_18 : decode cX7_add 18 = .ok (.aload_n 2, 1) := by decide +kernel
theorem dX7_add_19 : decode cX7_add 19 = .ok (.getfield 47, 3) := by decide +kernel
theorem dX7_add_22 : decode cX7_add 22 = .ok (.iastore, 1) := by decide +kernel
theorem dX7_add_23 : decode cX7_add 23 = .ok (.aload_n 0, 1) := by decide +kernel
theorem dX7_add_24 : decode cX7_add 24 = .ok (.getfield 18, 3) := by decide +kernel
theorem dX7_add_27 : decode cX7_add 27 = .ok (.aload_n 0, 1) := by decide +kernel
theorem dX7_add_28 : decode cX7_add 28 = .ok (.getfield 30, 3) := by decide +kernel
theorem dX7_add_31 : decode cX7_add 31 = .ok (.aload_n 2, 1) := by decide +kernel
theorem dX7_add_32 : decode cX7_add 32 = .ok (.getfield 49, 3) := by decide +kernel
theorem dX7_add_35 : decode cX7_add 35 = .ok (.iastore, 1) := by decide +kernel
theorem dX7_add_36 : decode cX7_add 36 = .ok (.aload_n 0, 1) := by decide +kernel
theorem dX7_add_37 : decode cX7_add 37 = .ok (.getfield 21, 3) := by decide +kernel
theorem dX7_add_40 : decode cX7_add 40 = .ok (.aload_n 0, 1) := by decide +kernel
theorem dX7_add_41 : decode cX7_add 41 = .ok (.getfield 30, 3) := by decide +kernel
theorem dX7_add_44 : decode cX7_add 44 = .ok (.aload_n 2, 1) := by decide +kernel
theorem dX7_add_45 : decode cX7_add 45 = .ok (.getfield 51, 3) := by decide +kernel
theorem dX7_add_48 : decode cX7_add 48 = .ok (.iastore, 1) := by decide +kernel
theorem dX7_add_49 : decode cX7_add 49 = .ok (.aload_n 0, 1) := by decide +kernel
theorem dX7_add_50 : decode cX7_add 50 = .ok (.getfield 24, 3) := by decide +kernel
theorem dX7_add_53 : decode cX7_add 53 = .ok (.aload_n 0, 1) := by decide +kernel
theorem dX7_add_54 : decode cX7_add 54 = .ok (.getfield 30, 3) := by decide +kernel
theorem dX7_add_57 : decode cX7_add 57 = .ok (.aload_n 2, 1) := by decide +kernel
theorem dX7_add_58 : decode cX7_add 58 = .ok (.getfield 53, 3) := by decide +kernel
theorem dX7_add_61 : decode cX7_add 61 = .ok (.iastore, 1) := by decide +kernel
theorem dX7_add_62 : decode cX7_add 62 = .ok (.aload_n 0, 1) := by decide +kernel
theorem dX7_add_63 : decode cX7_add 63 = .ok (.getfield 27, 3) := by decide +kernel
theorem dX7_add_66 : decode cX7_add 66 = .ok (.aload_n 0, 1) := by decide +kernel
theorem dX7_add_67 : decode cX7_add 67 = .ok (.getfield 30, 3) := by decide +kernel
theorem dX7_add_70 : decode cX7_add 70 = .ok (.aload_n 2, 1) := by decide +kernel
theorem dX7_add_71 : decode cX7_add 71 = .ok (.getfield 55, 3) := by decide +kernel
theorem dX7_add_74 : decode cX7_add 74 = .ok (.iastore, 1) := by decide +kernel
theorem dX7_add_75 : decode cX7_add 75 = .ok (.aload_n 0, 1) := by decide +kernel
theorem dX7_add_76 : decode cX7_add 76 = .ok (.dup, 1) := by decide +kernel
theorem dX7_add_77 : decode cX7_add 77 = .ok (.getfield 30, 3) := by decide +kernel
theorem dX7_add_80 : decode cX7_add 80 = .ok (.iconst 1, 1) := by decide +kernel
theorem dX7_add_81 : decode cX7_add 81 = .ok (.iadd, 1) := by decide +kernel
theorem dX7_add_82 : decode cX7_add 82 = .ok (.putfield 30, 3) := by decide +kernel
theorem dX7_add_85 : decode cX7_add 85 = .ok (.return_, 1) := by decide +kernel
theorem dX7_placeOf_0 : decode cX7_placeOf 0 = .ok (.iconst 0, 1) := by decide +kernel
theorem dX7_placeOf_1 : decode cX7_placeOf 1 = .ok (.istore_n 2, 1) := by decide +kernel
theorem dX7_placeOf_2 : decode cX7_placeOf 2 = .ok (.iload_n 2, 1) := by decide +kernel
theorem dX7_placeOf_3 : decode cX7_placeOf 3 = .ok (.aload_n 0, 1) := by decide +kernel
theorem dX7_placeOf_4 : decode cX7_placeOf 4 = .ok (.getfield 30, 3) := by decide +kernel
theorem dX7_placeOf_7 : decode cX7_placeOf 7 = .ok (.if_icmp .ge 21, 3) := by decide +kernel
theorem dX7_placeOf_10 : decode cX7_placeOf 10 = .ok (.aload_n 0, 1) := by decide +kernel
theorem dX7_placeOf_11 : decode cX7_placeOf 11 = .ok (.getfield 9, 3) := by decide +kernel
theorem dX7_placeOf_14 : decode cX7_placeOf 14 = .ok (.iload_n 2, 1) := by decide +kernel
theorem dX7_placeOf_15 : decode cX7_placeOf 15 = .ok (.iaload, 1) := by decide +kernel
theorem dX7_placeOf_16 : decode cX7_placeOf 16 = .ok (.iload_n 1, 1) := by decide +kernel
theorem dX7_placeOf_17 : decode cX7_placeOf 17 = .ok (.if_icmp .ne 5, 3) := by decide +kernel
theorem dX7_placeOf_20 : decode cX7_placeOf 20 = .ok (.iload_n 2, 1) := by decide +kernel
theorem dX7_placeOf_21 : decode cX7_placeOf 21 = .ok (.ireturn, 1) := by decide +kernel
theorem dX7_placeOf_22 : decode cX7_placeOf 22 = .ok (.iinc 2 1, 3) := by decide +kernel
theorem dX7_placeOf_25 : decode cX7_placeOf 25 = .ok (.goto (-23), 3) := by decide +kernel
theorem dX7_placeOf_28 : decode cX7_placeOf 28 = .ok (.iconst (-1), 1) := by decide +kernel
theorem dX7_placeOf_29 : decode cX7_placeOf 29 = .ok (.ireturn, 1) := by decide +kernel
theorem dX7_isTogether_0 : decode cX7_isTogether 0 = .ok (.aload_n 0, 1) := by decide +kernel
theorem dX7_isTogether_1 : decode cX7_isTogether 1 = .ok (.getfield 15, 3) := by decide +kernel
theorem dX7_isTogether_4 : decode cX7_isTogether 4 = .ok (.iload_n 1, 1) := by decide +kernel
theorem dX7_isTogether_5 : decode cX7_isTogether 5 = .ok (.iaload, 1) := by decide +kernel
theorem dX7_isTogether_6 : decode cX7_isTogether 6 = .ok (.aload_n 0, 1) := by decide +kernel
theorem dX7_isTogether_7 : decode cX7_isTogether 7 = .ok (.getfield 15, 3) := by decide +kernel
theorem dX7_isTogether_10 : decode cX7_isTogether 10 = .ok (.iload_n 2, 1) := by decide +kernel
theorem dX7_isTogether_11 : decode cX7_isTogether 11 = .ok (.iaload, 1) := by decide +kernel
theorem dX7_isTogether_12 : decode cX7_isTogether 12 = .ok (.if_icmp .ne 22, 3) := by decide +kernel
theorem dX7_isTogether_15 : decode cX7_isTogether 15 = .ok (.aload_n 0, 1) := by decide +kernel
theorem dX7_isTogether_16 : decode cX7_isTogether 16 = .ok (.getfield 18, 3) := by decide +kernel
theorem dX7_isTogether_19 : decode cX7_isTogether 19 = .ok (.iload_n 1, 1) := by decide +kernel
theorem dX7_isTogether_20 : decode cX7_isTogether 20 = .ok (.iaload, 1) := by decide +kernel
theorem dX7_isTogether_21 : decode cX7_isTogether 21 = .ok (.aload_n 0, 1) := by decide +kernel
theorem dX7_isTogether_22 : decode cX7_isTogether 22 = .ok (.getfield 18, 3) := by decide +kernel
theorem dX7_isTogether_25 : decode cX7_isTogether 25 = .ok (.iload_n 2, 1) := by decide +kernel
theorem dX7_isTogether_26 : decode cX7_isTogether 26 = .ok (.iaload, 1) := by decide +kernel
theorem dX7_isTogether_27 : decode cX7_isTogether 27 = .ok (.if_icmp .ne 7, 3) := by decide +kernel
theorem dX7_isTogether_30 : decode cX7_isTogether 30 = .ok (.iconst 1, 1) := by decide +kernel
theorem dX7_isTogether_31 : decode cX7_isTogether 31 = .ok (.goto 4, 3) := by decide +kernel
theorem dX7_isTogether_34 : decode cX7_isTogether 34 = .ok (.iconst 0, 1) := by decide +kernel
theorem dX7_isTogether_35 : decode cX7_isTogether 35 = .ok (.ireturn, 1) := by decide +kernel
theorem dX7_row_0 : decode cX7_row 0 = .ok (.iload_n 1, 1) := by decide +kernel
theorem dX7_row_1 : decode cX7_row 1 = .ok (.ifCond .ne 8, 3) := by decide +kernel
theorem dX7_row_4 : decode cX7_row 4 = .ok (.aload_n 0, 1) := by decide +kernel
theorem dX7_row_5 : decode cX7_row 5 = .ok (.getfield 21, 3) := by decide +kernel
theorem dX7_row_8 : decode cX7_row 8 = .ok (.areturn, 1) := by decide +kernel
theorem dX7_row_9 : decode cX7_row 9 = .ok (.iload_n 1, 1) := by decide +kernel
theorem dX7_row_10 : decode cX7_row 10 = .ok (.iconst 1, 1) := by decide +kernel
theorem dX7_row_11 : decode cX7_row 11 = .ok (.if_icmp .ne 10, 3) := by decide +kernel
theorem dX7_row_14 : decode cX7_row 14 = .ok (.aload_n 0, 1) := by decide +kernel
theorem dX7_row_15 : decode cX7_row 15 = .ok (.getfield 24, 3) := by decide +kernel
theorem dX7_row_18 : decode cX7_row 18 = .ok (.goto 7, 3) := by decide +kernel
theorem dX7_row_21 : decode cX7_row 21 = .ok (.aload_n 0, 1) := by decide +kernel
theorem dX7_row_22 : decode cX7_row 22 = .ok (.getfield 27, 3) := by decide +kernel
theorem dX7_row_25 : decode cX7_row 25 = .ok (.areturn, 1) := by decide +kernel
theorem dX7_total_0 : decode cX7_total 0 = .ok (.aload_n 0, 1) := by decide +kernel
theorem dX7_total_1 : decode cX7_total 1 = .ok (.iload_n 1, 1) := by decide +kernel
theorem dX7_total_2 : decode cX7_total 2 = .ok (.invokevirtual 57, 3) := by decide +kernel
theorem dX7_total_5 : decode cX7_total 5 = .ok (.astore_n 2, 1) := by decide +kernel
theorem dX7_total_6 : decode cX7_total 6 = .ok (.iconst 0, 1) := by decide +kernel
theorem dX7_total_7 : decode cX7_total 7 = .ok (.istore_n 3, 1) := by decide +kernel
theorem dX7_total_8 : decode cX7_total 8 = .ok (.iconst 0, 1) := by decide +kernel
theorem dX7_total_9 : decode cX7_total 9 = .ok (.istore 4, 2) := by decide +kernel
theorem dX7_total_11 : decode cX7_total 11 = .ok (.iload 4, 2) := by decide +kernel
theorem dX7_total_13 : decode cX7_total 13 = .ok (.aload_n 0, 1) := by decide +kernel
theorem dX7_total_14 : decode cX7_total 14 = .ok (.getfield 30, 3) := by decide +kernel
theorem dX7_total_17 : decode cX7_total 17 = .ok (.if_icmp .ge 16, 3) := by decide +kernel
theorem dX7_total_20 : decode cX7_total 20 = .ok (.iload_n 3, 1) := by decide +kernel
theorem dX7_total_21 : decode cX7_total 21 = .ok (.aload_n 2, 1) := by decide +kernel
theorem dX7_total_22 : decode cX7_total 22 = .ok (.iload 4, 2) := by decide +kernel
theorem dX7_total_24 : decode cX7_total 24 = .ok (.iaload, 1) := by decide +kernel
theorem dX7_total_25 : decode cX7_total 25 = .ok (.iadd, 1) := by decide +kernel
theorem dX7_total_26 : decode cX7_total 26 = .ok (.istore_n 3, 1) := by decide +kernel
theorem dX7_total_27 : decode cX7_total 27 = .ok (.iinc 4 1, 3) := by decide +kernel
theorem dX7_total_30 : decode cX7_total 30 = .ok (.goto (-19), 3) := by decide +kernel
theorem dX7_total_33 : decode cX7_total 33 = .ok (.iload_n 3, 1) := by decide +kernel
theorem dX7_total_34 : decode cX7_total 34 = .ok (.ireturn, 1) := by decide +kernel
theorem dX7_sumAt_0 : decode cX7_sumAt 0 = .ok (.aload_n 0, 1) := by decide +kernel
theorem dX7_sumAt_1 : decode cX7_sumAt 1 = .ok (.iload_n 2, 1) := by decide +kernel
theorem dX7_sumAt_2 : decode cX7_sumAt 2 = .ok (.invokevirtual 57, 3) := by decide +kernel
theorem dX7_sumAt_5 : decode cX7_sumAt 5 = .ok (.astore 4, 2) := by decide +kernel
theorem dX7_sumAt_7 : decode cX7_sumAt 7 = .ok (.iconst 0, 1) := by decide +kernel
theorem dX7_sumAt_8 : decode cX7_sumAt 8 = .ok (.istore 5, 2) := by decide +kernel
theorem dX7_sumAt_10 : decode cX7_sumAt 10 = .ok (.iconst 0, 1) := by decide +kernel
theorem dX7_sumAt_11 : decode cX7_sumAt 11 = .ok (.istore 6, 2) := by decide +kernel
theorem dX7_sumAt_13 : decode cX7_sumAt 13 = .ok (.iload 6, 2) := by decide +kernel
theorem dX7_sumAt_15 : decode cX7_sumAt 15 = .ok (.aload_n 0, 1) := by decide +kernel
theorem dX7_sumAt_16 : decode cX7_sumAt 16 = .ok (.getfield 30, 3) := by decide +kernel
theorem dX7_sumAt_19 : decode cX7_sumAt 19 = .ok (.if_icmp .ge 41, 3) := by decide +kernel
theorem dX7_sumAt_22 : decode cX7_sumAt 22 = .ok (.aload_n 1, 1) := by decide +kernel
theorem dX7_sumAt_23 : decode cX7_sumAt 23 = .ok (.aload_n 0, 1) := by decide +kernel
theorem dX7_sumAt_24 : decode cX7_sumAt 24 = .ok (.getfield 15, 3) := by decide +kernel
theorem dX7_sumAt_27 : decode cX7_sumAt 27 = .ok (.iload 6, 2) := by decide +kernel
theorem dX7_sumAt_29 : decode cX7_sumAt 29 = .ok (.iaload, 1) := by decide +kernel
theorem dX7_sumAt_30 : decode cX7_sumAt 30 = .ok (.aload_n 0, 1) := by decide +kernel
theorem dX7_sumAt_31 : decode cX7_sumAt 31 = .ok (.getfield 18, 3) := by decide +kernel
theorem dX7_sumAt_34 : decode cX7_sumAt 34 = .ok (.iload 6, 2) := by decide +kernel
theorem dX7_sumAt_36 : decode cX7_sumAt 36 = .ok (.iaload, 1) := by decide +kernel
theorem dX7_sumAt_37 : decode cX7_sumAt 37 = .ok (.invokevirtual 61, 3) := by decide +kernel
theorem dX7_sumAt_40 : decode cX7_sumAt 40 = .ok (.iload_n 3, 1) := by decide +kernel
theorem dX7_sumAt_41 : decode cX7_sumAt 41 = .ok (.if_icmp .ne 13, 3) := by decide +kernel
theorem dX7_sumAt_44 : decode cX7_sumAt 44 = .ok (.iload 5, 2) := by decide +kernel
theorem dX7_sumAt_46 : decode cX7_sumAt 46 = .ok (.aload 4, 2) := by decide +kernel
theorem dX7_sumAt_48 : decode cX7_sumAt 48 = .ok (.iload 6, 2) := by decide +kernel
theorem dX7_sumAt_50 : decode cX7_sumAt 50 = .ok (.iaload, 1) := by decide +kernel
theorem dX7_sumAt_51 : decode cX7_sumAt 51 = .ok (.iadd, 1) := by decide +kernel
theorem dX7_sumAt_52 : decode cX7_sumAt 52 = .ok (.istore 5, 2) := by decide +kernel
theorem dX7_sumAt_54 : decode cX7_sumAt 54 = .ok (.iinc 6 1, 3) := by decide +kernel
theorem dX7_sumAt_57 : decode cX7_sumAt 57 = .ok (.goto (-44), 3) := by decide +kernel
theorem dX7_sumAt_60 : decode cX7_sumAt 60 = .ok (.iload 5, 2) := by decide +kernel
theorem dX7_sumAt_62 : decode cX7_sumAt 62 = .ok (.ireturn, 1) := by decide +kernel
theorem dX7_isHalvedBy_0 : decode cX7_isHalvedBy 0 = .ok (.aload_n 0, 1) := by decide +kernel
theorem dX7_isHalvedBy_1 : decode cX7_isHalvedBy 1 = .ok (.iload_n 2, 1) := by decide +kernel
theorem dX7_isHalvedBy_2 : decode cX7_isHalvedBy 2 = .ok (.invokevirtual 57, 3) := by decide +kernel
theorem dX7_isHalvedBy_5 : decode cX7_isHalvedBy 5 = .ok (.astore_n 3, 1) := by decide +kernel
theorem dX7_isHalvedBy_6 : decode cX7_isHalvedBy 6 = .ok (.iconst 0, 1) := by decide +kernel
theorem dX7_isHalvedBy_7 : decode cX7_isHalvedBy 7 = .ok (.istore 4, 2) := by decide +kernel
theorem dX7_isHalvedBy_9 : decode cX7_isHalvedBy 9 = .ok (.iconst 0, 1) := by decide +kernel
theorem dX7_isHalvedBy_10 : decode cX7_isHalvedBy 10 = .ok (.istore 5, 2) := by decide +kernel
theorem dX7_isHalvedBy_12 : decode cX7_isHalvedBy 12 = .ok (.iconst 0, 1) := by decide +kernel
theorem dX7_isHalvedBy_13 : decode cX7_isHalvedBy 13 = .ok (.istore 6, 2) := by decide +kernel
theorem dX7_isHalvedBy_15 : decode cX7_isHalvedBy 15 = .ok (.iconst 0, 1) := by decide +kernel
theorem dX7_isHalvedBy_16 : decode cX7_isHalvedBy 16 = .ok (.istore 7, 2) := by decide +kernel
theorem dX7_isHalvedBy_18 : decode cX7_isHalvedBy 18 = .ok (.iload 7, 2) := by decide +kernel
theorem dX7_isHalvedBy_20 : decode cX7_isHalvedBy 20 = .ok (.aload_n 0, 1) := by decide +kernel
theorem dX7_isHalvedBy_21 : decode cX7_isHalvedBy 21 = .ok (.getfield 30, 3) := by decide +kernel
theorem dX7_isHalvedBy_24 : decode cX7_isHalvedBy 24 = .ok (.if_icmp .ge 75, 3) := by decide +kernel
theorem dX7_isHalvedBy_27 : decode cX7_isHalvedBy 27 = .ok (.aload_n 1, 1) := by decide +kernel
theorem dX7_isHalvedBy_28 : decode cX7_isHalvedBy 28 = .ok (.aload_n 0, 1) := by decide +kernel
theorem dX7_isHalvedBy_29 : decode cX7_isHalvedBy 29 = .ok (.getfield 15, 3) := by decide +kernel
theorem dX7_isHalvedBy_32 : decode cX7_isHalvedBy 32 = .ok (.iload 7, 2) := by decide +kernel
theorem dX7_isHalvedBy_34 : decode cX7_isHalvedBy 34 = .ok (.iaload, 1) := by decide +kernel
theorem dX7_isHalvedBy_35 : decode cX7_isHalvedBy 35 = .ok (.aload_n 0, 1) := by decide +kernel
theorem dX7_isHalvedBy_36 : decode cX7_isHalvedBy 36 = .ok (.getfield 18, 3) := by decide +kernel
theorem dX7_isHalvedBy_39 : decode cX7_isHalvedBy 39 = .ok (.iload 7, 2) := by decide +kernel
theorem dX7_isHalvedBy_41 : decode cX7_isHalvedBy 41 = .ok (.iaload, 1) := by decide +kernel
theorem dX7_isHalvedBy_42 : decode cX7_isHalvedBy 42 = .ok (.invokevirtual 61, 3) := by decide +kernel
theorem dX7_isHalvedBy_45 : decode cX7_isHalvedBy 45 = .ok (.istore 8, 2) := by decide +kernel
theorem dX7_isHalvedBy_47 : decode cX7_isHalvedBy 47 = .ok (.iload 4, 2) := by decide +kernel
theorem dX7_isHalvedBy_49 : decode cX7_isHalvedBy 49 = .ok (.aload_n 3, 1) := by decide +kernel
theorem dX7_isHalvedBy_50 : decode cX7_isHalvedBy 50 = .ok (.iload 7, 2) := by decide +kernel
theorem dX7_isHalvedBy_52 : decode cX7_isHalvedBy 52 = .ok (.iaload, 1) := by decide +kernel
theorem dX7_isHalvedBy_53 : decode cX7_isHalvedBy 53 = .ok (.iadd, 1) := by decide +kernel
theorem dX7_isHalvedBy_54 : decode cX7_isHalvedBy 54 = .ok (.istore 4, 2) := by decide +kernel
theorem dX7_isHalvedBy_56 : decode cX7_isHalvedBy 56 = .ok (.iload 5, 2) := by decide +kernel
theorem dX7_isHalvedBy_58 : decode cX7_isHalvedBy 58 = .ok (.iload 8, 2) := by decide +kernel
theorem dX7_isHalvedBy_60 : decode cX7_isHalvedBy 60 = .ok (.ifCond .ne 10, 3) := by decide +kernel
theorem dX7_isHalvedBy_63 : decode cX7_isHalvedBy 63 = .ok (.aload_n 3, 1) := by decide +kernel
theorem dX7_isHalvedBy_64 : decode cX7_isHalvedBy 64 = .ok (.iload 7, 2) := by decide +kernel
theorem dX7_isHalvedBy_66 : decode cX7_isHalvedBy 66 = .ok (.iaload, 1) := by decide +kernel
theorem dX7_isHalvedBy_67 : decode cX7_isHalvedBy 67 = .ok (.goto 4, 3) := by decide +kernel
theorem dX7_isHalvedBy_70 : decode cX7_isHalvedBy 70 = .ok (.iconst 0, 1) := by decide +kernel
theorem dX7_isHalvedBy_71 : decode cX7_isHalvedBy 71 = .ok (.iadd, 1) := by decide +kernel
theorem dX7_isHalvedBy_72 : decode cX7_isHalvedBy 72 = .ok (.istore 5, 2) := by decide +kernel
theorem dX7_isHalvedBy_74 : decode cX7_isHalvedBy 74 = .ok (.iload 6, 2) := by decide +kernel
theorem dX7_isHalvedBy_76 : decode cX7_isHalvedBy 76 = .ok (.iload 8, 2) := by decide +kernel
theorem dX7_isHalvedBy_78 : decode cX7_isHalvedBy 78 = .ok (.iconst 2, 1) := by decide +kernel
theorem dX7_isHalvedBy_79 : decode cX7_isHalvedBy 79 = .ok (.if_icmp .ne 10, 3) := by decide +kernel
theorem dX7_isHalvedBy_82 : decode cX7_isHalvedBy 82 = .ok (.aload_n 3, 1) := by decide +kernel
theorem dX7_isHalvedBy_83 : decode cX7_isHalvedBy 83 = .ok (.iload 7, 2) := by decide +kernel
theorem dX7_isHalvedBy_85 : decode cX7_isHalvedBy 85 = .ok (.iaload, 1) := by decide +kernel
theorem dX7_isHalvedBy_86 : decode cX7_isHalvedBy 86 = .ok (.goto 4, 3) := by decide +kernel
theorem dX7_isHalvedBy_89 : decode cX7_isHalvedBy 89 = .ok (.iconst 0, 1) := by decide +kernel
theorem dX7_isHalvedBy_90 : decode cX7_isHalvedBy 90 = .ok (.iadd, 1) := by decide +kernel
theorem dX7_isHalvedBy_91 : decode cX7_isHalvedBy 91 = .ok (.istore 6, 2) := by decide +kernel
theorem dX7_isHalvedBy_93 : decode cX7_isHalvedBy 93 = .ok (.iinc 7 1, 3) := by decide +kernel
theorem dX7_isHalvedBy_96 : decode cX7_isHalvedBy 96 = .ok (.goto (-78), 3) := by decide +kernel
theorem dX7_isHalvedBy_99 : decode cX7_isHalvedBy 99 = .ok (.iconst 2, 1) := by decide +kernel
theorem dX7_isHalvedBy_100 : decode cX7_isHalvedBy 100 = .ok (.iload 5, 2) := by decide +kernel
theorem dX7_isHalvedBy_102 : decode cX7_isHalvedBy 102 = .ok (.imul, 1) := by decide +kernel
theorem dX7_isHalvedBy_103 : decode cX7_isHalvedBy 103 = .ok (.iload 4, 2) := by decide +kernel
theorem dX7_isHalvedBy_105 : decode cX7_isHalvedBy 105 = .ok (.if_icmp .gt 16, 3) := by decide +kernel
theorem dX7_isHalvedBy_108 : decode cX7_isHalvedBy 108 = .ok (.iconst 2, 1) := by decide +kernel
theorem dX7_isHalvedBy_109 : decode cX7_isHalvedBy 109 = .ok (.iload 6, 2) := by decide +kernel
theorem dX7_isHalvedBy_111 : decode cX7_isHalvedBy 111 = .ok (.imul, 1) := by decide +kernel
theorem dX7_isHalvedBy_112 : decode cX7_isHalvedBy 112 = .ok (.iload 4, 2) := by decide +kernel
theorem dX7_isHalvedBy_114 : decode cX7_isHalvedBy 114 = .ok (.if_icmp .gt 7, 3) := by decide +kernel
theorem dX7_isHalvedBy_117 : decode cX7_isHalvedBy 117 = .ok (.iconst 1, 1) := by decide +kernel
theorem dX7_isHalvedBy_118 : decode cX7_isHalvedBy 118 = .ok (.goto 4, 3) := by decide +kernel
theorem dX7_isHalvedBy_121 : decode cX7_isHalvedBy 121 = .ok (.iconst 0, 1) := by decide +kernel
theorem dX7_isHalvedBy_122 : decode cX7_isHalvedBy 122 = .ok (.ireturn, 1) := by decide +kernel
theorem dX7_turn_0 : decode cX7_turn 0 = .ok (.aload_n 0, 1) := by decide +kernel
theorem dX7_turn_1 : decode cX7_turn 1 = .ok (.getfield 15, 3) := by decide +kernel
theorem dX7_turn_4 : decode cX7_turn 4 = .ok (.iload_n 2, 1) := by decide +kernel
theorem dX7_turn_5 : decode cX7_turn 5 = .ok (.iaload, 1) := by decide +kernel
theorem dX7_turn_6 : decode cX7_turn 6 = .ok (.aload_n 0, 1) := by decide +kernel
theorem dX7_turn_7 : decode cX7_turn 7 = .ok (.getfield 15, 3) := by decide +kernel
theorem dX7_turn_10 : decode cX7_turn 10 = .ok (.iload_n 1, 1) := by decide +kernel
theorem dX7_turn_11 : decode cX7_turn 11 = .ok (.iaload, 1) := by decide +kernel
theorem dX7_turn_12 : decode cX7_turn 12 = .ok (.isub, 1) := by decide +kernel
theorem dX7_turn_13 : decode cX7_turn 13 = .ok (.aload_n 0, 1) := by decide +kernel
theorem dX7_turn_14 : decode cX7_turn 14 = .ok (.getfield 18, 3) := by decide +kernel
theorem dX7_turn_17 : decode cX7_turn 17 = .ok (.iload_n 3, 1) := by decide +kernel
theorem dX7_turn_18 : decode cX7_turn 18 = .ok (.iaload, 1) := by decide +kernel
theorem dX7_turn_19 : decode cX7_turn 19 = .ok (.aload_n 0, 1) := by decide +kernel
theorem dX7_turn_20 : decode cX7_turn 20 = .ok (.getfield 18, 3) := by decide +kernel
theorem dX7_turn_23 : decode cX7_turn 23 = .ok (.iload_n 1, 1) := by decide +kernel
theorem dX7_turn_24 : decode cX7_turn 24 = .ok (.iaload, 1) := by decide +kernel
theorem dX7_turn_25 : decode cX7_turn 25 = .ok (.isub, 1) := by decide +kernel
theorem dX7_turn_26 : decode cX7_turn 26 = .ok (.imul, 1) := by decide +kernel
theorem dX7_turn_27 : decode cX7_turn 27 = .ok (.aload_n 0, 1) := by decide +kernel
theorem dX7_turn_28 : decode cX7_turn 28 = .ok (.getfield 18, 3) := by decide +kernel
theorem dX7_turn_31 : decode cX7_turn 31 = .ok (.iload_n 2, 1) := by decide +kernel
theorem dX7_turn_32 : decode cX7_turn 32 = .ok (.iaload, 1) := by decide +kernel
theorem dX7_turn_33 : decode cX7_turn 33 = .ok (.aload_n 0, 1) := by decide +kernel
theorem dX7_turn_34 : decode cX7_turn 34 = .ok (.getfield 18, 3) := by decide +kernel
theorem dX7_turn_37 : decode cX7_turn 37 = .ok (.iload_n 1, 1) := by decide +kernel
theorem dX7_turn_38 : decode cX7_turn 38 = .ok (.iaload, 1) := by decide +kernel
theorem dX7_turn_39 : decode cX7_turn 39 = .ok (.isub, 1) := by decide +kernel
theorem dX7_turn_40 : decode cX7_turn 40 = .ok (.aload_n 0, 1) := by decide +kernel
theorem dX7_turn_41 : decode cX7_turn 41 = .ok (.getfield 15, 3) := by decide +kernel
theorem dX7_turn_44 : decode cX7_turn 44 = .ok (.iload_n 3, 1) := by decide +kernel
theorem dX7_turn_45 : decode cX7_turn 45 = .ok (.iaload, 1) := by decide +kernel
theorem dX7_turn_46 : decode cX7_turn 46 = .ok (.aload_n 0, 1) := by decide +kernel
theorem dX7_turn_47 : decode cX7_turn 47 = .ok (.getfield 15, 3) := by decide +kernel
theorem dX7_turn_50 : decode cX7_turn 50 = .ok (.iload_n 1, 1) := by decide +kernel
theorem dX7_turn_51 : decode cX7_turn 51 = .ok (.iaload, 1) := by decide +kernel
theorem dX7_turn_52 : decode cX7_turn 52 = .ok (.isub, 1) := by decide +kernel
theorem dX7_turn_53 : decode cX7_turn 53 = .ok (.imul, 1) := by decide +kernel
theorem dX7_turn_54 : decode cX7_turn 54 = .ok (.isub, 1) := by decide +kernel
theorem dX7_turn_55 : decode cX7_turn 55 = .ok (.ireturn, 1) := by decide +kernel
theorem dX8_init_0 : decode cX8_init 0 = .ok (.aload_n 0, 1) := by decide +kernel
theorem dX8_init_1 : decode cX8_init 1 = .ok (.invokespecial 3, 3) := by decide +kernel
theorem dX8_init_4 : decode cX8_init 4 = .ok (.aload_n 0, 1) := by decide +kernel
theorem dX8_init_5 : decode cX8_init 5 = .ok (.bipush 40, 2) := by decide +kernel
theorem dX8_init_7 : decode cX8_init 7 = .ok (.newarray .int, 2) := by decide +kernel
theorem dX8_init_9 : decode cX8_init 9 = .ok (.putfield 9, 3) := by decide +kernel
theorem dX8_init_12 : decode cX8_init 12 = .ok (.return_, 1) := by decide +kernel
theorem dX8_findWidest_0 : decode cX8_findWidest 0 = .ok (.aload_n 0, 1) := by decide +kernel
theorem dX8_findWidest_1 : decode cX8_findWidest 1 = .ok (.lconst 0, 1) := by decide +kernel
theorem dX8_findWidest_2 : decode cX8_findWidest 2 = .ok (.putfield 15, 3) := by decide +kernel
theorem dX8_findWidest_5 : decode cX8_findWidest 5 = .ok (.aload_n 0, 1) := by decide +kernel
theorem dX8_findWidest_6 : decode cX8_findWidest 6 = .ok (.lconst 1, 1) := by decide +kernel
theorem dX8_findWidest_7 : decode cX8_findWidest 7 = .ok (.putfield 19, 3) := by decide +kernel
theorem dX8_findWidest_10 : decode cX8_findWidest 10 = .ok (.iconst 0, 1) := by decide +kernel
theorem dX8_findWidest_11 : decode cX8_findWidest 11 = .ok (.istore_n 3, 1) := by decide +kernel
theorem dX8_findWidest_12 : decode cX8_findWidest 12 = .ok (.iload_n 3, 1) := by decide +kernel
theorem dX8_findWidest_13 : decode cX8_findWidest 13 = .ok (.aload_n 2, 1) := by decide +kernel
theorem dX8_findWidest_14 : decode cX8_findWidest 14 = .ok (.getfield 22, 3) := by decide +kernel
theorem dX8_findWidest_17 : decode cX8_findWidest 17 = .ok (.if_icmp .ge 44, 3) := by decide +kernel
theorem dX8_findWidest_20 : decode cX8_findWidest 20 = .ok (.aload_n 0, 1) := by decide +kernel
theorem dX8_findWidest_21 : decode cX8_findWidest 21 = .ok (.aload_n 1, 1) := by decide +kernel
theorem dX8_findWidest_22 : decode cX8_findWidest 22 = .ok (.aload_n 2, 1) := by decide +kernel
theorem dX8_findWidest_23 : decode cX8_findWidest 23 = .ok (.getfield 28, 3) := by decide +kernel
theorem dX8_findWidest_26 : decode cX8_findWidest 26 = .ok (.iload_n 3, 1) := by decide +kernel
theorem dX8_findWidest_27 : decode cX8_findWidest 27 = .ok (.iaload, 1) := by decide +kernel
theorem dX8_findWidest_28 : decode cX8_findWidest 28 = .ok (.aload_n 2, 1) := by decide +kernel
theorem dX8_findWidest_29 : decode cX8_findWidest 29 = .ok (.getfield 31, 3) := by decide +kernel
theorem dX8_findWidest_32 : decode cX8_findWidest 32 = .ok (.iload_n 3, 1) := by decide +kernel
theorem dX8_findWidest_33 : decode cX8_findWidest 33 = .ok (.iaload, 1) := by decide +kernel
theorem dX8_findWidest_34 : decode cX8_findWidest 34 = .ok (.invokevirtual 34, 3) := by decide +kernel
theorem dX8_findWidest_37 : decode cX8_findWidest 37 = .ok (.aload_n 0, 1) := by decide +kernel
theorem dX8_findWidest_38 : decode cX8_findWidest 38 = .ok (.aload_n 1, 1) := by decide +kernel
theorem dX8_findWidest_39 : decode cX8_findWidest 39 = .ok (.aload_n 2, 1) := by decide +kernel
theorem dX8_findWidest_40 : decode cX8_findWidest 40 = .ok (.getfield 31, 3) := by decide +kernel
theorem dX8_findWidest_43 : decode cX8_findWidest 43 = .ok (.iload_n 3, 1) := by decide +kernel
theorem dX8_findWidest_44 : decode cX8_findWidest 44 = .ok (.iaload, 1) := by decide +kernel
theorem dX8_findWidest_45 : decode cX8_findWidest 45 = .ok (.aload_n 2, 1) := by decide +kernel
theorem dX8_findWidest_46 : decode cX8_findWidest 46 = .ok (.getfield 28, 3) := by decide +kernel
theorem dX8_findWidest_49 : decode cX8_findWidest 49 = .ok (.iload_n 3, 1) := by decide +kernel
theorem dX8_findWidest_50 : decode cX8_findWidest 50 = .ok (.iaload, 1) := by decide +kernel
theorem dX8_findWidest_51 : decode cX8_findWidest 51 = .ok (.ineg, 1) := by decide +kernel
theorem dX8_findWidest_52 : decode cX8_findWidest 52 = .ok (.invokevirtual 34, 3) := by decide +kernel
theorem dX8_findWidest_55 : decode cX8_findWidest 55 = .ok (.iinc 3 1, 3) := by decide +kernel
theorem dX8_findWidest_58 : decode cX8_findWidest 58 = .ok (.goto (-46), 3) := by decide +kernel
theorem dX8_findWidest_61 : decode cX8_findWidest 61 = .ok (.aload_n 0, 1) := by decide +kernel
theorem dX8_findWidest_62 : decode cX8_findWidest 62 = .ok (.getfield 15, 3) := by decide +kernel
theorem dX8_findWidest_65 : decode cX8_findWidest 65 = .ok (.aload_n 0, 1) := by decide +kernel
theorem dX8_findWidest_66 : decode cX8_findWidest 66 = .ok (.getfield 19, 3) := by decide +kernel
theorem dX8_findWidest_69 : decode cX8_findWidest 69 = .ok (.invokestatic 38, 3) := by decide +kernel
theorem dX8_findWidest_72 : decode cX8_findWidest 72 = .ok (.lstore_n 3, 1) := by decide +kernel
theorem dX8_findWidest_73 : decode cX8_findWidest 73 = .ok (.lload_n 3, 1) := by decide +kernel
theorem dX8_findWidest_74 : decode cX8_findWidest 74 = .ok (.lconst 1, 1) := by decide +kernel
theorem dX8_findWidest_75 : decode cX8_findWidest 75 = .ok (.lcmp, 1) := by decide +kernel
theorem dX8_findWidest_76 : decode cX8_findWidest 76 = .ok (.ifCond .le 23, 3) := by decide +kernel
theorem dX8_findWidest_79 : decode cX8_findWidest 79 = .ok (.aload_n 0, 1) := by decide +kernel
theorem dX8_findWidest_80 : decode cX8_findWidest 80 = .ok (.aload_n 0, 1) := by decide +kernel
theorem dX8_findWidest_81 : decode cX8_findWidest 81 = .ok (.getfield 15, 3) := by decide +kernel
theorem dX8_findWidest_84 : decode cX8_findWidest 84 = .ok (.lload_n 3, 1) := by decide +kernel
theorem dX8_findWidest_85 : decode cX8_findWidest 85 = .ok (.ldiv, 1) := by decide +kernel
theorem dX8_findWidest_86 : decode cX8_findWidest 86 = .ok (.putfield 15, 3) := by decide +kernel
theorem dX8_findWidest_89 : decode cX8_findWidest 89 = .ok (.aload_n 0, 1) := by decide +kernel
theorem dX8_findWidest_90 : decode cX8_findWidest 90 = .ok (.aload_n 0, 1) := by decide +kernel
theorem dX8_findWidest_91 : decode cX8_findWidest 91 = .ok (.getfield 19, 3) := by decide +kernel
theorem dX8_findWidest_94 : decode cX8_findWidest 94 = .ok (.lload_n 3, 1) := by decide +kernel
theorem dX8_findWidest_95 : decode cX8_findWidest 95 = .ok (.ldiv, 1) := by decide +kernel
theorem dX8_findWidest_96 : decode cX8_findWidest 96 = .ok (.putfield 19, 3) := by decide +kernel
theorem dX8_findWidest_99 : decode cX8_findWidest 99 = .ok (.aload_n 0, 1) := by decide +kernel
theorem dX8_findWidest_100 : decode cX8_findWidest 100 = .ok (.iconst 1, 1) := by decide +kernel
theorem dX8_findWidest_101 : decode cX8_findWidest 101 = .ok (.putfield 42, 3) := by decide +kernel
theorem dX8_findWidest_104 : decode cX8_findWidest 104 = .ok (.return_, 1) := by decide +kernel
theorem dX8_consider_0 : decode cX8_consider 0 = .ok (.iconst 0, 1) := by decide +kernel
theorem dX8_consider_1 : decode cX8_consider 1 = .ok (.istore 4, 2) := by decide +kernel
theorem dX8_consider_3 : decode cX8_consider 3 = .ok (.iload 4, 2) := by decide +kernel
theorem dX8_consider_5 : decode cX8_consider 5 = .ok (.aload_n 1, 1) := by decide +kernel
theorem dX8_consider_6 : decode cX8_consider 6 = .ok (.getfield 46, 3) := by decide +kernel
theorem dX8_consider_9 : decode cX8_consider 9 = .ok (.if_icmp .ge 34, 3) := by decide +kernel
theorem dX8_consider_12 : decode cX8_consider 12 = .ok (.aload_n 0, 1) := by decide +kernel
theorem dX8_consider_13 : decode cX8_consider 13 = .ok (.iload 4, 2) := by decide +kernel
theorem dX8_consider_15 : decode cX8_consider 15 = .ok (.iload_n 2, 1) := by decide +kernel
theorem dX8_consider_16 : decode cX8_consider 16 = .ok (.aload_n 1, 1) := by decide +kernel
theorem dX8_consider_17 : decode cX8_consider 17 = .ok (.getfield 49, 3) := by decide +kernel
theorem dX8_consider_20 : decode cX8_consider 20 = .ok (.iload 4, 2) := by decide +kernel
theorem dX8_consider_22 : decode cX8_consider 22 = .ok (.iaload, 1) := by decide +kernel
theorem dX8_consider_23 : decode cX8_consider 23 = .ok (.imul, 1) := by decide +kernel
theorem dX8_consider_24 : decode cX8_consider 24 = .ok (.iload_n 3, 1) := by decide +kernel
theorem dX8_consider_25 : decode cX8_consider 25 = .ok (.aload_n 1, 1) := by decide +kernel
theorem dX8_consider_26 : decode cX8_consider 26 = .ok (.getfield 52, 3) := by decide +kernel
theorem dX8_consider_29 : decode cX8_consider 29 = .ok (.iload 4, 2) := by decide +kernel
theorem dX8_consider_31 : decode cX8_consider 31 = .ok (.iaload, 1) := by decide +kernel
theorem dX8_consider_32 : decode cX8_consider 32 = .ok (.imul, 1) := by decide +kernel
theorem dX8_consider_33 : decode cX8_consider 33 = .ok (.iadd, 1) := by decide +kernel
theorem dX8_consider_34 : decode cX8_consider 34 = .ok (.invokevirtual 55, 3) := by decide +kernel
theorem dX8_consider_37 : decode cX8_consider 37 = .ok (.iinc 4 1, 3) := by decide +kernel
theorem dX8_consider_40 : decode cX8_consider 40 = .ok (.goto (-37), 3) := by decide +kernel
theorem dX8_consider_43 : decode cX8_consider 43 = .ok (.lconst 0, 1) := by decide +kernel
theorem dX8_consider_44 : decode cX8_consider 44 = .ok (.lstore 4, 2) := by decide +kernel
theorem dX8_consider_46 : decode cX8_consider 46 = .ok (.iconst 1, 1) := by decide +kernel
theorem dX8_consider_47 : decode cX8_consider 47 = .ok (.istore 6, 2) := by decide +kernel
theorem dX8_consider_49 : decode cX8_consider 49 = .ok (.iload 6, 2) := by decide +kernel
theorem dX8_consider_51 : decode cX8_consider 51 = .ok (.aload_n 1, 1) := by decide +kernel
theorem dX8_consider_52 : decode cX8_consider 52 = .ok (.getfield 46, 3) := by decide +kernel
theorem dX8_consider_55 : decode cX8_consider 55 = .ok (.if_icmp .ge 34, 3) := by decide +kernel
theorem dX8_consider_58 : decode cX8_consider 58 = .ok (.lload 4, 2) := by decide +kernel
theorem dX8_consider_60 : decode cX8_consider 60 = .ok (.aload_n 0, 1) := by decide +kernel
theorem dX8_consider_61 : decode cX8_consider 61 = .ok (.getfield 9, 3) := by decide +kernel
theorem dX8_consider_64 : decode cX8_consider 64 = .ok (.iload 6, 2) := by decide +kernel
theorem dX8_consider_66 : decode cX8_consider 66 = .ok (.iaload, 1) := by decide +kernel
theorem dX8_consider_67 : decode cX8_consider 67 = .ok (.aload_n 0, 1) := by decide +kernel
theorem dX8_consider_68 : decode cX8_consider 68 = .ok (.getfield 9, 3) := by decide +kernel
theorem dX8_consider_71 : decode cX8_consider 71 = .ok (.iload 6, 2) := by decide +kernel
theorem dX8_consider_73 : decode cX8_consider 73 = .ok (.iconst 1, 1) := by decide +kernel
theorem dX8_consider_74 : decode cX8_consider 74 = .ok (.isub, 1) := by decide +kernel
theorem dX8_consider_75 : decode cX8_consider 75 = .ok (.iaload, 1) := by decide +kernel
theorem dX8_consider_76 : decode cX8_consider 76 = .ok (.isub, 1) := by decide +kernel
theorem dX8_consider_77 : decode cX8_consider 77 = .ok (.i2l, 1) := by decide +kernel
theorem dX8_consider_78 : decode cX8_consider 78 = .ok (.invokestatic 59, 3) := by decide +kernel
theorem dX8_consider_81 : decode cX8_consider 81 = .ok (.lstore 4, 2) := by decide +kernel
theorem dX8_consider_83 : decode cX8_consider 83 = .ok (.iinc 6 1, 3) := by decide +kernel
theorem dX8_consider_86 : decode cX8_consider 86 = .ok (.goto (-37), 3) := by decide +kernel
theorem dX8_consider_89 : decode cX8_consider 89 = .ok (.lload 4, 2) := by decide +kernel
theorem dX8_consider_91 : decode cX8_consider 91 = .ok (.lload 4, 2) := by decide +kernel
theorem dX8_consider_93 : decode cX8_consider 93 = .ok (.lmul, 1) := by decide +kernel
theorem dX8_consider_94 : decode cX8_consider 94 = .ok (.lstore 6, 2) := by decide +kernel
theorem dX8_consider_96 : decode cX8_consider 96 = .ok (.iload_n 2, 1) := by decide +kernel
theorem dX8_consider_97 : decode cX8_consider 97 = .ok (.i2l, 1) := by decide +kernel
theorem dX8_consider_98 : decode cX8_consider 98 = .ok (.iload_n 2, 1) := by decide +kernel
theorem dX8_consider_99 : decode cX8_consider 99 = .ok (.i2l, 1) := by decide +kernel
theorem dX8_consider_100 : decode cX8_consider 100 = .ok (.lmul, 1) := by decide +kernel
theorem dX8_consider_101 : decode cX8_consider 101 = .ok (.iload_n 3, 1) := by decide +kernel
theorem dX8_consider_102 : decode cX8_consider 102 = .ok (.i2l, 1) := by decide +kernel
theorem dX8_consider_103 : decode cX8_consider 103 = .ok (.iload_n 3, 1) := by decide +kernel
theorem dX8_consider_104 : decode cX8_consider 104 = .ok (.i2l, 1) := by decide +kernel
theorem dX8_consider_105 : decode cX8_consider 105 = .ok (.lmul, 1) := by decide +kernel
theorem dX8_consider_106 : decode cX8_consider 106 = .ok (.ladd, 1) := by decide +kernel
theorem dX8_consider_107 : decode cX8_consider 107 = .ok (.lstore 8, 2) := by decide +kernel
theorem dX8_consider_109 : decode cX8_consider 109 = .ok (.lload 6, 2) := by decide +kernel
theorem dX8_consider_111 : decode cX8_consider 111 = .ok (.aload_n 0, 1) := by decide +kernel
theorem dX8_consider_112 : decode cX8_consider 112 = .ok (.getfield 19, 3) := by decide +kernel
theorem dX8_consider_115 : decode cX8_consider 115 = .ok (.lmul, 1) := by decide +kernel
theorem dX8_consider_116 : decode cX8_consider 116 = .ok (.aload_n 0, 1) := by decide +kernel
theorem dX8_consider_117 : decode cX8_consider 117 = .ok (.getfield 15, 3) := by decide +kernel
theorem dX8_consider_120 : decode cX8_consider 120 = .ok (.lload 8, 2) := by decide +kernel
theorem dX8_consider_122 : decode cX8_consider 122 = .ok (.lmul, 1) := by decide +kernel
theorem dX8_consider_123 : decode cX8_consider 123 = .ok (.lcmp, 1) := by decide +kernel
theorem dX8_consider_124 : decode cX8_consider 124 = .ok (.ifCond .le 15, 3) := by decide +kernel
theorem dX8_consider_127 : decode cX8_consider 127 = .ok (.aload_n 0, 1) := by decide +kernel
theorem dX8_consider_128 : decode cX8_consider 128 = .ok (.lload 6, 2) := by decide +kernel
theorem dX8_consider_130 : decode cX8_consider 130 = .ok (.putfield 15, 3) := by decide +kernel
theorem dX8_consider_133 : decode cX8_consider 133 = .ok (.aload_n 0, 1) := by decide +kernel
theorem dX8_consider_134 : decode cX8_consider 134 = .ok (.lload 8, 2) := by decide +kernel
theorem dX8_consider_136 : decode cX8_consider 136 = .ok (.putfield 19, 3) := by decide +kernel
theorem dX8_consider_139 : decode cX8_consider 139 = .ok (.return_, 1) := by decide +kernel
theorem dX8_putInOrder_0 : decode cX8_putInOrder 0 = .ok (.iload_n 1, 1) := by decide +kernel
theorem dX8_putInOrder_1 : decode cX8_putInOrder 1 = .ok (.istore_n 3, 1) := by decide +kernel
theorem dX8_putInOrder_2 : decode cX8_putInOrder 2 = .ok (.iload_n 3, 1) := by decide +kernel
theorem dX8_putInOrder_3 : decode cX8_putInOrder 3 = .ok (.ifCond .le 35, 3) := by decide +kernel
theorem dX8_putInOrder_6 : decode cX8_putInOrder 6 = .ok (.aload_n 0, 1) := by decide +kernel
theorem dX8_putInOrder_7 : decode cX8_putInOrder 7 = .ok (.getfield 9, 3) := by decide +kernel
theorem dX8_putInOrder_10 : decode cX8_putInOrder 10 = .ok (.iload_n 3, 1) := by decide +kernel
theorem dX8_putInOrder_11 : decode cX8_putInOrder 11 = .ok (.iconst 1, 1) := by decide +kernel
theorem dX8_putInOrder_12 : decode cX8_putInOrder 12 = .ok (.isub, 1) := by decide +kernel
theorem dX8_putInOrder_13 : decode cX8_putInOrder 13 = .ok (.iaload, 1) := by decide +kernel
theorem dX8_putInOrder_14 : decode cX8_putInOrder 14 = .ok (.iload_n 2, 1) := by decide +kernel
theorem dX8_putInOrder_15 : decode cX8_putInOrder 15 = .ok (.if_icmp .le 23, 3) := by decide +kernel
theorem dX8_putInOrder_18 : decode cX8_putInOrder 18 = .ok (.aload_n 0, 1) := by decide +kernel
theorem dX8_putInOrder_19 : decode cX8_putInOrder 19 = .ok (.getfield 9, 3) := by decide +kernel
theorem dX8_putInOrder_22 : decode cX8_putInOrder 22 = .ok (.iload_n 3, 1) := by decide +kernel
theorem dX8_putInOrder_23 : decode cX8_putInOrder 23 = .ok (.aload_n 0, 1) := by decide +kernel
theorem dX8_putInOrder_24 : decode cX8_putInOrder 24 = .ok (.getfield 9, 3) := by decide +kernel
theorem dX8_putInOrder_27 : decode cX8_putInOrder 27 = .ok (.iload_n 3, 1) := by decide +kernel
theorem dX8_putInOrder_28 : decode cX8_putInOrder 28 = .ok (.iconst 1, 1) := by decide +kernel
theorem dX8_putInOrder_29 : decode cX8_putInOrder 29 = .ok (.isub, 1) := by decide +kernel
theorem dX8_putInOrder_30 : decode cX8_putInOrder 30 = .ok (.iaload, 1) := by decide +kernel
theorem dX8_putInOrder_31 : decode cX8_putInOrder 31 = .ok (.iastore, 1) := by decide +kernel
theorem dX8_putInOrder_32 : decode cX8_putInOrder 32 = .ok (.iinc 3 (-1), 3) := by decide +kernel
theorem dX8_putInOrder_35 : decode cX8_putInOrder 35 = .ok (.goto (-33), 3) := by decide +kernel
theorem dX8_putInOrder_38 : decode cX8_putInOrder 38 = .ok (.aload_n 0, 1) := by decide +kernel
theorem dX8_putInOrder_39 : decode cX8_putInOrder 39 = .ok (.getfield 9, 3) := by decide +kernel
theorem dX8_putInOrder_42 : decode cX8_putInOrder 42 = .ok (.iload_n 3, 1) := by decide +kernel
theorem dX8_putInOrder_43 : decode cX8_putInOrder 43 = .ok (.iload_n 2, 1) := by decide +kernel
theorem dX8_putInOrder_44 : decode cX8_putInOrder 44 = .ok (.iastore, 1) := by decide +kernel
theorem dX8_putInOrder_45 : decode cX8_putInOrder 45 = .ok (.return_, 1) := by decide +kernel
theorem dX9_init_0 : decode cX9_init 0 = .ok (.aload_n 0, 1) := by decide +kernel
theorem dX9_init_1 : decode cX9_init 1 = .ok (.invokespecial 1, 3) := by decide +kernel
theorem dX9_init_4 : decode cX9_init 4 = .ok (.aload_n 0, 1) := by decide +kernel
theorem dX9_init_5 : decode cX9_init 5 = .ok (.iload_n 1, 1) := by decide +kernel
theorem dX9_init_6 : decode cX9_init 6 = .ok (.ifCond .le 7, 3) := by decide +kernel
theorem dX9_init_9 : decode cX9_init 9 = .ok (.iload_n 1, 1) := by decide +kernel
theorem dX9_init_10 : decode cX9_init 10 = .ok (.goto 4, 3) := by decide +kernel
theorem dX9_init_13 : decode cX9_init 13 = .ok (.iconst 0, 1) := by decide +kernel
theorem dX9_init_14 : decode cX9_init 14 = .ok (.newarray .int, 2) := by decide +kernel
theorem dX9_init_16 : decode cX9_init 16 = .ok (.putfield 7, 3) := by decide +kernel
theorem dX9_init_19 : decode cX9_init 19 = .ok (.return_, 1) := by decide +kernel
theorem dX9_leave_0 : decode cX9_leave 0 = .ok (.aload_n 0, 1) := by decide +kernel
theorem dX9_leave_1 : decode cX9_leave 1 = .ok (.getfield 13, 3) := by decide +kernel
theorem dX9_leave_4 : decode cX9_leave 4 = .ok (.ifCond .lt 35, 3) := by decide +kernel
theorem dX9_leave_7 : decode cX9_leave 7 = .ok (.aload_n 0, 1) := by decide +kernel
theorem dX9_leave_8 : decode cX9_leave 8 = .ok (.getfield 13, 3) := by decide +kernel
theorem dX9_leave_11 : decode cX9_leave 11 = .ok (.aload_n 0, 1) := by decide +kernel
theorem dX9_leave_12 : decode cX9_leave 12 = .ok (.getfield 7, 3) := by decide +kernel
theorem dX9_leave_15 : decode cX9_leave 15 = .ok (.arraylength, 1) := by decide +kernel
theorem dX9_leave_16 : decode cX9_leave 16 = .ok (.if_icmp .ge 23, 3) := by decide +kernel
theorem dX9_leave_19 : decode cX9_leave 19 = .ok (.aload_n 0, 1) := by decide +kernel
theorem dX9_leave_20 : decode cX9_leave 20 = .ok (.getfield 7, 3) := by decide +kernel
theorem dX9_leave_23 : decode cX9_leave 23 = .ok (.aload_n 0, 1) := by decide +kernel
theorem dX9_leave_24 : decode cX9_leave 24 = .ok (.getfield 13, 3) := by decide +kernel
theorem dX9_leave_27 : decode cX9_leave 27 = .ok (.iload_n 1, 1) := by decide +kernel
theorem dX9_leave_28 : decode cX9_leave 28 = .ok (.iastore, 1) := by decide +kernel
theorem dX9_leave_29 : decode cX9_leave 29 = .ok (.aload_n 0, 1) := by decide +kernel
theorem dX9_leave_30 : decode cX9_leave 30 = .ok (.dup, 1) := by decide +kernel
theorem dX9_leave_31 : decode cX9_leave 31 = .ok (.getfield 13, 3) := by decide +kernel
theorem dX9_leave_34 : decode cX9_leave 34 = .ok (.iconst 1, 1) := by decide +kernel
theorem dX9_leave_35 : decode cX9_leave 35 = .ok (.iadd, 1) := by decide +kernel
theorem dX9_leave_36 : decode cX9_leave 36 = .ok (.putfield 13, 3) := by decide +kernel
theorem dX9_leave_39 : decode cX9_leave 39 = .ok (.return_, 1) := by decide +kernel
theorem dX10_init_0 : decode cX10_init 0 = .ok (.aload_n 0, 1) := by decide +kernel
theorem dX10_init_1 : decode cX10_init 1 = .ok (.invokespecial 1, 3) := by decide +kernel
theorem dX10_init_4 : decode cX10_init 4 = .ok (.aload_n 0, 1) := by decide +kernel
theorem dX10_init_5 : decode cX10_init 5 = .ok (.bipush 8, 2) := by decide +kernel
theorem dX10_init_7 : decode cX10_init 7 = .ok (.anewarray 9, 3) := by decide +kernel
theorem dX10_init_10 : decode cX10_init 10 = .ok (.putfield 11, 3) := by decide +kernel
theorem dX10_init_13 : decode cX10_init 13 = .ok (.iconst 0, 1) := by decide +kernel
theorem dX10_init_14 : decode cX10_init 14 = .ok (.istore_n 1, 1) := by decide +kernel
theorem dX10_init_15 : decode cX10_init 15 = .ok (.iload_n 1, 1) := by decide +kernel
theorem dX10_init_16 : decode cX10_init 16 = .ok (.bipush 8, 2) := by decide +kernel
theorem dX10_init_18 : decode cX10_init 18 = .ok (.if_icmp .ge 22, 3) := by decide +kernel
theorem dX10_init_21 : decode cX10_init 21 = .ok (.aload_n 0, 1) := by decide +kernel
theorem dX10_init_22 : decode cX10_init 22 = .ok (.getfield 11, 3) := by decide +kernel
theorem dX10_init_25 : decode cX10_init 25 = .ok (.iload_n 1, 1) := by decide +kernel
theorem dX10_init_26 : decode cX10_init 26 = .ok (.new 9, 3) := by decide +kernel
theorem dX10_init_29 : decode cX10_init 29 = .ok (.dup, 1) := by decide +kernel
theorem dX10_init_30 : decode cX10_init 30 = .ok (.invokespecial 15, 3) := by decide +kernel
theorem dX10_init_33 : decode cX10_init 33 = .ok (.aastore, 1) := by decide +kernel
theorem dX10_init_34 : decode cX10_init 34 = .ok (.iinc 1 1, 3) := by decide +kernel
theorem dX10_init_37 : decode cX10_init 37 = .ok (.goto (-22), 3) := by decide +kernel
theorem dX10_init_40 : decode cX10_init 40 = .ok (.aload_n 0, 1) := by decide +kernel
theorem dX10_init_41 : decode cX10_init 41 = .ok (.bipush 40, 2) := by decide +kernel
theorem dX10_init_43 : decode cX10_init 43 = .ok (.anewarray 16, 3) := by decide +kernel
theorem dX10_init_46 : decode cX10_init 46 = .ok (.putfield 18, 3) := by decide +kernel
theorem dX10_init_49 : decode cX10_init 49 = .ok (.iconst 0, 1) := by decide +kernel
theorem dX10_init_50 : decode cX10_init 50 = .ok (.istore_n 1, 1) := by decide +kernel
theorem dX10_init_51 : decode cX10_init 51 = .ok (.iload_n 1, 1) := by decide +kernel
theorem dX10_init_52 : decode cX10_init 52 = .ok (.bipush 40, 2) := by decide +kernel
theorem dX10_init_54 : decode cX10_init 54 = .ok (.if_icmp .ge 22, 3) := by decide +kernel
theorem dX10_init_57 : decode cX10_init 57 = .ok (.aload_n 0, 1) := by decide +kernel
theorem dX10_init_58 : decode cX10_init 58 = .ok (.getfield 18, 3) := by decide +kernel
theorem dX10_init_61 : decode cX10_init 61 = .ok (.iload_n 1, 1) := by decide +kernel
theorem dX10_init_62 : decode cX10_init 62 = .ok (.new 16, 3) := by decide +kernel
theorem dX10_init_65 : decode cX10_init 65 = .ok (.dup, 1) := by decide +kernel
theorem dX10_init_66 : decode cX10_init 66 = .ok (.invokespecial 22, 3) := by decide +kernel
theorem dX10_init_69 : decode cX10_init 69 = .ok (.aastore, 1) := by decide +kernel
theorem dX10_init_70 : decode cX10_init 70 = .ok (.iinc 1 1, 3) := by decide +kernel
theorem dX10_init_73 : decode cX10_init 73 = .ok (.goto (-22), 3) := by decide +kernel
theorem dX10_init_76 : decode cX10_init 76 = .ok (.aload_n 0, 1) := by decide +kernel
theorem dX10_init_77 : decode cX10_init 77 = .ok (.new 23, 3) := by decide +kernel
theorem dX10_init_80 : decode cX10_init 80 = .ok (.dup, 1) := by decide +kernel
theorem dX10_init_81 : decode cX10_init 81 = .ok (.invokespecial 25, 3) := by decide +kernel
theorem dX10_init_84 : decode cX10_init 84 = .ok (.putfield 26, 3) := by decide +kernel
theorem dX10_init_87 : decode cX10_init 87 = .ok (.aload_n 0, 1) := by decide +kernel
theorem dX10_init_88 : decode cX10_init 88 = .ok (.new 30, 3) := by decide +kernel
