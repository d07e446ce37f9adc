theorem dX10_init_91 : decode cX10_init 91 = .ok (.dup, 1) := by decide +kernel
theorem dX10_init_92 : decode cX10_init 92 = .ok (.bipush 16, 2) := by decide +kernel
theorem dX10_init_94 : decode cX10_init 94 = .ok (.invokespecial 32, 3) := by decide +kernel
theorem dX10_init_97 : decode cX10_init 97 = .ok (.putfield 35, 3) := by decide +kernel
theorem dX10_init_100 : decode cX10_init 100 = .ok (.aload_n 0, 1) := by decide +kernel
theorem dX10_init_101 : decode cX10_init 101 = .ok (.new 30, 3) := by decide +kernel
theorem dX10_init_104 : decode cX10_init 104 = .ok (.dup, 1) := by decide +kernel
theorem dX10_init_105 : decode cX10_init 105 = .ok (.iconst 0, 1) := by decide +kernel
theorem dX10_init_106 : decode cX10_init 106 = .ok (.invokespecial 32, 3) := by decide +kernel
theorem dX10_init_109 : decode cX10_init 109 = .ok (.putfield 39, 3) := by decide +kernel
theorem dX10_init_112 : decode cX10_init 112 = .ok (.aload_n 0, 1) := by decide +kernel
theorem dX10_init_113 : decode cX10_init 113 = .ok (.new 42, 3) := by decide +kernel
theorem dX10_init_116 : decode cX10_init 116 = .ok (.dup, 1) := by decide +kernel
theorem dX10_init_117 : decode cX10_init 117 = .ok (.invokespecial 44, 3) := by decide +kernel
theorem dX10_init_120 : decode cX10_init 120 = .ok (.putfield 45, 3) := by decide +kernel
theorem dX10_init_123 : decode cX10_init 123 = .ok (.aload_n 0, 1) := by decide +kernel
theorem dX10_init_124 : decode cX10_init 124 = .ok (.new 49, 3) := by decide +kernel
theorem dX10_init_127 : decode cX10_init 127 = .ok (.dup, 1) := by decide +kernel
theorem dX10_init_128 : decode cX10_init 128 = .ok (.invokespecial 51, 3) := by decide +kernel
theorem dX10_init_131 : decode cX10_init 131 = .ok (.putfield 52, 3) := by decide +kernel
theorem dX10_init_134 : decode cX10_init 134 = .ok (.aload_n 0, 1) := by decide +kernel
theorem dX10_init_135 : decode cX10_init 135 = .ok (.new 56, 3) := by decide +kernel
theorem dX10_init_138 : decode cX10_init 138 = .ok (.dup, 1) := by decide +kernel
theorem dX10_init_139 : decode cX10_init 139 = .ok (.invokespecial 58, 3) := by decide +kernel
theorem dX10_init_142 : decode cX10_init 142 = .ok (.putfield 59, 3) := by decide +kernel
theorem dX10_init_145 : decode cX10_init 145 = .ok (.aload_n 0, 1) := by decide +kernel
theorem dX10_init_146 : decode cX10_init 146 = .ok (.new 63, 3) := by decide +kernel
theorem dX10_init_149 : decode cX10_init 149 = .ok (.dup, 1) := by decide +kernel
theorem dX10_init_150 : decode cX10_init 150 = .ok (.invokespecial 65, 3) := by decide +kernel
theorem dX10_init_153 : decode cX10_init 153 = .ok (.putfield 66, 3) := by decide +kernel
theorem dX10_init_156 : decode cX10_init 156 = .ok (.aload_n 0, 1) := by decide +kernel
theorem dX10_init_157 : decode cX10_init 157 = .ok (.new 70, 3) := by decide +kernel
theorem dX10_init_160 : decode cX10_init 160 = .ok (.dup, 1) := by decide +kernel
theorem dX10_init_161 : decode cX10_init 161 = .ok (.invokespecial 72, 3) := by decide +kernel
theorem dX10_init_164 : decode cX10_init 164 = .ok (.putfield 73, 3) := by decide +kernel
theorem dX10_init_167 : decode cX10_init 167 = .ok (.aload_n 0, 1) := by decide +kernel
theorem dX10_init_168 : decode cX10_init 168 = .ok (.new 77, 3) := by decide +kernel
theorem dX10_init_171 : decode cX10_init 171 = .ok (.dup, 1) := by decide +kernel
theorem dX10_init_172 : decode cX10_init 172 = .ok (.invokespecial 79, 3) := by decide +kernel
theorem dX10_init_175 : decode cX10_init 175 = .ok (.putfield 80, 3) := by decide +kernel
theorem dX10_init_178 : decode cX10_init 178 = .ok (.return_, 1) := by decide +kernel
theorem dX10_bed_0 : decode cX10_bed 0 = .ok (.iload_n 1, 1) := by decide +kernel
theorem dX10_bed_1 : decode cX10_bed 1 = .ok (.invokestatic 84, 3) := by decide +kernel
theorem dX10_bed_4 : decode cX10_bed 4 = .ok (.ifCond .eq 17, 3) := by decide +kernel
theorem dX10_bed_7 : decode cX10_bed 7 = .ok (.iload_n 2, 1) := by decide +kernel
theorem dX10_bed_8 : decode cX10_bed 8 = .ok (.iconst 3, 1) := by decide +kernel
theorem dX10_bed_9 : decode cX10_bed 9 = .ok (.invokestatic 88, 3) := by decide +kernel
theorem dX10_bed_12 : decode cX10_bed 12 = .ok (.ifCond .eq 9, 3) := by decide +kernel
theorem dX10_bed_15 : decode cX10_bed 15 = .ok (.iload_n 3, 1) := by decide +kernel
theorem dX10_bed_16 : decode cX10_bed 16 = .ok (.bipush 100, 2) := by decide +kernel
theorem dX10_bed_18 : decode cX10_bed 18 = .ok (.if_icmp .le 6, 3) := by decide +kernel
theorem dX10_bed_21 : decode cX10_bed 21 = .ok (.ldc 92, 2) := by decide +kernel
theorem dX10_bed_23 : decode cX10_bed 23 = .ok (.ireturn, 1) := by decide +kernel
theorem dX10_bed_24 : decode cX10_bed 24 = .ok (.iload_n 3, 1) := by decide +kernel
theorem dX10_bed_25 : decode cX10_bed 25 = .ok (.ifCond .ge 9, 3) := by decide +kernel
theorem dX10_bed_28 : decode cX10_bed 28 = .ok (.aload_n 0, 1) := by decide +kernel
theorem dX10_bed_29 : decode cX10_bed 29 = .ok (.iconst 4, 1) := by decide +kernel
theorem dX10_bed_30 : decode cX10_bed 30 = .ok (.invokevirtual 93, 3) := by decide +kernel
theorem dX10_bed_33 : decode cX10_bed 33 = .ok (.ireturn, 1) := by decide +kernel
theorem dX10_bed_34 : decode cX10_bed 34 = .ok (.aload_n 0, 1) := by decide +kernel
theorem dX10_bed_35 : decode cX10_bed 35 = .ok (.getfield 11, 3) := by decide +kernel
theorem dX10_bed_38 : decode cX10_bed 38 = .ok (.iload_n 1, 1) := by decide +kernel
theorem dX10_bed_39 : decode cX10_bed 39 = .ok (.aaload, 1) := by decide +kernel
theorem dX10_bed_40 : decode cX10_bed 40 = .ok (.iload_n 2, 1) := by decide +kernel
theorem dX10_bed_41 : decode cX10_bed 41 = .ok (.iload_n 3, 1) := by decide +kernel
theorem dX10_bed_42 : decode cX10_bed 42 = .ok (.invokevirtual 97, 3) := by decide +kernel
theorem dX10_bed_45 : decode cX10_bed 45 = .ok (.aload_n 0, 1) := by decide +kernel
theorem dX10_bed_46 : decode cX10_bed 46 = .ok (.iload_n 3, 1) := by decide +kernel
theorem dX10_bed_47 : decode cX10_bed 47 = .ok (.invokevirtual 101, 3) := by decide +kernel
theorem dX10_bed_50 : decode cX10_bed 50 = .ok (.ireturn, 1) := by decide +kernel
theorem dX10_set_0 : decode cX10_set 0 = .ok (.iload_n 1, 1) := by decide +kernel
theorem dX10_set_1 : decode cX10_set 1 = .ok (.invokestatic 84, 3) := by decide +kernel
theorem dX10_set_4 : decode cX10_set 4 = .ok (.ifCond .ne 7, 3) := by decide +kernel
theorem dX10_set_7 : decode cX10_set 7 = .ok (.ldc2_w 104, 3) := by decide +kernel
theorem dX10_set_10 : decode cX10_set 10 = .ok (.lreturn, 1) := by decide +kernel
theorem dX10_set_11 : decode cX10_set 11 = .ok (.aload_n 0, 1) := by decide +kernel
theorem dX10_set_12 : decode cX10_set 12 = .ok (.getfield 11, 3) := by decide +kernel
theorem dX10_set_15 : decode cX10_set 15 = .ok (.iload_n 1, 1) := by decide +kernel
theorem dX10_set_16 : decode cX10_set 16 = .ok (.aaload, 1) := by decide +kernel
theorem dX10_set_17 : decode cX10_set 17 = .ok (.astore 5, 2) := by decide +kernel
theorem dX10_set_19 : decode cX10_set 19 = .ok (.aload 5, 2) := by decide +kernel
theorem dX10_set_21 : decode cX10_set 21 = .ok (.getfield 106, 3) := by decide +kernel
theorem dX10_set_24 : decode cX10_set 24 = .ok (.ifCond .ne 10, 3) := by decide +kernel
theorem dX10_set_27 : decode cX10_set 27 = .ok (.aload_n 0, 1) := by decide +kernel
theorem dX10_set_28 : decode cX10_set 28 = .ok (.iconst 1, 1) := by decide +kernel
theorem dX10_set_29 : decode cX10_set 29 = .ok (.invokevirtual 93, 3) := by decide +kernel
theorem dX10_set_32 : decode cX10_set 32 = .ok (.i2l, 1) := by decide +kernel
theorem dX10_set_33 : decode cX10_set 33 = .ok (.lreturn, 1) := by decide +kernel
theorem dX10_set_34 : decode cX10_set 34 = .ok (.aload 5, 2) := by decide +kernel
theorem dX10_set_36 : decode cX10_set 36 = .ok (.iload_n 2, 1) := by decide +kernel
theorem dX10_set_37 : decode cX10_set 37 = .ok (.iconst 1, 1) := by decide +kernel
theorem dX10_set_38 : decode cX10_set 38 = .ok (.invokevirtual 110, 3) := by decide +kernel
theorem dX10_set_41 : decode cX10_set 41 = .ok (.ifCond .ne 10, 3) := by decide +kernel
theorem dX10_set_44 : decode cX10_set 44 = .ok (.aload_n 0, 1) := by decide +kernel
theorem dX10_set_45 : decode cX10_set 45 = .ok (.iconst 2, 1) := by decide +kernel
theorem dX10_set_46 : decode cX10_set 46 = .ok (.invokevirtual 93, 3) := by decide +kernel
theorem dX10_set_49 : decode cX10_set 49 = .ok (.i2l, 1) := by decide +kernel
theorem dX10_set_50 : decode cX10_set 50 = .ok (.lreturn, 1) := by decide +kernel
theorem dX10_set_51 : decode cX10_set 51 = .ok (.aload 5, 2) := by decide +kernel
theorem dX10_set_53 : decode cX10_set 53 = .ok (.getfield 113, 3) := by decide +kernel
theorem dX10_set_56 : decode cX10_set 56 = .ok (.iload_n 2, 1) := by decide +kernel
theorem dX10_set_57 : decode cX10_set 57 = .ok (.aload 5, 2) := by decide +kernel
theorem dX10_set_59 : decode cX10_set 59 = .ok (.lload_n 3, 1) := by decide +kernel
theorem dX10_set_60 : decode cX10_set 60 = .ok (.invokevirtual 117, 3) := by decide +kernel
theorem dX10_set_63 : decode cX10_set 63 = .ok (.lastore, 1) := by decide +kernel
theorem dX10_set_64 : decode cX10_set 64 = .ok (.aload_n 0, 1) := by decide +kernel
theorem dX10_set_65 : decode cX10_set 65 = .ok (.iconst 0, 1) := by decide +kernel
theorem dX10_set_66 : decode cX10_set 66 = .ok (.putfield 121, 3) := by decide +kernel
theorem dX10_set_69 : decode cX10_set 69 = .ok (.aload 5, 2) := by decide +kernel
theorem dX10_set_71 : decode cX10_set 71 = .ok (.getfield 113, 3) := by decide +kernel
theorem dX10_set_74 : decode cX10_set 74 = .ok (.iload_n 2, 1) := by decide +kernel
theorem dX10_set_75 : decode cX10_set 75 = .ok (.laload, 1) := by decide +kernel
theorem dX10_set_76 : decode cX10_set 76 = .ok (.lreturn, 1) := by decide +kernel
theorem dX10_drop_0 : decode cX10_drop 0 = .ok (.iload_n 1, 1) := by decide +kernel
theorem dX10_drop_1 : decode cX10_drop 1 = .ok (.invokestatic 84, 3) := by decide +kernel
theorem dX10_drop_4 : decode cX10_drop 4 = .ok (.ifCond .ne 6, 3) := by decide +kernel
theorem dX10_drop_7 : decode cX10_drop 7 = .ok (.ldc 92, 2) := by decide +kernel
theorem dX10_drop_9 : decode cX10_drop 9 = .ok (.ireturn, 1) := by decide +kernel
theorem dX10_drop_10 : decode cX10_drop 10 = .ok (.aload_n 0, 1) := by decide +kernel
theorem dX10_drop_11 : decode cX10_drop 11 = .ok (.getfield 11, 3) := by decide +kernel
theorem dX10_drop_14 : decode cX10_drop 14 = .ok (.iload_n 1, 1) := by decide +kernel
theorem dX10_drop_15 : decode cX10_drop 15 = .ok (.aaload, 1) := by decide +kernel
theorem dX10_drop_16 : decode cX10_drop 16 = .ok (.getfield 106, 3) := by decide +kernel
theorem dX10_drop_19 : decode cX10_drop 19 = .ok (.ifCond .ne 9, 3) := by decide +kernel
theorem dX10_drop_22 : decode cX10_drop 22 = .ok (.aload_n 0, 1) := by decide +kernel
theorem dX10_drop_23 : decode cX10_drop 23 = .ok (.iconst 1, 1) := by decide +kernel
theorem dX10_drop_24 : decode cX10_drop 24 = .ok (.invokevirtual 93, 3) := by decide +kernel
theorem dX10_drop_27 : decode cX10_drop 27 = .ok (.ireturn, 1) := by decide +kernel
theorem dX10_drop_28 : decode cX10_drop 28 = .ok (.aload_n 0, 1) := by decide +kernel
theorem dX10_drop_29 : decode cX10_drop 29 = .ok (.getfield 11, 3) := by decide +kernel
theorem dX10_drop_32 : decode cX10_drop 32 = .ok (.iload_n 1, 1) := by decide +kernel
theorem dX10_drop_33 : decode cX10_drop 33 = .ok (.aaload, 1) := by decide +kernel
theorem dX10_drop_34 : decode cX10_drop 34 = .ok (.iconst 0, 1) := by decide +kernel
theorem dX10_drop_35 : decode cX10_drop 35 = .ok (.putfield 106, 3) := by decide +kernel
theorem dX10_drop_38 : decode cX10_drop 38 = .ok (.aload_n 0, 1) := by decide +kernel
theorem dX10_drop_39 : decode cX10_drop 39 = .ok (.aload_n 0, 1) := by decide +kernel
theorem dX10_drop_40 : decode cX10_drop 40 = .ok (.getfield 11, 3) := by decide +kernel
theorem dX10_drop_43 : decode cX10_drop 43 = .ok (.iload_n 1, 1) := by decide +kernel
theorem dX10_drop_44 : decode cX10_drop 44 = .ok (.aaload, 1) := by decide +kernel
theorem dX10_drop_45 : decode cX10_drop 45 = .ok (.getfield 125, 3) := by decide +kernel
theorem dX10_drop_48 : decode cX10_drop 48 = .ok (.invokevirtual 101, 3) := by decide +kernel
theorem dX10_drop_51 : decode cX10_drop 51 = .ok (.ireturn, 1) := by decide +kernel
theorem dX10_copy_0 : decode cX10_copy 0 = .ok (.iload_n 1, 1) := by decide +kernel
theorem dX10_copy_1 : decode cX10_copy 1 = .ok (.invokestatic 84, 3) := by decide +kernel
theorem dX10_copy_4 : decode cX10_copy 4 = .ok (.ifCond .eq 10, 3) := by decide +kernel
theorem dX10_copy_7 : decode cX10_copy 7 = .ok (.iload_n 3, 1) := by decide +kernel
theorem dX10_copy_8 : decode cX10_copy 8 = .ok (.invokestatic 84, 3) := by decide +kernel
theorem dX10_copy_11 : decode cX10_copy 11 = .ok (.ifCond .ne 6, 3) := by decide +kernel
theorem dX10_copy_14 : decode cX10_copy 14 = .ok (.ldc 92, 2) := by decide +kernel
theorem dX10_copy_16 : decode cX10_copy 16 = .ok (.ireturn, 1) := by decide +kernel
theorem dX10_copy_17 : decode cX10_copy 17 = .ok (.aload_n 0, 1) := by decide +kernel
theorem dX10_copy_18 : decode cX10_copy 18 = .ok (.getfield 11, 3) := by decide +kernel
theorem dX10_copy_21 : decode cX10_copy 21 = .ok (.iload_n 1, 1) := by decide +kernel
theorem dX10_copy_22 : decode cX10_copy 22 = .ok (.aaload, 1) := by decide +kernel
theorem dX10_copy_23 : decode cX10_copy 23 = .ok (.astore 6, 2) := by decide +kernel
theorem dX10_copy_25 : decode cX10_copy 25 = .ok (.aload_n 0, 1) := by decide +kernel
theorem dX10_copy_26 : decode cX10_copy 26 = .ok (.getfield 11, 3) := by decide +kernel
theorem dX10_copy_29 : decode cX10_copy 29 = .ok (.iload_n 3, 1) := by decide +kernel
theorem dX10_copy_30 : decode cX10_copy 30 = .ok (.aaload, 1) := by decide +kernel
theorem dX10_copy_31 : decode cX10_copy 31 = .ok (.astore 7, 2) := by decide +kernel
theorem dX10_copy_33 : decode cX10_copy 33 = .ok (.aload 6, 2) := by decide +kernel
theorem dX10_copy_35 : decode cX10_copy 35 = .ok (.getfield 106, 3) := by decide +kernel
theorem dX10_copy_38 : decode cX10_copy 38 = .ok (.ifCond .eq 11, 3) := by decide +kernel
theorem dX10_copy_41 : decode cX10_copy 41 = .ok (.aload 7, 2) := by decide +kernel
theorem dX10_copy_43 : decode cX10_copy 43 = .ok (.getfield 106, 3) := by decide +kernel
theorem dX10_copy_46 : decode cX10_copy 46 = .ok (.ifCond .ne 9, 3) := by decide +kernel
theorem dX10_copy_49 : decode cX10_copy 49 = .ok (.aload_n 0, 1) := by decide +kernel
theorem dX10_copy_50 : decode cX10_copy 50 = .ok (.iconst 1, 1) := by decide +kernel
theorem dX10_copy_51 : decode cX10_copy 51 = .ok (.invokevirtual 93, 3) := by decide +kernel
theorem dX10_copy_54 : decode cX10_copy 54 = .ok (.ireturn, 1) := by decide +kernel
theorem dX10_copy_55 : decode cX10_copy 55 = .ok (.aload 6, 2) := by decide +kernel
theorem dX10_copy_57 : decode cX10_copy 57 = .ok (.getfield 128, 3) := by decide +kernel
theorem dX10_copy_60 : decode cX10_copy 60 = .ok (.aload 7, 2) := by decide +kernel
theorem dX10_copy_62 : decode cX10_copy 62 = .ok (.getfield 128, 3) := by decide +kernel
theorem dX10_copy_65 : decode cX10_copy 65 = .ok (.if_icmp .eq 9, 3) := by decide +kernel
theorem dX10_copy_68 : decode cX10_copy 68 = .ok (.aload_n 0, 1) := by decide +kernel
theorem dX10_copy_69 : decode cX10_copy 69 = .ok (.iconst 5, 1) := by decide +kernel
theorem dX10_copy_70 : decode cX10_copy 70 = .ok (.invokevirtual 93, 3) := by decide +kernel
theorem dX10_copy_73 : decode cX10_copy 73 = .ok (.ireturn, 1) := by decide +kernel
theorem dX10_copy_74 : decode cX10_copy 74 = .ok (.aload 6, 2) := by decide +kernel
theorem dX10_copy_76 : decode cX10_copy 76 = .ok (.iload_n 2, 1) := by decide +kernel
theorem dX10_copy_77 : decode cX10_copy 77 = .ok (.iload 5, 2) := by decide +kernel
theorem dX10_copy_79 : decode cX10_copy 79 = .ok (.invokevirtual 110, 3) := by decide +kernel
theorem dX10_copy_82 : decode cX10_copy 82 = .ok (.ifCond .eq 15, 3) := by decide +kernel
theorem dX10_copy_85 : decode cX10_copy 85 = .ok (.aload 7, 2) := by decide +kernel
theorem dX10_copy_87 : decode cX10_copy 87 = .ok (.iload 4, 2) := by decide +kernel
theorem dX10_copy_89 : decode cX10_copy 89 = .ok (.iload 5, 2) := by decide +kernel
theorem dX10_copy_91 : decode cX10_copy 91 = .ok (.invokevirtual 110, 3) := by decide +kernel
theorem dX10_copy_94 : decode cX10_copy 94 = .ok (.ifCond .ne 9, 3) := by decide +kernel
theorem dX10_copy_97 : decode cX10_copy 97 = .ok (.aload_n 0, 1) := by decide +kernel
theorem dX10_copy_98 : decode cX10_copy 98 = .ok (.iconst 2, 1) := by decide +kernel
theorem dX10_copy_99 : decode cX10_copy 99 = .ok (.invokevirtual 93, 3) := by decide +kernel
theorem dX10_copy_102 : decode cX10_copy 102 = .ok (.ireturn, 1) := by decide +kernel
theorem dX10_copy_103 : decode cX10_copy 103 = .ok (.aload 6, 2) := by decide +kernel
theorem dX10_copy_105 : decode cX10_copy 105 = .ok (.getfield 113, 3) := by decide +kernel
theorem dX10_copy_108 : decode cX10_copy 108 = .ok (.iload_n 2, 1) := by decide +kernel
theorem dX10_copy_109 : decode cX10_copy 109 = .ok (.aload 7, 2) := by decide +kernel
theorem dX10_copy_111 : decode cX10_copy 111 = .ok (.getfield 113, 3) := by decide +kernel
theorem dX10_copy_114 : decode cX10_copy 114 = .ok (.iload 4, 2) := by decide +kernel
theorem dX10_copy_116 : decode cX10_copy 116 = .ok (.iload 5, 2) := by decide +kernel
theorem dX10_copy_118 : decode cX10_copy 118 = .ok (.invokestatic 131, 3) := by decide +kernel
theorem dX10_copy_121 : decode cX10_copy 121 = .ok (.aload_n 0, 1) := by decide +kernel
theorem dX10_copy_122 : decode cX10_copy 122 = .ok (.iload 5, 2) := by decide +kernel
theorem dX10_copy_124 : decode cX10_copy 124 = .ok (.invokevirtual 101, 3) := by decide +kernel
theorem dX10_copy_127 : decode cX10_copy 127 = .ok (.ireturn, 1) := by decide +kernel
theorem dX10_plant_0 : decode cX10_plant 0 = .ok (.iload_n 1, 1) := by decide +kernel
theorem dX10_plant_1 : decode cX10_plant 1 = .ok (.invokestatic 84, 3) := by decide +kernel
theorem dX10_plant_4 : decode cX10_plant 4 = .ok (.ifCond .eq 11, 3) := by decide +kernel
theorem dX10_plant_7 : decode cX10_plant 7 = .ok (.iload_n 3, 1) := by decide +kernel
theorem dX10_plant_8 : decode cX10_plant 8 = .ok (.iconst 5, 1) := by decide +kernel
theorem dX10_plant_9 : decode cX10_plant 9 = .ok (.invokestatic 88, 3) := by decide +kernel
theorem dX10_plant_12 : decode cX10_plant 12 = .ok (.ifCond .ne 6, 3) := by decide +kernel
theorem dX10_plant_15 : decode cX10_plant 15 = .ok (.ldc 92, 2) := by decide +kernel
theorem dX10_plant_17 : decode cX10_plant 17 = .ok (.ireturn, 1) := by decide +kernel
theorem dX10_plant_18 : decode cX10_plant 18 = .ok (.aload_n 0, 1) := by decide +kernel
theorem dX10_plant_19 : decode cX10_plant 19 = .ok (.getfield 137, 3) := by decide +kernel
theorem dX10_plant_22 : decode cX10_plant 22 = .ok (.bipush 40, 2) := by decide +kernel
theorem dX10_plant_24 : decode cX10_plant 24 = .ok (.if_icmp .lt 6, 3) := by decide +kernel
theorem dX10_plant_27 : decode cX10_plant 27 = .ok (.ldc 140, 2) := by decide +kernel
theorem dX10_plant_29 : decode cX10_plant 29 = .ok (.ireturn, 1) := by decide +kernel
theorem dX10_plant_30 : decode cX10_plant 30 = .ok (.aload_n 0, 1) := by decide +kernel
theorem dX10_plant_31 : decode cX10_plant 31 = .ok (.getfield 11, 3) := by decide +kernel
theorem dX10_plant_34 : decode cX10_plant 34 = .ok (.iload_n 1, 1) := by decide +kernel
theorem dX10_plant_35 : decode cX10_plant 35 = .ok (.aaload, 1) := by decide +kernel
theorem dX10_plant_36 : decode cX10_plant 36 = .ok (.astore 4, 2) := by decide +kernel
theorem dX10_plant_38 : decode cX10_plant 38 = .ok (.aload 4, 2) := by decide +kernel
theorem dX10_plant_40 : decode cX10_plant 40 = .ok (.getfield 106, 3) := by decide +kernel
theorem dX10_plant_43 : decode cX10_plant 43 = .ok (.ifCond .ne 9, 3) := by decide +kernel
theorem dX10_plant_46 : decode cX10_plant 46 = .ok (.aload_n 0, 1) := by decide +kernel
theorem dX10_plant_47 : decode cX10_plant 47 = .ok (.iconst 1, 1) := by decide +kernel
theorem dX10_plant_48 : decode cX10_plant 48 = .ok (.invokevirtual 93, 3) := by decide +kernel
theorem dX10_plant_51 : decode cX10_plant 51 = .ok (.ireturn, 1) := by decide +kernel
theorem dX10_plant_52 : decode cX10_plant 52 = .ok (.aload 4, 2) := by decide +kernel
theorem dX10_plant_54 : decode cX10_plant 54 = .ok (.iload_n 2, 1) := by decide +kernel
theorem dX10_plant_55 : decode cX10_plant 55 = .ok (.iconst 2, 1) := by decide +kernel
theorem dX10_plant_56 : decode cX10_plant 56 = .ok (.invokevirtual 110, 3) := by decide +kernel
theorem dX10_plant_59 : decode cX10_plant 59 = .ok (.ifCond .ne 9, 3) := by decide +kernel
theorem dX10_plant_62 : decode cX10_plant 62 = .ok (.aload_n 0, 1) := by decide +kernel
theorem dX10_plant_63 : decode cX10_plant 63 = .ok (.iconst 2, 1) := by decide +kernel
theorem dX10_plant_64 : decode cX10_plant 64 = .ok (.invokevirtual 93, 3) := by decide +kernel
theorem dX10_plant_67 : decode cX10_plant 67 = .ok (.ireturn, 1) := by decide +kernel
theorem dX10_plant_68 : decode cX10_plant 68 = .ok (.aload 4, 2) := by decide +kernel
theorem dX10_plant_70 : decode cX10_plant 70 = .ok (.getfield 113, 3) := by decide +kernel
theorem dX10_plant_73 : decode cX10_plant 73 = .ok (.iload_n 2, 1) := by decide +kernel
theorem dX10_plant_74 : decode cX10_plant 74 = .ok (.laload, 1) := by decide +kernel
theorem dX10_plant_75 : decode cX10_plant 75 = .ok (.lstore 5, 2) := by decide +kernel
theorem dX10_plant_77 : decode cX10_plant 77 = .ok (.aload 4, 2) := by decide +kernel
theorem dX10_plant_79 : decode cX10_plant 79 = .ok (.getfield 113, 3) := by decide +kernel
theorem dX10_plant_82 : decode cX10_plant 82 = .ok (.iload_n 2, 1) := by decide +kernel
theorem dX10_plant_83 : decode cX10_plant 83 = .ok (.iconst 1, 1) := by decide +kernel
theorem dX10_plant_84 : decode cX10_plant 84 = .ok (.iadd, 1) := by decide +kernel
theorem dX10_plant_85 : decode cX10_plant 85 = .ok (.laload, 1) := by decide +kernel
theorem dX10_plant_86 : decode cX10_plant 86 = .ok (.lstore 7, 2) := by decide +kernel
theorem dX10_plant_88 : decode cX10_plant 88 = .ok (.lload 5, 2) := by decide +kernel
theorem dX10_plant_90 : decode cX10_plant 90 = .ok (.invokestatic 141, 3) := by decide +kernel
theorem dX10_plant_93 : decode cX10_plant 93 = .ok (.ifCond .eq 11, 3) := by decide +kernel
theorem dX10_plant_96 : decode cX10_plant 96 = .ok (.lload 7, 2) := by decide +kernel
theorem dX10_plant_98 : decode cX10_plant 98 = .ok (.invokestatic 141, 3) := by decide +kernel
theorem dX10_plant_101 : decode cX10_plant 101 = .ok (.ifCond .ne 6, 3) := by decide +kernel
theorem dX10_plant_104 : decode cX10_plant 104 = .ok (.ldc 92, 2) := by decide +kernel
theorem dX10_plant_106 : decode cX10_plant 106 = .ok (.ireturn, 1) := by decide +kernel
theorem dX10_plant_107 : decode cX10_plant 107 = .ok (.aload_n 0, 1) := by decide +kernel
theorem dX10_plant_108 : decode cX10_plant 108 = .ok (.getfield 137, 3) := by decide +kernel
theorem dX10_plant_111 : decode cX10_plant 111 = .ok (.istore 9, 2) := by decide +kernel
theorem dX10_plant_113 : decode cX10_plant 113 = .ok (.aload_n 0, 1) := by decide +kernel
theorem dX10_plant_114 : decode cX10_plant 114 = .ok (.iload 9, 2) := by decide +kernel
theorem dX10_plant_116 : decode cX10_plant 116 = .ok (.invokevirtual 145, 3) := by decide +kernel
theorem dX10_plant_119 : decode cX10_plant 119 = .ok (.aload_n 0, 1) := by decide +kernel
theorem dX10_plant_120 : decode cX10_plant 120 = .ok (.getfield 18, 3) := by decide +kernel
theorem dX10_plant_123 : decode cX10_plant 123 = .ok (.iload 9, 2) := by decide +kernel
theorem dX10_plant_125 : decode cX10_plant 125 = .ok (.aaload, 1) := by decide +kernel
theorem dX10_plant_126 : decode cX10_plant 126 = .ok (.lload 5, 2) := by decide +kernel
theorem dX10_plant_128 : decode cX10_plant 128 = .ok (.l2i, 1) := by decide +kernel
theorem dX10_plant_129 : decode cX10_plant 129 = .ok (.lload 7, 2) := by decide +kernel
theorem dX10_plant_131 : decode cX10_plant 131 = .ok (.l2i, 1) := by decide +kernel
theorem dX10_plant_132 : decode cX10_plant 132 = .ok (.iload_n 3, 1) := by decide +kernel
theorem dX10_plant_133 : decode cX10_plant 133 = .ok (.aload_n 0, 1) := by decide +kernel
theorem dX10_plant_134 : decode cX10_plant 134 = .ok (.getfield 39, 3) := by decide +kernel
theorem dX10_plant_137 : decode cX10_plant 137 = .ok (.invokevirtual 148, 3) := by decide +kernel
theorem dX10_plant_140 : decode cX10_plant 140 = .ok (.aload_n 0, 1) := by decide +kernel
theorem dX10_plant_141 : decode cX10_plant 141 = .ok (.iload 9, 2) := by decide +kernel
theorem dX10_plant_143 : decode cX10_plant 143 = .ok (.iconst 1, 1) := by decide +kernel
theorem dX10_plant_144 : decode cX10_plant 144 = .ok (.iadd, 1) := by decide +kernel
theorem dX10_plant_145 : decode cX10_plant 145 = .ok (.putfield 137, 3) := by decide +kernel
theorem dX10_plant_148 : decode cX10_plant 148 = .ok (.aload_n 0, 1) := by decide +kernel
theorem dX10_plant_149 : decode cX10_plant 149 = .ok (.invokevirtual 152, 3) := by decide +kernel
theorem dX10_plant_152 : decode cX10_plant 152 = .ok (.aload_n 0, 1) := by decide +kernel
theorem dX10_plant_153 : decode cX10_plant 153 = .ok (.iload 9, 2) := by decide +kernel
theorem dX10_plant_155 : decode cX10_plant 155 = .ok (.invokevirtual 101, 3) := by decide +kernel
theorem dX10_plant_158 : decode cX10_plant 158 = .ok (.ireturn, 1) := by decide +kernel
theorem dX10_move_0 : decode cX10_move 0 = .ok (.aload_n 0, 1) := by decide +kernel
theorem dX10_move_1 : decode cX10_move 1 = .ok (.iload_n 1, 1) := by decide +kernel
theorem dX10_move_2 : decode cX10_move 2 = .ok (.invokevirtual 155, 3) := by decide +kernel
theorem dX10_move_5 : decode cX10_move 5 = .ok (.ifCond .ne 6, 3) := by decide +kernel
theorem dX10_move_8 : decode cX10_move 8 = .ok (.ldc 92, 2) := by decide +kernel
theorem dX10_move_10 : decode cX10_move 10 = .ok (.ireturn, 1) := by decide +kernel
theorem dX10_move_11 : decode cX10_move 11 = .ok (.aload_n 0, 1) := by decide +kernel
theorem dX10_move_12 : decode cX10_move 12 = .ok (.getfield 18, 3) := by decide +kernel
theorem dX10_move_15 : decode cX10_move 15 = .ok (.iload_n 1, 1) := by decide +kernel
theorem dX10_move_16 : decode cX10_move 16 = .ok (.aaload, 1) := by decide +kernel
theorem dX10_move_17 : decode cX10_move 17 = .ok (.astore 4, 2) := by decide +kernel
theorem dX10_move_19 : decode cX10_move 19 = .ok (.aload 4, 2) := by decide +kernel
theorem dX10_move_21 : decode cX10_move 21 = .ok (.getfield 158, 3) := by decide +kernel
theorem dX10_move_24 : decode cX10_move 24 = .ok (.ifCond .ne 9, 3) := by decide +kernel
theorem dX10_move_27 : decode cX10_move 27 = .ok (.aload_n 0, 1) := by decide +kernel
theorem dX10_move_28 : decode cX10_move 28 = .ok (.iconst 1, 1) := by decide +kernel
theorem dX10_move_29 : decode cX10_move 29 = .ok (.invokevirtual 93, 3) := by decide +kernel
theorem dX10_move_32 : decode cX10_move 32 = .ok (.ireturn, 1) := by decide +kernel
theorem dX10_move_33 : decode cX10_move 33 = .ok (.aload 4, 2) := by decide +kernel
theorem dX10_move_35 : decode cX10_move 35 = .ok (.getfield 159, 3) := by decide +kernel
theorem dX10_move_38 : decode cX10_move 38 = .ok (.i2l, 1) := by decide +kernel
theorem dX10_move_39 : decode cX10_move 39 = .ok (.iload_n 2, 1) := by decide +kernel
theorem dX10_move_40 : decode cX10_move 40 = .ok (.i2l, 1) := by decide +kernel
theorem dX10_move_41 : decode cX10_move 41 = .ok (.ladd, 1) := by decide +kernel
theorem dX10_move_42 : decode cX10_move 42 = .ok (.lstore 5, 2) := by decide +kernel
theorem dX10_move_44 : decode cX10_move 44 = .ok (.aload 4, 2) := by decide +kernel
theorem dX10_move_46 : decode cX10_move 46 = .ok (.getfield 162, 3) := by decide +kernel
theorem dX10_move_49 : decode cX10_move 49 = .ok (.i2l, 1) := by decide +kernel
theorem dX10_move_50 : decode cX10_move 50 = .ok (.iload_n 3, 1) := by decide +kernel
theorem dX10_move_51 : decode cX10_move 51 = .ok (.i2l, 1) := by decide +kernel
theorem dX10_move_52 : decode cX10_move 52 = .ok (.ladd, 1) := by decide +kernel
theorem dX10_move_53 : decode cX10_move 53 = .ok (.lstore 7, 2) := by decide +kernel
theorem dX10_move_55 : decode cX10_move 55 = .ok (.lload 5, 2) := by decide +kernel
theorem dX10_move_57 : decode cX10_move 57 = .ok (.invokestatic 141, 3) := by decide +kernel
theorem dX10_move_60 : decode cX10_move 60 = .ok (.ifCond .eq 11, 3) := by decide +kernel
theorem dX10_move_63 : decode cX10_move 63 = .ok (.lload 7, 2) := by decide +kernel
theorem dX10_move_65 : decode cX10_move 65 = .ok (.invokestatic 141, 3) := by decide +kernel
theorem dX10_move_68 : decode cX10_move 68 = .ok (.ifCond .ne 6, 3) := by decide +kernel
theorem dX10_move_71 : decode cX10_move 71 = .ok (.ldc 92, 2) := by decide +kernel
theorem dX10_move_73 : decode cX10_move 73 = .ok (.ireturn, 1) := by decide +kernel
theorem dX10_move_74 : decode cX10_move 74 = .ok (.aload_n 0, 1) := by decide +kernel
theorem dX10_move_75 : decode cX10_move 75 = .ok (.iload_n 1, 1) := by decide +kernel
theorem dX10_move_76 : decode cX10_move 76 = .ok (.invokevirtual 145, 3) := by decide +kernel
theorem dX10_move_79 : decode cX10_move 79 = .ok (.aload 4, 2) := by decide +kernel
theorem dX10_move_81 : decode cX10_move 81 = .ok (.lload 5, 2) := by decide +kernel
theorem dX10_move_83 : decode cX10_move 83 = .ok (.l2i, 1) := by decide +kernel
theorem dX10_move_84 : decode cX10_move 84 = .ok (.putfield 159, 3) := by decide +kernel
theorem dX10_move_87 : decode cX10_move 87 = .ok (.aload 4, 2) := by decide +kernel
theorem dX10_move_89 : decode cX10_move 89 = .ok (.lload 7, 2) := by decide +kernel
theorem dX10_move_91 : decode cX10_move 91 = .ok (.l2i, 1) := by decide +kernel
theorem dX10_move_92 : decode cX10_move 92 = .ok (.putfield 162, 3) := by decide +kernel
theorem dX10_move_95 : decode cX10_move 95 = .ok (.aload_n 0, 1) := by decide +kernel
theorem dX10_move_96 : decode cX10_move 96 = .ok (.invokevirtual 152, 3) := by decide +kernel
theorem dX10_move_99 : decode cX10_move 99 = .ok (.aload_n 0, 1) := by decide +kernel
theorem dX10_move_100 : decode cX10_move 100 = .ok (.iconst 1, 1) := by decide +kernel
theorem dX10_move_101 : decode cX10_move 101 = .ok (.invokevirtual 101, 3) := by decide +kernel
theorem dX10_move_104 : decode cX10_move 104 = .ok (.ireturn, 1) := by decide +kernel
theorem dX10_away_0 : decode cX10_away 0 = .ok (.aload_n 0, 1) := by decide +kernel
theorem dX10_away_1 : decode cX10_away 1 = .ok (.iload_n 1, 1) := by decide +kernel
theorem dX10_away_2 : decode cX10_away 2 = .ok (.invokevirtual 155, 3) := by decide +kernel
theorem dX10_away_5 : decode cX10_away 5 = .ok (.ifCond .ne 6, 3) := by decide +kernel
theorem dX10_away_8 : decode cX10_away 8 = .ok (.ldc 92, 2) := by decide +kernel
theorem dX10_away_10 : decode cX10_away 10 = .ok (.ireturn, 1) := by decide +kernel
theorem dX10_away_11 : decode cX10_away 11 = .ok (.aload_n 0, 1) := by decide +kernel
theorem dX10_away_12 : decode cX10_away 12 = .ok (.getfield 18, 3) := by decide +kernel
theorem dX10_away_15 : decode cX10_away 15 = .ok (.iload_n 1, 1) := by decide +kernel
theorem dX10_away_16 : decode cX10_away 16 = .ok (.aaload, 1) := by decide +kernel
theorem dX10_away_17 : decode cX10_away 17 = .ok (.getfield 158, 3) := by decide +kernel
theorem dX10_away_20 : decode cX10_away 20 = .ok (.ifCond .ne 9, 3) := by decide +kernel
theorem dX10_away_23 : decode cX10_away 23 = .ok (.aload_n 0, 1) := by decide +kernel
theorem dX10_away_24 : decode cX10_away 24 = .ok (.iconst 1, 1) := by decide +kernel
theorem dX10_away_25 : decode cX10_away 25 = .ok (.invokevirtual 93, 3) := by decide +kernel
theorem dX10_away_28 : decode cX10_away 28 = .ok (.ireturn, 1) := by decide +kernel
theorem dX10_away_29 : decode cX10_away 29 = .ok (.aload_n 0, 1) := by decide +kernel
theorem dX10_away_30 : decode cX10_away 30 = .ok (.iload_n 1, 1) := by decide +kernel
theorem dX10_away_31 : decode cX10_away 31 = .ok (.invokevirtual 145, 3) := by decide +kernel
theorem dX10_away_34 : decode cX10_away 34 = .ok (.aload_n 0, 1) := by decide +kernel
theorem dX10_away_35 : decode cX10_away 35 = .ok (.getfield 18, 3) := by decide +kernel
theorem dX10_away_38 : decode cX10_away 38 = .ok (.iload_n 1, 1) := by decide +kernel
theorem dX10_away_39 : decode cX10_away 39 = .ok (.aaload, 1) := by decide +kernel
theorem dX10_away_40 : decode cX10_away 40 = .ok (.iconst 0, 1) := by decide +kernel
theorem dX10_away_41 : decode cX10_away 41 = .ok (.putfield 158, 3) := by decide +kernel
theorem dX10_away_44 : decode cX10_away 44 = .ok (.aload_n 0, 1) := by decide +kernel
theorem dX10_away_45 : decode cX10_away 45 = .ok (.invokevirtual 152, 3) := by decide +kernel
theorem dX10_away_48 : decode cX10_away 48 = .ok (.aload_n 0, 1) := by decide +kernel
theorem dX10_away_49 : decode cX10_away 49 = .ok (.aload_n 0, 1) := by decide +kernel
theorem dX10_away_50 : decode cX10_away 50 = .ok (.invokevirtual 165, 3) := by decide +kernel
theorem dX10_away_53 : decode cX10_away 53 = .ok (.getfield 169, 3) := by decide +kernel
theorem dX10_away_56 : decode cX10_away 56 = .ok (.invokevirtual 101, 3) := by decide +kernel
theorem dX10_away_59 : decode cX10_away 59 = .ok (.ireturn, 1) := by decide +kernel
theorem dX10_colour_0 : decode cX10_colour 0 = .ok (.aload_n 0, 1) := by decide +kernel
theorem dX10_colour_1 : decode cX10_colour 1 = .ok (.iload_n 1, 1) := by decide +kernel
theorem dX10_colour_2 : decode cX10_colour 2 = .ok (.invokevirtual 155, 3) := by decide +kernel
theorem dX10_colour_5 : decode cX10_colour 5 = .ok (.ifCond .eq 11, 3) := by decide +kernel
theorem dX10_colour_8 : decode cX10_colour 8 = .ok (.iload_n 2, 1) := by decide +kernel
theorem dX10_colour_9 : decode cX10_colour 9 = .ok (.iconst 3, 1) := by decide +kernel
theorem dX10_colour_10 : decode cX10_colour 10 = .ok (.invokestatic 88, 3) := by decide +kernel
theorem dX10_colour_13 : decode cX10_colour 13 = .ok (.ifCond .ne 6, 3) := by decide +kernel
theorem dX10_colour_16 : decode cX10_colour 16 = .ok (.ldc 92, 2) := by decide +kernel
theorem dX10_colour_18 : decode cX10_colour 18 = .ok (.ireturn, 1) := by decide +kernel
theorem dX10_colour_19 : decode cX10_colour 19 = .ok (.aload_n 0, 1) := by decide +kernel
theorem dX10_colour_20 : decode cX10_colour 20 = .ok (.getfield 18, 3) := by decide +kernel
theorem dX10_colour_23 : decode cX10_colour 23 = .ok (.iload_n 1, 1) := by decide +kernel
theorem dX10_colour_24 : decode cX10_colour 24 = .ok (.aaload, 1) := by decide +kernel
theorem dX10_colour_25 : decode cX10_colour 25 = .ok (.astore_n 3, 1) := by decide +kernel
theorem dX10_colour_26 : decode cX10_colour 26 = .ok (.aload_n 3, 1) := by decide +kernel
theorem dX10_colour_27 : decode cX10_colour 27 = .ok (.getfield 158, 3) := by decide +kernel
theorem dX10_colour_30 : decode cX10_colour 30 = .ok (.ifCond .ne 9, 3) := by decide +kernel
theorem dX10_colour_33 : decode cX10_colour 33 = .ok (.aload_n 0, 1) := by decide +kernel
theorem dX10_colour_34 : decode cX10_colour 34 = .ok (.iconst 1, 1) := by decide +kernel
theorem dX10_colour_35 : decode cX10_colour 35 = .ok (.invokevirtual 93, 3) := by decide +kernel
theorem dX10_colour_38 : decode cX10_colour 38 = .ok (.ireturn, 1) := by decide +kernel
theorem dX10_colour_39 : decode cX10_colour 39 = .ok (.aload_n 3, 1) := by decide +kernel
theorem dX10_colour_40 : decode cX10_colour 40 = .ok (.getfield 172, 3) := by decide +kernel
theorem dX10_colour_43 : decode cX10_colour 43 = .ok (.iconst 4, 1) := by decide +kernel
theorem dX10_colour_44 : decode cX10_colour 44 = .ok (.if_icmp .eq 9, 3) := by decide +kernel
theorem dX10_colour_47 : decode cX10_colour 47 = .ok (.aload_n 0, 1) := by decide +kernel
theorem dX10_colour_48 : decode cX10_colour 48 = .ok (.iconst 3, 1) := by decide +kernel
theorem dX10_colour_49 : decode cX10_colour 49 = .ok (.invokevirtual 93, 3) := by decide +kernel
theorem dX10_colour_52 : decode cX10_colour 52 = .ok (.ireturn, 1) := by decide +kernel
theorem dX10_colour_53 : decode cX10_colour 53 = .ok (.aload_n 3, 1) := by decide +kernel
theorem dX10_colour_54 : decode cX10_colour 54 = .ok (.getfield 175, 3) := by decide +kernel
theorem dX10_colour_57 : decode cX10_colour 57 = .ok (.istore 4, 2) := by decide +kernel
theorem dX10_colour_59 : decode cX10_colour 59 = .ok (.aload_n 0, 1) := by decide +kernel
theorem dX10_colour_60 : decode cX10_colour 60 = .ok (.iload_n 1, 1) := by decide +kernel
theorem dX10_colour_61 : decode cX10_colour 61 = .ok (.invokevirtual 145, 3) := by decide +kernel
theorem dX10_colour_64 : decode cX10_colour 64 = .ok (.aload_n 3, 1) := by decide +kernel
theorem dX10_colour_65 : decode cX10_colour 65 = .ok (.iload_n 2, 1) := by decide +kernel
theorem dX10_colour_66 : decode cX10_colour 66 = .ok (.aload_n 0, 1) := by decide +kernel
theorem dX10_colour_67 : decode cX10_colour 67 = .ok (.getfield 39, 3) := by decide +kernel
theorem dX10_colour_70 : decode cX10_colour 70 = .ok (.invokevirtual 178, 3) := by decide +kernel
theorem dX10_colour_73 : decode cX10_colour 73 = .ok (.aload_n 0, 1) := by decide +kernel
theorem dX10_colour_74 : decode cX10_colour 74 = .ok (.invokevirtual 152, 3) := by decide +kernel
theorem dX10_colour_77 : decode cX10_colour 77 = .ok (.aload_n 0, 1) := by decide +kernel
theorem dX10_colour_78 : decode cX10_colour 78 = .ok (.iload 4, 2) := by decide +kernel
theorem dX10_colour_80 : decode cX10_colour 80 = .ok (.invokevirtual 101, 3) := by decide +kernel
theorem dX10_colour_83 : decode cX10_colour 83 = .ok (.ireturn, 1) := by decide +kernel
theorem dX10_told_0 : decode cX10_told 0 = .ok (.aload_n 0, 1) := by decide +kernel
theorem dX10_told_1 : decode cX10_told 1 = .ok (.iload_n 1, 1) := by decide +kernel
theorem dX10_told_2 : decode cX10_told 2 = .ok (.invokevirtual 155, 3) := by decide +kernel
theorem dX10_told_5 : decode cX10_told 5 = .ok (.ifCond .eq 11, 3) := by decide +kernel
theorem dX10_told_8 : decode cX10_told 8 = .ok (.iload_n 2, 1) := by decide +kernel
theorem dX10_told_9 : decode cX10_told 9 = .ok (.iconst 4, 1) := by decide +kernel
theorem dX10_told_10 : decode cX10_told 10 = .ok (.invokestatic 88, 3) := by decide +kernel
theorem dX10_told_13 : decode cX10_told 13 = .ok (.ifCond .ne 6, 3) := by decide +kernel
theorem dX10_told_16 : decode cX10_told 16 = .ok (.ldc 92, 2) := by decide +kernel
theorem dX10_told_18 : decode cX10_told 18 = .ok (.ireturn, 1) := by decide +kernel
theorem dX10_told_19 : decode cX10_told 19 = .ok (.aload_n 0, 1) := by decide +kernel
theorem dX10_told_20 : decode cX10_told 20 = .ok (.getfield 18, 3) := by decide +kernel
theorem dX10_told_23 : decode cX10_told 23 = .ok (.iload_n 1, 1) := by decide +kernel
theorem dX10_told_24 : decode cX10_told 24 = .ok (.aaload, 1) := by decide +kernel
theorem dX10_told_25 : decode cX10_told 25 = .ok (.astore_n 3, 1) := by decide +kernel
theorem dX10_told_26 : decode cX10_told 26 = .ok (.aload_n 3, 1) := by decide +kernel
theorem dX10_told_27 : decode cX10_told 27 = .ok (.getfield 158, 3) := by decide +kernel
theorem dX10_told_30 : decode cX10_told 30 = .ok (.ifCond .ne 9, 3) := by decide +kernel
theorem dX10_told_33 : decode cX10_told 33 = .ok (.aload_n 0, 1) := by decide +kernel
theorem dX10_told_34 : decode cX10_told 34 = .ok (.iconst 1, 1) := by decide +kernel
theorem dX10_told_35 : decode cX10_told 35 = .ok (.invokevirtual 93, 3) := by decide +kernel
theorem dX10_told_38 : decode cX10_told 38 = .ok (.ireturn, 1) := by decide +kernel
theorem dX10_told_39 : decode cX10_told 39 = .ok (.iload_n 2, 1) := by decide +kernel
theorem dX10_told_40 : decode cX10_told 40 = .ok (.tableswitch 55 0 2 #[28, 37, 46], 28) := by decide +kernel
theorem dX10_told_68 : decode cX10_told 68 = .ok (.aload_n 0, 1) := by decide +kernel
theorem dX10_told_69 : decode cX10_told 69 = .ok (.aload_n 3, 1) := by decide +kernel
theorem dX10_told_70 : decode cX10_told 70 = .ok (.getfield 159, 3) := by decide +kernel
theorem dX10_told_73 : decode cX10_told 73 = .ok (.invokevirtual 101, 3) := by decide +kernel
theorem dX10_told_76 : decode cX10_told 76 = .ok (.ireturn, 1) := by decide +kernel
theorem dX10_told_77 : decode cX10_told 77 = .ok (.aload_n 0, 1) := by decide +kernel
theorem dX10_told_78 : decode cX10_told 78 = .ok (.aload_n 3, 1) := by decide +kernel
theorem dX10_told_79 : decode cX10_told 79 = .ok (.getfield 162, 3) := by decide +kernel
theorem dX10_told_82 : decode cX10_told 82 = .ok (.invokevirtual 101, 3) := by decide +kernel
theorem dX10_told_85 : decode cX10_told 85 = .ok (.ireturn, 1) := by decide +kernel
theorem dX10_told_86 : decode cX10_told 86 = .ok (.aload_n 0, 1) := by decide +kernel
theorem dX10_told_87 : decode cX10_told 87 = .ok (.aload_n 3, 1) := by decide +kernel
theorem dX10_told_88 : decode cX10_told 88 = .ok (.getfield 172, 3) := by decide +kernel
theorem dX10_told_91 : decode cX10_told 91 = .ok (.invokevirtual 101, 3) := by decide +kernel
theorem dX10_told_94 : decode cX10_told 94 = .ok (.ireturn, 1) := by decide +kernel
theorem dX10_told_95 : decode cX10_told 95 = .ok (.aload_n 0, 1) := by decide +kernel
theorem dX10_told_96 : decode cX10_told 96 = .ok (.aload_n 0, 1) := by decide +kernel
theorem dX10_told_97 : decode cX10_told 97 = .ok (.invokevirtual 182, 3) := by decide +kernel
theorem dX10_told_100 : decode cX10_told 100 = .ok (.aload_n 0, 1) := by decide +kernel
theorem dX10_told_101 : decode cX10_told 101 = .ok (.invokevirtual 165, 3) := by decide +kernel
theorem dX10_told_104 : decode cX10_told 104 = .ok (.iload_n 1, 1) := by decide +kernel
theorem dX10_told_105 : decode cX10_told 105 = .ok (.invokevirtual 186, 3) := by decide +kernel
theorem dX10_told_108 : decode cX10_told 108 = .ok (.invokevirtual 189, 3) := by decide +kernel
theorem dX10_told_111 : decode cX10_told 111 = .ok (.invokevirtual 101, 3) := by decide +kernel
theorem dX10_told_114 : decode cX10_told 114 = .ok (.ireturn, 1) := by decide +kernel
theorem dX10_is_0 : decode cX10_is 0 = .ok (.aload_n 0, 1) := by decide +kernel
theorem dX10_is_1 : decode cX10_is 1 = .ok (.iload_n 1, 1) := by decide +kernel
theorem dX10_is_2 : decode cX10_is 2 = .ok (.invokevirtual 155, 3) := by decide +kernel
theorem dX10_is_5 : decode cX10_is 5 = .ok (.ifCond .eq 11, 3) := by decide +kernel
theorem dX10_is_8 : decode cX10_is 8 = .ok (.iload_n 2, 1) := by decide +kernel
theorem dX10_is_9 : decode cX10_is 9 = .ok (.iconst 5, 1) := by decide +kernel
theorem dX10_is_10 : decode cX10_is 10 = .ok (.invokestatic 88, 3) := by decide +kernel
theorem dX10_is_13 : decode cX10_is 13 = .ok (.ifCond .ne 6, 3) := by decide +kernel
theorem dX10_is_16 : decode cX10_is 16 = .ok (.ldc 92, 2) := by decide +kernel
theorem dX10_is_18 : decode cX10_is 18 = .ok (.ireturn, 1) := by decide +kernel
theorem dX10_is_19 : decode cX10_is 19 = .ok (.aload_n 0, 1) := by decide +kernel
theorem dX10_is_20 : decode cX10_is 20 = .ok (.getfield 18, 3) := by decide +kernel
theorem dX10_is_23 : decode cX10_is 23 = .ok (.iload_n 1, 1) := by decide +kernel
theorem dX10_is_24 : decode cX10_is 24 = .ok (.aaload, 1) := by decide +kernel
theorem dX10_is_25 : decode cX10_is 25 = .ok (.getfield 158, 3) := by decide +kernel
theorem dX10_is_28 : decode cX10_is 28 = .ok (.ifCond .ne 9, 3) := by decide +kernel
theorem dX10_is_31 : decode cX10_is 31 = .ok (.aload_n 0, 1) := by decide +kernel
theorem dX10_is_32 : decode cX10_is 32 = .ok (.iconst 1, 1) := by decide +kernel
theorem dX10_is_33 : decode cX10_is 33 = .ok (.invokevirtual 93, 3) := by decide +kernel
theorem dX10_is_36 : decode cX10_is 36 = .ok (.ireturn, 1) := by decide +kernel
theorem dX10_is_37 : decode cX10_is 37 = .ok (.aload_n 0, 1) := by decide +kernel
theorem dX10_is_38 : decode cX10_is 38 = .ok (.aload_n 0, 1) := by decide +kernel
theorem dX10_is_39 : decode cX10_is 39 = .ok (.getfield 18, 3) := by decide +kernel
theorem dX10_is_42 : decode cX10_is 42 = .ok (.iload_n 1, 1) := by decide +kernel
theorem dX10_is_43 : decode cX10_is 43 = .ok (.aaload, 1) := by decide +kernel
theorem dX10_is_44 : decode cX10_is 44 = .ok (.iload_n 2, 1) := by decide +kernel
theorem dX10_is_45 : decode cX10_is 45 = .ok (.invokevirtual 192, 3) := by decide +kernel
theorem dX10_is_48 : decode cX10_is 48 = .ok (.ifCond .eq 7, 3) := by decide +kernel
theorem dX10_is_51 : decode cX10_is 51 = .ok (.iconst 1, 1) := by decide +kernel
theorem dX10_is_52 : decode cX10_is 52 = .ok (.goto 4, 3) := by decide +kernel
theorem dX10_is_55 : decode cX10_is 55 = .ok (.iconst 0, 1) := by decide +kernel
theorem dX10_is_56 : decode cX10_is 56 = .ok (.invokevirtual 101, 3) := by decide +kernel
theorem dX10_is_59 : decode cX10_is 59 = .ok (.ireturn, 1) := by decide +kernel
theorem dX10_ask_0 : decode cX10_ask 0 = .ok (.aload_n 0, 1) := by decide +kernel
theorem dX10_ask_1 : decode cX10_ask 1 = .ok (.iload_n 1, 1) := by decide +kernel
theorem dX10_ask_2 : decode cX10_ask 2 = .ok (.invokevirtual 155, 3) := by decide +kernel
theorem dX10_ask_5 : decode cX10_ask 5 = .ok (.ifCond .eq 11, 3) := by decide +kernel
theorem dX10_ask_8 : decode cX10_ask 8 = .ok (.iload_n 2, 1) := by decide +kernel
theorem dX10_ask_9 : decode cX10_ask 9 = .ok (.iconst 4, 1) := by decide +kernel
theorem dX10_ask_10 : decode cX10_ask 10 = .ok (.invokestatic 88, 3) := by decide +kernel
theorem dX10_ask_13 : decode cX10_ask 13 = .ok (.ifCond .ne 6, 3) := by decide +kernel
theorem dX10_ask_16 : decode cX10_ask 16 = .ok (.ldc 92, 2) := by decide +kernel
theorem dX10_ask_18 : decode cX10_ask 18 = .ok (.ireturn, 1) := by decide +kernel
theorem dX10_ask_19 : decode cX10_ask 19 = .ok (.aload_n 0, 1) := by decide +kernel
theorem dX10_ask_20 : decode cX10_ask 20 = .ok (.getfield 35, 3) := by decide +kernel
theorem dX10_ask_23 : decode cX10_ask 23 = .ok (.iconst 0, 1) := by decide +kernel
theorem dX10_ask_24 : decode cX10_ask 24 = .ok (.putfield 195, 3) := by decide +kernel
theorem dX10_ask_27 : decode cX10_ask 27 = .ok (.aload_n 0, 1) := by decide +kernel
theorem dX10_ask_28 : decode cX10_ask 28 = .ok (.getfield 18, 3) := by decide +kernel
theorem dX10_ask_31 : decode cX10_ask 31 = .ok (.iload_n 1, 1) := by decide +kernel
theorem dX10_ask_32 : decode cX10_ask 32 = .ok (.aaload, 1) := by decide +kernel
theorem dX10_ask_33 : decode cX10_ask 33 = .ok (.getfield 158, 3) := by decide +kernel
theorem dX10_ask_36 : decode cX10_ask 36 = .ok (.ifCond .ne 9, 3) := by decide +kernel
theorem dX10_ask_39 : decode cX10_ask 39 = .ok (.aload_n 0, 1) := by decide +kernel
theorem dX10_ask_40 : decode cX10_ask 40 = .ok (.iconst 1, 1) := by decide +kernel
theorem dX10_ask_41 : decode cX10_ask 41 = .ok (.invokevirtual 93, 3) := by decide +kernel
theorem dX10_ask_44 : decode cX10_ask 44 = .ok (.ireturn, 1) := by decide +kernel
theorem dX10_ask_45 : decode cX10_ask 45 = .ok (.aload_n 0, 1) := by decide +kernel
theorem dX10_ask_46 : decode cX10_ask 46 = .ok (.aload_n 0, 1) := by decide +kernel
theorem dX10_ask_47 : decode cX10_ask 47 = .ok (.getfield 18, 3) := by decide +kernel
theorem dX10_ask_50 : decode cX10_ask 50 = .ok (.iload_n 1, 1) := by decide +kernel
theorem dX10_ask_51 : decode cX10_ask 51 = .ok (.aaload, 1) := by decide +kernel
theorem dX10_ask_52 : decode cX10_ask 52 = .ok (.iload_n 2, 1) := by decide +kernel
theorem dX10_ask_53 : decode cX10_ask 53 = .ok (.aload_n 0, 1) := by decide +kernel
theorem dX10_ask_54 : decode cX10_ask 54 = .ok (.getfield 35, 3) := by decide +kernel
theorem dX10_ask_57 : decode cX10_ask 57 = .ok (.invokevirtual 198, 3) := by decide +kernel
theorem dX10_ask_60 : decode cX10_ask 60 = .ok (.invokevirtual 101, 3) := by decide +kernel
theorem dX10_ask_63 : decode cX10_ask 63 = .ok (.ireturn, 1) := by decide +kernel
theorem dX10_trace_0 : decode cX10_trace 0 = .ok (.iload_n 1, 1) := by decide +kernel
theorem dX10_trace_1 : decode cX10_trace 1 = .ok (.aload_n 0, 1) := by decide +kernel
theorem dX10_trace_2 : decode cX10_trace 2 = .ok (.getfield 35, 3) := by decide +kernel
theorem dX10_trace_5 : decode cX10_trace 5 = .ok (.getfield 195, 3) := by decide +kernel
theorem dX10_trace_8 : decode cX10_trace 8 = .ok (.invokestatic 88, 3) := by decide +kernel
theorem dX10_trace_11 : decode cX10_trace 11 = .ok (.ifCond .eq 15, 3) := by decide +kernel
theorem dX10_trace_14 : decode cX10_trace 14 = .ok (.aload_n 0, 1) := by decide +kernel
theorem dX10_trace_15 : decode cX10_trace 15 = .ok (.getfield 35, 3) := by decide +kernel
theorem dX10_trace_18 : decode cX10_trace 18 = .ok (.getfield 202, 3) := by decide +kernel
theorem dX10_trace_21 : decode cX10_trace 21 = .ok (.iload_n 1, 1) := by decide +kernel
theorem dX10_trace_22 : decode cX10_trace 22 = .ok (.iaload, 1) := by decide +kernel
theorem dX10_trace_23 : decode cX10_trace 23 = .ok (.goto 5, 3) := by decide +kernel
theorem dX10_trace_26 : decode cX10_trace 26 = .ok (.ldc 206, 2) := by decide +kernel
theorem dX10_trace_28 : decode cX10_trace 28 = .ok (.ireturn, 1) := by decide +kernel
theorem dX10_undo_0 : decode cX10_undo 0 = .ok (.aload_n 0, 1) := by decide +kernel
theorem dX10_undo_1 : decode cX10_undo 1 = .ok (.getfield 26, 3) := by decide +kernel
theorem dX10_undo_4 : decode cX10_undo 4 = .ok (.getfield 207, 3) := by decide +kernel
theorem dX10_undo_7 : decode cX10_undo 7 = .ok (.ifCond .eq 18, 3) := by decide +kernel
theorem dX10_undo_10 : decode cX10_undo 10 = .ok (.aload_n 0, 1) := by decide +kernel
theorem dX10_undo_11 : decode cX10_undo 11 = .ok (.getfield 26, 3) := by decide +kernel
theorem dX10_undo_14 : decode cX10_undo 14 = .ok (.getfield 210, 3) := by decide +kernel
theorem dX10_undo_17 : decode cX10_undo 17 = .ok (.bipush 40, 2) := by decide +kernel
theorem dX10_undo_19 : decode cX10_undo 19 = .ok (.invokestatic 88, 3) := by decide +kernel
theorem dX10_undo_22 : decode cX10_undo 22 = .ok (.ifCond .ne 6, 3) := by decide +kernel
theorem dX10_undo_25 : decode cX10_undo 25 = .ok (.ldc 213, 2) := by decide +kernel
theorem dX10_undo_27 : decode cX10_undo 27 = .ok (.ireturn, 1) := by decide +kernel
theorem dX10_undo_28 : decode cX10_undo 28 = .ok (.aload_n 0, 1) := by decide +kernel
theorem dX10_undo_29 : decode cX10_undo 29 = .ok (.getfield 26, 3) := by decide +kernel
theorem dX10_undo_32 : decode cX10_undo 32 = .ok (.iconst 0, 1) := by decide +kernel
theorem dX10_undo_33 : decode cX10_undo 33 = .ok (.putfield 207, 3) := by decide +kernel
theorem dX10_undo_36 : decode cX10_undo 36 = .ok (.aload_n 0, 1) := by decide +kernel
theorem dX10_undo_37 : decode cX10_undo 37 = .ok (.getfield 18, 3) := by decide +kernel
theorem dX10_undo_40 : decode cX10_undo 40 = .ok (.aload_n 0, 1) := by decide +kernel
theorem dX10_undo_41 : decode cX10_undo 41 = .ok (.getfield 26, 3) := by decide +kernel
theorem dX10_undo_44 : decode cX10_undo 44 = .ok (.getfield 210, 3) := by decide +kernel
theorem dX10_undo_47 : decode cX10_undo 47 = .ok (.aaload, 1) := by decide +kernel
theorem dX10_undo_48 : decode cX10_undo 48 = .ok (.aload_n 0, 1) := by decide +kernel
theorem dX10_undo_49 : decode cX10_undo 49 = .ok (.getfield 26, 3) := by decide +kernel
theorem dX10_undo_52 : decode cX10_undo 52 = .ok (.getfield 214, 3) := by decide +kernel
theorem dX10_undo_55 : decode cX10_undo 55 = .ok (.invokevirtual 218, 3) := by decide +kernel
theorem dX10_undo_58 : decode cX10_undo 58 = .ok (.aload_n 0, 1) := by decide +kernel
theorem dX10_undo_59 : decode cX10_undo 59 = .ok (.aload_n 0, 1) := by decide +kernel
theorem dX10_undo_60 : decode cX10_undo 60 = .ok (.getfield 26, 3) := by decide +kernel
theorem dX10_undo_63 : decode cX10_undo 63 = .ok (.getfield 222, 3) := by decide +kernel
theorem dX10_undo_66 : decode cX10_undo 66 = .ok (.putfield 137, 3) := by decide +kernel
theorem dX10_undo_69 : decode cX10_undo 69 = .ok (.aload_n 0, 1) := by decide +kernel
theorem dX10_undo_70 : decode cX10_undo 70 = .ok (.invokevirtual 152, 3) := by decide +kernel
theorem dX10_undo_73 : decode cX10_undo 73 = .ok (.iconst 1, 1) := by decide +kernel
theorem dX10_undo_74 : decode cX10_undo 74 = .ok (.ireturn, 1) := by decide +kernel
theorem dX10_line_0 : decode cX10_line 0 = .ok (.iload_n 1, 1) := by decide +kernel
theorem dX10_line_1 : decode cX10_line 1 = .ok (.i2l, 1) := by decide +kernel
theorem dX10_line_2 : decode cX10_line 2 = .ok (.ldc2_w 223, 3) := by decide +kernel
theorem dX10_line_5 : decode cX10_line 5 = .ok (.invokestatic 225, 3) := by decide +kernel
theorem dX10_line_8 : decode cX10_line 8 = .ok (.ifCond .eq 25, 3) := by decide +kernel
theorem dX10_line_11 : decode cX10_line 11 = .ok (.iload_n 2, 1) := by decide +kernel
theorem dX10_line_12 : decode cX10_line 12 = .ok (.i2l, 1) := by decide +kernel
theorem dX10_line_13 : decode cX10_line 13 = .ok (.ldc2_w 223, 3) := by decide +kernel
theorem dX10_line_16 : decode cX10_line 16 = .ok (.invokestatic 225, 3) := by decide +kernel
theorem dX10_line_19 : decode cX10_line 19 = .ok (.ifCond .eq 14, 3) := by decide +kernel
theorem dX10_line_22 : decode cX10_line 22 = .ok (.iload_n 3, 1) := by decide +kernel
theorem dX10_line_23 : decode cX10_line 23 = .ok (.i2l, 1) := by decide +kernel
theorem dX10_line_24 : decode cX10_line 24 = .ok (.ldc2_w 223, 3) := by decide +kernel
theorem dX10_line_27 : decode cX10_line 27 = .ok (.invokestatic 225, 3) := by decide +kernel
theorem dX10_line_30 : decode cX10_line 30 = .ok (.ifCond .ne 6, 3) := by decide +kernel
theorem dX10_line_33 : decode cX10_line 33 = .ok (.ldc 92, 2) := by decide +kernel
theorem dX10_line_35 : decode cX10_line 35 = .ok (.ireturn, 1) := by decide +kernel
theorem dX10_line_36 : decode cX10_line 36 = .ok (.iload_n 1, 1) := by decide +kernel
theorem dX10_line_37 : decode cX10_line 37 = .ok (.ifCond .ne 10, 3) := by decide +kernel
theorem dX10_line_40 : decode cX10_line 40 = .ok (.iload_n 2, 1) := by decide +kernel
theorem dX10_line_41 : decode cX10_line 41 = .ok (.ifCond .ne 6, 3) := by decide +kernel
theorem dX10_line_44 : decode cX10_line 44 = .ok (.ldc 213, 2) := by decide +kernel
theorem dX10_line_46 : decode cX10_line 46 = .ok (.ireturn, 1) := by decide +kernel
theorem dX10_line_47 : decode cX10_line 47 = .ok (.aload_n 0, 1) := by decide +kernel
theorem dX10_line_48 : decode cX10_line 48 = .ok (.getfield 45, 3) := by decide +kernel
theorem dX10_line_51 : decode cX10_line 51 = .ok (.iload_n 1, 1) := by decide +kernel
theorem dX10_line_52 : decode cX10_line 52 = .ok (.iload_n 2, 1) := by decide +kernel
theorem dX10_line_53 : decode cX10_line 53 = .ok (.iload_n 3, 1) := by decide +kernel
theorem dX10_line_54 : decode cX10_line 54 = .ok (.invokevirtual 229, 3) := by decide +kernel
theorem dX10_line_57 : decode cX10_line 57 = .ok (.iconst 1, 1) := by decide +kernel
theorem dX10_line_58 : decode cX10_line 58 = .ok (.ireturn, 1) := by decide +kernel
theorem dX10_through_0 : decode cX10_through 0 = .ok (.aload_n 0, 1) := by decide +kernel
theorem dX10_through_1 : decode cX10_through 1 = .ok (.iload_n 1, 1) := by decide +kernel
theorem dX10_through_2 : decode cX10_through 2 = .ok (.invokevirtual 155, 3) := by decide +kernel
theorem dX10_through_5 : decode cX10_through 5 = .ok (.ifCond .eq 11, 3) := by decide +kernel
theorem dX10_through_8 : decode cX10_through 8 = .ok (.aload_n 0, 1) := by decide +kernel
theorem dX10_through_9 : decode cX10_through 9 = .ok (.iload_n 2, 1) := by decide +kernel
theorem dX10_through_10 : decode cX10_through 10 = .ok (.invokevirtual 155, 3) := by decide +kernel
theorem dX10_through_13 : decode cX10_through 13 = .ok (.ifCond .ne 6, 3) := by decide +kernel
theorem dX10_through_16 : decode cX10_through 16 = .ok (.ldc 92, 2) := by decide +kernel
theorem dX10_through_18 : decode cX10_through 18 = .ok (.ireturn, 1) := by decide +kernel
theorem dX10_through_19 : decode cX10_through 19 = .ok (.aload_n 0, 1) := by decide +kernel
theorem dX10_through_20 : decode cX10_through 20 = .ok (.getfield 18, 3) := by decide +kernel
theorem dX10_through_23 : decode cX10_through 23 = .ok (.iload_n 1, 1) := by decide +kernel
theorem dX10_through_24 : decode cX10_through 24 = .ok (.aaload, 1) := by decide +kernel
theorem dX10_through_25 : decode cX10_through 25 = .ok (.astore_n 3, 1) := by decide +kernel
theorem dX10_through_26 : decode cX10_through 26 = .ok (.aload_n 0, 1) := by decide +kernel
theorem dX10_through_27 : decode cX10_through 27 = .ok (.getfield 18, 3) := by decide +kernel
theorem dX10_through_30 : decode cX10_through 30 = .ok (.iload_n 2, 1) := by decide +kernel
theorem dX10_through_31 : decode cX10_through 31 = .ok (.aaload, 1) := by decide +kernel
theorem dX10_through_32 : decode cX10_through 32 = .ok (.astore 4, 2) := by decide +kernel
theorem dX10_through_34 : decode cX10_through 34 = .ok (.aload_n 3, 1) := by decide +kernel
theorem dX10_through_35 : decode cX10_through 35 = .ok (.getfield 158, 3) := by decide +kernel
theorem dX10_through_38 : decode cX10_through 38 = .ok (.ifCond .eq 11, 3) := by decide +kernel
theorem dX10_through_41 : decode cX10_through 41 = .ok (.aload 4, 2) := by decide +kernel
theorem dX10_through_43 : decode cX10_through 43 = .ok (.getfield 158, 3) := by decide +kernel
theorem dX10_through_46 : decode cX10_through 46 = .ok (.ifCond .ne 9, 3) := by decide +kernel
theorem dX10_through_49 : decode cX10_through 49 = .ok (.aload_n 0, 1) := by decide +kernel
theorem dX10_through_50 : decode cX10_through 50 = .ok (.iconst 1, 1) := by decide +kernel
theorem dX10_through_51 : decode cX10_through 51 = .ok (.invokevirtual 93, 3) := by decide +kernel
theorem dX10_through_54 : decode cX10_through 54 = .ok (.ireturn, 1) := by decide +kernel
theorem dX10_through_55 : decode cX10_through 55 = .ok (.aload_n 3, 1) := by decide +kernel
theorem dX10_through_56 : decode cX10_through 56 = .ok (.getfield 159, 3) := by decide +kernel
theorem dX10_through_59 : decode cX10_through 59 = .ok (.aload 4, 2) := by decide +kernel
theorem dX10_through_61 : decode cX10_through 61 = .ok (.getfield 159, 3) := by decide +kernel
theorem dX10_through_64 : decode cX10_through 64 = .ok (.if_icmp .ne 18, 3) := by decide +kernel
theorem dX10_through_67 : decode cX10_through 67 = .ok (.aload_n 3, 1) := by decide +kernel
theorem dX10_through_68 : decode cX10_through 68 = .ok (.getfield 162, 3) := by decide +kernel
theorem dX10_through_71 : decode cX10_through 71 = .ok (.aload 4, 2) := by decide +kernel
theorem dX10_through_73 : decode cX10_through 73 = .ok (.getfield 162, 3) := by decide +kernel
theorem dX10_through_76 : decode cX10_through 76 = .ok (.if_icmp .ne 6, 3) := by decide +kernel
theorem dX10_through_79 : decode cX10_through 79 = .ok (.ldc 213, 2) := by decide +kernel
theorem dX10_through_81 : decode cX10_through 81 = .ok (.ireturn, 1) := by decide +kernel
theorem dX10_through_82 : decode cX10_through 82 = .ok (.aload_n 0, 1) := by decide +kernel
theorem dX10_through_83 : decode cX10_through 83 = .ok (.getfield 45, 3) := by decide +kernel
theorem dX10_through_86 : decode cX10_through 86 = .ok (.aload_n 3, 1) := by decide +kernel
theorem dX10_through_87 : decode cX10_through 87 = .ok (.getfield 159, 3) := by decide +kernel
theorem dX10_through_90 : decode cX10_through 90 = .ok (.aload_n 3, 1) := by decide +kernel
theorem dX10_through_91 : decode cX10_through 91 = .ok (.getfield 162, 3) := by decide +kernel
theorem dX10_through_94 : decode cX10_through 94 = .ok (.aload 4, 2) := by decide +kernel
theorem dX10_through_96 : decode cX10_through 96 = .ok (.getfield 159, 3) := by decide +kernel
theorem dX10_through_99 : decode cX10_through 99 = .ok (.aload 4, 2) := by decide +kernel
theorem dX10_through_101 : decode cX10_through 101 = .ok (.getfield 162, 3) := by decide +kernel
theorem dX10_through_104 : decode cX10_through 104 = .ok (.invokevirtual 232, 3) := by decide +kernel
theorem dX10_through_107 : decode cX10_through 107 = .ok (.aload_n 0, 1) := by decide +kernel
theorem dX10_through_108 : decode cX10_through 108 = .ok (.iconst 1, 1) := by decide +kernel
theorem dX10_through_109 : decode cX10_through 109 = .ok (.invokevirtual 101, 3) := by decide +kernel
theorem dX10_through_112 : decode cX10_through 112 = .ok (.ireturn, 1) := by decide +kernel
theorem dX10_lineAt_0 : decode cX10_lineAt 0 = .ok (.iload_n 1, 1) := by decide +kernel
theorem dX10_lineAt_1 : decode cX10_lineAt 1 = .ok (.tableswitch 51 0 2 #[27, 35, 43], 27) := by decide +kernel
theorem dX10_lineAt_28 : decode cX10_lineAt 28 = .ok (.aload_n 0, 1) := by decide +kernel
theorem dX10_lineAt_29 : decode cX10_lineAt 29 = .ok (.getfield 45, 3) := by decide +kernel
theorem dX10_lineAt_32 : decode cX10_lineAt 32 = .ok (.getfield 236, 3) := by decide +kernel
theorem dX10_lineAt_35 : decode cX10_lineAt 35 = .ok (.ireturn, 1) := by decide +kernel
theorem dX10_lineAt_36 : decode cX10_lineAt 36 = .ok (.aload_n 0, 1) := by decide +kernel
theorem dX10_lineAt_37 : decode cX10_lineAt 37 = .ok (.getfield 45, 3) := by decide +kernel
theorem dX10_lineAt_40 : decode cX10_lineAt 40 = .ok (.getfield 239, 3) := by decide +kernel
theorem dX10_lineAt_43 : decode cX10_lineAt 43 = .ok (.ireturn, 1) := by decide +kernel
theorem dX10_lineAt_44 : decode cX10_lineAt 44 = .ok (.aload_n 0, 1) := by decide +kernel
theorem dX10_lineAt_45 : decode cX10_lineAt 45 = .ok (.getfield 45, 3) := by decide +kernel
theorem dX10_lineAt_48 : decode cX10_lineAt 48 = .ok (.getfield 242, 3) := by decide +kernel
theorem dX10_lineAt_51 : decode cX10_lineAt 51 = .ok (.ireturn, 1) := by decide +kernel
theorem dX10_lineAt_52 : decode cX10_lineAt 52 = .ok (.ldc 92, 2) := by decide +kernel
theorem dX10_lineAt_54 : decode cX10_lineAt 54 = .ok (.ireturn, 1) := by decide +kernel
theorem dX10_side_0 : decode cX10_side 0 = .ok (.iload_n 1, 1) := by decide +kernel
theorem dX10_side_1 : decode cX10_side 1 = .ok (.iconst 3, 1) := by decide +kernel
theorem dX10_side_2 : decode cX10_side 2 = .ok (.invokestatic 88, 3) := by decide +kernel
theorem dX10_side_5 : decode cX10_side 5 = .ok (.ifCond .eq 11, 3) := by decide +kernel
theorem dX10_side_8 : decode cX10_side 8 = .ok (.iload_n 2, 1) := by decide +kernel
theorem dX10_side_9 : decode cX10_side 9 = .ok (.iconst 3, 1) := by decide +kernel
theorem dX10_side_10 : decode cX10_side 10 = .ok (.invokestatic 88, 3) := by decide +kernel
theorem dX10_side_13 : decode cX10_side 13 = .ok (.ifCond .ne 6, 3) := by decide +kernel
theorem dX10_side_16 : decode cX10_side 16 = .ok (.ldc 92, 2) := by decide +kernel
theorem dX10_side_18 : decode cX10_side 18 = .ok (.ireturn, 1) := by decide +kernel
theorem dX10_side_19 : decode cX10_side 19 = .ok (.aload_n 0, 1) := by decide +kernel
theorem dX10_side_20 : decode cX10_side 20 = .ok (.invokevirtual 165, 3) := by decide +kernel
theorem dX10_side_23 : decode cX10_side 23 = .ok (.aload_n 0, 1) := by decide +kernel
theorem dX10_side_24 : decode cX10_side 24 = .ok (.getfield 45, 3) := by decide +kernel
theorem dX10_side_27 : decode cX10_side 27 = .ok (.iload_n 1, 1) := by decide +kernel
theorem dX10_side_28 : decode cX10_side 28 = .ok (.iload_n 2, 1) := by decide +kernel
theorem dX10_side_29 : decode cX10_side 29 = .ok (.invokevirtual 245, 3) := by decide +kernel
theorem dX10_side_32 : decode cX10_side 32 = .ok (.ireturn, 1) := by decide +kernel
theorem dX10_halves_0 : decode cX10_halves 0 = .ok (.iload_n 1, 1) := by decide +kernel
theorem dX10_halves_1 : decode cX10_halves 1 = .ok (.iconst 3, 1) := by decide +kernel
theorem dX10_halves_2 : decode cX10_halves 2 = .ok (.invokestatic 88, 3) := by decide +kernel
theorem dX10_halves_5 : decode cX10_halves 5 = .ok (.ifCond .ne 6, 3) := by decide +kernel
theorem dX10_halves_8 : decode cX10_halves 8 = .ok (.ldc 92, 2) := by decide +kernel
theorem dX10_halves_10 : decode cX10_halves 10 = .ok (.ireturn, 1) := by decide +kernel
theorem dX10_halves_11 : decode cX10_halves 11 = .ok (.aload_n 0, 1) := by decide +kernel
theorem dX10_halves_12 : decode cX10_halves 12 = .ok (.invokevirtual 165, 3) := by decide +kernel
theorem dX10_halves_15 : decode cX10_halves 15 = .ok (.aload_n 0, 1) := by decide +kernel
theorem dX10_halves_16 : decode cX10_halves 16 = .ok (.getfield 45, 3) := by decide +kernel
theorem dX10_halves_19 : decode cX10_halves 19 = .ok (.iload_n 1, 1) := by decide +kernel
theorem dX10_halves_20 : decode cX10_halves 20 = .ok (.invokevirtual 249, 3) := by decide +kernel
theorem dX10_halves_23 : decode cX10_halves 23 = .ok (.ifCond .eq 7, 3) := by decide +kernel
theorem dX10_halves_26 : decode cX10_halves 26 = .ok (.iconst 1, 1) := by decide +kernel
theorem dX10_halves_27 : decode cX10_halves 27 = .ok (.goto 4, 3) := by decide +kernel
theorem dX10_halves_30 : decode cX10_halves 30 = .ok (.iconst 0, 1) := by decide +kernel
theorem dX10_halves_31 : decode cX10_halves 31 = .ok (.ireturn, 1) := by decide +kernel
theorem dX10_furrow_0 : decode cX10_furrow 0 = .ok (.iload_n 1, 1) := by decide +kernel
theorem dX10_furrow_1 : decode cX10_furrow 1 = .ok (.ifCond .ge 6, 3) := by decide +kernel
theorem dX10_furrow_4 : decode cX10_furrow 4 = .ok (.ldc 92, 2) := by decide +kernel
theorem dX10_furrow_6 : decode cX10_furrow 6 = .ok (.ireturn, 1) := by decide +kernel
theorem dX10_furrow_7 : decode cX10_furrow 7 = .ok (.aload_n 0, 1) := by decide +kernel
theorem dX10_furrow_8 : decode cX10_furrow 8 = .ok (.invokevirtual 165, 3) := by decide +kernel
theorem dX10_furrow_11 : decode cX10_furrow 11 = .ok (.getfield 169, 3) := by decide +kernel
theorem dX10_furrow_14 : decode cX10_furrow 14 = .ok (.ifCond .ne 6, 3) := by decide +kernel
theorem dX10_furrow_17 : decode cX10_furrow 17 = .ok (.ldc 213, 2) := by decide +kernel
theorem dX10_furrow_19 : decode cX10_furrow 19 = .ok (.ireturn, 1) := by decide +kernel
theorem dX10_furrow_20 : decode cX10_furrow 20 = .ok (.iload_n 1, 1) := by decide +kernel
theorem dX10_furrow_21 : decode cX10_furrow 21 = .ok (.aload_n 0, 1) := by decide +kernel
theorem dX10_furrow_22 : decode cX10_furrow 22 = .ok (.invokevirtual 253, 3) := by decide +kernel
theorem dX10_furrow_25 : decode cX10_furrow 25 = .ok (.aload_n 0, 1) := by decide +kernel
theorem dX10_furrow_26 : decode cX10_furrow 26 = .ok (.getfield 52, 3) := by decide +kernel
theorem dX10_furrow_29 : decode cX10_furrow 29 = .ok (.invokevirtual 257, 3) := by decide +kernel
theorem dX10_furrow_32 : decode cX10_furrow 32 = .ok (.if_icmp .lt 5, 3) := by decide +kernel
theorem dX10_furrow_35 : decode cX10_furrow 35 = .ok (.iconst 0, 1) := by decide +kernel
theorem dX10_furrow_36 : decode cX10_furrow 36 = .ok (.ireturn, 1) := by decide +kernel
theorem dX10_furrow_37 : decode cX10_furrow 37 = .ok (.aload_n 0, 1) := by decide +kernel
theorem dX10_furrow_38 : decode cX10_furrow 38 = .ok (.getfield 59, 3) := by decide +kernel
theorem dX10_furrow_41 : decode cX10_furrow 41 = .ok (.aload_n 0, 1) := by decide +kernel
theorem dX10_furrow_42 : decode cX10_furrow 42 = .ok (.getfield 52, 3) := by decide +kernel
theorem dX10_furrow_45 : decode cX10_furrow 45 = .ok (.iload_n 1, 1) := by decide +kernel
theorem dX10_furrow_46 : decode cX10_furrow 46 = .ok (.aload_n 0, 1) := by decide +kernel
theorem dX10_furrow_47 : decode cX10_furrow 47 = .ok (.getfield 45, 3) := by decide +kernel
theorem dX10_furrow_50 : decode cX10_furrow 50 = .ok (.invokevirtual 261, 3) := by decide +kernel
theorem dX10_furrow_53 : decode cX10_furrow 53 = .ok (.iconst 1, 1) := by decide +kernel
theorem dX10_furrow_54 : decode cX10_furrow 54 = .ok (.ireturn, 1) := by decide +kernel
theorem dX10_furrows_0 : decode cX10_furrows 0 = .ok (.aload_n 0, 1) := by decide +kernel
theorem dX10_furrows_1 : decode cX10_furrows 1 = .ok (.invokevirtual 165, 3) := by decide +kernel
theorem dX10_furrows_4 : decode cX10_furrows 4 = .ok (.getfield 169, 3) := by decide +kernel
theorem dX10_furrows_7 : decode cX10_furrows 7 = .ok (.ifCond .ne 6, 3) := by decide +kernel
theorem dX10_furrows_10 : decode cX10_furrows 10 = .ok (.ldc 213, 2) := by decide +kernel
theorem dX10_furrows_12 : decode cX10_furrows 12 = .ok (.ireturn, 1) := by decide +kernel
theorem dX10_furrows_13 : decode cX10_furrows 13 = .ok (.aload_n 0, 1) := by decide +kernel
theorem dX10_furrows_14 : decode cX10_furrows 14 = .ok (.invokevirtual 253, 3) := by decide +kernel
theorem dX10_furrows_17 : decode cX10_furrows 17 = .ok (.aload_n 0, 1) := by decide +kernel
theorem dX10_furrows_18 : decode cX10_furrows 18 = .ok (.getfield 52, 3) := by decide +kernel
theorem dX10_furrows_21 : decode cX10_furrows 21 = .ok (.invokevirtual 257, 3) := by decide +kernel
theorem dX10_furrows_24 : decode cX10_furrows 24 = .ok (.ireturn, 1) := by decide +kernel
theorem dX10_depth_0 : decode cX10_depth 0 = .ok (.iload_n 1, 1) := by decide +kernel
theorem dX10_depth_1 : decode cX10_depth 1 = .ok (.i2l, 1) := by decide +kernel
theorem dX10_depth_2 : decode cX10_depth 2 = .ok (.ldc2_w 223, 3) := by decide +kernel
theorem dX10_depth_5 : decode cX10_depth 5 = .ok (.invokestatic 225, 3) := by decide +kernel
theorem dX10_depth_8 : decode cX10_depth 8 = .ok (.ifCond .eq 26, 3) := by decide +kernel
theorem dX10_depth_11 : decode cX10_depth 11 = .ok (.iload_n 2, 1) := by decide +kernel
theorem dX10_depth_12 : decode cX10_depth 12 = .ok (.i2l, 1) := by decide +kernel
theorem dX10_depth_13 : decode cX10_depth 13 = .ok (.ldc2_w 223, 3) := by decide +kernel
theorem dX10_depth_16 : decode cX10_depth 16 = .ok (.invokestatic 225, 3) := by decide +kernel
theorem dX10_depth_19 : decode cX10_depth 19 = .ok (.ifCond .eq 15, 3) := by decide +kernel
theorem dX10_depth_22 : decode cX10_depth 22 = .ok (.iload_n 3, 1) := by decide +kernel
theorem dX10_depth_23 : decode cX10_depth 23 = .ok (.iconst 1, 1) := by decide +kernel
theorem dX10_depth_24 : decode cX10_depth 24 = .ok (.if_icmp .lt 10, 3) := by decide +kernel
theorem dX10_depth_27 : decode cX10_depth 27 = .ok (.iload_n 3, 1) := by decide +kernel
theorem dX10_depth_28 : decode cX10_depth 28 = .ok (.sipush 1000, 3) := by decide +kernel
theorem dX10_depth_31 : decode cX10_depth 31 = .ok (.if_icmp .le 6, 3) := by decide +kernel
theorem dX10_depth_34 : decode cX10_depth 34 = .ok (.ldc 92, 2) := by decide +kernel
theorem dX10_depth_36 : decode cX10_depth 36 = .ok (.ireturn, 1) := by decide +kernel
theorem dX10_depth_37 : decode cX10_depth 37 = .ok (.aload_n 0, 1) := by decide +kernel
theorem dX10_depth_38 : decode cX10_depth 38 = .ok (.getfield 73, 3) := by decide +kernel
theorem dX10_depth_41 : decode cX10_depth 41 = .ok (.aload_n 0, 1) := by decide +kernel
theorem dX10_depth_42 : decode cX10_depth 42 = .ok (.invokevirtual 165, 3) := by decide +kernel
theorem dX10_depth_45 : decode cX10_depth 45 = .ok (.iload_n 1, 1) := by decide +kernel
theorem dX10_depth_46 : decode cX10_depth 46 = .ok (.i2l, 1) := by decide +kernel
theorem dX10_depth_47 : decode cX10_depth 47 = .ok (.iload_n 2, 1) := by decide +kernel
theorem dX10_depth_48 : decode cX10_depth 48 = .ok (.i2l, 1) := by decide +kernel
theorem dX10_depth_49 : decode cX10_depth 49 = .ok (.iload_n 3, 1) := by decide +kernel
theorem dX10_depth_50 : decode cX10_depth 50 = .ok (.i2l, 1) := by decide +kernel
theorem dX10_depth_51 : decode cX10_depth 51 = .ok (.iconst 0, 1) := by decide +kernel
theorem dX10_depth_52 : decode cX10_depth 52 = .ok (.invokevirtual 265, 3) := by decide +kernel
theorem dX10_depth_55 : decode cX10_depth 55 = .ok (.ireturn, 1) := by decide +kernel
theorem dX10_deepest_0 : decode cX10_deepest 0 = .ok (.iload_n 1, 1) := by decide +kernel
theorem dX10_deepest_1 : decode cX10_deepest 1 = .ok (.iconst 5, 1) := by decide +kernel
theorem dX10_deepest_2 : decode cX10_deepest 2 = .ok (.invokestatic 88, 3) := by decide +kernel
theorem dX10_deepest_5 : decode cX10_deepest 5 = .ok (.ifCond .ne 7, 3) := by decide +kernel
theorem dX10_deepest_8 : decode cX10_deepest 8 = .ok (.ldc2_w 104, 3) := by decide +kernel
theorem dX10_deepest_11 : decode cX10_deepest 11 = .ok (.lreturn, 1) := by decide +kernel
theorem dX10_deepest_12 : decode cX10_deepest 12 = .ok (.aload_n 0, 1) := by decide +kernel
theorem dX10_deepest_13 : decode cX10_deepest 13 = .ok (.invokevirtual 165, 3) := by decide +kernel
theorem dX10_deepest_16 : decode cX10_deepest 16 = .ok (.getfield 169, 3) := by decide +kernel
theorem dX10_deepest_19 : decode cX10_deepest 19 = .ok (.ifCond .ne 7, 3) := by decide +kernel
theorem dX10_deepest_22 : decode cX10_deepest 22 = .ok (.ldc2_w 269, 3) := by decide +kernel
theorem dX10_deepest_25 : decode cX10_deepest 25 = .ok (.lreturn, 1) := by decide +kernel
theorem dX10_deepest_26 : decode cX10_deepest 26 = .ok (.aload_n 0, 1) := by decide +kernel
theorem dX10_deepest_27 : decode cX10_deepest 27 = .ok (.getfield 52, 3) := by decide +kernel
theorem dX10_deepest_30 : decode cX10_deepest 30 = .ok (.getfield 169, 3) := by decide +kernel
theorem dX10_deepest_33 : decode cX10_deepest 33 = .ok (.bipush 12, 2) := by decide +kernel
theorem dX10_deepest_35 : decode cX10_deepest 35 = .ok (.if_icmp .le 7, 3) := by decide +kernel
theorem dX10_deepest_38 : decode cX10_deepest 38 = .ok (.ldc2_w 271, 3) := by decide +kernel
theorem dX10_deepest_41 : decode cX10_deepest 41 = .ok (.lreturn, 1) := by decide +kernel
theorem dX10_deepest_42 : decode cX10_deepest 42 = .ok (.aload_n 0, 1) := by decide +kernel
theorem dX10_deepest_43 : decode cX10_deepest 43 = .ok (.getfield 73, 3) := by decide +kernel
theorem dX10_deepest_46 : decode cX10_deepest 46 = .ok (.getfield 273, 3) := by decide +kernel
theorem dX10_deepest_49 : decode cX10_deepest 49 = .ok (.ifCond .ne 18, 3) := by decide +kernel
theorem dX10_deepest_52 : decode cX10_deepest 52 = .ok (.aload_n 0, 1) := by decide +kernel
theorem dX10_deepest_53 : decode cX10_deepest 53 = .ok (.getfield 73, 3) := by decide +kernel
theorem dX10_deepest_56 : decode cX10_deepest 56 = .ok (.aload_n 0, 1) := by decide +kernel
theorem dX10_deepest_57 : decode cX10_deepest 57 = .ok (.getfield 52, 3) := by decide +kernel
theorem dX10_deepest_60 : decode cX10_deepest 60 = .ok (.aload_n 0, 1) := by decide +kernel
theorem dX10_deepest_61 : decode cX10_deepest 61 = .ok (.invokevirtual 253, 3) := by decide +kernel
theorem dX10_deepest_64 : decode cX10_deepest 64 = .ok (.invokevirtual 276, 3) := by decide +kernel
theorem dX10_deepest_67 : decode cX10_deepest 67 = .ok (.aload_n 0, 1) := by decide +kernel
theorem dX10_deepest_68 : decode cX10_deepest 68 = .ok (.getfield 73, 3) := by decide +kernel
theorem dX10_deepest_71 : decode cX10_deepest 71 = .ok (.iload_n 1, 1) := by decide +kernel
theorem dX10_deepest_72 : decode cX10_deepest 72 = .ok (.invokevirtual 280, 3) := by decide +kernel
theorem dX10_deepest_75 : decode cX10_deepest 75 = .ok (.lreturn, 1) := by decide +kernel
theorem dX10_layer_0 : decode cX10_layer 0 = .ok (.iload_n 1, 1) := by decide +kernel
theorem dX10_layer_1 : decode cX10_layer 1 = .ok (.iconst 1, 1) := by decide +kernel
theorem dX10_layer_2 : decode cX10_layer 2 = .ok (.if_icmp .ge 6, 3) := by decide +kernel
theorem dX10_layer_5 : decode cX10_layer 5 = .ok (.ldc 92, 2) := by decide +kernel
theorem dX10_layer_7 : decode cX10_layer 7 = .ok (.ireturn, 1) := by decide +kernel
theorem dX10_layer_8 : decode cX10_layer 8 = .ok (.aload_n 0, 1) := by decide +kernel
theorem dX10_layer_9 : decode cX10_layer 9 = .ok (.invokevirtual 182, 3) := by decide +kernel
theorem dX10_layer_12 : decode cX10_layer 12 = .ok (.iload_n 1, 1) := by decide +kernel
theorem dX10_layer_13 : decode cX10_layer 13 = .ok (.invokevirtual 284, 3) := by decide +kernel
theorem dX10_layer_16 : decode cX10_layer 16 = .ok (.ireturn, 1) := by decide +kernel
theorem dX10_most_0 : decode cX10_most 0 = .ok (.iload_n 1, 1) := by decide +kernel
theorem dX10_most_1 : decode cX10_most 1 = .ok (.iconst 2, 1) := by decide +kernel
theorem dX10_most_2 : decode cX10_most 2 = .ok (.invokestatic 88, 3) := by decide +kernel
theorem dX10_most_5 : decode cX10_most 5 = .ok (.ifCond .ne 6, 3) := by decide +kernel
theorem dX10_most_8 : decode cX10_most 8 = .ok (.ldc 92, 2) := by decide +kernel
theorem dX10_most_10 : decode cX10_most 10 = .ok (.ireturn, 1) := by decide +kernel
theorem dX10_most_11 : decode cX10_most 11 = .ok (.iload_n 1, 1) := by decide +kernel
theorem dX10_most_12 : decode cX10_most 12 = .ok (.iconst 1, 1) := by decide +kernel
theorem dX10_most_13 : decode cX10_most 13 = .ok (.if_icmp .ne 13, 3) := by decide +kernel
theorem dX10_most_16 : decode cX10_most 16 = .ok (.aload_n 0, 1) := by decide +kernel
theorem dX10_most_17 : decode cX10_most 17 = .ok (.invokevirtual 253, 3) := by decide +kernel
theorem dX10_most_20 : decode cX10_most 20 = .ok (.getfield 287, 3) := by decide +kernel
theorem dX10_most_23 : decode cX10_most 23 = .ok (.goto 10, 3) := by decide +kernel
theorem dX10_most_26 : decode cX10_most 26 = .ok (.aload_n 0, 1) := by decide +kernel
theorem dX10_most_27 : decode cX10_most 27 = .ok (.invokevirtual 253, 3) := by decide +kernel
theorem dX10_most_30 : decode cX10_most 30 = .ok (.getfield 290, 3) := by decide +kernel
theorem dX10_most_33 : decode cX10_most 33 = .ok (.ireturn, 1) := by decide +kernel
theorem dX10_widest_0 : decode cX10_widest 0 = .ok (.iload_n 1, 1) := by decide +kernel
theorem dX10_widest_1 : decode cX10_widest 1 = .ok (.iconst 2, 1) := by decide +kernel
theorem dX10_widest_2 : decode cX10_widest 2 = .ok (.invokestatic 88, 3) := by decide +kernel
theorem dX10_widest_5 : decode cX10_widest 5 = .ok (.ifCond .ne 7, 3) := by decide +kernel
theorem dX10_widest_8 : decode cX10_widest 8 = .ok (.ldc2_w 104, 3) := by decide +kernel
theorem dX10_widest_11 : decode cX10_widest 11 = .ok (.lreturn, 1) := by decide +kernel
theorem dX10_widest_12 : decode cX10_widest 12 = .ok (.aload_n 0, 1) := by decide +kernel
theorem dX10_widest_13 : decode cX10_widest 13 = .ok (.invokevirtual 253, 3) := by decide +kernel
theorem dX10_widest_16 : decode cX10_widest 16 = .ok (.getfield 293, 3) := by decide +kernel
theorem dX10_widest_19 : decode cX10_widest 19 = .ok (.ifCond .ne 7, 3) := by decide +kernel
theorem dX10_widest_22 : decode cX10_widest 22 = .ok (.ldc2_w 269, 3) := by decide +kernel
theorem dX10_widest_25 : decode cX10_widest 25 = .ok (.lreturn, 1) := by decide +kernel
theorem dX10_widest_26 : decode cX10_widest 26 = .ok (.aload_n 0, 1) := by decide +kernel
theorem dX10_widest_27 : decode cX10_widest 27 = .ok (.getfield 80, 3) := by decide +kernel
theorem dX10_widest_30 : decode cX10_widest 30 = .ok (.getfield 294, 3) := by decide +kernel
theorem dX10_widest_33 : decode cX10_widest 33 = .ok (.ifCond .ne 18, 3) := by decide +kernel
theorem dX10_widest_36 : decode cX10_widest 36 = .ok (.aload_n 0, 1) := by decide +kernel
theorem dX10_widest_37 : decode cX10_widest 37 = .ok (.getfield 80, 3) := by decide +kernel
theorem dX10_widest_40 : decode cX10_widest 40 = .ok (.aload_n 0, 1) := by decide +kernel
theorem dX10_widest_41 : decode cX10_widest 41 = .ok (.invokevirtual 165, 3) := by decide +kernel
theorem dX10_widest_44 : decode cX10_widest 44 = .ok (.aload_n 0, 1) := by decide +kernel
theorem dX10_widest_45 : decode cX10_widest 45 = .ok (.getfield 59, 3) := by decide +kernel
theorem dX10_widest_48 : decode cX10_widest 48 = .ok (.invokevirtual 295, 3) := by decide +kernel
theorem dX10_widest_51 : decode cX10_widest 51 = .ok (.iload_n 1, 1) := by decide +kernel
theorem dX10_widest_52 : decode cX10_widest 52 = .ok (.ifCond .ne 13, 3) := by decide +kernel
theorem dX10_widest_55 : decode cX10_widest 55 = .ok (.aload_n 0, 1) := by decide +kernel
theorem dX10_widest_56 : decode cX10_widest 56 = .ok (.getfield 80, 3) := by decide +kernel
theorem dX10_widest_59 : decode cX10_widest 59 = .ok (.getfield 298, 3) := by decide +kernel
theorem dX10_widest_62 : decode cX10_widest 62 = .ok (.goto 10, 3) := by decide +kernel
theorem dX10_widest_65 : decode cX10_widest 65 = .ok (.aload_n 0, 1) := by decide +kernel
theorem dX10_widest_66 : decode cX10_widest 66 = .ok (.getfield 80, 3) := by decide +kernel
theorem dX10_widest_69 : decode cX10_widest 69 = .ok (.getfield 302, 3) := by decide +kernel
theorem dX10_widest_72 : decode cX10_widest 72 = .ok (.lreturn, 1) := by decide +kernel
theorem dX10_count_0 : decode cX10_count 0 = .ok (.iload_n 1, 1) := by decide +kernel
theorem dX10_count_1 : decode cX10_count 1 = .ok (.tableswitch 96 0 6 #[43, 51, 56, 61, 69, 78, 87], 43) := by decide +kernel
theorem dX10_count_44 : decode cX10_count 44 = .ok (.aload_n 0, 1) := by decide +kernel
theorem dX10_count_45 : decode cX10_count 45 = .ok (.invokevirtual 165, 3) := by decide +kernel
theorem dX10_count_48 : decode cX10_count 48 = .ok (.getfield 169, 3) := by decide +kernel
theorem dX10_count_51 : decode cX10_count 51 = .ok (.ireturn, 1) := by decide +kernel
theorem dX10_count_52 : decode cX10_count 52 = .ok (.aload_n 0, 1) := by decide +kernel
theorem dX10_count_53 : decode cX10_count 53 = .ok (.getfield 137, 3) := by decide +kernel
theorem dX10_count_56 : decode cX10_count 56 = .ok (.ireturn, 1) := by decide +kernel
theorem dX10_count_57 : decode cX10_count 57 = .ok (.aload_n 0, 1) := by decide +kernel
theorem dX10_count_58 : decode cX10_count 58 = .ok (.invokevirtual 305, 3) := by decide +kernel
theorem dX10_count_61 : decode cX10_count 61 = .ok (.ireturn, 1) := by decide +kernel
theorem dX10_count_62 : decode cX10_count 62 = .ok (.aload_n 0, 1) := by decide +kernel
theorem dX10_count_63 : decode cX10_count 63 = .ok (.invokevirtual 182, 3) := by decide +kernel
theorem dX10_count_66 : decode cX10_count 66 = .ok (.getfield 309, 3) := by decide +kernel
theorem dX10_count_69 : decode cX10_count 69 = .ok (.ireturn, 1) := by decide +kernel
theorem dX10_count_70 : decode cX10_count 70 = .ok (.aload_n 0, 1) := by decide +kernel
theorem dX10_count_71 : decode cX10_count 71 = .ok (.invokevirtual 165, 3) := by decide +kernel
theorem dX10_count_74 : decode cX10_count 74 = .ok (.iconst 0, 1) := by decide +kernel
theorem dX10_count_75 : decode cX10_count 75 = .ok (.invokevirtual 310, 3) := by decide +kernel
theorem dX10_count_78 : decode cX10_count 78 = .ok (.ireturn, 1) := by decide +kernel
theorem dX10_count_79 : decode cX10_count 79 = .ok (.aload_n 0, 1) := by decide +kernel
theorem dX10_count_80 : decode cX10_count 80 = .ok (.invokevirtual 165, 3) := by decide +kernel
theorem dX10_count_83 : decode cX10_count 83 = .ok (.iconst 1, 1) := by decide +kernel
theorem dX10_count_84 : decode cX10_count 84 = .ok (.invokevirtual 310, 3) := by decide +kernel
theorem dX10_count_87 : decode cX10_count 87 = .ok (.ireturn, 1) := by decide +kernel
theorem dX10_count_88 : decode cX10_count 88 = .ok (.aload_n 0, 1) := by decide +kernel
theorem dX10_count_89 : decode cX10_count 89 = .ok (.invokevirtual 165, 3) := by decide +kernel
theorem dX10_count_92 : decode cX10_count 92 = .ok (.iconst 2, 1) := by decide +kernel
theorem dX10_count_93 : decode cX10_count 93 = .ok (.invokevirtual 310, 3) := by decide +kernel
theorem dX10_count_96 : decode cX10_count 96 = .ok (.ireturn, 1) := by decide +kernel
theorem dX10_count_97 : decode cX10_count 97 = .ok (.ldc 92, 2) := by decide +kernel
theorem dX10_count_99 : decode cX10_count 99 = .ok (.ireturn, 1) := by decide +kernel
theorem dX10_status_0 : decode cX10_status 0 = .ok (.aload_n 0, 1) := by decide +kernel
theorem dX10_status_1 : decode cX10_status 1 = .ok (.getfield 121, 3) := by decide +kernel
theorem dX10_status_4 : decode cX10_status 4 = .ok (.ireturn, 1) := by decide +kernel
theorem dX10_found_0 : decode cX10_found 0 = .ok (.aload_n 0, 1) := by decide +kernel
theorem dX10_found_1 : decode cX10_found 1 = .ok (.iload_n 1, 1) := by decide +kernel
theorem dX10_found_2 : decode cX10_found 2 = .ok (.putfield 121, 3) := by decide +kernel
theorem dX10_found_5 : decode cX10_found 5 = .ok (.ldc_w 313, 3) := by decide +kernel
theorem dX10_found_8 : decode cX10_found 8 = .ok (.iload_n 1, 1) := by decide +kernel
theorem dX10_found_9 : decode cX10_found 9 = .ok (.isub, 1) := by decide +kernel
theorem dX10_found_10 : decode cX10_found 10 = .ok (.ireturn, 1) := by decide +kernel
theorem dX10_done_0 : decode cX10_done 0 = .ok (.aload_n 0, 1) := by decide +kernel
theorem dX10_done_1 : decode cX10_done 1 = .ok (.iconst 0, 1) := by decide +kernel
theorem dX10_done_2 : decode cX10_done 2 = .ok (.putfield 121, 3) := by decide +kernel
theorem dX10_done_5 : decode cX10_done 5 = .ok (.iload_n 1, 1) := by decide +kernel
theorem dX10_done_6 : decode cX10_done 6 = .ok (.ireturn, 1) := by decide +kernel
theorem dX10_isGiven_0 : decode cX10_isGiven 0 = .ok (.iload_n 1, 1) := by decide +kernel
theorem dX10_isGiven_1 : decode cX10_isGiven 1 = .ok (.aload_n 0, 1) := by decide +kernel
theorem dX10_isGiven_2 : decode cX10_isGiven 2 = .ok (.getfield 137, 3) := by decide +kernel
theorem dX10_isGiven_5 : decode cX10_isGiven 5 = .ok (.invokestatic 88, 3) := by decide +kernel
theorem dX10_isGiven_8 : decode cX10_isGiven 8 = .ok (.ireturn, 1) := by decide +kernel
theorem dX10_bedsThere_0 : decode cX10_bedsThere 0 = .ok (.iconst 0, 1) := by decide +kernel
theorem dX10_bedsThere_1 : decode cX10_bedsThere 1 = .ok (.istore_n 1, 1) := by decide +kernel
theorem dX10_bedsThere_2 : decode cX10_bedsThere 2 = .ok (.iconst 0, 1) := by decide +kernel
theorem dX10_bedsThere_3 : decode cX10_bedsThere 3 = .ok (.istore_n 2, 1) := by decide +kernel
theorem dX10_bedsThere_4 : decode cX10_bedsThere 4 = .ok (.iload_n 2, 1) := by decide +kernel
theorem dX10_bedsThere_5 : decode cX10_bedsThere 5 = .ok (.bipush 8, 2) := by decide +kernel
theorem dX10_bedsThere_7 : decode cX10_bedsThere 7 = .ok (.if_icmp .ge 24, 3) := by decide +kernel
theorem dX10_bedsThere_10 : decode cX10_bedsThere 10 = .ok (.aload_n 0, 1) := by decide +kernel
theorem dX10_bedsThere_11 : decode cX10_bedsThere 11 = .ok (.getfield 11, 3) := by decide +kernel
theorem dX10_bedsThere_14 : decode cX10_bedsThere 14 = .ok (.iload_n 2, 1) := by decide +kernel
theorem dX10_bedsThere_15 : decode cX10_bedsThere 15 = .ok (.aaload, 1) := by decide +kernel
theorem dX10_bedsThere_16 : decode cX10_bedsThere 16 = .ok (.getfield 106, 3) := by decide +kernel
theorem dX10_bedsThere_19 : decode cX10_bedsThere 19 = .ok (.ifCond .eq 6, 3) := by decide +kernel
theorem dX10_bedsThere_22 : decode cX10_bedsThere 22 = .ok (.iinc 1 1, 3) := by decide +kernel
theorem dX10_bedsThere_25 : decode cX10_bedsThere 25 = .ok (.iinc 2 1, 3) := by decide +kernel
theorem dX10_bedsThere_28 : decode cX10_bedsThere 28 = .ok (.goto (-24), 3) := by decide +kernel
theorem dX10_bedsThere_31 : decode cX10_bedsThere 31 = .ok (.iload_n 1, 1) := by decide +kernel
theorem dX10_bedsThere_32 : decode cX10_bedsThere 32 = .ok (.ireturn, 1) := by decide +kernel
theorem dX10_keepForUndo_0 : decode cX10_keepForUndo 0 = .ok (.aload_n 0, 1) := by decide +kernel
theorem dX10_keepForUndo_1 : decode cX10_keepForUndo 1 = .ok (.getfield 26, 3) := by decide +kernel
theorem dX10_keepForUndo_4 : decode cX10_keepForUndo 4 = .ok (.iconst 1, 1) := by decide +kernel
theorem dX10_keepForUndo_5 : decode cX10_keepForUndo 5 = .ok (.putfield 207, 3) := by decide +kernel
theorem dX10_keepForUndo_8 : decode cX10_keepForUndo 8 = .ok (.aload_n 0, 1) := by decide +kernel
theorem dX10_keepForUndo_9 : decode cX10_keepForUndo 9 = .ok (.getfield 26, 3) := by decide +kernel
theorem dX10_keepForUndo_12 : decode cX10_keepForUndo 12 = .ok (.iload_n 1, 1) := by decide +kernel
theorem dX10_keepForUndo_13 : decode cX10_keepForUndo 13 = .ok (.putfield 210, 3) := by decide +kernel
theorem dX10_keepForUndo_16 : decode cX10_keepForUndo 16 = .ok (.aload_n 0, 1) := by decide +kernel
theorem dX10_keepForUndo_17 : decode cX10_keepForUndo 17 = .ok (.getfield 26, 3) := by decide +kernel
theorem dX10_keepForUndo_20 : decode cX10_keepForUndo 20 = .ok (.aload_n 0, 1) := by decide +kernel
theorem dX10_keepForUndo_21 : decode cX10_keepForUndo 21 = .ok (.getfield 137, 3) := by decide +kernel
theorem dX10_keepForUndo_24 : decode cX10_keepForUndo 24 = .ok (.putfield 222, 3) := by decide +kernel
theorem dX10_keepForUndo_27 : decode cX10_keepForUndo 27 = .ok (.aload_n 0, 1) := by decide +kernel
theorem dX10_keepForUndo_28 : decode cX10_keepForUndo 28 = .ok (.getfield 26, 3) := by decide +kernel
theorem dX10_keepForUndo_31 : decode cX10_keepForUndo 31 = .ok (.getfield 214, 3) := by decide +kernel
theorem dX10_keepForUndo_34 : decode cX10_keepForUndo 34 = .ok (.aload_n 0, 1) := by decide +kernel
theorem dX10_keepForUndo_35 : decode cX10_keepForUndo 35 = .ok (.getfield 18, 3) := by decide +kernel
theorem dX10_keepForUndo_38 : decode cX10_keepForUndo 38 = .ok (.iload_n 1, 1) := by decide +kernel
theorem dX10_keepForUndo_39 : decode cX10_keepForUndo 39 = .ok (.aaload, 1) := by decide +kernel
theorem dX10_keepForUndo_40 : decode cX10_keepForUndo 40 = .ok (.invokevirtual 218, 3) := by decide +kernel
theorem dX10_keepForUndo_43 : decode cX10_keepForUndo 43 = .ok (.return_, 1) := by decide +kernel
theorem dX10_forget_0 : decode cX10_forget 0 = .ok (.aload_n 0, 1) := by decide +kernel
theorem dX10_forget_1 : decode cX10_forget 1 = .ok (.getfield 52, 3) := by decide +kernel
theorem dX10_forget_4 : decode cX10_forget 4 = .ok (.iconst 0, 1) := by decide +kernel
theorem dX10_forget_5 : decode cX10_forget 5 = .ok (.putfield 314, 3) := by decide +kernel
theorem dX10_forget_8 : decode cX10_forget 8 = .ok (.aload_n 0, 1) := by decide +kernel
theorem dX10_forget_9 : decode cX10_forget 9 = .ok (.getfield 59, 3) := by decide +kernel
theorem dX10_forget_12 : decode cX10_forget 12 = .ok (.iconst 0, 1) := by decide +kernel
theorem dX10_forget_13 : decode cX10_forget 13 = .ok (.putfield 315, 3) := by decide +kernel
