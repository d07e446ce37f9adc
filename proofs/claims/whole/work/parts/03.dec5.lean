theorem dX11_depthOf_89 : decode cX11_depthOf 89 = .ok (.iaload, 1) := by decide +kernel
theorem dX11_depthOf_90 : decode cX11_depthOf 90 = .ok (.iadd, 1) := by decide +kernel
theorem dX11_depthOf_91 : decode cX11_depthOf 91 = .ok (.istore 8, 2) := by decide +kernel
theorem dX11_depthOf_93 : decode cX11_depthOf 93 = .ok (.iinc 7 1, 3) := by decide +kernel
theorem dX11_depthOf_96 : decode cX11_depthOf 96 = .ok (.iinc 9 1, 3) := by decide +kernel
theorem dX11_depthOf_99 : decode cX11_depthOf 99 = .ok (.goto (-90), 3) := by decide +kernel
theorem dX11_depthOf_102 : decode cX11_depthOf 102 = .ok (.iload 8, 2) := by decide +kernel
theorem dX11_depthOf_104 : decode cX11_depthOf 104 = .ok (.istore 9, 2) := by decide +kernel
theorem dX11_depthOf_106 : decode cX11_depthOf 106 = .ok (.iconst 0, 1) := by decide +kernel
theorem dX11_depthOf_107 : decode cX11_depthOf 107 = .ok (.istore 10, 2) := by decide +kernel
theorem dX11_depthOf_109 : decode cX11_depthOf 109 = .ok (.iload 10, 2) := by decide +kernel
theorem dX11_depthOf_111 : decode cX11_depthOf 111 = .ok (.iload 7, 2) := by decide +kernel
theorem dX11_depthOf_113 : decode cX11_depthOf 113 = .ok (.if_icmp .ge 144, 3) := by decide +kernel
theorem dX11_depthOf_116 : decode cX11_depthOf 116 = .ok (.aload_n 0, 1) := by decide +kernel
theorem dX11_depthOf_117 : decode cX11_depthOf 117 = .ok (.getfield 51, 3) := by decide +kernel
theorem dX11_depthOf_120 : decode cX11_depthOf 120 = .ok (.iload 10, 2) := by decide +kernel
theorem dX11_depthOf_122 : decode cX11_depthOf 122 = .ok (.laload, 1) := by decide +kernel
theorem dX11_depthOf_123 : decode cX11_depthOf 123 = .ok (.lconst 0, 1) := by decide +kernel
theorem dX11_depthOf_124 : decode cX11_depthOf 124 = .ok (.lcmp, 1) := by decide +kernel
theorem dX11_depthOf_125 : decode cX11_depthOf 125 = .ok (.ifCond .ne 15, 3) := by decide +kernel
theorem dX11_depthOf_128 : decode cX11_depthOf 128 = .ok (.aload_n 0, 1) := by decide +kernel
theorem dX11_depthOf_129 : decode cX11_depthOf 129 = .ok (.getfield 54, 3) := by decide +kernel
theorem dX11_depthOf_132 : decode cX11_depthOf 132 = .ok (.iload 10, 2) := by decide +kernel
theorem dX11_depthOf_134 : decode cX11_depthOf 134 = .ok (.laload, 1) := by decide +kernel
theorem dX11_depthOf_135 : decode cX11_depthOf 135 = .ok (.lconst 0, 1) := by decide +kernel
theorem dX11_depthOf_136 : decode cX11_depthOf 136 = .ok (.lcmp, 1) := by decide +kernel
theorem dX11_depthOf_137 : decode cX11_depthOf 137 = .ok (.ifCond .eq 114, 3) := by decide +kernel
theorem dX11_depthOf_140 : decode cX11_depthOf 140 = .ok (.iconst 0, 1) := by decide +kernel
theorem dX11_depthOf_141 : decode cX11_depthOf 141 = .ok (.istore 11, 2) := by decide +kernel
theorem dX11_depthOf_143 : decode cX11_depthOf 143 = .ok (.iload 11, 2) := by decide +kernel
theorem dX11_depthOf_145 : decode cX11_depthOf 145 = .ok (.iconst 4, 1) := by decide +kernel
theorem dX11_depthOf_146 : decode cX11_depthOf 146 = .ok (.if_icmp .ge 105, 3) := by decide +kernel
theorem dX11_depthOf_149 : decode cX11_depthOf 149 = .ok (.iload 11, 2) := by decide +kernel
theorem dX11_depthOf_151 : decode cX11_depthOf 151 = .ok (.iconst 2, 1) := by decide +kernel
theorem dX11_depthOf_152 : decode cX11_depthOf 152 = .ok (.if_icmp .ge 7, 3) := by decide +kernel
theorem dX11_depthOf_155 : decode cX11_depthOf 155 = .ok (.lconst 1, 1) := by decide +kernel
theorem dX11_depthOf_156 : decode cX11_depthOf 156 = .ok (.goto 6, 3) := by decide +kernel
theorem dX11_depthOf_159 : decode cX11_depthOf 159 = .ok (.ldc2_w 232, 3) := by decide +kernel
theorem dX11_depthOf_162 : decode cX11_depthOf 162 = .ok (.lstore 12, 2) := by decide +kernel
theorem dX11_depthOf_164 : decode cX11_depthOf 164 = .ok (.iload 11, 2) := by decide +kernel
theorem dX11_depthOf_166 : decode cX11_depthOf 166 = .ok (.iconst 2, 1) := by decide +kernel
theorem dX11_depthOf_167 : decode cX11_depthOf 167 = .ok (.irem, 1) := by decide +kernel
theorem dX11_depthOf_168 : decode cX11_depthOf 168 = .ok (.ifCond .ne 7, 3) := by decide +kernel
theorem dX11_depthOf_171 : decode cX11_depthOf 171 = .ok (.lconst 1, 1) := by decide +kernel
theorem dX11_depthOf_172 : decode cX11_depthOf 172 = .ok (.goto 6, 3) := by decide +kernel
theorem dX11_depthOf_175 : decode cX11_depthOf 175 = .ok (.ldc2_w 232, 3) := by decide +kernel
theorem dX11_depthOf_178 : decode cX11_depthOf 178 = .ok (.lstore 14, 2) := by decide +kernel
theorem dX11_depthOf_180 : decode cX11_depthOf 180 = .ok (.aload_n 0, 1) := by decide +kernel
theorem dX11_depthOf_181 : decode cX11_depthOf 181 = .ok (.iload 7, 2) := by decide +kernel
theorem dX11_depthOf_183 : decode cX11_depthOf 183 = .ok (.lload 12, 2) := by decide +kernel
theorem dX11_depthOf_185 : decode cX11_depthOf 185 = .ok (.lneg, 1) := by decide +kernel
theorem dX11_depthOf_186 : decode cX11_depthOf 186 = .ok (.aload_n 0, 1) := by decide +kernel
theorem dX11_depthOf_187 : decode cX11_depthOf 187 = .ok (.getfield 54, 3) := by decide +kernel
theorem dX11_depthOf_190 : decode cX11_depthOf 190 = .ok (.iload 10, 2) := by decide +kernel
theorem dX11_depthOf_192 : decode cX11_depthOf 192 = .ok (.laload, 1) := by decide +kernel
theorem dX11_depthOf_193 : decode cX11_depthOf 193 = .ok (.lmul, 1) := by decide +kernel
theorem dX11_depthOf_194 : decode cX11_depthOf 194 = .ok (.lload 12, 2) := by decide +kernel
theorem dX11_depthOf_196 : decode cX11_depthOf 196 = .ok (.aload_n 0, 1) := by decide +kernel
theorem dX11_depthOf_197 : decode cX11_depthOf 197 = .ok (.getfield 51, 3) := by decide +kernel
theorem dX11_depthOf_200 : decode cX11_depthOf 200 = .ok (.iload 10, 2) := by decide +kernel
theorem dX11_depthOf_202 : decode cX11_depthOf 202 = .ok (.laload, 1) := by decide +kernel
theorem dX11_depthOf_203 : decode cX11_depthOf 203 = .ok (.lmul, 1) := by decide +kernel
theorem dX11_depthOf_204 : decode cX11_depthOf 204 = .ok (.lload 14, 2) := by decide +kernel
theorem dX11_depthOf_206 : decode cX11_depthOf 206 = .ok (.aload_n 0, 1) := by decide +kernel
theorem dX11_depthOf_207 : decode cX11_depthOf 207 = .ok (.getfield 51, 3) := by decide +kernel
theorem dX11_depthOf_210 : decode cX11_depthOf 210 = .ok (.iload 10, 2) := by decide +kernel
theorem dX11_depthOf_212 : decode cX11_depthOf 212 = .ok (.laload, 1) := by decide +kernel
theorem dX11_depthOf_213 : decode cX11_depthOf 213 = .ok (.lmul, 1) := by decide +kernel
theorem dX11_depthOf_214 : decode cX11_depthOf 214 = .ok (.lload 14, 2) := by decide +kernel
theorem dX11_depthOf_216 : decode cX11_depthOf 216 = .ok (.aload_n 0, 1) := by decide +kernel
theorem dX11_depthOf_217 : decode cX11_depthOf 217 = .ok (.getfield 54, 3) := by decide +kernel
theorem dX11_depthOf_220 : decode cX11_depthOf 220 = .ok (.iload 10, 2) := by decide +kernel
theorem dX11_depthOf_222 : decode cX11_depthOf 222 = .ok (.laload, 1) := by decide +kernel
theorem dX11_depthOf_223 : decode cX11_depthOf 223 = .ok (.lmul, 1) := by decide +kernel
theorem dX11_depthOf_224 : decode cX11_depthOf 224 = .ok (.invokevirtual 234, 3) := by decide +kernel
theorem dX11_depthOf_227 : decode cX11_depthOf 227 = .ok (.istore 16, 2) := by decide +kernel
theorem dX11_depthOf_229 : decode cX11_depthOf 229 = .ok (.iload 16, 2) := by decide +kernel
theorem dX11_depthOf_231 : decode cX11_depthOf 231 = .ok (.iload 9, 2) := by decide +kernel
theorem dX11_depthOf_233 : decode cX11_depthOf 233 = .ok (.if_icmp .ge 8, 3) := by decide +kernel
theorem dX11_depthOf_236 : decode cX11_depthOf 236 = .ok (.iload 16, 2) := by decide +kernel
theorem dX11_depthOf_238 : decode cX11_depthOf 238 = .ok (.goto 5, 3) := by decide +kernel
theorem dX11_depthOf_241 : decode cX11_depthOf 241 = .ok (.iload 9, 2) := by decide +kernel
theorem dX11_depthOf_243 : decode cX11_depthOf 243 = .ok (.istore 9, 2) := by decide +kernel
theorem dX11_depthOf_245 : decode cX11_depthOf 245 = .ok (.iinc 11 1, 3) := by decide +kernel
theorem dX11_depthOf_248 : decode cX11_depthOf 248 = .ok (.goto (-105), 3) := by decide +kernel
theorem dX11_depthOf_251 : decode cX11_depthOf 251 = .ok (.iinc 10 1, 3) := by decide +kernel
theorem dX11_depthOf_254 : decode cX11_depthOf 254 = .ok (.goto (-145), 3) := by decide +kernel
theorem dX11_depthOf_257 : decode cX11_depthOf 257 = .ok (.iload 9, 2) := by decide +kernel
theorem dX11_depthOf_259 : decode cX11_depthOf 259 = .ok (.ireturn, 1) := by decide +kernel
theorem dX11_depth_0 : decode cX11_depth 0 = .ok (.iload_n 1, 1) := by decide +kernel
theorem dX11_depth_1 : decode cX11_depth 1 = .ok (.i2l, 1) := by decide +kernel
theorem dX11_depth_2 : decode cX11_depth 2 = .ok (.ldc2_w 177, 3) := by decide +kernel
theorem dX11_depth_5 : decode cX11_depth 5 = .ok (.ldc2_w 179, 3) := by decide +kernel
theorem dX11_depth_8 : decode cX11_depth 8 = .ok (.invokestatic 81, 3) := by decide +kernel
theorem dX11_depth_11 : decode cX11_depth 11 = .ok (.ifCond .eq 29, 3) := by decide +kernel
theorem dX11_depth_14 : decode cX11_depth 14 = .ok (.iload_n 2, 1) := by decide +kernel
theorem dX11_depth_15 : decode cX11_depth 15 = .ok (.i2l, 1) := by decide +kernel
theorem dX11_depth_16 : decode cX11_depth 16 = .ok (.ldc2_w 177, 3) := by decide +kernel
theorem dX11_depth_19 : decode cX11_depth 19 = .ok (.ldc2_w 179, 3) := by decide +kernel
theorem dX11_depth_22 : decode cX11_depth 22 = .ok (.invokestatic 81, 3) := by decide +kernel
theorem dX11_depth_25 : decode cX11_depth 25 = .ok (.ifCond .eq 15, 3) := by decide +kernel
theorem dX11_depth_28 : decode cX11_depth 28 = .ok (.iload_n 3, 1) := by decide +kernel
theorem dX11_depth_29 : decode cX11_depth 29 = .ok (.i2l, 1) := by decide +kernel
theorem dX11_depth_30 : decode cX11_depth 30 = .ok (.lconst 1, 1) := by decide +kernel
theorem dX11_depth_31 : decode cX11_depth 31 = .ok (.ldc2_w 238, 3) := by decide +kernel
theorem dX11_depth_34 : decode cX11_depth 34 = .ok (.invokestatic 81, 3) := by decide +kernel
theorem dX11_depth_37 : decode cX11_depth 37 = .ok (.ifCond .ne 6, 3) := by decide +kernel
theorem dX11_depth_40 : decode cX11_depth 40 = .ok (.ldc 91, 2) := by decide +kernel
theorem dX11_depth_42 : decode cX11_depth 42 = .ok (.ireturn, 1) := by decide +kernel
theorem dX11_depth_43 : decode cX11_depth 43 = .ok (.aload_n 0, 1) := by decide +kernel
theorem dX11_depth_44 : decode cX11_depth 44 = .ok (.iload_n 1, 1) := by decide +kernel
theorem dX11_depth_45 : decode cX11_depth 45 = .ok (.i2l, 1) := by decide +kernel
theorem dX11_depth_46 : decode cX11_depth 46 = .ok (.iload_n 2, 1) := by decide +kernel
theorem dX11_depth_47 : decode cX11_depth 47 = .ok (.i2l, 1) := by decide +kernel
theorem dX11_depth_48 : decode cX11_depth 48 = .ok (.iload_n 3, 1) := by decide +kernel
theorem dX11_depth_49 : decode cX11_depth 49 = .ok (.i2l, 1) := by decide +kernel
theorem dX11_depth_50 : decode cX11_depth 50 = .ok (.invokevirtual 240, 3) := by decide +kernel
theorem dX11_depth_53 : decode cX11_depth 53 = .ok (.ireturn, 1) := by decide +kernel
theorem dX11_offer_0 : decode cX11_offer 0 = .ok (.aload_n 0, 1) := by decide +kernel
theorem dX11_offer_1 : decode cX11_offer 1 = .ok (.lload_n 1, 1) := by decide +kernel
theorem dX11_offer_2 : decode cX11_offer 2 = .ok (.lload_n 3, 1) := by decide +kernel
theorem dX11_offer_3 : decode cX11_offer 3 = .ok (.lload 5, 2) := by decide +kernel
theorem dX11_offer_5 : decode cX11_offer 5 = .ok (.invokevirtual 240, 3) := by decide +kernel
theorem dX11_offer_8 : decode cX11_offer 8 = .ok (.istore 7, 2) := by decide +kernel
theorem dX11_offer_10 : decode cX11_offer 10 = .ok (.lload_n 1, 1) := by decide +kernel
theorem dX11_offer_11 : decode cX11_offer 11 = .ok (.aload_n 0, 1) := by decide +kernel
theorem dX11_offer_12 : decode cX11_offer 12 = .ok (.getfield 244, 3) := by decide +kernel
theorem dX11_offer_15 : decode cX11_offer 15 = .ok (.lmul, 1) := by decide +kernel
theorem dX11_offer_16 : decode cX11_offer 16 = .ok (.aload_n 0, 1) := by decide +kernel
theorem dX11_offer_17 : decode cX11_offer 17 = .ok (.getfield 247, 3) := by decide +kernel
theorem dX11_offer_20 : decode cX11_offer 20 = .ok (.lload 5, 2) := by decide +kernel
theorem dX11_offer_22 : decode cX11_offer 22 = .ok (.lmul, 1) := by decide +kernel
theorem dX11_offer_23 : decode cX11_offer 23 = .ok (.lsub, 1) := by decide +kernel
theorem dX11_offer_24 : decode cX11_offer 24 = .ok (.lstore 8, 2) := by decide +kernel
theorem dX11_offer_26 : decode cX11_offer 26 = .ok (.lload_n 3, 1) := by decide +kernel
theorem dX11_offer_27 : decode cX11_offer 27 = .ok (.aload_n 0, 1) := by decide +kernel
theorem dX11_offer_28 : decode cX11_offer 28 = .ok (.getfield 244, 3) := by decide +kernel
theorem dX11_offer_31 : decode cX11_offer 31 = .ok (.lmul, 1) := by decide +kernel
theorem dX11_offer_32 : decode cX11_offer 32 = .ok (.aload_n 0, 1) := by decide +kernel
theorem dX11_offer_33 : decode cX11_offer 33 = .ok (.getfield 250, 3) := by decide +kernel
theorem dX11_offer_36 : decode cX11_offer 36 = .ok (.lload 5, 2) := by decide +kernel
theorem dX11_offer_38 : decode cX11_offer 38 = .ok (.lmul, 1) := by decide +kernel
theorem dX11_offer_39 : decode cX11_offer 39 = .ok (.lsub, 1) := by decide +kernel
theorem dX11_offer_40 : decode cX11_offer 40 = .ok (.lstore 10, 2) := by decide +kernel
theorem dX11_offer_42 : decode cX11_offer 42 = .ok (.iload 7, 2) := by decide +kernel
theorem dX11_offer_44 : decode cX11_offer 44 = .ok (.aload_n 0, 1) := by decide +kernel
theorem dX11_offer_45 : decode cX11_offer 45 = .ok (.getfield 253, 3) := by decide +kernel
theorem dX11_offer_48 : decode cX11_offer 48 = .ok (.if_icmp .gt 33, 3) := by decide +kernel
theorem dX11_offer_51 : decode cX11_offer 51 = .ok (.iload 7, 2) := by decide +kernel
theorem dX11_offer_53 : decode cX11_offer 53 = .ok (.aload_n 0, 1) := by decide +kernel
theorem dX11_offer_54 : decode cX11_offer 54 = .ok (.getfield 253, 3) := by decide +kernel
theorem dX11_offer_57 : decode cX11_offer 57 = .ok (.if_icmp .ne 46, 3) := by decide +kernel
theorem dX11_offer_60 : decode cX11_offer 60 = .ok (.lload 8, 2) := by decide +kernel
theorem dX11_offer_62 : decode cX11_offer 62 = .ok (.lconst 0, 1) := by decide +kernel
theorem dX11_offer_63 : decode cX11_offer 63 = .ok (.lcmp, 1) := by decide +kernel
theorem dX11_offer_64 : decode cX11_offer 64 = .ok (.ifCond .lt 17, 3) := by decide +kernel
theorem dX11_offer_67 : decode cX11_offer 67 = .ok (.lload 8, 2) := by decide +kernel
theorem dX11_offer_69 : decode cX11_offer 69 = .ok (.lconst 0, 1) := by decide +kernel
theorem dX11_offer_70 : decode cX11_offer 70 = .ok (.lcmp, 1) := by decide +kernel
theorem dX11_offer_71 : decode cX11_offer 71 = .ok (.ifCond .ne 32, 3) := by decide +kernel
theorem dX11_offer_74 : decode cX11_offer 74 = .ok (.lload 10, 2) := by decide +kernel
theorem dX11_offer_76 : decode cX11_offer 76 = .ok (.lconst 0, 1) := by decide +kernel
theorem dX11_offer_77 : decode cX11_offer 77 = .ok (.lcmp, 1) := by decide +kernel
theorem dX11_offer_78 : decode cX11_offer 78 = .ok (.ifCond .ge 25, 3) := by decide +kernel
theorem dX11_offer_81 : decode cX11_offer 81 = .ok (.aload_n 0, 1) := by decide +kernel
theorem dX11_offer_82 : decode cX11_offer 82 = .ok (.iload 7, 2) := by decide +kernel
theorem dX11_offer_84 : decode cX11_offer 84 = .ok (.putfield 253, 3) := by decide +kernel
theorem dX11_offer_87 : decode cX11_offer 87 = .ok (.aload_n 0, 1) := by decide +kernel
theorem dX11_offer_88 : decode cX11_offer 88 = .ok (.lload_n 1, 1) := by decide +kernel
theorem dX11_offer_89 : decode cX11_offer 89 = .ok (.putfield 247, 3) := by decide +kernel
theorem dX11_offer_92 : decode cX11_offer 92 = .ok (.aload_n 0, 1) := by decide +kernel
theorem dX11_offer_93 : decode cX11_offer 93 = .ok (.lload_n 3, 1) := by decide +kernel
theorem dX11_offer_94 : decode cX11_offer 94 = .ok (.putfield 250, 3) := by decide +kernel
theorem dX11_offer_97 : decode cX11_offer 97 = .ok (.aload_n 0, 1) := by decide +kernel
theorem dX11_offer_98 : decode cX11_offer 98 = .ok (.lload 5, 2) := by decide +kernel
theorem dX11_offer_100 : decode cX11_offer 100 = .ok (.putfield 244, 3) := by decide +kernel
theorem dX11_offer_103 : decode cX11_offer 103 = .ok (.return_, 1) := by decide +kernel
theorem dX11_deepest_0 : decode cX11_deepest 0 = .ok (.iload_n 1, 1) := by decide +kernel
theorem dX11_deepest_1 : decode cX11_deepest 1 = .ok (.i2l, 1) := by decide +kernel
theorem dX11_deepest_2 : decode cX11_deepest 2 = .ok (.lconst 0, 1) := by decide +kernel
theorem dX11_deepest_3 : decode cX11_deepest 3 = .ok (.ldc2_w 120, 3) := by decide +kernel
theorem dX11_deepest_6 : decode cX11_deepest 6 = .ok (.invokestatic 81, 3) := by decide +kernel
theorem dX11_deepest_9 : decode cX11_deepest 9 = .ok (.ifCond .ne 7, 3) := by decide +kernel
theorem dX11_deepest_12 : decode cX11_deepest 12 = .ok (.ldc2_w 99, 3) := by decide +kernel
theorem dX11_deepest_15 : decode cX11_deepest 15 = .ok (.lreturn, 1) := by decide +kernel
theorem dX11_deepest_16 : decode cX11_deepest 16 = .ok (.aload_n 0, 1) := by decide +kernel
theorem dX11_deepest_17 : decode cX11_deepest 17 = .ok (.invokevirtual 134, 3) := by decide +kernel
theorem dX11_deepest_20 : decode cX11_deepest 20 = .ok (.ifCond .ne 7, 3) := by decide +kernel
theorem dX11_deepest_23 : decode cX11_deepest 23 = .ok (.ldc2_w 256, 3) := by decide +kernel
theorem dX11_deepest_26 : decode cX11_deepest 26 = .ok (.lreturn, 1) := by decide +kernel
theorem dX11_deepest_27 : decode cX11_deepest 27 = .ok (.aload_n 0, 1) := by decide +kernel
theorem dX11_deepest_28 : decode cX11_deepest 28 = .ok (.invokevirtual 134, 3) := by decide +kernel
theorem dX11_deepest_31 : decode cX11_deepest 31 = .ok (.bipush 12, 2) := by decide +kernel
theorem dX11_deepest_33 : decode cX11_deepest 33 = .ok (.if_icmp .le 7, 3) := by decide +kernel
theorem dX11_deepest_36 : decode cX11_deepest 36 = .ok (.ldc2_w 258, 3) := by decide +kernel
theorem dX11_deepest_39 : decode cX11_deepest 39 = .ok (.lreturn, 1) := by decide +kernel
theorem dX11_deepest_40 : decode cX11_deepest 40 = .ok (.aload_n 0, 1) := by decide +kernel
theorem dX11_deepest_41 : decode cX11_deepest 41 = .ok (.iconst (-1), 1) := by decide +kernel
theorem dX11_deepest_42 : decode cX11_deepest 42 = .ok (.putfield 253, 3) := by decide +kernel
theorem dX11_deepest_45 : decode cX11_deepest 45 = .ok (.aload_n 0, 1) := by decide +kernel
theorem dX11_deepest_46 : decode cX11_deepest 46 = .ok (.lconst 0, 1) := by decide +kernel
theorem dX11_deepest_47 : decode cX11_deepest 47 = .ok (.putfield 247, 3) := by decide +kernel
theorem dX11_deepest_50 : decode cX11_deepest 50 = .ok (.aload_n 0, 1) := by decide +kernel
theorem dX11_deepest_51 : decode cX11_deepest 51 = .ok (.lconst 0, 1) := by decide +kernel
theorem dX11_deepest_52 : decode cX11_deepest 52 = .ok (.putfield 250, 3) := by decide +kernel
theorem dX11_deepest_55 : decode cX11_deepest 55 = .ok (.aload_n 0, 1) := by decide +kernel
theorem dX11_deepest_56 : decode cX11_deepest 56 = .ok (.lconst 1, 1) := by decide +kernel
theorem dX11_deepest_57 : decode cX11_deepest 57 = .ok (.putfield 244, 3) := by decide +kernel
theorem dX11_deepest_60 : decode cX11_deepest 60 = .ok (.iconst 0, 1) := by decide +kernel
theorem dX11_deepest_61 : decode cX11_deepest 61 = .ok (.istore_n 2, 1) := by decide +kernel
theorem dX11_deepest_62 : decode cX11_deepest 62 = .ok (.iconst 0, 1) := by decide +kernel
theorem dX11_deepest_63 : decode cX11_deepest 63 = .ok (.istore_n 3, 1) := by decide +kernel
theorem dX11_deepest_64 : decode cX11_deepest 64 = .ok (.iload_n 3, 1) := by decide +kernel
theorem dX11_deepest_65 : decode cX11_deepest 65 = .ok (.aload_n 0, 1) := by decide +kernel
theorem dX11_deepest_66 : decode cX11_deepest 66 = .ok (.getfield 101, 3) := by decide +kernel
theorem dX11_deepest_69 : decode cX11_deepest 69 = .ok (.if_icmp .ge 117, 3) := by decide +kernel
theorem dX11_deepest_72 : decode cX11_deepest 72 = .ok (.aload_n 0, 1) := by decide +kernel
theorem dX11_deepest_73 : decode cX11_deepest 73 = .ok (.getfield 22, 3) := by decide +kernel
theorem dX11_deepest_76 : decode cX11_deepest 76 = .ok (.iload_n 3, 1) := by decide +kernel
theorem dX11_deepest_77 : decode cX11_deepest 77 = .ok (.baload, 1) := by decide +kernel
theorem dX11_deepest_78 : decode cX11_deepest 78 = .ok (.ifCond .ne 102, 3) := by decide +kernel
theorem dX11_deepest_81 : decode cX11_deepest 81 = .ok (.aload_n 0, 1) := by decide +kernel
theorem dX11_deepest_82 : decode cX11_deepest 82 = .ok (.aload_n 0, 1) := by decide +kernel
theorem dX11_deepest_83 : decode cX11_deepest 83 = .ok (.getfield 7, 3) := by decide +kernel
theorem dX11_deepest_86 : decode cX11_deepest 86 = .ok (.iload_n 3, 1) := by decide +kernel
theorem dX11_deepest_87 : decode cX11_deepest 87 = .ok (.iaload, 1) := by decide +kernel
theorem dX11_deepest_88 : decode cX11_deepest 88 = .ok (.i2l, 1) := by decide +kernel
theorem dX11_deepest_89 : decode cX11_deepest 89 = .ok (.aload_n 0, 1) := by decide +kernel
theorem dX11_deepest_90 : decode cX11_deepest 90 = .ok (.getfield 13, 3) := by decide +kernel
theorem dX11_deepest_93 : decode cX11_deepest 93 = .ok (.iload_n 3, 1) := by decide +kernel
theorem dX11_deepest_94 : decode cX11_deepest 94 = .ok (.iaload, 1) := by decide +kernel
theorem dX11_deepest_95 : decode cX11_deepest 95 = .ok (.i2l, 1) := by decide +kernel
theorem dX11_deepest_96 : decode cX11_deepest 96 = .ok (.lconst 1, 1) := by decide +kernel
theorem dX11_deepest_97 : decode cX11_deepest 97 = .ok (.invokevirtual 260, 3) := by decide +kernel
theorem dX11_deepest_100 : decode cX11_deepest 100 = .ok (.iload_n 3, 1) := by decide +kernel
theorem dX11_deepest_101 : decode cX11_deepest 101 = .ok (.iconst 1, 1) := by decide +kernel
theorem dX11_deepest_102 : decode cX11_deepest 102 = .ok (.iadd, 1) := by decide +kernel
theorem dX11_deepest_103 : decode cX11_deepest 103 = .ok (.istore 4, 2) := by decide +kernel
theorem dX11_deepest_105 : decode cX11_deepest 105 = .ok (.iload 4, 2) := by decide +kernel
theorem dX11_deepest_107 : decode cX11_deepest 107 = .ok (.aload_n 0, 1) := by decide +kernel
theorem dX11_deepest_108 : decode cX11_deepest 108 = .ok (.getfield 101, 3) := by decide +kernel
theorem dX11_deepest_111 : decode cX11_deepest 111 = .ok (.if_icmp .ge 69, 3) := by decide +kernel
theorem dX11_deepest_114 : decode cX11_deepest 114 = .ok (.aload_n 0, 1) := by decide +kernel
theorem dX11_deepest_115 : decode cX11_deepest 115 = .ok (.getfield 22, 3) := by decide +kernel
theorem dX11_deepest_118 : decode cX11_deepest 118 = .ok (.iload 4, 2) := by decide +kernel
theorem dX11_deepest_120 : decode cX11_deepest 120 = .ok (.baload, 1) := by decide +kernel
theorem dX11_deepest_121 : decode cX11_deepest 121 = .ok (.ifCond .ne 53, 3) := by decide +kernel
theorem dX11_deepest_124 : decode cX11_deepest 124 = .ok (.aload_n 0, 1) := by decide +kernel
theorem dX11_deepest_125 : decode cX11_deepest 125 = .ok (.iload_n 3, 1) := by decide +kernel
theorem dX11_deepest_126 : decode cX11_deepest 126 = .ok (.iload 4, 2) := by decide +kernel
theorem dX11_deepest_128 : decode cX11_deepest 128 = .ok (.invokevirtual 200, 3) := by decide +kernel
theorem dX11_deepest_131 : decode cX11_deepest 131 = .ok (.ifCond .eq 43, 3) := by decide +kernel
theorem dX11_deepest_134 : decode cX11_deepest 134 = .ok (.aload_n 0, 1) := by decide +kernel
theorem dX11_deepest_135 : decode cX11_deepest 135 = .ok (.iload_n 3, 1) := by decide +kernel
theorem dX11_deepest_136 : decode cX11_deepest 136 = .ok (.iload 4, 2) := by decide +kernel
theorem dX11_deepest_138 : decode cX11_deepest 138 = .ok (.invokevirtual 203, 3) := by decide +kernel
theorem dX11_deepest_141 : decode cX11_deepest 141 = .ok (.aload_n 0, 1) := by decide +kernel
theorem dX11_deepest_142 : decode cX11_deepest 142 = .ok (.getfield 60, 3) := by decide +kernel
theorem dX11_deepest_145 : decode cX11_deepest 145 = .ok (.iload_n 2, 1) := by decide +kernel
theorem dX11_deepest_146 : decode cX11_deepest 146 = .ok (.aload_n 0, 1) := by decide +kernel
theorem dX11_deepest_147 : decode cX11_deepest 147 = .ok (.getfield 191, 3) := by decide +kernel
theorem dX11_deepest_150 : decode cX11_deepest 150 = .ok (.lastore, 1) := by decide +kernel
theorem dX11_deepest_151 : decode cX11_deepest 151 = .ok (.aload_n 0, 1) := by decide +kernel
theorem dX11_deepest_152 : decode cX11_deepest 152 = .ok (.getfield 63, 3) := by decide +kernel
theorem dX11_deepest_155 : decode cX11_deepest 155 = .ok (.iload_n 2, 1) := by decide +kernel
theorem dX11_deepest_156 : decode cX11_deepest 156 = .ok (.aload_n 0, 1) := by decide +kernel
theorem dX11_deepest_157 : decode cX11_deepest 157 = .ok (.getfield 194, 3) := by decide +kernel
theorem dX11_deepest_160 : decode cX11_deepest 160 = .ok (.lastore, 1) := by decide +kernel
theorem dX11_deepest_161 : decode cX11_deepest 161 = .ok (.aload_n 0, 1) := by decide +kernel
theorem dX11_deepest_162 : decode cX11_deepest 162 = .ok (.getfield 66, 3) := by decide +kernel
theorem dX11_deepest_165 : decode cX11_deepest 165 = .ok (.iload_n 2, 1) := by decide +kernel
theorem dX11_deepest_166 : decode cX11_deepest 166 = .ok (.aload_n 0, 1) := by decide +kernel
theorem dX11_deepest_167 : decode cX11_deepest 167 = .ok (.getfield 197, 3) := by decide +kernel
theorem dX11_deepest_170 : decode cX11_deepest 170 = .ok (.lastore, 1) := by decide +kernel
theorem dX11_deepest_171 : decode cX11_deepest 171 = .ok (.iinc 2 1, 3) := by decide +kernel
theorem dX11_deepest_174 : decode cX11_deepest 174 = .ok (.iinc 4 1, 3) := by decide +kernel
theorem dX11_deepest_177 : decode cX11_deepest 177 = .ok (.goto (-72), 3) := by decide +kernel
theorem dX11_deepest_180 : decode cX11_deepest 180 = .ok (.iinc 3 1, 3) := by decide +kernel
theorem dX11_deepest_183 : decode cX11_deepest 183 = .ok (.goto (-119), 3) := by decide +kernel
theorem dX11_deepest_186 : decode cX11_deepest 186 = .ok (.iconst 0, 1) := by decide +kernel
theorem dX11_deepest_187 : decode cX11_deepest 187 = .ok (.istore_n 3, 1) := by decide +kernel
theorem dX11_deepest_188 : decode cX11_deepest 188 = .ok (.iload_n 3, 1) := by decide +kernel
theorem dX11_deepest_189 : decode cX11_deepest 189 = .ok (.iload_n 2, 1) := by decide +kernel
theorem dX11_deepest_190 : decode cX11_deepest 190 = .ok (.if_icmp .ge 173, 3) := by decide +kernel
theorem dX11_deepest_193 : decode cX11_deepest 193 = .ok (.iconst 0, 1) := by decide +kernel
theorem dX11_deepest_194 : decode cX11_deepest 194 = .ok (.istore 4, 2) := by decide +kernel
theorem dX11_deepest_196 : decode cX11_deepest 196 = .ok (.iload 4, 2) := by decide +kernel
theorem dX11_deepest_198 : decode cX11_deepest 198 = .ok (.iload_n 3, 1) := by decide +kernel
theorem dX11_deepest_199 : decode cX11_deepest 199 = .ok (.if_icmp .ge 158, 3) := by decide +kernel
theorem dX11_deepest_202 : decode cX11_deepest 202 = .ok (.aload_n 0, 1) := by decide +kernel
theorem dX11_deepest_203 : decode cX11_deepest 203 = .ok (.getfield 60, 3) := by decide +kernel
theorem dX11_deepest_206 : decode cX11_deepest 206 = .ok (.iload_n 3, 1) := by decide +kernel
theorem dX11_deepest_207 : decode cX11_deepest 207 = .ok (.laload, 1) := by decide +kernel
theorem dX11_deepest_208 : decode cX11_deepest 208 = .ok (.aload_n 0, 1) := by decide +kernel
theorem dX11_deepest_209 : decode cX11_deepest 209 = .ok (.getfield 63, 3) := by decide +kernel
theorem dX11_deepest_212 : decode cX11_deepest 212 = .ok (.iload 4, 2) := by decide +kernel
theorem dX11_deepest_214 : decode cX11_deepest 214 = .ok (.laload, 1) := by decide +kernel
theorem dX11_deepest_215 : decode cX11_deepest 215 = .ok (.lmul, 1) := by decide +kernel
theorem dX11_deepest_216 : decode cX11_deepest 216 = .ok (.aload_n 0, 1) := by decide +kernel
theorem dX11_deepest_217 : decode cX11_deepest 217 = .ok (.getfield 60, 3) := by decide +kernel
theorem dX11_deepest_220 : decode cX11_deepest 220 = .ok (.iload 4, 2) := by decide +kernel
theorem dX11_deepest_222 : decode cX11_deepest 222 = .ok (.laload, 1) := by decide +kernel
theorem dX11_deepest_223 : decode cX11_deepest 223 = .ok (.aload_n 0, 1) := by decide +kernel
theorem dX11_deepest_224 : decode cX11_deepest 224 = .ok (.getfield 63, 3) := by decide +kernel
theorem dX11_deepest_227 : decode cX11_deepest 227 = .ok (.iload_n 3, 1) := by decide +kernel
theorem dX11_deepest_228 : decode cX11_deepest 228 = .ok (.laload, 1) := by decide +kernel
theorem dX11_deepest_229 : decode cX11_deepest 229 = .ok (.lmul, 1) := by decide +kernel
theorem dX11_deepest_230 : decode cX11_deepest 230 = .ok (.lsub, 1) := by decide +kernel
theorem dX11_deepest_231 : decode cX11_deepest 231 = .ok (.lstore 5, 2) := by decide +kernel
theorem dX11_deepest_233 : decode cX11_deepest 233 = .ok (.aload_n 0, 1) := by decide +kernel
theorem dX11_deepest_234 : decode cX11_deepest 234 = .ok (.getfield 63, 3) := by decide +kernel
theorem dX11_deepest_237 : decode cX11_deepest 237 = .ok (.iload_n 3, 1) := by decide +kernel
theorem dX11_deepest_238 : decode cX11_deepest 238 = .ok (.laload, 1) := by decide +kernel
theorem dX11_deepest_239 : decode cX11_deepest 239 = .ok (.aload_n 0, 1) := by decide +kernel
theorem dX11_deepest_240 : decode cX11_deepest 240 = .ok (.getfield 66, 3) := by decide +kernel
theorem dX11_deepest_243 : decode cX11_deepest 243 = .ok (.iload 4, 2) := by decide +kernel
theorem dX11_deepest_245 : decode cX11_deepest 245 = .ok (.laload, 1) := by decide +kernel
theorem dX11_deepest_246 : decode cX11_deepest 246 = .ok (.lmul, 1) := by decide +kernel
theorem dX11_deepest_247 : decode cX11_deepest 247 = .ok (.aload_n 0, 1) := by decide +kernel
theorem dX11_deepest_248 : decode cX11_deepest 248 = .ok (.getfield 63, 3) := by decide +kernel
theorem dX11_deepest_251 : decode cX11_deepest 251 = .ok (.iload 4, 2) := by decide +kernel
theorem dX11_deepest_253 : decode cX11_deepest 253 = .ok (.laload, 1) := by decide +kernel
theorem dX11_deepest_254 : decode cX11_deepest 254 = .ok (.aload_n 0, 1) := by decide +kernel
theorem dX11_deepest_255 : decode cX11_deepest 255 = .ok (.getfield 66, 3) := by decide +kernel
theorem dX11_deepest_258 : decode cX11_deepest 258 = .ok (.iload_n 3, 1) := by decide +kernel
theorem dX11_deepest_259 : decode cX11_deepest 259 = .ok (.laload, 1) := by decide +kernel
theorem dX11_deepest_260 : decode cX11_deepest 260 = .ok (.lmul, 1) := by decide +kernel
theorem dX11_deepest_261 : decode cX11_deepest 261 = .ok (.lsub, 1) := by decide +kernel
theorem dX11_deepest_262 : decode cX11_deepest 262 = .ok (.lstore 7, 2) := by decide +kernel
theorem dX11_deepest_264 : decode cX11_deepest 264 = .ok (.aload_n 0, 1) := by decide +kernel
theorem dX11_deepest_265 : decode cX11_deepest 265 = .ok (.getfield 66, 3) := by decide +kernel
theorem dX11_deepest_268 : decode cX11_deepest 268 = .ok (.iload_n 3, 1) := by decide +kernel
theorem dX11_deepest_269 : decode cX11_deepest 269 = .ok (.laload, 1) := by decide +kernel
theorem dX11_deepest_270 : decode cX11_deepest 270 = .ok (.aload_n 0, 1) := by decide +kernel
theorem dX11_deepest_271 : decode cX11_deepest 271 = .ok (.getfield 60, 3) := by decide +kernel
theorem dX11_deepest_274 : decode cX11_deepest 274 = .ok (.iload 4, 2) := by decide +kernel
theorem dX11_deepest_276 : decode cX11_deepest 276 = .ok (.laload, 1) := by decide +kernel
theorem dX11_deepest_277 : decode cX11_deepest 277 = .ok (.lmul, 1) := by decide +kernel
theorem dX11_deepest_278 : decode cX11_deepest 278 = .ok (.aload_n 0, 1) := by decide +kernel
theorem dX11_deepest_279 : decode cX11_deepest 279 = .ok (.getfield 66, 3) := by decide +kernel
theorem dX11_deepest_282 : decode cX11_deepest 282 = .ok (.iload 4, 2) := by decide +kernel
theorem dX11_deepest_284 : decode cX11_deepest 284 = .ok (.laload, 1) := by decide +kernel
theorem dX11_deepest_285 : decode cX11_deepest 285 = .ok (.aload_n 0, 1) := by decide +kernel
theorem dX11_deepest_286 : decode cX11_deepest 286 = .ok (.getfield 60, 3) := by decide +kernel
theorem dX11_deepest_289 : decode cX11_deepest 289 = .ok (.iload_n 3, 1) := by decide +kernel
theorem dX11_deepest_290 : decode cX11_deepest 290 = .ok (.laload, 1) := by decide +kernel
theorem dX11_deepest_291 : decode cX11_deepest 291 = .ok (.lmul, 1) := by decide +kernel
theorem dX11_deepest_292 : decode cX11_deepest 292 = .ok (.lsub, 1) := by decide +kernel
theorem dX11_deepest_293 : decode cX11_deepest 293 = .ok (.lstore 9, 2) := by decide +kernel
theorem dX11_deepest_295 : decode cX11_deepest 295 = .ok (.lload 5, 2) := by decide +kernel
theorem dX11_deepest_297 : decode cX11_deepest 297 = .ok (.lconst 0, 1) := by decide +kernel
theorem dX11_deepest_298 : decode cX11_deepest 298 = .ok (.lcmp, 1) := by decide +kernel
theorem dX11_deepest_299 : decode cX11_deepest 299 = .ok (.ifCond .eq 52, 3) := by decide +kernel
theorem dX11_deepest_302 : decode cX11_deepest 302 = .ok (.aload_n 0, 1) := by decide +kernel
theorem dX11_deepest_303 : decode cX11_deepest 303 = .ok (.lload 5, 2) := by decide +kernel
theorem dX11_deepest_305 : decode cX11_deepest 305 = .ok (.lconst 0, 1) := by decide +kernel
theorem dX11_deepest_306 : decode cX11_deepest 306 = .ok (.lcmp, 1) := by decide +kernel
theorem dX11_deepest_307 : decode cX11_deepest 307 = .ok (.ifCond .ge 9, 3) := by decide +kernel
theorem dX11_deepest_310 : decode cX11_deepest 310 = .ok (.lload 7, 2) := by decide +kernel
theorem dX11_deepest_312 : decode cX11_deepest 312 = .ok (.lneg, 1) := by decide +kernel
theorem dX11_deepest_313 : decode cX11_deepest 313 = .ok (.goto 5, 3) := by decide +kernel
theorem dX11_deepest_316 : decode cX11_deepest 316 = .ok (.lload 7, 2) := by decide +kernel
theorem dX11_deepest_318 : decode cX11_deepest 318 = .ok (.lload 5, 2) := by decide +kernel
theorem dX11_deepest_320 : decode cX11_deepest 320 = .ok (.lconst 0, 1) := by decide +kernel
theorem dX11_deepest_321 : decode cX11_deepest 321 = .ok (.lcmp, 1) := by decide +kernel
theorem dX11_deepest_322 : decode cX11_deepest 322 = .ok (.ifCond .ge 9, 3) := by decide +kernel
theorem dX11_deepest_325 : decode cX11_deepest 325 = .ok (.lload 9, 2) := by decide +kernel
theorem dX11_deepest_327 : decode cX11_deepest 327 = .ok (.lneg, 1) := by decide +kernel
theorem dX11_deepest_328 : decode cX11_deepest 328 = .ok (.goto 5, 3) := by decide +kernel
theorem dX11_deepest_331 : decode cX11_deepest 331 = .ok (.lload 9, 2) := by decide +kernel
theorem dX11_deepest_333 : decode cX11_deepest 333 = .ok (.lload 5, 2) := by decide +kernel
theorem dX11_deepest_335 : decode cX11_deepest 335 = .ok (.lconst 0, 1) := by decide +kernel
theorem dX11_deepest_336 : decode cX11_deepest 336 = .ok (.lcmp, 1) := by decide +kernel
theorem dX11_deepest_337 : decode cX11_deepest 337 = .ok (.ifCond .ge 9, 3) := by decide +kernel
theorem dX11_deepest_340 : decode cX11_deepest 340 = .ok (.lload 5, 2) := by decide +kernel
theorem dX11_deepest_342 : decode cX11_deepest 342 = .ok (.lneg, 1) := by decide +kernel
theorem dX11_deepest_343 : decode cX11_deepest 343 = .ok (.goto 5, 3) := by decide +kernel
theorem dX11_deepest_346 : decode cX11_deepest 346 = .ok (.lload 5, 2) := by decide +kernel
theorem dX11_deepest_348 : decode cX11_deepest 348 = .ok (.invokevirtual 260, 3) := by decide +kernel
theorem dX11_deepest_351 : decode cX11_deepest 351 = .ok (.iinc 4 1, 3) := by decide +kernel
theorem dX11_deepest_354 : decode cX11_deepest 354 = .ok (.goto (-158), 3) := by decide +kernel
theorem dX11_deepest_357 : decode cX11_deepest 357 = .ok (.iinc 3 1, 3) := by decide +kernel
theorem dX11_deepest_360 : decode cX11_deepest 360 = .ok (.goto (-172), 3) := by decide +kernel
theorem dX11_deepest_363 : decode cX11_deepest 363 = .ok (.aload_n 0, 1) := by decide +kernel
theorem dX11_deepest_364 : decode cX11_deepest 364 = .ok (.getfield 247, 3) := by decide +kernel
theorem dX11_deepest_367 : decode cX11_deepest 367 = .ok (.aload_n 0, 1) := by decide +kernel
theorem dX11_deepest_368 : decode cX11_deepest 368 = .ok (.getfield 244, 3) := by decide +kernel
theorem dX11_deepest_371 : decode cX11_deepest 371 = .ok (.invokestatic 181, 3) := by decide +kernel
theorem dX11_deepest_374 : decode cX11_deepest 374 = .ok (.lstore_n 3, 1) := by decide +kernel
theorem dX11_deepest_375 : decode cX11_deepest 375 = .ok (.aload_n 0, 1) := by decide +kernel
theorem dX11_deepest_376 : decode cX11_deepest 376 = .ok (.getfield 250, 3) := by decide +kernel
theorem dX11_deepest_379 : decode cX11_deepest 379 = .ok (.aload_n 0, 1) := by decide +kernel
theorem dX11_deepest_380 : decode cX11_deepest 380 = .ok (.getfield 244, 3) := by decide +kernel
theorem dX11_deepest_383 : decode cX11_deepest 383 = .ok (.invokestatic 181, 3) := by decide +kernel
theorem dX11_deepest_386 : decode cX11_deepest 386 = .ok (.lstore 5, 2) := by decide +kernel
theorem dX11_deepest_388 : decode cX11_deepest 388 = .ok (.iload_n 1, 1) := by decide +kernel
theorem dX11_deepest_389 : decode cX11_deepest 389 = .ok (.tableswitch 59 0 3 #[31, 37, 44, 51], 31) := by decide +kernel
theorem dX11_deepest_420 : decode cX11_deepest 420 = .ok (.aload_n 0, 1) := by decide +kernel
theorem dX11_deepest_421 : decode cX11_deepest 421 = .ok (.getfield 253, 3) := by decide +kernel
theorem dX11_deepest_424 : decode cX11_deepest 424 = .ok (.i2l, 1) := by decide +kernel
theorem dX11_deepest_425 : decode cX11_deepest 425 = .ok (.lreturn, 1) := by decide +kernel
theorem dX11_deepest_426 : decode cX11_deepest 426 = .ok (.aload_n 0, 1) := by decide +kernel
theorem dX11_deepest_427 : decode cX11_deepest 427 = .ok (.getfield 247, 3) := by decide +kernel
theorem dX11_deepest_430 : decode cX11_deepest 430 = .ok (.lload_n 3, 1) := by decide +kernel
theorem dX11_deepest_431 : decode cX11_deepest 431 = .ok (.ldiv, 1) := by decide +kernel
theorem dX11_deepest_432 : decode cX11_deepest 432 = .ok (.lreturn, 1) := by decide +kernel
theorem dX11_deepest_433 : decode cX11_deepest 433 = .ok (.aload_n 0, 1) := by decide +kernel
theorem dX11_deepest_434 : decode cX11_deepest 434 = .ok (.getfield 244, 3) := by decide +kernel
theorem dX11_deepest_437 : decode cX11_deepest 437 = .ok (.lload_n 3, 1) := by decide +kernel
theorem dX11_deepest_438 : decode cX11_deepest 438 = .ok (.ldiv, 1) := by decide +kernel
theorem dX11_deepest_439 : decode cX11_deepest 439 = .ok (.lreturn, 1) := by decide +kernel
theorem dX11_deepest_440 : decode cX11_deepest 440 = .ok (.aload_n 0, 1) := by decide +kernel
theorem dX11_deepest_441 : decode cX11_deepest 441 = .ok (.getfield 250, 3) := by decide +kernel
theorem dX11_deepest_444 : decode cX11_deepest 444 = .ok (.lload 5, 2) := by decide +kernel
theorem dX11_deepest_446 : decode cX11_deepest 446 = .ok (.ldiv, 1) := by decide +kernel
theorem dX11_deepest_447 : decode cX11_deepest 447 = .ok (.lreturn, 1) := by decide +kernel
theorem dX11_deepest_448 : decode cX11_deepest 448 = .ok (.aload_n 0, 1) := by decide +kernel
theorem dX11_deepest_449 : decode cX11_deepest 449 = .ok (.getfield 244, 3) := by decide +kernel
theorem dX11_deepest_452 : decode cX11_deepest 452 = .ok (.lload 5, 2) := by decide +kernel
theorem dX11_deepest_454 : decode cX11_deepest 454 = .ok (.ldiv, 1) := by decide +kernel
theorem dX11_deepest_455 : decode cX11_deepest 455 = .ok (.lreturn, 1) := by decide +kernel
theorem dX11_isOnEdge_0 : decode cX11_isOnEdge 0 = .ok (.iconst 1, 1) := by decide +kernel
theorem dX11_isOnEdge_1 : decode cX11_isOnEdge 1 = .ok (.istore_n 2, 1) := by decide +kernel
theorem dX11_isOnEdge_2 : decode cX11_isOnEdge 2 = .ok (.iconst 0, 1) := by decide +kernel
theorem dX11_isOnEdge_3 : decode cX11_isOnEdge 3 = .ok (.istore_n 3, 1) := by decide +kernel
theorem dX11_isOnEdge_4 : decode cX11_isOnEdge 4 = .ok (.iload_n 3, 1) := by decide +kernel
theorem dX11_isOnEdge_5 : decode cX11_isOnEdge 5 = .ok (.aload_n 0, 1) := by decide +kernel
theorem dX11_isOnEdge_6 : decode cX11_isOnEdge 6 = .ok (.getfield 101, 3) := by decide +kernel
theorem dX11_isOnEdge_9 : decode cX11_isOnEdge 9 = .ok (.if_icmp .ge 146, 3) := by decide +kernel
theorem dX11_isOnEdge_12 : decode cX11_isOnEdge 12 = .ok (.aload_n 0, 1) := by decide +kernel
theorem dX11_isOnEdge_13 : decode cX11_isOnEdge 13 = .ok (.getfield 22, 3) := by decide +kernel
theorem dX11_isOnEdge_16 : decode cX11_isOnEdge 16 = .ok (.iload_n 3, 1) := by decide +kernel
theorem dX11_isOnEdge_17 : decode cX11_isOnEdge 17 = .ok (.baload, 1) := by decide +kernel
theorem dX11_isOnEdge_18 : decode cX11_isOnEdge 18 = .ok (.ifCond .ne 131, 3) := by decide +kernel
theorem dX11_isOnEdge_21 : decode cX11_isOnEdge 21 = .ok (.aload_n 0, 1) := by decide +kernel
theorem dX11_isOnEdge_22 : decode cX11_isOnEdge 22 = .ok (.getfield 69, 3) := by decide +kernel
theorem dX11_isOnEdge_25 : decode cX11_isOnEdge 25 = .ok (.iload_n 3, 1) := by decide +kernel
theorem dX11_isOnEdge_26 : decode cX11_isOnEdge 26 = .ok (.iaload, 1) := by decide +kernel
theorem dX11_isOnEdge_27 : decode cX11_isOnEdge 27 = .ok (.ifCond .ne 122, 3) := by decide +kernel
theorem dX11_isOnEdge_30 : decode cX11_isOnEdge 30 = .ok (.aload_n 0, 1) := by decide +kernel
theorem dX11_isOnEdge_31 : decode cX11_isOnEdge 31 = .ok (.iload_n 1, 1) := by decide +kernel
theorem dX11_isOnEdge_32 : decode cX11_isOnEdge 32 = .ok (.iload_n 3, 1) := by decide +kernel
theorem dX11_isOnEdge_33 : decode cX11_isOnEdge 33 = .ok (.invokevirtual 200, 3) := by decide +kernel
theorem dX11_isOnEdge_36 : decode cX11_isOnEdge 36 = .ok (.ifCond .eq 113, 3) := by decide +kernel
theorem dX11_isOnEdge_39 : decode cX11_isOnEdge 39 = .ok (.iconst 0, 1) := by decide +kernel
theorem dX11_isOnEdge_40 : decode cX11_isOnEdge 40 = .ok (.istore_n 2, 1) := by decide +kernel
theorem dX11_isOnEdge_41 : decode cX11_isOnEdge 41 = .ok (.aload_n 0, 1) := by decide +kernel
theorem dX11_isOnEdge_42 : decode cX11_isOnEdge 42 = .ok (.iload_n 1, 1) := by decide +kernel
theorem dX11_isOnEdge_43 : decode cX11_isOnEdge 43 = .ok (.iload_n 3, 1) := by decide +kernel
theorem dX11_isOnEdge_44 : decode cX11_isOnEdge 44 = .ok (.invokevirtual 203, 3) := by decide +kernel
theorem dX11_isOnEdge_47 : decode cX11_isOnEdge 47 = .ok (.iconst 0, 1) := by decide +kernel
theorem dX11_isOnEdge_48 : decode cX11_isOnEdge 48 = .ok (.istore 4, 2) := by decide +kernel
theorem dX11_isOnEdge_50 : decode cX11_isOnEdge 50 = .ok (.iconst 0, 1) := by decide +kernel
theorem dX11_isOnEdge_51 : decode cX11_isOnEdge 51 = .ok (.istore 5, 2) := by decide +kernel
theorem dX11_isOnEdge_53 : decode cX11_isOnEdge 53 = .ok (.iconst 0, 1) := by decide +kernel
theorem dX11_isOnEdge_54 : decode cX11_isOnEdge 54 = .ok (.istore 6, 2) := by decide +kernel
theorem dX11_isOnEdge_56 : decode cX11_isOnEdge 56 = .ok (.iload 6, 2) := by decide +kernel
theorem dX11_isOnEdge_58 : decode cX11_isOnEdge 58 = .ok (.aload_n 0, 1) := by decide +kernel
theorem dX11_isOnEdge_59 : decode cX11_isOnEdge 59 = .ok (.getfield 101, 3) := by decide +kernel
theorem dX11_isOnEdge_62 : decode cX11_isOnEdge 62 = .ok (.if_icmp .ge 75, 3) := by decide +kernel
theorem dX11_isOnEdge_65 : decode cX11_isOnEdge 65 = .ok (.aload_n 0, 1) := by decide +kernel
theorem dX11_isOnEdge_66 : decode cX11_isOnEdge 66 = .ok (.getfield 22, 3) := by decide +kernel
theorem dX11_isOnEdge_69 : decode cX11_isOnEdge 69 = .ok (.iload 6, 2) := by decide +kernel
theorem dX11_isOnEdge_71 : decode cX11_isOnEdge 71 = .ok (.baload, 1) := by decide +kernel
theorem dX11_isOnEdge_72 : decode cX11_isOnEdge 72 = .ok (.ifCond .ne 59, 3) := by decide +kernel
theorem dX11_isOnEdge_75 : decode cX11_isOnEdge 75 = .ok (.aload_n 0, 1) := by decide +kernel
theorem dX11_isOnEdge_76 : decode cX11_isOnEdge 76 = .ok (.getfield 69, 3) := by decide +kernel
theorem dX11_isOnEdge_79 : decode cX11_isOnEdge 79 = .ok (.iload 6, 2) := by decide +kernel
theorem dX11_isOnEdge_81 : decode cX11_isOnEdge 81 = .ok (.iaload, 1) := by decide +kernel
theorem dX11_isOnEdge_82 : decode cX11_isOnEdge 82 = .ok (.ifCond .ne 49, 3) := by decide +kernel
theorem dX11_isOnEdge_85 : decode cX11_isOnEdge 85 = .ok (.iload 4, 2) := by decide +kernel
theorem dX11_isOnEdge_87 : decode cX11_isOnEdge 87 = .ok (.ifCond .ne 14, 3) := by decide +kernel
theorem dX11_isOnEdge_90 : decode cX11_isOnEdge 90 = .ok (.aload_n 0, 1) := by decide +kernel
theorem dX11_isOnEdge_91 : decode cX11_isOnEdge 91 = .ok (.iload 6, 2) := by decide +kernel
theorem dX11_isOnEdge_93 : decode cX11_isOnEdge 93 = .ok (.invokevirtual 210, 3) := by decide +kernel
theorem dX11_isOnEdge_96 : decode cX11_isOnEdge 96 = .ok (.lconst 0, 1) := by decide +kernel
theorem dX11_isOnEdge_97 : decode cX11_isOnEdge 97 = .ok (.lcmp, 1) := by decide +kernel
theorem dX11_isOnEdge_98 : decode cX11_isOnEdge 98 = .ok (.ifCond .le 7, 3) := by decide +kernel
theorem dX11_isOnEdge_101 : decode cX11_isOnEdge 101 = .ok (.iconst 1, 1) := by decide +kernel
theorem dX11_isOnEdge_102 : decode cX11_isOnEdge 102 = .ok (.goto 4, 3) := by decide +kernel
theorem dX11_isOnEdge_105 : decode cX11_isOnEdge 105 = .ok (.iconst 0, 1) := by decide +kernel
theorem dX11_isOnEdge_106 : decode cX11_isOnEdge 106 = .ok (.istore 4, 2) := by decide +kernel
theorem dX11_isOnEdge_108 : decode cX11_isOnEdge 108 = .ok (.iload 5, 2) := by decide +kernel
theorem dX11_isOnEdge_110 : decode cX11_isOnEdge 110 = .ok (.ifCond .ne 14, 3) := by decide +kernel
theorem dX11_isOnEdge_113 : decode cX11_isOnEdge 113 = .ok (.aload_n 0, 1) := by decide +kernel
theorem dX11_isOnEdge_114 : decode cX11_isOnEdge 114 = .ok (.iload 6, 2) := by decide +kernel
theorem dX11_isOnEdge_116 : decode cX11_isOnEdge 116 = .ok (.invokevirtual 210, 3) := by decide +kernel
theorem dX11_isOnEdge_119 : decode cX11_isOnEdge 119 = .ok (.lconst 0, 1) := by decide +kernel
theorem dX11_isOnEdge_120 : decode cX11_isOnEdge 120 = .ok (.lcmp, 1) := by decide +kernel
theorem dX11_isOnEdge_121 : decode cX11_isOnEdge 121 = .ok (.ifCond .ge 7, 3) := by decide +kernel
theorem dX11_isOnEdge_124 : decode cX11_isOnEdge 124 = .ok (.iconst 1, 1) := by decide +kernel
theorem dX11_isOnEdge_125 : decode cX11_isOnEdge 125 = .ok (.goto 4, 3) := by decide +kernel
theorem dX11_isOnEdge_128 : decode cX11_isOnEdge 128 = .ok (.iconst 0, 1) := by decide +kernel
theorem dX11_isOnEdge_129 : decode cX11_isOnEdge 129 = .ok (.istore 5, 2) := by decide +kernel
theorem dX11_isOnEdge_131 : decode cX11_isOnEdge 131 = .ok (.iinc 6 1, 3) := by decide +kernel
theorem dX11_isOnEdge_134 : decode cX11_isOnEdge 134 = .ok (.goto (-78), 3) := by decide +kernel
theorem dX11_isOnEdge_137 : decode cX11_isOnEdge 137 = .ok (.iload 4, 2) := by decide +kernel
theorem dX11_isOnEdge_139 : decode cX11_isOnEdge 139 = .ok (.ifCond .eq 8, 3) := by decide +kernel
theorem dX11_isOnEdge_142 : decode cX11_isOnEdge 142 = .ok (.iload 5, 2) := by decide +kernel
theorem dX11_isOnEdge_144 : decode cX11_isOnEdge 144 = .ok (.ifCond .ne 5, 3) := by decide +kernel
theorem dX11_isOnEdge_147 : decode cX11_isOnEdge 147 = .ok (.iconst 1, 1) := by decide +kernel
theorem dX11_isOnEdge_148 : decode cX11_isOnEdge 148 = .ok (.ireturn, 1) := by decide +kernel
theorem dX11_isOnEdge_149 : decode cX11_isOnEdge 149 = .ok (.iinc 3 1, 3) := by decide +kernel
theorem dX11_isOnEdge_152 : decode cX11_isOnEdge 152 = .ok (.goto (-148), 3) := by decide +kernel
theorem dX11_isOnEdge_155 : decode cX11_isOnEdge 155 = .ok (.iload_n 2, 1) := by decide +kernel
theorem dX11_isOnEdge_156 : decode cX11_isOnEdge 156 = .ok (.ireturn, 1) := by decide +kernel
theorem dX11_findLayers_0 : decode cX11_findLayers 0 = .ok (.aload_n 0, 1) := by decide +kernel
theorem dX11_findLayers_1 : decode cX11_findLayers 1 = .ok (.invokevirtual 134, 3) := by decide +kernel
theorem dX11_findLayers_4 : decode cX11_findLayers 4 = .ok (.istore_n 1, 1) := by decide +kernel
theorem dX11_findLayers_5 : decode cX11_findLayers 5 = .ok (.iconst 0, 1) := by decide +kernel
theorem dX11_findLayers_6 : decode cX11_findLayers 6 = .ok (.istore_n 2, 1) := by decide +kernel
theorem dX11_findLayers_7 : decode cX11_findLayers 7 = .ok (.iload_n 2, 1) := by decide +kernel
theorem dX11_findLayers_8 : decode cX11_findLayers 8 = .ok (.aload_n 0, 1) := by decide +kernel
theorem dX11_findLayers_9 : decode cX11_findLayers 9 = .ok (.getfield 101, 3) := by decide +kernel
theorem dX11_findLayers_12 : decode cX11_findLayers 12 = .ok (.if_icmp .ge 16, 3) := by decide +kernel
theorem dX11_findLayers_15 : decode cX11_findLayers 15 = .ok (.aload_n 0, 1) := by decide +kernel
theorem dX11_findLayers_16 : decode cX11_findLayers 16 = .ok (.getfield 69, 3) := by decide +kernel
theorem dX11_findLayers_19 : decode cX11_findLayers 19 = .ok (.iload_n 2, 1) := by decide +kernel
theorem dX11_findLayers_20 : decode cX11_findLayers 20 = .ok (.iconst 0, 1) := by decide +kernel
theorem dX11_findLayers_21 : decode cX11_findLayers 21 = .ok (.iastore, 1) := by decide +kernel
theorem dX11_findLayers_22 : decode cX11_findLayers 22 = .ok (.iinc 2 1, 3) := by decide +kernel
theorem dX11_findLayers_25 : decode cX11_findLayers 25 = .ok (.goto (-18), 3) := by decide +kernel
theorem dX11_findLayers_28 : decode cX11_findLayers 28 = .ok (.iconst 0, 1) := by decide +kernel
theorem dX11_findLayers_29 : decode cX11_findLayers 29 = .ok (.istore_n 2, 1) := by decide +kernel
theorem dX11_findLayers_30 : decode cX11_findLayers 30 = .ok (.iload_n 1, 1) := by decide +kernel
theorem dX11_findLayers_31 : decode cX11_findLayers 31 = .ok (.ifCond .le 120, 3) := by decide +kernel
theorem dX11_findLayers_34 : decode cX11_findLayers 34 = .ok (.iinc 2 1, 3) := by decide +kernel
theorem dX11_findLayers_37 : decode cX11_findLayers 37 = .ok (.iconst 0, 1) := by decide +kernel
theorem dX11_findLayers_38 : decode cX11_findLayers 38 = .ok (.istore_n 3, 1) := by decide +kernel
theorem dX11_findLayers_39 : decode cX11_findLayers 39 = .ok (.iload_n 3, 1) := by decide +kernel
theorem dX11_findLayers_40 : decode cX11_findLayers 40 = .ok (.aload_n 0, 1) := by decide +kernel
theorem dX11_findLayers_41 : decode cX11_findLayers 41 = .ok (.getfield 101, 3) := by decide +kernel
theorem dX11_findLayers_44 : decode cX11_findLayers 44 = .ok (.if_icmp .ge 46, 3) := by decide +kernel
theorem dX11_findLayers_47 : decode cX11_findLayers 47 = .ok (.aload_n 0, 1) := by decide +kernel
theorem dX11_findLayers_48 : decode cX11_findLayers 48 = .ok (.getfield 72, 3) := by decide +kernel
theorem dX11_findLayers_51 : decode cX11_findLayers 51 = .ok (.iload_n 3, 1) := by decide +kernel
theorem dX11_findLayers_52 : decode cX11_findLayers 52 = .ok (.aload_n 0, 1) := by decide +kernel
theorem dX11_findLayers_53 : decode cX11_findLayers 53 = .ok (.getfield 22, 3) := by decide +kernel
theorem dX11_findLayers_56 : decode cX11_findLayers 56 = .ok (.iload_n 3, 1) := by decide +kernel
theorem dX11_findLayers_57 : decode cX11_findLayers 57 = .ok (.baload, 1) := by decide +kernel
theorem dX11_findLayers_58 : decode cX11_findLayers 58 = .ok (.ifCond .ne 24, 3) := by decide +kernel
theorem dX11_findLayers_61 : decode cX11_findLayers 61 = .ok (.aload_n 0, 1) := by decide +kernel
theorem dX11_findLayers_62 : decode cX11_findLayers 62 = .ok (.getfield 69, 3) := by decide +kernel
theorem dX11_findLayers_65 : decode cX11_findLayers 65 = .ok (.iload_n 3, 1) := by decide +kernel
theorem dX11_findLayers_66 : decode cX11_findLayers 66 = .ok (.iaload, 1) := by decide +kernel
theorem dX11_findLayers_67 : decode cX11_findLayers 67 = .ok (.ifCond .ne 15, 3) := by decide +kernel
theorem dX11_findLayers_70 : decode cX11_findLayers 70 = .ok (.aload_n 0, 1) := by decide +kernel
theorem dX11_findLayers_71 : decode cX11_findLayers 71 = .ok (.iload_n 3, 1) := by decide +kernel
theorem dX11_findLayers_72 : decode cX11_findLayers 72 = .ok (.invokevirtual 264, 3) := by decide +kernel
theorem dX11_findLayers_75 : decode cX11_findLayers 75 = .ok (.ifCond .eq 7, 3) := by decide +kernel
theorem dX11_findLayers_78 : decode cX11_findLayers 78 = .ok (.iconst 1, 1) := by decide +kernel
theorem dX11_findLayers_79 : decode cX11_findLayers 79 = .ok (.goto 4, 3) := by decide +kernel
theorem dX11_findLayers_82 : decode cX11_findLayers 82 = .ok (.iconst 0, 1) := by decide +kernel
theorem dX11_findLayers_83 : decode cX11_findLayers 83 = .ok (.bastore, 1) := by decide +kernel
theorem dX11_findLayers_84 : decode cX11_findLayers 84 = .ok (.iinc 3 1, 3) := by decide +kernel
theorem dX11_findLayers_87 : decode cX11_findLayers 87 = .ok (.goto (-48), 3) := by decide +kernel
theorem dX11_findLayers_90 : decode cX11_findLayers 90 = .ok (.iconst 0, 1) := by decide +kernel
theorem dX11_findLayers_91 : decode cX11_findLayers 91 = .ok (.istore_n 3, 1) := by decide +kernel
theorem dX11_findLayers_92 : decode cX11_findLayers 92 = .ok (.iload_n 3, 1) := by decide +kernel
theorem dX11_findLayers_93 : decode cX11_findLayers 93 = .ok (.aload_n 0, 1) := by decide +kernel
theorem dX11_findLayers_94 : decode cX11_findLayers 94 = .ok (.getfield 101, 3) := by decide +kernel
theorem dX11_findLayers_97 : decode cX11_findLayers 97 = .ok (.if_icmp .ge 51, 3) := by decide +kernel
theorem dX11_findLayers_100 : decode cX11_findLayers 100 = .ok (.aload_n 0, 1) := by decide +kernel
theorem dX11_findLayers_101 : decode cX11_findLayers 101 = .ok (.getfield 69, 3) := by decide +kernel
theorem dX11_findLayers_104 : decode cX11_findLayers 104 = .ok (.iload_n 3, 1) := by decide +kernel
theorem dX11_findLayers_105 : decode cX11_findLayers 105 = .ok (.aload_n 0, 1) := by decide +kernel
theorem dX11_findLayers_106 : decode cX11_findLayers 106 = .ok (.getfield 72, 3) := by decide +kernel
theorem dX11_findLayers_109 : decode cX11_findLayers 109 = .ok (.iload_n 3, 1) := by decide +kernel
theorem dX11_findLayers_110 : decode cX11_findLayers 110 = .ok (.baload, 1) := by decide +kernel
theorem dX11_findLayers_111 : decode cX11_findLayers 111 = .ok (.ifCond .eq 7, 3) := by decide +kernel
theorem dX11_findLayers_114 : decode cX11_findLayers 114 = .ok (.iload_n 2, 1) := by decide +kernel
theorem dX11_findLayers_115 : decode cX11_findLayers 115 = .ok (.goto 9, 3) := by decide +kernel
theorem dX11_findLayers_118 : decode cX11_findLayers 118 = .ok (.aload_n 0, 1) := by decide +kernel
theorem dX11_findLayers_119 : decode cX11_findLayers 119 = .ok (.getfield 69, 3) := by decide +kernel
theorem dX11_findLayers_122 : decode cX11_findLayers 122 = .ok (.iload_n 3, 1) := by decide +kernel
theorem dX11_findLayers_123 : decode cX11_findLayers 123 = .ok (.iaload, 1) := by decide +kernel
theorem dX11_findLayers_124 : decode cX11_findLayers 124 = .ok (.iastore, 1) := by decide +kernel
theorem dX11_findLayers_125 : decode cX11_findLayers 125 = .ok (.iload_n 1, 1) := by decide +kernel
theorem dX11_findLayers_126 : decode cX11_findLayers 126 = .ok (.aload_n 0, 1) := by decide +kernel
theorem dX11_findLayers_127 : decode cX11_findLayers 127 = .ok (.getfield 72, 3) := by decide +kernel
theorem dX11_findLayers_130 : decode cX11_findLayers 130 = .ok (.iload_n 3, 1) := by decide +kernel
theorem dX11_findLayers_131 : decode cX11_findLayers 131 = .ok (.baload, 1) := by decide +kernel
theorem dX11_findLayers_132 : decode cX11_findLayers 132 = .ok (.ifCond .eq 7, 3) := by decide +kernel
theorem dX11_findLayers_135 : decode cX11_findLayers 135 = .ok (.iconst 1, 1) := by decide +kernel
theorem dX11_findLayers_136 : decode cX11_findLayers 136 = .ok (.goto 4, 3) := by decide +kernel
theorem dX11_findLayers_139 : decode cX11_findLayers 139 = .ok (.iconst 0, 1) := by decide +kernel
theorem dX11_findLayers_140 : decode cX11_findLayers 140 = .ok (.isub, 1) := by decide +kernel
theorem dX11_findLayers_141 : decode cX11_findLayers 141 = .ok (.istore_n 1, 1) := by decide +kernel
theorem dX11_findLayers_142 : decode cX11_findLayers 142 = .ok (.iinc 3 1, 3) := by decide +kernel
theorem dX11_findLayers_145 : decode cX11_findLayers 145 = .ok (.goto (-53), 3) := by decide +kernel
theorem dX11_findLayers_148 : decode cX11_findLayers 148 = .ok (.goto (-118), 3) := by decide +kernel
theorem dX11_findLayers_151 : decode cX11_findLayers 151 = .ok (.iload_n 2, 1) := by decide +kernel
theorem dX11_findLayers_152 : decode cX11_findLayers 152 = .ok (.ireturn, 1) := by decide +kernel
theorem dX11_layer_0 : decode cX11_layer 0 = .ok (.iload_n 1, 1) := by decide +kernel
theorem dX11_layer_1 : decode cX11_layer 1 = .ok (.iconst 1, 1) := by decide +kernel
theorem dX11_layer_2 : decode cX11_layer 2 = .ok (.if_icmp .ge 6, 3) := by decide +kernel
theorem dX11_layer_5 : decode cX11_layer 5 = .ok (.ldc 91, 2) := by decide +kernel
theorem dX11_layer_7 : decode cX11_layer 7 = .ok (.ireturn, 1) := by decide +kernel
theorem dX11_layer_8 : decode cX11_layer 8 = .ok (.aload_n 0, 1) := by decide +kernel
theorem dX11_layer_9 : decode cX11_layer 9 = .ok (.invokevirtual 140, 3) := by decide +kernel
theorem dX11_layer_12 : decode cX11_layer 12 = .ok (.istore_n 2, 1) := by decide +kernel
theorem dX11_layer_13 : decode cX11_layer 13 = .ok (.iconst 0, 1) := by decide +kernel
theorem dX11_layer_14 : decode cX11_layer 14 = .ok (.istore_n 3, 1) := by decide +kernel
theorem dX11_layer_15 : decode cX11_layer 15 = .ok (.iconst 0, 1) := by decide +kernel
theorem dX11_layer_16 : decode cX11_layer 16 = .ok (.istore 4, 2) := by decide +kernel
theorem dX11_layer_18 : decode cX11_layer 18 = .ok (.iload 4, 2) := by decide +kernel
theorem dX11_layer_20 : decode cX11_layer 20 = .ok (.aload_n 0, 1) := by decide +kernel
theorem dX11_layer_21 : decode cX11_layer 21 = .ok (.getfield 101, 3) := by decide +kernel
theorem dX11_layer_24 : decode cX11_layer 24 = .ok (.if_icmp .ge 38, 3) := by decide +kernel
theorem dX11_layer_27 : decode cX11_layer 27 = .ok (.iload_n 3, 1) := by decide +kernel
theorem dX11_layer_28 : decode cX11_layer 28 = .ok (.aload_n 0, 1) := by decide +kernel
theorem dX11_layer_29 : decode cX11_layer 29 = .ok (.getfield 22, 3) := by decide +kernel
theorem dX11_layer_32 : decode cX11_layer 32 = .ok (.iload 4, 2) := by decide +kernel
theorem dX11_layer_34 : decode cX11_layer 34 = .ok (.baload, 1) := by decide +kernel
theorem dX11_layer_35 : decode cX11_layer 35 = .ok (.ifCond .ne 18, 3) := by decide +kernel
theorem dX11_layer_38 : decode cX11_layer 38 = .ok (.aload_n 0, 1) := by decide +kernel
theorem dX11_layer_39 : decode cX11_layer 39 = .ok (.getfield 69, 3) := by decide +kernel
theorem dX11_layer_42 : decode cX11_layer 42 = .ok (.iload 4, 2) := by decide +kernel
theorem dX11_layer_44 : decode cX11_layer 44 = .ok (.iaload, 1) := by decide +kernel
theorem dX11_layer_45 : decode cX11_layer 45 = .ok (.iload_n 1, 1) := by decide +kernel
theorem dX11_layer_46 : decode cX11_layer 46 = .ok (.if_icmp .ne 7, 3) := by decide +kernel
theorem dX11_layer_49 : decode cX11_layer 49 = .ok (.iconst 1, 1) := by decide +kernel
theorem dX11_layer_50 : decode cX11_layer 50 = .ok (.goto 4, 3) := by decide +kernel
theorem dX11_layer_53 : decode cX11_layer 53 = .ok (.iconst 0, 1) := by decide +kernel
theorem dX11_layer_54 : decode cX11_layer 54 = .ok (.iadd, 1) := by decide +kernel
theorem dX11_layer_55 : decode cX11_layer 55 = .ok (.istore_n 3, 1) := by decide +kernel
theorem dX11_layer_56 : decode cX11_layer 56 = .ok (.iinc 4 1, 3) := by decide +kernel
theorem dX11_layer_59 : decode cX11_layer 59 = .ok (.goto (-41), 3) := by decide +kernel
theorem dX11_layer_62 : decode cX11_layer 62 = .ok (.iload_n 3, 1) := by decide +kernel
theorem dX11_layer_63 : decode cX11_layer 63 = .ok (.ireturn, 1) := by decide +kernel
theorem dX11_most_0 : decode cX11_most 0 = .ok (.iload_n 1, 1) := by decide +kernel
theorem dX11_most_1 : decode cX11_most 1 = .ok (.i2l, 1) := by decide +kernel
theorem dX11_most_2 : decode cX11_most 2 = .ok (.lconst 0, 1) := by decide +kernel
theorem dX11_most_3 : decode cX11_most 3 = .ok (.lconst 1, 1) := by decide +kernel
theorem dX11_most_4 : decode cX11_most 4 = .ok (.invokestatic 81, 3) := by decide +kernel
theorem dX11_most_7 : decode cX11_most 7 = .ok (.ifCond .ne 6, 3) := by decide +kernel
theorem dX11_most_10 : decode cX11_most 10 = .ok (.ldc 91, 2) := by decide +kernel
theorem dX11_most_12 : decode cX11_most 12 = .ok (.ireturn, 1) := by decide +kernel
theorem dX11_most_13 : decode cX11_most 13 = .ok (.iconst 0, 1) := by decide +kernel
theorem dX11_most_14 : decode cX11_most 14 = .ok (.istore_n 2, 1) := by decide +kernel
theorem dX11_most_15 : decode cX11_most 15 = .ok (.iconst 0, 1) := by decide +kernel
theorem dX11_most_16 : decode cX11_most 16 = .ok (.istore_n 3, 1) := by decide +kernel
theorem dX11_most_17 : decode cX11_most 17 = .ok (.iload_n 3, 1) := by decide +kernel
theorem dX11_most_18 : decode cX11_most 18 = .ok (.aload_n 0, 1) := by decide +kernel
theorem dX11_most_19 : decode cX11_most 19 = .ok (.getfield 101, 3) := by decide +kernel
theorem dX11_most_22 : decode cX11_most 22 = .ok (.if_icmp .ge 143, 3) := by decide +kernel
theorem dX11_most_25 : decode cX11_most 25 = .ok (.iconst 0, 1) := by decide +kernel
theorem dX11_most_26 : decode cX11_most 26 = .ok (.istore 4, 2) := by decide +kernel
theorem dX11_most_28 : decode cX11_most 28 = .ok (.iload 4, 2) := by decide +kernel
theorem dX11_most_30 : decode cX11_most 30 = .ok (.iload_n 3, 1) := by decide +kernel
theorem dX11_most_31 : decode cX11_most 31 = .ok (.if_icmp .ge 128, 3) := by decide +kernel
theorem dX11_most_34 : decode cX11_most 34 = .ok (.aload_n 0, 1) := by decide +kernel
theorem dX11_most_35 : decode cX11_most 35 = .ok (.getfield 22, 3) := by decide +kernel
theorem dX11_most_38 : decode cX11_most 38 = .ok (.iload_n 3, 1) := by decide +kernel
theorem dX11_most_39 : decode cX11_most 39 = .ok (.baload, 1) := by decide +kernel
theorem dX11_most_40 : decode cX11_most 40 = .ok (.ifCond .ne 119, 3) := by decide +kernel
theorem dX11_most_43 : decode cX11_most 43 = .ok (.aload_n 0, 1) := by decide +kernel
theorem dX11_most_44 : decode cX11_most 44 = .ok (.getfield 22, 3) := by decide +kernel
theorem dX11_most_47 : decode cX11_most 47 = .ok (.iload 4, 2) := by decide +kernel
theorem dX11_most_49 : decode cX11_most 49 = .ok (.baload, 1) := by decide +kernel
theorem dX11_most_50 : decode cX11_most 50 = .ok (.ifCond .ne 103, 3) := by decide +kernel
theorem dX11_most_53 : decode cX11_most 53 = .ok (.aload_n 0, 1) := by decide +kernel
theorem dX11_most_54 : decode cX11_most 54 = .ok (.iload_n 3, 1) := by decide +kernel
theorem dX11_most_55 : decode cX11_most 55 = .ok (.iload 4, 2) := by decide +kernel
theorem dX11_most_57 : decode cX11_most 57 = .ok (.invokevirtual 200, 3) := by decide +kernel
theorem dX11_most_60 : decode cX11_most 60 = .ok (.ifCond .eq 93, 3) := by decide +kernel
theorem dX11_most_63 : decode cX11_most 63 = .ok (.aload_n 0, 1) := by decide +kernel
theorem dX11_most_64 : decode cX11_most 64 = .ok (.iload_n 3, 1) := by decide +kernel
theorem dX11_most_65 : decode cX11_most 65 = .ok (.iload 4, 2) := by decide +kernel
theorem dX11_most_67 : decode cX11_most 67 = .ok (.invokevirtual 203, 3) := by decide +kernel
theorem dX11_most_70 : decode cX11_most 70 = .ok (.iconst 0, 1) := by decide +kernel
theorem dX11_most_71 : decode cX11_most 71 = .ok (.istore 5, 2) := by decide +kernel
theorem dX11_most_73 : decode cX11_most 73 = .ok (.iconst 0, 1) := by decide +kernel
theorem dX11_most_74 : decode cX11_most 74 = .ok (.istore 6, 2) := by decide +kernel
theorem dX11_most_76 : decode cX11_most 76 = .ok (.iload 6, 2) := by decide +kernel
theorem dX11_most_78 : decode cX11_most 78 = .ok (.aload_n 0, 1) := by decide +kernel
theorem dX11_most_79 : decode cX11_most 79 = .ok (.getfield 101, 3) := by decide +kernel
theorem dX11_most_82 : decode cX11_most 82 = .ok (.if_icmp .ge 40, 3) := by decide +kernel
theorem dX11_most_85 : decode cX11_most 85 = .ok (.iload 5, 2) := by decide +kernel
theorem dX11_most_87 : decode cX11_most 87 = .ok (.aload_n 0, 1) := by decide +kernel
theorem dX11_most_88 : decode cX11_most 88 = .ok (.getfield 22, 3) := by decide +kernel
theorem dX11_most_91 : decode cX11_most 91 = .ok (.iload 6, 2) := by decide +kernel
theorem dX11_most_93 : decode cX11_most 93 = .ok (.baload, 1) := by decide +kernel
theorem dX11_most_94 : decode cX11_most 94 = .ok (.ifCond .ne 18, 3) := by decide +kernel
theorem dX11_most_97 : decode cX11_most 97 = .ok (.aload_n 0, 1) := by decide +kernel
theorem dX11_most_98 : decode cX11_most 98 = .ok (.iload 6, 2) := by decide +kernel
theorem dX11_most_100 : decode cX11_most 100 = .ok (.invokevirtual 210, 3) := by decide +kernel
theorem dX11_most_103 : decode cX11_most 103 = .ok (.lconst 0, 1) := by decide +kernel
theorem dX11_most_104 : decode cX11_most 104 = .ok (.lcmp, 1) := by decide +kernel
theorem dX11_most_105 : decode cX11_most 105 = .ok (.ifCond .ne 7, 3) := by decide +kernel
theorem dX11_most_108 : decode cX11_most 108 = .ok (.iconst 1, 1) := by decide +kernel
theorem dX11_most_109 : decode cX11_most 109 = .ok (.goto 4, 3) := by decide +kernel
theorem dX11_most_112 : decode cX11_most 112 = .ok (.iconst 0, 1) := by decide +kernel
theorem dX11_most_113 : decode cX11_most 113 = .ok (.iadd, 1) := by decide +kernel
theorem dX11_most_114 : decode cX11_most 114 = .ok (.istore 5, 2) := by decide +kernel
theorem dX11_most_116 : decode cX11_most 116 = .ok (.iinc 6 1, 3) := by decide +kernel
theorem dX11_most_119 : decode cX11_most 119 = .ok (.goto (-43), 3) := by decide +kernel
theorem dX11_most_122 : decode cX11_most 122 = .ok (.iload_n 2, 1) := by decide +kernel
theorem dX11_most_123 : decode cX11_most 123 = .ok (.ifCond .eq 23, 3) := by decide +kernel
theorem dX11_most_126 : decode cX11_most 126 = .ok (.iload_n 1, 1) := by decide +kernel
theorem dX11_most_127 : decode cX11_most 127 = .ok (.iconst 1, 1) := by decide +kernel
theorem dX11_most_128 : decode cX11_most 128 = .ok (.if_icmp .ne 12, 3) := by decide +kernel
theorem dX11_most_131 : decode cX11_most 131 = .ok (.iload 5, 2) := by decide +kernel
theorem dX11_most_133 : decode cX11_most 133 = .ok (.iload_n 2, 1) := by decide +kernel
theorem dX11_most_134 : decode cX11_most 134 = .ok (.if_icmp .le 17, 3) := by decide +kernel
theorem dX11_most_137 : decode cX11_most 137 = .ok (.goto 9, 3) := by decide +kernel
theorem dX11_most_140 : decode cX11_most 140 = .ok (.iload 5, 2) := by decide +kernel
theorem dX11_most_142 : decode cX11_most 142 = .ok (.iload_n 2, 1) := by decide +kernel
theorem dX11_most_143 : decode cX11_most 143 = .ok (.if_icmp .ge 8, 3) := by decide +kernel
theorem dX11_most_146 : decode cX11_most 146 = .ok (.iload 5, 2) := by decide +kernel
theorem dX11_most_148 : decode cX11_most 148 = .ok (.goto 4, 3) := by decide +kernel
theorem dX11_most_151 : decode cX11_most 151 = .ok (.iload_n 2, 1) := by decide +kernel
theorem dX11_most_152 : decode cX11_most 152 = .ok (.istore_n 2, 1) := by decide +kernel
theorem dX11_most_153 : decode cX11_most 153 = .ok (.iinc 4 1, 3) := by decide +kernel
theorem dX11_most_156 : decode cX11_most 156 = .ok (.goto (-128), 3) := by decide +kernel
theorem dX11_most_159 : decode cX11_most 159 = .ok (.iinc 3 1, 3) := by decide +kernel
theorem dX11_most_162 : decode cX11_most 162 = .ok (.goto (-145), 3) := by decide +kernel
theorem dX11_most_165 : decode cX11_most 165 = .ok (.iload_n 2, 1) := by decide +kernel
theorem dX11_most_166 : decode cX11_most 166 = .ok (.ireturn, 1) := by decide +kernel
theorem dX11_offerGap_0 : decode cX11_offerGap 0 = .ok (.iconst 0, 1) := by decide +kernel
theorem dX11_offerGap_1 : decode cX11_offerGap 1 = .ok (.istore 5, 2) := by decide +kernel
theorem dX11_offerGap_3 : decode cX11_offerGap 3 = .ok (.iload 5, 2) := by decide +kernel
theorem dX11_offerGap_5 : decode cX11_offerGap 5 = .ok (.aload_n 0, 1) := by decide +kernel
theorem dX11_offerGap_6 : decode cX11_offerGap 6 = .ok (.getfield 101, 3) := by decide +kernel
theorem dX11_offerGap_9 : decode cX11_offerGap 9 = .ok (.if_icmp .ge 188, 3) := by decide +kernel
theorem dX11_offerGap_12 : decode cX11_offerGap 12 = .ok (.aload_n 0, 1) := by decide +kernel
theorem dX11_offerGap_13 : decode cX11_offerGap 13 = .ok (.getfield 22, 3) := by decide +kernel
theorem dX11_offerGap_16 : decode cX11_offerGap 16 = .ok (.iload 5, 2) := by decide +kernel
theorem dX11_offerGap_18 : decode cX11_offerGap 18 = .ok (.baload, 1) := by decide +kernel
theorem dX11_offerGap_19 : decode cX11_offerGap 19 = .ok (.ifCond .ne 172, 3) := by decide +kernel
theorem dX11_offerGap_22 : decode cX11_offerGap 22 = .ok (.lload_n 1, 1) := by decide +kernel
theorem dX11_offerGap_23 : decode cX11_offerGap 23 = .ok (.aload_n 0, 1) := by decide +kernel
theorem dX11_offerGap_24 : decode cX11_offerGap 24 = .ok (.getfield 7, 3) := by decide +kernel
theorem dX11_offerGap_27 : decode cX11_offerGap 27 = .ok (.iload 5, 2) := by decide +kernel
theorem dX11_offerGap_29 : decode cX11_offerGap 29 = .ok (.iaload, 1) := by decide +kernel
theorem dX11_offerGap_30 : decode cX11_offerGap 30 = .ok (.i2l, 1) := by decide +kernel
theorem dX11_offerGap_31 : decode cX11_offerGap 31 = .ok (.lmul, 1) := by decide +kernel
theorem dX11_offerGap_32 : decode cX11_offerGap 32 = .ok (.lload_n 3, 1) := by decide +kernel
theorem dX11_offerGap_33 : decode cX11_offerGap 33 = .ok (.aload_n 0, 1) := by decide +kernel
theorem dX11_offerGap_34 : decode cX11_offerGap 34 = .ok (.getfield 13, 3) := by decide +kernel
theorem dX11_offerGap_37 : decode cX11_offerGap 37 = .ok (.iload 5, 2) := by decide +kernel
theorem dX11_offerGap_39 : decode cX11_offerGap 39 = .ok (.iaload, 1) := by decide +kernel
theorem dX11_offerGap_40 : decode cX11_offerGap 40 = .ok (.i2l, 1) := by decide +kernel
theorem dX11_offerGap_41 : decode cX11_offerGap 41 = .ok (.lmul, 1) := by decide +kernel
theorem dX11_offerGap_42 : decode cX11_offerGap 42 = .ok (.ladd, 1) := by decide +kernel
theorem dX11_offerGap_43 : decode cX11_offerGap 43 = .ok (.lstore 6, 2) := by decide +kernel
theorem dX11_offerGap_45 : decode cX11_offerGap 45 = .ok (.iconst 0, 1) := by decide +kernel
theorem dX11_offerGap_46 : decode cX11_offerGap 46 = .ok (.istore 8, 2) := by decide +kernel
theorem dX11_offerGap_48 : decode cX11_offerGap 48 = .ok (.lconst 0, 1) := by decide +kernel
theorem dX11_offerGap_49 : decode cX11_offerGap 49 = .ok (.lstore 9, 2) := by decide +kernel
theorem dX11_offerGap_51 : decode cX11_offerGap 51 = .ok (.iconst 0, 1) := by decide +kernel
theorem dX11_offerGap_52 : decode cX11_offerGap 52 = .ok (.istore 11, 2) := by decide +kernel
theorem dX11_offerGap_54 : decode cX11_offerGap 54 = .ok (.iload 11, 2) := by decide +kernel
theorem dX11_offerGap_56 : decode cX11_offerGap 56 = .ok (.aload_n 0, 1) := by decide +kernel
theorem dX11_offerGap_57 : decode cX11_offerGap 57 = .ok (.getfield 101, 3) := by decide +kernel
theorem dX11_offerGap_60 : decode cX11_offerGap 60 = .ok (.if_icmp .ge 70, 3) := by decide +kernel
theorem dX11_offerGap_63 : decode cX11_offerGap 63 = .ok (.lload_n 1, 1) := by decide +kernel
theorem dX11_offerGap_64 : decode cX11_offerGap 64 = .ok (.aload_n 0, 1) := by decide +kernel
theorem dX11_offerGap_65 : decode cX11_offerGap 65 = .ok (.getfield 7, 3) := by decide +kernel
theorem dX11_offerGap_68 : decode cX11_offerGap 68 = .ok (.iload 11, 2) := by decide +kernel
theorem dX11_offerGap_70 : decode cX11_offerGap 70 = .ok (.iaload, 1) := by decide +kernel
theorem dX11_offerGap_71 : decode cX11_offerGap 71 = .ok (.i2l, 1) := by decide +kernel
theorem dX11_offerGap_72 : decode cX11_offerGap 72 = .ok (.lmul, 1) := by decide +kernel
theorem dX11_offerGap_73 : decode cX11_offerGap 73 = .ok (.lload_n 3, 1) := by decide +kernel
theorem dX11_offerGap_74 : decode cX11_offerGap 74 = .ok (.aload_n 0, 1) := by decide +kernel
theorem dX11_offerGap_75 : decode cX11_offerGap 75 = .ok (.getfield 13, 3) := by decide +kernel
theorem dX11_offerGap_78 : decode cX11_offerGap 78 = .ok (.iload 11, 2) := by decide +kernel
theorem dX11_offerGap_80 : decode cX11_offerGap 80 = .ok (.iaload, 1) := by decide +kernel
theorem dX11_offerGap_81 : decode cX11_offerGap 81 = .ok (.i2l, 1) := by decide +kernel
theorem dX11_offerGap_82 : decode cX11_offerGap 82 = .ok (.lmul, 1) := by decide +kernel
theorem dX11_offerGap_83 : decode cX11_offerGap 83 = .ok (.ladd, 1) := by decide +kernel
theorem dX11_offerGap_84 : decode cX11_offerGap 84 = .ok (.lstore 12, 2) := by decide +kernel
theorem dX11_offerGap_86 : decode cX11_offerGap 86 = .ok (.aload_n 0, 1) := by decide +kernel
theorem dX11_offerGap_87 : decode cX11_offerGap 87 = .ok (.getfield 22, 3) := by decide +kernel
theorem dX11_offerGap_90 : decode cX11_offerGap 90 = .ok (.iload 11, 2) := by decide +kernel
theorem dX11_offerGap_92 : decode cX11_offerGap 92 = .ok (.baload, 1) := by decide +kernel
theorem dX11_offerGap_93 : decode cX11_offerGap 93 = .ok (.ifCond .ne 31, 3) := by decide +kernel
theorem dX11_offerGap_96 : decode cX11_offerGap 96 = .ok (.lload 12, 2) := by decide +kernel
theorem dX11_offerGap_98 : decode cX11_offerGap 98 = .ok (.lload 6, 2) := by decide +kernel
theorem dX11_offerGap_100 : decode cX11_offerGap 100 = .ok (.lcmp, 1) := by decide +kernel
theorem dX11_offerGap_101 : decode cX11_offerGap 101 = .ok (.ifCond .le 23, 3) := by decide +kernel
theorem dX11_offerGap_104 : decode cX11_offerGap 104 = .ok (.iload 8, 2) := by decide +kernel
theorem dX11_offerGap_106 : decode cX11_offerGap 106 = .ok (.ifCond .eq 11, 3) := by decide +kernel
theorem dX11_offerGap_109 : decode cX11_offerGap 109 = .ok (.lload 12, 2) := by decide +kernel
theorem dX11_offerGap_111 : decode cX11_offerGap 111 = .ok (.lload 9, 2) := by decide +kernel
theorem dX11_offerGap_113 : decode cX11_offerGap 113 = .ok (.lcmp, 1) := by decide +kernel
theorem dX11_offerGap_114 : decode cX11_offerGap 114 = .ok (.ifCond .ge 10, 3) := by decide +kernel
theorem dX11_offerGap_117 : decode cX11_offerGap 117 = .ok (.iconst 1, 1) := by decide +kernel
theorem dX11_offerGap_118 : decode cX11_offerGap 118 = .ok (.istore 8, 2) := by decide +kernel
theorem dX11_offerGap_120 : decode cX11_offerGap 120 = .ok (.lload 12, 2) := by decide +kernel
theorem dX11_offerGap_122 : decode cX11_offerGap 122 = .ok (.lstore 9, 2) := by decide +kernel
theorem dX11_offerGap_124 : decode cX11_offerGap 124 = .ok (.iinc 11 1, 3) := by decide +kernel
theorem dX11_offerGap_127 : decode cX11_offerGap 127 = .ok (.goto (-73), 3) := by decide +kernel
theorem dX11_offerGap_130 : decode cX11_offerGap 130 = .ok (.iload 8, 2) := by decide +kernel
theorem dX11_offerGap_132 : decode cX11_offerGap 132 = .ok (.ifCond .eq 11, 3) := by decide +kernel
theorem dX11_offerGap_135 : decode cX11_offerGap 135 = .ok (.lload 9, 2) := by decide +kernel
theorem dX11_offerGap_137 : decode cX11_offerGap 137 = .ok (.lload 6, 2) := by decide +kernel
theorem dX11_offerGap_139 : decode cX11_offerGap 139 = .ok (.lsub, 1) := by decide +kernel
theorem dX11_offerGap_140 : decode cX11_offerGap 140 = .ok (.goto 4, 3) := by decide +kernel
theorem dX11_offerGap_143 : decode cX11_offerGap 143 = .ok (.lconst 0, 1) := by decide +kernel
theorem dX11_offerGap_144 : decode cX11_offerGap 144 = .ok (.lstore 11, 2) := by decide +kernel
theorem dX11_offerGap_146 : decode cX11_offerGap 146 = .ok (.lload_n 1, 1) := by decide +kernel
theorem dX11_offerGap_147 : decode cX11_offerGap 147 = .ok (.lload_n 1, 1) := by decide +kernel
theorem dX11_offerGap_148 : decode cX11_offerGap 148 = .ok (.lmul, 1) := by decide +kernel
theorem dX11_offerGap_149 : decode cX11_offerGap 149 = .ok (.lload_n 3, 1) := by decide +kernel
theorem dX11_offerGap_150 : decode cX11_offerGap 150 = .ok (.lload_n 3, 1) := by decide +kernel
theorem dX11_offerGap_151 : decode cX11_offerGap 151 = .ok (.lmul, 1) := by decide +kernel
theorem dX11_offerGap_152 : decode cX11_offerGap 152 = .ok (.ladd, 1) := by decide +kernel
theorem dX11_offerGap_153 : decode cX11_offerGap 153 = .ok (.lstore 13, 2) := by decide +kernel
theorem dX11_offerGap_155 : decode cX11_offerGap 155 = .ok (.lload 11, 2) := by decide +kernel
theorem dX11_offerGap_157 : decode cX11_offerGap 157 = .ok (.lload 11, 2) := by decide +kernel
theorem dX11_offerGap_159 : decode cX11_offerGap 159 = .ok (.lmul, 1) := by decide +kernel
theorem dX11_offerGap_160 : decode cX11_offerGap 160 = .ok (.aload_n 0, 1) := by decide +kernel
theorem dX11_offerGap_161 : decode cX11_offerGap 161 = .ok (.getfield 267, 3) := by decide +kernel
theorem dX11_offerGap_164 : decode cX11_offerGap 164 = .ok (.lmul, 1) := by decide +kernel
theorem dX11_offerGap_165 : decode cX11_offerGap 165 = .ok (.aload_n 0, 1) := by decide +kernel
theorem dX11_offerGap_166 : decode cX11_offerGap 166 = .ok (.getfield 270, 3) := by decide +kernel
theorem dX11_offerGap_169 : decode cX11_offerGap 169 = .ok (.lload 13, 2) := by decide +kernel
theorem dX11_offerGap_171 : decode cX11_offerGap 171 = .ok (.lmul, 1) := by decide +kernel
theorem dX11_offerGap_172 : decode cX11_offerGap 172 = .ok (.lcmp, 1) := by decide +kernel
theorem dX11_offerGap_173 : decode cX11_offerGap 173 = .ok (.ifCond .le 18, 3) := by decide +kernel
theorem dX11_offerGap_176 : decode cX11_offerGap 176 = .ok (.aload_n 0, 1) := by decide +kernel
theorem dX11_offerGap_177 : decode cX11_offerGap 177 = .ok (.lload 11, 2) := by decide +kernel
theorem dX11_offerGap_179 : decode cX11_offerGap 179 = .ok (.lload 11, 2) := by decide +kernel
theorem dX11_offerGap_181 : decode cX11_offerGap 181 = .ok (.lmul, 1) := by decide +kernel
theorem dX11_offerGap_182 : decode cX11_offerGap 182 = .ok (.putfield 270, 3) := by decide +kernel
theorem dX11_offerGap_185 : decode cX11_offerGap 185 = .ok (.aload_n 0, 1) := by decide +kernel
theorem dX11_offerGap_186 : decode cX11_offerGap 186 = .ok (.lload 13, 2) := by decide +kernel
theorem dX11_offerGap_188 : decode cX11_offerGap 188 = .ok (.putfield 267, 3) := by decide +kernel
theorem dX11_offerGap_191 : decode cX11_offerGap 191 = .ok (.iinc 5 1, 3) := by decide +kernel
theorem dX11_offerGap_194 : decode cX11_offerGap 194 = .ok (.goto (-191), 3) := by decide +kernel
theorem dX11_offerGap_197 : decode cX11_offerGap 197 = .ok (.return_, 1) := by decide +kernel
theorem dX11_widest_0 : decode cX11_widest 0 = .ok (.iload_n 1, 1) := by decide +kernel
theorem dX11_widest_1 : decode cX11_widest 1 = .ok (.i2l, 1) := by decide +kernel
theorem dX11_widest_2 : decode cX11_widest 2 = .ok (.lconst 0, 1) := by decide +kernel
theorem dX11_widest_3 : decode cX11_widest 3 = .ok (.lconst 1, 1) := by decide +kernel
theorem dX11_widest_4 : decode cX11_widest 4 = .ok (.invokestatic 81, 3) := by decide +kernel
theorem dX11_widest_7 : decode cX11_widest 7 = .ok (.ifCond .ne 7, 3) := by decide +kernel
theorem dX11_widest_10 : decode cX11_widest 10 = .ok (.ldc2_w 99, 3) := by decide +kernel
theorem dX11_widest_13 : decode cX11_widest 13 = .ok (.lreturn, 1) := by decide +kernel
theorem dX11_widest_14 : decode cX11_widest 14 = .ok (.aload_n 0, 1) := by decide +kernel
theorem dX11_widest_15 : decode cX11_widest 15 = .ok (.lconst 0, 1) := by decide +kernel
theorem dX11_widest_16 : decode cX11_widest 16 = .ok (.putfield 270, 3) := by decide +kernel
theorem dX11_widest_19 : decode cX11_widest 19 = .ok (.aload_n 0, 1) := by decide +kernel
theorem dX11_widest_20 : decode cX11_widest 20 = .ok (.lconst 1, 1) := by decide +kernel
theorem dX11_widest_21 : decode cX11_widest 21 = .ok (.putfield 267, 3) := by decide +kernel
theorem dX11_widest_24 : decode cX11_widest 24 = .ok (.iconst 0, 1) := by decide +kernel
theorem dX11_widest_25 : decode cX11_widest 25 = .ok (.istore_n 2, 1) := by decide +kernel
theorem dX11_widest_26 : decode cX11_widest 26 = .ok (.iload_n 2, 1) := by decide +kernel
theorem dX11_widest_27 : decode cX11_widest 27 = .ok (.aload_n 0, 1) := by decide +kernel
theorem dX11_widest_28 : decode cX11_widest 28 = .ok (.getfield 101, 3) := by decide +kernel
theorem dX11_widest_31 : decode cX11_widest 31 = .ok (.if_icmp .ge 98, 3) := by decide +kernel
theorem dX11_widest_34 : decode cX11_widest 34 = .ok (.iconst 0, 1) := by decide +kernel
theorem dX11_widest_35 : decode cX11_widest 35 = .ok (.istore_n 3, 1) := by decide +kernel
theorem dX11_widest_36 : decode cX11_widest 36 = .ok (.iload_n 3, 1) := by decide +kernel
theorem dX11_widest_37 : decode cX11_widest 37 = .ok (.iload_n 2, 1) := by decide +kernel
theorem dX11_widest_38 : decode cX11_widest 38 = .ok (.if_icmp .ge 85, 3) := by decide +kernel
theorem dX11_widest_41 : decode cX11_widest 41 = .ok (.aload_n 0, 1) := by decide +kernel
theorem dX11_widest_42 : decode cX11_widest 42 = .ok (.getfield 22, 3) := by decide +kernel
theorem dX11_widest_45 : decode cX11_widest 45 = .ok (.iload_n 2, 1) := by decide +kernel
theorem dX11_widest_46 : decode cX11_widest 46 = .ok (.baload, 1) := by decide +kernel
theorem dX11_widest_47 : decode cX11_widest 47 = .ok (.ifCond .ne 76, 3) := by decide +kernel
theorem dX11_widest_50 : decode cX11_widest 50 = .ok (.aload_n 0, 1) := by decide +kernel
theorem dX11_widest_51 : decode cX11_widest 51 = .ok (.getfield 22, 3) := by decide +kernel
theorem dX11_widest_54 : decode cX11_widest 54 = .ok (.iload_n 3, 1) := by decide +kernel
theorem dX11_widest_55 : decode cX11_widest 55 = .ok (.baload, 1) := by decide +kernel
theorem dX11_widest_56 : decode cX11_widest 56 = .ok (.ifCond .ne 61, 3) := by decide +kernel
theorem dX11_widest_59 : decode cX11_widest 59 = .ok (.aload_n 0, 1) := by decide +kernel
theorem dX11_widest_60 : decode cX11_widest 60 = .ok (.iload_n 2, 1) := by decide +kernel
theorem dX11_widest_61 : decode cX11_widest 61 = .ok (.iload_n 3, 1) := by decide +kernel
theorem dX11_widest_62 : decode cX11_widest 62 = .ok (.invokevirtual 200, 3) := by decide +kernel
theorem dX11_widest_65 : decode cX11_widest 65 = .ok (.ifCond .eq 52, 3) := by decide +kernel
theorem dX11_widest_68 : decode cX11_widest 68 = .ok (.aload_n 0, 1) := by decide +kernel
theorem dX11_widest_69 : decode cX11_widest 69 = .ok (.getfield 7, 3) := by decide +kernel
theorem dX11_widest_72 : decode cX11_widest 72 = .ok (.iload_n 2, 1) := by decide +kernel
theorem dX11_widest_73 : decode cX11_widest 73 = .ok (.iaload, 1) := by decide +kernel
theorem dX11_widest_74 : decode cX11_widest 74 = .ok (.aload_n 0, 1) := by decide +kernel
theorem dX11_widest_75 : decode cX11_widest 75 = .ok (.getfield 7, 3) := by decide +kernel
theorem dX11_widest_78 : decode cX11_widest 78 = .ok (.iload_n 3, 1) := by decide +kernel
theorem dX11_widest_79 : decode cX11_widest 79 = .ok (.iaload, 1) := by decide +kernel
theorem dX11_widest_80 : decode cX11_widest 80 = .ok (.isub, 1) := by decide +kernel
theorem dX11_widest_81 : decode cX11_widest 81 = .ok (.i2l, 1) := by decide +kernel
theorem dX11_widest_82 : decode cX11_widest 82 = .ok (.lstore 4, 2) := by decide +kernel
theorem dX11_widest_84 : decode cX11_widest 84 = .ok (.aload_n 0, 1) := by decide +kernel
theorem dX11_widest_85 : decode cX11_widest 85 = .ok (.getfield 13, 3) := by decide +kernel
theorem dX11_widest_88 : decode cX11_widest 88 = .ok (.iload_n 2, 1) := by decide +kernel
theorem dX11_widest_89 : decode cX11_widest 89 = .ok (.iaload, 1) := by decide +kernel
theorem dX11_widest_90 : decode cX11_widest 90 = .ok (.aload_n 0, 1) := by decide +kernel
theorem dX11_widest_91 : decode cX11_widest 91 = .ok (.getfield 13, 3) := by decide +kernel
theorem dX11_widest_94 : decode cX11_widest 94 = .ok (.iload_n 3, 1) := by decide +kernel
theorem dX11_widest_95 : decode cX11_widest 95 = .ok (.iaload, 1) := by decide +kernel
theorem dX11_widest_96 : decode cX11_widest 96 = .ok (.isub, 1) := by decide +kernel
theorem dX11_widest_97 : decode cX11_widest 97 = .ok (.i2l, 1) := by decide +kernel
theorem dX11_widest_98 : decode cX11_widest 98 = .ok (.lstore 6, 2) := by decide +kernel
theorem dX11_widest_100 : decode cX11_widest 100 = .ok (.aload_n 0, 1) := by decide +kernel
theorem dX11_widest_101 : decode cX11_widest 101 = .ok (.lload 4, 2) := by decide +kernel
theorem dX11_widest_103 : decode cX11_widest 103 = .ok (.lload 6, 2) := by decide +kernel
theorem dX11_widest_105 : decode cX11_widest 105 = .ok (.invokevirtual 273, 3) := by decide +kernel
theorem dX11_widest_108 : decode cX11_widest 108 = .ok (.aload_n 0, 1) := by decide +kernel
theorem dX11_widest_109 : decode cX11_widest 109 = .ok (.lload 6, 2) := by decide +kernel
theorem dX11_widest_111 : decode cX11_widest 111 = .ok (.lload 4, 2) := by decide +kernel
theorem dX11_widest_113 : decode cX11_widest 113 = .ok (.lneg, 1) := by decide +kernel
theorem dX11_widest_114 : decode cX11_widest 114 = .ok (.invokevirtual 273, 3) := by decide +kernel
theorem dX11_widest_117 : decode cX11_widest 117 = .ok (.iinc 3 1, 3) := by decide +kernel
theorem dX11_widest_120 : decode cX11_widest 120 = .ok (.goto (-84), 3) := by decide +kernel
theorem dX11_widest_123 : decode cX11_widest 123 = .ok (.iinc 2 1, 3) := by decide +kernel
theorem dX11_widest_126 : decode cX11_widest 126 = .ok (.goto (-100), 3) := by decide +kernel
theorem dX11_widest_129 : decode cX11_widest 129 = .ok (.aload_n 0, 1) := by decide +kernel
theorem dX11_widest_130 : decode cX11_widest 130 = .ok (.getfield 270, 3) := by decide +kernel
theorem dX11_widest_133 : decode cX11_widest 133 = .ok (.lconst 0, 1) := by decide +kernel
theorem dX11_widest_134 : decode cX11_widest 134 = .ok (.lcmp, 1) := by decide +kernel
theorem dX11_widest_135 : decode cX11_widest 135 = .ok (.ifCond .ne 7, 3) := by decide +kernel
theorem dX11_widest_138 : decode cX11_widest 138 = .ok (.ldc2_w 256, 3) := by decide +kernel
theorem dX11_widest_141 : decode cX11_widest 141 = .ok (.lreturn, 1) := by decide +kernel
theorem dX11_widest_142 : decode cX11_widest 142 = .ok (.aload_n 0, 1) := by decide +kernel
theorem dX11_widest_143 : decode cX11_widest 143 = .ok (.getfield 270, 3) := by decide +kernel
theorem dX11_widest_146 : decode cX11_widest 146 = .ok (.aload_n 0, 1) := by decide +kernel
theorem dX11_widest_147 : decode cX11_widest 147 = .ok (.getfield 267, 3) := by decide +kernel
theorem dX11_widest_150 : decode cX11_widest 150 = .ok (.invokestatic 181, 3) := by decide +kernel
theorem dX11_widest_153 : decode cX11_widest 153 = .ok (.lstore_n 2, 1) := by decide +kernel
theorem dX11_widest_154 : decode cX11_widest 154 = .ok (.iload_n 1, 1) := by decide +kernel
theorem dX11_widest_155 : decode cX11_widest 155 = .ok (.ifCond .ne 12, 3) := by decide +kernel
theorem dX11_widest_158 : decode cX11_widest 158 = .ok (.aload_n 0, 1) := by decide +kernel
theorem dX11_widest_159 : decode cX11_widest 159 = .ok (.getfield 270, 3) := by decide +kernel
theorem dX11_widest_162 : decode cX11_widest 162 = .ok (.lload_n 2, 1) := by decide +kernel
theorem dX11_widest_163 : decode cX11_widest 163 = .ok (.ldiv, 1) := by decide +kernel
theorem dX11_widest_164 : decode cX11_widest 164 = .ok (.goto 9, 3) := by decide +kernel
theorem dX11_widest_167 : decode cX11_widest 167 = .ok (.aload_n 0, 1) := by decide +kernel
theorem dX11_widest_168 : decode cX11_widest 168 = .ok (.getfield 267, 3) := by decide +kernel
theorem dX11_widest_171 : decode cX11_widest 171 = .ok (.lload_n 2, 1) := by decide +kernel
theorem dX11_widest_172 : decode cX11_widest 172 = .ok (.ldiv, 1) := by decide +kernel
theorem dX11_widest_173 : decode cX11_widest 173 = .ok (.lreturn, 1) := by decide +kernel
theorem dX11_count_0 : decode cX11_count 0 = .ok (.iconst 0, 1) := by decide +kernel
theorem dX11_count_1 : decode cX11_count 1 = .ok (.istore_n 2, 1) := by decide +kernel
theorem dX11_count_2 : decode cX11_count 2 = .ok (.iload_n 1, 1) := by decide +kernel
theorem dX11_count_3 : decode cX11_count 3 = .ok (.tableswitch 131 0 6 #[41, 46, 51, 84, 89, 89, 89], 41) := by decide +kernel
theorem dX11_count_44 : decode cX11_count 44 = .ok (.aload_n 0, 1) := by decide +kernel
theorem dX11_count_45 : decode cX11_count 45 = .ok (.invokevirtual 134, 3) := by decide +kernel
theorem dX11_count_48 : decode cX11_count 48 = .ok (.ireturn, 1) := by decide +kernel
theorem dX11_count_49 : decode cX11_count 49 = .ok (.aload_n 0, 1) := by decide +kernel
theorem dX11_count_50 : decode cX11_count 50 = .ok (.getfield 101, 3) := by decide +kernel
theorem dX11_count_53 : decode cX11_count 53 = .ok (.ireturn, 1) := by decide +kernel
theorem dX11_count_54 : decode cX11_count 54 = .ok (.iconst 0, 1) := by decide +kernel
theorem dX11_count_55 : decode cX11_count 55 = .ok (.istore_n 3, 1) := by decide +kernel
theorem dX11_count_56 : decode cX11_count 56 = .ok (.iload_n 3, 1) := by decide +kernel
theorem dX11_count_57 : decode cX11_count 57 = .ok (.bipush 8, 2) := by decide +kernel
theorem dX11_count_59 : decode cX11_count 59 = .ok (.if_icmp .ge 26, 3) := by decide +kernel
theorem dX11_count_62 : decode cX11_count 62 = .ok (.iload_n 2, 1) := by decide +kernel
theorem dX11_count_63 : decode cX11_count 63 = .ok (.aload_n 0, 1) := by decide +kernel
theorem dX11_count_64 : decode cX11_count 64 = .ok (.getfield 31, 3) := by decide +kernel
theorem dX11_count_67 : decode cX11_count 67 = .ok (.iload_n 3, 1) := by decide +kernel
theorem dX11_count_68 : decode cX11_count 68 = .ok (.iaload, 1) := by decide +kernel
theorem dX11_count_69 : decode cX11_count 69 = .ok (.ifCond .le 7, 3) := by decide +kernel
theorem dX11_count_72 : decode cX11_count 72 = .ok (.iconst 1, 1) := by decide +kernel
theorem dX11_count_73 : decode cX11_count 73 = .ok (.goto 4, 3) := by decide +kernel
theorem dX11_count_76 : decode cX11_count 76 = .ok (.iconst 0, 1) := by decide +kernel
theorem dX11_count_77 : decode cX11_count 77 = .ok (.iadd, 1) := by decide +kernel
theorem dX11_count_78 : decode cX11_count 78 = .ok (.istore_n 2, 1) := by decide +kernel
theorem dX11_count_79 : decode cX11_count 79 = .ok (.iinc 3 1, 3) := by decide +kernel
theorem dX11_count_82 : decode cX11_count 82 = .ok (.goto (-26), 3) := by decide +kernel
theorem dX11_count_85 : decode cX11_count 85 = .ok (.iload_n 2, 1) := by decide +kernel
theorem dX11_count_86 : decode cX11_count 86 = .ok (.ireturn, 1) := by decide +kernel
theorem dX11_count_87 : decode cX11_count 87 = .ok (.aload_n 0, 1) := by decide +kernel
theorem dX11_count_88 : decode cX11_count 88 = .ok (.invokevirtual 140, 3) := by decide +kernel
theorem dX11_count_91 : decode cX11_count 91 = .ok (.ireturn, 1) := by decide +kernel
theorem dX11_count_92 : decode cX11_count 92 = .ok (.iconst 0, 1) := by decide +kernel
theorem dX11_count_93 : decode cX11_count 93 = .ok (.istore_n 3, 1) := by decide +kernel
theorem dX11_count_94 : decode cX11_count 94 = .ok (.iload_n 3, 1) := by decide +kernel
theorem dX11_count_95 : decode cX11_count 95 = .ok (.aload_n 0, 1) := by decide +kernel
theorem dX11_count_96 : decode cX11_count 96 = .ok (.getfield 101, 3) := by decide +kernel
theorem dX11_count_99 : decode cX11_count 99 = .ok (.if_icmp .ge 33, 3) := by decide +kernel
theorem dX11_count_102 : decode cX11_count 102 = .ok (.iload_n 2, 1) := by decide +kernel
theorem dX11_count_103 : decode cX11_count 103 = .ok (.aload_n 0, 1) := by decide +kernel
theorem dX11_count_104 : decode cX11_count 104 = .ok (.getfield 22, 3) := by decide +kernel
theorem dX11_count_107 : decode cX11_count 107 = .ok (.iload_n 3, 1) := by decide +kernel
theorem dX11_count_108 : decode cX11_count 108 = .ok (.baload, 1) := by decide +kernel
theorem dX11_count_109 : decode cX11_count 109 = .ok (.ifCond .eq 7, 3) := by decide +kernel
theorem dX11_count_112 : decode cX11_count 112 = .ok (.iconst 0, 1) := by decide +kernel
theorem dX11_count_113 : decode cX11_count 113 = .ok (.goto 11, 3) := by decide +kernel
theorem dX11_count_116 : decode cX11_count 116 = .ok (.aload_n 0, 1) := by decide +kernel
theorem dX11_count_117 : decode cX11_count 117 = .ok (.iload_n 3, 1) := by decide +kernel
theorem dX11_count_118 : decode cX11_count 118 = .ok (.iload_n 1, 1) := by decide +kernel
theorem dX11_count_119 : decode cX11_count 119 = .ok (.iconst 4, 1) := by decide +kernel
theorem dX11_count_120 : decode cX11_count 120 = .ok (.isub, 1) := by decide +kernel
theorem dX11_count_121 : decode cX11_count 121 = .ok (.invokevirtual 172, 3) := by decide +kernel
theorem dX11_count_124 : decode cX11_count 124 = .ok (.iadd, 1) := by decide +kernel
theorem dX11_count_125 : decode cX11_count 125 = .ok (.istore_n 2, 1) := by decide +kernel
theorem dX11_count_126 : decode cX11_count 126 = .ok (.iinc 3 1, 3) := by decide +kernel
theorem dX11_count_129 : decode cX11_count 129 = .ok (.goto (-35), 3) := by decide +kernel
theorem dX11_count_132 : decode cX11_count 132 = .ok (.iload_n 2, 1) := by decide +kernel
theorem dX11_count_133 : decode cX11_count 133 = .ok (.ireturn, 1) := by decide +kernel
theorem dX11_count_134 : decode cX11_count 134 = .ok (.ldc 91, 2) := by decide +kernel
theorem dX11_count_136 : decode cX11_count 136 = .ok (.ireturn, 1) := by decide +kernel
theorem dX11_status_0 : decode cX11_status 0 = .ok (.aload_n 0, 1) := by decide +kernel
theorem dX11_status_1 : decode cX11_status 1 = .ok (.getfield 75, 3) := by decide +kernel
theorem dX11_status_4 : decode cX11_status 4 = .ok (.ireturn, 1) := by decide +kernel
theorem dL_law_0 : decode cL_law 0 = .ok (.new 7, 3) := by decide +kernel
theorem dL_law_3 : decode cL_law 3 = .ok (.dup, 1) := by decide +kernel
theorem dL_law_4 : decode cL_law 4 = .ok (.invokespecial 9, 3) := by decide +kernel
theorem dL_law_7 : decode cL_law 7 = .ok (.astore_n 1, 1) := by decide +kernel
