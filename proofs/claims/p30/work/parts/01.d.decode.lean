theorem dJ6_bitCount_0f7a4_0 : decode cJ6_bitCount_0f7a4 0 = .ok (.iload_n 0, 1) := by decide +kernel
theorem dJ6_bitCount_0f7a4_1 : decode cJ6_bitCount_0f7a4 1 = .ok (.iload_n 0, 1) := by decide +kernel
theorem dJ6_bitCount_0f7a4_2 : decode cJ6_bitCount_0f7a4 2 = .ok (.iconst 1, 1) := by decide +kernel
theorem dJ6_bitCount_0f7a4_3 : decode cJ6_bitCount_0f7a4 3 = .ok (.iushr, 1) := by decide +kernel
theorem dJ6_bitCount_0f7a4_4 : decode cJ6_bitCount_0f7a4 4 = .ok (.ldc_w 265, 3) := by decide +kernel
theorem dJ6_bitCount_0f7a4_7 : decode cJ6_bitCount_0f7a4 7 = .ok (.iand, 1) := by decide +kernel
theorem dJ6_bitCount_0f7a4_8 : decode cJ6_bitCount_0f7a4 8 = .ok (.isub, 1) := by decide +kernel
theorem dJ6_bitCount_0f7a4_9 : decode cJ6_bitCount_0f7a4 9 = .ok (.istore_n 0, 1) := by decide +kernel
theorem dJ6_bitCount_0f7a4_10 : decode cJ6_bitCount_0f7a4 10 = .ok (.iload_n 0, 1) := by decide +kernel
theorem dJ6_bitCount_0f7a4_11 : decode cJ6_bitCount_0f7a4 11 = .ok (.ldc_w 266, 3) := by decide +kernel
theorem dJ6_bitCount_0f7a4_14 : decode cJ6_bitCount_0f7a4 14 = .ok (.iand, 1) := by decide +kernel
theorem dJ6_bitCount_0f7a4_15 : decode cJ6_bitCount_0f7a4 15 = .ok (.iload_n 0, 1) := by decide +kernel
theorem dJ6_bitCount_0f7a4_16 : decode cJ6_bitCount_0f7a4 16 = .ok (.iconst 2, 1) := by decide +kernel
theorem dJ6_bitCount_0f7a4_17 : decode cJ6_bitCount_0f7a4 17 = .ok (.iushr, 1) := by decide +kernel
theorem dJ6_bitCount_0f7a4_18 : decode cJ6_bitCount_0f7a4 18 = .ok (.ldc_w 266, 3) := by decide +kernel
theorem dJ6_bitCount_0f7a4_21 : decode cJ6_bitCount_0f7a4 21 = .ok (.iand, 1) := by decide +kernel
theorem dJ6_bitCount_0f7a4_22 : decode cJ6_bitCount_0f7a4 22 = .ok (.iadd, 1) := by decide +kernel
theorem dJ6_bitCount_0f7a4_23 : decode cJ6_bitCount_0f7a4 23 = .ok (.istore_n 0, 1) := by decide +kernel
theorem dJ6_bitCount_0f7a4_24 : decode cJ6_bitCount_0f7a4 24 = .ok (.iload_n 0, 1) := by decide +kernel
theorem dJ6_bitCount_0f7a4_25 : decode cJ6_bitCount_0f7a4 25 = .ok (.iload_n 0, 1) := by decide +kernel
theorem dJ6_bitCount_0f7a4_26 : decode cJ6_bitCount_0f7a4 26 = .ok (.iconst 4, 1) := by decide +kernel
theorem dJ6_bitCount_0f7a4_27 : decode cJ6_bitCount_0f7a4 27 = .ok (.iushr, 1) := by decide +kernel
theorem dJ6_bitCount_0f7a4_28 : decode cJ6_bitCount_0f7a4 28 = .ok (.iadd, 1) := by decide +kernel
theorem dJ6_bitCount_0f7a4_29 : decode cJ6_bitCount_0f7a4 29 = .ok (.ldc_w 267, 3) := by decide +kernel
theorem dJ6_bitCount_0f7a4_32 : decode cJ6_bitCount_0f7a4 32 = .ok (.iand, 1) := by decide +kernel
theorem dJ6_bitCount_0f7a4_33 : decode cJ6_bitCount_0f7a4 33 = .ok (.istore_n 0, 1) := by decide +kernel
theorem dJ6_bitCount_0f7a4_34 : decode cJ6_bitCount_0f7a4 34 = .ok (.iload_n 0, 1) := by decide +kernel
theorem dJ6_bitCount_0f7a4_35 : decode cJ6_bitCount_0f7a4 35 = .ok (.iload_n 0, 1) := by decide +kernel
theorem dJ6_bitCount_0f7a4_36 : decode cJ6_bitCount_0f7a4 36 = .ok (.bipush 8, 2) := by decide +kernel
theorem dJ6_bitCount_0f7a4_38 : decode cJ6_bitCount_0f7a4 38 = .ok (.iushr, 1) := by decide +kernel
theorem dJ6_bitCount_0f7a4_39 : decode cJ6_bitCount_0f7a4 39 = .ok (.iadd, 1) := by decide +kernel
theorem dJ6_bitCount_0f7a4_40 : decode cJ6_bitCount_0f7a4 40 = .ok (.istore_n 0, 1) := by decide +kernel
theorem dJ6_bitCount_0f7a4_41 : decode cJ6_bitCount_0f7a4 41 = .ok (.iload_n 0, 1) := by decide +kernel
theorem dJ6_bitCount_0f7a4_42 : decode cJ6_bitCount_0f7a4 42 = .ok (.iload_n 0, 1) := by decide +kernel
theorem dJ6_bitCount_0f7a4_43 : decode cJ6_bitCount_0f7a4 43 = .ok (.bipush 16, 2) := by decide +kernel
theorem dJ6_bitCount_0f7a4_45 : decode cJ6_bitCount_0f7a4 45 = .ok (.iushr, 1) := by decide +kernel
theorem dJ6_bitCount_0f7a4_46 : decode cJ6_bitCount_0f7a4 46 = .ok (.iadd, 1) := by decide +kernel
theorem dJ6_bitCount_0f7a4_47 : decode cJ6_bitCount_0f7a4 47 = .ok (.istore_n 0, 1) := by decide +kernel
theorem dJ6_bitCount_0f7a4_48 : decode cJ6_bitCount_0f7a4 48 = .ok (.iload_n 0, 1) := by decide +kernel
theorem dJ6_bitCount_0f7a4_49 : decode cJ6_bitCount_0f7a4 49 = .ok (.bipush 63, 2) := by decide +kernel
theorem dJ6_bitCount_0f7a4_51 : decode cJ6_bitCount_0f7a4 51 = .ok (.iand, 1) := by decide +kernel
theorem dJ6_bitCount_0f7a4_52 : decode cJ6_bitCount_0f7a4 52 = .ok (.ireturn, 1) := by decide +kernel
theorem dL_cell_0 : decode cL_cell 0 = .ok (.iload_n 1, 1) := by decide +kernel
theorem dL_cell_1 : decode cL_cell 1 = .ok (.aload_n 0, 1) := by decide +kernel
theorem dL_cell_2 : decode cL_cell 2 = .ok (.arraylength, 1) := by decide +kernel
theorem dL_cell_3 : decode cL_cell 3 = .ok (.if_icmp .ge 9, 3) := by decide +kernel
theorem dL_cell_6 : decode cL_cell 6 = .ok (.aload_n 0, 1) := by decide +kernel
theorem dL_cell_7 : decode cL_cell 7 = .ok (.iload_n 1, 1) := by decide +kernel
theorem dL_cell_8 : decode cL_cell 8 = .ok (.iaload, 1) := by decide +kernel
theorem dL_cell_9 : decode cL_cell 9 = .ok (.goto 10, 3) := by decide +kernel
theorem dL_cell_12 : decode cL_cell 12 = .ok (.ldc 7, 2) := by decide +kernel
theorem dL_cell_14 : decode cL_cell 14 = .ok (.iload_n 1, 1) := by decide +kernel
theorem dL_cell_15 : decode cL_cell 15 = .ok (.imul, 1) := by decide +kernel
theorem dL_cell_16 : decode cL_cell 16 = .ok (.ldc 8, 2) := by decide +kernel
theorem dL_cell_18 : decode cL_cell 18 = .ok (.iadd, 1) := by decide +kernel
theorem dL_cell_19 : decode cL_cell 19 = .ok (.ireturn, 1) := by decide +kernel
theorem dL_low_0 : decode cL_low 0 = .ok (.iload_n 0, 1) := by decide +kernel
theorem dL_low_1 : decode cL_low 1 = .ok (.ldc 9, 2) := by decide +kernel
theorem dL_low_3 : decode cL_low 3 = .ok (.iand, 1) := by decide +kernel
theorem dL_low_4 : decode cL_low 4 = .ok (.iload_n 1, 1) := by decide +kernel
theorem dL_low_5 : decode cL_low 5 = .ok (.irem, 1) := by decide +kernel
theorem dL_low_6 : decode cL_low 6 = .ok (.ireturn, 1) := by decide +kernel
theorem dL_build_0 : decode cL_build 0 = .ok (.iconst 1, 1) := by decide +kernel
theorem dL_build_1 : decode cL_build 1 = .ok (.istore_n 3, 1) := by decide +kernel
theorem dL_build_2 : decode cL_build 2 = .ok (.aload_n 1, 1) := by decide +kernel
theorem dL_build_3 : decode cL_build 3 = .ok (.iconst 1, 1) := by decide +kernel
theorem dL_build_4 : decode cL_build 4 = .ok (.invokestatic 10, 3) := by decide +kernel
theorem dL_build_7 : decode cL_build 7 = .ok (.istore 4, 2) := by decide +kernel
theorem dL_build_9 : decode cL_build 9 = .ok (.iconst 0, 1) := by decide +kernel
theorem dL_build_10 : decode cL_build 10 = .ok (.istore 5, 2) := by decide +kernel
theorem dL_build_12 : decode cL_build 12 = .ok (.iload 5, 2) := by decide +kernel
theorem dL_build_14 : decode cL_build 14 = .ok (.iload_n 2, 1) := by decide +kernel
theorem dL_build_15 : decode cL_build 15 = .ok (.if_icmp .ge 105, 3) := by decide +kernel
theorem dL_build_18 : decode cL_build 18 = .ok (.iload_n 3, 1) := by decide +kernel
theorem dL_build_19 : decode cL_build 19 = .ok (.ifCond .eq 101, 3) := by decide +kernel
theorem dL_build_22 : decode cL_build 22 = .ok (.aload_n 0, 1) := by decide +kernel
theorem dL_build_23 : decode cL_build 23 = .ok (.iload 4, 2) := by decide +kernel
theorem dL_build_25 : decode cL_build 25 = .ok (.iconst 3, 1) := by decide +kernel
theorem dL_build_26 : decode cL_build 26 = .ok (.iload 5, 2) := by decide +kernel
theorem dL_build_28 : decode cL_build 28 = .ok (.imul, 1) := by decide +kernel
theorem dL_build_29 : decode cL_build 29 = .ok (.ishr, 1) := by decide +kernel
theorem dL_build_30 : decode cL_build 30 = .ok (.iconst 5, 1) := by decide +kernel
theorem dL_build_31 : decode cL_build 31 = .ok (.invokestatic 16, 3) := by decide +kernel
theorem dL_build_34 : decode cL_build 34 = .ok (.ifCond .le 7, 3) := by decide +kernel
theorem dL_build_37 : decode cL_build 37 = .ok (.iconst 1, 1) := by decide +kernel
theorem dL_build_38 : decode cL_build 38 = .ok (.goto 4, 3) := by decide +kernel
theorem dL_build_41 : decode cL_build 41 = .ok (.iconst 0, 1) := by decide +kernel
theorem dL_build_42 : decode cL_build 42 = .ok (.invokevirtual 20, 3) := by decide +kernel
theorem dL_build_45 : decode cL_build 45 = .ok (.iload 5, 2) := by decide +kernel
theorem dL_build_47 : decode cL_build 47 = .ok (.if_icmp .ne 7, 3) := by decide +kernel
theorem dL_build_50 : decode cL_build 50 = .ok (.iconst 1, 1) := by decide +kernel
theorem dL_build_51 : decode cL_build 51 = .ok (.goto 4, 3) := by decide +kernel
theorem dL_build_54 : decode cL_build 54 = .ok (.iconst 0, 1) := by decide +kernel
theorem dL_build_55 : decode cL_build 55 = .ok (.istore_n 3, 1) := by decide +kernel
theorem dL_build_56 : decode cL_build 56 = .ok (.iload 4, 2) := by decide +kernel
theorem dL_build_58 : decode cL_build 58 = .ok (.iconst 3, 1) := by decide +kernel
theorem dL_build_59 : decode cL_build 59 = .ok (.iload 5, 2) := by decide +kernel
theorem dL_build_61 : decode cL_build 61 = .ok (.imul, 1) := by decide +kernel
theorem dL_build_62 : decode cL_build 62 = .ok (.iconst 1, 1) := by decide +kernel
theorem dL_build_63 : decode cL_build 63 = .ok (.iadd, 1) := by decide +kernel
theorem dL_build_64 : decode cL_build 64 = .ok (.ishr, 1) := by decide +kernel
theorem dL_build_65 : decode cL_build 65 = .ok (.bipush 6, 2) := by decide +kernel
theorem dL_build_67 : decode cL_build 67 = .ok (.invokestatic 16, 3) := by decide +kernel
theorem dL_build_70 : decode cL_build 70 = .ok (.ifCond .ne 44, 3) := by decide +kernel
theorem dL_build_73 : decode cL_build 73 = .ok (.aload_n 0, 1) := by decide +kernel
theorem dL_build_74 : decode cL_build 74 = .ok (.iload 5, 2) := by decide +kernel
theorem dL_build_76 : decode cL_build 76 = .ok (.iconst 0, 1) := by decide +kernel
theorem dL_build_77 : decode cL_build 77 = .ok (.invokevirtual 26, 3) := by decide +kernel
theorem dL_build_80 : decode cL_build 80 = .ok (.iconst 1, 1) := by decide +kernel
theorem dL_build_81 : decode cL_build 81 = .ok (.if_icmp .ne 33, 3) := by decide +kernel
theorem dL_build_84 : decode cL_build 84 = .ok (.iload_n 3, 1) := by decide +kernel
theorem dL_build_85 : decode cL_build 85 = .ok (.ifCond .eq 27, 3) := by decide +kernel
theorem dL_build_88 : decode cL_build 88 = .ok (.aload_n 0, 1) := by decide +kernel
theorem dL_build_89 : decode cL_build 89 = .ok (.iload 5, 2) := by decide +kernel
theorem dL_build_91 : decode cL_build 91 = .ok (.iconst 0, 1) := by decide +kernel
theorem dL_build_92 : decode cL_build 92 = .ok (.invokevirtual 29, 3) := by decide +kernel
theorem dL_build_95 : decode cL_build 95 = .ok (.ifCond .ne 17, 3) := by decide +kernel
theorem dL_build_98 : decode cL_build 98 = .ok (.aload_n 0, 1) := by decide +kernel
theorem dL_build_99 : decode cL_build 99 = .ok (.iload 5, 2) := by decide +kernel
theorem dL_build_101 : decode cL_build 101 = .ok (.iconst 1, 1) := by decide +kernel
theorem dL_build_102 : decode cL_build 102 = .ok (.invokevirtual 26, 3) := by decide +kernel
theorem dL_build_105 : decode cL_build 105 = .ok (.ifCond .ne 7, 3) := by decide +kernel
theorem dL_build_108 : decode cL_build 108 = .ok (.iconst 1, 1) := by decide +kernel
theorem dL_build_109 : decode cL_build 109 = .ok (.goto 4, 3) := by decide +kernel
theorem dL_build_112 : decode cL_build 112 = .ok (.iconst 0, 1) := by decide +kernel
theorem dL_build_113 : decode cL_build 113 = .ok (.istore_n 3, 1) := by decide +kernel
theorem dL_build_114 : decode cL_build 114 = .ok (.iinc 5 1, 3) := by decide +kernel
theorem dL_build_117 : decode cL_build 117 = .ok (.goto (-105), 3) := by decide +kernel
theorem dL_build_120 : decode cL_build 120 = .ok (.iconst 3, 1) := by decide +kernel
theorem dL_build_121 : decode cL_build 121 = .ok (.aload_n 1, 1) := by decide +kernel
theorem dL_build_122 : decode cL_build 122 = .ok (.iconst 2, 1) := by decide +kernel
theorem dL_build_123 : decode cL_build 123 = .ok (.invokestatic 10, 3) := by decide +kernel
theorem dL_build_126 : decode cL_build 126 = .ok (.bipush 9, 2) := by decide +kernel
theorem dL_build_128 : decode cL_build 128 = .ok (.invokestatic 16, 3) := by decide +kernel
theorem dL_build_131 : decode cL_build 131 = .ok (.iadd, 1) := by decide +kernel
theorem dL_build_132 : decode cL_build 132 = .ok (.istore 5, 2) := by decide +kernel
theorem dL_build_134 : decode cL_build 134 = .ok (.iconst 0, 1) := by decide +kernel
theorem dL_build_135 : decode cL_build 135 = .ok (.istore 6, 2) := by decide +kernel
theorem dL_build_137 : decode cL_build 137 = .ok (.iload 6, 2) := by decide +kernel
theorem dL_build_139 : decode cL_build 139 = .ok (.iload 5, 2) := by decide +kernel
theorem dL_build_141 : decode cL_build 141 = .ok (.if_icmp .ge 149, 3) := by decide +kernel
theorem dL_build_144 : decode cL_build 144 = .ok (.iload_n 3, 1) := by decide +kernel
theorem dL_build_145 : decode cL_build 145 = .ok (.ifCond .eq 145, 3) := by decide +kernel
theorem dL_build_148 : decode cL_build 148 = .ok (.aload_n 1, 1) := by decide +kernel
theorem dL_build_149 : decode cL_build 149 = .ok (.iconst 4, 1) := by decide +kernel
theorem dL_build_150 : decode cL_build 150 = .ok (.iload 6, 2) := by decide +kernel
theorem dL_build_152 : decode cL_build 152 = .ok (.iadd, 1) := by decide +kernel
theorem dL_build_153 : decode cL_build 153 = .ok (.invokestatic 10, 3) := by decide +kernel
theorem dL_build_156 : decode cL_build 156 = .ok (.istore 7, 2) := by decide +kernel
theorem dL_build_158 : decode cL_build 158 = .ok (.iload 7, 2) := by decide +kernel
theorem dL_build_160 : decode cL_build 160 = .ok (.iload_n 2, 1) := by decide +kernel
theorem dL_build_161 : decode cL_build 161 = .ok (.invokestatic 16, 3) := by decide +kernel
theorem dL_build_164 : decode cL_build 164 = .ok (.istore 8, 2) := by decide +kernel
theorem dL_build_166 : decode cL_build 166 = .ok (.iload 7, 2) := by decide +kernel
theorem dL_build_168 : decode cL_build 168 = .ok (.iconst 4, 1) := by decide +kernel
theorem dL_build_169 : decode cL_build 169 = .ok (.ishr, 1) := by decide +kernel
theorem dL_build_170 : decode cL_build 170 = .ok (.iload_n 2, 1) := by decide +kernel
theorem dL_build_171 : decode cL_build 171 = .ok (.invokestatic 16, 3) := by decide +kernel
theorem dL_build_174 : decode cL_build 174 = .ok (.istore 9, 2) := by decide +kernel
theorem dL_build_176 : decode cL_build 176 = .ok (.iload 7, 2) := by decide +kernel
theorem dL_build_178 : decode cL_build 178 = .ok (.bipush 8, 2) := by decide +kernel
theorem dL_build_180 : decode cL_build 180 = .ok (.ishr, 1) := by decide +kernel
theorem dL_build_181 : decode cL_build 181 = .ok (.iconst 3, 1) := by decide +kernel
theorem dL_build_182 : decode cL_build 182 = .ok (.invokestatic 16, 3) := by decide +kernel
theorem dL_build_185 : decode cL_build 185 = .ok (.ifCond .le 15, 3) := by decide +kernel
theorem dL_build_188 : decode cL_build 188 = .ok (.iload 7, 2) := by decide +kernel
theorem dL_build_190 : decode cL_build 190 = .ok (.bipush 11, 2) := by decide +kernel
theorem dL_build_192 : decode cL_build 192 = .ok (.ishr, 1) := by decide +kernel
theorem dL_build_193 : decode cL_build 193 = .ok (.iconst 2, 1) := by decide +kernel
theorem dL_build_194 : decode cL_build 194 = .ok (.invokestatic 16, 3) := by decide +kernel
theorem dL_build_197 : decode cL_build 197 = .ok (.goto 12, 3) := by decide +kernel
theorem dL_build_200 : decode cL_build 200 = .ok (.iload 7, 2) := by decide +kernel
theorem dL_build_202 : decode cL_build 202 = .ok (.bipush 11, 2) := by decide +kernel
theorem dL_build_204 : decode cL_build 204 = .ok (.ishr, 1) := by decide +kernel
theorem dL_build_205 : decode cL_build 205 = .ok (.iconst 4, 1) := by decide +kernel
theorem dL_build_206 : decode cL_build 206 = .ok (.invokestatic 16, 3) := by decide +kernel
theorem dL_build_209 : decode cL_build 209 = .ok (.istore 10, 2) := by decide +kernel
theorem dL_build_211 : decode cL_build 211 = .ok (.iload 8, 2) := by decide +kernel
theorem dL_build_213 : decode cL_build 213 = .ok (.iload 9, 2) := by decide +kernel
theorem dL_build_215 : decode cL_build 215 = .ok (.if_icmp .eq 69, 3) := by decide +kernel
theorem dL_build_218 : decode cL_build 218 = .ok (.aload_n 0, 1) := by decide +kernel
theorem dL_build_219 : decode cL_build 219 = .ok (.iload 8, 2) := by decide +kernel
theorem dL_build_221 : decode cL_build 221 = .ok (.iload 9, 2) := by decide +kernel
theorem dL_build_223 : decode cL_build 223 = .ok (.iconst 0, 1) := by decide +kernel
theorem dL_build_224 : decode cL_build 224 = .ok (.invokevirtual 33, 3) := by decide +kernel
theorem dL_build_227 : decode cL_build 227 = .ok (.istore 11, 2) := by decide +kernel
theorem dL_build_229 : decode cL_build 229 = .ok (.aload_n 0, 1) := by decide +kernel
theorem dL_build_230 : decode cL_build 230 = .ok (.iload 8, 2) := by decide +kernel
theorem dL_build_232 : decode cL_build 232 = .ok (.iload 10, 2) := by decide +kernel
theorem dL_build_234 : decode cL_build 234 = .ok (.iload 9, 2) := by decide +kernel
theorem dL_build_236 : decode cL_build 236 = .ok (.iconst 1, 1) := by decide +kernel
theorem dL_build_237 : decode cL_build 237 = .ok (.invokevirtual 37, 3) := by decide +kernel
theorem dL_build_240 : decode cL_build 240 = .ok (.iload 11, 2) := by decide +kernel
theorem dL_build_242 : decode cL_build 242 = .ok (.iload 10, 2) := by decide +kernel
theorem dL_build_244 : decode cL_build 244 = .ok (.ishr, 1) := by decide +kernel
theorem dL_build_245 : decode cL_build 245 = .ok (.iconst 1, 1) := by decide +kernel
theorem dL_build_246 : decode cL_build 246 = .ok (.iand, 1) := by decide +kernel
theorem dL_build_247 : decode cL_build 247 = .ok (.iconst 1, 1) := by decide +kernel
theorem dL_build_248 : decode cL_build 248 = .ok (.if_icmp .ne 7, 3) := by decide +kernel
theorem dL_build_251 : decode cL_build 251 = .ok (.iconst 1, 1) := by decide +kernel
theorem dL_build_252 : decode cL_build 252 = .ok (.goto 4, 3) := by decide +kernel
theorem dL_build_255 : decode cL_build 255 = .ok (.iconst 0, 1) := by decide +kernel
theorem dL_build_256 : decode cL_build 256 = .ok (.if_icmp .ne 26, 3) := by decide +kernel
theorem dL_build_259 : decode cL_build 259 = .ok (.aload_n 0, 1) := by decide +kernel
theorem dL_build_260 : decode cL_build 260 = .ok (.iload 8, 2) := by decide +kernel
theorem dL_build_262 : decode cL_build 262 = .ok (.iload 9, 2) := by decide +kernel
theorem dL_build_264 : decode cL_build 264 = .ok (.iconst 0, 1) := by decide +kernel
theorem dL_build_265 : decode cL_build 265 = .ok (.invokevirtual 33, 3) := by decide +kernel
theorem dL_build_268 : decode cL_build 268 = .ok (.iload 11, 2) := by decide +kernel
theorem dL_build_270 : decode cL_build 270 = .ok (.iconst 1, 1) := by decide +kernel
theorem dL_build_271 : decode cL_build 271 = .ok (.iload 10, 2) := by decide +kernel
theorem dL_build_273 : decode cL_build 273 = .ok (.ishl, 1) := by decide +kernel
theorem dL_build_274 : decode cL_build 274 = .ok (.ior, 1) := by decide +kernel
theorem dL_build_275 : decode cL_build 275 = .ok (.if_icmp .ne 7, 3) := by decide +kernel
theorem dL_build_278 : decode cL_build 278 = .ok (.iconst 1, 1) := by decide +kernel
theorem dL_build_279 : decode cL_build 279 = .ok (.goto 4, 3) := by decide +kernel
theorem dL_build_282 : decode cL_build 282 = .ok (.iconst 0, 1) := by decide +kernel
theorem dL_build_283 : decode cL_build 283 = .ok (.istore_n 3, 1) := by decide +kernel
theorem dL_build_284 : decode cL_build 284 = .ok (.iinc 6 1, 3) := by decide +kernel
theorem dL_build_287 : decode cL_build 287 = .ok (.goto (-150), 3) := by decide +kernel
theorem dL_build_290 : decode cL_build 290 = .ok (.iload_n 3, 1) := by decide +kernel
theorem dL_build_291 : decode cL_build 291 = .ok (.ireturn, 1) := by decide +kernel
theorem dL_ends_0 : decode cL_ends 0 = .ok (.aload_n 0, 1) := by decide +kernel
theorem dL_ends_1 : decode cL_ends 1 = .ok (.iload_n 1, 1) := by decide +kernel
theorem dL_ends_2 : decode cL_ends 2 = .ok (.iload_n 3, 1) := by decide +kernel
theorem dL_ends_3 : decode cL_ends 3 = .ok (.iconst 1, 1) := by decide +kernel
theorem dL_ends_4 : decode cL_ends 4 = .ok (.invokevirtual 33, 3) := by decide +kernel
theorem dL_ends_7 : decode cL_ends 7 = .ok (.iload_n 2, 1) := by decide +kernel
theorem dL_ends_8 : decode cL_ends 8 = .ok (.ishr, 1) := by decide +kernel
theorem dL_ends_9 : decode cL_ends 9 = .ok (.iconst 1, 1) := by decide +kernel
theorem dL_ends_10 : decode cL_ends 10 = .ok (.iand, 1) := by decide +kernel
theorem dL_ends_11 : decode cL_ends 11 = .ok (.iconst 1, 1) := by decide +kernel
theorem dL_ends_12 : decode cL_ends 12 = .ok (.if_icmp .ne 7, 3) := by decide +kernel
theorem dL_ends_15 : decode cL_ends 15 = .ok (.iconst 1, 1) := by decide +kernel
theorem dL_ends_16 : decode cL_ends 16 = .ok (.goto 4, 3) := by decide +kernel
theorem dL_ends_19 : decode cL_ends 19 = .ok (.iconst 0, 1) := by decide +kernel
theorem dL_ends_20 : decode cL_ends 20 = .ok (.ireturn, 1) := by decide +kernel
theorem dL_isClosed_0 : decode cL_isClosed 0 = .ok (.iconst 0, 1) := by decide +kernel
theorem dL_isClosed_1 : decode cL_isClosed 1 = .ok (.istore_n 2, 1) := by decide +kernel
theorem dL_isClosed_2 : decode cL_isClosed 2 = .ok (.iload_n 2, 1) := by decide +kernel
theorem dL_isClosed_3 : decode cL_isClosed 3 = .ok (.iload_n 1, 1) := by decide +kernel
theorem dL_isClosed_4 : decode cL_isClosed 4 = .ok (.if_icmp .ge 133, 3) := by decide +kernel
theorem dL_isClosed_7 : decode cL_isClosed 7 = .ok (.iconst 0, 1) := by decide +kernel
theorem dL_isClosed_8 : decode cL_isClosed 8 = .ok (.istore_n 3, 1) := by decide +kernel
theorem dL_isClosed_9 : decode cL_isClosed 9 = .ok (.iload_n 3, 1) := by decide +kernel
theorem dL_isClosed_10 : decode cL_isClosed 10 = .ok (.iload_n 1, 1) := by decide +kernel
theorem dL_isClosed_11 : decode cL_isClosed 11 = .ok (.if_icmp .ge 120, 3) := by decide +kernel
theorem dL_isClosed_14 : decode cL_isClosed 14 = .ok (.aload_n 0, 1) := by decide +kernel
theorem dL_isClosed_15 : decode cL_isClosed 15 = .ok (.iload_n 2, 1) := by decide +kernel
theorem dL_isClosed_16 : decode cL_isClosed 16 = .ok (.iconst 1, 1) := by decide +kernel
theorem dL_isClosed_17 : decode cL_isClosed 17 = .ok (.invokevirtual 26, 3) := by decide +kernel
theorem dL_isClosed_20 : decode cL_isClosed 20 = .ok (.iconst 1, 1) := by decide +kernel
theorem dL_isClosed_21 : decode cL_isClosed 21 = .ok (.if_icmp .ne 110, 3) := by decide +kernel
theorem dL_isClosed_24 : decode cL_isClosed 24 = .ok (.iconst 0, 1) := by decide +kernel
theorem dL_isClosed_25 : decode cL_isClosed 25 = .ok (.istore 4, 2) := by decide +kernel
theorem dL_isClosed_27 : decode cL_isClosed 27 = .ok (.iload 4, 2) := by decide +kernel
theorem dL_isClosed_29 : decode cL_isClosed 29 = .ok (.iload_n 1, 1) := by decide +kernel
theorem dL_isClosed_30 : decode cL_isClosed 30 = .ok (.if_icmp .ge 95, 3) := by decide +kernel
theorem dL_isClosed_33 : decode cL_isClosed 33 = .ok (.iload_n 3, 1) := by decide +kernel
theorem dL_isClosed_34 : decode cL_isClosed 34 = .ok (.iload_n 2, 1) := by decide +kernel
theorem dL_isClosed_35 : decode cL_isClosed 35 = .ok (.if_icmp .eq 90, 3) := by decide +kernel
theorem dL_isClosed_38 : decode cL_isClosed 38 = .ok (.iload 4, 2) := by decide +kernel
theorem dL_isClosed_40 : decode cL_isClosed 40 = .ok (.iload_n 2, 1) := by decide +kernel
theorem dL_isClosed_41 : decode cL_isClosed 41 = .ok (.if_icmp .eq 78, 3) := by decide +kernel
theorem dL_isClosed_44 : decode cL_isClosed 44 = .ok (.iload 4, 2) := by decide +kernel
theorem dL_isClosed_46 : decode cL_isClosed 46 = .ok (.iload_n 3, 1) := by decide +kernel
theorem dL_isClosed_47 : decode cL_isClosed 47 = .ok (.if_icmp .ne 6, 3) := by decide +kernel
theorem dL_isClosed_50 : decode cL_isClosed 50 = .ok (.goto 69, 3) := by decide +kernel
theorem dL_isClosed_53 : decode cL_isClosed 53 = .ok (.aload_n 0, 1) := by decide +kernel
theorem dL_isClosed_54 : decode cL_isClosed 54 = .ok (.iload_n 2, 1) := by decide +kernel
theorem dL_isClosed_55 : decode cL_isClosed 55 = .ok (.iconst 0, 1) := by decide +kernel
theorem dL_isClosed_56 : decode cL_isClosed 56 = .ok (.iload_n 3, 1) := by decide +kernel
theorem dL_isClosed_57 : decode cL_isClosed 57 = .ok (.invokestatic 41, 3) := by decide +kernel
theorem dL_isClosed_60 : decode cL_isClosed 60 = .ok (.ifCond .eq 25, 3) := by decide +kernel
theorem dL_isClosed_63 : decode cL_isClosed 63 = .ok (.aload_n 0, 1) := by decide +kernel
theorem dL_isClosed_64 : decode cL_isClosed 64 = .ok (.iload_n 3, 1) := by decide +kernel
theorem dL_isClosed_65 : decode cL_isClosed 65 = .ok (.iload 4, 2) := by decide +kernel
theorem dL_isClosed_67 : decode cL_isClosed 67 = .ok (.iconst 1, 1) := by decide +kernel
theorem dL_isClosed_68 : decode cL_isClosed 68 = .ok (.invokevirtual 33, 3) := by decide +kernel
theorem dL_isClosed_71 : decode cL_isClosed 71 = .ok (.aload_n 0, 1) := by decide +kernel
theorem dL_isClosed_72 : decode cL_isClosed 72 = .ok (.iload_n 2, 1) := by decide +kernel
theorem dL_isClosed_73 : decode cL_isClosed 73 = .ok (.iload 4, 2) := by decide +kernel
theorem dL_isClosed_75 : decode cL_isClosed 75 = .ok (.iconst 1, 1) := by decide +kernel
theorem dL_isClosed_76 : decode cL_isClosed 76 = .ok (.invokevirtual 33, 3) := by decide +kernel
theorem dL_isClosed_79 : decode cL_isClosed 79 = .ok (.iconst (-1), 1) := by decide +kernel
theorem dL_isClosed_80 : decode cL_isClosed 80 = .ok (.ixor, 1) := by decide +kernel
theorem dL_isClosed_81 : decode cL_isClosed 81 = .ok (.iand, 1) := by decide +kernel
theorem dL_isClosed_82 : decode cL_isClosed 82 = .ok (.ifCond .ne 35, 3) := by decide +kernel
theorem dL_isClosed_85 : decode cL_isClosed 85 = .ok (.aload_n 0, 1) := by decide +kernel
theorem dL_isClosed_86 : decode cL_isClosed 86 = .ok (.iload_n 2, 1) := by decide +kernel
theorem dL_isClosed_87 : decode cL_isClosed 87 = .ok (.iconst 1, 1) := by decide +kernel
theorem dL_isClosed_88 : decode cL_isClosed 88 = .ok (.iload_n 3, 1) := by decide +kernel
theorem dL_isClosed_89 : decode cL_isClosed 89 = .ok (.invokestatic 41, 3) := by decide +kernel
theorem dL_isClosed_92 : decode cL_isClosed 92 = .ok (.ifCond .eq 27, 3) := by decide +kernel
theorem dL_isClosed_95 : decode cL_isClosed 95 = .ok (.aload_n 0, 1) := by decide +kernel
theorem dL_isClosed_96 : decode cL_isClosed 96 = .ok (.iload_n 2, 1) := by decide +kernel
theorem dL_isClosed_97 : decode cL_isClosed 97 = .ok (.iload 4, 2) := by decide +kernel
theorem dL_isClosed_99 : decode cL_isClosed 99 = .ok (.iconst 1, 1) := by decide +kernel
theorem dL_isClosed_100 : decode cL_isClosed 100 = .ok (.invokevirtual 33, 3) := by decide +kernel
theorem dL_isClosed_103 : decode cL_isClosed 103 = .ok (.aload_n 0, 1) := by decide +kernel
theorem dL_isClosed_104 : decode cL_isClosed 104 = .ok (.iload_n 3, 1) := by decide +kernel
theorem dL_isClosed_105 : decode cL_isClosed 105 = .ok (.iload 4, 2) := by decide +kernel
theorem dL_isClosed_107 : decode cL_isClosed 107 = .ok (.iconst 1, 1) := by decide +kernel
theorem dL_isClosed_108 : decode cL_isClosed 108 = .ok (.invokevirtual 33, 3) := by decide +kernel
theorem dL_isClosed_111 : decode cL_isClosed 111 = .ok (.iconst (-1), 1) := by decide +kernel
theorem dL_isClosed_112 : decode cL_isClosed 112 = .ok (.ixor, 1) := by decide +kernel
theorem dL_isClosed_113 : decode cL_isClosed 113 = .ok (.iand, 1) := by decide +kernel
theorem dL_isClosed_114 : decode cL_isClosed 114 = .ok (.ifCond .eq 5, 3) := by decide +kernel
theorem dL_isClosed_117 : decode cL_isClosed 117 = .ok (.iconst 0, 1) := by decide +kernel
theorem dL_isClosed_118 : decode cL_isClosed 118 = .ok (.ireturn, 1) := by decide +kernel
theorem dL_isClosed_119 : decode cL_isClosed 119 = .ok (.iinc 4 1, 3) := by decide +kernel
theorem dL_isClosed_122 : decode cL_isClosed 122 = .ok (.goto (-95), 3) := by decide +kernel
theorem dL_isClosed_125 : decode cL_isClosed 125 = .ok (.iinc 3 1, 3) := by decide +kernel
theorem dL_isClosed_128 : decode cL_isClosed 128 = .ok (.goto (-119), 3) := by decide +kernel
theorem dL_isClosed_131 : decode cL_isClosed 131 = .ok (.iinc 2 1, 3) := by decide +kernel
theorem dL_isClosed_134 : decode cL_isClosed 134 = .ok (.goto (-132), 3) := by decide +kernel
theorem dL_isClosed_137 : decode cL_isClosed 137 = .ok (.iconst 1, 1) := by decide +kernel
theorem dL_isClosed_138 : decode cL_isClosed 138 = .ok (.ireturn, 1) := by decide +kernel
theorem dL_comes_0 : decode cL_comes 0 = .ok (.aload_n 0, 1) := by decide +kernel
theorem dL_comes_1 : decode cL_comes 1 = .ok (.iload_n 1, 1) := by decide +kernel
theorem dL_comes_2 : decode cL_comes 2 = .ok (.iload_n 2, 1) := by decide +kernel
theorem dL_comes_3 : decode cL_comes 3 = .ok (.iload_n 3, 1) := by decide +kernel
theorem dL_comes_4 : decode cL_comes 4 = .ok (.invokevirtual 45, 3) := by decide +kernel
theorem dL_comes_7 : decode cL_comes 7 = .ok (.istore 4, 2) := by decide +kernel
theorem dL_comes_9 : decode cL_comes 9 = .ok (.aload_n 0, 1) := by decide +kernel
theorem dL_comes_10 : decode cL_comes 10 = .ok (.iload_n 1, 1) := by decide +kernel
theorem dL_comes_11 : decode cL_comes 11 = .ok (.iload_n 2, 1) := by decide +kernel
theorem dL_comes_12 : decode cL_comes 12 = .ok (.iload_n 3, 1) := by decide +kernel
theorem dL_comes_13 : decode cL_comes 13 = .ok (.invokevirtual 49, 3) := by decide +kernel
theorem dL_comes_16 : decode cL_comes 16 = .ok (.istore 5, 2) := by decide +kernel
theorem dL_comes_18 : decode cL_comes 18 = .ok (.aload_n 0, 1) := by decide +kernel
theorem dL_comes_19 : decode cL_comes 19 = .ok (.iload_n 1, 1) := by decide +kernel
theorem dL_comes_20 : decode cL_comes 20 = .ok (.iload_n 2, 1) := by decide +kernel
theorem dL_comes_21 : decode cL_comes 21 = .ok (.iload_n 3, 1) := by decide +kernel
theorem dL_comes_22 : decode cL_comes 22 = .ok (.invokevirtual 52, 3) := by decide +kernel
theorem dL_comes_25 : decode cL_comes 25 = .ok (.istore 6, 2) := by decide +kernel
theorem dL_comes_27 : decode cL_comes 27 = .ok (.aload_n 0, 1) := by decide +kernel
theorem dL_comes_28 : decode cL_comes 28 = .ok (.iload_n 1, 1) := by decide +kernel
theorem dL_comes_29 : decode cL_comes 29 = .ok (.iload_n 2, 1) := by decide +kernel
theorem dL_comes_30 : decode cL_comes 30 = .ok (.iload_n 3, 1) := by decide +kernel
theorem dL_comes_31 : decode cL_comes 31 = .ok (.invokestatic 41, 3) := by decide +kernel
theorem dL_comes_34 : decode cL_comes 34 = .ok (.ifCond .ne 30, 3) := by decide +kernel
theorem dL_comes_37 : decode cL_comes 37 = .ok (.iload 4, 2) := by decide +kernel
theorem dL_comes_39 : decode cL_comes 39 = .ok (.bipush (-9), 2) := by decide +kernel
theorem dL_comes_41 : decode cL_comes 41 = .ok (.if_icmp .ne 21, 3) := by decide +kernel
theorem dL_comes_44 : decode cL_comes 44 = .ok (.iload 5, 2) := by decide +kernel
theorem dL_comes_46 : decode cL_comes 46 = .ok (.bipush (-9), 2) := by decide +kernel
theorem dL_comes_48 : decode cL_comes 48 = .ok (.if_icmp .ne 14, 3) := by decide +kernel
theorem dL_comes_51 : decode cL_comes 51 = .ok (.iload 6, 2) := by decide +kernel
theorem dL_comes_53 : decode cL_comes 53 = .ok (.bipush (-9), 2) := by decide +kernel
theorem dL_comes_55 : decode cL_comes 55 = .ok (.if_icmp .ne 7, 3) := by decide +kernel
theorem dL_comes_58 : decode cL_comes 58 = .ok (.iconst 1, 1) := by decide +kernel
theorem dL_comes_59 : decode cL_comes 59 = .ok (.goto 4, 3) := by decide +kernel
theorem dL_comes_62 : decode cL_comes 62 = .ok (.iconst 0, 1) := by decide +kernel
theorem dL_comes_63 : decode cL_comes 63 = .ok (.ireturn, 1) := by decide +kernel
theorem dL_comes_64 : decode cL_comes 64 = .ok (.aload_n 0, 1) := by decide +kernel
theorem dL_comes_65 : decode cL_comes 65 = .ok (.iload_n 1, 1) := by decide +kernel
theorem dL_comes_66 : decode cL_comes 66 = .ok (.iload_n 3, 1) := by decide +kernel
theorem dL_comes_67 : decode cL_comes 67 = .ok (.iconst 0, 1) := by decide +kernel
theorem dL_comes_68 : decode cL_comes 68 = .ok (.invokevirtual 33, 3) := by decide +kernel
theorem dL_comes_71 : decode cL_comes 71 = .ok (.iload_n 2, 1) := by decide +kernel
theorem dL_comes_72 : decode cL_comes 72 = .ok (.ishr, 1) := by decide +kernel
theorem dL_comes_73 : decode cL_comes 73 = .ok (.iconst 1, 1) := by decide +kernel
theorem dL_comes_74 : decode cL_comes 74 = .ok (.iand, 1) := by decide +kernel
theorem dL_comes_75 : decode cL_comes 75 = .ok (.iconst 1, 1) := by decide +kernel
theorem dL_comes_76 : decode cL_comes 76 = .ok (.if_icmp .ne 26, 3) := by decide +kernel
theorem dL_comes_79 : decode cL_comes 79 = .ok (.iload 4, 2) := by decide +kernel
theorem dL_comes_81 : decode cL_comes 81 = .ok (.ifCond .ne 19, 3) := by decide +kernel
theorem dL_comes_84 : decode cL_comes 84 = .ok (.iload 5, 2) := by decide +kernel
theorem dL_comes_86 : decode cL_comes 86 = .ok (.bipush (-9), 2) := by decide +kernel
theorem dL_comes_88 : decode cL_comes 88 = .ok (.if_icmp .ne 12, 3) := by decide +kernel
theorem dL_comes_91 : decode cL_comes 91 = .ok (.iload 6, 2) := by decide +kernel
theorem dL_comes_93 : decode cL_comes 93 = .ok (.ifCond .ne 7, 3) := by decide +kernel
theorem dL_comes_96 : decode cL_comes 96 = .ok (.iconst 1, 1) := by decide +kernel
theorem dL_comes_97 : decode cL_comes 97 = .ok (.goto 4, 3) := by decide +kernel
theorem dL_comes_100 : decode cL_comes 100 = .ok (.iconst 0, 1) := by decide +kernel
theorem dL_comes_101 : decode cL_comes 101 = .ok (.ireturn, 1) := by decide +kernel
theorem dL_comes_102 : decode cL_comes 102 = .ok (.iload 5, 2) := by decide +kernel
theorem dL_comes_104 : decode cL_comes 104 = .ok (.bipush 10, 2) := by decide +kernel
theorem dL_comes_106 : decode cL_comes 106 = .ok (.idiv, 1) := by decide +kernel
theorem dL_comes_107 : decode cL_comes 107 = .ok (.bipush 10, 2) := by decide +kernel
theorem dL_comes_109 : decode cL_comes 109 = .ok (.irem, 1) := by decide +kernel
theorem dL_comes_110 : decode cL_comes 110 = .ok (.istore 7, 2) := by decide +kernel
theorem dL_comes_112 : decode cL_comes 112 = .ok (.iload 5, 2) := by decide +kernel
theorem dL_comes_114 : decode cL_comes 114 = .ok (.bipush 10, 2) := by decide +kernel
theorem dL_comes_116 : decode cL_comes 116 = .ok (.irem, 1) := by decide +kernel
theorem dL_comes_117 : decode cL_comes 117 = .ok (.istore 8, 2) := by decide +kernel
theorem dL_comes_119 : decode cL_comes 119 = .ok (.iload 5, 2) := by decide +kernel
theorem dL_comes_121 : decode cL_comes 121 = .ok (.bipush 100, 2) := by decide +kernel
theorem dL_comes_123 : decode cL_comes 123 = .ok (.if_icmp .lt 7, 3) := by decide +kernel
theorem dL_comes_126 : decode cL_comes 126 = .ok (.iconst 1, 1) := by decide +kernel
theorem dL_comes_127 : decode cL_comes 127 = .ok (.goto 4, 3) := by decide +kernel
theorem dL_comes_130 : decode cL_comes 130 = .ok (.iconst 0, 1) := by decide +kernel
theorem dL_comes_131 : decode cL_comes 131 = .ok (.istore 9, 2) := by decide +kernel
theorem dL_comes_133 : decode cL_comes 133 = .ok (.iload 4, 2) := by decide +kernel
theorem dL_comes_135 : decode cL_comes 135 = .ok (.iconst 1, 1) := by decide +kernel
theorem dL_comes_136 : decode cL_comes 136 = .ok (.if_icmp .lt 54, 3) := by decide +kernel
theorem dL_comes_139 : decode cL_comes 139 = .ok (.iload 5, 2) := by decide +kernel
theorem dL_comes_141 : decode cL_comes 141 = .ok (.ifCond .lt 49, 3) := by decide +kernel
theorem dL_comes_144 : decode cL_comes 144 = .ok (.iload 9, 2) := by decide +kernel
theorem dL_comes_146 : decode cL_comes 146 = .ok (.ifCond .eq 8, 3) := by decide +kernel
theorem dL_comes_149 : decode cL_comes 149 = .ok (.iload 8, 2) := by decide +kernel
theorem dL_comes_151 : decode cL_comes 151 = .ok (.goto 5, 3) := by decide +kernel
theorem dL_comes_154 : decode cL_comes 154 = .ok (.iload 7, 2) := by decide +kernel
theorem dL_comes_156 : decode cL_comes 156 = .ok (.iload_n 1, 1) := by decide +kernel
theorem dL_comes_157 : decode cL_comes 157 = .ok (.if_icmp .ne 33, 3) := by decide +kernel
theorem dL_comes_160 : decode cL_comes 160 = .ok (.aload_n 0, 1) := by decide +kernel
theorem dL_comes_161 : decode cL_comes 161 = .ok (.iload 7, 2) := by decide +kernel
theorem dL_comes_163 : decode cL_comes 163 = .ok (.iconst 1, 1) := by decide +kernel
theorem dL_comes_164 : decode cL_comes 164 = .ok (.invokevirtual 26, 3) := by decide +kernel
theorem dL_comes_167 : decode cL_comes 167 = .ok (.iconst 1, 1) := by decide +kernel
theorem dL_comes_168 : decode cL_comes 168 = .ok (.if_icmp .ne 22, 3) := by decide +kernel
theorem dL_comes_171 : decode cL_comes 171 = .ok (.iload 7, 2) := by decide +kernel
theorem dL_comes_173 : decode cL_comes 173 = .ok (.iload 8, 2) := by decide +kernel
theorem dL_comes_175 : decode cL_comes 175 = .ok (.if_icmp .eq 15, 3) := by decide +kernel
theorem dL_comes_178 : decode cL_comes 178 = .ok (.iload 7, 2) := by decide +kernel
theorem dL_comes_180 : decode cL_comes 180 = .ok (.iload_n 3, 1) := by decide +kernel
theorem dL_comes_181 : decode cL_comes 181 = .ok (.if_icmp .eq 9, 3) := by decide +kernel
theorem dL_comes_184 : decode cL_comes 184 = .ok (.iload 8, 2) := by decide +kernel
theorem dL_comes_186 : decode cL_comes 186 = .ok (.iload_n 3, 1) := by decide +kernel
theorem dL_comes_187 : decode cL_comes 187 = .ok (.if_icmp .ne 5, 3) := by decide +kernel
theorem dL_comes_190 : decode cL_comes 190 = .ok (.iconst 0, 1) := by decide +kernel
theorem dL_comes_191 : decode cL_comes 191 = .ok (.ireturn, 1) := by decide +kernel
theorem dL_comes_192 : decode cL_comes 192 = .ok (.aload_n 0, 1) := by decide +kernel
theorem dL_comes_193 : decode cL_comes 193 = .ok (.iload 7, 2) := by decide +kernel
theorem dL_comes_195 : decode cL_comes 195 = .ok (.iload 9, 2) := by decide +kernel
theorem dL_comes_197 : decode cL_comes 197 = .ok (.ifCond .eq 7, 3) := by decide +kernel
theorem dL_comes_200 : decode cL_comes 200 = .ok (.iconst 1, 1) := by decide +kernel
theorem dL_comes_201 : decode cL_comes 201 = .ok (.goto 4, 3) := by decide +kernel
theorem dL_comes_204 : decode cL_comes 204 = .ok (.iconst 0, 1) := by decide +kernel
theorem dL_comes_205 : decode cL_comes 205 = .ok (.iload 8, 2) := by decide +kernel
theorem dL_comes_207 : decode cL_comes 207 = .ok (.invokevirtual 45, 3) := by decide +kernel
theorem dL_comes_210 : decode cL_comes 210 = .ok (.istore 10, 2) := by decide +kernel
theorem dL_comes_212 : decode cL_comes 212 = .ok (.aload_n 0, 1) := by decide +kernel
theorem dL_comes_213 : decode cL_comes 213 = .ok (.iload 9, 2) := by decide +kernel
theorem dL_comes_215 : decode cL_comes 215 = .ok (.ifCond .eq 8, 3) := by decide +kernel
theorem dL_comes_218 : decode cL_comes 218 = .ok (.iload 7, 2) := by decide +kernel
theorem dL_comes_220 : decode cL_comes 220 = .ok (.goto 5, 3) := by decide +kernel
theorem dL_comes_223 : decode cL_comes 223 = .ok (.iload 8, 2) := by decide +kernel
theorem dL_comes_225 : decode cL_comes 225 = .ok (.iload_n 2, 1) := by decide +kernel
theorem dL_comes_226 : decode cL_comes 226 = .ok (.iload_n 3, 1) := by decide +kernel
theorem dL_comes_227 : decode cL_comes 227 = .ok (.invokevirtual 45, 3) := by decide +kernel
theorem dL_comes_230 : decode cL_comes 230 = .ok (.istore 11, 2) := by decide +kernel
theorem dL_comes_232 : decode cL_comes 232 = .ok (.iload 10, 2) := by decide +kernel
theorem dL_comes_234 : decode cL_comes 234 = .ok (.iload 11, 2) := by decide +kernel
theorem dL_comes_236 : decode cL_comes 236 = .ok (.if_icmp .le 8, 3) := by decide +kernel
theorem dL_comes_239 : decode cL_comes 239 = .ok (.iload 10, 2) := by decide +kernel
theorem dL_comes_241 : decode cL_comes 241 = .ok (.goto 5, 3) := by decide +kernel
theorem dL_comes_244 : decode cL_comes 244 = .ok (.iload 11, 2) := by decide +kernel
theorem dL_comes_246 : decode cL_comes 246 = .ok (.istore 12, 2) := by decide +kernel
theorem dL_comes_248 : decode cL_comes 248 = .ok (.aload_n 0, 1) := by decide +kernel
theorem dL_comes_249 : decode cL_comes 249 = .ok (.iload 7, 2) := by decide +kernel
theorem dL_comes_251 : decode cL_comes 251 = .ok (.iload 9, 2) := by decide +kernel
theorem dL_comes_253 : decode cL_comes 253 = .ok (.ifCond .eq 7, 3) := by decide +kernel
theorem dL_comes_256 : decode cL_comes 256 = .ok (.iconst 1, 1) := by decide +kernel
theorem dL_comes_257 : decode cL_comes 257 = .ok (.goto 4, 3) := by decide +kernel
theorem dL_comes_260 : decode cL_comes 260 = .ok (.iconst 0, 1) := by decide +kernel
theorem dL_comes_261 : decode cL_comes 261 = .ok (.iload 8, 2) := by decide +kernel
theorem dL_comes_263 : decode cL_comes 263 = .ok (.invokevirtual 52, 3) := by decide +kernel
theorem dL_comes_266 : decode cL_comes 266 = .ok (.aload_n 0, 1) := by decide +kernel
theorem dL_comes_267 : decode cL_comes 267 = .ok (.iload 9, 2) := by decide +kernel
theorem dL_comes_269 : decode cL_comes 269 = .ok (.ifCond .eq 8, 3) := by decide +kernel
theorem dL_comes_272 : decode cL_comes 272 = .ok (.iload 7, 2) := by decide +kernel
theorem dL_comes_274 : decode cL_comes 274 = .ok (.goto 5, 3) := by decide +kernel
theorem dL_comes_277 : decode cL_comes 277 = .ok (.iload 8, 2) := by decide +kernel
theorem dL_comes_279 : decode cL_comes 279 = .ok (.iload_n 2, 1) := by decide +kernel
theorem dL_comes_280 : decode cL_comes 280 = .ok (.iload_n 3, 1) := by decide +kernel
theorem dL_comes_281 : decode cL_comes 281 = .ok (.invokevirtual 52, 3) := by decide +kernel
theorem dL_comes_284 : decode cL_comes 284 = .ok (.iadd, 1) := by decide +kernel
theorem dL_comes_285 : decode cL_comes 285 = .ok (.istore 13, 2) := by decide +kernel
theorem dL_comes_287 : decode cL_comes 287 = .ok (.iload 10, 2) := by decide +kernel
theorem dL_comes_289 : decode cL_comes 289 = .ok (.ifCond .lt 42, 3) := by decide +kernel
theorem dL_comes_292 : decode cL_comes 292 = .ok (.iload 11, 2) := by decide +kernel
theorem dL_comes_294 : decode cL_comes 294 = .ok (.ifCond .lt 37, 3) := by decide +kernel
theorem dL_comes_297 : decode cL_comes 297 = .ok (.iload 12, 2) := by decide +kernel
theorem dL_comes_299 : decode cL_comes 299 = .ok (.iload 4, 2) := by decide +kernel
theorem dL_comes_301 : decode cL_comes 301 = .ok (.iconst 1, 1) := by decide +kernel
theorem dL_comes_302 : decode cL_comes 302 = .ok (.isub, 1) := by decide +kernel
theorem dL_comes_303 : decode cL_comes 303 = .ok (.if_icmp .ne 28, 3) := by decide +kernel
theorem dL_comes_306 : decode cL_comes 306 = .ok (.iload 6, 2) := by decide +kernel
theorem dL_comes_308 : decode cL_comes 308 = .ok (.ifCond .le 23, 3) := by decide +kernel
theorem dL_comes_311 : decode cL_comes 311 = .ok (.iload 6, 2) := by decide +kernel
theorem dL_comes_313 : decode cL_comes 313 = .ok (.iload 13, 2) := by decide +kernel
theorem dL_comes_315 : decode cL_comes 315 = .ok (.iconst 1, 1) := by decide +kernel
theorem dL_comes_316 : decode cL_comes 316 = .ok (.iadd, 1) := by decide +kernel
theorem dL_comes_317 : decode cL_comes 317 = .ok (.if_icmp .gt 14, 3) := by decide +kernel
theorem dL_comes_320 : decode cL_comes 320 = .ok (.iload 6, 2) := by decide +kernel
theorem dL_comes_322 : decode cL_comes 322 = .ok (.iload 4, 2) := by decide +kernel
theorem dL_comes_324 : decode cL_comes 324 = .ok (.if_icmp .lt 7, 3) := by decide +kernel
theorem dL_comes_327 : decode cL_comes 327 = .ok (.iconst 1, 1) := by decide +kernel
theorem dL_comes_328 : decode cL_comes 328 = .ok (.goto 4, 3) := by decide +kernel
theorem dL_comes_331 : decode cL_comes 331 = .ok (.iconst 0, 1) := by decide +kernel
theorem dL_comes_332 : decode cL_comes 332 = .ok (.ireturn, 1) := by decide +kernel
theorem dL_spread_0 : decode cL_spread 0 = .ok (.iconst 0, 1) := by decide +kernel
theorem dL_spread_1 : decode cL_spread 1 = .ok (.istore_n 2, 1) := by decide +kernel
theorem dL_spread_2 : decode cL_spread 2 = .ok (.iconst 0, 1) := by decide +kernel
theorem dL_spread_3 : decode cL_spread 3 = .ok (.istore_n 3, 1) := by decide +kernel
theorem dL_spread_4 : decode cL_spread 4 = .ok (.iconst 0, 1) := by decide +kernel
theorem dL_spread_5 : decode cL_spread 5 = .ok (.istore 4, 2) := by decide +kernel
theorem dL_spread_7 : decode cL_spread 7 = .ok (.iconst 0, 1) := by decide +kernel
theorem dL_spread_8 : decode cL_spread 8 = .ok (.istore 5, 2) := by decide +kernel
theorem dL_spread_10 : decode cL_spread 10 = .ok (.iload 5, 2) := by decide +kernel
theorem dL_spread_12 : decode cL_spread 12 = .ok (.iload_n 1, 1) := by decide +kernel
theorem dL_spread_13 : decode cL_spread 13 = .ok (.if_icmp .ge 208, 3) := by decide +kernel
theorem dL_spread_16 : decode cL_spread 16 = .ok (.iconst 0, 1) := by decide +kernel
theorem dL_spread_17 : decode cL_spread 17 = .ok (.istore 6, 2) := by decide +kernel
theorem dL_spread_19 : decode cL_spread 19 = .ok (.iconst 0, 1) := by decide +kernel
theorem dL_spread_20 : decode cL_spread 20 = .ok (.istore 7, 2) := by decide +kernel
theorem dL_spread_22 : decode cL_spread 22 = .ok (.iconst 0, 1) := by decide +kernel
theorem dL_spread_23 : decode cL_spread 23 = .ok (.istore 8, 2) := by decide +kernel
theorem dL_spread_25 : decode cL_spread 25 = .ok (.iconst 0, 1) := by decide +kernel
theorem dL_spread_26 : decode cL_spread 26 = .ok (.istore 9, 2) := by decide +kernel
theorem dL_spread_28 : decode cL_spread 28 = .ok (.iload 9, 2) := by decide +kernel
theorem dL_spread_30 : decode cL_spread 30 = .ok (.iload_n 1, 1) := by decide +kernel
theorem dL_spread_31 : decode cL_spread 31 = .ok (.if_icmp .ge 135, 3) := by decide +kernel
theorem dL_spread_34 : decode cL_spread 34 = .ok (.iconst 0, 1) := by decide +kernel
theorem dL_spread_35 : decode cL_spread 35 = .ok (.istore 10, 2) := by decide +kernel
theorem dL_spread_37 : decode cL_spread 37 = .ok (.iload 10, 2) := by decide +kernel
theorem dL_spread_39 : decode cL_spread 39 = .ok (.iconst 4, 1) := by decide +kernel
theorem dL_spread_40 : decode cL_spread 40 = .ok (.if_icmp .ge 120, 3) := by decide +kernel
theorem dL_spread_43 : decode cL_spread 43 = .ok (.iload 5, 2) := by decide +kernel
theorem dL_spread_45 : decode cL_spread 45 = .ok (.iload 9, 2) := by decide +kernel
theorem dL_spread_47 : decode cL_spread 47 = .ok (.if_icmp .eq 113, 3) := by decide +kernel
theorem dL_spread_50 : decode cL_spread 50 = .ok (.aload_n 0, 1) := by decide +kernel
theorem dL_spread_51 : decode cL_spread 51 = .ok (.iload 5, 2) := by decide +kernel
theorem dL_spread_53 : decode cL_spread 53 = .ok (.iload 10, 2) := by decide +kernel
theorem dL_spread_55 : decode cL_spread 55 = .ok (.iload 9, 2) := by decide +kernel
theorem dL_spread_57 : decode cL_spread 57 = .ok (.invokestatic 55, 3) := by decide +kernel
theorem dL_spread_60 : decode cL_spread 60 = .ok (.ifCond .ne 5, 3) := by decide +kernel
theorem dL_spread_63 : decode cL_spread 63 = .ok (.iconst 0, 1) := by decide +kernel
theorem dL_spread_64 : decode cL_spread 64 = .ok (.ireturn, 1) := by decide +kernel
theorem dL_spread_65 : decode cL_spread 65 = .ok (.iload 6, 2) := by decide +kernel
theorem dL_spread_67 : decode cL_spread 67 = .ok (.aload_n 0, 1) := by decide +kernel
theorem dL_spread_68 : decode cL_spread 68 = .ok (.iload 5, 2) := by decide +kernel
theorem dL_spread_70 : decode cL_spread 70 = .ok (.iload 9, 2) := by decide +kernel
theorem dL_spread_72 : decode cL_spread 72 = .ok (.iconst 0, 1) := by decide +kernel
theorem dL_spread_73 : decode cL_spread 73 = .ok (.invokevirtual 33, 3) := by decide +kernel
theorem dL_spread_76 : decode cL_spread 76 = .ok (.iload 10, 2) := by decide +kernel
theorem dL_spread_78 : decode cL_spread 78 = .ok (.ishr, 1) := by decide +kernel
theorem dL_spread_79 : decode cL_spread 79 = .ok (.iconst 1, 1) := by decide +kernel
theorem dL_spread_80 : decode cL_spread 80 = .ok (.iand, 1) := by decide +kernel
theorem dL_spread_81 : decode cL_spread 81 = .ok (.iadd, 1) := by decide +kernel
theorem dL_spread_82 : decode cL_spread 82 = .ok (.istore 6, 2) := by decide +kernel
theorem dL_spread_84 : decode cL_spread 84 = .ok (.iload 7, 2) := by decide +kernel
theorem dL_spread_86 : decode cL_spread 86 = .ok (.aload_n 0, 1) := by decide +kernel
theorem dL_spread_87 : decode cL_spread 87 = .ok (.iload 9, 2) := by decide +kernel
theorem dL_spread_89 : decode cL_spread 89 = .ok (.iload 5, 2) := by decide +kernel
theorem dL_spread_91 : decode cL_spread 91 = .ok (.iconst 0, 1) := by decide +kernel
theorem dL_spread_92 : decode cL_spread 92 = .ok (.invokevirtual 33, 3) := by decide +kernel
theorem dL_spread_95 : decode cL_spread 95 = .ok (.iload 10, 2) := by decide +kernel
theorem dL_spread_97 : decode cL_spread 97 = .ok (.ishr, 1) := by decide +kernel
theorem dL_spread_98 : decode cL_spread 98 = .ok (.iconst 1, 1) := by decide +kernel
theorem dL_spread_99 : decode cL_spread 99 = .ok (.iand, 1) := by decide +kernel
theorem dL_spread_100 : decode cL_spread 100 = .ok (.iadd, 1) := by decide +kernel
theorem dL_spread_101 : decode cL_spread 101 = .ok (.istore 7, 2) := by decide +kernel
theorem dL_spread_103 : decode cL_spread 103 = .ok (.iload 8, 2) := by decide +kernel
theorem dL_spread_105 : decode cL_spread 105 = .ok (.aload_n 0, 1) := by decide +kernel
theorem dL_spread_106 : decode cL_spread 106 = .ok (.iload 5, 2) := by decide +kernel
theorem dL_spread_108 : decode cL_spread 108 = .ok (.iload 9, 2) := by decide +kernel
theorem dL_spread_110 : decode cL_spread 110 = .ok (.iconst 1, 1) := by decide +kernel
theorem dL_spread_111 : decode cL_spread 111 = .ok (.invokevirtual 33, 3) := by decide +kernel
theorem dL_spread_114 : decode cL_spread 114 = .ok (.iload 10, 2) := by decide +kernel
theorem dL_spread_116 : decode cL_spread 116 = .ok (.ishr, 1) := by decide +kernel
theorem dL_spread_117 : decode cL_spread 117 = .ok (.iconst 1, 1) := by decide +kernel
theorem dL_spread_118 : decode cL_spread 118 = .ok (.iand, 1) := by decide +kernel
theorem dL_spread_119 : decode cL_spread 119 = .ok (.iadd, 1) := by decide +kernel
theorem dL_spread_120 : decode cL_spread 120 = .ok (.istore 8, 2) := by decide +kernel
theorem dL_spread_122 : decode cL_spread 122 = .ok (.aload_n 0, 1) := by decide +kernel
theorem dL_spread_123 : decode cL_spread 123 = .ok (.iload 5, 2) := by decide +kernel
theorem dL_spread_125 : decode cL_spread 125 = .ok (.iload 10, 2) := by decide +kernel
theorem dL_spread_127 : decode cL_spread 127 = .ok (.iload 9, 2) := by decide +kernel
theorem dL_spread_129 : decode cL_spread 129 = .ok (.invokevirtual 45, 3) := by decide +kernel
theorem dL_spread_132 : decode cL_spread 132 = .ok (.iload 4, 2) := by decide +kernel
theorem dL_spread_134 : decode cL_spread 134 = .ok (.if_icmp .le 16, 3) := by decide +kernel
theorem dL_spread_137 : decode cL_spread 137 = .ok (.aload_n 0, 1) := by decide +kernel
theorem dL_spread_138 : decode cL_spread 138 = .ok (.iload 5, 2) := by decide +kernel
theorem dL_spread_140 : decode cL_spread 140 = .ok (.iload 10, 2) := by decide +kernel
theorem dL_spread_142 : decode cL_spread 142 = .ok (.iload 9, 2) := by decide +kernel
theorem dL_spread_144 : decode cL_spread 144 = .ok (.invokevirtual 45, 3) := by decide +kernel
theorem dL_spread_147 : decode cL_spread 147 = .ok (.goto 5, 3) := by decide +kernel
theorem dL_spread_150 : decode cL_spread 150 = .ok (.iload 4, 2) := by decide +kernel
theorem dL_spread_152 : decode cL_spread 152 = .ok (.istore 4, 2) := by decide +kernel
theorem dL_spread_154 : decode cL_spread 154 = .ok (.iinc 10 1, 3) := by decide +kernel
theorem dL_spread_157 : decode cL_spread 157 = .ok (.goto (-120), 3) := by decide +kernel
theorem dL_spread_160 : decode cL_spread 160 = .ok (.iinc 9 1, 3) := by decide +kernel
theorem dL_spread_163 : decode cL_spread 163 = .ok (.goto (-135), 3) := by decide +kernel
theorem dL_spread_166 : decode cL_spread 166 = .ok (.aload_n 0, 1) := by decide +kernel
theorem dL_spread_167 : decode cL_spread 167 = .ok (.iload 5, 2) := by decide +kernel
theorem dL_spread_169 : decode cL_spread 169 = .ok (.iconst 2, 1) := by decide +kernel
theorem dL_spread_170 : decode cL_spread 170 = .ok (.invokevirtual 26, 3) := by decide +kernel
theorem dL_spread_173 : decode cL_spread 173 = .ok (.iload 6, 2) := by decide +kernel
theorem dL_spread_175 : decode cL_spread 175 = .ok (.if_icmp .ne 28, 3) := by decide +kernel
theorem dL_spread_178 : decode cL_spread 178 = .ok (.aload_n 0, 1) := by decide +kernel
theorem dL_spread_179 : decode cL_spread 179 = .ok (.iload 5, 2) := by decide +kernel
theorem dL_spread_181 : decode cL_spread 181 = .ok (.iconst 3, 1) := by decide +kernel
theorem dL_spread_182 : decode cL_spread 182 = .ok (.invokevirtual 26, 3) := by decide +kernel
theorem dL_spread_185 : decode cL_spread 185 = .ok (.iload 7, 2) := by decide +kernel
theorem dL_spread_187 : decode cL_spread 187 = .ok (.if_icmp .ne 16, 3) := by decide +kernel
theorem dL_spread_190 : decode cL_spread 190 = .ok (.aload_n 0, 1) := by decide +kernel
theorem dL_spread_191 : decode cL_spread 191 = .ok (.iload 5, 2) := by decide +kernel
theorem dL_spread_193 : decode cL_spread 193 = .ok (.bipush 6, 2) := by decide +kernel
theorem dL_spread_195 : decode cL_spread 195 = .ok (.invokevirtual 26, 3) := by decide +kernel
theorem dL_spread_198 : decode cL_spread 198 = .ok (.iload 8, 2) := by decide +kernel
theorem dL_spread_200 : decode cL_spread 200 = .ok (.if_icmp .eq 5, 3) := by decide +kernel
theorem dL_spread_203 : decode cL_spread 203 = .ok (.iconst 0, 1) := by decide +kernel
theorem dL_spread_204 : decode cL_spread 204 = .ok (.ireturn, 1) := by decide +kernel
theorem dL_spread_205 : decode cL_spread 205 = .ok (.iload_n 2, 1) := by decide +kernel
theorem dL_spread_206 : decode cL_spread 206 = .ok (.iload 6, 2) := by decide +kernel
theorem dL_spread_208 : decode cL_spread 208 = .ok (.iadd, 1) := by decide +kernel
theorem dL_spread_209 : decode cL_spread 209 = .ok (.istore_n 2, 1) := by decide +kernel
theorem dL_spread_210 : decode cL_spread 210 = .ok (.iload_n 3, 1) := by decide +kernel
theorem dL_spread_211 : decode cL_spread 211 = .ok (.iload 8, 2) := by decide +kernel
theorem dL_spread_213 : decode cL_spread 213 = .ok (.iadd, 1) := by decide +kernel
theorem dL_spread_214 : decode cL_spread 214 = .ok (.istore_n 3, 1) := by decide +kernel
theorem dL_spread_215 : decode cL_spread 215 = .ok (.iinc 5 1, 3) := by decide +kernel
theorem dL_spread_218 : decode cL_spread 218 = .ok (.goto (-208), 3) := by decide +kernel
theorem dL_spread_221 : decode cL_spread 221 = .ok (.aload_n 0, 1) := by decide +kernel
theorem dL_spread_222 : decode cL_spread 222 = .ok (.iconst 3, 1) := by decide +kernel
theorem dL_spread_223 : decode cL_spread 223 = .ok (.invokevirtual 58, 3) := by decide +kernel
theorem dL_spread_226 : decode cL_spread 226 = .ok (.iload_n 2, 1) := by decide +kernel
theorem dL_spread_227 : decode cL_spread 227 = .ok (.if_icmp .ne 35, 3) := by decide +kernel
theorem dL_spread_230 : decode cL_spread 230 = .ok (.aload_n 0, 1) := by decide +kernel
theorem dL_spread_231 : decode cL_spread 231 = .ok (.iconst 4, 1) := by decide +kernel
theorem dL_spread_232 : decode cL_spread 232 = .ok (.invokevirtual 58, 3) := by decide +kernel
theorem dL_spread_235 : decode cL_spread 235 = .ok (.iload_n 3, 1) := by decide +kernel
theorem dL_spread_236 : decode cL_spread 236 = .ok (.if_icmp .ne 26, 3) := by decide +kernel
theorem dL_spread_239 : decode cL_spread 239 = .ok (.aload_n 0, 1) := by decide +kernel
theorem dL_spread_240 : decode cL_spread 240 = .ok (.iconst 5, 1) := by decide +kernel
theorem dL_spread_241 : decode cL_spread 241 = .ok (.invokevirtual 58, 3) := by decide +kernel
theorem dL_spread_244 : decode cL_spread 244 = .ok (.iload 4, 2) := by decide +kernel
theorem dL_spread_246 : decode cL_spread 246 = .ok (.if_icmp .ne 16, 3) := by decide +kernel
theorem dL_spread_249 : decode cL_spread 249 = .ok (.aload_n 0, 1) := by decide +kernel
theorem dL_spread_250 : decode cL_spread 250 = .ok (.iconst 0, 1) := by decide +kernel
theorem dL_spread_251 : decode cL_spread 251 = .ok (.invokevirtual 58, 3) := by decide +kernel
theorem dL_spread_254 : decode cL_spread 254 = .ok (.iload_n 1, 1) := by decide +kernel
theorem dL_spread_255 : decode cL_spread 255 = .ok (.if_icmp .ne 7, 3) := by decide +kernel
theorem dL_spread_258 : decode cL_spread 258 = .ok (.iconst 1, 1) := by decide +kernel
theorem dL_spread_259 : decode cL_spread 259 = .ok (.goto 4, 3) := by decide +kernel
theorem dL_spread_262 : decode cL_spread 262 = .ok (.iconst 0, 1) := by decide +kernel
theorem dL_spread_263 : decode cL_spread 263 = .ok (.ireturn, 1) := by decide +kernel
theorem dL_hears_0 : decode cL_hears 0 = .ok (.aload_n 0, 1) := by decide +kernel
theorem dL_hears_1 : decode cL_hears 1 = .ok (.iload_n 1, 1) := by decide +kernel
theorem dL_hears_2 : decode cL_hears 2 = .ok (.iconst 0, 1) := by decide +kernel
theorem dL_hears_3 : decode cL_hears 3 = .ok (.invokevirtual 26, 3) := by decide +kernel
theorem dL_hears_6 : decode cL_hears 6 = .ok (.iconst 1, 1) := by decide +kernel
theorem dL_hears_7 : decode cL_hears 7 = .ok (.if_icmp .ne 18, 3) := by decide +kernel
theorem dL_hears_10 : decode cL_hears 10 = .ok (.aload_n 0, 1) := by decide +kernel
theorem dL_hears_11 : decode cL_hears 11 = .ok (.iload_n 1, 1) := by decide +kernel
theorem dL_hears_12 : decode cL_hears 12 = .ok (.iload_n 2, 1) := by decide +kernel
theorem dL_hears_13 : decode cL_hears 13 = .ok (.iload_n 3, 1) := by decide +kernel
theorem dL_hears_14 : decode cL_hears 14 = .ok (.invokevirtual 33, 3) := by decide +kernel
theorem dL_hears_17 : decode cL_hears 17 = .ok (.iconst 2, 1) := by decide +kernel
theorem dL_hears_18 : decode cL_hears 18 = .ok (.ishr, 1) := by decide +kernel
theorem dL_hears_19 : decode cL_hears 19 = .ok (.iconst 1, 1) := by decide +kernel
theorem dL_hears_20 : decode cL_hears 20 = .ok (.iand, 1) := by decide +kernel
theorem dL_hears_21 : decode cL_hears 21 = .ok (.iconst 1, 1) := by decide +kernel
theorem dL_hears_22 : decode cL_hears 22 = .ok (.if_icmp .eq 28, 3) := by decide +kernel
theorem dL_hears_25 : decode cL_hears 25 = .ok (.aload_n 0, 1) := by decide +kernel
theorem dL_hears_26 : decode cL_hears 26 = .ok (.iload_n 2, 1) := by decide +kernel
theorem dL_hears_27 : decode cL_hears 27 = .ok (.iconst 0, 1) := by decide +kernel
theorem dL_hears_28 : decode cL_hears 28 = .ok (.invokevirtual 26, 3) := by decide +kernel
theorem dL_hears_31 : decode cL_hears 31 = .ok (.iconst 1, 1) := by decide +kernel
theorem dL_hears_32 : decode cL_hears 32 = .ok (.if_icmp .ne 22, 3) := by decide +kernel
theorem dL_hears_35 : decode cL_hears 35 = .ok (.aload_n 0, 1) := by decide +kernel
theorem dL_hears_36 : decode cL_hears 36 = .ok (.iload_n 2, 1) := by decide +kernel
theorem dL_hears_37 : decode cL_hears 37 = .ok (.iload_n 1, 1) := by decide +kernel
theorem dL_hears_38 : decode cL_hears 38 = .ok (.iload_n 3, 1) := by decide +kernel
theorem dL_hears_39 : decode cL_hears 39 = .ok (.invokevirtual 33, 3) := by decide +kernel
theorem dL_hears_42 : decode cL_hears 42 = .ok (.iconst 3, 1) := by decide +kernel
theorem dL_hears_43 : decode cL_hears 43 = .ok (.ishr, 1) := by decide +kernel
theorem dL_hears_44 : decode cL_hears 44 = .ok (.iconst 1, 1) := by decide +kernel
theorem dL_hears_45 : decode cL_hears 45 = .ok (.iand, 1) := by decide +kernel
theorem dL_hears_46 : decode cL_hears 46 = .ok (.iconst 1, 1) := by decide +kernel
theorem dL_hears_47 : decode cL_hears 47 = .ok (.if_icmp .ne 7, 3) := by decide +kernel
theorem dL_hears_50 : decode cL_hears 50 = .ok (.iconst 1, 1) := by decide +kernel
theorem dL_hears_51 : decode cL_hears 51 = .ok (.goto 4, 3) := by decide +kernel
theorem dL_hears_54 : decode cL_hears 54 = .ok (.iconst 0, 1) := by decide +kernel
theorem dL_hears_55 : decode cL_hears 55 = .ok (.ireturn, 1) := by decide +kernel
theorem dL_learning_0 : decode cL_learning 0 = .ok (.iconst 0, 1) := by decide +kernel
theorem dL_learning_1 : decode cL_learning 1 = .ok (.istore_n 3, 1) := by decide +kernel
theorem dL_learning_2 : decode cL_learning 2 = .ok (.iconst 0, 1) := by decide +kernel
theorem dL_learning_3 : decode cL_learning 3 = .ok (.istore 4, 2) := by decide +kernel
theorem dL_learning_5 : decode cL_learning 5 = .ok (.iload 4, 2) := by decide +kernel
theorem dL_learning_7 : decode cL_learning 7 = .ok (.iload_n 1, 1) := by decide +kernel
theorem dL_learning_8 : decode cL_learning 8 = .ok (.if_icmp .ge 161, 3) := by decide +kernel
theorem dL_learning_11 : decode cL_learning 11 = .ok (.iconst 1, 1) := by decide +kernel
theorem dL_learning_12 : decode cL_learning 12 = .ok (.iload 4, 2) := by decide +kernel
theorem dL_learning_14 : decode cL_learning 14 = .ok (.ishl, 1) := by decide +kernel
theorem dL_learning_15 : decode cL_learning 15 = .ok (.istore 5, 2) := by decide +kernel
theorem dL_learning_17 : decode cL_learning 17 = .ok (.iconst 0, 1) := by decide +kernel
theorem dL_learning_18 : decode cL_learning 18 = .ok (.istore 6, 2) := by decide +kernel
theorem dL_learning_20 : decode cL_learning 20 = .ok (.iload 6, 2) := by decide +kernel
theorem dL_learning_22 : decode cL_learning 22 = .ok (.iload_n 1, 1) := by decide +kernel
theorem dL_learning_23 : decode cL_learning 23 = .ok (.if_icmp .ge 82, 3) := by decide +kernel
theorem dL_learning_26 : decode cL_learning 26 = .ok (.iconst 0, 1) := by decide +kernel
theorem dL_learning_27 : decode cL_learning 27 = .ok (.istore 7, 2) := by decide +kernel
theorem dL_learning_29 : decode cL_learning 29 = .ok (.iload 7, 2) := by decide +kernel
theorem dL_learning_31 : decode cL_learning 31 = .ok (.iload_n 1, 1) := by decide +kernel
theorem dL_learning_32 : decode cL_learning 32 = .ok (.if_icmp .ge 67, 3) := by decide +kernel
theorem dL_learning_35 : decode cL_learning 35 = .ok (.iconst 0, 1) := by decide +kernel
theorem dL_learning_36 : decode cL_learning 36 = .ok (.istore 8, 2) := by decide +kernel
theorem dL_learning_38 : decode cL_learning 38 = .ok (.iload 8, 2) := by decide +kernel
theorem dL_learning_40 : decode cL_learning 40 = .ok (.iload_n 1, 1) := by decide +kernel
theorem dL_learning_41 : decode cL_learning 41 = .ok (.if_icmp .ge 52, 3) := by decide +kernel
theorem dL_learning_44 : decode cL_learning 44 = .ok (.iload 5, 2) := by decide +kernel
theorem dL_learning_46 : decode cL_learning 46 = .ok (.iload 7, 2) := by decide +kernel
theorem dL_learning_48 : decode cL_learning 48 = .ok (.ishr, 1) := by decide +kernel
theorem dL_learning_49 : decode cL_learning 49 = .ok (.iconst 1, 1) := by decide +kernel
theorem dL_learning_50 : decode cL_learning 50 = .ok (.iand, 1) := by decide +kernel
theorem dL_learning_51 : decode cL_learning 51 = .ok (.iconst 1, 1) := by decide +kernel
theorem dL_learning_52 : decode cL_learning 52 = .ok (.if_icmp .ne 41, 3) := by decide +kernel
theorem dL_learning_55 : decode cL_learning 55 = .ok (.iload 5, 2) := by decide +kernel
theorem dL_learning_57 : decode cL_learning 57 = .ok (.iload 8, 2) := by decide +kernel
theorem dL_learning_59 : decode cL_learning 59 = .ok (.iload 7, 2) := by decide +kernel
theorem dL_learning_61 : decode cL_learning 61 = .ok (.if_icmp .eq 22, 3) := by decide +kernel
theorem dL_learning_64 : decode cL_learning 64 = .ok (.aload_n 0, 1) := by decide +kernel
theorem dL_learning_65 : decode cL_learning 65 = .ok (.iload 7, 2) := by decide +kernel
theorem dL_learning_67 : decode cL_learning 67 = .ok (.iload 8, 2) := by decide +kernel
theorem dL_learning_69 : decode cL_learning 69 = .ok (.iload_n 2, 1) := by decide +kernel
theorem dL_learning_70 : decode cL_learning 70 = .ok (.invokestatic 62, 3) := by decide +kernel
theorem dL_learning_73 : decode cL_learning 73 = .ok (.ifCond .eq 10, 3) := by decide +kernel
theorem dL_learning_76 : decode cL_learning 76 = .ok (.iconst 1, 1) := by decide +kernel
theorem dL_learning_77 : decode cL_learning 77 = .ok (.iload 8, 2) := by decide +kernel
theorem dL_learning_79 : decode cL_learning 79 = .ok (.ishl, 1) := by decide +kernel
theorem dL_learning_80 : decode cL_learning 80 = .ok (.goto 4, 3) := by decide +kernel
theorem dL_learning_83 : decode cL_learning 83 = .ok (.iconst 0, 1) := by decide +kernel
theorem dL_learning_84 : decode cL_learning 84 = .ok (.ior, 1) := by decide +kernel
theorem dL_learning_85 : decode cL_learning 85 = .ok (.istore 5, 2) := by decide +kernel
theorem dL_learning_87 : decode cL_learning 87 = .ok (.iinc 8 1, 3) := by decide +kernel
theorem dL_learning_90 : decode cL_learning 90 = .ok (.goto (-52), 3) := by decide +kernel
theorem dL_learning_93 : decode cL_learning 93 = .ok (.iinc 7 1, 3) := by decide +kernel
theorem dL_learning_96 : decode cL_learning 96 = .ok (.goto (-67), 3) := by decide +kernel
theorem dL_learning_99 : decode cL_learning 99 = .ok (.iinc 6 1, 3) := by decide +kernel
theorem dL_learning_102 : decode cL_learning 102 = .ok (.goto (-82), 3) := by decide +kernel
theorem dL_learning_105 : decode cL_learning 105 = .ok (.iload 5, 2) := by decide +kernel
theorem dL_learning_107 : decode cL_learning 107 = .ok (.iconst 1, 1) := by decide +kernel
theorem dL_learning_108 : decode cL_learning 108 = .ok (.iload 4, 2) := by decide +kernel
theorem dL_learning_110 : decode cL_learning 110 = .ok (.ishl, 1) := by decide +kernel
theorem dL_learning_111 : decode cL_learning 111 = .ok (.iconst (-1), 1) := by decide +kernel
theorem dL_learning_112 : decode cL_learning 112 = .ok (.ixor, 1) := by decide +kernel
theorem dL_learning_113 : decode cL_learning 113 = .ok (.iand, 1) := by decide +kernel
theorem dL_learning_114 : decode cL_learning 114 = .ok (.istore 5, 2) := by decide +kernel
theorem dL_learning_116 : decode cL_learning 116 = .ok (.iconst 0, 1) := by decide +kernel
theorem dL_learning_117 : decode cL_learning 117 = .ok (.istore 6, 2) := by decide +kernel
theorem dL_learning_119 : decode cL_learning 119 = .ok (.iload 6, 2) := by decide +kernel
theorem dL_learning_121 : decode cL_learning 121 = .ok (.iload_n 1, 1) := by decide +kernel
theorem dL_learning_122 : decode cL_learning 122 = .ok (.if_icmp .ge 19, 3) := by decide +kernel
theorem dL_learning_125 : decode cL_learning 125 = .ok (.iload_n 3, 1) := by decide +kernel
theorem dL_learning_126 : decode cL_learning 126 = .ok (.iload 5, 2) := by decide +kernel
theorem dL_learning_128 : decode cL_learning 128 = .ok (.iload 6, 2) := by decide +kernel
theorem dL_learning_130 : decode cL_learning 130 = .ok (.ishr, 1) := by decide +kernel
theorem dL_learning_131 : decode cL_learning 131 = .ok (.iconst 1, 1) := by decide +kernel
theorem dL_learning_132 : decode cL_learning 132 = .ok (.iand, 1) := by decide +kernel
theorem dL_learning_133 : decode cL_learning 133 = .ok (.iadd, 1) := by decide +kernel
theorem dL_learning_134 : decode cL_learning 134 = .ok (.istore_n 3, 1) := by decide +kernel
theorem dL_learning_135 : decode cL_learning 135 = .ok (.iinc 6 1, 3) := by decide +kernel
theorem dL_learning_138 : decode cL_learning 138 = .ok (.goto (-19), 3) := by decide +kernel
theorem dL_learning_141 : decode cL_learning 141 = .ok (.aload_n 0, 1) := by decide +kernel
theorem dL_learning_142 : decode cL_learning 142 = .ok (.iload 4, 2) := by decide +kernel
theorem dL_learning_144 : decode cL_learning 144 = .ok (.iload_n 2, 1) := by decide +kernel
theorem dL_learning_145 : decode cL_learning 145 = .ok (.ifCond .eq 7, 3) := by decide +kernel
theorem dL_learning_148 : decode cL_learning 148 = .ok (.iconst 5, 1) := by decide +kernel
theorem dL_learning_149 : decode cL_learning 149 = .ok (.goto 4, 3) := by decide +kernel
theorem dL_learning_152 : decode cL_learning 152 = .ok (.iconst 4, 1) := by decide +kernel
theorem dL_learning_153 : decode cL_learning 153 = .ok (.invokevirtual 26, 3) := by decide +kernel
theorem dL_learning_156 : decode cL_learning 156 = .ok (.iload 5, 2) := by decide +kernel
theorem dL_learning_158 : decode cL_learning 158 = .ok (.if_icmp .eq 5, 3) := by decide +kernel
theorem dL_learning_161 : decode cL_learning 161 = .ok (.iconst 0, 1) := by decide +kernel
theorem dL_learning_162 : decode cL_learning 162 = .ok (.ireturn, 1) := by decide +kernel
theorem dL_learning_163 : decode cL_learning 163 = .ok (.iinc 4 1, 3) := by decide +kernel
theorem dL_learning_166 : decode cL_learning 166 = .ok (.goto (-161), 3) := by decide +kernel
theorem dL_learning_169 : decode cL_learning 169 = .ok (.aload_n 0, 1) := by decide +kernel
theorem dL_learning_170 : decode cL_learning 170 = .ok (.iload_n 2, 1) := by decide +kernel
theorem dL_learning_171 : decode cL_learning 171 = .ok (.ifCond .eq 8, 3) := by decide +kernel
theorem dL_learning_174 : decode cL_learning 174 = .ok (.bipush 7, 2) := by decide +kernel
theorem dL_learning_176 : decode cL_learning 176 = .ok (.goto 5, 3) := by decide +kernel
theorem dL_learning_179 : decode cL_learning 179 = .ok (.bipush 6, 2) := by decide +kernel
theorem dL_learning_181 : decode cL_learning 181 = .ok (.invokevirtual 58, 3) := by decide +kernel
theorem dL_learning_184 : decode cL_learning 184 = .ok (.iload_n 3, 1) := by decide +kernel
theorem dL_learning_185 : decode cL_learning 185 = .ok (.if_icmp .ne 7, 3) := by decide +kernel
theorem dL_learning_188 : decode cL_learning 188 = .ok (.iconst 1, 1) := by decide +kernel
theorem dL_learning_189 : decode cL_learning 189 = .ok (.goto 4, 3) := by decide +kernel
theorem dL_learning_192 : decode cL_learning 192 = .ok (.iconst 0, 1) := by decide +kernel
theorem dL_learning_193 : decode cL_learning 193 = .ok (.ireturn, 1) := by decide +kernel
theorem dL_needed_0 : decode cL_needed 0 = .ok (.aload_n 0, 1) := by decide +kernel
theorem dL_needed_1 : decode cL_needed 1 = .ok (.iload_n 2, 1) := by decide +kernel
theorem dL_needed_2 : decode cL_needed 2 = .ok (.iload_n 3, 1) := by decide +kernel
theorem dL_needed_3 : decode cL_needed 3 = .ok (.iload 4, 2) := by decide +kernel
theorem dL_needed_5 : decode cL_needed 5 = .ok (.invokevirtual 66, 3) := by decide +kernel
theorem dL_needed_8 : decode cL_needed 8 = .ok (.istore 5, 2) := by decide +kernel
theorem dL_needed_10 : decode cL_needed 10 = .ok (.iload 5, 2) := by decide +kernel
theorem dL_needed_12 : decode cL_needed 12 = .ok (.bipush (-9), 2) := by decide +kernel
theorem dL_needed_14 : decode cL_needed 14 = .ok (.if_icmp .ne 20, 3) := by decide +kernel
theorem dL_needed_17 : decode cL_needed 17 = .ok (.aload_n 0, 1) := by decide +kernel
theorem dL_needed_18 : decode cL_needed 18 = .ok (.iload_n 2, 1) := by decide +kernel
theorem dL_needed_19 : decode cL_needed 19 = .ok (.iload_n 3, 1) := by decide +kernel
theorem dL_needed_20 : decode cL_needed 20 = .ok (.iload 4, 2) := by decide +kernel
theorem dL_needed_22 : decode cL_needed 22 = .ok (.invokestatic 41, 3) := by decide +kernel
theorem dL_needed_25 : decode cL_needed 25 = .ok (.ifCond .ne 7, 3) := by decide +kernel
theorem dL_needed_28 : decode cL_needed 28 = .ok (.iconst 1, 1) := by decide +kernel
theorem dL_needed_29 : decode cL_needed 29 = .ok (.goto 4, 3) := by decide +kernel
theorem dL_needed_32 : decode cL_needed 32 = .ok (.iconst 0, 1) := by decide +kernel
theorem dL_needed_33 : decode cL_needed 33 = .ok (.ireturn, 1) := by decide +kernel
theorem dL_needed_34 : decode cL_needed 34 = .ok (.aload_n 0, 1) := by decide +kernel
theorem dL_needed_35 : decode cL_needed 35 = .ok (.iload_n 2, 1) := by decide +kernel
theorem dL_needed_36 : decode cL_needed 36 = .ok (.iload_n 3, 1) := by decide +kernel
theorem dL_needed_37 : decode cL_needed 37 = .ok (.iload 4, 2) := by decide +kernel
theorem dL_needed_39 : decode cL_needed 39 = .ok (.invokestatic 41, 3) := by decide +kernel
theorem dL_needed_42 : decode cL_needed 42 = .ok (.istore 6, 2) := by decide +kernel
theorem dL_needed_44 : decode cL_needed 44 = .ok (.iconst 0, 1) := by decide +kernel
theorem dL_needed_45 : decode cL_needed 45 = .ok (.istore 7, 2) := by decide +kernel
theorem dL_needed_47 : decode cL_needed 47 = .ok (.iconst 0, 1) := by decide +kernel
theorem dL_needed_48 : decode cL_needed 48 = .ok (.istore 8, 2) := by decide +kernel
theorem dL_needed_50 : decode cL_needed 50 = .ok (.iload 8, 2) := by decide +kernel
theorem dL_needed_52 : decode cL_needed 52 = .ok (.iload_n 1, 1) := by decide +kernel
theorem dL_needed_53 : decode cL_needed 53 = .ok (.if_icmp .ge 87, 3) := by decide +kernel
theorem dL_needed_56 : decode cL_needed 56 = .ok (.iload 6, 2) := by decide +kernel
theorem dL_needed_58 : decode cL_needed 58 = .ok (.ifCond .eq 82, 3) := by decide +kernel
theorem dL_needed_61 : decode cL_needed 61 = .ok (.aload_n 0, 1) := by decide +kernel
theorem dL_needed_62 : decode cL_needed 62 = .ok (.iload 8, 2) := by decide +kernel
theorem dL_needed_64 : decode cL_needed 64 = .ok (.iconst 1, 1) := by decide +kernel
theorem dL_needed_65 : decode cL_needed 65 = .ok (.invokevirtual 26, 3) := by decide +kernel
theorem dL_needed_68 : decode cL_needed 68 = .ok (.iconst 1, 1) := by decide +kernel
theorem dL_needed_69 : decode cL_needed 69 = .ok (.if_icmp .ne 36, 3) := by decide +kernel
theorem dL_needed_72 : decode cL_needed 72 = .ok (.iload 5, 2) := by decide +kernel
theorem dL_needed_74 : decode cL_needed 74 = .ok (.iload 8, 2) := by decide +kernel
theorem dL_needed_76 : decode cL_needed 76 = .ok (.ishr, 1) := by decide +kernel
theorem dL_needed_77 : decode cL_needed 77 = .ok (.iconst 1, 1) := by decide +kernel
theorem dL_needed_78 : decode cL_needed 78 = .ok (.iand, 1) := by decide +kernel
theorem dL_needed_79 : decode cL_needed 79 = .ok (.ifCond .ne 26, 3) := by decide +kernel
theorem dL_needed_82 : decode cL_needed 82 = .ok (.aload_n 0, 1) := by decide +kernel
theorem dL_needed_83 : decode cL_needed 83 = .ok (.iload 8, 2) := by decide +kernel
theorem dL_needed_85 : decode cL_needed 85 = .ok (.iconst 0, 1) := by decide +kernel
theorem dL_needed_86 : decode cL_needed 86 = .ok (.invokevirtual 29, 3) := by decide +kernel
theorem dL_needed_89 : decode cL_needed 89 = .ok (.ifCond .lt 7, 3) := by decide +kernel
theorem dL_needed_92 : decode cL_needed 92 = .ok (.iconst 1, 1) := by decide +kernel
theorem dL_needed_93 : decode cL_needed 93 = .ok (.goto 4, 3) := by decide +kernel
theorem dL_needed_96 : decode cL_needed 96 = .ok (.iconst 0, 1) := by decide +kernel
theorem dL_needed_97 : decode cL_needed 97 = .ok (.istore 6, 2) := by decide +kernel
theorem dL_needed_99 : decode cL_needed 99 = .ok (.iinc 7 1, 3) := by decide +kernel
theorem dL_needed_102 : decode cL_needed 102 = .ok (.goto 32, 3) := by decide +kernel
theorem dL_needed_105 : decode cL_needed 105 = .ok (.iload 5, 2) := by decide +kernel
theorem dL_needed_107 : decode cL_needed 107 = .ok (.iload 8, 2) := by decide +kernel
theorem dL_needed_109 : decode cL_needed 109 = .ok (.ishr, 1) := by decide +kernel
theorem dL_needed_110 : decode cL_needed 110 = .ok (.iconst 1, 1) := by decide +kernel
theorem dL_needed_111 : decode cL_needed 111 = .ok (.iand, 1) := by decide +kernel
theorem dL_needed_112 : decode cL_needed 112 = .ok (.iconst 1, 1) := by decide +kernel
theorem dL_needed_113 : decode cL_needed 113 = .ok (.if_icmp .ne 21, 3) := by decide +kernel
theorem dL_needed_116 : decode cL_needed 116 = .ok (.aload_n 0, 1) := by decide +kernel
theorem dL_needed_117 : decode cL_needed 117 = .ok (.iload 8, 2) := by decide +kernel
theorem dL_needed_119 : decode cL_needed 119 = .ok (.iconst 1, 1) := by decide +kernel
theorem dL_needed_120 : decode cL_needed 120 = .ok (.invokevirtual 26, 3) := by decide +kernel
theorem dL_needed_123 : decode cL_needed 123 = .ok (.iconst 1, 1) := by decide +kernel
theorem dL_needed_124 : decode cL_needed 124 = .ok (.if_icmp .ne 7, 3) := by decide +kernel
theorem dL_needed_127 : decode cL_needed 127 = .ok (.iconst 1, 1) := by decide +kernel
theorem dL_needed_128 : decode cL_needed 128 = .ok (.goto 4, 3) := by decide +kernel
theorem dL_needed_131 : decode cL_needed 131 = .ok (.iconst 0, 1) := by decide +kernel
theorem dL_needed_132 : decode cL_needed 132 = .ok (.istore 6, 2) := by decide +kernel
theorem dL_needed_134 : decode cL_needed 134 = .ok (.iinc 8 1, 3) := by decide +kernel
theorem dL_needed_137 : decode cL_needed 137 = .ok (.goto (-87), 3) := by decide +kernel
theorem dL_needed_140 : decode cL_needed 140 = .ok (.iload 6, 2) := by decide +kernel
theorem dL_needed_142 : decode cL_needed 142 = .ok (.ifCond .eq 18, 3) := by decide +kernel
theorem dL_needed_145 : decode cL_needed 145 = .ok (.aload_n 0, 1) := by decide +kernel
theorem dL_needed_146 : decode cL_needed 146 = .ok (.iload_n 2, 1) := by decide +kernel
theorem dL_needed_147 : decode cL_needed 147 = .ok (.iload_n 3, 1) := by decide +kernel
theorem dL_needed_148 : decode cL_needed 148 = .ok (.iload 4, 2) := by decide +kernel
theorem dL_needed_150 : decode cL_needed 150 = .ok (.invokestatic 41, 3) := by decide +kernel
theorem dL_needed_153 : decode cL_needed 153 = .ok (.ifCond .eq 7, 3) := by decide +kernel
theorem dL_needed_156 : decode cL_needed 156 = .ok (.iconst 1, 1) := by decide +kernel
theorem dL_needed_157 : decode cL_needed 157 = .ok (.goto 4, 3) := by decide +kernel
theorem dL_needed_160 : decode cL_needed 160 = .ok (.iconst 0, 1) := by decide +kernel
theorem dL_needed_161 : decode cL_needed 161 = .ok (.istore 6, 2) := by decide +kernel
theorem dL_needed_163 : decode cL_needed 163 = .ok (.iconst 0, 1) := by decide +kernel
theorem dL_needed_164 : decode cL_needed 164 = .ok (.istore 8, 2) := by decide +kernel
theorem dL_needed_166 : decode cL_needed 166 = .ok (.iload 8, 2) := by decide +kernel
theorem dL_needed_168 : decode cL_needed 168 = .ok (.iload_n 1, 1) := by decide +kernel
theorem dL_needed_169 : decode cL_needed 169 = .ok (.if_icmp .ge 59, 3) := by decide +kernel
theorem dL_needed_172 : decode cL_needed 172 = .ok (.iload 6, 2) := by decide +kernel
theorem dL_needed_174 : decode cL_needed 174 = .ok (.ifCond .eq 54, 3) := by decide +kernel
theorem dL_needed_177 : decode cL_needed 177 = .ok (.iload 5, 2) := by decide +kernel
theorem dL_needed_179 : decode cL_needed 179 = .ok (.iload 8, 2) := by decide +kernel
theorem dL_needed_181 : decode cL_needed 181 = .ok (.ishr, 1) := by decide +kernel
theorem dL_needed_182 : decode cL_needed 182 = .ok (.iconst 1, 1) := by decide +kernel
theorem dL_needed_183 : decode cL_needed 183 = .ok (.iand, 1) := by decide +kernel
theorem dL_needed_184 : decode cL_needed 184 = .ok (.ifCond .eq 31, 3) := by decide +kernel
theorem dL_needed_187 : decode cL_needed 187 = .ok (.aload_n 0, 1) := by decide +kernel
theorem dL_needed_188 : decode cL_needed 188 = .ok (.iload 8, 2) := by decide +kernel
theorem dL_needed_190 : decode cL_needed 190 = .ok (.iconst 0, 1) := by decide +kernel
theorem dL_needed_191 : decode cL_needed 191 = .ok (.invokevirtual 29, 3) := by decide +kernel
theorem dL_needed_194 : decode cL_needed 194 = .ok (.ifCond .lt 25, 3) := by decide +kernel
theorem dL_needed_197 : decode cL_needed 197 = .ok (.aload_n 0, 1) := by decide +kernel
theorem dL_needed_198 : decode cL_needed 198 = .ok (.iload_n 2, 1) := by decide +kernel
theorem dL_needed_199 : decode cL_needed 199 = .ok (.iload_n 3, 1) := by decide +kernel
theorem dL_needed_200 : decode cL_needed 200 = .ok (.iload 4, 2) := by decide +kernel
theorem dL_needed_202 : decode cL_needed 202 = .ok (.invokestatic 41, 3) := by decide +kernel
theorem dL_needed_205 : decode cL_needed 205 = .ok (.ifCond .ne 14, 3) := by decide +kernel
theorem dL_needed_208 : decode cL_needed 208 = .ok (.aload_n 0, 1) := by decide +kernel
theorem dL_needed_209 : decode cL_needed 209 = .ok (.invokevirtual 69, 3) := by decide +kernel
theorem dL_needed_212 : decode cL_needed 212 = .ok (.ifCond .lt 7, 3) := by decide +kernel
theorem dL_needed_215 : decode cL_needed 215 = .ok (.iconst 1, 1) := by decide +kernel
theorem dL_needed_216 : decode cL_needed 216 = .ok (.goto 4, 3) := by decide +kernel
theorem dL_needed_219 : decode cL_needed 219 = .ok (.iconst 0, 1) := by decide +kernel
theorem dL_needed_220 : decode cL_needed 220 = .ok (.istore 6, 2) := by decide +kernel
theorem dL_needed_222 : decode cL_needed 222 = .ok (.iinc 8 1, 3) := by decide +kernel
theorem dL_needed_225 : decode cL_needed 225 = .ok (.goto (-59), 3) := by decide +kernel
theorem dL_needed_228 : decode cL_needed 228 = .ok (.iconst 0, 1) := by decide +kernel
theorem dL_needed_229 : decode cL_needed 229 = .ok (.istore 8, 2) := by decide +kernel
theorem dL_needed_231 : decode cL_needed 231 = .ok (.iload 8, 2) := by decide +kernel
theorem dL_needed_233 : decode cL_needed 233 = .ok (.iload 7, 2) := by decide +kernel
theorem dL_needed_235 : decode cL_needed 235 = .ok (.if_icmp .ge 28, 3) := by decide +kernel
theorem dL_needed_238 : decode cL_needed 238 = .ok (.iload 6, 2) := by decide +kernel
theorem dL_needed_240 : decode cL_needed 240 = .ok (.ifCond .eq 23, 3) := by decide +kernel
theorem dL_needed_243 : decode cL_needed 243 = .ok (.aload_n 0, 1) := by decide +kernel
theorem dL_needed_244 : decode cL_needed 244 = .ok (.invokevirtual 69, 3) := by decide +kernel
theorem dL_needed_247 : decode cL_needed 247 = .ok (.ifCond .lt 7, 3) := by decide +kernel
theorem dL_needed_250 : decode cL_needed 250 = .ok (.iconst 1, 1) := by decide +kernel
theorem dL_needed_251 : decode cL_needed 251 = .ok (.goto 4, 3) := by decide +kernel
theorem dL_needed_254 : decode cL_needed 254 = .ok (.iconst 0, 1) := by decide +kernel
theorem dL_needed_255 : decode cL_needed 255 = .ok (.istore 6, 2) := by decide +kernel
theorem dL_needed_257 : decode cL_needed 257 = .ok (.iinc 8 1, 3) := by decide +kernel
theorem dL_needed_260 : decode cL_needed 260 = .ok (.goto (-29), 3) := by decide +kernel
theorem dL_needed_263 : decode cL_needed 263 = .ok (.iload 6, 2) := by decide +kernel
theorem dL_needed_265 : decode cL_needed 265 = .ok (.ireturn, 1) := by decide +kernel
theorem dL_cut_0 : decode cL_cut 0 = .ok (.aload_n 0, 1) := by decide +kernel
theorem dL_cut_1 : decode cL_cut 1 = .ok (.iload_n 1, 1) := by decide +kernel
theorem dL_cut_2 : decode cL_cut 2 = .ok (.iload_n 2, 1) := by decide +kernel
theorem dL_cut_3 : decode cL_cut 3 = .ok (.iload_n 3, 1) := by decide +kernel
theorem dL_cut_4 : decode cL_cut 4 = .ok (.invokevirtual 73, 3) := by decide +kernel
theorem dL_cut_7 : decode cL_cut 7 = .ok (.istore 4, 2) := by decide +kernel
theorem dL_cut_9 : decode cL_cut 9 = .ok (.aload_n 0, 1) := by decide +kernel
theorem dL_cut_10 : decode cL_cut 10 = .ok (.iload_n 1, 1) := by decide +kernel
theorem dL_cut_11 : decode cL_cut 11 = .ok (.iload_n 2, 1) := by decide +kernel
theorem dL_cut_12 : decode cL_cut 12 = .ok (.iload_n 3, 1) := by decide +kernel
theorem dL_cut_13 : decode cL_cut 13 = .ok (.iconst 0, 1) := by decide +kernel
theorem dL_cut_14 : decode cL_cut 14 = .ok (.invokevirtual 76, 3) := by decide +kernel
theorem dL_cut_17 : decode cL_cut 17 = .ok (.istore 5, 2) := by decide +kernel
theorem dL_cut_19 : decode cL_cut 19 = .ok (.aload_n 0, 1) := by decide +kernel
theorem dL_cut_20 : decode cL_cut 20 = .ok (.iload_n 1, 1) := by decide +kernel
theorem dL_cut_21 : decode cL_cut 21 = .ok (.iload_n 2, 1) := by decide +kernel
theorem dL_cut_22 : decode cL_cut 22 = .ok (.iload_n 3, 1) := by decide +kernel
theorem dL_cut_23 : decode cL_cut 23 = .ok (.iconst 1, 1) := by decide +kernel
theorem dL_cut_24 : decode cL_cut 24 = .ok (.invokevirtual 76, 3) := by decide +kernel
theorem dL_cut_27 : decode cL_cut 27 = .ok (.istore 6, 2) := by decide +kernel
theorem dL_cut_29 : decode cL_cut 29 = .ok (.iload 4, 2) := by decide +kernel
theorem dL_cut_31 : decode cL_cut 31 = .ok (.bipush (-9), 2) := by decide +kernel
theorem dL_cut_33 : decode cL_cut 33 = .ok (.if_icmp .eq 8, 3) := by decide +kernel
theorem dL_cut_36 : decode cL_cut 36 = .ok (.iload 4, 2) := by decide +kernel
theorem dL_cut_38 : decode cL_cut 38 = .ok (.ifCond .ne 51, 3) := by decide +kernel
theorem dL_cut_41 : decode cL_cut 41 = .ok (.iload 4, 2) := by decide +kernel
theorem dL_cut_43 : decode cL_cut 43 = .ok (.ifCond .ne 7, 3) := by decide +kernel
theorem dL_cut_46 : decode cL_cut 46 = .ok (.iconst 1, 1) := by decide +kernel
theorem dL_cut_47 : decode cL_cut 47 = .ok (.goto 4, 3) := by decide +kernel
theorem dL_cut_50 : decode cL_cut 50 = .ok (.iconst 0, 1) := by decide +kernel
theorem dL_cut_51 : decode cL_cut 51 = .ok (.aload_n 0, 1) := by decide +kernel
theorem dL_cut_52 : decode cL_cut 52 = .ok (.iload_n 1, 1) := by decide +kernel
theorem dL_cut_53 : decode cL_cut 53 = .ok (.iload_n 2, 1) := by decide +kernel
theorem dL_cut_54 : decode cL_cut 54 = .ok (.iload_n 3, 1) := by decide +kernel
theorem dL_cut_55 : decode cL_cut 55 = .ok (.invokestatic 41, 3) := by decide +kernel
theorem dL_cut_58 : decode cL_cut 58 = .ok (.ifCond .ne 7, 3) := by decide +kernel
theorem dL_cut_61 : decode cL_cut 61 = .ok (.iconst 1, 1) := by decide +kernel
theorem dL_cut_62 : decode cL_cut 62 = .ok (.goto 4, 3) := by decide +kernel
theorem dL_cut_65 : decode cL_cut 65 = .ok (.iconst 0, 1) := by decide +kernel
theorem dL_cut_66 : decode cL_cut 66 = .ok (.if_icmp .ne 21, 3) := by decide +kernel
theorem dL_cut_69 : decode cL_cut 69 = .ok (.iload 5, 2) := by decide +kernel
theorem dL_cut_71 : decode cL_cut 71 = .ok (.bipush (-9), 2) := by decide +kernel
theorem dL_cut_73 : decode cL_cut 73 = .ok (.if_icmp .ne 14, 3) := by decide +kernel
theorem dL_cut_76 : decode cL_cut 76 = .ok (.iload 6, 2) := by decide +kernel
theorem dL_cut_78 : decode cL_cut 78 = .ok (.bipush (-9), 2) := by decide +kernel
theorem dL_cut_80 : decode cL_cut 80 = .ok (.if_icmp .ne 7, 3) := by decide +kernel
theorem dL_cut_83 : decode cL_cut 83 = .ok (.iconst 1, 1) := by decide +kernel
theorem dL_cut_84 : decode cL_cut 84 = .ok (.goto 4, 3) := by decide +kernel
theorem dL_cut_87 : decode cL_cut 87 = .ok (.iconst 0, 1) := by decide +kernel
theorem dL_cut_88 : decode cL_cut 88 = .ok (.ireturn, 1) := by decide +kernel
theorem dL_cut_89 : decode cL_cut 89 = .ok (.iload 4, 2) := by decide +kernel
theorem dL_cut_91 : decode cL_cut 91 = .ok (.iconst 1, 1) := by decide +kernel
theorem dL_cut_92 : decode cL_cut 92 = .ok (.if_icmp .ne 7, 3) := by decide +kernel
theorem dL_cut_95 : decode cL_cut 95 = .ok (.iconst 1, 1) := by decide +kernel
theorem dL_cut_96 : decode cL_cut 96 = .ok (.goto 4, 3) := by decide +kernel
theorem dL_cut_99 : decode cL_cut 99 = .ok (.iconst 0, 1) := by decide +kernel
theorem dL_cut_100 : decode cL_cut 100 = .ok (.iload 6, 2) := by decide +kernel
theorem dL_cut_102 : decode cL_cut 102 = .ok (.bipush (-9), 2) := by decide +kernel
theorem dL_cut_104 : decode cL_cut 104 = .ok (.if_icmp .ne 7, 3) := by decide +kernel
theorem dL_cut_107 : decode cL_cut 107 = .ok (.iconst 1, 1) := by decide +kernel
theorem dL_cut_108 : decode cL_cut 108 = .ok (.goto 4, 3) := by decide +kernel
theorem dL_cut_111 : decode cL_cut 111 = .ok (.iconst 0, 1) := by decide +kernel
theorem dL_cut_112 : decode cL_cut 112 = .ok (.if_icmp .ne 21, 3) := by decide +kernel
theorem dL_cut_115 : decode cL_cut 115 = .ok (.iload 5, 2) := by decide +kernel
theorem dL_cut_117 : decode cL_cut 117 = .ok (.ifCond .lt 16, 3) := by decide +kernel
theorem dL_cut_120 : decode cL_cut 120 = .ok (.iload 4, 2) := by decide +kernel
theorem dL_cut_122 : decode cL_cut 122 = .ok (.iconst 2, 1) := by decide +kernel
theorem dL_cut_123 : decode cL_cut 123 = .ok (.if_icmp .ne 12, 3) := by decide +kernel
theorem dL_cut_126 : decode cL_cut 126 = .ok (.iload 6, 2) := by decide +kernel
theorem dL_cut_128 : decode cL_cut 128 = .ok (.iload 5, 2) := by decide +kernel
theorem dL_cut_130 : decode cL_cut 130 = .ok (.if_icmp .gt 5, 3) := by decide +kernel
theorem dL_cut_133 : decode cL_cut 133 = .ok (.iconst 0, 1) := by decide +kernel
theorem dL_cut_134 : decode cL_cut 134 = .ok (.ireturn, 1) := by decide +kernel
theorem dL_cut_135 : decode cL_cut 135 = .ok (.aload_n 0, 1) := by decide +kernel
theorem dL_cut_136 : decode cL_cut 136 = .ok (.iload 5, 2) := by decide +kernel
theorem dL_cut_138 : decode cL_cut 138 = .ok (.bipush 100, 2) := by decide +kernel
theorem dL_cut_140 : decode cL_cut 140 = .ok (.idiv, 1) := by decide +kernel
theorem dL_cut_141 : decode cL_cut 141 = .ok (.iload 5, 2) := by decide +kernel
theorem dL_cut_143 : decode cL_cut 143 = .ok (.bipush 10, 2) := by decide +kernel
theorem dL_cut_145 : decode cL_cut 145 = .ok (.idiv, 1) := by decide +kernel
theorem dL_cut_146 : decode cL_cut 146 = .ok (.bipush 10, 2) := by decide +kernel
theorem dL_cut_148 : decode cL_cut 148 = .ok (.irem, 1) := by decide +kernel
theorem dL_cut_149 : decode cL_cut 149 = .ok (.iload 5, 2) := by decide +kernel
theorem dL_cut_151 : decode cL_cut 151 = .ok (.bipush 10, 2) := by decide +kernel
theorem dL_cut_153 : decode cL_cut 153 = .ok (.irem, 1) := by decide +kernel
theorem dL_cut_154 : decode cL_cut 154 = .ok (.iconst 0, 1) := by decide +kernel
theorem dL_cut_155 : decode cL_cut 155 = .ok (.invokevirtual 37, 3) := by decide +kernel
theorem dL_cut_158 : decode cL_cut 158 = .ok (.ifCond .eq 28, 3) := by decide +kernel
theorem dL_cut_161 : decode cL_cut 161 = .ok (.aload_n 0, 1) := by decide +kernel
theorem dL_cut_162 : decode cL_cut 162 = .ok (.iload_n 1, 1) := by decide +kernel
theorem dL_cut_163 : decode cL_cut 163 = .ok (.iload_n 2, 1) := by decide +kernel
theorem dL_cut_164 : decode cL_cut 164 = .ok (.iload_n 3, 1) := by decide +kernel
theorem dL_cut_165 : decode cL_cut 165 = .ok (.invokestatic 41, 3) := by decide +kernel
theorem dL_cut_168 : decode cL_cut 168 = .ok (.iload 4, 2) := by decide +kernel
theorem dL_cut_170 : decode cL_cut 170 = .ok (.iconst 2, 1) := by decide +kernel
theorem dL_cut_171 : decode cL_cut 171 = .ok (.if_icmp .ne 7, 3) := by decide +kernel
theorem dL_cut_174 : decode cL_cut 174 = .ok (.iconst 1, 1) := by decide +kernel
theorem dL_cut_175 : decode cL_cut 175 = .ok (.goto 4, 3) := by decide +kernel
theorem dL_cut_178 : decode cL_cut 178 = .ok (.iconst 0, 1) := by decide +kernel
theorem dL_cut_179 : decode cL_cut 179 = .ok (.if_icmp .ne 7, 3) := by decide +kernel
theorem dL_cut_182 : decode cL_cut 182 = .ok (.iconst 1, 1) := by decide +kernel
theorem dL_cut_183 : decode cL_cut 183 = .ok (.goto 4, 3) := by decide +kernel
theorem dL_cut_186 : decode cL_cut 186 = .ok (.iconst 0, 1) := by decide +kernel
theorem dL_cut_187 : decode cL_cut 187 = .ok (.istore 7, 2) := by decide +kernel
theorem dL_cut_189 : decode cL_cut 189 = .ok (.iload 7, 2) := by decide +kernel
theorem dL_cut_191 : decode cL_cut 191 = .ok (.ifCond .eq 59, 3) := by decide +kernel
theorem dL_cut_194 : decode cL_cut 194 = .ok (.iload 4, 2) := by decide +kernel
theorem dL_cut_196 : decode cL_cut 196 = .ok (.iconst 2, 1) := by decide +kernel
theorem dL_cut_197 : decode cL_cut 197 = .ok (.if_icmp .ne 53, 3) := by decide +kernel
theorem dL_cut_200 : decode cL_cut 200 = .ok (.aload_n 0, 1) := by decide +kernel
theorem dL_cut_201 : decode cL_cut 201 = .ok (.iload 6, 2) := by decide +kernel
theorem dL_cut_203 : decode cL_cut 203 = .ok (.bipush 100, 2) := by decide +kernel
theorem dL_cut_205 : decode cL_cut 205 = .ok (.idiv, 1) := by decide +kernel
theorem dL_cut_206 : decode cL_cut 206 = .ok (.iload 6, 2) := by decide +kernel
theorem dL_cut_208 : decode cL_cut 208 = .ok (.bipush 10, 2) := by decide +kernel
theorem dL_cut_210 : decode cL_cut 210 = .ok (.idiv, 1) := by decide +kernel
theorem dL_cut_211 : decode cL_cut 211 = .ok (.bipush 10, 2) := by decide +kernel
theorem dL_cut_213 : decode cL_cut 213 = .ok (.irem, 1) := by decide +kernel
theorem dL_cut_214 : decode cL_cut 214 = .ok (.iload 6, 2) := by decide +kernel
theorem dL_cut_216 : decode cL_cut 216 = .ok (.bipush 10, 2) := by decide +kernel
theorem dL_cut_218 : decode cL_cut 218 = .ok (.irem, 1) := by decide +kernel
theorem dL_cut_219 : decode cL_cut 219 = .ok (.iconst 0, 1) := by decide +kernel
theorem dL_cut_220 : decode cL_cut 220 = .ok (.invokevirtual 37, 3) := by decide +kernel
theorem dL_cut_223 : decode cL_cut 223 = .ok (.ifCond .eq 24, 3) := by decide +kernel
theorem dL_cut_226 : decode cL_cut 226 = .ok (.aload_n 0, 1) := by decide +kernel
theorem dL_cut_227 : decode cL_cut 227 = .ok (.iload_n 1, 1) := by decide +kernel
theorem dL_cut_228 : decode cL_cut 228 = .ok (.iload_n 2, 1) := by decide +kernel
theorem dL_cut_229 : decode cL_cut 229 = .ok (.iload_n 3, 1) := by decide +kernel
theorem dL_cut_230 : decode cL_cut 230 = .ok (.invokestatic 41, 3) := by decide +kernel
theorem dL_cut_233 : decode cL_cut 233 = .ok (.ifCond .ne 14, 3) := by decide +kernel
theorem dL_cut_236 : decode cL_cut 236 = .ok (.aload_n 0, 1) := by decide +kernel
theorem dL_cut_237 : decode cL_cut 237 = .ok (.invokevirtual 69, 3) := by decide +kernel
theorem dL_cut_240 : decode cL_cut 240 = .ok (.ifCond .lt 7, 3) := by decide +kernel
theorem dL_cut_243 : decode cL_cut 243 = .ok (.iconst 1, 1) := by decide +kernel
theorem dL_cut_244 : decode cL_cut 244 = .ok (.goto 4, 3) := by decide +kernel
theorem dL_cut_247 : decode cL_cut 247 = .ok (.iconst 0, 1) := by decide +kernel
theorem dL_cut_248 : decode cL_cut 248 = .ok (.istore 7, 2) := by decide +kernel
theorem dL_cut_250 : decode cL_cut 250 = .ok (.iload 7, 2) := by decide +kernel
theorem dL_cut_252 : decode cL_cut 252 = .ok (.ifCond .eq 24, 3) := by decide +kernel
theorem dL_cut_255 : decode cL_cut 255 = .ok (.aload_n 0, 1) := by decide +kernel
theorem dL_cut_256 : decode cL_cut 256 = .ok (.invokevirtual 69, 3) := by decide +kernel
theorem dL_cut_259 : decode cL_cut 259 = .ok (.ifCond .lt 17, 3) := by decide +kernel
theorem dL_cut_262 : decode cL_cut 262 = .ok (.aload_n 0, 1) := by decide +kernel
theorem dL_cut_263 : decode cL_cut 263 = .ok (.iload_n 1, 1) := by decide +kernel
theorem dL_cut_264 : decode cL_cut 264 = .ok (.iload_n 2, 1) := by decide +kernel
theorem dL_cut_265 : decode cL_cut 265 = .ok (.iload_n 3, 1) := by decide +kernel
theorem dL_cut_266 : decode cL_cut 266 = .ok (.invokestatic 41, 3) := by decide +kernel
theorem dL_cut_269 : decode cL_cut 269 = .ok (.ifCond .eq 7, 3) := by decide +kernel
theorem dL_cut_272 : decode cL_cut 272 = .ok (.iconst 1, 1) := by decide +kernel
theorem dL_cut_273 : decode cL_cut 273 = .ok (.goto 4, 3) := by decide +kernel
theorem dL_cut_276 : decode cL_cut 276 = .ok (.iconst 0, 1) := by decide +kernel
theorem dL_cut_277 : decode cL_cut 277 = .ok (.ireturn, 1) := by decide +kernel
theorem dL_law_0 : decode cL_law 0 = .ok (.new 21, 3) := by decide +kernel
theorem dL_law_3 : decode cL_law 3 = .ok (.dup, 1) := by decide +kernel
theorem dL_law_4 : decode cL_law 4 = .ok (.invokespecial 80, 3) := by decide +kernel
theorem dL_law_7 : decode cL_law 7 = .ok (.astore_n 1, 1) := by decide +kernel
theorem dL_law_8 : decode cL_law 8 = .ok (.iconst 2, 1) := by decide +kernel
theorem dL_law_9 : decode cL_law 9 = .ok (.aload_n 0, 1) := by decide +kernel
theorem dL_law_10 : decode cL_law 10 = .ok (.iconst 0, 1) := by decide +kernel
theorem dL_law_11 : decode cL_law 11 = .ok (.invokestatic 10, 3) := by decide +kernel
theorem dL_law_14 : decode cL_law 14 = .ok (.iconst 5, 1) := by decide +kernel
theorem dL_law_15 : decode cL_law 15 = .ok (.invokestatic 16, 3) := by decide +kernel
theorem dL_law_18 : decode cL_law 18 = .ok (.iadd, 1) := by decide +kernel
theorem dL_law_19 : decode cL_law 19 = .ok (.istore_n 2, 1) := by decide +kernel
theorem dL_law_20 : decode cL_law 20 = .ok (.aload_n 1, 1) := by decide +kernel
theorem dL_law_21 : decode cL_law 21 = .ok (.invokevirtual 81, 3) := by decide +kernel
theorem dL_law_24 : decode cL_law 24 = .ok (.bipush (-9), 2) := by decide +kernel
theorem dL_law_26 : decode cL_law 26 = .ok (.if_icmp .ne 21, 3) := by decide +kernel
theorem dL_law_29 : decode cL_law 29 = .ok (.aload_n 1, 1) := by decide +kernel
theorem dL_law_30 : decode cL_law 30 = .ok (.invokevirtual 84, 3) := by decide +kernel
theorem dL_law_33 : decode cL_law 33 = .ok (.bipush (-9), 2) := by decide +kernel
theorem dL_law_35 : decode cL_law 35 = .ok (.if_icmp .ne 12, 3) := by decide +kernel
theorem dL_law_38 : decode cL_law 38 = .ok (.aload_n 1, 1) := by decide +kernel
theorem dL_law_39 : decode cL_law 39 = .ok (.aload_n 0, 1) := by decide +kernel
theorem dL_law_40 : decode cL_law 40 = .ok (.iload_n 2, 1) := by decide +kernel
theorem dL_law_41 : decode cL_law 41 = .ok (.invokestatic 87, 3) := by decide +kernel
theorem dL_law_44 : decode cL_law 44 = .ok (.ifCond .ne 5, 3) := by decide +kernel
theorem dL_law_47 : decode cL_law 47 = .ok (.iconst 0, 1) := by decide +kernel
theorem dL_law_48 : decode cL_law 48 = .ok (.ireturn, 1) := by decide +kernel
theorem dL_law_49 : decode cL_law 49 = .ok (.aload_n 1, 1) := by decide +kernel
theorem dL_law_50 : decode cL_law 50 = .ok (.iload_n 2, 1) := by decide +kernel
theorem dL_law_51 : decode cL_law 51 = .ok (.invokestatic 91, 3) := by decide +kernel
theorem dL_law_54 : decode cL_law 54 = .ok (.ifCond .eq 29, 3) := by decide +kernel
theorem dL_law_57 : decode cL_law 57 = .ok (.aload_n 1, 1) := by decide +kernel
theorem dL_law_58 : decode cL_law 58 = .ok (.iload_n 2, 1) := by decide +kernel
theorem dL_law_59 : decode cL_law 59 = .ok (.invokestatic 95, 3) := by decide +kernel
theorem dL_law_62 : decode cL_law 62 = .ok (.ifCond .eq 21, 3) := by decide +kernel
theorem dL_law_65 : decode cL_law 65 = .ok (.aload_n 1, 1) := by decide +kernel
theorem dL_law_66 : decode cL_law 66 = .ok (.iload_n 2, 1) := by decide +kernel
theorem dL_law_67 : decode cL_law 67 = .ok (.iconst 0, 1) := by decide +kernel
theorem dL_law_68 : decode cL_law 68 = .ok (.invokestatic 98, 3) := by decide +kernel
theorem dL_law_71 : decode cL_law 71 = .ok (.ifCond .eq 12, 3) := by decide +kernel
theorem dL_law_74 : decode cL_law 74 = .ok (.aload_n 1, 1) := by decide +kernel
theorem dL_law_75 : decode cL_law 75 = .ok (.iload_n 2, 1) := by decide +kernel
theorem dL_law_76 : decode cL_law 76 = .ok (.iconst 1, 1) := by decide +kernel
theorem dL_law_77 : decode cL_law 77 = .ok (.invokestatic 98, 3) := by decide +kernel
theorem dL_law_80 : decode cL_law 80 = .ok (.ifCond .ne 5, 3) := by decide +kernel
theorem dL_law_83 : decode cL_law 83 = .ok (.iconst 0, 1) := by decide +kernel
theorem dL_law_84 : decode cL_law 84 = .ok (.ireturn, 1) := by decide +kernel
theorem dL_law_85 : decode cL_law 85 = .ok (.iconst 0, 1) := by decide +kernel
theorem dL_law_86 : decode cL_law 86 = .ok (.istore_n 3, 1) := by decide +kernel
theorem dL_law_87 : decode cL_law 87 = .ok (.iload_n 3, 1) := by decide +kernel
theorem dL_law_88 : decode cL_law 88 = .ok (.iconst 4, 1) := by decide +kernel
theorem dL_law_89 : decode cL_law 89 = .ok (.if_icmp .ge 86, 3) := by decide +kernel
theorem dL_law_92 : decode cL_law 92 = .ok (.aload_n 0, 1) := by decide +kernel
theorem dL_law_93 : decode cL_law 93 = .ok (.bipush 20, 2) := by decide +kernel
theorem dL_law_95 : decode cL_law 95 = .ok (.iload_n 3, 1) := by decide +kernel
theorem dL_law_96 : decode cL_law 96 = .ok (.iadd, 1) := by decide +kernel
theorem dL_law_97 : decode cL_law 97 = .ok (.invokestatic 10, 3) := by decide +kernel
theorem dL_law_100 : decode cL_law 100 = .ok (.istore 4, 2) := by decide +kernel
theorem dL_law_102 : decode cL_law 102 = .ok (.iload 4, 2) := by decide +kernel
theorem dL_law_104 : decode cL_law 104 = .ok (.iload_n 2, 1) := by decide +kernel
theorem dL_law_105 : decode cL_law 105 = .ok (.invokestatic 16, 3) := by decide +kernel
theorem dL_law_108 : decode cL_law 108 = .ok (.istore 5, 2) := by decide +kernel
theorem dL_law_110 : decode cL_law 110 = .ok (.iload 5, 2) := by decide +kernel
theorem dL_law_112 : decode cL_law 112 = .ok (.iconst 1, 1) := by decide +kernel
theorem dL_law_113 : decode cL_law 113 = .ok (.iadd, 1) := by decide +kernel
theorem dL_law_114 : decode cL_law 114 = .ok (.iload 4, 2) := by decide +kernel
theorem dL_law_116 : decode cL_law 116 = .ok (.iconst 4, 1) := by decide +kernel
theorem dL_law_117 : decode cL_law 117 = .ok (.ishr, 1) := by decide +kernel
theorem dL_law_118 : decode cL_law 118 = .ok (.iload_n 2, 1) := by decide +kernel
theorem dL_law_119 : decode cL_law 119 = .ok (.iconst 1, 1) := by decide +kernel
theorem dL_law_120 : decode cL_law 120 = .ok (.isub, 1) := by decide +kernel
theorem dL_law_121 : decode cL_law 121 = .ok (.invokestatic 16, 3) := by decide +kernel
theorem dL_law_124 : decode cL_law 124 = .ok (.iadd, 1) := by decide +kernel
theorem dL_law_125 : decode cL_law 125 = .ok (.iload_n 2, 1) := by decide +kernel
theorem dL_law_126 : decode cL_law 126 = .ok (.irem, 1) := by decide +kernel
theorem dL_law_127 : decode cL_law 127 = .ok (.istore 6, 2) := by decide +kernel
theorem dL_law_129 : decode cL_law 129 = .ok (.iload 4, 2) := by decide +kernel
theorem dL_law_131 : decode cL_law 131 = .ok (.bipush 8, 2) := by decide +kernel
theorem dL_law_133 : decode cL_law 133 = .ok (.ishr, 1) := by decide +kernel
theorem dL_law_134 : decode cL_law 134 = .ok (.iconst 4, 1) := by decide +kernel
theorem dL_law_135 : decode cL_law 135 = .ok (.invokestatic 16, 3) := by decide +kernel
theorem dL_law_138 : decode cL_law 138 = .ok (.istore 7, 2) := by decide +kernel
theorem dL_law_140 : decode cL_law 140 = .ok (.aload_n 1, 1) := by decide +kernel
theorem dL_law_141 : decode cL_law 141 = .ok (.iload_n 2, 1) := by decide +kernel
theorem dL_law_142 : decode cL_law 142 = .ok (.iload 5, 2) := by decide +kernel
theorem dL_law_144 : decode cL_law 144 = .ok (.iload 7, 2) := by decide +kernel
theorem dL_law_146 : decode cL_law 146 = .ok (.iload 6, 2) := by decide +kernel
theorem dL_law_148 : decode cL_law 148 = .ok (.invokestatic 102, 3) := by decide +kernel
theorem dL_law_151 : decode cL_law 151 = .ok (.ifCond .eq 16, 3) := by decide +kernel
theorem dL_law_154 : decode cL_law 154 = .ok (.aload_n 1, 1) := by decide +kernel
theorem dL_law_155 : decode cL_law 155 = .ok (.iload 5, 2) := by decide +kernel
theorem dL_law_157 : decode cL_law 157 = .ok (.iload 7, 2) := by decide +kernel
theorem dL_law_159 : decode cL_law 159 = .ok (.iload 6, 2) := by decide +kernel
theorem dL_law_161 : decode cL_law 161 = .ok (.invokestatic 105, 3) := by decide +kernel
theorem dL_law_164 : decode cL_law 164 = .ok (.ifCond .ne 5, 3) := by decide +kernel
theorem dL_law_167 : decode cL_law 167 = .ok (.iconst 0, 1) := by decide +kernel
theorem dL_law_168 : decode cL_law 168 = .ok (.ireturn, 1) := by decide +kernel
theorem dL_law_169 : decode cL_law 169 = .ok (.iinc 3 1, 3) := by decide +kernel
theorem dL_law_172 : decode cL_law 172 = .ok (.goto (-85), 3) := by decide +kernel
theorem dL_law_175 : decode cL_law 175 = .ok (.aload_n 1, 1) := by decide +kernel
theorem dL_law_176 : decode cL_law 176 = .ok (.iconst 4, 1) := by decide +kernel
theorem dL_law_177 : decode cL_law 177 = .ok (.invokevirtual 58, 3) := by decide +kernel
theorem dL_law_180 : decode cL_law 180 = .ok (.istore_n 3, 1) := by decide +kernel
theorem dL_law_181 : decode cL_law 181 = .ok (.aload_n 1, 1) := by decide +kernel
theorem dL_law_182 : decode cL_law 182 = .ok (.invokevirtual 84, 3) := by decide +kernel
theorem dL_law_185 : decode cL_law 185 = .ok (.istore 4, 2) := by decide +kernel
theorem dL_law_187 : decode cL_law 187 = .ok (.aload_n 1, 1) := by decide +kernel
theorem dL_law_188 : decode cL_law 188 = .ok (.invokevirtual 81, 3) := by decide +kernel
theorem dL_law_191 : decode cL_law 191 = .ok (.istore 5, 2) := by decide +kernel
theorem dL_law_193 : decode cL_law 193 = .ok (.iload 4, 2) := by decide +kernel
theorem dL_law_195 : decode cL_law 195 = .ok (.bipush (-9), 2) := by decide +kernel
theorem dL_law_197 : decode cL_law 197 = .ok (.if_icmp .ne 26, 3) := by decide +kernel
theorem dL_law_200 : decode cL_law 200 = .ok (.aload_n 1, 1) := by decide +kernel
theorem dL_law_201 : decode cL_law 201 = .ok (.iconst 3, 1) := by decide +kernel
theorem dL_law_202 : decode cL_law 202 = .ok (.invokevirtual 58, 3) := by decide +kernel
theorem dL_law_205 : decode cL_law 205 = .ok (.iconst 4, 1) := by decide +kernel
theorem dL_law_206 : decode cL_law 206 = .ok (.iload_n 2, 1) := by decide +kernel
theorem dL_law_207 : decode cL_law 207 = .ok (.imul, 1) := by decide +kernel
theorem dL_law_208 : decode cL_law 208 = .ok (.iload_n 2, 1) := by decide +kernel
theorem dL_law_209 : decode cL_law 209 = .ok (.iconst 1, 1) := by decide +kernel
theorem dL_law_210 : decode cL_law 210 = .ok (.isub, 1) := by decide +kernel
theorem dL_law_211 : decode cL_law 211 = .ok (.imul, 1) := by decide +kernel
theorem dL_law_212 : decode cL_law 212 = .ok (.if_icmp .ne 7, 3) := by decide +kernel
theorem dL_law_215 : decode cL_law 215 = .ok (.iconst 1, 1) := by decide +kernel
theorem dL_law_216 : decode cL_law 216 = .ok (.goto 54, 3) := by decide +kernel
theorem dL_law_219 : decode cL_law 219 = .ok (.iconst 0, 1) := by decide +kernel
theorem dL_law_220 : decode cL_law 220 = .ok (.goto 50, 3) := by decide +kernel
theorem dL_law_223 : decode cL_law 223 = .ok (.aload_n 1, 1) := by decide +kernel
theorem dL_law_224 : decode cL_law 224 = .ok (.iload 4, 2) := by decide +kernel
theorem dL_law_226 : decode cL_law 226 = .ok (.bipush 100, 2) := by decide +kernel
theorem dL_law_228 : decode cL_law 228 = .ok (.idiv, 1) := by decide +kernel
theorem dL_law_229 : decode cL_law 229 = .ok (.iload 4, 2) := by decide +kernel
theorem dL_law_231 : decode cL_law 231 = .ok (.bipush 10, 2) := by decide +kernel
theorem dL_law_233 : decode cL_law 233 = .ok (.idiv, 1) := by decide +kernel
theorem dL_law_234 : decode cL_law 234 = .ok (.bipush 10, 2) := by decide +kernel
theorem dL_law_236 : decode cL_law 236 = .ok (.irem, 1) := by decide +kernel
theorem dL_law_237 : decode cL_law 237 = .ok (.iload 4, 2) := by decide +kernel
theorem dL_law_239 : decode cL_law 239 = .ok (.bipush 10, 2) := by decide +kernel
theorem dL_law_241 : decode cL_law 241 = .ok (.irem, 1) := by decide +kernel
theorem dL_law_242 : decode cL_law 242 = .ok (.iconst 1, 1) := by decide +kernel
theorem dL_law_243 : decode cL_law 243 = .ok (.invokevirtual 37, 3) := by decide +kernel
theorem dL_law_246 : decode cL_law 246 = .ok (.ifCond .ne 23, 3) := by decide +kernel
theorem dL_law_249 : decode cL_law 249 = .ok (.aload_n 1, 1) := by decide +kernel
theorem dL_law_250 : decode cL_law 250 = .ok (.iconst 4, 1) := by decide +kernel
theorem dL_law_251 : decode cL_law 251 = .ok (.invokevirtual 58, 3) := by decide +kernel
theorem dL_law_254 : decode cL_law 254 = .ok (.iload_n 3, 1) := by decide +kernel
theorem dL_law_255 : decode cL_law 255 = .ok (.if_icmp .lt 14, 3) := by decide +kernel
theorem dL_law_258 : decode cL_law 258 = .ok (.aload_n 1, 1) := by decide +kernel
theorem dL_law_259 : decode cL_law 259 = .ok (.invokevirtual 69, 3) := by decide +kernel
theorem dL_law_262 : decode cL_law 262 = .ok (.ifCond .lt 7, 3) := by decide +kernel
theorem dL_law_265 : decode cL_law 265 = .ok (.iconst 1, 1) := by decide +kernel
theorem dL_law_266 : decode cL_law 266 = .ok (.goto 4, 3) := by decide +kernel
theorem dL_law_269 : decode cL_law 269 = .ok (.iconst 0, 1) := by decide +kernel
theorem dL_law_270 : decode cL_law 270 = .ok (.istore 6, 2) := by decide +kernel
theorem dL_law_272 : decode cL_law 272 = .ok (.iload 6, 2) := by decide +kernel
theorem dL_law_274 : decode cL_law 274 = .ok (.ifCond .eq 54, 3) := by decide +kernel
theorem dL_law_277 : decode cL_law 277 = .ok (.iload 5, 2) := by decide +kernel
theorem dL_law_279 : decode cL_law 279 = .ok (.bipush (-9), 2) := by decide +kernel
theorem dL_law_281 : decode cL_law 281 = .ok (.if_icmp .ne 14, 3) := by decide +kernel
theorem dL_law_284 : decode cL_law 284 = .ok (.aload_n 1, 1) := by decide +kernel
theorem dL_law_285 : decode cL_law 285 = .ok (.iconst 2, 1) := by decide +kernel
theorem dL_law_286 : decode cL_law 286 = .ok (.invokevirtual 58, 3) := by decide +kernel
theorem dL_law_289 : decode cL_law 289 = .ok (.ifCond .ne 39, 3) := by decide +kernel
theorem dL_law_292 : decode cL_law 292 = .ok (.goto 32, 3) := by decide +kernel
theorem dL_law_295 : decode cL_law 295 = .ok (.aload_n 1, 1) := by decide +kernel
theorem dL_law_296 : decode cL_law 296 = .ok (.iload 5, 2) := by decide +kernel
theorem dL_law_298 : decode cL_law 298 = .ok (.iconst 1, 1) := by decide +kernel
theorem dL_law_299 : decode cL_law 299 = .ok (.invokevirtual 26, 3) := by decide +kernel
theorem dL_law_302 : decode cL_law 302 = .ok (.iconst 1, 1) := by decide +kernel
theorem dL_law_303 : decode cL_law 303 = .ok (.if_icmp .ne 25, 3) := by decide +kernel
theorem dL_law_306 : decode cL_law 306 = .ok (.aload_n 1, 1) := by decide +kernel
theorem dL_law_307 : decode cL_law 307 = .ok (.iload 5, 2) := by decide +kernel
theorem dL_law_309 : decode cL_law 309 = .ok (.iconst 0, 1) := by decide +kernel
theorem dL_law_310 : decode cL_law 310 = .ok (.invokevirtual 29, 3) := by decide +kernel
theorem dL_law_313 : decode cL_law 313 = .ok (.iload_n 3, 1) := by decide +kernel
theorem dL_law_314 : decode cL_law 314 = .ok (.if_icmp .gt 14, 3) := by decide +kernel
theorem dL_law_317 : decode cL_law 317 = .ok (.aload_n 1, 1) := by decide +kernel
theorem dL_law_318 : decode cL_law 318 = .ok (.invokevirtual 69, 3) := by decide +kernel
theorem dL_law_321 : decode cL_law 321 = .ok (.ifCond .lt 7, 3) := by decide +kernel
theorem dL_law_324 : decode cL_law 324 = .ok (.iconst 1, 1) := by decide +kernel
theorem dL_law_325 : decode cL_law 325 = .ok (.goto 4, 3) := by decide +kernel
theorem dL_law_328 : decode cL_law 328 = .ok (.iconst 0, 1) := by decide +kernel
theorem dL_law_329 : decode cL_law 329 = .ok (.istore 6, 2) := by decide +kernel
theorem dL_law_331 : decode cL_law 331 = .ok (.iload 6, 2) := by decide +kernel
theorem dL_law_333 : decode cL_law 333 = .ok (.ifCond .eq 24, 3) := by decide +kernel
theorem dL_law_336 : decode cL_law 336 = .ok (.aload_n 1, 1) := by decide +kernel
theorem dL_law_337 : decode cL_law 337 = .ok (.iconst 4, 1) := by decide +kernel
theorem dL_law_338 : decode cL_law 338 = .ok (.invokevirtual 58, 3) := by decide +kernel
theorem dL_law_341 : decode cL_law 341 = .ok (.iload_n 3, 1) := by decide +kernel
theorem dL_law_342 : decode cL_law 342 = .ok (.if_icmp .ne 15, 3) := by decide +kernel
theorem dL_law_345 : decode cL_law 345 = .ok (.aload_n 1, 1) := by decide +kernel
theorem dL_law_346 : decode cL_law 346 = .ok (.iload_n 2, 1) := by decide +kernel
theorem dL_law_347 : decode cL_law 347 = .ok (.invokestatic 95, 3) := by decide +kernel
theorem dL_law_350 : decode cL_law 350 = .ok (.ifCond .eq 7, 3) := by decide +kernel
theorem dL_law_353 : decode cL_law 353 = .ok (.iconst 1, 1) := by decide +kernel
theorem dL_law_354 : decode cL_law 354 = .ok (.goto 4, 3) := by decide +kernel
theorem dL_law_357 : decode cL_law 357 = .ok (.iconst 0, 1) := by decide +kernel
theorem dL_law_358 : decode cL_law 358 = .ok (.ireturn, 1) := by decide +kernel
