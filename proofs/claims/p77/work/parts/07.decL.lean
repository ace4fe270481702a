theorem dL_cell_0 : decode cL_cell 0 = .ok (.iload_n 1, 1) := by decide +kernel
theorem dL_cell_1 : decode cL_cell 1 = .ok (.aload_n 0, 1) := by decide +kernel
theorem dL_cell_2 : decode cL_cell 2 = .ok (.arraylength, 1) := by decide +kernel
theorem dL_cell_3 : decode cL_cell 3 = .ok (.if_icmp .ge 9, 3) := by decide +kernel
theorem dL_cell_6 : decode cL_cell 6 = .ok (.aload_n 0, 1) := by decide +kernel
theorem dL_cell_7 : decode cL_cell 7 = .ok (.iload_n 1, 1) := by decide +kernel
theorem dL_cell_8 : decode cL_cell 8 = .ok (.iaload, 1) := by decide +kernel
theorem dL_cell_9 : decode cL_cell 9 = .ok (.goto 15, 3) := by decide +kernel
theorem dL_cell_12 : decode cL_cell 12 = .ok (.sipush 7919, 3) := by decide +kernel
theorem dL_cell_15 : decode cL_cell 15 = .ok (.iload_n 1, 1) := by decide +kernel
theorem dL_cell_16 : decode cL_cell 16 = .ok (.iconst 3, 1) := by decide +kernel
theorem dL_cell_17 : decode cL_cell 17 = .ok (.iadd, 1) := by decide +kernel
theorem dL_cell_18 : decode cL_cell 18 = .ok (.imul, 1) := by decide +kernel
theorem dL_cell_19 : decode cL_cell 19 = .ok (.iload_n 1, 1) := by decide +kernel
theorem dL_cell_20 : decode cL_cell 20 = .ok (.bipush 11, 2) := by decide +kernel
theorem dL_cell_22 : decode cL_cell 22 = .ok (.iadd, 1) := by decide +kernel
theorem dL_cell_23 : decode cL_cell 23 = .ok (.imul, 1) := by decide +kernel
theorem dL_cell_24 : decode cL_cell 24 = .ok (.ireturn, 1) := by decide +kernel
theorem dL_low_0 : decode cL_low 0 = .ok (.iload_n 0, 1) := by decide +kernel
theorem dL_low_1 : decode cL_low 1 = .ok (.ldc 7, 2) := by decide +kernel
theorem dL_low_3 : decode cL_low 3 = .ok (.iand, 1) := by decide +kernel
theorem dL_low_4 : decode cL_low 4 = .ok (.iload_n 1, 1) := by decide +kernel
theorem dL_low_5 : decode cL_low 5 = .ok (.irem, 1) := by decide +kernel
theorem dL_low_6 : decode cL_low 6 = .ok (.ireturn, 1) := by decide +kernel
theorem dL_told_0 : decode cL_told 0 = .ok (.ldc2_w 8, 3) := by decide +kernel
theorem dL_told_3 : decode cL_told 3 = .ok (.lstore_n 1, 1) := by decide +kernel
theorem dL_told_4 : decode cL_told 4 = .ok (.ldc2_w 10, 3) := by decide +kernel
theorem dL_told_7 : decode cL_told 7 = .ok (.ldc2_w 10, 3) := by decide +kernel
theorem dL_told_10 : decode cL_told 10 = .ok (.ldc2_w 10, 3) := by decide +kernel
theorem dL_told_13 : decode cL_told 13 = .ok (.lload_n 1, 1) := by decide +kernel
theorem dL_told_14 : decode cL_told 14 = .ok (.lmul, 1) := by decide +kernel
theorem dL_told_15 : decode cL_told 15 = .ok (.aload_n 0, 1) := by decide +kernel
theorem dL_told_16 : decode cL_told 16 = .ok (.invokevirtual 12, 3) := by decide +kernel
theorem dL_told_19 : decode cL_told 19 = .ok (.i2l, 1) := by decide +kernel
theorem dL_told_20 : decode cL_told 20 = .ok (.ladd, 1) := by decide +kernel
theorem dL_told_21 : decode cL_told 21 = .ok (.lmul, 1) := by decide +kernel
theorem dL_told_22 : decode cL_told 22 = .ok (.aload_n 0, 1) := by decide +kernel
theorem dL_told_23 : decode cL_told 23 = .ok (.invokevirtual 18, 3) := by decide +kernel
theorem dL_told_26 : decode cL_told 26 = .ok (.i2l, 1) := by decide +kernel
theorem dL_told_27 : decode cL_told 27 = .ok (.ladd, 1) := by decide +kernel
theorem dL_told_28 : decode cL_told 28 = .ok (.lmul, 1) := by decide +kernel
theorem dL_told_29 : decode cL_told 29 = .ok (.aload_n 0, 1) := by decide +kernel
theorem dL_told_30 : decode cL_told 30 = .ok (.invokevirtual 21, 3) := by decide +kernel
theorem dL_told_33 : decode cL_told 33 = .ok (.i2l, 1) := by decide +kernel
theorem dL_told_34 : decode cL_told 34 = .ok (.ladd, 1) := by decide +kernel
theorem dL_told_35 : decode cL_told 35 = .ok (.lstore_n 1, 1) := by decide +kernel
theorem dL_told_36 : decode cL_told 36 = .ok (.ldc2_w 10, 3) := by decide +kernel
theorem dL_told_39 : decode cL_told 39 = .ok (.ldc2_w 10, 3) := by decide +kernel
theorem dL_told_42 : decode cL_told 42 = .ok (.lload_n 1, 1) := by decide +kernel
theorem dL_told_43 : decode cL_told 43 = .ok (.lmul, 1) := by decide +kernel
theorem dL_told_44 : decode cL_told 44 = .ok (.aload_n 0, 1) := by decide +kernel
theorem dL_told_45 : decode cL_told 45 = .ok (.invokevirtual 24, 3) := by decide +kernel
theorem dL_told_48 : decode cL_told 48 = .ok (.i2l, 1) := by decide +kernel
theorem dL_told_49 : decode cL_told 49 = .ok (.ladd, 1) := by decide +kernel
theorem dL_told_50 : decode cL_told 50 = .ok (.lmul, 1) := by decide +kernel
theorem dL_told_51 : decode cL_told 51 = .ok (.aload_n 0, 1) := by decide +kernel
theorem dL_told_52 : decode cL_told 52 = .ok (.invokevirtual 27, 3) := by decide +kernel
theorem dL_told_55 : decode cL_told 55 = .ok (.i2l, 1) := by decide +kernel
theorem dL_told_56 : decode cL_told 56 = .ok (.ladd, 1) := by decide +kernel
theorem dL_told_57 : decode cL_told 57 = .ok (.lstore_n 1, 1) := by decide +kernel
theorem dL_told_58 : decode cL_told 58 = .ok (.iconst 0, 1) := by decide +kernel
theorem dL_told_59 : decode cL_told 59 = .ok (.istore_n 3, 1) := by decide +kernel
theorem dL_told_60 : decode cL_told 60 = .ok (.iload_n 3, 1) := by decide +kernel
theorem dL_told_61 : decode cL_told 61 = .ok (.aload_n 0, 1) := by decide +kernel
theorem dL_told_62 : decode cL_told 62 = .ok (.invokevirtual 12, 3) := by decide +kernel
theorem dL_told_65 : decode cL_told 65 = .ok (.if_icmp .ge 142, 3) := by decide +kernel
theorem dL_told_68 : decode cL_told 68 = .ok (.ldc2_w 10, 3) := by decide +kernel
theorem dL_told_71 : decode cL_told 71 = .ok (.ldc2_w 10, 3) := by decide +kernel
theorem dL_told_74 : decode cL_told 74 = .ok (.ldc2_w 10, 3) := by decide +kernel
theorem dL_told_77 : decode cL_told 77 = .ok (.lload_n 1, 1) := by decide +kernel
theorem dL_told_78 : decode cL_told 78 = .ok (.lmul, 1) := by decide +kernel
theorem dL_told_79 : decode cL_told 79 = .ok (.aload_n 0, 1) := by decide +kernel
theorem dL_told_80 : decode cL_told 80 = .ok (.iload_n 3, 1) := by decide +kernel
theorem dL_told_81 : decode cL_told 81 = .ok (.invokevirtual 30, 3) := by decide +kernel
theorem dL_told_84 : decode cL_told 84 = .ok (.i2l, 1) := by decide +kernel
theorem dL_told_85 : decode cL_told 85 = .ok (.ladd, 1) := by decide +kernel
theorem dL_told_86 : decode cL_told 86 = .ok (.lmul, 1) := by decide +kernel
theorem dL_told_87 : decode cL_told 87 = .ok (.aload_n 0, 1) := by decide +kernel
theorem dL_told_88 : decode cL_told 88 = .ok (.iload_n 3, 1) := by decide +kernel
theorem dL_told_89 : decode cL_told 89 = .ok (.invokevirtual 34, 3) := by decide +kernel
theorem dL_told_92 : decode cL_told 92 = .ok (.i2l, 1) := by decide +kernel
theorem dL_told_93 : decode cL_told 93 = .ok (.ladd, 1) := by decide +kernel
theorem dL_told_94 : decode cL_told 94 = .ok (.lmul, 1) := by decide +kernel
theorem dL_told_95 : decode cL_told 95 = .ok (.aload_n 0, 1) := by decide +kernel
theorem dL_told_96 : decode cL_told 96 = .ok (.iload_n 3, 1) := by decide +kernel
theorem dL_told_97 : decode cL_told 97 = .ok (.invokevirtual 37, 3) := by decide +kernel
theorem dL_told_100 : decode cL_told 100 = .ok (.i2l, 1) := by decide +kernel
theorem dL_told_101 : decode cL_told 101 = .ok (.ladd, 1) := by decide +kernel
theorem dL_told_102 : decode cL_told 102 = .ok (.lstore_n 1, 1) := by decide +kernel
theorem dL_told_103 : decode cL_told 103 = .ok (.ldc2_w 10, 3) := by decide +kernel
theorem dL_told_106 : decode cL_told 106 = .ok (.ldc2_w 10, 3) := by decide +kernel
theorem dL_told_109 : decode cL_told 109 = .ok (.ldc2_w 10, 3) := by decide +kernel
theorem dL_told_112 : decode cL_told 112 = .ok (.lload_n 1, 1) := by decide +kernel
theorem dL_told_113 : decode cL_told 113 = .ok (.lmul, 1) := by decide +kernel
theorem dL_told_114 : decode cL_told 114 = .ok (.aload_n 0, 1) := by decide +kernel
theorem dL_told_115 : decode cL_told 115 = .ok (.iload_n 3, 1) := by decide +kernel
theorem dL_told_116 : decode cL_told 116 = .ok (.invokevirtual 40, 3) := by decide +kernel
theorem dL_told_119 : decode cL_told 119 = .ok (.ifCond .eq 13, 3) := by decide +kernel
theorem dL_told_122 : decode cL_told 122 = .ok (.iconst 1, 1) := by decide +kernel
theorem dL_told_123 : decode cL_told 123 = .ok (.aload_n 0, 1) := by decide +kernel
theorem dL_told_124 : decode cL_told 124 = .ok (.iload_n 3, 1) := by decide +kernel
theorem dL_told_125 : decode cL_told 125 = .ok (.invokevirtual 44, 3) := by decide +kernel
theorem dL_told_128 : decode cL_told 128 = .ok (.iadd, 1) := by decide +kernel
theorem dL_told_129 : decode cL_told 129 = .ok (.goto 4, 3) := by decide +kernel
theorem dL_told_132 : decode cL_told 132 = .ok (.iconst 0, 1) := by decide +kernel
theorem dL_told_133 : decode cL_told 133 = .ok (.i2l, 1) := by decide +kernel
theorem dL_told_134 : decode cL_told 134 = .ok (.ladd, 1) := by decide +kernel
theorem dL_told_135 : decode cL_told 135 = .ok (.lmul, 1) := by decide +kernel
theorem dL_told_136 : decode cL_told 136 = .ok (.aload_n 0, 1) := by decide +kernel
theorem dL_told_137 : decode cL_told 137 = .ok (.iload_n 3, 1) := by decide +kernel
theorem dL_told_138 : decode cL_told 138 = .ok (.invokevirtual 47, 3) := by decide +kernel
theorem dL_told_141 : decode cL_told 141 = .ok (.ifCond .eq 13, 3) := by decide +kernel
theorem dL_told_144 : decode cL_told 144 = .ok (.iconst 1, 1) := by decide +kernel
theorem dL_told_145 : decode cL_told 145 = .ok (.aload_n 0, 1) := by decide +kernel
theorem dL_told_146 : decode cL_told 146 = .ok (.iload_n 3, 1) := by decide +kernel
theorem dL_told_147 : decode cL_told 147 = .ok (.invokevirtual 50, 3) := by decide +kernel
theorem dL_told_150 : decode cL_told 150 = .ok (.iadd, 1) := by decide +kernel
theorem dL_told_151 : decode cL_told 151 = .ok (.goto 4, 3) := by decide +kernel
theorem dL_told_154 : decode cL_told 154 = .ok (.iconst 0, 1) := by decide +kernel
theorem dL_told_155 : decode cL_told 155 = .ok (.i2l, 1) := by decide +kernel
theorem dL_told_156 : decode cL_told 156 = .ok (.ladd, 1) := by decide +kernel
theorem dL_told_157 : decode cL_told 157 = .ok (.lmul, 1) := by decide +kernel
theorem dL_told_158 : decode cL_told 158 = .ok (.aload_n 0, 1) := by decide +kernel
theorem dL_told_159 : decode cL_told 159 = .ok (.iload_n 3, 1) := by decide +kernel
theorem dL_told_160 : decode cL_told 160 = .ok (.invokevirtual 53, 3) := by decide +kernel
theorem dL_told_163 : decode cL_told 163 = .ok (.i2l, 1) := by decide +kernel
theorem dL_told_164 : decode cL_told 164 = .ok (.ladd, 1) := by decide +kernel
theorem dL_told_165 : decode cL_told 165 = .ok (.lstore_n 1, 1) := by decide +kernel
theorem dL_told_166 : decode cL_told 166 = .ok (.ldc2_w 10, 3) := by decide +kernel
theorem dL_told_169 : decode cL_told 169 = .ok (.ldc2_w 10, 3) := by decide +kernel
theorem dL_told_172 : decode cL_told 172 = .ok (.ldc2_w 10, 3) := by decide +kernel
theorem dL_told_175 : decode cL_told 175 = .ok (.lload_n 1, 1) := by decide +kernel
theorem dL_told_176 : decode cL_told 176 = .ok (.lmul, 1) := by decide +kernel
theorem dL_told_177 : decode cL_told 177 = .ok (.aload_n 0, 1) := by decide +kernel
theorem dL_told_178 : decode cL_told 178 = .ok (.iload_n 3, 1) := by decide +kernel
theorem dL_told_179 : decode cL_told 179 = .ok (.invokevirtual 56, 3) := by decide +kernel
theorem dL_told_182 : decode cL_told 182 = .ok (.i2l, 1) := by decide +kernel
theorem dL_told_183 : decode cL_told 183 = .ok (.ladd, 1) := by decide +kernel
theorem dL_told_184 : decode cL_told 184 = .ok (.lmul, 1) := by decide +kernel
theorem dL_told_185 : decode cL_told 185 = .ok (.aload_n 0, 1) := by decide +kernel
theorem dL_told_186 : decode cL_told 186 = .ok (.iload_n 3, 1) := by decide +kernel
theorem dL_told_187 : decode cL_told 187 = .ok (.invokevirtual 59, 3) := by decide +kernel
theorem dL_told_190 : decode cL_told 190 = .ok (.i2l, 1) := by decide +kernel
theorem dL_told_191 : decode cL_told 191 = .ok (.ladd, 1) := by decide +kernel
theorem dL_told_192 : decode cL_told 192 = .ok (.lmul, 1) := by decide +kernel
theorem dL_told_193 : decode cL_told 193 = .ok (.aload_n 0, 1) := by decide +kernel
theorem dL_told_194 : decode cL_told 194 = .ok (.iload_n 3, 1) := by decide +kernel
theorem dL_told_195 : decode cL_told 195 = .ok (.invokevirtual 62, 3) := by decide +kernel
theorem dL_told_198 : decode cL_told 198 = .ok (.i2l, 1) := by decide +kernel
theorem dL_told_199 : decode cL_told 199 = .ok (.ladd, 1) := by decide +kernel
theorem dL_told_200 : decode cL_told 200 = .ok (.lstore_n 1, 1) := by decide +kernel
theorem dL_told_201 : decode cL_told 201 = .ok (.iinc 3 1, 3) := by decide +kernel
theorem dL_told_204 : decode cL_told 204 = .ok (.goto (-144), 3) := by decide +kernel
theorem dL_told_207 : decode cL_told 207 = .ok (.iconst 0, 1) := by decide +kernel
theorem dL_told_208 : decode cL_told 208 = .ok (.istore_n 3, 1) := by decide +kernel
theorem dL_told_209 : decode cL_told 209 = .ok (.iload_n 3, 1) := by decide +kernel
theorem dL_told_210 : decode cL_told 210 = .ok (.iconst 5, 1) := by decide +kernel
theorem dL_told_211 : decode cL_told 211 = .ok (.if_icmp .ge 33, 3) := by decide +kernel
theorem dL_told_214 : decode cL_told 214 = .ok (.ldc2_w 10, 3) := by decide +kernel
theorem dL_told_217 : decode cL_told 217 = .ok (.ldc2_w 10, 3) := by decide +kernel
theorem dL_told_220 : decode cL_told 220 = .ok (.lload_n 1, 1) := by decide +kernel
theorem dL_told_221 : decode cL_told 221 = .ok (.lmul, 1) := by decide +kernel
theorem dL_told_222 : decode cL_told 222 = .ok (.aload_n 0, 1) := by decide +kernel
theorem dL_told_223 : decode cL_told 223 = .ok (.iload_n 3, 1) := by decide +kernel
theorem dL_told_224 : decode cL_told 224 = .ok (.invokevirtual 65, 3) := by decide +kernel
theorem dL_told_227 : decode cL_told 227 = .ok (.i2l, 1) := by decide +kernel
theorem dL_told_228 : decode cL_told 228 = .ok (.ladd, 1) := by decide +kernel
theorem dL_told_229 : decode cL_told 229 = .ok (.lmul, 1) := by decide +kernel
theorem dL_told_230 : decode cL_told 230 = .ok (.aload_n 0, 1) := by decide +kernel
theorem dL_told_231 : decode cL_told 231 = .ok (.iload_n 3, 1) := by decide +kernel
theorem dL_told_232 : decode cL_told 232 = .ok (.invokevirtual 68, 3) := by decide +kernel
theorem dL_told_235 : decode cL_told 235 = .ok (.i2l, 1) := by decide +kernel
theorem dL_told_236 : decode cL_told 236 = .ok (.ladd, 1) := by decide +kernel
theorem dL_told_237 : decode cL_told 237 = .ok (.lstore_n 1, 1) := by decide +kernel
theorem dL_told_238 : decode cL_told 238 = .ok (.iinc 3 1, 3) := by decide +kernel
theorem dL_told_241 : decode cL_told 241 = .ok (.goto (-32), 3) := by decide +kernel
theorem dL_told_244 : decode cL_told 244 = .ok (.iconst 0, 1) := by decide +kernel
theorem dL_told_245 : decode cL_told 245 = .ok (.istore_n 3, 1) := by decide +kernel
theorem dL_told_246 : decode cL_told 246 = .ok (.iload_n 3, 1) := by decide +kernel
theorem dL_told_247 : decode cL_told 247 = .ok (.iconst 4, 1) := by decide +kernel
theorem dL_told_248 : decode cL_told 248 = .ok (.if_icmp .ge 33, 3) := by decide +kernel
theorem dL_told_251 : decode cL_told 251 = .ok (.ldc2_w 10, 3) := by decide +kernel
theorem dL_told_254 : decode cL_told 254 = .ok (.ldc2_w 10, 3) := by decide +kernel
theorem dL_told_257 : decode cL_told 257 = .ok (.lload_n 1, 1) := by decide +kernel
theorem dL_told_258 : decode cL_told 258 = .ok (.lmul, 1) := by decide +kernel
theorem dL_told_259 : decode cL_told 259 = .ok (.aload_n 0, 1) := by decide +kernel
theorem dL_told_260 : decode cL_told 260 = .ok (.iload_n 3, 1) := by decide +kernel
theorem dL_told_261 : decode cL_told 261 = .ok (.invokevirtual 71, 3) := by decide +kernel
theorem dL_told_264 : decode cL_told 264 = .ok (.i2l, 1) := by decide +kernel
theorem dL_told_265 : decode cL_told 265 = .ok (.ladd, 1) := by decide +kernel
theorem dL_told_266 : decode cL_told 266 = .ok (.lmul, 1) := by decide +kernel
theorem dL_told_267 : decode cL_told 267 = .ok (.aload_n 0, 1) := by decide +kernel
theorem dL_told_268 : decode cL_told 268 = .ok (.iload_n 3, 1) := by decide +kernel
theorem dL_told_269 : decode cL_told 269 = .ok (.invokevirtual 74, 3) := by decide +kernel
theorem dL_told_272 : decode cL_told 272 = .ok (.i2l, 1) := by decide +kernel
theorem dL_told_273 : decode cL_told 273 = .ok (.ladd, 1) := by decide +kernel
theorem dL_told_274 : decode cL_told 274 = .ok (.lstore_n 1, 1) := by decide +kernel
theorem dL_told_275 : decode cL_told 275 = .ok (.iinc 3 1, 3) := by decide +kernel
theorem dL_told_278 : decode cL_told 278 = .ok (.goto (-32), 3) := by decide +kernel
theorem dL_told_281 : decode cL_told 281 = .ok (.lload_n 1, 1) := by decide +kernel
theorem dL_told_282 : decode cL_told 282 = .ok (.lreturn, 1) := by decide +kernel
theorem dL_reaches_0 : decode cL_reaches 0 = .ok (.iconst 1, 1) := by decide +kernel
theorem dL_reaches_1 : decode cL_reaches 1 = .ok (.iload_n 1, 1) := by decide +kernel
theorem dL_reaches_2 : decode cL_reaches 2 = .ok (.ishl, 1) := by decide +kernel
theorem dL_reaches_3 : decode cL_reaches 3 = .ok (.istore_n 3, 1) := by decide +kernel
theorem dL_reaches_4 : decode cL_reaches 4 = .ok (.iconst 0, 1) := by decide +kernel
theorem dL_reaches_5 : decode cL_reaches 5 = .ok (.istore 4, 2) := by decide +kernel
theorem dL_reaches_7 : decode cL_reaches 7 = .ok (.iload 4, 2) := by decide +kernel
theorem dL_reaches_9 : decode cL_reaches 9 = .ok (.aload_n 0, 1) := by decide +kernel
theorem dL_reaches_10 : decode cL_reaches 10 = .ok (.invokevirtual 12, 3) := by decide +kernel
theorem dL_reaches_13 : decode cL_reaches 13 = .ok (.if_icmp .ge 77, 3) := by decide +kernel
theorem dL_reaches_16 : decode cL_reaches 16 = .ok (.iconst 0, 1) := by decide +kernel
theorem dL_reaches_17 : decode cL_reaches 17 = .ok (.istore 5, 2) := by decide +kernel
theorem dL_reaches_19 : decode cL_reaches 19 = .ok (.iload 5, 2) := by decide +kernel
theorem dL_reaches_21 : decode cL_reaches 21 = .ok (.aload_n 0, 1) := by decide +kernel
theorem dL_reaches_22 : decode cL_reaches 22 = .ok (.invokevirtual 12, 3) := by decide +kernel
theorem dL_reaches_25 : decode cL_reaches 25 = .ok (.if_icmp .ge 59, 3) := by decide +kernel
theorem dL_reaches_28 : decode cL_reaches 28 = .ok (.iconst 0, 1) := by decide +kernel
theorem dL_reaches_29 : decode cL_reaches 29 = .ok (.istore 6, 2) := by decide +kernel
theorem dL_reaches_31 : decode cL_reaches 31 = .ok (.iload 6, 2) := by decide +kernel
theorem dL_reaches_33 : decode cL_reaches 33 = .ok (.aload_n 0, 1) := by decide +kernel
theorem dL_reaches_34 : decode cL_reaches 34 = .ok (.invokevirtual 12, 3) := by decide +kernel
theorem dL_reaches_37 : decode cL_reaches 37 = .ok (.if_icmp .ge 41, 3) := by decide +kernel
theorem dL_reaches_40 : decode cL_reaches 40 = .ok (.iload_n 3, 1) := by decide +kernel
theorem dL_reaches_41 : decode cL_reaches 41 = .ok (.iload_n 3, 1) := by decide +kernel
theorem dL_reaches_42 : decode cL_reaches 42 = .ok (.iload 5, 2) := by decide +kernel
theorem dL_reaches_44 : decode cL_reaches 44 = .ok (.ishr, 1) := by decide +kernel
theorem dL_reaches_45 : decode cL_reaches 45 = .ok (.iconst 1, 1) := by decide +kernel
theorem dL_reaches_46 : decode cL_reaches 46 = .ok (.iand, 1) := by decide +kernel
theorem dL_reaches_47 : decode cL_reaches 47 = .ok (.iconst 1, 1) := by decide +kernel
theorem dL_reaches_48 : decode cL_reaches 48 = .ok (.if_icmp .ne 21, 3) := by decide +kernel
theorem dL_reaches_51 : decode cL_reaches 51 = .ok (.aload_n 0, 1) := by decide +kernel
theorem dL_reaches_52 : decode cL_reaches 52 = .ok (.iload 5, 2) := by decide +kernel
theorem dL_reaches_54 : decode cL_reaches 54 = .ok (.iload 6, 2) := by decide +kernel
theorem dL_reaches_56 : decode cL_reaches 56 = .ok (.invokevirtual 77, 3) := by decide +kernel
theorem dL_reaches_59 : decode cL_reaches 59 = .ok (.ifCond .eq 10, 3) := by decide +kernel
theorem dL_reaches_62 : decode cL_reaches 62 = .ok (.iconst 1, 1) := by decide +kernel
theorem dL_reaches_63 : decode cL_reaches 63 = .ok (.iload 6, 2) := by decide +kernel
theorem dL_reaches_65 : decode cL_reaches 65 = .ok (.ishl, 1) := by decide +kernel
theorem dL_reaches_66 : decode cL_reaches 66 = .ok (.goto 4, 3) := by decide +kernel
theorem dL_reaches_69 : decode cL_reaches 69 = .ok (.iconst 0, 1) := by decide +kernel
theorem dL_reaches_70 : decode cL_reaches 70 = .ok (.ior, 1) := by decide +kernel
theorem dL_reaches_71 : decode cL_reaches 71 = .ok (.istore_n 3, 1) := by decide +kernel
theorem dL_reaches_72 : decode cL_reaches 72 = .ok (.iinc 6 1, 3) := by decide +kernel
theorem dL_reaches_75 : decode cL_reaches 75 = .ok (.goto (-44), 3) := by decide +kernel
theorem dL_reaches_78 : decode cL_reaches 78 = .ok (.iinc 5 1, 3) := by decide +kernel
theorem dL_reaches_81 : decode cL_reaches 81 = .ok (.goto (-62), 3) := by decide +kernel
theorem dL_reaches_84 : decode cL_reaches 84 = .ok (.iinc 4 1, 3) := by decide +kernel
theorem dL_reaches_87 : decode cL_reaches 87 = .ok (.goto (-80), 3) := by decide +kernel
theorem dL_reaches_90 : decode cL_reaches 90 = .ok (.iload_n 3, 1) := by decide +kernel
theorem dL_reaches_91 : decode cL_reaches 91 = .ok (.iload_n 2, 1) := by decide +kernel
theorem dL_reaches_92 : decode cL_reaches 92 = .ok (.ishr, 1) := by decide +kernel
theorem dL_reaches_93 : decode cL_reaches 93 = .ok (.iconst 1, 1) := by decide +kernel
theorem dL_reaches_94 : decode cL_reaches 94 = .ok (.iand, 1) := by decide +kernel
theorem dL_reaches_95 : decode cL_reaches 95 = .ok (.iconst 1, 1) := by decide +kernel
theorem dL_reaches_96 : decode cL_reaches 96 = .ok (.if_icmp .ne 7, 3) := by decide +kernel
theorem dL_reaches_99 : decode cL_reaches 99 = .ok (.iconst 1, 1) := by decide +kernel
theorem dL_reaches_100 : decode cL_reaches 100 = .ok (.goto 4, 3) := by decide +kernel
theorem dL_reaches_103 : decode cL_reaches 103 = .ok (.iconst 0, 1) := by decide +kernel
theorem dL_reaches_104 : decode cL_reaches 104 = .ok (.ireturn, 1) := by decide +kernel
theorem dL_move_0 : decode cL_move 0 = .ok (.aload_n 0, 1) := by decide +kernel
theorem dL_move_1 : decode cL_move 1 = .ok (.iload_n 1, 1) := by decide +kernel
theorem dL_move_2 : decode cL_move 2 = .ok (.invokevirtual 30, 3) := by decide +kernel
theorem dL_move_5 : decode cL_move 5 = .ok (.tableswitch 69 0 2 #[27, 44, 51], 27) := by decide +kernel
theorem dL_move_32 : decode cL_move 32 = .ok (.aload_n 0, 1) := by decide +kernel
theorem dL_move_33 : decode cL_move 33 = .ok (.iload_n 1, 1) := by decide +kernel
theorem dL_move_34 : decode cL_move 34 = .ok (.invokevirtual 40, 3) := by decide +kernel
theorem dL_move_37 : decode cL_move 37 = .ok (.ifCond .eq 10, 3) := by decide +kernel
theorem dL_move_40 : decode cL_move 40 = .ok (.aload_n 0, 1) := by decide +kernel
theorem dL_move_41 : decode cL_move 41 = .ok (.iload_n 1, 1) := by decide +kernel
theorem dL_move_42 : decode cL_move 42 = .ok (.invokevirtual 81, 3) := by decide +kernel
theorem dL_move_45 : decode cL_move 45 = .ok (.iconst 1, 1) := by decide +kernel
theorem dL_move_46 : decode cL_move 46 = .ok (.ireturn, 1) := by decide +kernel
theorem dL_move_47 : decode cL_move 47 = .ok (.iconst 0, 1) := by decide +kernel
theorem dL_move_48 : decode cL_move 48 = .ok (.ireturn, 1) := by decide +kernel
theorem dL_move_49 : decode cL_move 49 = .ok (.aload_n 0, 1) := by decide +kernel
theorem dL_move_50 : decode cL_move 50 = .ok (.iload_n 1, 1) := by decide +kernel
theorem dL_move_51 : decode cL_move 51 = .ok (.invokevirtual 85, 3) := by decide +kernel
theorem dL_move_54 : decode cL_move 54 = .ok (.iconst 1, 1) := by decide +kernel
theorem dL_move_55 : decode cL_move 55 = .ok (.ireturn, 1) := by decide +kernel
theorem dL_move_56 : decode cL_move 56 = .ok (.aload_n 0, 1) := by decide +kernel
theorem dL_move_57 : decode cL_move 57 = .ok (.iload_n 1, 1) := by decide +kernel
theorem dL_move_58 : decode cL_move 58 = .ok (.invokevirtual 88, 3) := by decide +kernel
theorem dL_move_61 : decode cL_move 61 = .ok (.ifCond .eq 5, 3) := by decide +kernel
theorem dL_move_64 : decode cL_move 64 = .ok (.iconst 0, 1) := by decide +kernel
theorem dL_move_65 : decode cL_move 65 = .ok (.ireturn, 1) := by decide +kernel
theorem dL_move_66 : decode cL_move 66 = .ok (.aload_n 0, 1) := by decide +kernel
theorem dL_move_67 : decode cL_move 67 = .ok (.iload_n 1, 1) := by decide +kernel
theorem dL_move_68 : decode cL_move 68 = .ok (.invokevirtual 91, 3) := by decide +kernel
theorem dL_move_71 : decode cL_move 71 = .ok (.pop, 1) := by decide +kernel
theorem dL_move_72 : decode cL_move 72 = .ok (.iconst 1, 1) := by decide +kernel
theorem dL_move_73 : decode cL_move 73 = .ok (.ireturn, 1) := by decide +kernel
theorem dL_move_74 : decode cL_move 74 = .ok (.iconst 0, 1) := by decide +kernel
theorem dL_move_75 : decode cL_move 75 = .ok (.ireturn, 1) := by decide +kernel
theorem dL_act_0 : decode cL_act 0 = .ok (.aload_n 0, 1) := by decide +kernel
theorem dL_act_1 : decode cL_act 1 = .ok (.invokevirtual 12, 3) := by decide +kernel
theorem dL_act_4 : decode cL_act 4 = .ok (.istore_n 3, 1) := by decide +kernel
theorem dL_act_5 : decode cL_act 5 = .ok (.iload_n 3, 1) := by decide +kernel
theorem dL_act_6 : decode cL_act 6 = .ok (.ifCond .ne 7, 3) := by decide +kernel
theorem dL_act_9 : decode cL_act 9 = .ok (.iconst (-1), 1) := by decide +kernel
theorem dL_act_10 : decode cL_act 10 = .ok (.goto 10, 3) := by decide +kernel
theorem dL_act_13 : decode cL_act 13 = .ok (.iload_n 1, 1) := by decide +kernel
theorem dL_act_14 : decode cL_act 14 = .ok (.iconst 4, 1) := by decide +kernel
theorem dL_act_15 : decode cL_act 15 = .ok (.ishr, 1) := by decide +kernel
theorem dL_act_16 : decode cL_act 16 = .ok (.iload_n 3, 1) := by decide +kernel
theorem dL_act_17 : decode cL_act 17 = .ok (.invokestatic 94, 3) := by decide +kernel
theorem dL_act_20 : decode cL_act 20 = .ok (.istore 4, 2) := by decide +kernel
theorem dL_act_22 : decode cL_act 22 = .ok (.iload_n 2, 1) := by decide +kernel
theorem dL_act_23 : decode cL_act 23 = .ok (.iconst 5, 1) := by decide +kernel
theorem dL_act_24 : decode cL_act 24 = .ok (.invokestatic 94, 3) := by decide +kernel
theorem dL_act_27 : decode cL_act 27 = .ok (.istore 5, 2) := by decide +kernel
theorem dL_act_29 : decode cL_act 29 = .ok (.iload_n 1, 1) := by decide +kernel
theorem dL_act_30 : decode cL_act 30 = .ok (.bipush 15, 2) := by decide +kernel
theorem dL_act_32 : decode cL_act 32 = .ok (.iand, 1) := by decide +kernel
theorem dL_act_33 : decode cL_act 33 = .ok (.tableswitch 348 0 9 #[55, 85, 85, 85, 157, 157, 227, 281, 313, 328], 55) := by decide +kernel
theorem dL_act_88 : decode cL_act 88 = .ok (.iload_n 3, 1) := by decide +kernel
theorem dL_act_89 : decode cL_act 89 = .ok (.bipush 7, 2) := by decide +kernel
theorem dL_act_91 : decode cL_act 91 = .ok (.if_icmp .ne 5, 3) := by decide +kernel
theorem dL_act_94 : decode cL_act 94 = .ok (.iconst 0, 1) := by decide +kernel
theorem dL_act_95 : decode cL_act 95 = .ok (.ireturn, 1) := by decide +kernel
theorem dL_act_96 : decode cL_act 96 = .ok (.aload_n 0, 1) := by decide +kernel
theorem dL_act_97 : decode cL_act 97 = .ok (.iconst 1, 1) := by decide +kernel
theorem dL_act_98 : decode cL_act 98 = .ok (.iload_n 2, 1) := by decide +kernel
theorem dL_act_99 : decode cL_act 99 = .ok (.bipush 13, 2) := by decide +kernel
theorem dL_act_101 : decode cL_act 101 = .ok (.invokestatic 94, 3) := by decide +kernel
theorem dL_act_104 : decode cL_act 104 = .ok (.iadd, 1) := by decide +kernel
theorem dL_act_105 : decode cL_act 105 = .ok (.iload_n 2, 1) := by decide +kernel
theorem dL_act_106 : decode cL_act 106 = .ok (.iconst 4, 1) := by decide +kernel
theorem dL_act_107 : decode cL_act 107 = .ok (.ishr, 1) := by decide +kernel
theorem dL_act_108 : decode cL_act 108 = .ok (.iconst 4, 1) := by decide +kernel
theorem dL_act_109 : decode cL_act 109 = .ok (.invokestatic 94, 3) := by decide +kernel
theorem dL_act_112 : decode cL_act 112 = .ok (.invokevirtual 100, 3) := by decide +kernel
theorem dL_act_115 : decode cL_act 115 = .ok (.pop, 1) := by decide +kernel
theorem dL_act_116 : decode cL_act 116 = .ok (.iconst 1, 1) := by decide +kernel
theorem dL_act_117 : decode cL_act 117 = .ok (.ireturn, 1) := by decide +kernel
theorem dL_act_118 : decode cL_act 118 = .ok (.iload_n 3, 1) := by decide +kernel
theorem dL_act_119 : decode cL_act 119 = .ok (.ifCond .ne 7, 3) := by decide +kernel
theorem dL_act_122 : decode cL_act 122 = .ok (.iconst (-1), 1) := by decide +kernel
theorem dL_act_123 : decode cL_act 123 = .ok (.goto 8, 3) := by decide +kernel
theorem dL_act_126 : decode cL_act 126 = .ok (.iload_n 2, 1) := by decide +kernel
theorem dL_act_127 : decode cL_act 127 = .ok (.iload_n 3, 1) := by decide +kernel
theorem dL_act_128 : decode cL_act 128 = .ok (.invokestatic 94, 3) := by decide +kernel
theorem dL_act_131 : decode cL_act 131 = .ok (.istore 6, 2) := by decide +kernel
theorem dL_act_133 : decode cL_act 133 = .ok (.iload 4, 2) := by decide +kernel
theorem dL_act_135 : decode cL_act 135 = .ok (.ifCond .lt 42, 3) := by decide +kernel
theorem dL_act_138 : decode cL_act 138 = .ok (.iload 4, 2) := by decide +kernel
theorem dL_act_140 : decode cL_act 140 = .ok (.iload 6, 2) := by decide +kernel
theorem dL_act_142 : decode cL_act 142 = .ok (.if_icmp .eq 35, 3) := by decide +kernel
theorem dL_act_145 : decode cL_act 145 = .ok (.aload_n 0, 1) := by decide +kernel
theorem dL_act_146 : decode cL_act 146 = .ok (.iload 4, 2) := by decide +kernel
theorem dL_act_148 : decode cL_act 148 = .ok (.invokevirtual 30, 3) := by decide +kernel
theorem dL_act_151 : decode cL_act 151 = .ok (.iconst 2, 1) := by decide +kernel
theorem dL_act_152 : decode cL_act 152 = .ok (.if_icmp .gt 25, 3) := by decide +kernel
theorem dL_act_155 : decode cL_act 155 = .ok (.aload_n 0, 1) := by decide +kernel
theorem dL_act_156 : decode cL_act 156 = .ok (.iload 4, 2) := by decide +kernel
theorem dL_act_158 : decode cL_act 158 = .ok (.iload 6, 2) := by decide +kernel
theorem dL_act_160 : decode cL_act 160 = .ok (.invokevirtual 77, 3) := by decide +kernel
theorem dL_act_163 : decode cL_act 163 = .ok (.ifCond .ne 14, 3) := by decide +kernel
theorem dL_act_166 : decode cL_act 166 = .ok (.aload_n 0, 1) := by decide +kernel
theorem dL_act_167 : decode cL_act 167 = .ok (.iload 6, 2) := by decide +kernel
theorem dL_act_169 : decode cL_act 169 = .ok (.iload 4, 2) := by decide +kernel
theorem dL_act_171 : decode cL_act 171 = .ok (.invokestatic 103, 3) := by decide +kernel
theorem dL_act_174 : decode cL_act 174 = .ok (.ifCond .eq 5, 3) := by decide +kernel
theorem dL_act_177 : decode cL_act 177 = .ok (.iconst 0, 1) := by decide +kernel
theorem dL_act_178 : decode cL_act 178 = .ok (.ireturn, 1) := by decide +kernel
theorem dL_act_179 : decode cL_act 179 = .ok (.aload_n 0, 1) := by decide +kernel
theorem dL_act_180 : decode cL_act 180 = .ok (.iload 4, 2) := by decide +kernel
theorem dL_act_182 : decode cL_act 182 = .ok (.iload 6, 2) := by decide +kernel
theorem dL_act_184 : decode cL_act 184 = .ok (.invokevirtual 107, 3) := by decide +kernel
theorem dL_act_187 : decode cL_act 187 = .ok (.pop, 1) := by decide +kernel
theorem dL_act_188 : decode cL_act 188 = .ok (.iconst 1, 1) := by decide +kernel
theorem dL_act_189 : decode cL_act 189 = .ok (.ireturn, 1) := by decide +kernel
theorem dL_act_190 : decode cL_act 190 = .ok (.iload 4, 2) := by decide +kernel
theorem dL_act_192 : decode cL_act 192 = .ok (.ifCond .lt 55, 3) := by decide +kernel
theorem dL_act_195 : decode cL_act 195 = .ok (.aload_n 0, 1) := by decide +kernel
theorem dL_act_196 : decode cL_act 196 = .ok (.iload 4, 2) := by decide +kernel
theorem dL_act_198 : decode cL_act 198 = .ok (.invokevirtual 30, 3) := by decide +kernel
theorem dL_act_201 : decode cL_act 201 = .ok (.iconst 2, 1) := by decide +kernel
theorem dL_act_202 : decode cL_act 202 = .ok (.if_icmp .gt 45, 3) := by decide +kernel
theorem dL_act_205 : decode cL_act 205 = .ok (.aload_n 0, 1) := by decide +kernel
theorem dL_act_206 : decode cL_act 206 = .ok (.iload 4, 2) := by decide +kernel
theorem dL_act_208 : decode cL_act 208 = .ok (.invokevirtual 40, 3) := by decide +kernel
theorem dL_act_211 : decode cL_act 211 = .ok (.ifCond .eq 14, 3) := by decide +kernel
theorem dL_act_214 : decode cL_act 214 = .ok (.aload_n 0, 1) := by decide +kernel
theorem dL_act_215 : decode cL_act 215 = .ok (.iload 4, 2) := by decide +kernel
theorem dL_act_217 : decode cL_act 217 = .ok (.invokevirtual 44, 3) := by decide +kernel
theorem dL_act_220 : decode cL_act 220 = .ok (.iload 5, 2) := by decide +kernel
theorem dL_act_222 : decode cL_act 222 = .ok (.if_icmp .eq 25, 3) := by decide +kernel
theorem dL_act_225 : decode cL_act 225 = .ok (.aload_n 0, 1) := by decide +kernel
theorem dL_act_226 : decode cL_act 226 = .ok (.iload 5, 2) := by decide +kernel
theorem dL_act_228 : decode cL_act 228 = .ok (.invokevirtual 110, 3) := by decide +kernel
theorem dL_act_231 : decode cL_act 231 = .ok (.aload_n 0, 1) := by decide +kernel
theorem dL_act_232 : decode cL_act 232 = .ok (.iload 4, 2) := by decide +kernel
theorem dL_act_234 : decode cL_act 234 = .ok (.invokevirtual 34, 3) := by decide +kernel
theorem dL_act_237 : decode cL_act 237 = .ok (.iadd, 1) := by decide +kernel
theorem dL_act_238 : decode cL_act 238 = .ok (.aload_n 0, 1) := by decide +kernel
theorem dL_act_239 : decode cL_act 239 = .ok (.iload 5, 2) := by decide +kernel
theorem dL_act_241 : decode cL_act 241 = .ok (.invokevirtual 65, 3) := by decide +kernel
theorem dL_act_244 : decode cL_act 244 = .ok (.if_icmp .le 5, 3) := by decide +kernel
theorem dL_act_247 : decode cL_act 247 = .ok (.iconst 0, 1) := by decide +kernel
theorem dL_act_248 : decode cL_act 248 = .ok (.ireturn, 1) := by decide +kernel
theorem dL_act_249 : decode cL_act 249 = .ok (.aload_n 0, 1) := by decide +kernel
theorem dL_act_250 : decode cL_act 250 = .ok (.iload 4, 2) := by decide +kernel
theorem dL_act_252 : decode cL_act 252 = .ok (.iload 5, 2) := by decide +kernel
theorem dL_act_254 : decode cL_act 254 = .ok (.invokevirtual 113, 3) := by decide +kernel
theorem dL_act_257 : decode cL_act 257 = .ok (.pop, 1) := by decide +kernel
theorem dL_act_258 : decode cL_act 258 = .ok (.iconst 1, 1) := by decide +kernel
theorem dL_act_259 : decode cL_act 259 = .ok (.ireturn, 1) := by decide +kernel
theorem dL_act_260 : decode cL_act 260 = .ok (.iload 4, 2) := by decide +kernel
theorem dL_act_262 : decode cL_act 262 = .ok (.ifCond .lt 36, 3) := by decide +kernel
theorem dL_act_265 : decode cL_act 265 = .ok (.aload_n 0, 1) := by decide +kernel
theorem dL_act_266 : decode cL_act 266 = .ok (.iload 4, 2) := by decide +kernel
theorem dL_act_268 : decode cL_act 268 = .ok (.invokevirtual 30, 3) := by decide +kernel
theorem dL_act_271 : decode cL_act 271 = .ok (.iconst 2, 1) := by decide +kernel
theorem dL_act_272 : decode cL_act 272 = .ok (.if_icmp .gt 26, 3) := by decide +kernel
theorem dL_act_275 : decode cL_act 275 = .ok (.aload_n 0, 1) := by decide +kernel
theorem dL_act_276 : decode cL_act 276 = .ok (.iload 4, 2) := by decide +kernel
theorem dL_act_278 : decode cL_act 278 = .ok (.invokevirtual 47, 3) := by decide +kernel
theorem dL_act_281 : decode cL_act 281 = .ok (.ifCond .eq 19, 3) := by decide +kernel
theorem dL_act_284 : decode cL_act 284 = .ok (.aload_n 0, 1) := by decide +kernel
theorem dL_act_285 : decode cL_act 285 = .ok (.iload 4, 2) := by decide +kernel
theorem dL_act_287 : decode cL_act 287 = .ok (.invokevirtual 50, 3) := by decide +kernel
theorem dL_act_290 : decode cL_act 290 = .ok (.iload_n 2, 1) := by decide +kernel
theorem dL_act_291 : decode cL_act 291 = .ok (.iconst 4, 1) := by decide +kernel
theorem dL_act_292 : decode cL_act 292 = .ok (.invokestatic 94, 3) := by decide +kernel
theorem dL_act_295 : decode cL_act 295 = .ok (.if_icmp .ne 5, 3) := by decide +kernel
theorem dL_act_298 : decode cL_act 298 = .ok (.iconst 0, 1) := by decide +kernel
theorem dL_act_299 : decode cL_act 299 = .ok (.ireturn, 1) := by decide +kernel
theorem dL_act_300 : decode cL_act 300 = .ok (.aload_n 0, 1) := by decide +kernel
theorem dL_act_301 : decode cL_act 301 = .ok (.iload 4, 2) := by decide +kernel
theorem dL_act_303 : decode cL_act 303 = .ok (.iload_n 2, 1) := by decide +kernel
theorem dL_act_304 : decode cL_act 304 = .ok (.iconst 4, 1) := by decide +kernel
theorem dL_act_305 : decode cL_act 305 = .ok (.invokestatic 94, 3) := by decide +kernel
theorem dL_act_308 : decode cL_act 308 = .ok (.invokevirtual 116, 3) := by decide +kernel
theorem dL_act_311 : decode cL_act 311 = .ok (.pop, 1) := by decide +kernel
theorem dL_act_312 : decode cL_act 312 = .ok (.iconst 1, 1) := by decide +kernel
theorem dL_act_313 : decode cL_act 313 = .ok (.ireturn, 1) := by decide +kernel
theorem dL_act_314 : decode cL_act 314 = .ok (.iload 4, 2) := by decide +kernel
theorem dL_act_316 : decode cL_act 316 = .ok (.ifCond .lt 19, 3) := by decide +kernel
theorem dL_act_319 : decode cL_act 319 = .ok (.aload_n 0, 1) := by decide +kernel
theorem dL_act_320 : decode cL_act 320 = .ok (.iload 4, 2) := by decide +kernel
theorem dL_act_322 : decode cL_act 322 = .ok (.invokevirtual 30, 3) := by decide +kernel
theorem dL_act_325 : decode cL_act 325 = .ok (.iconst 2, 1) := by decide +kernel
theorem dL_act_326 : decode cL_act 326 = .ok (.if_icmp .gt 9, 3) := by decide +kernel
theorem dL_act_329 : decode cL_act 329 = .ok (.iload_n 2, 1) := by decide +kernel
theorem dL_act_330 : decode cL_act 330 = .ok (.iconst 3, 1) := by decide +kernel
theorem dL_act_331 : decode cL_act 331 = .ok (.iand, 1) := by decide +kernel
theorem dL_act_332 : decode cL_act 332 = .ok (.ifCond .le 5, 3) := by decide +kernel
theorem dL_act_335 : decode cL_act 335 = .ok (.iconst 0, 1) := by decide +kernel
theorem dL_act_336 : decode cL_act 336 = .ok (.ireturn, 1) := by decide +kernel
theorem dL_act_337 : decode cL_act 337 = .ok (.aload_n 0, 1) := by decide +kernel
theorem dL_act_338 : decode cL_act 338 = .ok (.iload 4, 2) := by decide +kernel
theorem dL_act_340 : decode cL_act 340 = .ok (.invokevirtual 119, 3) := by decide +kernel
theorem dL_act_343 : decode cL_act 343 = .ok (.pop, 1) := by decide +kernel
theorem dL_act_344 : decode cL_act 344 = .ok (.iconst 1, 1) := by decide +kernel
theorem dL_act_345 : decode cL_act 345 = .ok (.ireturn, 1) := by decide +kernel
theorem dL_act_346 : decode cL_act 346 = .ok (.aload_n 0, 1) := by decide +kernel
theorem dL_act_347 : decode cL_act 347 = .ok (.iconst 1, 1) := by decide +kernel
theorem dL_act_348 : decode cL_act 348 = .ok (.iload_n 2, 1) := by decide +kernel
theorem dL_act_349 : decode cL_act 349 = .ok (.bipush 12, 2) := by decide +kernel
theorem dL_act_351 : decode cL_act 351 = .ok (.invokestatic 94, 3) := by decide +kernel
theorem dL_act_354 : decode cL_act 354 = .ok (.iadd, 1) := by decide +kernel
theorem dL_act_355 : decode cL_act 355 = .ok (.invokevirtual 122, 3) := by decide +kernel
theorem dL_act_358 : decode cL_act 358 = .ok (.pop, 1) := by decide +kernel
theorem dL_act_359 : decode cL_act 359 = .ok (.iconst 1, 1) := by decide +kernel
theorem dL_act_360 : decode cL_act 360 = .ok (.ireturn, 1) := by decide +kernel
theorem dL_act_361 : decode cL_act 361 = .ok (.aload_n 0, 1) := by decide +kernel
theorem dL_act_362 : decode cL_act 362 = .ok (.iload_n 2, 1) := by decide +kernel
theorem dL_act_363 : decode cL_act 363 = .ok (.iconst 4, 1) := by decide +kernel
theorem dL_act_364 : decode cL_act 364 = .ok (.invokestatic 94, 3) := by decide +kernel
theorem dL_act_367 : decode cL_act 367 = .ok (.iload_n 2, 1) := by decide +kernel
theorem dL_act_368 : decode cL_act 368 = .ok (.iconst 2, 1) := by decide +kernel
theorem dL_act_369 : decode cL_act 369 = .ok (.ishr, 1) := by decide +kernel
theorem dL_act_370 : decode cL_act 370 = .ok (.bipush 60, 2) := by decide +kernel
theorem dL_act_372 : decode cL_act 372 = .ok (.invokestatic 94, 3) := by decide +kernel
theorem dL_act_375 : decode cL_act 375 = .ok (.invokevirtual 125, 3) := by decide +kernel
theorem dL_act_378 : decode cL_act 378 = .ok (.pop, 1) := by decide +kernel
theorem dL_act_379 : decode cL_act 379 = .ok (.iconst 1, 1) := by decide +kernel
theorem dL_act_380 : decode cL_act 380 = .ok (.ireturn, 1) := by decide +kernel
theorem dL_act_381 : decode cL_act 381 = .ok (.iload 4, 2) := by decide +kernel
theorem dL_act_383 : decode cL_act 383 = .ok (.ifCond .lt 16, 3) := by decide +kernel
theorem dL_act_386 : decode cL_act 386 = .ok (.aload_n 0, 1) := by decide +kernel
theorem dL_act_387 : decode cL_act 387 = .ok (.iload 4, 2) := by decide +kernel
theorem dL_act_389 : decode cL_act 389 = .ok (.invokestatic 128, 3) := by decide +kernel
theorem dL_act_392 : decode cL_act 392 = .ok (.ifCond .eq 7, 3) := by decide +kernel
theorem dL_act_395 : decode cL_act 395 = .ok (.iconst 1, 1) := by decide +kernel
theorem dL_act_396 : decode cL_act 396 = .ok (.goto 4, 3) := by decide +kernel
theorem dL_act_399 : decode cL_act 399 = .ok (.iconst 0, 1) := by decide +kernel
theorem dL_act_400 : decode cL_act 400 = .ok (.ireturn, 1) := by decide +kernel
theorem dL_holds_0 : decode cL_holds 0 = .ok (.iconst 0, 1) := by decide +kernel
theorem dL_holds_1 : decode cL_holds 1 = .ok (.istore_n 1, 1) := by decide +kernel
theorem dL_holds_2 : decode cL_holds 2 = .ok (.iconst 0, 1) := by decide +kernel
theorem dL_holds_3 : decode cL_holds 3 = .ok (.istore_n 2, 1) := by decide +kernel
theorem dL_holds_4 : decode cL_holds 4 = .ok (.iconst 0, 1) := by decide +kernel
theorem dL_holds_5 : decode cL_holds 5 = .ok (.istore_n 3, 1) := by decide +kernel
theorem dL_holds_6 : decode cL_holds 6 = .ok (.iconst 0, 1) := by decide +kernel
theorem dL_holds_7 : decode cL_holds 7 = .ok (.istore 4, 2) := by decide +kernel
theorem dL_holds_9 : decode cL_holds 9 = .ok (.iload 4, 2) := by decide +kernel
theorem dL_holds_11 : decode cL_holds 11 = .ok (.iconst 5, 1) := by decide +kernel
theorem dL_holds_12 : decode cL_holds 12 = .ok (.if_icmp .ge 27, 3) := by decide +kernel
theorem dL_holds_15 : decode cL_holds 15 = .ok (.iload_n 1, 1) := by decide +kernel
theorem dL_holds_16 : decode cL_holds 16 = .ok (.aload_n 0, 1) := by decide +kernel
theorem dL_holds_17 : decode cL_holds 17 = .ok (.iload 4, 2) := by decide +kernel
theorem dL_holds_19 : decode cL_holds 19 = .ok (.invokevirtual 132, 3) := by decide +kernel
theorem dL_holds_22 : decode cL_holds 22 = .ok (.iadd, 1) := by decide +kernel
theorem dL_holds_23 : decode cL_holds 23 = .ok (.istore_n 1, 1) := by decide +kernel
theorem dL_holds_24 : decode cL_holds 24 = .ok (.iload_n 2, 1) := by decide +kernel
theorem dL_holds_25 : decode cL_holds 25 = .ok (.aload_n 0, 1) := by decide +kernel
theorem dL_holds_26 : decode cL_holds 26 = .ok (.iload 4, 2) := by decide +kernel
theorem dL_holds_28 : decode cL_holds 28 = .ok (.invokevirtual 135, 3) := by decide +kernel
theorem dL_holds_31 : decode cL_holds 31 = .ok (.iadd, 1) := by decide +kernel
theorem dL_holds_32 : decode cL_holds 32 = .ok (.istore_n 2, 1) := by decide +kernel
theorem dL_holds_33 : decode cL_holds 33 = .ok (.iinc 4 1, 3) := by decide +kernel
theorem dL_holds_36 : decode cL_holds 36 = .ok (.goto (-27), 3) := by decide +kernel
theorem dL_holds_39 : decode cL_holds 39 = .ok (.iconst 0, 1) := by decide +kernel
theorem dL_holds_40 : decode cL_holds 40 = .ok (.istore 4, 2) := by decide +kernel
theorem dL_holds_42 : decode cL_holds 42 = .ok (.iload 4, 2) := by decide +kernel
theorem dL_holds_44 : decode cL_holds 44 = .ok (.aload_n 0, 1) := by decide +kernel
theorem dL_holds_45 : decode cL_holds 45 = .ok (.invokevirtual 12, 3) := by decide +kernel
theorem dL_holds_48 : decode cL_holds 48 = .ok (.if_icmp .ge 203, 3) := by decide +kernel
theorem dL_holds_51 : decode cL_holds 51 = .ok (.iconst 0, 1) := by decide +kernel
theorem dL_holds_52 : decode cL_holds 52 = .ok (.istore 5, 2) := by decide +kernel
theorem dL_holds_54 : decode cL_holds 54 = .ok (.iconst 0, 1) := by decide +kernel
theorem dL_holds_55 : decode cL_holds 55 = .ok (.istore 6, 2) := by decide +kernel
theorem dL_holds_57 : decode cL_holds 57 = .ok (.iload 6, 2) := by decide +kernel
theorem dL_holds_59 : decode cL_holds 59 = .ok (.aload_n 0, 1) := by decide +kernel
theorem dL_holds_60 : decode cL_holds 60 = .ok (.invokevirtual 12, 3) := by decide +kernel
theorem dL_holds_63 : decode cL_holds 63 = .ok (.if_icmp .ge 68, 3) := by decide +kernel
theorem dL_holds_66 : decode cL_holds 66 = .ok (.aload_n 0, 1) := by decide +kernel
theorem dL_holds_67 : decode cL_holds 67 = .ok (.iload 4, 2) := by decide +kernel
theorem dL_holds_69 : decode cL_holds 69 = .ok (.iload 6, 2) := by decide +kernel
theorem dL_holds_71 : decode cL_holds 71 = .ok (.invokevirtual 77, 3) := by decide +kernel
theorem dL_holds_74 : decode cL_holds 74 = .ok (.ifCond .eq 23, 3) := by decide +kernel
theorem dL_holds_77 : decode cL_holds 77 = .ok (.aload_n 0, 1) := by decide +kernel
theorem dL_holds_78 : decode cL_holds 78 = .ok (.iload 6, 2) := by decide +kernel
theorem dL_holds_80 : decode cL_holds 80 = .ok (.invokevirtual 62, 3) := by decide +kernel
theorem dL_holds_83 : decode cL_holds 83 = .ok (.iload 5, 2) := by decide +kernel
theorem dL_holds_85 : decode cL_holds 85 = .ok (.if_icmp .le 12, 3) := by decide +kernel
theorem dL_holds_88 : decode cL_holds 88 = .ok (.aload_n 0, 1) := by decide +kernel
theorem dL_holds_89 : decode cL_holds 89 = .ok (.iload 6, 2) := by decide +kernel
theorem dL_holds_91 : decode cL_holds 91 = .ok (.invokevirtual 62, 3) := by decide +kernel
theorem dL_holds_94 : decode cL_holds 94 = .ok (.goto 5, 3) := by decide +kernel
theorem dL_holds_97 : decode cL_holds 97 = .ok (.iload 5, 2) := by decide +kernel
theorem dL_holds_99 : decode cL_holds 99 = .ok (.istore 5, 2) := by decide +kernel
theorem dL_holds_101 : decode cL_holds 101 = .ok (.aload_n 0, 1) := by decide +kernel
theorem dL_holds_102 : decode cL_holds 102 = .ok (.iload 4, 2) := by decide +kernel
theorem dL_holds_104 : decode cL_holds 104 = .ok (.iload 6, 2) := by decide +kernel
theorem dL_holds_106 : decode cL_holds 106 = .ok (.invokevirtual 77, 3) := by decide +kernel
theorem dL_holds_109 : decode cL_holds 109 = .ok (.ifCond .eq 16, 3) := by decide +kernel
theorem dL_holds_112 : decode cL_holds 112 = .ok (.aload_n 0, 1) := by decide +kernel
theorem dL_holds_113 : decode cL_holds 113 = .ok (.iload 6, 2) := by decide +kernel
theorem dL_holds_115 : decode cL_holds 115 = .ok (.iload 4, 2) := by decide +kernel
theorem dL_holds_117 : decode cL_holds 117 = .ok (.invokevirtual 77, 3) := by decide +kernel
theorem dL_holds_120 : decode cL_holds 120 = .ok (.ifCond .eq 5, 3) := by decide +kernel
theorem dL_holds_123 : decode cL_holds 123 = .ok (.iconst 0, 1) := by decide +kernel
theorem dL_holds_124 : decode cL_holds 124 = .ok (.ireturn, 1) := by decide +kernel
theorem dL_holds_125 : decode cL_holds 125 = .ok (.iinc 6 1, 3) := by decide +kernel
theorem dL_holds_128 : decode cL_holds 128 = .ok (.goto (-71), 3) := by decide +kernel
theorem dL_holds_131 : decode cL_holds 131 = .ok (.iload_n 3, 1) := by decide +kernel
theorem dL_holds_132 : decode cL_holds 132 = .ok (.aload_n 0, 1) := by decide +kernel
theorem dL_holds_133 : decode cL_holds 133 = .ok (.iload 4, 2) := by decide +kernel
theorem dL_holds_135 : decode cL_holds 135 = .ok (.invokevirtual 30, 3) := by decide +kernel
theorem dL_holds_138 : decode cL_holds 138 = .ok (.iconst 3, 1) := by decide +kernel
theorem dL_holds_139 : decode cL_holds 139 = .ok (.if_icmp .ge 16, 3) := by decide +kernel
theorem dL_holds_142 : decode cL_holds 142 = .ok (.aload_n 0, 1) := by decide +kernel
theorem dL_holds_143 : decode cL_holds 143 = .ok (.iload 4, 2) := by decide +kernel
theorem dL_holds_145 : decode cL_holds 145 = .ok (.invokevirtual 88, 3) := by decide +kernel
theorem dL_holds_148 : decode cL_holds 148 = .ok (.ifCond .eq 7, 3) := by decide +kernel
theorem dL_holds_151 : decode cL_holds 151 = .ok (.iconst 1, 1) := by decide +kernel
theorem dL_holds_152 : decode cL_holds 152 = .ok (.goto 4, 3) := by decide +kernel
theorem dL_holds_155 : decode cL_holds 155 = .ok (.iconst 0, 1) := by decide +kernel
theorem dL_holds_156 : decode cL_holds 156 = .ok (.iadd, 1) := by decide +kernel
theorem dL_holds_157 : decode cL_holds 157 = .ok (.istore_n 3, 1) := by decide +kernel
theorem dL_holds_158 : decode cL_holds 158 = .ok (.aload_n 0, 1) := by decide +kernel
theorem dL_holds_159 : decode cL_holds 159 = .ok (.iload 4, 2) := by decide +kernel
theorem dL_holds_161 : decode cL_holds 161 = .ok (.invokevirtual 30, 3) := by decide +kernel
theorem dL_holds_164 : decode cL_holds 164 = .ok (.iconst 3, 1) := by decide +kernel
theorem dL_holds_165 : decode cL_holds 165 = .ok (.if_icmp .ne 12, 3) := by decide +kernel
theorem dL_holds_168 : decode cL_holds 168 = .ok (.aload_n 0, 1) := by decide +kernel
theorem dL_holds_169 : decode cL_holds 169 = .ok (.iload 4, 2) := by decide +kernel
theorem dL_holds_171 : decode cL_holds 171 = .ok (.invokevirtual 88, 3) := by decide +kernel
theorem dL_holds_174 : decode cL_holds 174 = .ok (.ifCond .ne 69, 3) := by decide +kernel
theorem dL_holds_177 : decode cL_holds 177 = .ok (.aload_n 0, 1) := by decide +kernel
theorem dL_holds_178 : decode cL_holds 178 = .ok (.iload 4, 2) := by decide +kernel
theorem dL_holds_180 : decode cL_holds 180 = .ok (.invokevirtual 88, 3) := by decide +kernel
theorem dL_holds_183 : decode cL_holds 183 = .ok (.aload_n 0, 1) := by decide +kernel
theorem dL_holds_184 : decode cL_holds 184 = .ok (.iload 4, 2) := by decide +kernel
theorem dL_holds_186 : decode cL_holds 186 = .ok (.invokevirtual 138, 3) := by decide +kernel
theorem dL_holds_189 : decode cL_holds 189 = .ok (.ifCond .le 7, 3) := by decide +kernel
theorem dL_holds_192 : decode cL_holds 192 = .ok (.iconst 1, 1) := by decide +kernel
theorem dL_holds_193 : decode cL_holds 193 = .ok (.goto 4, 3) := by decide +kernel
theorem dL_holds_196 : decode cL_holds 196 = .ok (.iconst 0, 1) := by decide +kernel
theorem dL_holds_197 : decode cL_holds 197 = .ok (.if_icmp .ne 46, 3) := by decide +kernel
theorem dL_holds_200 : decode cL_holds 200 = .ok (.aload_n 0, 1) := by decide +kernel
theorem dL_holds_201 : decode cL_holds 201 = .ok (.iload 4, 2) := by decide +kernel
theorem dL_holds_203 : decode cL_holds 203 = .ok (.invokevirtual 141, 3) := by decide +kernel
theorem dL_holds_206 : decode cL_holds 206 = .ok (.aload_n 0, 1) := by decide +kernel
theorem dL_holds_207 : decode cL_holds 207 = .ok (.iload 4, 2) := by decide +kernel
theorem dL_holds_209 : decode cL_holds 209 = .ok (.invokevirtual 144, 3) := by decide +kernel
theorem dL_holds_212 : decode cL_holds 212 = .ok (.if_icmp .ne 31, 3) := by decide +kernel
theorem dL_holds_215 : decode cL_holds 215 = .ok (.aload_n 0, 1) := by decide +kernel
theorem dL_holds_216 : decode cL_holds 216 = .ok (.iload 4, 2) := by decide +kernel
theorem dL_holds_218 : decode cL_holds 218 = .ok (.invokevirtual 141, 3) := by decide +kernel
theorem dL_holds_221 : decode cL_holds 221 = .ok (.aload_n 0, 1) := by decide +kernel
theorem dL_holds_222 : decode cL_holds 222 = .ok (.iload 4, 2) := by decide +kernel
theorem dL_holds_224 : decode cL_holds 224 = .ok (.invokevirtual 59, 3) := by decide +kernel
theorem dL_holds_227 : decode cL_holds 227 = .ok (.if_icmp .lt 16, 3) := by decide +kernel
theorem dL_holds_230 : decode cL_holds 230 = .ok (.aload_n 0, 1) := by decide +kernel
theorem dL_holds_231 : decode cL_holds 231 = .ok (.iload 4, 2) := by decide +kernel
theorem dL_holds_233 : decode cL_holds 233 = .ok (.invokevirtual 62, 3) := by decide +kernel
theorem dL_holds_236 : decode cL_holds 236 = .ok (.iload 5, 2) := by decide +kernel
theorem dL_holds_238 : decode cL_holds 238 = .ok (.iconst 1, 1) := by decide +kernel
theorem dL_holds_239 : decode cL_holds 239 = .ok (.iadd, 1) := by decide +kernel
theorem dL_holds_240 : decode cL_holds 240 = .ok (.if_icmp .eq 5, 3) := by decide +kernel
theorem dL_holds_243 : decode cL_holds 243 = .ok (.iconst 0, 1) := by decide +kernel
theorem dL_holds_244 : decode cL_holds 244 = .ok (.ireturn, 1) := by decide +kernel
theorem dL_holds_245 : decode cL_holds 245 = .ok (.iinc 4 1, 3) := by decide +kernel
theorem dL_holds_248 : decode cL_holds 248 = .ok (.goto (-206), 3) := by decide +kernel
theorem dL_holds_251 : decode cL_holds 251 = .ok (.iconst 0, 1) := by decide +kernel
theorem dL_holds_252 : decode cL_holds 252 = .ok (.istore 4, 2) := by decide +kernel
theorem dL_holds_254 : decode cL_holds 254 = .ok (.iload 4, 2) := by decide +kernel
theorem dL_holds_256 : decode cL_holds 256 = .ok (.iconst 5, 1) := by decide +kernel
theorem dL_holds_257 : decode cL_holds 257 = .ok (.if_icmp .ge 41, 3) := by decide +kernel
theorem dL_holds_260 : decode cL_holds 260 = .ok (.aload_n 0, 1) := by decide +kernel
theorem dL_holds_261 : decode cL_holds 261 = .ok (.iload 4, 2) := by decide +kernel
theorem dL_holds_263 : decode cL_holds 263 = .ok (.invokevirtual 110, 3) := by decide +kernel
theorem dL_holds_266 : decode cL_holds 266 = .ok (.aload_n 0, 1) := by decide +kernel
theorem dL_holds_267 : decode cL_holds 267 = .ok (.iload 4, 2) := by decide +kernel
theorem dL_holds_269 : decode cL_holds 269 = .ok (.invokevirtual 68, 3) := by decide +kernel
theorem dL_holds_272 : decode cL_holds 272 = .ok (.if_icmp .ne 18, 3) := by decide +kernel
theorem dL_holds_275 : decode cL_holds 275 = .ok (.aload_n 0, 1) := by decide +kernel
theorem dL_holds_276 : decode cL_holds 276 = .ok (.iload 4, 2) := by decide +kernel
theorem dL_holds_278 : decode cL_holds 278 = .ok (.invokevirtual 68, 3) := by decide +kernel
theorem dL_holds_281 : decode cL_holds 281 = .ok (.aload_n 0, 1) := by decide +kernel
theorem dL_holds_282 : decode cL_holds 282 = .ok (.iload 4, 2) := by decide +kernel
theorem dL_holds_284 : decode cL_holds 284 = .ok (.invokevirtual 65, 3) := by decide +kernel
theorem dL_holds_287 : decode cL_holds 287 = .ok (.if_icmp .le 5, 3) := by decide +kernel
theorem dL_holds_290 : decode cL_holds 290 = .ok (.iconst 0, 1) := by decide +kernel
theorem dL_holds_291 : decode cL_holds 291 = .ok (.ireturn, 1) := by decide +kernel
theorem dL_holds_292 : decode cL_holds 292 = .ok (.iinc 4 1, 3) := by decide +kernel
theorem dL_holds_295 : decode cL_holds 295 = .ok (.goto (-41), 3) := by decide +kernel
theorem dL_holds_298 : decode cL_holds 298 = .ok (.iconst 0, 1) := by decide +kernel
theorem dL_holds_299 : decode cL_holds 299 = .ok (.istore 4, 2) := by decide +kernel
theorem dL_holds_301 : decode cL_holds 301 = .ok (.iconst 0, 1) := by decide +kernel
theorem dL_holds_302 : decode cL_holds 302 = .ok (.istore 5, 2) := by decide +kernel
theorem dL_holds_304 : decode cL_holds 304 = .ok (.iload 5, 2) := by decide +kernel
theorem dL_holds_306 : decode cL_holds 306 = .ok (.iconst 4, 1) := by decide +kernel
theorem dL_holds_307 : decode cL_holds 307 = .ok (.if_icmp .ge 99, 3) := by decide +kernel
theorem dL_holds_310 : decode cL_holds 310 = .ok (.iload 4, 2) := by decide +kernel
theorem dL_holds_312 : decode cL_holds 312 = .ok (.aload_n 0, 1) := by decide +kernel
theorem dL_holds_313 : decode cL_holds 313 = .ok (.iload 5, 2) := by decide +kernel
theorem dL_holds_315 : decode cL_holds 315 = .ok (.invokevirtual 147, 3) := by decide +kernel
theorem dL_holds_318 : decode cL_holds 318 = .ok (.ifCond .eq 7, 3) := by decide +kernel
theorem dL_holds_321 : decode cL_holds 321 = .ok (.iconst 1, 1) := by decide +kernel
theorem dL_holds_322 : decode cL_holds 322 = .ok (.goto 4, 3) := by decide +kernel
theorem dL_holds_325 : decode cL_holds 325 = .ok (.iconst 0, 1) := by decide +kernel
theorem dL_holds_326 : decode cL_holds 326 = .ok (.iadd, 1) := by decide +kernel
theorem dL_holds_327 : decode cL_holds 327 = .ok (.istore 4, 2) := by decide +kernel
theorem dL_holds_329 : decode cL_holds 329 = .ok (.aload_n 0, 1) := by decide +kernel
theorem dL_holds_330 : decode cL_holds 330 = .ok (.iload 5, 2) := by decide +kernel
theorem dL_holds_332 : decode cL_holds 332 = .ok (.invokevirtual 150, 3) := by decide +kernel
theorem dL_holds_335 : decode cL_holds 335 = .ok (.bipush 100, 2) := by decide +kernel
theorem dL_holds_337 : decode cL_holds 337 = .ok (.if_icmp .ne 7, 3) := by decide +kernel
theorem dL_holds_340 : decode cL_holds 340 = .ok (.iconst 1, 1) := by decide +kernel
theorem dL_holds_341 : decode cL_holds 341 = .ok (.goto 4, 3) := by decide +kernel
theorem dL_holds_344 : decode cL_holds 344 = .ok (.iconst 0, 1) := by decide +kernel
theorem dL_holds_345 : decode cL_holds 345 = .ok (.aload_n 0, 1) := by decide +kernel
theorem dL_holds_346 : decode cL_holds 346 = .ok (.iload 5, 2) := by decide +kernel
theorem dL_holds_348 : decode cL_holds 348 = .ok (.invokevirtual 74, 3) := by decide +kernel
theorem dL_holds_351 : decode cL_holds 351 = .ok (.ifCond .ne 7, 3) := by decide +kernel
theorem dL_holds_354 : decode cL_holds 354 = .ok (.iconst 1, 1) := by decide +kernel
theorem dL_holds_355 : decode cL_holds 355 = .ok (.goto 4, 3) := by decide +kernel
theorem dL_holds_358 : decode cL_holds 358 = .ok (.iconst 0, 1) := by decide +kernel
theorem dL_holds_359 : decode cL_holds 359 = .ok (.if_icmp .ne 39, 3) := by decide +kernel
theorem dL_holds_362 : decode cL_holds 362 = .ok (.aload_n 0, 1) := by decide +kernel
theorem dL_holds_363 : decode cL_holds 363 = .ok (.iload 5, 2) := by decide +kernel
theorem dL_holds_365 : decode cL_holds 365 = .ok (.invokevirtual 147, 3) := by decide +kernel
theorem dL_holds_368 : decode cL_holds 368 = .ok (.aload_n 0, 1) := by decide +kernel
theorem dL_holds_369 : decode cL_holds 369 = .ok (.invokevirtual 18, 3) := by decide +kernel
theorem dL_holds_372 : decode cL_holds 372 = .ok (.aload_n 0, 1) := by decide +kernel
theorem dL_holds_373 : decode cL_holds 373 = .ok (.iload 5, 2) := by decide +kernel
theorem dL_holds_375 : decode cL_holds 375 = .ok (.invokevirtual 71, 3) := by decide +kernel
theorem dL_holds_378 : decode cL_holds 378 = .ok (.if_icmp .le 16, 3) := by decide +kernel
theorem dL_holds_381 : decode cL_holds 381 = .ok (.aload_n 0, 1) := by decide +kernel
theorem dL_holds_382 : decode cL_holds 382 = .ok (.iload 5, 2) := by decide +kernel
theorem dL_holds_384 : decode cL_holds 384 = .ok (.invokevirtual 74, 3) := by decide +kernel
theorem dL_holds_387 : decode cL_holds 387 = .ok (.ifCond .le 7, 3) := by decide +kernel
theorem dL_holds_390 : decode cL_holds 390 = .ok (.iconst 1, 1) := by decide +kernel
theorem dL_holds_391 : decode cL_holds 391 = .ok (.goto 4, 3) := by decide +kernel
theorem dL_holds_394 : decode cL_holds 394 = .ok (.iconst 0, 1) := by decide +kernel
theorem dL_holds_395 : decode cL_holds 395 = .ok (.if_icmp .eq 5, 3) := by decide +kernel
theorem dL_holds_398 : decode cL_holds 398 = .ok (.iconst 0, 1) := by decide +kernel
theorem dL_holds_399 : decode cL_holds 399 = .ok (.ireturn, 1) := by decide +kernel
theorem dL_holds_400 : decode cL_holds 400 = .ok (.iinc 5 1, 3) := by decide +kernel
theorem dL_holds_403 : decode cL_holds 403 = .ok (.goto (-99), 3) := by decide +kernel
theorem dL_holds_406 : decode cL_holds 406 = .ok (.iload_n 1, 1) := by decide +kernel
theorem dL_holds_407 : decode cL_holds 407 = .ok (.aload_n 0, 1) := by decide +kernel
theorem dL_holds_408 : decode cL_holds 408 = .ok (.invokevirtual 12, 3) := by decide +kernel
theorem dL_holds_411 : decode cL_holds 411 = .ok (.if_icmp .ne 55, 3) := by decide +kernel
theorem dL_holds_414 : decode cL_holds 414 = .ok (.iload_n 2, 1) := by decide +kernel
theorem dL_holds_415 : decode cL_holds 415 = .ok (.aload_n 0, 1) := by decide +kernel
theorem dL_holds_416 : decode cL_holds 416 = .ok (.invokevirtual 153, 3) := by decide +kernel
theorem dL_holds_419 : decode cL_holds 419 = .ok (.if_icmp .ne 47, 3) := by decide +kernel
theorem dL_holds_422 : decode cL_holds 422 = .ok (.iload_n 3, 1) := by decide +kernel
theorem dL_holds_423 : decode cL_holds 423 = .ok (.aload_n 0, 1) := by decide +kernel
theorem dL_holds_424 : decode cL_holds 424 = .ok (.invokevirtual 156, 3) := by decide +kernel
theorem dL_holds_427 : decode cL_holds 427 = .ok (.if_icmp .ne 39, 3) := by decide +kernel
theorem dL_holds_430 : decode cL_holds 430 = .ok (.iload 4, 2) := by decide +kernel
theorem dL_holds_432 : decode cL_holds 432 = .ok (.aload_n 0, 1) := by decide +kernel
theorem dL_holds_433 : decode cL_holds 433 = .ok (.invokevirtual 159, 3) := by decide +kernel
theorem dL_holds_436 : decode cL_holds 436 = .ok (.if_icmp .ne 30, 3) := by decide +kernel
theorem dL_holds_439 : decode cL_holds 439 = .ok (.aload_n 0, 1) := by decide +kernel
theorem dL_holds_440 : decode cL_holds 440 = .ok (.invokevirtual 162, 3) := by decide +kernel
theorem dL_holds_443 : decode cL_holds 443 = .ok (.aload_n 0, 1) := by decide +kernel
theorem dL_holds_444 : decode cL_holds 444 = .ok (.invokevirtual 27, 3) := by decide +kernel
theorem dL_holds_447 : decode cL_holds 447 = .ok (.if_icmp .ne 19, 3) := by decide +kernel
theorem dL_holds_450 : decode cL_holds 450 = .ok (.aload_n 0, 1) := by decide +kernel
theorem dL_holds_451 : decode cL_holds 451 = .ok (.invokevirtual 165, 3) := by decide +kernel
theorem dL_holds_454 : decode cL_holds 454 = .ok (.aload_n 0, 1) := by decide +kernel
theorem dL_holds_455 : decode cL_holds 455 = .ok (.iconst 3, 1) := by decide +kernel
theorem dL_holds_456 : decode cL_holds 456 = .ok (.invokevirtual 135, 3) := by decide +kernel
theorem dL_holds_459 : decode cL_holds 459 = .ok (.if_icmp .gt 7, 3) := by decide +kernel
theorem dL_holds_462 : decode cL_holds 462 = .ok (.iconst 1, 1) := by decide +kernel
theorem dL_holds_463 : decode cL_holds 463 = .ok (.goto 4, 3) := by decide +kernel
theorem dL_holds_466 : decode cL_holds 466 = .ok (.iconst 0, 1) := by decide +kernel
theorem dL_holds_467 : decode cL_holds 467 = .ok (.ireturn, 1) := by decide +kernel
