theorem dJ9_max_7cf53_9 : decode cJ9_max_7cf53 9 = .ok (.iload_n 1, 1) := by decide +kernel
theorem dJ9_max_7cf53_10 : decode cJ9_max_7cf53 10 = .ok (.ireturn, 1) := by decide +kernel
theorem dJ9_min_7cf53_0 : decode cJ9_min_7cf53 0 = .ok (.iload_n 0, 1) := by decide +kernel
theorem dJ9_min_7cf53_1 : decode cJ9_min_7cf53 1 = .ok (.iload_n 1, 1) := by decide +kernel
theorem dJ9_min_7cf53_2 : decode cJ9_min_7cf53 2 = .ok (.if_icmp .gt 7, 3) := by decide +kernel
theorem dJ9_min_7cf53_5 : decode cJ9_min_7cf53 5 = .ok (.iload_n 0, 1) := by decide +kernel
theorem dJ9_min_7cf53_6 : decode cJ9_min_7cf53 6 = .ok (.goto 4, 3) := by decide +kernel
theorem dJ9_min_7cf53_9 : decode cJ9_min_7cf53 9 = .ok (.iload_n 1, 1) := by decide +kernel
theorem dJ9_min_7cf53_10 : decode cJ9_min_7cf53 10 = .ok (.ireturn, 1) := by decide +kernel
theorem dL_low_0 : decode cL_low 0 = .ok (.iload_n 0, 1) := by decide +kernel
theorem dL_low_1 : decode cL_low 1 = .ok (.ldc 7, 2) := by decide +kernel
theorem dL_low_3 : decode cL_low 3 = .ok (.iand, 1) := by decide +kernel
theorem dL_low_4 : decode cL_low 4 = .ok (.iload_n 1, 1) := by decide +kernel
theorem dL_low_5 : decode cL_low 5 = .ok (.irem, 1) := by decide +kernel
theorem dL_low_6 : decode cL_low 6 = .ok (.ireturn, 1) := by decide +kernel
theorem dL_cell_0 : decode cL_cell 0 = .ok (.iload_n 1, 1) := by decide +kernel
theorem dL_cell_1 : decode cL_cell 1 = .ok (.aload_n 0, 1) := by decide +kernel
theorem dL_cell_2 : decode cL_cell 2 = .ok (.arraylength, 1) := by decide +kernel
theorem dL_cell_3 : decode cL_cell 3 = .ok (.if_icmp .ge 9, 3) := by decide +kernel
theorem dL_cell_6 : decode cL_cell 6 = .ok (.aload_n 0, 1) := by decide +kernel
theorem dL_cell_7 : decode cL_cell 7 = .ok (.iload_n 1, 1) := by decide +kernel
theorem dL_cell_8 : decode cL_cell 8 = .ok (.iaload, 1) := by decide +kernel
theorem dL_cell_9 : decode cL_cell 9 = .ok (.goto 11, 3) := by decide +kernel
theorem dL_cell_12 : decode cL_cell 12 = .ok (.ldc 8, 2) := by decide +kernel
theorem dL_cell_14 : decode cL_cell 14 = .ok (.iload_n 1, 1) := by decide +kernel
theorem dL_cell_15 : decode cL_cell 15 = .ok (.imul, 1) := by decide +kernel
theorem dL_cell_16 : decode cL_cell 16 = .ok (.sipush 977, 3) := by decide +kernel
theorem dL_cell_19 : decode cL_cell 19 = .ok (.iadd, 1) := by decide +kernel
theorem dL_cell_20 : decode cL_cell 20 = .ok (.ireturn, 1) := by decide +kernel
theorem dL_column_0 : decode cL_column 0 = .ok (.iconst 0, 1) := by decide +kernel
theorem dL_column_1 : decode cL_column 1 = .ok (.istore_n 2, 1) := by decide +kernel
theorem dL_column_2 : decode cL_column 2 = .ok (.iconst 0, 1) := by decide +kernel
theorem dL_column_3 : decode cL_column 3 = .ok (.istore_n 3, 1) := by decide +kernel
theorem dL_column_4 : decode cL_column 4 = .ok (.bipush 61, 2) := by decide +kernel
theorem dL_column_6 : decode cL_column 6 = .ok (.istore 4, 2) := by decide +kernel
theorem dL_column_8 : decode cL_column 8 = .ok (.aload_n 0, 1) := by decide +kernel
theorem dL_column_9 : decode cL_column 9 = .ok (.iload_n 1, 1) := by decide +kernel
theorem dL_column_10 : decode cL_column 10 = .ok (.iconst 0, 1) := by decide +kernel
theorem dL_column_11 : decode cL_column 11 = .ok (.bipush 99, 2) := by decide +kernel
theorem dL_column_13 : decode cL_column 13 = .ok (.iconst 0, 1) := by decide +kernel
theorem dL_column_14 : decode cL_column 14 = .ok (.invokevirtual 9, 3) := by decide +kernel
theorem dL_column_17 : decode cL_column 17 = .ok (.aload_n 0, 1) := by decide +kernel
theorem dL_column_18 : decode cL_column 18 = .ok (.iconst 1, 1) := by decide +kernel
theorem dL_column_19 : decode cL_column 19 = .ok (.invokevirtual 15, 3) := by decide +kernel
theorem dL_column_22 : decode cL_column 22 = .ok (.if_icmp .ne 58, 3) := by decide +kernel
theorem dL_column_25 : decode cL_column 25 = .ok (.aload_n 0, 1) := by decide +kernel
theorem dL_column_26 : decode cL_column 26 = .ok (.iload_n 1, 1) := by decide +kernel
theorem dL_column_27 : decode cL_column 27 = .ok (.iconst 0, 1) := by decide +kernel
theorem dL_column_28 : decode cL_column 28 = .ok (.bipush 99, 2) := by decide +kernel
theorem dL_column_30 : decode cL_column 30 = .ok (.iconst 1, 1) := by decide +kernel
theorem dL_column_31 : decode cL_column 31 = .ok (.invokevirtual 9, 3) := by decide +kernel
theorem dL_column_34 : decode cL_column 34 = .ok (.aload_n 0, 1) := by decide +kernel
theorem dL_column_35 : decode cL_column 35 = .ok (.iconst 1, 1) := by decide +kernel
theorem dL_column_36 : decode cL_column 36 = .ok (.invokevirtual 15, 3) := by decide +kernel
theorem dL_column_39 : decode cL_column 39 = .ok (.if_icmp .ne 41, 3) := by decide +kernel
theorem dL_column_42 : decode cL_column 42 = .ok (.aload_n 0, 1) := by decide +kernel
theorem dL_column_43 : decode cL_column 43 = .ok (.iload_n 1, 1) := by decide +kernel
theorem dL_column_44 : decode cL_column 44 = .ok (.iconst 0, 1) := by decide +kernel
theorem dL_column_45 : decode cL_column 45 = .ok (.bipush 99, 2) := by decide +kernel
theorem dL_column_47 : decode cL_column 47 = .ok (.iconst 3, 1) := by decide +kernel
theorem dL_column_48 : decode cL_column 48 = .ok (.invokevirtual 9, 3) := by decide +kernel
theorem dL_column_51 : decode cL_column 51 = .ok (.aload_n 0, 1) := by decide +kernel
theorem dL_column_52 : decode cL_column 52 = .ok (.iconst 0, 1) := by decide +kernel
theorem dL_column_53 : decode cL_column 53 = .ok (.invokevirtual 15, 3) := by decide +kernel
theorem dL_column_56 : decode cL_column 56 = .ok (.if_icmp .ne 24, 3) := by decide +kernel
theorem dL_column_59 : decode cL_column 59 = .ok (.aload_n 0, 1) := by decide +kernel
theorem dL_column_60 : decode cL_column 60 = .ok (.iload_n 1, 1) := by decide +kernel
theorem dL_column_61 : decode cL_column 61 = .ok (.iconst 0, 1) := by decide +kernel
theorem dL_column_62 : decode cL_column 62 = .ok (.bipush 99, 2) := by decide +kernel
theorem dL_column_64 : decode cL_column 64 = .ok (.iconst 4, 1) := by decide +kernel
theorem dL_column_65 : decode cL_column 65 = .ok (.invokevirtual 9, 3) := by decide +kernel
theorem dL_column_68 : decode cL_column 68 = .ok (.aload_n 0, 1) := by decide +kernel
theorem dL_column_69 : decode cL_column 69 = .ok (.iconst 0, 1) := by decide +kernel
theorem dL_column_70 : decode cL_column 70 = .ok (.invokevirtual 15, 3) := by decide +kernel
theorem dL_column_73 : decode cL_column 73 = .ok (.if_icmp .ne 7, 3) := by decide +kernel
theorem dL_column_76 : decode cL_column 76 = .ok (.iconst 1, 1) := by decide +kernel
theorem dL_column_77 : decode cL_column 77 = .ok (.goto 4, 3) := by decide +kernel
theorem dL_column_80 : decode cL_column 80 = .ok (.iconst 0, 1) := by decide +kernel
theorem dL_column_81 : decode cL_column 81 = .ok (.istore 5, 2) := by decide +kernel
theorem dL_column_83 : decode cL_column 83 = .ok (.iconst 0, 1) := by decide +kernel
theorem dL_column_84 : decode cL_column 84 = .ok (.istore 6, 2) := by decide +kernel
theorem dL_column_86 : decode cL_column 86 = .ok (.iload 6, 2) := by decide +kernel
theorem dL_column_88 : decode cL_column 88 = .ok (.aload_n 0, 1) := by decide +kernel
theorem dL_column_89 : decode cL_column 89 = .ok (.bipush 6, 2) := by decide +kernel
theorem dL_column_91 : decode cL_column 91 = .ok (.iload_n 1, 1) := by decide +kernel
theorem dL_column_92 : decode cL_column 92 = .ok (.iadd, 1) := by decide +kernel
theorem dL_column_93 : decode cL_column 93 = .ok (.invokevirtual 15, 3) := by decide +kernel
theorem dL_column_96 : decode cL_column 96 = .ok (.if_icmp .ge 61, 3) := by decide +kernel
theorem dL_column_99 : decode cL_column 99 = .ok (.iload 5, 2) := by decide +kernel
theorem dL_column_101 : decode cL_column 101 = .ok (.ifCond .eq 56, 3) := by decide +kernel
theorem dL_column_104 : decode cL_column 104 = .ok (.aload_n 0, 1) := by decide +kernel
theorem dL_column_105 : decode cL_column 105 = .ok (.iload_n 1, 1) := by decide +kernel
theorem dL_column_106 : decode cL_column 106 = .ok (.iload 6, 2) := by decide +kernel
theorem dL_column_108 : decode cL_column 108 = .ok (.iconst 1, 1) := by decide +kernel
theorem dL_column_109 : decode cL_column 109 = .ok (.invokevirtual 19, 3) := by decide +kernel
theorem dL_column_112 : decode cL_column 112 = .ok (.iconst 2, 1) := by decide +kernel
theorem dL_column_113 : decode cL_column 113 = .ok (.if_icmp .lt 20, 3) := by decide +kernel
theorem dL_column_116 : decode cL_column 116 = .ok (.aload_n 0, 1) := by decide +kernel
theorem dL_column_117 : decode cL_column 117 = .ok (.iload_n 1, 1) := by decide +kernel
theorem dL_column_118 : decode cL_column 118 = .ok (.iload 6, 2) := by decide +kernel
theorem dL_column_120 : decode cL_column 120 = .ok (.iconst 1, 1) := by decide +kernel
theorem dL_column_121 : decode cL_column 121 = .ok (.invokevirtual 19, 3) := by decide +kernel
theorem dL_column_124 : decode cL_column 124 = .ok (.iload 4, 2) := by decide +kernel
theorem dL_column_126 : decode cL_column 126 = .ok (.if_icmp .gt 7, 3) := by decide +kernel
theorem dL_column_129 : decode cL_column 129 = .ok (.iconst 1, 1) := by decide +kernel
theorem dL_column_130 : decode cL_column 130 = .ok (.goto 4, 3) := by decide +kernel
theorem dL_column_133 : decode cL_column 133 = .ok (.iconst 0, 1) := by decide +kernel
theorem dL_column_134 : decode cL_column 134 = .ok (.istore 5, 2) := by decide +kernel
theorem dL_column_136 : decode cL_column 136 = .ok (.aload_n 0, 1) := by decide +kernel
theorem dL_column_137 : decode cL_column 137 = .ok (.iload_n 1, 1) := by decide +kernel
theorem dL_column_138 : decode cL_column 138 = .ok (.iload 6, 2) := by decide +kernel
theorem dL_column_140 : decode cL_column 140 = .ok (.iconst 1, 1) := by decide +kernel
theorem dL_column_141 : decode cL_column 141 = .ok (.invokevirtual 19, 3) := by decide +kernel
theorem dL_column_144 : decode cL_column 144 = .ok (.istore 4, 2) := by decide +kernel
theorem dL_column_146 : decode cL_column 146 = .ok (.iload_n 2, 1) := by decide +kernel
theorem dL_column_147 : decode cL_column 147 = .ok (.iload 4, 2) := by decide +kernel
theorem dL_column_149 : decode cL_column 149 = .ok (.iadd, 1) := by decide +kernel
theorem dL_column_150 : decode cL_column 150 = .ok (.istore_n 2, 1) := by decide +kernel
theorem dL_column_151 : decode cL_column 151 = .ok (.iinc 6 1, 3) := by decide +kernel
theorem dL_column_154 : decode cL_column 154 = .ok (.goto (-68), 3) := by decide +kernel
theorem dL_column_157 : decode cL_column 157 = .ok (.iconst 0, 1) := by decide +kernel
theorem dL_column_158 : decode cL_column 158 = .ok (.istore 6, 2) := by decide +kernel
theorem dL_column_160 : decode cL_column 160 = .ok (.iload 6, 2) := by decide +kernel
theorem dL_column_162 : decode cL_column 162 = .ok (.aload_n 0, 1) := by decide +kernel
theorem dL_column_163 : decode cL_column 163 = .ok (.iconst 4, 1) := by decide +kernel
theorem dL_column_164 : decode cL_column 164 = .ok (.iload_n 1, 1) := by decide +kernel
theorem dL_column_165 : decode cL_column 165 = .ok (.iadd, 1) := by decide +kernel
theorem dL_column_166 : decode cL_column 166 = .ok (.invokevirtual 15, 3) := by decide +kernel
theorem dL_column_169 : decode cL_column 169 = .ok (.if_icmp .ge 182, 3) := by decide +kernel
theorem dL_column_172 : decode cL_column 172 = .ok (.iload 5, 2) := by decide +kernel
theorem dL_column_174 : decode cL_column 174 = .ok (.ifCond .eq 177, 3) := by decide +kernel
theorem dL_column_177 : decode cL_column 177 = .ok (.aload_n 0, 1) := by decide +kernel
theorem dL_column_178 : decode cL_column 178 = .ok (.iload_n 1, 1) := by decide +kernel
theorem dL_column_179 : decode cL_column 179 = .ok (.iload 6, 2) := by decide +kernel
theorem dL_column_181 : decode cL_column 181 = .ok (.iconst 0, 1) := by decide +kernel
theorem dL_column_182 : decode cL_column 182 = .ok (.invokevirtual 23, 3) := by decide +kernel
theorem dL_column_185 : decode cL_column 185 = .ok (.iload_n 3, 1) := by decide +kernel
theorem dL_column_186 : decode cL_column 186 = .ok (.if_icmp .lt 86, 3) := by decide +kernel
theorem dL_column_189 : decode cL_column 189 = .ok (.aload_n 0, 1) := by decide +kernel
theorem dL_column_190 : decode cL_column 190 = .ok (.iload_n 1, 1) := by decide +kernel
theorem dL_column_191 : decode cL_column 191 = .ok (.iload 6, 2) := by decide +kernel
theorem dL_column_193 : decode cL_column 193 = .ok (.iconst 1, 1) := by decide +kernel
theorem dL_column_194 : decode cL_column 194 = .ok (.invokevirtual 23, 3) := by decide +kernel
theorem dL_column_197 : decode cL_column 197 = .ok (.aload_n 0, 1) := by decide +kernel
theorem dL_column_198 : decode cL_column 198 = .ok (.iload_n 1, 1) := by decide +kernel
theorem dL_column_199 : decode cL_column 199 = .ok (.iload 6, 2) := by decide +kernel
theorem dL_column_201 : decode cL_column 201 = .ok (.iconst 0, 1) := by decide +kernel
theorem dL_column_202 : decode cL_column 202 = .ok (.invokevirtual 23, 3) := by decide +kernel
theorem dL_column_205 : decode cL_column 205 = .ok (.if_icmp .lt 67, 3) := by decide +kernel
theorem dL_column_208 : decode cL_column 208 = .ok (.aload_n 0, 1) := by decide +kernel
theorem dL_column_209 : decode cL_column 209 = .ok (.iload_n 1, 1) := by decide +kernel
theorem dL_column_210 : decode cL_column 210 = .ok (.iload 6, 2) := by decide +kernel
theorem dL_column_212 : decode cL_column 212 = .ok (.iconst 2, 1) := by decide +kernel
theorem dL_column_213 : decode cL_column 213 = .ok (.invokevirtual 23, 3) := by decide +kernel
theorem dL_column_216 : decode cL_column 216 = .ok (.ifCond .le 56, 3) := by decide +kernel
theorem dL_column_219 : decode cL_column 219 = .ok (.aload_n 0, 1) := by decide +kernel
theorem dL_column_220 : decode cL_column 220 = .ok (.iload_n 1, 1) := by decide +kernel
theorem dL_column_221 : decode cL_column 221 = .ok (.iload 6, 2) := by decide +kernel
theorem dL_column_223 : decode cL_column 223 = .ok (.iconst 3, 1) := by decide +kernel
theorem dL_column_224 : decode cL_column 224 = .ok (.invokevirtual 23, 3) := by decide +kernel
theorem dL_column_227 : decode cL_column 227 = .ok (.aload_n 0, 1) := by decide +kernel
theorem dL_column_228 : decode cL_column 228 = .ok (.iload_n 1, 1) := by decide +kernel
theorem dL_column_229 : decode cL_column 229 = .ok (.iload 6, 2) := by decide +kernel
theorem dL_column_231 : decode cL_column 231 = .ok (.iconst 2, 1) := by decide +kernel
theorem dL_column_232 : decode cL_column 232 = .ok (.invokevirtual 23, 3) := by decide +kernel
theorem dL_column_235 : decode cL_column 235 = .ok (.if_icmp .gt 37, 3) := by decide +kernel
theorem dL_column_238 : decode cL_column 238 = .ok (.aload_n 0, 1) := by decide +kernel
theorem dL_column_239 : decode cL_column 239 = .ok (.iload_n 1, 1) := by decide +kernel
theorem dL_column_240 : decode cL_column 240 = .ok (.iload 6, 2) := by decide +kernel
theorem dL_column_242 : decode cL_column 242 = .ok (.iconst 3, 1) := by decide +kernel
theorem dL_column_243 : decode cL_column 243 = .ok (.invokevirtual 23, 3) := by decide +kernel
theorem dL_column_246 : decode cL_column 246 = .ok (.aload_n 0, 1) := by decide +kernel
theorem dL_column_247 : decode cL_column 247 = .ok (.iload_n 1, 1) := by decide +kernel
theorem dL_column_248 : decode cL_column 248 = .ok (.iload 6, 2) := by decide +kernel
theorem dL_column_250 : decode cL_column 250 = .ok (.iconst 1, 1) := by decide +kernel
theorem dL_column_251 : decode cL_column 251 = .ok (.invokevirtual 23, 3) := by decide +kernel
theorem dL_column_254 : decode cL_column 254 = .ok (.aload_n 0, 1) := by decide +kernel
theorem dL_column_255 : decode cL_column 255 = .ok (.iload_n 1, 1) := by decide +kernel
theorem dL_column_256 : decode cL_column 256 = .ok (.iload 6, 2) := by decide +kernel
theorem dL_column_258 : decode cL_column 258 = .ok (.iconst 0, 1) := by decide +kernel
theorem dL_column_259 : decode cL_column 259 = .ok (.invokevirtual 23, 3) := by decide +kernel
theorem dL_column_262 : decode cL_column 262 = .ok (.isub, 1) := by decide +kernel
theorem dL_column_263 : decode cL_column 263 = .ok (.iconst 1, 1) := by decide +kernel
theorem dL_column_264 : decode cL_column 264 = .ok (.iadd, 1) := by decide +kernel
theorem dL_column_265 : decode cL_column 265 = .ok (.if_icmp .gt 7, 3) := by decide +kernel
theorem dL_column_268 : decode cL_column 268 = .ok (.iconst 1, 1) := by decide +kernel
theorem dL_column_269 : decode cL_column 269 = .ok (.goto 4, 3) := by decide +kernel
theorem dL_column_272 : decode cL_column 272 = .ok (.iconst 0, 1) := by decide +kernel
theorem dL_column_273 : decode cL_column 273 = .ok (.istore 5, 2) := by decide +kernel
theorem dL_column_275 : decode cL_column 275 = .ok (.iload 5, 2) := by decide +kernel
theorem dL_column_277 : decode cL_column 277 = .ok (.ifCond .eq 45, 3) := by decide +kernel
theorem dL_column_280 : decode cL_column 280 = .ok (.aload_n 0, 1) := by decide +kernel
theorem dL_column_281 : decode cL_column 281 = .ok (.iload_n 1, 1) := by decide +kernel
theorem dL_column_282 : decode cL_column 282 = .ok (.iconst 0, 1) := by decide +kernel
theorem dL_column_283 : decode cL_column 283 = .ok (.iconst 2, 1) := by decide +kernel
theorem dL_column_284 : decode cL_column 284 = .ok (.invokevirtual 23, 3) := by decide +kernel
theorem dL_column_287 : decode cL_column 287 = .ok (.aload_n 0, 1) := by decide +kernel
theorem dL_column_288 : decode cL_column 288 = .ok (.iload_n 1, 1) := by decide +kernel
theorem dL_column_289 : decode cL_column 289 = .ok (.iload 6, 2) := by decide +kernel
theorem dL_column_291 : decode cL_column 291 = .ok (.iconst 2, 1) := by decide +kernel
theorem dL_column_292 : decode cL_column 292 = .ok (.invokevirtual 23, 3) := by decide +kernel
theorem dL_column_295 : decode cL_column 295 = .ok (.if_icmp .eq 23, 3) := by decide +kernel
theorem dL_column_298 : decode cL_column 298 = .ok (.aload_n 0, 1) := by decide +kernel
theorem dL_column_299 : decode cL_column 299 = .ok (.iload_n 1, 1) := by decide +kernel
theorem dL_column_300 : decode cL_column 300 = .ok (.iconst 0, 1) := by decide +kernel
theorem dL_column_301 : decode cL_column 301 = .ok (.iconst 2, 1) := by decide +kernel
theorem dL_column_302 : decode cL_column 302 = .ok (.invokevirtual 23, 3) := by decide +kernel
theorem dL_column_305 : decode cL_column 305 = .ok (.aload_n 0, 1) := by decide +kernel
theorem dL_column_306 : decode cL_column 306 = .ok (.iload_n 1, 1) := by decide +kernel
theorem dL_column_307 : decode cL_column 307 = .ok (.iload 6, 2) := by decide +kernel
theorem dL_column_309 : decode cL_column 309 = .ok (.iconst 2, 1) := by decide +kernel
theorem dL_column_310 : decode cL_column 310 = .ok (.invokevirtual 23, 3) := by decide +kernel
theorem dL_column_313 : decode cL_column 313 = .ok (.iconst 1, 1) := by decide +kernel
theorem dL_column_314 : decode cL_column 314 = .ok (.iadd, 1) := by decide +kernel
theorem dL_column_315 : decode cL_column 315 = .ok (.if_icmp .ne 7, 3) := by decide +kernel
theorem dL_column_318 : decode cL_column 318 = .ok (.iconst 1, 1) := by decide +kernel
theorem dL_column_319 : decode cL_column 319 = .ok (.goto 4, 3) := by decide +kernel
theorem dL_column_322 : decode cL_column 322 = .ok (.iconst 0, 1) := by decide +kernel
theorem dL_column_323 : decode cL_column 323 = .ok (.istore 5, 2) := by decide +kernel
theorem dL_column_325 : decode cL_column 325 = .ok (.aload_n 0, 1) := by decide +kernel
theorem dL_column_326 : decode cL_column 326 = .ok (.iload_n 1, 1) := by decide +kernel
theorem dL_column_327 : decode cL_column 327 = .ok (.iload 6, 2) := by decide +kernel
theorem dL_column_329 : decode cL_column 329 = .ok (.iconst 1, 1) := by decide +kernel
theorem dL_column_330 : decode cL_column 330 = .ok (.invokevirtual 23, 3) := by decide +kernel
theorem dL_column_333 : decode cL_column 333 = .ok (.istore_n 3, 1) := by decide +kernel
theorem dL_column_334 : decode cL_column 334 = .ok (.iload_n 2, 1) := by decide +kernel
theorem dL_column_335 : decode cL_column 335 = .ok (.aload_n 0, 1) := by decide +kernel
theorem dL_column_336 : decode cL_column 336 = .ok (.iload_n 1, 1) := by decide +kernel
theorem dL_column_337 : decode cL_column 337 = .ok (.iload 6, 2) := by decide +kernel
theorem dL_column_339 : decode cL_column 339 = .ok (.iconst 2, 1) := by decide +kernel
theorem dL_column_340 : decode cL_column 340 = .ok (.invokevirtual 23, 3) := by decide +kernel
theorem dL_column_343 : decode cL_column 343 = .ok (.iadd, 1) := by decide +kernel
theorem dL_column_344 : decode cL_column 344 = .ok (.istore_n 2, 1) := by decide +kernel
theorem dL_column_345 : decode cL_column 345 = .ok (.iinc 6 1, 3) := by decide +kernel
theorem dL_column_348 : decode cL_column 348 = .ok (.goto (-188), 3) := by decide +kernel
theorem dL_column_351 : decode cL_column 351 = .ok (.iload 5, 2) := by decide +kernel
theorem dL_column_353 : decode cL_column 353 = .ok (.ifCond .eq 35, 3) := by decide +kernel
theorem dL_column_356 : decode cL_column 356 = .ok (.iload_n 2, 1) := by decide +kernel
theorem dL_column_357 : decode cL_column 357 = .ok (.aload_n 0, 1) := by decide +kernel
theorem dL_column_358 : decode cL_column 358 = .ok (.iconst 1, 1) := by decide +kernel
theorem dL_column_359 : decode cL_column 359 = .ok (.invokevirtual 15, 3) := by decide +kernel
theorem dL_column_362 : decode cL_column 362 = .ok (.if_icmp .ne 26, 3) := by decide +kernel
theorem dL_column_365 : decode cL_column 365 = .ok (.aload_n 0, 1) := by decide +kernel
theorem dL_column_366 : decode cL_column 366 = .ok (.iload_n 1, 1) := by decide +kernel
theorem dL_column_367 : decode cL_column 367 = .ok (.iconst 1, 1) := by decide +kernel
theorem dL_column_368 : decode cL_column 368 = .ok (.invokevirtual 26, 3) := by decide +kernel
theorem dL_column_371 : decode cL_column 371 = .ok (.ifCond .lt 17, 3) := by decide +kernel
theorem dL_column_374 : decode cL_column 374 = .ok (.aload_n 0, 1) := by decide +kernel
theorem dL_column_375 : decode cL_column 375 = .ok (.iload_n 1, 1) := by decide +kernel
theorem dL_column_376 : decode cL_column 376 = .ok (.iconst 1, 1) := by decide +kernel
theorem dL_column_377 : decode cL_column 377 = .ok (.invokevirtual 26, 3) := by decide +kernel
theorem dL_column_380 : decode cL_column 380 = .ok (.iload_n 2, 1) := by decide +kernel
theorem dL_column_381 : decode cL_column 381 = .ok (.if_icmp .gt 7, 3) := by decide +kernel
theorem dL_column_384 : decode cL_column 384 = .ok (.iconst 1, 1) := by decide +kernel
theorem dL_column_385 : decode cL_column 385 = .ok (.goto 4, 3) := by decide +kernel
theorem dL_column_388 : decode cL_column 388 = .ok (.iconst 0, 1) := by decide +kernel
theorem dL_column_389 : decode cL_column 389 = .ok (.istore 5, 2) := by decide +kernel
theorem dL_column_391 : decode cL_column 391 = .ok (.iload 5, 2) := by decide +kernel
theorem dL_column_393 : decode cL_column 393 = .ok (.ifCond .eq 27, 3) := by decide +kernel
theorem dL_column_396 : decode cL_column 396 = .ok (.aload_n 0, 1) := by decide +kernel
theorem dL_column_397 : decode cL_column 397 = .ok (.iconst 4, 1) := by decide +kernel
theorem dL_column_398 : decode cL_column 398 = .ok (.iload_n 1, 1) := by decide +kernel
theorem dL_column_399 : decode cL_column 399 = .ok (.iadd, 1) := by decide +kernel
theorem dL_column_400 : decode cL_column 400 = .ok (.invokevirtual 15, 3) := by decide +kernel
theorem dL_column_403 : decode cL_column 403 = .ok (.ifCond .gt 13, 3) := by decide +kernel
theorem dL_column_406 : decode cL_column 406 = .ok (.aload_n 0, 1) := by decide +kernel
theorem dL_column_407 : decode cL_column 407 = .ok (.iload_n 1, 1) := by decide +kernel
theorem dL_column_408 : decode cL_column 408 = .ok (.invokevirtual 30, 3) := by decide +kernel
theorem dL_column_411 : decode cL_column 411 = .ok (.lconst 0, 1) := by decide +kernel
theorem dL_column_412 : decode cL_column 412 = .ok (.lcmp, 1) := by decide +kernel
theorem dL_column_413 : decode cL_column 413 = .ok (.ifCond .ne 7, 3) := by decide +kernel
theorem dL_column_416 : decode cL_column 416 = .ok (.iconst 1, 1) := by decide +kernel
theorem dL_column_417 : decode cL_column 417 = .ok (.goto 4, 3) := by decide +kernel
theorem dL_column_420 : decode cL_column 420 = .ok (.iconst 0, 1) := by decide +kernel
theorem dL_column_421 : decode cL_column 421 = .ok (.ireturn, 1) := by decide +kernel
theorem dL_estimates_0 : decode cL_estimates 0 = .ok (.iload_n 1, 1) := by decide +kernel
theorem dL_estimates_1 : decode cL_estimates 1 = .ok (.iload_n 2, 1) := by decide +kernel
theorem dL_estimates_2 : decode cL_estimates 2 = .ok (.if_icmp .ge 7, 3) := by decide +kernel
theorem dL_estimates_5 : decode cL_estimates 5 = .ok (.iload_n 1, 1) := by decide +kernel
theorem dL_estimates_6 : decode cL_estimates 6 = .ok (.goto 4, 3) := by decide +kernel
theorem dL_estimates_9 : decode cL_estimates 9 = .ok (.iload_n 2, 1) := by decide +kernel
theorem dL_estimates_10 : decode cL_estimates 10 = .ok (.istore_n 3, 1) := by decide +kernel
theorem dL_estimates_11 : decode cL_estimates 11 = .ok (.iload_n 1, 1) := by decide +kernel
theorem dL_estimates_12 : decode cL_estimates 12 = .ok (.iload_n 2, 1) := by decide +kernel
theorem dL_estimates_13 : decode cL_estimates 13 = .ok (.if_icmp .ge 7, 3) := by decide +kernel
theorem dL_estimates_16 : decode cL_estimates 16 = .ok (.iload_n 2, 1) := by decide +kernel
theorem dL_estimates_17 : decode cL_estimates 17 = .ok (.goto 4, 3) := by decide +kernel
theorem dL_estimates_20 : decode cL_estimates 20 = .ok (.iload_n 1, 1) := by decide +kernel
theorem dL_estimates_21 : decode cL_estimates 21 = .ok (.istore 4, 2) := by decide +kernel
theorem dL_estimates_23 : decode cL_estimates 23 = .ok (.iconst 1, 1) := by decide +kernel
theorem dL_estimates_24 : decode cL_estimates 24 = .ok (.istore 5, 2) := by decide +kernel
theorem dL_estimates_26 : decode cL_estimates 26 = .ok (.iconst 0, 1) := by decide +kernel
theorem dL_estimates_27 : decode cL_estimates 27 = .ok (.istore 6, 2) := by decide +kernel
theorem dL_estimates_29 : decode cL_estimates 29 = .ok (.iload 6, 2) := by decide +kernel
theorem dL_estimates_31 : decode cL_estimates 31 = .ok (.iconst 2, 1) := by decide +kernel
theorem dL_estimates_32 : decode cL_estimates 32 = .ok (.if_icmp .ge 152, 3) := by decide +kernel
theorem dL_estimates_35 : decode cL_estimates 35 = .ok (.iload 5, 2) := by decide +kernel
theorem dL_estimates_37 : decode cL_estimates 37 = .ok (.ifCond .eq 147, 3) := by decide +kernel
theorem dL_estimates_40 : decode cL_estimates 40 = .ok (.aload_n 0, 1) := by decide +kernel
theorem dL_estimates_41 : decode cL_estimates 41 = .ok (.iload 6, 2) := by decide +kernel
theorem dL_estimates_43 : decode cL_estimates 43 = .ok (.iload_n 3, 1) := by decide +kernel
theorem dL_estimates_44 : decode cL_estimates 44 = .ok (.iload 4, 2) := by decide +kernel
theorem dL_estimates_46 : decode cL_estimates 46 = .ok (.iconst 0, 1) := by decide +kernel
theorem dL_estimates_47 : decode cL_estimates 47 = .ok (.invokevirtual 9, 3) := by decide +kernel
theorem dL_estimates_50 : decode cL_estimates 50 = .ok (.istore 7, 2) := by decide +kernel
theorem dL_estimates_52 : decode cL_estimates 52 = .ok (.aload_n 0, 1) := by decide +kernel
theorem dL_estimates_53 : decode cL_estimates 53 = .ok (.iload 6, 2) := by decide +kernel
theorem dL_estimates_55 : decode cL_estimates 55 = .ok (.iload_n 3, 1) := by decide +kernel
theorem dL_estimates_56 : decode cL_estimates 56 = .ok (.iload 4, 2) := by decide +kernel
theorem dL_estimates_58 : decode cL_estimates 58 = .ok (.iconst 4, 1) := by decide +kernel
theorem dL_estimates_59 : decode cL_estimates 59 = .ok (.invokevirtual 9, 3) := by decide +kernel
theorem dL_estimates_62 : decode cL_estimates 62 = .ok (.istore 8, 2) := by decide +kernel
theorem dL_estimates_64 : decode cL_estimates 64 = .ok (.aload_n 0, 1) := by decide +kernel
theorem dL_estimates_65 : decode cL_estimates 65 = .ok (.iload 6, 2) := by decide +kernel
theorem dL_estimates_67 : decode cL_estimates 67 = .ok (.iload_n 3, 1) := by decide +kernel
theorem dL_estimates_68 : decode cL_estimates 68 = .ok (.iload 4, 2) := by decide +kernel
theorem dL_estimates_70 : decode cL_estimates 70 = .ok (.iconst 1, 1) := by decide +kernel
theorem dL_estimates_71 : decode cL_estimates 71 = .ok (.invokevirtual 9, 3) := by decide +kernel
theorem dL_estimates_74 : decode cL_estimates 74 = .ok (.iload 7, 2) := by decide +kernel
theorem dL_estimates_76 : decode cL_estimates 76 = .ok (.if_icmp .gt 49, 3) := by decide +kernel
theorem dL_estimates_79 : decode cL_estimates 79 = .ok (.iload 7, 2) := by decide +kernel
theorem dL_estimates_81 : decode cL_estimates 81 = .ok (.aload_n 0, 1) := by decide +kernel
theorem dL_estimates_82 : decode cL_estimates 82 = .ok (.iload 6, 2) := by decide +kernel
theorem dL_estimates_84 : decode cL_estimates 84 = .ok (.iload_n 3, 1) := by decide +kernel
theorem dL_estimates_85 : decode cL_estimates 85 = .ok (.iload 4, 2) := by decide +kernel
theorem dL_estimates_87 : decode cL_estimates 87 = .ok (.iconst 2, 1) := by decide +kernel
theorem dL_estimates_88 : decode cL_estimates 88 = .ok (.invokevirtual 9, 3) := by decide +kernel
theorem dL_estimates_91 : decode cL_estimates 91 = .ok (.if_icmp .gt 34, 3) := by decide +kernel
theorem dL_estimates_94 : decode cL_estimates 94 = .ok (.aload_n 0, 1) := by decide +kernel
theorem dL_estimates_95 : decode cL_estimates 95 = .ok (.iload 6, 2) := by decide +kernel
theorem dL_estimates_97 : decode cL_estimates 97 = .ok (.iload_n 3, 1) := by decide +kernel
theorem dL_estimates_98 : decode cL_estimates 98 = .ok (.iload 4, 2) := by decide +kernel
theorem dL_estimates_100 : decode cL_estimates 100 = .ok (.iconst 3, 1) := by decide +kernel
theorem dL_estimates_101 : decode cL_estimates 101 = .ok (.invokevirtual 9, 3) := by decide +kernel
theorem dL_estimates_104 : decode cL_estimates 104 = .ok (.iload 7, 2) := by decide +kernel
theorem dL_estimates_106 : decode cL_estimates 106 = .ok (.aload_n 0, 1) := by decide +kernel
theorem dL_estimates_107 : decode cL_estimates 107 = .ok (.iconst 0, 1) := by decide +kernel
theorem dL_estimates_108 : decode cL_estimates 108 = .ok (.invokevirtual 15, 3) := by decide +kernel
theorem dL_estimates_111 : decode cL_estimates 111 = .ok (.imul, 1) := by decide +kernel
theorem dL_estimates_112 : decode cL_estimates 112 = .ok (.aload_n 0, 1) := by decide +kernel
theorem dL_estimates_113 : decode cL_estimates 113 = .ok (.iconst 1, 1) := by decide +kernel
theorem dL_estimates_114 : decode cL_estimates 114 = .ok (.invokevirtual 15, 3) := by decide +kernel
theorem dL_estimates_117 : decode cL_estimates 117 = .ok (.idiv, 1) := by decide +kernel
theorem dL_estimates_118 : decode cL_estimates 118 = .ok (.if_icmp .ne 7, 3) := by decide +kernel
theorem dL_estimates_121 : decode cL_estimates 121 = .ok (.iconst 1, 1) := by decide +kernel
theorem dL_estimates_122 : decode cL_estimates 122 = .ok (.goto 4, 3) := by decide +kernel
theorem dL_estimates_125 : decode cL_estimates 125 = .ok (.iconst 0, 1) := by decide +kernel
theorem dL_estimates_126 : decode cL_estimates 126 = .ok (.istore 5, 2) := by decide +kernel
theorem dL_estimates_128 : decode cL_estimates 128 = .ok (.iload 5, 2) := by decide +kernel
theorem dL_estimates_130 : decode cL_estimates 130 = .ok (.ifCond .eq 45, 3) := by decide +kernel
theorem dL_estimates_133 : decode cL_estimates 133 = .ok (.aload_n 0, 1) := by decide +kernel
theorem dL_estimates_134 : decode cL_estimates 134 = .ok (.iconst 2, 1) := by decide +kernel
theorem dL_estimates_135 : decode cL_estimates 135 = .ok (.invokevirtual 15, 3) := by decide +kernel
theorem dL_estimates_138 : decode cL_estimates 138 = .ok (.ifCond .gt 33, 3) := by decide +kernel
theorem dL_estimates_141 : decode cL_estimates 141 = .ok (.iload 8, 2) := by decide +kernel
theorem dL_estimates_143 : decode cL_estimates 143 = .ok (.aload_n 0, 1) := by decide +kernel
theorem dL_estimates_144 : decode cL_estimates 144 = .ok (.iload 6, 2) := by decide +kernel
theorem dL_estimates_146 : decode cL_estimates 146 = .ok (.iload_n 3, 1) := by decide +kernel
theorem dL_estimates_147 : decode cL_estimates 147 = .ok (.iload 4, 2) := by decide +kernel
theorem dL_estimates_149 : decode cL_estimates 149 = .ok (.iconst 1, 1) := by decide +kernel
theorem dL_estimates_150 : decode cL_estimates 150 = .ok (.invokevirtual 9, 3) := by decide +kernel
theorem dL_estimates_153 : decode cL_estimates 153 = .ok (.if_icmp .lt 22, 3) := by decide +kernel
theorem dL_estimates_156 : decode cL_estimates 156 = .ok (.iload 8, 2) := by decide +kernel
theorem dL_estimates_158 : decode cL_estimates 158 = .ok (.aload_n 0, 1) := by decide +kernel
theorem dL_estimates_159 : decode cL_estimates 159 = .ok (.iload 6, 2) := by decide +kernel
theorem dL_estimates_161 : decode cL_estimates 161 = .ok (.iload_n 3, 1) := by decide +kernel
theorem dL_estimates_162 : decode cL_estimates 162 = .ok (.iload 4, 2) := by decide +kernel
theorem dL_estimates_164 : decode cL_estimates 164 = .ok (.iconst 2, 1) := by decide +kernel
theorem dL_estimates_165 : decode cL_estimates 165 = .ok (.invokevirtual 9, 3) := by decide +kernel
theorem dL_estimates_168 : decode cL_estimates 168 = .ok (.if_icmp .gt 7, 3) := by decide +kernel
theorem dL_estimates_171 : decode cL_estimates 171 = .ok (.iconst 1, 1) := by decide +kernel
theorem dL_estimates_172 : decode cL_estimates 172 = .ok (.goto 4, 3) := by decide +kernel
theorem dL_estimates_175 : decode cL_estimates 175 = .ok (.iconst 0, 1) := by decide +kernel
theorem dL_estimates_176 : decode cL_estimates 176 = .ok (.istore 5, 2) := by decide +kernel
theorem dL_estimates_178 : decode cL_estimates 178 = .ok (.iinc 6 1, 3) := by decide +kernel
theorem dL_estimates_181 : decode cL_estimates 181 = .ok (.goto (-152), 3) := by decide +kernel
theorem dL_estimates_184 : decode cL_estimates 184 = .ok (.aload_n 0, 1) := by decide +kernel
theorem dL_estimates_185 : decode cL_estimates 185 = .ok (.iload_n 3, 1) := by decide +kernel
theorem dL_estimates_186 : decode cL_estimates 186 = .ok (.iload 4, 2) := by decide +kernel
theorem dL_estimates_188 : decode cL_estimates 188 = .ok (.iconst 0, 1) := by decide +kernel
theorem dL_estimates_189 : decode cL_estimates 189 = .ok (.bipush 99, 2) := by decide +kernel
theorem dL_estimates_191 : decode cL_estimates 191 = .ok (.iconst 0, 1) := by decide +kernel
theorem dL_estimates_192 : decode cL_estimates 192 = .ok (.invokevirtual 34, 3) := by decide +kernel
theorem dL_estimates_195 : decode cL_estimates 195 = .ok (.istore 6, 2) := by decide +kernel
theorem dL_estimates_197 : decode cL_estimates 197 = .ok (.aload_n 0, 1) := by decide +kernel
theorem dL_estimates_198 : decode cL_estimates 198 = .ok (.iload_n 3, 1) := by decide +kernel
theorem dL_estimates_199 : decode cL_estimates 199 = .ok (.iload 4, 2) := by decide +kernel
theorem dL_estimates_201 : decode cL_estimates 201 = .ok (.iload_n 3, 1) := by decide +kernel
theorem dL_estimates_202 : decode cL_estimates 202 = .ok (.iload 4, 2) := by decide +kernel
theorem dL_estimates_204 : decode cL_estimates 204 = .ok (.iconst 2, 1) := by decide +kernel
theorem dL_estimates_205 : decode cL_estimates 205 = .ok (.invokevirtual 34, 3) := by decide +kernel
theorem dL_estimates_208 : decode cL_estimates 208 = .ok (.istore 7, 2) := by decide +kernel
theorem dL_estimates_210 : decode cL_estimates 210 = .ok (.iload 5, 2) := by decide +kernel
theorem dL_estimates_212 : decode cL_estimates 212 = .ok (.ifCond .eq 59, 3) := by decide +kernel
theorem dL_estimates_215 : decode cL_estimates 215 = .ok (.iload 6, 2) := by decide +kernel
theorem dL_estimates_217 : decode cL_estimates 217 = .ok (.ifCond .lt 54, 3) := by decide +kernel
theorem dL_estimates_220 : decode cL_estimates 220 = .ok (.aload_n 0, 1) := by decide +kernel
theorem dL_estimates_221 : decode cL_estimates 221 = .ok (.iconst 0, 1) := by decide +kernel
theorem dL_estimates_222 : decode cL_estimates 222 = .ok (.bipush 99, 2) := by decide +kernel
theorem dL_estimates_224 : decode cL_estimates 224 = .ok (.iconst 0, 1) := by decide +kernel
theorem dL_estimates_225 : decode cL_estimates 225 = .ok (.bipush 99, 2) := by decide +kernel
theorem dL_estimates_227 : decode cL_estimates 227 = .ok (.iconst 0, 1) := by decide +kernel
theorem dL_estimates_228 : decode cL_estimates 228 = .ok (.invokevirtual 34, 3) := by decide +kernel
theorem dL_estimates_231 : decode cL_estimates 231 = .ok (.aload_n 0, 1) := by decide +kernel
theorem dL_estimates_232 : decode cL_estimates 232 = .ok (.iconst 1, 1) := by decide +kernel
theorem dL_estimates_233 : decode cL_estimates 233 = .ok (.invokevirtual 15, 3) := by decide +kernel
theorem dL_estimates_236 : decode cL_estimates 236 = .ok (.if_icmp .ne 35, 3) := by decide +kernel
theorem dL_estimates_239 : decode cL_estimates 239 = .ok (.aload_n 0, 1) := by decide +kernel
theorem dL_estimates_240 : decode cL_estimates 240 = .ok (.iload_n 3, 1) := by decide +kernel
theorem dL_estimates_241 : decode cL_estimates 241 = .ok (.iload 4, 2) := by decide +kernel
theorem dL_estimates_243 : decode cL_estimates 243 = .ok (.iconst 0, 1) := by decide +kernel
theorem dL_estimates_244 : decode cL_estimates 244 = .ok (.bipush 99, 2) := by decide +kernel
theorem dL_estimates_246 : decode cL_estimates 246 = .ok (.iconst 1, 1) := by decide +kernel
theorem dL_estimates_247 : decode cL_estimates 247 = .ok (.invokevirtual 34, 3) := by decide +kernel
theorem dL_estimates_250 : decode cL_estimates 250 = .ok (.iload 6, 2) := by decide +kernel
theorem dL_estimates_252 : decode cL_estimates 252 = .ok (.aload_n 0, 1) := by decide +kernel
theorem dL_estimates_253 : decode cL_estimates 253 = .ok (.iconst 0, 1) := by decide +kernel
theorem dL_estimates_254 : decode cL_estimates 254 = .ok (.invokevirtual 15, 3) := by decide +kernel
theorem dL_estimates_257 : decode cL_estimates 257 = .ok (.imul, 1) := by decide +kernel
theorem dL_estimates_258 : decode cL_estimates 258 = .ok (.aload_n 0, 1) := by decide +kernel
theorem dL_estimates_259 : decode cL_estimates 259 = .ok (.iconst 1, 1) := by decide +kernel
theorem dL_estimates_260 : decode cL_estimates 260 = .ok (.invokevirtual 15, 3) := by decide +kernel
theorem dL_estimates_263 : decode cL_estimates 263 = .ok (.idiv, 1) := by decide +kernel
theorem dL_estimates_264 : decode cL_estimates 264 = .ok (.if_icmp .ne 7, 3) := by decide +kernel
theorem dL_estimates_267 : decode cL_estimates 267 = .ok (.iconst 1, 1) := by decide +kernel
theorem dL_estimates_268 : decode cL_estimates 268 = .ok (.goto 4, 3) := by decide +kernel
theorem dL_estimates_271 : decode cL_estimates 271 = .ok (.iconst 0, 1) := by decide +kernel
theorem dL_estimates_272 : decode cL_estimates 272 = .ok (.istore 5, 2) := by decide +kernel
theorem dL_estimates_274 : decode cL_estimates 274 = .ok (.iload 5, 2) := by decide +kernel
theorem dL_estimates_276 : decode cL_estimates 276 = .ok (.ifCond .eq 35, 3) := by decide +kernel
theorem dL_estimates_279 : decode cL_estimates 279 = .ok (.iload 7, 2) := by decide +kernel
theorem dL_estimates_281 : decode cL_estimates 281 = .ok (.aload_n 0, 1) := by decide +kernel
theorem dL_estimates_282 : decode cL_estimates 282 = .ok (.iconst 0, 1) := by decide +kernel
theorem dL_estimates_283 : decode cL_estimates 283 = .ok (.iload_n 3, 1) := by decide +kernel
theorem dL_estimates_284 : decode cL_estimates 284 = .ok (.iload 4, 2) := by decide +kernel
theorem dL_estimates_286 : decode cL_estimates 286 = .ok (.iconst 4, 1) := by decide +kernel
theorem dL_estimates_287 : decode cL_estimates 287 = .ok (.invokevirtual 9, 3) := by decide +kernel
theorem dL_estimates_290 : decode cL_estimates 290 = .ok (.if_icmp .gt 21, 3) := by decide +kernel
theorem dL_estimates_293 : decode cL_estimates 293 = .ok (.iload 7, 2) := by decide +kernel
theorem dL_estimates_295 : decode cL_estimates 295 = .ok (.aload_n 0, 1) := by decide +kernel
theorem dL_estimates_296 : decode cL_estimates 296 = .ok (.iconst 1, 1) := by decide +kernel
theorem dL_estimates_297 : decode cL_estimates 297 = .ok (.iload_n 3, 1) := by decide +kernel
theorem dL_estimates_298 : decode cL_estimates 298 = .ok (.iload 4, 2) := by decide +kernel
theorem dL_estimates_300 : decode cL_estimates 300 = .ok (.iconst 4, 1) := by decide +kernel
theorem dL_estimates_301 : decode cL_estimates 301 = .ok (.invokevirtual 9, 3) := by decide +kernel
theorem dL_estimates_304 : decode cL_estimates 304 = .ok (.if_icmp .gt 7, 3) := by decide +kernel
theorem dL_estimates_307 : decode cL_estimates 307 = .ok (.iconst 1, 1) := by decide +kernel
theorem dL_estimates_308 : decode cL_estimates 308 = .ok (.goto 4, 3) := by decide +kernel
theorem dL_estimates_311 : decode cL_estimates 311 = .ok (.iconst 0, 1) := by decide +kernel
theorem dL_estimates_312 : decode cL_estimates 312 = .ok (.ireturn, 1) := by decide +kernel
theorem dL_act_0 : decode cL_act 0 = .ok (.aload_n 1, 1) := by decide +kernel
theorem dL_act_1 : decode cL_act 1 = .ok (.iload_n 2, 1) := by decide +kernel
theorem dL_act_2 : decode cL_act 2 = .ok (.iconst 1, 1) := by decide +kernel
theorem dL_act_3 : decode cL_act 3 = .ok (.iadd, 1) := by decide +kernel
theorem dL_act_4 : decode cL_act 4 = .ok (.invokestatic 38, 3) := by decide +kernel
theorem dL_act_7 : decode cL_act 7 = .ok (.istore_n 3, 1) := by decide +kernel
theorem dL_act_8 : decode cL_act 8 = .ok (.aload_n 1, 1) := by decide +kernel
theorem dL_act_9 : decode cL_act 9 = .ok (.iload_n 2, 1) := by decide +kernel
theorem dL_act_10 : decode cL_act 10 = .ok (.iconst 2, 1) := by decide +kernel
theorem dL_act_11 : decode cL_act 11 = .ok (.iadd, 1) := by decide +kernel
theorem dL_act_12 : decode cL_act 12 = .ok (.invokestatic 38, 3) := by decide +kernel
theorem dL_act_15 : decode cL_act 15 = .ok (.istore 4, 2) := by decide +kernel
theorem dL_act_17 : decode cL_act 17 = .ok (.aload_n 1, 1) := by decide +kernel
theorem dL_act_18 : decode cL_act 18 = .ok (.iload_n 2, 1) := by decide +kernel
theorem dL_act_19 : decode cL_act 19 = .ok (.invokestatic 38, 3) := by decide +kernel
theorem dL_act_22 : decode cL_act 22 = .ok (.bipush 16, 2) := by decide +kernel
theorem dL_act_24 : decode cL_act 24 = .ok (.invokestatic 44, 3) := by decide +kernel
theorem dL_act_27 : decode cL_act 27 = .ok (.tableswitch 136 0 12 #[65, 65, 65, 65, 65, 65, 65, 85, 85, 103, 103, 114, 131], 65) := by decide +kernel
theorem dL_act_92 : decode cL_act 92 = .ok (.aload_n 0, 1) := by decide +kernel
theorem dL_act_93 : decode cL_act 93 = .ok (.iload_n 3, 1) := by decide +kernel
theorem dL_act_94 : decode cL_act 94 = .ok (.bipush 20, 2) := by decide +kernel
theorem dL_act_96 : decode cL_act 96 = .ok (.invokestatic 44, 3) := by decide +kernel
theorem dL_act_99 : decode cL_act 99 = .ok (.iconst 5, 1) := by decide +kernel
theorem dL_act_100 : decode cL_act 100 = .ok (.imul, 1) := by decide +kernel
theorem dL_act_101 : decode cL_act 101 = .ok (.iload 4, 2) := by decide +kernel
theorem dL_act_103 : decode cL_act 103 = .ok (.bipush 12, 2) := by decide +kernel
theorem dL_act_105 : decode cL_act 105 = .ok (.invokestatic 44, 3) := by decide +kernel
theorem dL_act_108 : decode cL_act 108 = .ok (.invokevirtual 47, 3) := by decide +kernel
theorem dL_act_111 : decode cL_act 111 = .ok (.ireturn, 1) := by decide +kernel
theorem dL_act_112 : decode cL_act 112 = .ok (.aload_n 0, 1) := by decide +kernel
theorem dL_act_113 : decode cL_act 113 = .ok (.iload_n 3, 1) := by decide +kernel
theorem dL_act_114 : decode cL_act 114 = .ok (.bipush 101, 2) := by decide +kernel
theorem dL_act_116 : decode cL_act 116 = .ok (.invokestatic 44, 3) := by decide +kernel
theorem dL_act_119 : decode cL_act 119 = .ok (.iload 4, 2) := by decide +kernel
theorem dL_act_121 : decode cL_act 121 = .ok (.bipush 101, 2) := by decide +kernel
theorem dL_act_123 : decode cL_act 123 = .ok (.invokestatic 44, 3) := by decide +kernel
theorem dL_act_126 : decode cL_act 126 = .ok (.invokevirtual 47, 3) := by decide +kernel
theorem dL_act_129 : decode cL_act 129 = .ok (.ireturn, 1) := by decide +kernel
theorem dL_act_130 : decode cL_act 130 = .ok (.aload_n 0, 1) := by decide +kernel
theorem dL_act_131 : decode cL_act 131 = .ok (.iload_n 3, 1) := by decide +kernel
theorem dL_act_132 : decode cL_act 132 = .ok (.bipush 12, 2) := by decide +kernel
theorem dL_act_134 : decode cL_act 134 = .ok (.invokestatic 44, 3) := by decide +kernel
theorem dL_act_137 : decode cL_act 137 = .ok (.invokevirtual 50, 3) := by decide +kernel
theorem dL_act_140 : decode cL_act 140 = .ok (.ireturn, 1) := by decide +kernel
theorem dL_act_141 : decode cL_act 141 = .ok (.aload_n 0, 1) := by decide +kernel
theorem dL_act_142 : decode cL_act 142 = .ok (.iload_n 3, 1) := by decide +kernel
theorem dL_act_143 : decode cL_act 143 = .ok (.iconst 4, 1) := by decide +kernel
theorem dL_act_144 : decode cL_act 144 = .ok (.invokestatic 44, 3) := by decide +kernel
theorem dL_act_147 : decode cL_act 147 = .ok (.iload 4, 2) := by decide +kernel
theorem dL_act_149 : decode cL_act 149 = .ok (.bipush 11, 2) := by decide +kernel
theorem dL_act_151 : decode cL_act 151 = .ok (.invokestatic 44, 3) := by decide +kernel
theorem dL_act_154 : decode cL_act 154 = .ok (.invokevirtual 53, 3) := by decide +kernel
theorem dL_act_157 : decode cL_act 157 = .ok (.ireturn, 1) := by decide +kernel
theorem dL_act_158 : decode cL_act 158 = .ok (.aload_n 0, 1) := by decide +kernel
theorem dL_act_159 : decode cL_act 159 = .ok (.invokevirtual 56, 3) := by decide +kernel
theorem dL_act_162 : decode cL_act 162 = .ok (.ireturn, 1) := by decide +kernel
theorem dL_act_163 : decode cL_act 163 = .ok (.aload_n 0, 1) := by decide +kernel
theorem dL_act_164 : decode cL_act 164 = .ok (.invokevirtual 60, 3) := by decide +kernel
theorem dL_act_167 : decode cL_act 167 = .ok (.ireturn, 1) := by decide +kernel
theorem dL_law_0 : decode cL_law 0 = .ok (.new 10, 3) := by decide +kernel
theorem dL_law_3 : decode cL_law 3 = .ok (.dup, 1) := by decide +kernel
theorem dL_law_4 : decode cL_law 4 = .ok (.invokespecial 63, 3) := by decide +kernel
theorem dL_law_7 : decode cL_law 7 = .ok (.astore_n 1, 1) := by decide +kernel
theorem dL_law_8 : decode cL_law 8 = .ok (.iconst 1, 1) := by decide +kernel
theorem dL_law_9 : decode cL_law 9 = .ok (.istore_n 2, 1) := by decide +kernel
theorem dL_law_10 : decode cL_law 10 = .ok (.aload_n 0, 1) := by decide +kernel
theorem dL_law_11 : decode cL_law 11 = .ok (.arraylength, 1) := by decide +kernel
theorem dL_law_12 : decode cL_law 12 = .ok (.iconst 3, 1) := by decide +kernel
theorem dL_law_13 : decode cL_law 13 = .ok (.idiv, 1) := by decide +kernel
theorem dL_law_14 : decode cL_law 14 = .ok (.bipush 40, 2) := by decide +kernel
theorem dL_law_16 : decode cL_law 16 = .ok (.if_icmp .le 8, 3) := by decide +kernel
theorem dL_law_19 : decode cL_law 19 = .ok (.bipush 40, 2) := by decide +kernel
theorem dL_law_21 : decode cL_law 21 = .ok (.goto 7, 3) := by decide +kernel
theorem dL_law_24 : decode cL_law 24 = .ok (.aload_n 0, 1) := by decide +kernel
theorem dL_law_25 : decode cL_law 25 = .ok (.arraylength, 1) := by decide +kernel
theorem dL_law_26 : decode cL_law 26 = .ok (.iconst 3, 1) := by decide +kernel
theorem dL_law_27 : decode cL_law 27 = .ok (.idiv, 1) := by decide +kernel
theorem dL_law_28 : decode cL_law 28 = .ok (.istore_n 3, 1) := by decide +kernel
theorem dL_law_29 : decode cL_law 29 = .ok (.iconst 0, 1) := by decide +kernel
theorem dL_law_30 : decode cL_law 30 = .ok (.istore 4, 2) := by decide +kernel
theorem dL_law_32 : decode cL_law 32 = .ok (.iload 4, 2) := by decide +kernel
theorem dL_law_34 : decode cL_law 34 = .ok (.iload_n 3, 1) := by decide +kernel
theorem dL_law_35 : decode cL_law 35 = .ok (.if_icmp .ge 317, 3) := by decide +kernel
theorem dL_law_38 : decode cL_law 38 = .ok (.iload_n 2, 1) := by decide +kernel
theorem dL_law_39 : decode cL_law 39 = .ok (.ifCond .eq 313, 3) := by decide +kernel
theorem dL_law_42 : decode cL_law 42 = .ok (.aload_n 1, 1) := by decide +kernel
theorem dL_law_43 : decode cL_law 43 = .ok (.bipush 14, 2) := by decide +kernel
theorem dL_law_45 : decode cL_law 45 = .ok (.invokevirtual 15, 3) := by decide +kernel
theorem dL_law_48 : decode cL_law 48 = .ok (.istore 5, 2) := by decide +kernel
theorem dL_law_50 : decode cL_law 50 = .ok (.aload_n 1, 1) := by decide +kernel
theorem dL_law_51 : decode cL_law 51 = .ok (.iconst 0, 1) := by decide +kernel
theorem dL_law_52 : decode cL_law 52 = .ok (.invokevirtual 15, 3) := by decide +kernel
theorem dL_law_55 : decode cL_law 55 = .ok (.istore 6, 2) := by decide +kernel
theorem dL_law_57 : decode cL_law 57 = .ok (.aload_n 1, 1) := by decide +kernel
theorem dL_law_58 : decode cL_law 58 = .ok (.iconst 2, 1) := by decide +kernel
theorem dL_law_59 : decode cL_law 59 = .ok (.invokevirtual 15, 3) := by decide +kernel
theorem dL_law_62 : decode cL_law 62 = .ok (.istore 7, 2) := by decide +kernel
theorem dL_law_64 : decode cL_law 64 = .ok (.aload_n 1, 1) := by decide +kernel
theorem dL_law_65 : decode cL_law 65 = .ok (.aload_n 0, 1) := by decide +kernel
theorem dL_law_66 : decode cL_law 66 = .ok (.iconst 3, 1) := by decide +kernel
theorem dL_law_67 : decode cL_law 67 = .ok (.iload 4, 2) := by decide +kernel
theorem dL_law_69 : decode cL_law 69 = .ok (.imul, 1) := by decide +kernel
theorem dL_law_70 : decode cL_law 70 = .ok (.invokestatic 64, 3) := by decide +kernel
theorem dL_law_73 : decode cL_law 73 = .ok (.istore 8, 2) := by decide +kernel
theorem dL_law_75 : decode cL_law 75 = .ok (.iload 8, 2) := by decide +kernel
theorem dL_law_77 : decode cL_law 77 = .ok (.ifCond .ge 34, 3) := by decide +kernel
theorem dL_law_80 : decode cL_law 80 = .ok (.aload_n 1, 1) := by decide +kernel
theorem dL_law_81 : decode cL_law 81 = .ok (.bipush 14, 2) := by decide +kernel
theorem dL_law_83 : decode cL_law 83 = .ok (.invokevirtual 15, 3) := by decide +kernel
theorem dL_law_86 : decode cL_law 86 = .ok (.iload 5, 2) := by decide +kernel
theorem dL_law_88 : decode cL_law 88 = .ok (.if_icmp .ne 37, 3) := by decide +kernel
theorem dL_law_91 : decode cL_law 91 = .ok (.aload_n 1, 1) := by decide +kernel
theorem dL_law_92 : decode cL_law 92 = .ok (.iconst 0, 1) := by decide +kernel
theorem dL_law_93 : decode cL_law 93 = .ok (.invokevirtual 15, 3) := by decide +kernel
theorem dL_law_96 : decode cL_law 96 = .ok (.iload 6, 2) := by decide +kernel
theorem dL_law_98 : decode cL_law 98 = .ok (.if_icmp .ne 27, 3) := by decide +kernel
theorem dL_law_101 : decode cL_law 101 = .ok (.aload_n 1, 1) := by decide +kernel
theorem dL_law_102 : decode cL_law 102 = .ok (.iconst 2, 1) := by decide +kernel
theorem dL_law_103 : decode cL_law 103 = .ok (.invokevirtual 15, 3) := by decide +kernel
theorem dL_law_106 : decode cL_law 106 = .ok (.iload 7, 2) := by decide +kernel
theorem dL_law_108 : decode cL_law 108 = .ok (.if_icmp .ne 17, 3) := by decide +kernel
theorem dL_law_111 : decode cL_law 111 = .ok (.aload_n 1, 1) := by decide +kernel
theorem dL_law_112 : decode cL_law 112 = .ok (.iconst 0, 1) := by decide +kernel
theorem dL_law_113 : decode cL_law 113 = .ok (.invokevirtual 15, 3) := by decide +kernel
theorem dL_law_116 : decode cL_law 116 = .ok (.bipush 60, 2) := by decide +kernel
theorem dL_law_118 : decode cL_law 118 = .ok (.if_icmp .gt 7, 3) := by decide +kernel
theorem dL_law_121 : decode cL_law 121 = .ok (.iconst 1, 1) := by decide +kernel
theorem dL_law_122 : decode cL_law 122 = .ok (.goto 4, 3) := by decide +kernel
theorem dL_law_125 : decode cL_law 125 = .ok (.iconst 0, 1) := by decide +kernel
theorem dL_law_126 : decode cL_law 126 = .ok (.istore_n 2, 1) := by decide +kernel
theorem dL_law_127 : decode cL_law 127 = .ok (.aload_n 1, 1) := by decide +kernel
theorem dL_law_128 : decode cL_law 128 = .ok (.iconst 1, 1) := by decide +kernel
theorem dL_law_129 : decode cL_law 129 = .ok (.invokevirtual 15, 3) := by decide +kernel
theorem dL_law_132 : decode cL_law 132 = .ok (.ifCond .ne 105, 3) := by decide +kernel
theorem dL_law_135 : decode cL_law 135 = .ok (.iload_n 2, 1) := by decide +kernel
theorem dL_law_136 : decode cL_law 136 = .ok (.ifCond .eq 96, 3) := by decide +kernel
theorem dL_law_139 : decode cL_law 139 = .ok (.aload_n 1, 1) := by decide +kernel
theorem dL_law_140 : decode cL_law 140 = .ok (.iconst 3, 1) := by decide +kernel
theorem dL_law_141 : decode cL_law 141 = .ok (.invokevirtual 15, 3) := by decide +kernel
theorem dL_law_144 : decode cL_law 144 = .ok (.bipush (-6), 2) := by decide +kernel
theorem dL_law_146 : decode cL_law 146 = .ok (.if_icmp .ne 86, 3) := by decide +kernel
theorem dL_law_149 : decode cL_law 149 = .ok (.aload_n 1, 1) := by decide +kernel
theorem dL_law_150 : decode cL_law 150 = .ok (.iconst 2, 1) := by decide +kernel
theorem dL_law_151 : decode cL_law 151 = .ok (.invokevirtual 15, 3) := by decide +kernel
theorem dL_law_154 : decode cL_law 154 = .ok (.ifCond .ne 78, 3) := by decide +kernel
theorem dL_law_157 : decode cL_law 157 = .ok (.aload_n 1, 1) := by decide +kernel
theorem dL_law_158 : decode cL_law 158 = .ok (.iconst 0, 1) := by decide +kernel
theorem dL_law_159 : decode cL_law 159 = .ok (.iconst 0, 1) := by decide +kernel
theorem dL_law_160 : decode cL_law 160 = .ok (.bipush 99, 2) := by decide +kernel
theorem dL_law_162 : decode cL_law 162 = .ok (.iconst 0, 1) := by decide +kernel
theorem dL_law_163 : decode cL_law 163 = .ok (.invokevirtual 9, 3) := by decide +kernel
theorem dL_law_166 : decode cL_law 166 = .ok (.bipush (-6), 2) := by decide +kernel
theorem dL_law_168 : decode cL_law 168 = .ok (.if_icmp .ne 64, 3) := by decide +kernel
theorem dL_law_171 : decode cL_law 171 = .ok (.aload_n 1, 1) := by decide +kernel
theorem dL_law_172 : decode cL_law 172 = .ok (.iconst 0, 1) := by decide +kernel
theorem dL_law_173 : decode cL_law 173 = .ok (.bipush 99, 2) := by decide +kernel
theorem dL_law_175 : decode cL_law 175 = .ok (.iconst 0, 1) := by decide +kernel
theorem dL_law_176 : decode cL_law 176 = .ok (.bipush 99, 2) := by decide +kernel
theorem dL_law_178 : decode cL_law 178 = .ok (.iconst 1, 1) := by decide +kernel
theorem dL_law_179 : decode cL_law 179 = .ok (.invokevirtual 34, 3) := by decide +kernel
theorem dL_law_182 : decode cL_law 182 = .ok (.bipush (-6), 2) := by decide +kernel
theorem dL_law_184 : decode cL_law 184 = .ok (.if_icmp .ne 48, 3) := by decide +kernel
theorem dL_law_187 : decode cL_law 187 = .ok (.aload_n 1, 1) := by decide +kernel
theorem dL_law_188 : decode cL_law 188 = .ok (.iconst 1, 1) := by decide +kernel
theorem dL_law_189 : decode cL_law 189 = .ok (.iconst 0, 1) := by decide +kernel
theorem dL_law_190 : decode cL_law 190 = .ok (.bipush 9, 2) := by decide +kernel
theorem dL_law_192 : decode cL_law 192 = .ok (.invokevirtual 68, 3) := by decide +kernel
theorem dL_law_195 : decode cL_law 195 = .ok (.bipush (-6), 2) := by decide +kernel
theorem dL_law_197 : decode cL_law 197 = .ok (.if_icmp .ne 35, 3) := by decide +kernel
theorem dL_law_200 : decode cL_law 200 = .ok (.aload_n 1, 1) := by decide +kernel
theorem dL_law_201 : decode cL_law 201 = .ok (.iconst 0, 1) := by decide +kernel
theorem dL_law_202 : decode cL_law 202 = .ok (.iconst 0, 1) := by decide +kernel
theorem dL_law_203 : decode cL_law 203 = .ok (.invokevirtual 26, 3) := by decide +kernel
theorem dL_law_206 : decode cL_law 206 = .ok (.bipush (-6), 2) := by decide +kernel
theorem dL_law_208 : decode cL_law 208 = .ok (.if_icmp .ne 24, 3) := by decide +kernel
theorem dL_law_211 : decode cL_law 211 = .ok (.aload_n 1, 1) := by decide +kernel
theorem dL_law_212 : decode cL_law 212 = .ok (.iconst 1, 1) := by decide +kernel
theorem dL_law_213 : decode cL_law 213 = .ok (.iconst 0, 1) := by decide +kernel
theorem dL_law_214 : decode cL_law 214 = .ok (.bipush 99, 2) := by decide +kernel
theorem dL_law_216 : decode cL_law 216 = .ok (.iconst 4, 1) := by decide +kernel
theorem dL_law_217 : decode cL_law 217 = .ok (.invokevirtual 9, 3) := by decide +kernel
theorem dL_law_220 : decode cL_law 220 = .ok (.aload_n 1, 1) := by decide +kernel
theorem dL_law_221 : decode cL_law 221 = .ok (.iconst 0, 1) := by decide +kernel
theorem dL_law_222 : decode cL_law 222 = .ok (.invokevirtual 15, 3) := by decide +kernel
theorem dL_law_225 : decode cL_law 225 = .ok (.if_icmp .ne 7, 3) := by decide +kernel
theorem dL_law_228 : decode cL_law 228 = .ok (.iconst 1, 1) := by decide +kernel
theorem dL_law_229 : decode cL_law 229 = .ok (.goto 4, 3) := by decide +kernel
theorem dL_law_232 : decode cL_law 232 = .ok (.iconst 0, 1) := by decide +kernel
theorem dL_law_233 : decode cL_law 233 = .ok (.istore_n 2, 1) := by decide +kernel
theorem dL_law_234 : decode cL_law 234 = .ok (.goto 112, 3) := by decide +kernel
theorem dL_law_237 : decode cL_law 237 = .ok (.iload_n 2, 1) := by decide +kernel
theorem dL_law_238 : decode cL_law 238 = .ok (.ifCond .eq 60, 3) := by decide +kernel
theorem dL_law_241 : decode cL_law 241 = .ok (.aload_n 1, 1) := by decide +kernel
theorem dL_law_242 : decode cL_law 242 = .ok (.iconst 0, 1) := by decide +kernel
theorem dL_law_243 : decode cL_law 243 = .ok (.invokestatic 71, 3) := by decide +kernel
theorem dL_law_246 : decode cL_law 246 = .ok (.ifCond .eq 52, 3) := by decide +kernel
theorem dL_law_249 : decode cL_law 249 = .ok (.aload_n 1, 1) := by decide +kernel
theorem dL_law_250 : decode cL_law 250 = .ok (.iconst 1, 1) := by decide +kernel
theorem dL_law_251 : decode cL_law 251 = .ok (.invokestatic 71, 3) := by decide +kernel
theorem dL_law_254 : decode cL_law 254 = .ok (.ifCond .eq 44, 3) := by decide +kernel
theorem dL_law_257 : decode cL_law 257 = .ok (.aload_n 1, 1) := by decide +kernel
theorem dL_law_258 : decode cL_law 258 = .ok (.aload_n 0, 1) := by decide +kernel
theorem dL_law_259 : decode cL_law 259 = .ok (.iconst 3, 1) := by decide +kernel
theorem dL_law_260 : decode cL_law 260 = .ok (.iload 4, 2) := by decide +kernel
theorem dL_law_262 : decode cL_law 262 = .ok (.imul, 1) := by decide +kernel
theorem dL_law_263 : decode cL_law 263 = .ok (.iconst 1, 1) := by decide +kernel
theorem dL_law_264 : decode cL_law 264 = .ok (.iadd, 1) := by decide +kernel
theorem dL_law_265 : decode cL_law 265 = .ok (.invokestatic 38, 3) := by decide +kernel
theorem dL_law_268 : decode cL_law 268 = .ok (.bipush 100, 2) := by decide +kernel
theorem dL_law_270 : decode cL_law 270 = .ok (.invokestatic 44, 3) := by decide +kernel
theorem dL_law_273 : decode cL_law 273 = .ok (.aload_n 0, 1) := by decide +kernel
theorem dL_law_274 : decode cL_law 274 = .ok (.iconst 3, 1) := by decide +kernel
theorem dL_law_275 : decode cL_law 275 = .ok (.iload 4, 2) := by decide +kernel
theorem dL_law_277 : decode cL_law 277 = .ok (.imul, 1) := by decide +kernel
theorem dL_law_278 : decode cL_law 278 = .ok (.iconst 2, 1) := by decide +kernel
theorem dL_law_279 : decode cL_law 279 = .ok (.iadd, 1) := by decide +kernel
theorem dL_law_280 : decode cL_law 280 = .ok (.invokestatic 38, 3) := by decide +kernel
theorem dL_law_283 : decode cL_law 283 = .ok (.bipush 100, 2) := by decide +kernel
theorem dL_law_285 : decode cL_law 285 = .ok (.invokestatic 44, 3) := by decide +kernel
theorem dL_law_288 : decode cL_law 288 = .ok (.invokestatic 75, 3) := by decide +kernel
theorem dL_law_291 : decode cL_law 291 = .ok (.ifCond .eq 7, 3) := by decide +kernel
theorem dL_law_294 : decode cL_law 294 = .ok (.iconst 1, 1) := by decide +kernel
theorem dL_law_295 : decode cL_law 295 = .ok (.goto 4, 3) := by decide +kernel
theorem dL_law_298 : decode cL_law 298 = .ok (.iconst 0, 1) := by decide +kernel
theorem dL_law_299 : decode cL_law 299 = .ok (.istore_n 2, 1) := by decide +kernel
theorem dL_law_300 : decode cL_law 300 = .ok (.iload_n 2, 1) := by decide +kernel
theorem dL_law_301 : decode cL_law 301 = .ok (.ifCond .eq 43, 3) := by decide +kernel
theorem dL_law_304 : decode cL_law 304 = .ok (.aload_n 1, 1) := by decide +kernel
theorem dL_law_305 : decode cL_law 305 = .ok (.iconst 3, 1) := by decide +kernel
theorem dL_law_306 : decode cL_law 306 = .ok (.invokevirtual 15, 3) := by decide +kernel
theorem dL_law_309 : decode cL_law 309 = .ok (.bipush 100, 2) := by decide +kernel
theorem dL_law_311 : decode cL_law 311 = .ok (.aload_n 1, 1) := by decide +kernel
theorem dL_law_312 : decode cL_law 312 = .ok (.iconst 2, 1) := by decide +kernel
theorem dL_law_313 : decode cL_law 313 = .ok (.invokevirtual 15, 3) := by decide +kernel
theorem dL_law_316 : decode cL_law 316 = .ok (.imul, 1) := by decide +kernel
theorem dL_law_317 : decode cL_law 317 = .ok (.aload_n 1, 1) := by decide +kernel
theorem dL_law_318 : decode cL_law 318 = .ok (.bipush 12, 2) := by decide +kernel
theorem dL_law_320 : decode cL_law 320 = .ok (.invokevirtual 15, 3) := by decide +kernel
theorem dL_law_323 : decode cL_law 323 = .ok (.aload_n 1, 1) := by decide +kernel
theorem dL_law_324 : decode cL_law 324 = .ok (.iconst 1, 1) := by decide +kernel
theorem dL_law_325 : decode cL_law 325 = .ok (.invokevirtual 15, 3) := by decide +kernel
theorem dL_law_328 : decode cL_law 328 = .ok (.imul, 1) := by decide +kernel
theorem dL_law_329 : decode cL_law 329 = .ok (.if_icmp .le 7, 3) := by decide +kernel
theorem dL_law_332 : decode cL_law 332 = .ok (.iconst 1, 1) := by decide +kernel
theorem dL_law_333 : decode cL_law 333 = .ok (.goto 4, 3) := by decide +kernel
theorem dL_law_336 : decode cL_law 336 = .ok (.iconst 0, 1) := by decide +kernel
theorem dL_law_337 : decode cL_law 337 = .ok (.if_icmp .ne 7, 3) := by decide +kernel
theorem dL_law_340 : decode cL_law 340 = .ok (.iconst 1, 1) := by decide +kernel
theorem dL_law_341 : decode cL_law 341 = .ok (.goto 4, 3) := by decide +kernel
theorem dL_law_344 : decode cL_law 344 = .ok (.iconst 0, 1) := by decide +kernel
theorem dL_law_345 : decode cL_law 345 = .ok (.istore_n 2, 1) := by decide +kernel
theorem dL_law_346 : decode cL_law 346 = .ok (.iinc 4 1, 3) := by decide +kernel
theorem dL_law_349 : decode cL_law 349 = .ok (.goto (-317), 3) := by decide +kernel
theorem dL_law_352 : decode cL_law 352 = .ok (.iload_n 2, 1) := by decide +kernel
theorem dL_law_353 : decode cL_law 353 = .ok (.ireturn, 1) := by decide +kernel
