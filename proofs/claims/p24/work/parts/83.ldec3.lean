/-! decode rows (printed) -/
theorem dL_areCellsSo_0 : decode cL_areCellsSo 0 = .ok (.iconst 0, 1) := by decide +kernel
theorem dL_areCellsSo_1 : decode cL_areCellsSo 1 = .ok (.istore_n 1, 1) := by decide +kernel
theorem dL_areCellsSo_2 : decode cL_areCellsSo 2 = .ok (.iconst 1, 1) := by decide +kernel
theorem dL_areCellsSo_3 : decode cL_areCellsSo 3 = .ok (.istore_n 2, 1) := by decide +kernel
theorem dL_areCellsSo_4 : decode cL_areCellsSo 4 = .ok (.iconst 0, 1) := by decide +kernel
theorem dL_areCellsSo_5 : decode cL_areCellsSo 5 = .ok (.istore_n 3, 1) := by decide +kernel
theorem dL_areCellsSo_6 : decode cL_areCellsSo 6 = .ok (.iload_n 3, 1) := by decide +kernel
theorem dL_areCellsSo_7 : decode cL_areCellsSo 7 = .ok (.bipush 30, 2) := by decide +kernel
theorem dL_areCellsSo_9 : decode cL_areCellsSo 9 = .ok (.if_icmp .ge 297, 3) := by decide +kernel
theorem dL_areCellsSo_12 : decode cL_areCellsSo 12 = .ok (.iload_n 2, 1) := by decide +kernel
theorem dL_areCellsSo_13 : decode cL_areCellsSo 13 = .ok (.ifCond .eq 293, 3) := by decide +kernel
theorem dL_areCellsSo_16 : decode cL_areCellsSo 16 = .ok (.aload_n 0, 1) := by decide +kernel
theorem dL_areCellsSo_17 : decode cL_areCellsSo 17 = .ok (.iload_n 3, 1) := by decide +kernel
theorem dL_areCellsSo_18 : decode cL_areCellsSo 18 = .ok (.iconst 0, 1) := by decide +kernel
theorem dL_areCellsSo_19 : decode cL_areCellsSo 19 = .ok (.invokestatic 98, 3) := by decide +kernel
theorem dL_areCellsSo_22 : decode cL_areCellsSo 22 = .ok (.lstore 4, 2) := by decide +kernel
theorem dL_areCellsSo_24 : decode cL_areCellsSo 24 = .ok (.iconst 0, 1) := by decide +kernel
theorem dL_areCellsSo_25 : decode cL_areCellsSo 25 = .ok (.istore 6, 2) := by decide +kernel
theorem dL_areCellsSo_27 : decode cL_areCellsSo 27 = .ok (.iload_n 1, 1) := by decide +kernel
theorem dL_areCellsSo_28 : decode cL_areCellsSo 28 = .ok (.lload 4, 2) := by decide +kernel
theorem dL_areCellsSo_30 : decode cL_areCellsSo 30 = .ok (.ldc2_w 62, 3) := by decide +kernel
theorem dL_areCellsSo_33 : decode cL_areCellsSo 33 = .ok (.lcmp, 1) := by decide +kernel
theorem dL_areCellsSo_34 : decode cL_areCellsSo 34 = .ok (.ifCond .ne 7, 3) := by decide +kernel
theorem dL_areCellsSo_37 : decode cL_areCellsSo 37 = .ok (.iconst 1, 1) := by decide +kernel
theorem dL_areCellsSo_38 : decode cL_areCellsSo 38 = .ok (.goto 4, 3) := by decide +kernel
theorem dL_areCellsSo_41 : decode cL_areCellsSo 41 = .ok (.iconst 0, 1) := by decide +kernel
theorem dL_areCellsSo_42 : decode cL_areCellsSo 42 = .ok (.iadd, 1) := by decide +kernel
theorem dL_areCellsSo_43 : decode cL_areCellsSo 43 = .ok (.istore_n 1, 1) := by decide +kernel
theorem dL_areCellsSo_44 : decode cL_areCellsSo 44 = .ok (.lload 4, 2) := by decide +kernel
theorem dL_areCellsSo_46 : decode cL_areCellsSo 46 = .ok (.aload_n 0, 1) := by decide +kernel
theorem dL_areCellsSo_47 : decode cL_areCellsSo 47 = .ok (.iload_n 3, 1) := by decide +kernel
theorem dL_areCellsSo_48 : decode cL_areCellsSo 48 = .ok (.iconst 1, 1) := by decide +kernel
theorem dL_areCellsSo_49 : decode cL_areCellsSo 49 = .ok (.invokestatic 98, 3) := by decide +kernel
theorem dL_areCellsSo_52 : decode cL_areCellsSo 52 = .ok (.lcmp, 1) := by decide +kernel
theorem dL_areCellsSo_53 : decode cL_areCellsSo 53 = .ok (.ifCond .ne 84, 3) := by decide +kernel
theorem dL_areCellsSo_56 : decode cL_areCellsSo 56 = .ok (.lload 4, 2) := by decide +kernel
theorem dL_areCellsSo_58 : decode cL_areCellsSo 58 = .ok (.ldc2_w 62, 3) := by decide +kernel
theorem dL_areCellsSo_61 : decode cL_areCellsSo 61 = .ok (.lcmp, 1) := by decide +kernel
theorem dL_areCellsSo_62 : decode cL_areCellsSo 62 = .ok (.ifCond .eq 21, 3) := by decide +kernel
theorem dL_areCellsSo_65 : decode cL_areCellsSo 65 = .ok (.lload 4, 2) := by decide +kernel
theorem dL_areCellsSo_67 : decode cL_areCellsSo 67 = .ok (.ldc2_w 107, 3) := by decide +kernel
theorem dL_areCellsSo_70 : decode cL_areCellsSo 70 = .ok (.lcmp, 1) := by decide +kernel
theorem dL_areCellsSo_71 : decode cL_areCellsSo 71 = .ok (.ifCond .lt 66, 3) := by decide +kernel
theorem dL_areCellsSo_74 : decode cL_areCellsSo 74 = .ok (.lload 4, 2) := by decide +kernel
theorem dL_areCellsSo_76 : decode cL_areCellsSo 76 = .ok (.ldc2_w 109, 3) := by decide +kernel
theorem dL_areCellsSo_79 : decode cL_areCellsSo 79 = .ok (.lcmp, 1) := by decide +kernel
theorem dL_areCellsSo_80 : decode cL_areCellsSo 80 = .ok (.ifCond .gt 57, 3) := by decide +kernel
theorem dL_areCellsSo_83 : decode cL_areCellsSo 83 = .ok (.aload_n 0, 1) := by decide +kernel
theorem dL_areCellsSo_84 : decode cL_areCellsSo 84 = .ok (.iload_n 3, 1) := by decide +kernel
theorem dL_areCellsSo_85 : decode cL_areCellsSo 85 = .ok (.invokevirtual 101, 3) := by decide +kernel
theorem dL_areCellsSo_88 : decode cL_areCellsSo 88 = .ok (.ifCond .lt 49, 3) := by decide +kernel
theorem dL_areCellsSo_91 : decode cL_areCellsSo 91 = .ok (.aload_n 0, 1) := by decide +kernel
theorem dL_areCellsSo_92 : decode cL_areCellsSo 92 = .ok (.iload_n 3, 1) := by decide +kernel
theorem dL_areCellsSo_93 : decode cL_areCellsSo 93 = .ok (.invokevirtual 101, 3) := by decide +kernel
theorem dL_areCellsSo_96 : decode cL_areCellsSo 96 = .ok (.bipush 15, 2) := by decide +kernel
theorem dL_areCellsSo_98 : decode cL_areCellsSo 98 = .ok (.if_icmp .gt 39, 3) := by decide +kernel
theorem dL_areCellsSo_101 : decode cL_areCellsSo 101 = .ok (.aload_n 0, 1) := by decide +kernel
theorem dL_areCellsSo_102 : decode cL_areCellsSo 102 = .ok (.iload_n 3, 1) := by decide +kernel
theorem dL_areCellsSo_103 : decode cL_areCellsSo 103 = .ok (.invokevirtual 101, 3) := by decide +kernel
theorem dL_areCellsSo_106 : decode cL_areCellsSo 106 = .ok (.ifCond .gt 18, 3) := by decide +kernel
theorem dL_areCellsSo_109 : decode cL_areCellsSo 109 = .ok (.lload 4, 2) := by decide +kernel
theorem dL_areCellsSo_111 : decode cL_areCellsSo 111 = .ok (.lconst 0, 1) := by decide +kernel
theorem dL_areCellsSo_112 : decode cL_areCellsSo 112 = .ok (.lcmp, 1) := by decide +kernel
theorem dL_areCellsSo_113 : decode cL_areCellsSo 113 = .ok (.ifCond .ne 24, 3) := by decide +kernel
theorem dL_areCellsSo_116 : decode cL_areCellsSo 116 = .ok (.aload_n 0, 1) := by decide +kernel
theorem dL_areCellsSo_117 : decode cL_areCellsSo 117 = .ok (.iload_n 3, 1) := by decide +kernel
theorem dL_areCellsSo_118 : decode cL_areCellsSo 118 = .ok (.invokevirtual 104, 3) := by decide +kernel
theorem dL_areCellsSo_121 : decode cL_areCellsSo 121 = .ok (.ifCond .ne 16, 3) := by decide +kernel
theorem dL_areCellsSo_124 : decode cL_areCellsSo 124 = .ok (.aload_n 0, 1) := by decide +kernel
theorem dL_areCellsSo_125 : decode cL_areCellsSo 125 = .ok (.iload_n 3, 1) := by decide +kernel
theorem dL_areCellsSo_126 : decode cL_areCellsSo 126 = .ok (.iload_n 3, 1) := by decide +kernel
theorem dL_areCellsSo_127 : decode cL_areCellsSo 127 = .ok (.invokevirtual 111, 3) := by decide +kernel
theorem dL_areCellsSo_130 : decode cL_areCellsSo 130 = .ok (.ifCond .ne 7, 3) := by decide +kernel
theorem dL_areCellsSo_133 : decode cL_areCellsSo 133 = .ok (.iconst 1, 1) := by decide +kernel
theorem dL_areCellsSo_134 : decode cL_areCellsSo 134 = .ok (.goto 4, 3) := by decide +kernel
theorem dL_areCellsSo_137 : decode cL_areCellsSo 137 = .ok (.iconst 0, 1) := by decide +kernel
theorem dL_areCellsSo_138 : decode cL_areCellsSo 138 = .ok (.istore_n 2, 1) := by decide +kernel
theorem dL_areCellsSo_139 : decode cL_areCellsSo 139 = .ok (.iconst 0, 1) := by decide +kernel
theorem dL_areCellsSo_140 : decode cL_areCellsSo 140 = .ok (.istore 7, 2) := by decide +kernel
theorem dL_areCellsSo_142 : decode cL_areCellsSo 142 = .ok (.iload 7, 2) := by decide +kernel
theorem dL_areCellsSo_144 : decode cL_areCellsSo 144 = .ok (.bipush 30, 2) := by decide +kernel
theorem dL_areCellsSo_146 : decode cL_areCellsSo 146 = .ok (.if_icmp .ge 126, 3) := by decide +kernel
theorem dL_areCellsSo_149 : decode cL_areCellsSo 149 = .ok (.iload_n 2, 1) := by decide +kernel
theorem dL_areCellsSo_150 : decode cL_areCellsSo 150 = .ok (.ifCond .eq 122, 3) := by decide +kernel
theorem dL_areCellsSo_153 : decode cL_areCellsSo 153 = .ok (.aload_n 0, 1) := by decide +kernel
theorem dL_areCellsSo_154 : decode cL_areCellsSo 154 = .ok (.iload_n 3, 1) := by decide +kernel
theorem dL_areCellsSo_155 : decode cL_areCellsSo 155 = .ok (.iload 7, 2) := by decide +kernel
theorem dL_areCellsSo_157 : decode cL_areCellsSo 157 = .ok (.invokevirtual 111, 3) := by decide +kernel
theorem dL_areCellsSo_160 : decode cL_areCellsSo 160 = .ok (.istore 8, 2) := by decide +kernel
theorem dL_areCellsSo_162 : decode cL_areCellsSo 162 = .ok (.iload 6, 2) := by decide +kernel
theorem dL_areCellsSo_164 : decode cL_areCellsSo 164 = .ok (.ifCond .ne 8, 3) := by decide +kernel
theorem dL_areCellsSo_167 : decode cL_areCellsSo 167 = .ok (.iload 8, 2) := by decide +kernel
theorem dL_areCellsSo_169 : decode cL_areCellsSo 169 = .ok (.ifCond .eq 7, 3) := by decide +kernel
theorem dL_areCellsSo_172 : decode cL_areCellsSo 172 = .ok (.iconst 1, 1) := by decide +kernel
theorem dL_areCellsSo_173 : decode cL_areCellsSo 173 = .ok (.goto 4, 3) := by decide +kernel
theorem dL_areCellsSo_176 : decode cL_areCellsSo 176 = .ok (.iconst 0, 1) := by decide +kernel
theorem dL_areCellsSo_177 : decode cL_areCellsSo 177 = .ok (.istore 6, 2) := by decide +kernel
theorem dL_areCellsSo_179 : decode cL_areCellsSo 179 = .ok (.iload 8, 2) := by decide +kernel
theorem dL_areCellsSo_181 : decode cL_areCellsSo 181 = .ok (.ifCond .eq 27, 3) := by decide +kernel
theorem dL_areCellsSo_184 : decode cL_areCellsSo 184 = .ok (.aload_n 0, 1) := by decide +kernel
theorem dL_areCellsSo_185 : decode cL_areCellsSo 185 = .ok (.iload_n 3, 1) := by decide +kernel
theorem dL_areCellsSo_186 : decode cL_areCellsSo 186 = .ok (.invokevirtual 104, 3) := by decide +kernel
theorem dL_areCellsSo_189 : decode cL_areCellsSo 189 = .ok (.aload_n 0, 1) := by decide +kernel
theorem dL_areCellsSo_190 : decode cL_areCellsSo 190 = .ok (.iload 7, 2) := by decide +kernel
theorem dL_areCellsSo_192 : decode cL_areCellsSo 192 = .ok (.invokevirtual 104, 3) := by decide +kernel
theorem dL_areCellsSo_195 : decode cL_areCellsSo 195 = .ok (.if_icmp .le 17, 3) := by decide +kernel
theorem dL_areCellsSo_198 : decode cL_areCellsSo 198 = .ok (.aload_n 0, 1) := by decide +kernel
theorem dL_areCellsSo_199 : decode cL_areCellsSo 199 = .ok (.iload 7, 2) := by decide +kernel
theorem dL_areCellsSo_201 : decode cL_areCellsSo 201 = .ok (.iload_n 3, 1) := by decide +kernel
theorem dL_areCellsSo_202 : decode cL_areCellsSo 202 = .ok (.invokevirtual 111, 3) := by decide +kernel
theorem dL_areCellsSo_205 : decode cL_areCellsSo 205 = .ok (.ifCond .ne 7, 3) := by decide +kernel
theorem dL_areCellsSo_208 : decode cL_areCellsSo 208 = .ok (.iconst 1, 1) := by decide +kernel
theorem dL_areCellsSo_209 : decode cL_areCellsSo 209 = .ok (.goto 4, 3) := by decide +kernel
theorem dL_areCellsSo_212 : decode cL_areCellsSo 212 = .ok (.iconst 0, 1) := by decide +kernel
theorem dL_areCellsSo_213 : decode cL_areCellsSo 213 = .ok (.istore_n 2, 1) := by decide +kernel
theorem dL_areCellsSo_214 : decode cL_areCellsSo 214 = .ok (.iconst 0, 1) := by decide +kernel
theorem dL_areCellsSo_215 : decode cL_areCellsSo 215 = .ok (.istore 9, 2) := by decide +kernel
theorem dL_areCellsSo_217 : decode cL_areCellsSo 217 = .ok (.iload 9, 2) := by decide +kernel
theorem dL_areCellsSo_219 : decode cL_areCellsSo 219 = .ok (.bipush 30, 2) := by decide +kernel
theorem dL_areCellsSo_221 : decode cL_areCellsSo 221 = .ok (.if_icmp .ge 45, 3) := by decide +kernel
theorem dL_areCellsSo_224 : decode cL_areCellsSo 224 = .ok (.iload 8, 2) := by decide +kernel
theorem dL_areCellsSo_226 : decode cL_areCellsSo 226 = .ok (.ifCond .eq 40, 3) := by decide +kernel
theorem dL_areCellsSo_229 : decode cL_areCellsSo 229 = .ok (.iload_n 2, 1) := by decide +kernel
theorem dL_areCellsSo_230 : decode cL_areCellsSo 230 = .ok (.ifCond .eq 36, 3) := by decide +kernel
theorem dL_areCellsSo_233 : decode cL_areCellsSo 233 = .ok (.aload_n 0, 1) := by decide +kernel
theorem dL_areCellsSo_234 : decode cL_areCellsSo 234 = .ok (.iload 7, 2) := by decide +kernel
theorem dL_areCellsSo_236 : decode cL_areCellsSo 236 = .ok (.iload 9, 2) := by decide +kernel
theorem dL_areCellsSo_238 : decode cL_areCellsSo 238 = .ok (.invokevirtual 111, 3) := by decide +kernel
theorem dL_areCellsSo_241 : decode cL_areCellsSo 241 = .ok (.ifCond .eq 13, 3) := by decide +kernel
theorem dL_areCellsSo_244 : decode cL_areCellsSo 244 = .ok (.aload_n 0, 1) := by decide +kernel
theorem dL_areCellsSo_245 : decode cL_areCellsSo 245 = .ok (.iload_n 3, 1) := by decide +kernel
theorem dL_areCellsSo_246 : decode cL_areCellsSo 246 = .ok (.iload 9, 2) := by decide +kernel
theorem dL_areCellsSo_248 : decode cL_areCellsSo 248 = .ok (.invokevirtual 111, 3) := by decide +kernel
theorem dL_areCellsSo_251 : decode cL_areCellsSo 251 = .ok (.ifCond .eq 7, 3) := by decide +kernel
theorem dL_areCellsSo_254 : decode cL_areCellsSo 254 = .ok (.iconst 1, 1) := by decide +kernel
theorem dL_areCellsSo_255 : decode cL_areCellsSo 255 = .ok (.goto 4, 3) := by decide +kernel
theorem dL_areCellsSo_258 : decode cL_areCellsSo 258 = .ok (.iconst 0, 1) := by decide +kernel
theorem dL_areCellsSo_259 : decode cL_areCellsSo 259 = .ok (.istore_n 2, 1) := by decide +kernel
theorem dL_areCellsSo_260 : decode cL_areCellsSo 260 = .ok (.iinc 9 3, 3) := by decide +kernel
theorem dL_areCellsSo_263 : decode cL_areCellsSo 263 = .ok (.goto (-46), 3) := by decide +kernel
theorem dL_areCellsSo_266 : decode cL_areCellsSo 266 = .ok (.iinc 7 1, 3) := by decide +kernel
theorem dL_areCellsSo_269 : decode cL_areCellsSo 269 = .ok (.goto (-127), 3) := by decide +kernel
theorem dL_areCellsSo_272 : decode cL_areCellsSo 272 = .ok (.iload_n 2, 1) := by decide +kernel
theorem dL_areCellsSo_273 : decode cL_areCellsSo 273 = .ok (.ifCond .eq 25, 3) := by decide +kernel
theorem dL_areCellsSo_276 : decode cL_areCellsSo 276 = .ok (.iload 6, 2) := by decide +kernel
theorem dL_areCellsSo_278 : decode cL_areCellsSo 278 = .ok (.aload_n 0, 1) := by decide +kernel
theorem dL_areCellsSo_279 : decode cL_areCellsSo 279 = .ok (.iload_n 3, 1) := by decide +kernel
theorem dL_areCellsSo_280 : decode cL_areCellsSo 280 = .ok (.invokevirtual 104, 3) := by decide +kernel
theorem dL_areCellsSo_283 : decode cL_areCellsSo 283 = .ok (.ifCond .le 7, 3) := by decide +kernel
theorem dL_areCellsSo_286 : decode cL_areCellsSo 286 = .ok (.iconst 1, 1) := by decide +kernel
theorem dL_areCellsSo_287 : decode cL_areCellsSo 287 = .ok (.goto 4, 3) := by decide +kernel
theorem dL_areCellsSo_290 : decode cL_areCellsSo 290 = .ok (.iconst 0, 1) := by decide +kernel
theorem dL_areCellsSo_291 : decode cL_areCellsSo 291 = .ok (.if_icmp .ne 7, 3) := by decide +kernel
theorem dL_areCellsSo_294 : decode cL_areCellsSo 294 = .ok (.iconst 1, 1) := by decide +kernel
theorem dL_areCellsSo_295 : decode cL_areCellsSo 295 = .ok (.goto 4, 3) := by decide +kernel
theorem dL_areCellsSo_298 : decode cL_areCellsSo 298 = .ok (.iconst 0, 1) := by decide +kernel
theorem dL_areCellsSo_299 : decode cL_areCellsSo 299 = .ok (.istore_n 2, 1) := by decide +kernel
theorem dL_areCellsSo_300 : decode cL_areCellsSo 300 = .ok (.iinc 3 1, 3) := by decide +kernel
theorem dL_areCellsSo_303 : decode cL_areCellsSo 303 = .ok (.goto (-297), 3) := by decide +kernel
theorem dL_areCellsSo_306 : decode cL_areCellsSo 306 = .ok (.iload_n 2, 1) := by decide +kernel
theorem dL_areCellsSo_307 : decode cL_areCellsSo 307 = .ok (.ifCond .eq 30, 3) := by decide +kernel
theorem dL_areCellsSo_310 : decode cL_areCellsSo 310 = .ok (.aload_n 0, 1) := by decide +kernel
theorem dL_areCellsSo_311 : decode cL_areCellsSo 311 = .ok (.invokevirtual 92, 3) := by decide +kernel
theorem dL_areCellsSo_314 : decode cL_areCellsSo 314 = .ok (.iload_n 1, 1) := by decide +kernel
theorem dL_areCellsSo_315 : decode cL_areCellsSo 315 = .ok (.if_icmp .ne 22, 3) := by decide +kernel
theorem dL_areCellsSo_318 : decode cL_areCellsSo 318 = .ok (.aload_n 0, 1) := by decide +kernel
theorem dL_areCellsSo_319 : decode cL_areCellsSo 319 = .ok (.invokevirtual 89, 3) := by decide +kernel
theorem dL_areCellsSo_322 : decode cL_areCellsSo 322 = .ok (.ifCond .lt 15, 3) := by decide +kernel
theorem dL_areCellsSo_325 : decode cL_areCellsSo 325 = .ok (.aload_n 0, 1) := by decide +kernel
theorem dL_areCellsSo_326 : decode cL_areCellsSo 326 = .ok (.invokevirtual 89, 3) := by decide +kernel
theorem dL_areCellsSo_329 : decode cL_areCellsSo 329 = .ok (.iconst 4, 1) := by decide +kernel
theorem dL_areCellsSo_330 : decode cL_areCellsSo 330 = .ok (.if_icmp .gt 7, 3) := by decide +kernel
theorem dL_areCellsSo_333 : decode cL_areCellsSo 333 = .ok (.iconst 1, 1) := by decide +kernel
theorem dL_areCellsSo_334 : decode cL_areCellsSo 334 = .ok (.goto 4, 3) := by decide +kernel
theorem dL_areCellsSo_337 : decode cL_areCellsSo 337 = .ok (.iconst 0, 1) := by decide +kernel
theorem dL_areCellsSo_338 : decode cL_areCellsSo 338 = .ok (.ireturn, 1) := by decide +kernel
