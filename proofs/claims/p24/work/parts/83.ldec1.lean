/-! decode rows (printed) -/
theorem dL_act_0 : decode cL_act 0 = .ok (.iload_n 1, 1) := by decide +kernel
theorem dL_act_1 : decode cL_act 1 = .ok (.bipush 24, 2) := by decide +kernel
theorem dL_act_3 : decode cL_act 3 = .ok (.ishr, 1) := by decide +kernel
theorem dL_act_4 : decode cL_act 4 = .ok (.bipush 8, 2) := by decide +kernel
theorem dL_act_6 : decode cL_act 6 = .ok (.invokestatic 64, 3) := by decide +kernel
theorem dL_act_9 : decode cL_act 9 = .ok (.ifCond .ne 7, 3) := by decide +kernel
theorem dL_act_12 : decode cL_act 12 = .ok (.iconst 1, 1) := by decide +kernel
theorem dL_act_13 : decode cL_act 13 = .ok (.goto 4, 3) := by decide +kernel
theorem dL_act_16 : decode cL_act 16 = .ok (.iconst 0, 1) := by decide +kernel
theorem dL_act_17 : decode cL_act 17 = .ok (.istore_n 2, 1) := by decide +kernel
theorem dL_act_18 : decode cL_act 18 = .ok (.iload_n 1, 1) := by decide +kernel
theorem dL_act_19 : decode cL_act 19 = .ok (.bipush 30, 2) := by decide +kernel
theorem dL_act_21 : decode cL_act 21 = .ok (.invokestatic 64, 3) := by decide +kernel
theorem dL_act_24 : decode cL_act 24 = .ok (.istore_n 3, 1) := by decide +kernel
theorem dL_act_25 : decode cL_act 25 = .ok (.iload_n 1, 1) := by decide +kernel
theorem dL_act_26 : decode cL_act 26 = .ok (.iconst 4, 1) := by decide +kernel
theorem dL_act_27 : decode cL_act 27 = .ok (.ishr, 1) := by decide +kernel
theorem dL_act_28 : decode cL_act 28 = .ok (.iload_n 2, 1) := by decide +kernel
theorem dL_act_29 : decode cL_act 29 = .ok (.ifCond .eq 8, 3) := by decide +kernel
theorem dL_act_32 : decode cL_act 32 = .ok (.bipush 34, 2) := by decide +kernel
theorem dL_act_34 : decode cL_act 34 = .ok (.goto 5, 3) := by decide +kernel
theorem dL_act_37 : decode cL_act 37 = .ok (.bipush 9, 2) := by decide +kernel
theorem dL_act_39 : decode cL_act 39 = .ok (.invokestatic 64, 3) := by decide +kernel
theorem dL_act_42 : decode cL_act 42 = .ok (.istore 4, 2) := by decide +kernel
theorem dL_act_44 : decode cL_act 44 = .ok (.iload_n 3, 1) := by decide +kernel
theorem dL_act_45 : decode cL_act 45 = .ok (.bipush 13, 2) := by decide +kernel
theorem dL_act_47 : decode cL_act 47 = .ok (.if_icmp .ge 142, 3) := by decide +kernel
theorem dL_act_50 : decode cL_act 50 = .ok (.aload_n 0, 1) := by decide +kernel
theorem dL_act_51 : decode cL_act 51 = .ok (.invokevirtual 69, 3) := by decide +kernel
theorem dL_act_54 : decode cL_act 54 = .ok (.aload_n 0, 1) := by decide +kernel
theorem dL_act_55 : decode cL_act 55 = .ok (.invokevirtual 72, 3) := by decide +kernel
theorem dL_act_58 : decode cL_act 58 = .ok (.if_icmp .ne 20, 3) := by decide +kernel
theorem dL_act_61 : decode cL_act 61 = .ok (.aload_n 0, 1) := by decide +kernel
theorem dL_act_62 : decode cL_act 62 = .ok (.invokevirtual 72, 3) := by decide +kernel
theorem dL_act_65 : decode cL_act 65 = .ok (.ifCond .eq 9, 3) := by decide +kernel
theorem dL_act_68 : decode cL_act 68 = .ok (.iload_n 3, 1) := by decide +kernel
theorem dL_act_69 : decode cL_act 69 = .ok (.bipush 7, 2) := by decide +kernel
theorem dL_act_71 : decode cL_act 71 = .ok (.if_icmp .ge 7, 3) := by decide +kernel
theorem dL_act_74 : decode cL_act 74 = .ok (.iconst 1, 1) := by decide +kernel
theorem dL_act_75 : decode cL_act 75 = .ok (.goto 4, 3) := by decide +kernel
theorem dL_act_78 : decode cL_act 78 = .ok (.iconst 0, 1) := by decide +kernel
theorem dL_act_79 : decode cL_act 79 = .ok (.istore 5, 2) := by decide +kernel
theorem dL_act_81 : decode cL_act 81 = .ok (.iload_n 2, 1) := by decide +kernel
theorem dL_act_82 : decode cL_act 82 = .ok (.ifCond .eq 14, 3) := by decide +kernel
theorem dL_act_85 : decode cL_act 85 = .ok (.iload_n 1, 1) := by decide +kernel
theorem dL_act_86 : decode cL_act 86 = .ok (.bipush 6, 2) := by decide +kernel
theorem dL_act_88 : decode cL_act 88 = .ok (.ishr, 1) := by decide +kernel
theorem dL_act_89 : decode cL_act 89 = .ok (.iconst 3, 1) := by decide +kernel
theorem dL_act_90 : decode cL_act 90 = .ok (.invokestatic 64, 3) := by decide +kernel
theorem dL_act_93 : decode cL_act 93 = .ok (.goto 22, 3) := by decide +kernel
theorem dL_act_96 : decode cL_act 96 = .ok (.iload 5, 2) := by decide +kernel
theorem dL_act_98 : decode cL_act 98 = .ok (.ifCond .eq 16, 3) := by decide +kernel
theorem dL_act_101 : decode cL_act 101 = .ok (.iconst 1, 1) := by decide +kernel
theorem dL_act_102 : decode cL_act 102 = .ok (.iload_n 1, 1) := by decide +kernel
theorem dL_act_103 : decode cL_act 103 = .ok (.bipush 6, 2) := by decide +kernel
theorem dL_act_105 : decode cL_act 105 = .ok (.ishr, 1) := by decide +kernel
theorem dL_act_106 : decode cL_act 106 = .ok (.iconst 2, 1) := by decide +kernel
theorem dL_act_107 : decode cL_act 107 = .ok (.invokestatic 64, 3) := by decide +kernel
theorem dL_act_110 : decode cL_act 110 = .ok (.isub, 1) := by decide +kernel
theorem dL_act_111 : decode cL_act 111 = .ok (.goto 4, 3) := by decide +kernel
theorem dL_act_114 : decode cL_act 114 = .ok (.iconst 2, 1) := by decide +kernel
theorem dL_act_115 : decode cL_act 115 = .ok (.istore 6, 2) := by decide +kernel
theorem dL_act_117 : decode cL_act 117 = .ok (.aload_n 0, 1) := by decide +kernel
theorem dL_act_118 : decode cL_act 118 = .ok (.iload 6, 2) := by decide +kernel
theorem dL_act_120 : decode cL_act 120 = .ok (.iload 6, 2) := by decide +kernel
theorem dL_act_122 : decode cL_act 122 = .ok (.ifCond .ne 25, 3) := by decide +kernel
theorem dL_act_125 : decode cL_act 125 = .ok (.iload_n 1, 1) := by decide +kernel
theorem dL_act_126 : decode cL_act 126 = .ok (.bipush 8, 2) := by decide +kernel
theorem dL_act_128 : decode cL_act 128 = .ok (.ishr, 1) := by decide +kernel
theorem dL_act_129 : decode cL_act 129 = .ok (.iload_n 2, 1) := by decide +kernel
theorem dL_act_130 : decode cL_act 130 = .ok (.ifCond .eq 8, 3) := by decide +kernel
theorem dL_act_133 : decode cL_act 133 = .ok (.ldc 75, 2) := by decide +kernel
theorem dL_act_135 : decode cL_act 135 = .ok (.goto 6, 3) := by decide +kernel
theorem dL_act_138 : decode cL_act 138 = .ok (.sipush 4000, 3) := by decide +kernel
theorem dL_act_141 : decode cL_act 141 = .ok (.invokestatic 64, 3) := by decide +kernel
theorem dL_act_144 : decode cL_act 144 = .ok (.goto 41, 3) := by decide +kernel
theorem dL_act_147 : decode cL_act 147 = .ok (.iload 6, 2) := by decide +kernel
theorem dL_act_149 : decode cL_act 149 = .ok (.iconst 1, 1) := by decide +kernel
theorem dL_act_150 : decode cL_act 150 = .ok (.if_icmp .ne 8, 3) := by decide +kernel
theorem dL_act_153 : decode cL_act 153 = .ok (.iload 4, 2) := by decide +kernel
theorem dL_act_155 : decode cL_act 155 = .ok (.goto 30, 3) := by decide +kernel
theorem dL_act_158 : decode cL_act 158 = .ok (.iload_n 1, 1) := by decide +kernel
theorem dL_act_159 : decode cL_act 159 = .ok (.bipush 8, 2) := by decide +kernel
theorem dL_act_161 : decode cL_act 161 = .ok (.ishr, 1) := by decide +kernel
theorem dL_act_162 : decode cL_act 162 = .ok (.iload_n 2, 1) := by decide +kernel
theorem dL_act_163 : decode cL_act 163 = .ok (.ifCond .eq 8, 3) := by decide +kernel
theorem dL_act_166 : decode cL_act 166 = .ok (.bipush 8, 2) := by decide +kernel
theorem dL_act_168 : decode cL_act 168 = .ok (.goto 14, 3) := by decide +kernel
theorem dL_act_171 : decode cL_act 171 = .ok (.iload 5, 2) := by decide +kernel
theorem dL_act_173 : decode cL_act 173 = .ok (.ifCond .eq 8, 3) := by decide +kernel
theorem dL_act_176 : decode cL_act 176 = .ok (.bipush 6, 2) := by decide +kernel
theorem dL_act_178 : decode cL_act 178 = .ok (.goto 4, 3) := by decide +kernel
theorem dL_act_181 : decode cL_act 181 = .ok (.iconst 4, 1) := by decide +kernel
theorem dL_act_182 : decode cL_act 182 = .ok (.invokestatic 64, 3) := by decide +kernel
theorem dL_act_185 : decode cL_act 185 = .ok (.invokestatic 76, 3) := by decide +kernel
theorem dL_act_188 : decode cL_act 188 = .ok (.ireturn, 1) := by decide +kernel
theorem dL_act_189 : decode cL_act 189 = .ok (.iload_n 3, 1) := by decide +kernel
theorem dL_act_190 : decode cL_act 190 = .ok (.bipush 18, 2) := by decide +kernel
theorem dL_act_192 : decode cL_act 192 = .ok (.if_icmp .ge 11, 3) := by decide +kernel
theorem dL_act_195 : decode cL_act 195 = .ok (.aload_n 0, 1) := by decide +kernel
theorem dL_act_196 : decode cL_act 196 = .ok (.iconst 3, 1) := by decide +kernel
theorem dL_act_197 : decode cL_act 197 = .ok (.iload 4, 2) := by decide +kernel
theorem dL_act_199 : decode cL_act 199 = .ok (.invokestatic 76, 3) := by decide +kernel
theorem dL_act_202 : decode cL_act 202 = .ok (.ireturn, 1) := by decide +kernel
theorem dL_act_203 : decode cL_act 203 = .ok (.iload_n 3, 1) := by decide +kernel
theorem dL_act_204 : decode cL_act 204 = .ok (.bipush 20, 2) := by decide +kernel
theorem dL_act_206 : decode cL_act 206 = .ok (.if_icmp .ge 24, 3) := by decide +kernel
theorem dL_act_209 : decode cL_act 209 = .ok (.iload_n 3, 1) := by decide +kernel
theorem dL_act_210 : decode cL_act 210 = .ok (.bipush 18, 2) := by decide +kernel
theorem dL_act_212 : decode cL_act 212 = .ok (.if_icmp .ne 10, 3) := by decide +kernel
theorem dL_act_215 : decode cL_act 215 = .ok (.aload_n 0, 1) := by decide +kernel
theorem dL_act_216 : decode cL_act 216 = .ok (.invokevirtual 80, 3) := by decide +kernel
theorem dL_act_219 : decode cL_act 219 = .ok (.goto 10, 3) := by decide +kernel
theorem dL_act_222 : decode cL_act 222 = .ok (.aload_n 0, 1) := by decide +kernel
theorem dL_act_223 : decode cL_act 223 = .ok (.iconst 4, 1) := by decide +kernel
theorem dL_act_224 : decode cL_act 224 = .ok (.iload 4, 2) := by decide +kernel
theorem dL_act_226 : decode cL_act 226 = .ok (.invokestatic 76, 3) := by decide +kernel
theorem dL_act_229 : decode cL_act 229 = .ok (.ireturn, 1) := by decide +kernel
theorem dL_act_230 : decode cL_act 230 = .ok (.iload_n 3, 1) := by decide +kernel
theorem dL_act_231 : decode cL_act 231 = .ok (.bipush 24, 2) := by decide +kernel
theorem dL_act_233 : decode cL_act 233 = .ok (.if_icmp .ge 29, 3) := by decide +kernel
theorem dL_act_236 : decode cL_act 236 = .ok (.aload_n 0, 1) := by decide +kernel
theorem dL_act_237 : decode cL_act 237 = .ok (.iload 4, 2) := by decide +kernel
theorem dL_act_239 : decode cL_act 239 = .ok (.iload_n 1, 1) := by decide +kernel
theorem dL_act_240 : decode cL_act 240 = .ok (.bipush 8, 2) := by decide +kernel
theorem dL_act_242 : decode cL_act 242 = .ok (.ishr, 1) := by decide +kernel
theorem dL_act_243 : decode cL_act 243 = .ok (.iload_n 2, 1) := by decide +kernel
theorem dL_act_244 : decode cL_act 244 = .ok (.ifCond .eq 8, 3) := by decide +kernel
theorem dL_act_247 : decode cL_act 247 = .ok (.ldc 75, 2) := by decide +kernel
theorem dL_act_249 : decode cL_act 249 = .ok (.goto 6, 3) := by decide +kernel
theorem dL_act_252 : decode cL_act 252 = .ok (.sipush 9000, 3) := by decide +kernel
theorem dL_act_255 : decode cL_act 255 = .ok (.invokestatic 64, 3) := by decide +kernel
theorem dL_act_258 : decode cL_act 258 = .ok (.invokestatic 83, 3) := by decide +kernel
theorem dL_act_261 : decode cL_act 261 = .ok (.ireturn, 1) := by decide +kernel
theorem dL_act_262 : decode cL_act 262 = .ok (.iload_n 3, 1) := by decide +kernel
theorem dL_act_263 : decode cL_act 263 = .ok (.bipush 28, 2) := by decide +kernel
theorem dL_act_265 : decode cL_act 265 = .ok (.if_icmp .ge 23, 3) := by decide +kernel
theorem dL_act_268 : decode cL_act 268 = .ok (.aload_n 0, 1) := by decide +kernel
theorem dL_act_269 : decode cL_act 269 = .ok (.iload_n 3, 1) := by decide +kernel
theorem dL_act_270 : decode cL_act 270 = .ok (.bipush 26, 2) := by decide +kernel
theorem dL_act_272 : decode cL_act 272 = .ok (.if_icmp .ge 7, 3) := by decide +kernel
theorem dL_act_275 : decode cL_act 275 = .ok (.iconst 5, 1) := by decide +kernel
theorem dL_act_276 : decode cL_act 276 = .ok (.goto 7, 3) := by decide +kernel
theorem dL_act_279 : decode cL_act 279 = .ok (.iload_n 3, 1) := by decide +kernel
theorem dL_act_280 : decode cL_act 280 = .ok (.bipush 20, 2) := by decide +kernel
theorem dL_act_282 : decode cL_act 282 = .ok (.isub, 1) := by decide +kernel
theorem dL_act_283 : decode cL_act 283 = .ok (.iconst 0, 1) := by decide +kernel
theorem dL_act_284 : decode cL_act 284 = .ok (.invokestatic 76, 3) := by decide +kernel
theorem dL_act_287 : decode cL_act 287 = .ok (.ireturn, 1) := by decide +kernel
theorem dL_act_288 : decode cL_act 288 = .ok (.iload_n 1, 1) := by decide +kernel
theorem dL_act_289 : decode cL_act 289 = .ok (.iconst 3, 1) := by decide +kernel
theorem dL_act_290 : decode cL_act 290 = .ok (.ishr, 1) := by decide +kernel
theorem dL_act_291 : decode cL_act 291 = .ok (.sipush 500, 3) := by decide +kernel
theorem dL_act_294 : decode cL_act 294 = .ok (.invokestatic 64, 3) := by decide +kernel
theorem dL_act_297 : decode cL_act 297 = .ok (.istore 5, 2) := by decide +kernel
theorem dL_act_299 : decode cL_act 299 = .ok (.aload_n 0, 1) := by decide +kernel
theorem dL_act_300 : decode cL_act 300 = .ok (.iload_n 1, 1) := by decide +kernel
theorem dL_act_301 : decode cL_act 301 = .ok (.bipush 8, 2) := by decide +kernel
theorem dL_act_303 : decode cL_act 303 = .ok (.ishr, 1) := by decide +kernel
theorem dL_act_304 : decode cL_act 304 = .ok (.iload_n 2, 1) := by decide +kernel
theorem dL_act_305 : decode cL_act 305 = .ok (.ifCond .eq 8, 3) := by decide +kernel
theorem dL_act_308 : decode cL_act 308 = .ok (.bipush 34, 2) := by decide +kernel
theorem dL_act_310 : decode cL_act 310 = .ok (.goto 5, 3) := by decide +kernel
theorem dL_act_313 : decode cL_act 313 = .ok (.bipush 9, 2) := by decide +kernel
theorem dL_act_315 : decode cL_act 315 = .ok (.invokestatic 64, 3) := by decide +kernel
theorem dL_act_318 : decode cL_act 318 = .ok (.iload_n 1, 1) := by decide +kernel
theorem dL_act_319 : decode cL_act 319 = .ok (.iconst 5, 1) := by decide +kernel
theorem dL_act_320 : decode cL_act 320 = .ok (.ishr, 1) := by decide +kernel
theorem dL_act_321 : decode cL_act 321 = .ok (.sipush 20000, 3) := by decide +kernel
theorem dL_act_324 : decode cL_act 324 = .ok (.invokestatic 64, 3) := by decide +kernel
theorem dL_act_327 : decode cL_act 327 = .ok (.sipush 1000, 3) := by decide +kernel
theorem dL_act_330 : decode cL_act 330 = .ok (.isub, 1) := by decide +kernel
theorem dL_act_331 : decode cL_act 331 = .ok (.iload 4, 2) := by decide +kernel
theorem dL_act_333 : decode cL_act 333 = .ok (.iload 5, 2) := by decide +kernel
theorem dL_act_335 : decode cL_act 335 = .ok (.iload_n 2, 1) := by decide +kernel
theorem dL_act_336 : decode cL_act 336 = .ok (.ifCond .eq 16, 3) := by decide +kernel
theorem dL_act_339 : decode cL_act 339 = .ok (.iload_n 1, 1) := by decide +kernel
theorem dL_act_340 : decode cL_act 340 = .ok (.bipush 6, 2) := by decide +kernel
theorem dL_act_342 : decode cL_act 342 = .ok (.ishr, 1) := by decide +kernel
theorem dL_act_343 : decode cL_act 343 = .ok (.sipush 400, 3) := by decide +kernel
theorem dL_act_346 : decode cL_act 346 = .ok (.invokestatic 64, 3) := by decide +kernel
theorem dL_act_349 : decode cL_act 349 = .ok (.goto 15, 3) := by decide +kernel
theorem dL_act_352 : decode cL_act 352 = .ok (.iload 5, 2) := by decide +kernel
theorem dL_act_354 : decode cL_act 354 = .ok (.iload_n 1, 1) := by decide +kernel
theorem dL_act_355 : decode cL_act 355 = .ok (.bipush 6, 2) := by decide +kernel
theorem dL_act_357 : decode cL_act 357 = .ok (.ishr, 1) := by decide +kernel
theorem dL_act_358 : decode cL_act 358 = .ok (.ldc 85, 2) := by decide +kernel
theorem dL_act_360 : decode cL_act 360 = .ok (.invokestatic 64, 3) := by decide +kernel
theorem dL_act_363 : decode cL_act 363 = .ok (.iadd, 1) := by decide +kernel
theorem dL_act_364 : decode cL_act 364 = .ok (.invokestatic 86, 3) := by decide +kernel
theorem dL_act_367 : decode cL_act 367 = .ok (.ireturn, 1) := by decide +kernel
