/-! decode rows (printed) -/
theorem dL_isPutSo_0 : decode cL_isPutSo 0 = .ok (.iconst 1, 1) := by decide +kernel
theorem dL_isPutSo_1 : decode cL_isPutSo 1 = .ok (.istore 4, 2) := by decide +kernel
theorem dL_isPutSo_3 : decode cL_isPutSo 3 = .ok (.aload_n 0, 1) := by decide +kernel
theorem dL_isPutSo_4 : decode cL_isPutSo 4 = .ok (.invokevirtual 95, 3) := by decide +kernel
theorem dL_isPutSo_7 : decode cL_isPutSo 7 = .ok (.istore 5, 2) := by decide +kernel
theorem dL_isPutSo_9 : decode cL_isPutSo 9 = .ok (.aload_n 0, 1) := by decide +kernel
theorem dL_isPutSo_10 : decode cL_isPutSo 10 = .ok (.iload_n 2, 1) := by decide +kernel
theorem dL_isPutSo_11 : decode cL_isPutSo 11 = .ok (.invokevirtual 101, 3) := by decide +kernel
theorem dL_isPutSo_14 : decode cL_isPutSo 14 = .ok (.istore 6, 2) := by decide +kernel
theorem dL_isPutSo_16 : decode cL_isPutSo 16 = .ok (.aload_n 0, 1) := by decide +kernel
theorem dL_isPutSo_17 : decode cL_isPutSo 17 = .ok (.iload_n 2, 1) := by decide +kernel
theorem dL_isPutSo_18 : decode cL_isPutSo 18 = .ok (.iconst 0, 1) := by decide +kernel
theorem dL_isPutSo_19 : decode cL_isPutSo 19 = .ok (.invokestatic 98, 3) := by decide +kernel
theorem dL_isPutSo_22 : decode cL_isPutSo 22 = .ok (.lstore 7, 2) := by decide +kernel
theorem dL_isPutSo_24 : decode cL_isPutSo 24 = .ok (.aload_n 0, 1) := by decide +kernel
theorem dL_isPutSo_25 : decode cL_isPutSo 25 = .ok (.invokevirtual 89, 3) := by decide +kernel
theorem dL_isPutSo_28 : decode cL_isPutSo 28 = .ok (.iconst 4, 1) := by decide +kernel
theorem dL_isPutSo_29 : decode cL_isPutSo 29 = .ok (.if_icmp .ne 25, 3) := by decide +kernel
theorem dL_isPutSo_32 : decode cL_isPutSo 32 = .ok (.aload_n 0, 1) := by decide +kernel
theorem dL_isPutSo_33 : decode cL_isPutSo 33 = .ok (.invokevirtual 33, 3) := by decide +kernel
theorem dL_isPutSo_36 : decode cL_isPutSo 36 = .ok (.iconst 3, 1) := by decide +kernel
theorem dL_isPutSo_37 : decode cL_isPutSo 37 = .ok (.if_icmp .ne 15, 3) := by decide +kernel
theorem dL_isPutSo_40 : decode cL_isPutSo 40 = .ok (.aload_n 1, 1) := by decide +kernel
theorem dL_isPutSo_41 : decode cL_isPutSo 41 = .ok (.invokevirtual 33, 3) := by decide +kernel
theorem dL_isPutSo_44 : decode cL_isPutSo 44 = .ok (.iconst 3, 1) := by decide +kernel
theorem dL_isPutSo_45 : decode cL_isPutSo 45 = .ok (.if_icmp .ne 7, 3) := by decide +kernel
theorem dL_isPutSo_48 : decode cL_isPutSo 48 = .ok (.iconst 1, 1) := by decide +kernel
theorem dL_isPutSo_49 : decode cL_isPutSo 49 = .ok (.goto 4, 3) := by decide +kernel
theorem dL_isPutSo_52 : decode cL_isPutSo 52 = .ok (.iconst 0, 1) := by decide +kernel
theorem dL_isPutSo_53 : decode cL_isPutSo 53 = .ok (.ireturn, 1) := by decide +kernel
theorem dL_isPutSo_54 : decode cL_isPutSo 54 = .ok (.iconst 0, 1) := by decide +kernel
theorem dL_isPutSo_55 : decode cL_isPutSo 55 = .ok (.istore 9, 2) := by decide +kernel
theorem dL_isPutSo_57 : decode cL_isPutSo 57 = .ok (.iload 9, 2) := by decide +kernel
theorem dL_isPutSo_59 : decode cL_isPutSo 59 = .ok (.bipush 30, 2) := by decide +kernel
theorem dL_isPutSo_61 : decode cL_isPutSo 61 = .ok (.if_icmp .ge 29, 3) := by decide +kernel
theorem dL_isPutSo_64 : decode cL_isPutSo 64 = .ok (.iload 4, 2) := by decide +kernel
theorem dL_isPutSo_66 : decode cL_isPutSo 66 = .ok (.aload_n 0, 1) := by decide +kernel
theorem dL_isPutSo_67 : decode cL_isPutSo 67 = .ok (.iload 9, 2) := by decide +kernel
theorem dL_isPutSo_69 : decode cL_isPutSo 69 = .ok (.iload_n 2, 1) := by decide +kernel
theorem dL_isPutSo_70 : decode cL_isPutSo 70 = .ok (.invokevirtual 111, 3) := by decide +kernel
theorem dL_isPutSo_73 : decode cL_isPutSo 73 = .ok (.ifCond .eq 7, 3) := by decide +kernel
theorem dL_isPutSo_76 : decode cL_isPutSo 76 = .ok (.iconst 1, 1) := by decide +kernel
theorem dL_isPutSo_77 : decode cL_isPutSo 77 = .ok (.goto 4, 3) := by decide +kernel
theorem dL_isPutSo_80 : decode cL_isPutSo 80 = .ok (.iconst 0, 1) := by decide +kernel
theorem dL_isPutSo_81 : decode cL_isPutSo 81 = .ok (.iadd, 1) := by decide +kernel
theorem dL_isPutSo_82 : decode cL_isPutSo 82 = .ok (.istore 4, 2) := by decide +kernel
theorem dL_isPutSo_84 : decode cL_isPutSo 84 = .ok (.iinc 9 1, 3) := by decide +kernel
theorem dL_isPutSo_87 : decode cL_isPutSo 87 = .ok (.goto (-30), 3) := by decide +kernel
theorem dL_isPutSo_90 : decode cL_isPutSo 90 = .ok (.aload_n 0, 1) := by decide +kernel
theorem dL_isPutSo_91 : decode cL_isPutSo 91 = .ok (.invokevirtual 89, 3) := by decide +kernel
theorem dL_isPutSo_94 : decode cL_isPutSo 94 = .ok (.istore 9, 2) := by decide +kernel
theorem dL_isPutSo_96 : decode cL_isPutSo 96 = .ok (.aload_n 0, 1) := by decide +kernel
theorem dL_isPutSo_97 : decode cL_isPutSo 97 = .ok (.invokevirtual 26, 3) := by decide +kernel
theorem dL_isPutSo_100 : decode cL_isPutSo 100 = .ok (.iload 9, 2) := by decide +kernel
theorem dL_isPutSo_102 : decode cL_isPutSo 102 = .ok (.iconst 1, 1) := by decide +kernel
theorem dL_isPutSo_103 : decode cL_isPutSo 103 = .ok (.iadd, 1) := by decide +kernel
theorem dL_isPutSo_104 : decode cL_isPutSo 104 = .ok (.if_icmp .ne 46, 3) := by decide +kernel
theorem dL_isPutSo_107 : decode cL_isPutSo 107 = .ok (.aload_n 0, 1) := by decide +kernel
theorem dL_isPutSo_108 : decode cL_isPutSo 108 = .ok (.iload_n 2, 1) := by decide +kernel
theorem dL_isPutSo_109 : decode cL_isPutSo 109 = .ok (.iload_n 3, 1) := by decide +kernel
theorem dL_isPutSo_110 : decode cL_isPutSo 110 = .ok (.invokevirtual 43, 3) := by decide +kernel
theorem dL_isPutSo_113 : decode cL_isPutSo 113 = .ok (.iload 4, 2) := by decide +kernel
theorem dL_isPutSo_115 : decode cL_isPutSo 115 = .ok (.if_icmp .ne 35, 3) := by decide +kernel
theorem dL_isPutSo_118 : decode cL_isPutSo 118 = .ok (.aload_n 0, 1) := by decide +kernel
theorem dL_isPutSo_119 : decode cL_isPutSo 119 = .ok (.iload_n 2, 1) := by decide +kernel
theorem dL_isPutSo_120 : decode cL_isPutSo 120 = .ok (.invokevirtual 57, 3) := by decide +kernel
theorem dL_isPutSo_123 : decode cL_isPutSo 123 = .ok (.iload_n 3, 1) := by decide +kernel
theorem dL_isPutSo_124 : decode cL_isPutSo 124 = .ok (.i2l, 1) := by decide +kernel
theorem dL_isPutSo_125 : decode cL_isPutSo 125 = .ok (.lcmp, 1) := by decide +kernel
theorem dL_isPutSo_126 : decode cL_isPutSo 126 = .ok (.ifCond .ne 24, 3) := by decide +kernel
theorem dL_isPutSo_129 : decode cL_isPutSo 129 = .ok (.aload_n 0, 1) := by decide +kernel
theorem dL_isPutSo_130 : decode cL_isPutSo 130 = .ok (.iload_n 2, 1) := by decide +kernel
theorem dL_isPutSo_131 : decode cL_isPutSo 131 = .ok (.invokevirtual 101, 3) := by decide +kernel
theorem dL_isPutSo_134 : decode cL_isPutSo 134 = .ok (.iconst 1, 1) := by decide +kernel
theorem dL_isPutSo_135 : decode cL_isPutSo 135 = .ok (.if_icmp .ne 15, 3) := by decide +kernel
theorem dL_isPutSo_138 : decode cL_isPutSo 138 = .ok (.aload_n 0, 1) := by decide +kernel
theorem dL_isPutSo_139 : decode cL_isPutSo 139 = .ok (.iload_n 2, 1) := by decide +kernel
theorem dL_isPutSo_140 : decode cL_isPutSo 140 = .ok (.invokevirtual 104, 3) := by decide +kernel
theorem dL_isPutSo_143 : decode cL_isPutSo 143 = .ok (.ifCond .ne 7, 3) := by decide +kernel
theorem dL_isPutSo_146 : decode cL_isPutSo 146 = .ok (.iconst 1, 1) := by decide +kernel
theorem dL_isPutSo_147 : decode cL_isPutSo 147 = .ok (.goto 4, 3) := by decide +kernel
theorem dL_isPutSo_150 : decode cL_isPutSo 150 = .ok (.iconst 0, 1) := by decide +kernel
theorem dL_isPutSo_151 : decode cL_isPutSo 151 = .ok (.istore 10, 2) := by decide +kernel
theorem dL_isPutSo_153 : decode cL_isPutSo 153 = .ok (.aload_n 0, 1) := by decide +kernel
theorem dL_isPutSo_154 : decode cL_isPutSo 154 = .ok (.invokevirtual 30, 3) := by decide +kernel
theorem dL_isPutSo_157 : decode cL_isPutSo 157 = .ok (.istore 11, 2) := by decide +kernel
theorem dL_isPutSo_159 : decode cL_isPutSo 159 = .ok (.iload 6, 2) := by decide +kernel
theorem dL_isPutSo_161 : decode cL_isPutSo 161 = .ok (.iconst 1, 1) := by decide +kernel
theorem dL_isPutSo_162 : decode cL_isPutSo 162 = .ok (.if_icmp .ne 12, 3) := by decide +kernel
theorem dL_isPutSo_165 : decode cL_isPutSo 165 = .ok (.iload 11, 2) := by decide +kernel
theorem dL_isPutSo_167 : decode cL_isPutSo 167 = .ok (.ifCond .ne 7, 3) := by decide +kernel
theorem dL_isPutSo_170 : decode cL_isPutSo 170 = .ok (.iconst 1, 1) := by decide +kernel
theorem dL_isPutSo_171 : decode cL_isPutSo 171 = .ok (.goto 4, 3) := by decide +kernel
theorem dL_isPutSo_174 : decode cL_isPutSo 174 = .ok (.iconst 0, 1) := by decide +kernel
theorem dL_isPutSo_175 : decode cL_isPutSo 175 = .ok (.istore 12, 2) := by decide +kernel
theorem dL_isPutSo_177 : decode cL_isPutSo 177 = .ok (.iload 10, 2) := by decide +kernel
theorem dL_isPutSo_179 : decode cL_isPutSo 179 = .ok (.ifCond .eq 74, 3) := by decide +kernel
theorem dL_isPutSo_182 : decode cL_isPutSo 182 = .ok (.iload 11, 2) := by decide +kernel
theorem dL_isPutSo_184 : decode cL_isPutSo 184 = .ok (.iload 12, 2) := by decide +kernel
theorem dL_isPutSo_186 : decode cL_isPutSo 186 = .ok (.ifCond .eq 7, 3) := by decide +kernel
theorem dL_isPutSo_189 : decode cL_isPutSo 189 = .ok (.iconst 0, 1) := by decide +kernel
theorem dL_isPutSo_190 : decode cL_isPutSo 190 = .ok (.goto 4, 3) := by decide +kernel
theorem dL_isPutSo_193 : decode cL_isPutSo 193 = .ok (.iconst 1, 1) := by decide +kernel
theorem dL_isPutSo_194 : decode cL_isPutSo 194 = .ok (.if_icmp .ne 59, 3) := by decide +kernel
theorem dL_isPutSo_197 : decode cL_isPutSo 197 = .ok (.iload 12, 2) := by decide +kernel
theorem dL_isPutSo_199 : decode cL_isPutSo 199 = .ok (.ifCond .eq 11, 3) := by decide +kernel
theorem dL_isPutSo_202 : decode cL_isPutSo 202 = .ok (.lload 7, 2) := by decide +kernel
theorem dL_isPutSo_204 : decode cL_isPutSo 204 = .ok (.iload_n 3, 1) := by decide +kernel
theorem dL_isPutSo_205 : decode cL_isPutSo 205 = .ok (.i2l, 1) := by decide +kernel
theorem dL_isPutSo_206 : decode cL_isPutSo 206 = .ok (.lcmp, 1) := by decide +kernel
theorem dL_isPutSo_207 : decode cL_isPutSo 207 = .ok (.ifCond .ne 46, 3) := by decide +kernel
theorem dL_isPutSo_210 : decode cL_isPutSo 210 = .ok (.aload_n 0, 1) := by decide +kernel
theorem dL_isPutSo_211 : decode cL_isPutSo 211 = .ok (.invokevirtual 95, 3) := by decide +kernel
theorem dL_isPutSo_214 : decode cL_isPutSo 214 = .ok (.iload 5, 2) := by decide +kernel
theorem dL_isPutSo_216 : decode cL_isPutSo 216 = .ok (.iload 4, 2) := by decide +kernel
theorem dL_isPutSo_218 : decode cL_isPutSo 218 = .ok (.iconst 1, 1) := by decide +kernel
theorem dL_isPutSo_219 : decode cL_isPutSo 219 = .ok (.iload 11, 2) := by decide +kernel
theorem dL_isPutSo_221 : decode cL_isPutSo 221 = .ok (.iadd, 1) := by decide +kernel
theorem dL_isPutSo_222 : decode cL_isPutSo 222 = .ok (.imul, 1) := by decide +kernel
theorem dL_isPutSo_223 : decode cL_isPutSo 223 = .ok (.iadd, 1) := by decide +kernel
theorem dL_isPutSo_224 : decode cL_isPutSo 224 = .ok (.if_icmp .ne 29, 3) := by decide +kernel
theorem dL_isPutSo_227 : decode cL_isPutSo 227 = .ok (.aload_n 0, 1) := by decide +kernel
theorem dL_isPutSo_228 : decode cL_isPutSo 228 = .ok (.iload_n 2, 1) := by decide +kernel
theorem dL_isPutSo_229 : decode cL_isPutSo 229 = .ok (.iconst 0, 1) := by decide +kernel
theorem dL_isPutSo_230 : decode cL_isPutSo 230 = .ok (.invokestatic 98, 3) := by decide +kernel
theorem dL_isPutSo_233 : decode cL_isPutSo 233 = .ok (.lload 7, 2) := by decide +kernel
theorem dL_isPutSo_235 : decode cL_isPutSo 235 = .ok (.lcmp, 1) := by decide +kernel
theorem dL_isPutSo_236 : decode cL_isPutSo 236 = .ok (.ifCond .ne 17, 3) := by decide +kernel
theorem dL_isPutSo_239 : decode cL_isPutSo 239 = .ok (.aload_n 0, 1) := by decide +kernel
theorem dL_isPutSo_240 : decode cL_isPutSo 240 = .ok (.iload_n 2, 1) := by decide +kernel
theorem dL_isPutSo_241 : decode cL_isPutSo 241 = .ok (.invokevirtual 101, 3) := by decide +kernel
theorem dL_isPutSo_244 : decode cL_isPutSo 244 = .ok (.iload 6, 2) := by decide +kernel
theorem dL_isPutSo_246 : decode cL_isPutSo 246 = .ok (.if_icmp .ne 7, 3) := by decide +kernel
theorem dL_isPutSo_249 : decode cL_isPutSo 249 = .ok (.iconst 1, 1) := by decide +kernel
theorem dL_isPutSo_250 : decode cL_isPutSo 250 = .ok (.goto 4, 3) := by decide +kernel
theorem dL_isPutSo_253 : decode cL_isPutSo 253 = .ok (.iconst 0, 1) := by decide +kernel
theorem dL_isPutSo_254 : decode cL_isPutSo 254 = .ok (.istore 10, 2) := by decide +kernel
theorem dL_isPutSo_256 : decode cL_isPutSo 256 = .ok (.iload 10, 2) := by decide +kernel
theorem dL_isPutSo_258 : decode cL_isPutSo 258 = .ok (.ifCond .eq 38, 3) := by decide +kernel
theorem dL_isPutSo_261 : decode cL_isPutSo 261 = .ok (.aload_n 1, 1) := by decide +kernel
theorem dL_isPutSo_262 : decode cL_isPutSo 262 = .ok (.invokevirtual 26, 3) := by decide +kernel
theorem dL_isPutSo_265 : decode cL_isPutSo 265 = .ok (.iload 9, 2) := by decide +kernel
theorem dL_isPutSo_267 : decode cL_isPutSo 267 = .ok (.iconst 1, 1) := by decide +kernel
theorem dL_isPutSo_268 : decode cL_isPutSo 268 = .ok (.iadd, 1) := by decide +kernel
theorem dL_isPutSo_269 : decode cL_isPutSo 269 = .ok (.if_icmp .ne 27, 3) := by decide +kernel
theorem dL_isPutSo_272 : decode cL_isPutSo 272 = .ok (.aload_n 1, 1) := by decide +kernel
theorem dL_isPutSo_273 : decode cL_isPutSo 273 = .ok (.iload_n 2, 1) := by decide +kernel
theorem dL_isPutSo_274 : decode cL_isPutSo 274 = .ok (.iload_n 3, 1) := by decide +kernel
theorem dL_isPutSo_275 : decode cL_isPutSo 275 = .ok (.invokevirtual 43, 3) := by decide +kernel
theorem dL_isPutSo_278 : decode cL_isPutSo 278 = .ok (.iload 4, 2) := by decide +kernel
theorem dL_isPutSo_280 : decode cL_isPutSo 280 = .ok (.if_icmp .ne 16, 3) := by decide +kernel
theorem dL_isPutSo_283 : decode cL_isPutSo 283 = .ok (.aload_n 1, 1) := by decide +kernel
theorem dL_isPutSo_284 : decode cL_isPutSo 284 = .ok (.invokevirtual 30, 3) := by decide +kernel
theorem dL_isPutSo_287 : decode cL_isPutSo 287 = .ok (.iload 11, 2) := by decide +kernel
theorem dL_isPutSo_289 : decode cL_isPutSo 289 = .ok (.if_icmp .ne 7, 3) := by decide +kernel
theorem dL_isPutSo_292 : decode cL_isPutSo 292 = .ok (.iconst 1, 1) := by decide +kernel
theorem dL_isPutSo_293 : decode cL_isPutSo 293 = .ok (.goto 4, 3) := by decide +kernel
theorem dL_isPutSo_296 : decode cL_isPutSo 296 = .ok (.iconst 0, 1) := by decide +kernel
theorem dL_isPutSo_297 : decode cL_isPutSo 297 = .ok (.ireturn, 1) := by decide +kernel
