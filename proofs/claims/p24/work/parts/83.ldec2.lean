/-! decode rows (printed) -/
theorem dL_areAlike_0 : decode cL_areAlike 0 = .ok (.aload_n 0, 1) := by decide +kernel
theorem dL_areAlike_1 : decode cL_areAlike 1 = .ok (.invokevirtual 72, 3) := by decide +kernel
theorem dL_areAlike_4 : decode cL_areAlike 4 = .ok (.aload_n 1, 1) := by decide +kernel
theorem dL_areAlike_5 : decode cL_areAlike 5 = .ok (.invokevirtual 72, 3) := by decide +kernel
theorem dL_areAlike_8 : decode cL_areAlike 8 = .ok (.if_icmp .ne 51, 3) := by decide +kernel
theorem dL_areAlike_11 : decode cL_areAlike 11 = .ok (.aload_n 0, 1) := by decide +kernel
theorem dL_areAlike_12 : decode cL_areAlike 12 = .ok (.invokevirtual 69, 3) := by decide +kernel
theorem dL_areAlike_15 : decode cL_areAlike 15 = .ok (.aload_n 1, 1) := by decide +kernel
theorem dL_areAlike_16 : decode cL_areAlike 16 = .ok (.invokevirtual 69, 3) := by decide +kernel
theorem dL_areAlike_19 : decode cL_areAlike 19 = .ok (.if_icmp .ne 40, 3) := by decide +kernel
theorem dL_areAlike_22 : decode cL_areAlike 22 = .ok (.aload_n 0, 1) := by decide +kernel
theorem dL_areAlike_23 : decode cL_areAlike 23 = .ok (.invokevirtual 89, 3) := by decide +kernel
theorem dL_areAlike_26 : decode cL_areAlike 26 = .ok (.aload_n 1, 1) := by decide +kernel
theorem dL_areAlike_27 : decode cL_areAlike 27 = .ok (.invokevirtual 89, 3) := by decide +kernel
theorem dL_areAlike_30 : decode cL_areAlike 30 = .ok (.if_icmp .ne 29, 3) := by decide +kernel
theorem dL_areAlike_33 : decode cL_areAlike 33 = .ok (.aload_n 0, 1) := by decide +kernel
theorem dL_areAlike_34 : decode cL_areAlike 34 = .ok (.invokevirtual 92, 3) := by decide +kernel
theorem dL_areAlike_37 : decode cL_areAlike 37 = .ok (.aload_n 1, 1) := by decide +kernel
theorem dL_areAlike_38 : decode cL_areAlike 38 = .ok (.invokevirtual 92, 3) := by decide +kernel
theorem dL_areAlike_41 : decode cL_areAlike 41 = .ok (.if_icmp .ne 18, 3) := by decide +kernel
theorem dL_areAlike_44 : decode cL_areAlike 44 = .ok (.aload_n 0, 1) := by decide +kernel
theorem dL_areAlike_45 : decode cL_areAlike 45 = .ok (.invokevirtual 95, 3) := by decide +kernel
theorem dL_areAlike_48 : decode cL_areAlike 48 = .ok (.aload_n 1, 1) := by decide +kernel
theorem dL_areAlike_49 : decode cL_areAlike 49 = .ok (.invokevirtual 95, 3) := by decide +kernel
theorem dL_areAlike_52 : decode cL_areAlike 52 = .ok (.if_icmp .ne 7, 3) := by decide +kernel
theorem dL_areAlike_55 : decode cL_areAlike 55 = .ok (.iconst 1, 1) := by decide +kernel
theorem dL_areAlike_56 : decode cL_areAlike 56 = .ok (.goto 4, 3) := by decide +kernel
theorem dL_areAlike_59 : decode cL_areAlike 59 = .ok (.iconst 0, 1) := by decide +kernel
theorem dL_areAlike_60 : decode cL_areAlike 60 = .ok (.istore_n 2, 1) := by decide +kernel
theorem dL_areAlike_61 : decode cL_areAlike 61 = .ok (.iconst 0, 1) := by decide +kernel
theorem dL_areAlike_62 : decode cL_areAlike 62 = .ok (.istore_n 3, 1) := by decide +kernel
theorem dL_areAlike_63 : decode cL_areAlike 63 = .ok (.iload_n 3, 1) := by decide +kernel
theorem dL_areAlike_64 : decode cL_areAlike 64 = .ok (.bipush 30, 2) := by decide +kernel
theorem dL_areAlike_66 : decode cL_areAlike 66 = .ok (.if_icmp .ge 61, 3) := by decide +kernel
theorem dL_areAlike_69 : decode cL_areAlike 69 = .ok (.iload_n 2, 1) := by decide +kernel
theorem dL_areAlike_70 : decode cL_areAlike 70 = .ok (.ifCond .eq 57, 3) := by decide +kernel
theorem dL_areAlike_73 : decode cL_areAlike 73 = .ok (.aload_n 0, 1) := by decide +kernel
theorem dL_areAlike_74 : decode cL_areAlike 74 = .ok (.iload_n 3, 1) := by decide +kernel
theorem dL_areAlike_75 : decode cL_areAlike 75 = .ok (.iconst 0, 1) := by decide +kernel
theorem dL_areAlike_76 : decode cL_areAlike 76 = .ok (.invokestatic 98, 3) := by decide +kernel
theorem dL_areAlike_79 : decode cL_areAlike 79 = .ok (.aload_n 1, 1) := by decide +kernel
theorem dL_areAlike_80 : decode cL_areAlike 80 = .ok (.iload_n 3, 1) := by decide +kernel
theorem dL_areAlike_81 : decode cL_areAlike 81 = .ok (.iconst 0, 1) := by decide +kernel
theorem dL_areAlike_82 : decode cL_areAlike 82 = .ok (.invokestatic 98, 3) := by decide +kernel
theorem dL_areAlike_85 : decode cL_areAlike 85 = .ok (.lcmp, 1) := by decide +kernel
theorem dL_areAlike_86 : decode cL_areAlike 86 = .ok (.ifCond .ne 33, 3) := by decide +kernel
theorem dL_areAlike_89 : decode cL_areAlike 89 = .ok (.aload_n 0, 1) := by decide +kernel
theorem dL_areAlike_90 : decode cL_areAlike 90 = .ok (.iload_n 3, 1) := by decide +kernel
theorem dL_areAlike_91 : decode cL_areAlike 91 = .ok (.invokevirtual 101, 3) := by decide +kernel
theorem dL_areAlike_94 : decode cL_areAlike 94 = .ok (.aload_n 1, 1) := by decide +kernel
theorem dL_areAlike_95 : decode cL_areAlike 95 = .ok (.iload_n 3, 1) := by decide +kernel
theorem dL_areAlike_96 : decode cL_areAlike 96 = .ok (.invokevirtual 101, 3) := by decide +kernel
theorem dL_areAlike_99 : decode cL_areAlike 99 = .ok (.if_icmp .ne 20, 3) := by decide +kernel
theorem dL_areAlike_102 : decode cL_areAlike 102 = .ok (.aload_n 0, 1) := by decide +kernel
theorem dL_areAlike_103 : decode cL_areAlike 103 = .ok (.iload_n 3, 1) := by decide +kernel
theorem dL_areAlike_104 : decode cL_areAlike 104 = .ok (.invokevirtual 104, 3) := by decide +kernel
theorem dL_areAlike_107 : decode cL_areAlike 107 = .ok (.aload_n 1, 1) := by decide +kernel
theorem dL_areAlike_108 : decode cL_areAlike 108 = .ok (.iload_n 3, 1) := by decide +kernel
theorem dL_areAlike_109 : decode cL_areAlike 109 = .ok (.invokevirtual 104, 3) := by decide +kernel
theorem dL_areAlike_112 : decode cL_areAlike 112 = .ok (.if_icmp .ne 7, 3) := by decide +kernel
theorem dL_areAlike_115 : decode cL_areAlike 115 = .ok (.iconst 1, 1) := by decide +kernel
theorem dL_areAlike_116 : decode cL_areAlike 116 = .ok (.goto 4, 3) := by decide +kernel
theorem dL_areAlike_119 : decode cL_areAlike 119 = .ok (.iconst 0, 1) := by decide +kernel
theorem dL_areAlike_120 : decode cL_areAlike 120 = .ok (.istore_n 2, 1) := by decide +kernel
theorem dL_areAlike_121 : decode cL_areAlike 121 = .ok (.iinc 3 1, 3) := by decide +kernel
theorem dL_areAlike_124 : decode cL_areAlike 124 = .ok (.goto (-61), 3) := by decide +kernel
theorem dL_areAlike_127 : decode cL_areAlike 127 = .ok (.iload_n 2, 1) := by decide +kernel
theorem dL_areAlike_128 : decode cL_areAlike 128 = .ok (.ireturn, 1) := by decide +kernel
theorem dL_isSoughtSo_0 : decode cL_isSoughtSo 0 = .ok (.aload_n 0, 1) := by decide +kernel
theorem dL_isSoughtSo_1 : decode cL_isSoughtSo 1 = .ok (.iload_n 2, 1) := by decide +kernel
theorem dL_isSoughtSo_2 : decode cL_isSoughtSo 2 = .ok (.iload_n 3, 1) := by decide +kernel
theorem dL_isSoughtSo_3 : decode cL_isSoughtSo 3 = .ok (.iload 4, 2) := by decide +kernel
theorem dL_isSoughtSo_5 : decode cL_isSoughtSo 5 = .ok (.iconst 0, 1) := by decide +kernel
theorem dL_isSoughtSo_6 : decode cL_isSoughtSo 6 = .ok (.sipush 5000, 3) := by decide +kernel
theorem dL_isSoughtSo_9 : decode cL_isSoughtSo 9 = .ok (.invokestatic 86, 3) := by decide +kernel
theorem dL_isSoughtSo_12 : decode cL_isSoughtSo 12 = .ok (.istore 5, 2) := by decide +kernel
theorem dL_isSoughtSo_14 : decode cL_isSoughtSo 14 = .ok (.iload 5, 2) := by decide +kernel
theorem dL_isSoughtSo_16 : decode cL_isSoughtSo 16 = .ok (.ifCond .ge 26, 3) := by decide +kernel
theorem dL_isSoughtSo_19 : decode cL_isSoughtSo 19 = .ok (.aload_n 1, 1) := by decide +kernel
theorem dL_isSoughtSo_20 : decode cL_isSoughtSo 20 = .ok (.iload_n 2, 1) := by decide +kernel
theorem dL_isSoughtSo_21 : decode cL_isSoughtSo 21 = .ok (.iload_n 3, 1) := by decide +kernel
theorem dL_isSoughtSo_22 : decode cL_isSoughtSo 22 = .ok (.iload 4, 2) := by decide +kernel
theorem dL_isSoughtSo_24 : decode cL_isSoughtSo 24 = .ok (.iconst 0, 1) := by decide +kernel
theorem dL_isSoughtSo_25 : decode cL_isSoughtSo 25 = .ok (.sipush 5000, 3) := by decide +kernel
theorem dL_isSoughtSo_28 : decode cL_isSoughtSo 28 = .ok (.invokestatic 86, 3) := by decide +kernel
theorem dL_isSoughtSo_31 : decode cL_isSoughtSo 31 = .ok (.iload 5, 2) := by decide +kernel
theorem dL_isSoughtSo_33 : decode cL_isSoughtSo 33 = .ok (.if_icmp .ne 7, 3) := by decide +kernel
theorem dL_isSoughtSo_36 : decode cL_isSoughtSo 36 = .ok (.iconst 1, 1) := by decide +kernel
theorem dL_isSoughtSo_37 : decode cL_isSoughtSo 37 = .ok (.goto 4, 3) := by decide +kernel
theorem dL_isSoughtSo_40 : decode cL_isSoughtSo 40 = .ok (.iconst 0, 1) := by decide +kernel
theorem dL_isSoughtSo_41 : decode cL_isSoughtSo 41 = .ok (.ireturn, 1) := by decide +kernel
theorem dL_isSoughtSo_42 : decode cL_isSoughtSo 42 = .ok (.aload_n 0, 1) := by decide +kernel
theorem dL_isSoughtSo_43 : decode cL_isSoughtSo 43 = .ok (.iload_n 2, 1) := by decide +kernel
theorem dL_isSoughtSo_44 : decode cL_isSoughtSo 44 = .ok (.invokevirtual 57, 3) := by decide +kernel
theorem dL_isSoughtSo_47 : decode cL_isSoughtSo 47 = .ok (.lstore 6, 2) := by decide +kernel
theorem dL_isSoughtSo_49 : decode cL_isSoughtSo 49 = .ok (.iload 5, 2) := by decide +kernel
theorem dL_isSoughtSo_51 : decode cL_isSoughtSo 51 = .ok (.sipush 5000, 3) := by decide +kernel
theorem dL_isSoughtSo_54 : decode cL_isSoughtSo 54 = .ok (.if_icmp .gt 57, 3) := by decide +kernel
theorem dL_isSoughtSo_57 : decode cL_isSoughtSo 57 = .ok (.aload_n 0, 1) := by decide +kernel
theorem dL_isSoughtSo_58 : decode cL_isSoughtSo 58 = .ok (.iload 4, 2) := by decide +kernel
theorem dL_isSoughtSo_60 : decode cL_isSoughtSo 60 = .ok (.invokevirtual 57, 3) := by decide +kernel
theorem dL_isSoughtSo_63 : decode cL_isSoughtSo 63 = .ok (.iload 5, 2) := by decide +kernel
theorem dL_isSoughtSo_65 : decode cL_isSoughtSo 65 = .ok (.i2l, 1) := by decide +kernel
theorem dL_isSoughtSo_66 : decode cL_isSoughtSo 66 = .ok (.lcmp, 1) := by decide +kernel
theorem dL_isSoughtSo_67 : decode cL_isSoughtSo 67 = .ok (.ifCond .ne 44, 3) := by decide +kernel
theorem dL_isSoughtSo_70 : decode cL_isSoughtSo 70 = .ok (.aload_n 0, 1) := by decide +kernel
theorem dL_isSoughtSo_71 : decode cL_isSoughtSo 71 = .ok (.iload 4, 2) := by decide +kernel
theorem dL_isSoughtSo_73 : decode cL_isSoughtSo 73 = .ok (.invokevirtual 101, 3) := by decide +kernel
theorem dL_isSoughtSo_76 : decode cL_isSoughtSo 76 = .ok (.iconst 1, 1) := by decide +kernel
theorem dL_isSoughtSo_77 : decode cL_isSoughtSo 77 = .ok (.if_icmp .ne 34, 3) := by decide +kernel
theorem dL_isSoughtSo_80 : decode cL_isSoughtSo 80 = .ok (.aload_n 0, 1) := by decide +kernel
theorem dL_isSoughtSo_81 : decode cL_isSoughtSo 81 = .ok (.iload_n 2, 1) := by decide +kernel
theorem dL_isSoughtSo_82 : decode cL_isSoughtSo 82 = .ok (.iload 4, 2) := by decide +kernel
theorem dL_isSoughtSo_84 : decode cL_isSoughtSo 84 = .ok (.invokevirtual 111, 3) := by decide +kernel
theorem dL_isSoughtSo_87 : decode cL_isSoughtSo 87 = .ok (.ifCond .eq 24, 3) := by decide +kernel
theorem dL_isSoughtSo_90 : decode cL_isSoughtSo 90 = .ok (.aload_n 1, 1) := by decide +kernel
theorem dL_isSoughtSo_91 : decode cL_isSoughtSo 91 = .ok (.iload_n 2, 1) := by decide +kernel
theorem dL_isSoughtSo_92 : decode cL_isSoughtSo 92 = .ok (.iload_n 3, 1) := by decide +kernel
theorem dL_isSoughtSo_93 : decode cL_isSoughtSo 93 = .ok (.iload 4, 2) := by decide +kernel
theorem dL_isSoughtSo_95 : decode cL_isSoughtSo 95 = .ok (.iconst 0, 1) := by decide +kernel
theorem dL_isSoughtSo_96 : decode cL_isSoughtSo 96 = .ok (.sipush 5000, 3) := by decide +kernel
theorem dL_isSoughtSo_99 : decode cL_isSoughtSo 99 = .ok (.invokestatic 86, 3) := by decide +kernel
theorem dL_isSoughtSo_102 : decode cL_isSoughtSo 102 = .ok (.iload 5, 2) := by decide +kernel
theorem dL_isSoughtSo_104 : decode cL_isSoughtSo 104 = .ok (.if_icmp .ne 7, 3) := by decide +kernel
theorem dL_isSoughtSo_107 : decode cL_isSoughtSo 107 = .ok (.iconst 1, 1) := by decide +kernel
theorem dL_isSoughtSo_108 : decode cL_isSoughtSo 108 = .ok (.goto 4, 3) := by decide +kernel
theorem dL_isSoughtSo_111 : decode cL_isSoughtSo 111 = .ok (.iconst 0, 1) := by decide +kernel
theorem dL_isSoughtSo_112 : decode cL_isSoughtSo 112 = .ok (.istore 8, 2) := by decide +kernel
theorem dL_isSoughtSo_114 : decode cL_isSoughtSo 114 = .ok (.iload 8, 2) := by decide +kernel
theorem dL_isSoughtSo_116 : decode cL_isSoughtSo 116 = .ok (.ifCond .eq 96, 3) := by decide +kernel
theorem dL_isSoughtSo_119 : decode cL_isSoughtSo 119 = .ok (.lload 6, 2) := by decide +kernel
theorem dL_isSoughtSo_121 : decode cL_isSoughtSo 121 = .ok (.iload_n 3, 1) := by decide +kernel
theorem dL_isSoughtSo_122 : decode cL_isSoughtSo 122 = .ok (.i2l, 1) := by decide +kernel
theorem dL_isSoughtSo_123 : decode cL_isSoughtSo 123 = .ok (.lcmp, 1) := by decide +kernel
theorem dL_isSoughtSo_124 : decode cL_isSoughtSo 124 = .ok (.ifCond .eq 88, 3) := by decide +kernel
theorem dL_isSoughtSo_127 : decode cL_isSoughtSo 127 = .ok (.iload 5, 2) := by decide +kernel
theorem dL_isSoughtSo_129 : decode cL_isSoughtSo 129 = .ok (.ifCond .le 83, 3) := by decide +kernel
theorem dL_isSoughtSo_132 : decode cL_isSoughtSo 132 = .ok (.aload_n 0, 1) := by decide +kernel
theorem dL_isSoughtSo_133 : decode cL_isSoughtSo 133 = .ok (.iload 4, 2) := by decide +kernel
theorem dL_isSoughtSo_135 : decode cL_isSoughtSo 135 = .ok (.iload 5, 2) := by decide +kernel
theorem dL_isSoughtSo_137 : decode cL_isSoughtSo 137 = .ok (.iconst 1, 1) := by decide +kernel
theorem dL_isSoughtSo_138 : decode cL_isSoughtSo 138 = .ok (.isub, 1) := by decide +kernel
theorem dL_isSoughtSo_139 : decode cL_isSoughtSo 139 = .ok (.invokevirtual 43, 3) := by decide +kernel
theorem dL_isSoughtSo_142 : decode cL_isSoughtSo 142 = .ok (.istore 9, 2) := by decide +kernel
theorem dL_isSoughtSo_144 : decode cL_isSoughtSo 144 = .ok (.aload_n 0, 1) := by decide +kernel
theorem dL_isSoughtSo_145 : decode cL_isSoughtSo 145 = .ok (.iload_n 2, 1) := by decide +kernel
theorem dL_isSoughtSo_146 : decode cL_isSoughtSo 146 = .ok (.iconst 0, 1) := by decide +kernel
theorem dL_isSoughtSo_147 : decode cL_isSoughtSo 147 = .ok (.invokestatic 98, 3) := by decide +kernel
theorem dL_isSoughtSo_150 : decode cL_isSoughtSo 150 = .ok (.lstore 10, 2) := by decide +kernel
theorem dL_isSoughtSo_152 : decode cL_isSoughtSo 152 = .ok (.iload 9, 2) := by decide +kernel
theorem dL_isSoughtSo_154 : decode cL_isSoughtSo 154 = .ok (.aload_n 1, 1) := by decide +kernel
theorem dL_isSoughtSo_155 : decode cL_isSoughtSo 155 = .ok (.iload 4, 2) := by decide +kernel
theorem dL_isSoughtSo_157 : decode cL_isSoughtSo 157 = .ok (.iload 5, 2) := by decide +kernel
theorem dL_isSoughtSo_159 : decode cL_isSoughtSo 159 = .ok (.iconst 1, 1) := by decide +kernel
theorem dL_isSoughtSo_160 : decode cL_isSoughtSo 160 = .ok (.isub, 1) := by decide +kernel
theorem dL_isSoughtSo_161 : decode cL_isSoughtSo 161 = .ok (.invokevirtual 43, 3) := by decide +kernel
theorem dL_isSoughtSo_164 : decode cL_isSoughtSo 164 = .ok (.if_icmp .ne 45, 3) := by decide +kernel
theorem dL_isSoughtSo_167 : decode cL_isSoughtSo 167 = .ok (.lload 10, 2) := by decide +kernel
theorem dL_isSoughtSo_169 : decode cL_isSoughtSo 169 = .ok (.ldc2_w 62, 3) := by decide +kernel
theorem dL_isSoughtSo_172 : decode cL_isSoughtSo 172 = .ok (.lcmp, 1) := by decide +kernel
theorem dL_isSoughtSo_173 : decode cL_isSoughtSo 173 = .ok (.ifCond .eq 36, 3) := by decide +kernel
theorem dL_isSoughtSo_176 : decode cL_isSoughtSo 176 = .ok (.lload 10, 2) := by decide +kernel
theorem dL_isSoughtSo_178 : decode cL_isSoughtSo 178 = .ok (.iload_n 3, 1) := by decide +kernel
theorem dL_isSoughtSo_179 : decode cL_isSoughtSo 179 = .ok (.i2l, 1) := by decide +kernel
theorem dL_isSoughtSo_180 : decode cL_isSoughtSo 180 = .ok (.lcmp, 1) := by decide +kernel
theorem dL_isSoughtSo_181 : decode cL_isSoughtSo 181 = .ok (.ifCond .le 7, 3) := by decide +kernel
theorem dL_isSoughtSo_184 : decode cL_isSoughtSo 184 = .ok (.iconst 1, 1) := by decide +kernel
theorem dL_isSoughtSo_185 : decode cL_isSoughtSo 185 = .ok (.goto 4, 3) := by decide +kernel
theorem dL_isSoughtSo_188 : decode cL_isSoughtSo 188 = .ok (.iconst 0, 1) := by decide +kernel
theorem dL_isSoughtSo_189 : decode cL_isSoughtSo 189 = .ok (.lload 6, 2) := by decide +kernel
theorem dL_isSoughtSo_191 : decode cL_isSoughtSo 191 = .ok (.iload_n 3, 1) := by decide +kernel
theorem dL_isSoughtSo_192 : decode cL_isSoughtSo 192 = .ok (.i2l, 1) := by decide +kernel
theorem dL_isSoughtSo_193 : decode cL_isSoughtSo 193 = .ok (.lcmp, 1) := by decide +kernel
theorem dL_isSoughtSo_194 : decode cL_isSoughtSo 194 = .ok (.ifCond .ge 7, 3) := by decide +kernel
theorem dL_isSoughtSo_197 : decode cL_isSoughtSo 197 = .ok (.iconst 1, 1) := by decide +kernel
theorem dL_isSoughtSo_198 : decode cL_isSoughtSo 198 = .ok (.goto 4, 3) := by decide +kernel
theorem dL_isSoughtSo_201 : decode cL_isSoughtSo 201 = .ok (.iconst 0, 1) := by decide +kernel
theorem dL_isSoughtSo_202 : decode cL_isSoughtSo 202 = .ok (.if_icmp .ne 7, 3) := by decide +kernel
theorem dL_isSoughtSo_205 : decode cL_isSoughtSo 205 = .ok (.iconst 1, 1) := by decide +kernel
theorem dL_isSoughtSo_206 : decode cL_isSoughtSo 206 = .ok (.goto 4, 3) := by decide +kernel
theorem dL_isSoughtSo_209 : decode cL_isSoughtSo 209 = .ok (.iconst 0, 1) := by decide +kernel
theorem dL_isSoughtSo_210 : decode cL_isSoughtSo 210 = .ok (.istore 8, 2) := by decide +kernel
theorem dL_isSoughtSo_212 : decode cL_isSoughtSo 212 = .ok (.iload 8, 2) := by decide +kernel
theorem dL_isSoughtSo_214 : decode cL_isSoughtSo 214 = .ok (.ireturn, 1) := by decide +kernel
