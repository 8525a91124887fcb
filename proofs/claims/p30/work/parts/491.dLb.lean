theorem dL_areRuns_19 : decode cL_areRuns 19 = .ok (.if_icmp .ge 226, 3) := by decide +kernel
theorem dL_areRuns_22 : decode cL_areRuns 22 = .ok (.aload_n 2, 1) := by decide +kernel
theorem dL_areRuns_23 : decode cL_areRuns 23 = .ok (.aload_n 3, 1) := by decide +kernel
theorem dL_areRuns_24 : decode cL_areRuns 24 = .ok (.iload 6, 2) := by decide +kernel
theorem dL_areRuns_26 : decode cL_areRuns 26 = .ok (.invokestatic 108, 3) := by decide +kernel
theorem dL_areRuns_29 : decode cL_areRuns 29 = .ok (.istore 7, 2) := by decide +kernel
theorem dL_areRuns_31 : decode cL_areRuns 31 = .ok (.aload_n 1, 1) := by decide +kernel
theorem dL_areRuns_32 : decode cL_areRuns 32 = .ok (.aload_n 2, 1) := by decide +kernel
theorem dL_areRuns_33 : decode cL_areRuns 33 = .ok (.iconst 1, 1) := by decide +kernel
theorem dL_areRuns_34 : decode cL_areRuns 34 = .ok (.iload 7, 2) := by decide +kernel
theorem dL_areRuns_36 : decode cL_areRuns 36 = .ok (.invokestatic 32, 3) := by decide +kernel
theorem dL_areRuns_39 : decode cL_areRuns 39 = .ok (.istore 8, 2) := by decide +kernel
theorem dL_areRuns_41 : decode cL_areRuns 41 = .ok (.aload_n 0, 1) := by decide +kernel
theorem dL_areRuns_42 : decode cL_areRuns 42 = .ok (.iload 6, 2) := by decide +kernel
theorem dL_areRuns_44 : decode cL_areRuns 44 = .ok (.aload 4, 2) := by decide +kernel
theorem dL_areRuns_46 : decode cL_areRuns 46 = .ok (.invokestatic 111, 3) := by decide +kernel
theorem dL_areRuns_49 : decode cL_areRuns 49 = .ok (.ifCond .ne 55, 3) := by decide +kernel
theorem dL_areRuns_52 : decode cL_areRuns 52 = .ok (.aload 4, 2) := by decide +kernel
theorem dL_areRuns_54 : decode cL_areRuns 54 = .ok (.iconst 0, 1) := by decide +kernel
theorem dL_areRuns_55 : decode cL_areRuns 55 = .ok (.iaload, 1) := by decide +kernel
theorem dL_areRuns_56 : decode cL_areRuns 56 = .ok (.iload 7, 2) := by decide +kernel
theorem dL_areRuns_58 : decode cL_areRuns 58 = .ok (.if_icmp .ne 46, 3) := by decide +kernel
theorem dL_areRuns_61 : decode cL_areRuns 61 = .ok (.aload_n 0, 1) := by decide +kernel
theorem dL_areRuns_62 : decode cL_areRuns 62 = .ok (.iload 7, 2) := by decide +kernel
theorem dL_areRuns_64 : decode cL_areRuns 64 = .ok (.iconst 0, 1) := by decide +kernel
theorem dL_areRuns_65 : decode cL_areRuns 65 = .ok (.invokevirtual 114, 3) := by decide +kernel
theorem dL_areRuns_68 : decode cL_areRuns 68 = .ok (.iload 8, 2) := by decide +kernel
theorem dL_areRuns_70 : decode cL_areRuns 70 = .ok (.if_icmp .ne 34, 3) := by decide +kernel
theorem dL_areRuns_73 : decode cL_areRuns 73 = .ok (.aload_n 0, 1) := by decide +kernel
theorem dL_areRuns_74 : decode cL_areRuns 74 = .ok (.iload 7, 2) := by decide +kernel
theorem dL_areRuns_76 : decode cL_areRuns 76 = .ok (.iconst 1, 1) := by decide +kernel
theorem dL_areRuns_77 : decode cL_areRuns 77 = .ok (.invokevirtual 114, 3) := by decide +kernel
theorem dL_areRuns_80 : decode cL_areRuns 80 = .ok (.aload_n 1, 1) := by decide +kernel
theorem dL_areRuns_81 : decode cL_areRuns 81 = .ok (.aload_n 2, 1) := by decide +kernel
theorem dL_areRuns_82 : decode cL_areRuns 82 = .ok (.iload 7, 2) := by decide +kernel
theorem dL_areRuns_84 : decode cL_areRuns 84 = .ok (.invokestatic 56, 3) := by decide +kernel
theorem dL_areRuns_87 : decode cL_areRuns 87 = .ok (.if_icmp .ne 17, 3) := by decide +kernel
theorem dL_areRuns_90 : decode cL_areRuns 90 = .ok (.aload_n 0, 1) := by decide +kernel
theorem dL_areRuns_91 : decode cL_areRuns 91 = .ok (.iload 7, 2) := by decide +kernel
theorem dL_areRuns_93 : decode cL_areRuns 93 = .ok (.iconst 2, 1) := by decide +kernel
theorem dL_areRuns_94 : decode cL_areRuns 94 = .ok (.invokevirtual 114, 3) := by decide +kernel
theorem dL_areRuns_97 : decode cL_areRuns 97 = .ok (.aload_n 3, 1) := by decide +kernel
theorem dL_areRuns_98 : decode cL_areRuns 98 = .ok (.iload 7, 2) := by decide +kernel
theorem dL_areRuns_100 : decode cL_areRuns 100 = .ok (.iaload, 1) := by decide +kernel
theorem dL_areRuns_101 : decode cL_areRuns 101 = .ok (.if_icmp .eq 5, 3) := by decide +kernel
theorem dL_areRuns_104 : decode cL_areRuns 104 = .ok (.iconst 0, 1) := by decide +kernel
theorem dL_areRuns_105 : decode cL_areRuns 105 = .ok (.ireturn, 1) := by decide +kernel
theorem dL_areRuns_106 : decode cL_areRuns 106 = .ok (.aload_n 0, 1) := by decide +kernel
theorem dL_areRuns_107 : decode cL_areRuns 107 = .ok (.iload 7, 2) := by decide +kernel
theorem dL_areRuns_109 : decode cL_areRuns 109 = .ok (.iconst 3, 1) := by decide +kernel
theorem dL_areRuns_110 : decode cL_areRuns 110 = .ok (.invokevirtual 114, 3) := by decide +kernel
theorem dL_areRuns_113 : decode cL_areRuns 113 = .ok (.aload_n 1, 1) := by decide +kernel
theorem dL_areRuns_114 : decode cL_areRuns 114 = .ok (.aload_n 1, 1) := by decide +kernel
theorem dL_areRuns_115 : decode cL_areRuns 115 = .ok (.aload_n 2, 1) := by decide +kernel
theorem dL_areRuns_116 : decode cL_areRuns 116 = .ok (.iconst 1, 1) := by decide +kernel
theorem dL_areRuns_117 : decode cL_areRuns 117 = .ok (.iload 7, 2) := by decide +kernel
theorem dL_areRuns_119 : decode cL_areRuns 119 = .ok (.iconst 0, 1) := by decide +kernel
theorem dL_areRuns_120 : decode cL_areRuns 120 = .ok (.invokestatic 36, 3) := by decide +kernel
theorem dL_areRuns_123 : decode cL_areRuns 123 = .ok (.invokestatic 9, 3) := by decide +kernel
theorem dL_areRuns_126 : decode cL_areRuns 126 = .ok (.if_icmp .ne 47, 3) := by decide +kernel
theorem dL_areRuns_129 : decode cL_areRuns 129 = .ok (.aload_n 0, 1) := by decide +kernel
theorem dL_areRuns_130 : decode cL_areRuns 130 = .ok (.iload 7, 2) := by decide +kernel
theorem dL_areRuns_132 : decode cL_areRuns 132 = .ok (.iconst 4, 1) := by decide +kernel
theorem dL_areRuns_133 : decode cL_areRuns 133 = .ok (.invokevirtual 114, 3) := by decide +kernel
theorem dL_areRuns_136 : decode cL_areRuns 136 = .ok (.aload_n 1, 1) := by decide +kernel
theorem dL_areRuns_137 : decode cL_areRuns 137 = .ok (.aload_n 1, 1) := by decide +kernel
theorem dL_areRuns_138 : decode cL_areRuns 138 = .ok (.aload_n 2, 1) := by decide +kernel
theorem dL_areRuns_139 : decode cL_areRuns 139 = .ok (.iload 7, 2) := by decide +kernel
theorem dL_areRuns_141 : decode cL_areRuns 141 = .ok (.invokestatic 40, 3) := by decide +kernel
theorem dL_areRuns_144 : decode cL_areRuns 144 = .ok (.invokestatic 9, 3) := by decide +kernel
theorem dL_areRuns_147 : decode cL_areRuns 147 = .ok (.if_icmp .ne 26, 3) := by decide +kernel
theorem dL_areRuns_150 : decode cL_areRuns 150 = .ok (.aload_n 0, 1) := by decide +kernel
theorem dL_areRuns_151 : decode cL_areRuns 151 = .ok (.iload 7, 2) := by decide +kernel
theorem dL_areRuns_153 : decode cL_areRuns 153 = .ok (.iconst 5, 1) := by decide +kernel
theorem dL_areRuns_154 : decode cL_areRuns 154 = .ok (.invokevirtual 114, 3) := by decide +kernel
theorem dL_areRuns_157 : decode cL_areRuns 157 = .ok (.aload_n 2, 1) := by decide +kernel
theorem dL_areRuns_158 : decode cL_areRuns 158 = .ok (.iconst 2, 1) := by decide +kernel
theorem dL_areRuns_159 : decode cL_areRuns 159 = .ok (.iaload, 1) := by decide +kernel
theorem dL_areRuns_160 : decode cL_areRuns 160 = .ok (.iload 7, 2) := by decide +kernel
theorem dL_areRuns_162 : decode cL_areRuns 162 = .ok (.if_icmp .ne 7, 3) := by decide +kernel
theorem dL_areRuns_165 : decode cL_areRuns 165 = .ok (.iconst 1, 1) := by decide +kernel
theorem dL_areRuns_166 : decode cL_areRuns 166 = .ok (.goto 4, 3) := by decide +kernel
theorem dL_areRuns_169 : decode cL_areRuns 169 = .ok (.iconst 0, 1) := by decide +kernel
theorem dL_areRuns_170 : decode cL_areRuns 170 = .ok (.if_icmp .eq 5, 3) := by decide +kernel
theorem dL_areRuns_173 : decode cL_areRuns 173 = .ok (.iconst 0, 1) := by decide +kernel
theorem dL_areRuns_174 : decode cL_areRuns 174 = .ok (.ireturn, 1) := by decide +kernel
theorem dL_areRuns_175 : decode cL_areRuns 175 = .ok (.iconst 0, 1) := by decide +kernel
theorem dL_areRuns_176 : decode cL_areRuns 176 = .ok (.istore 9, 2) := by decide +kernel
theorem dL_areRuns_178 : decode cL_areRuns 178 = .ok (.iload 9, 2) := by decide +kernel
theorem dL_areRuns_180 : decode cL_areRuns 180 = .ok (.iload 8, 2) := by decide +kernel
theorem dL_areRuns_182 : decode cL_areRuns 182 = .ok (.if_icmp .ge 41, 3) := by decide +kernel
theorem dL_areRuns_185 : decode cL_areRuns 185 = .ok (.aload_n 0, 1) := by decide +kernel
theorem dL_areRuns_186 : decode cL_areRuns 186 = .ok (.iload 7, 2) := by decide +kernel
theorem dL_areRuns_188 : decode cL_areRuns 188 = .ok (.iload 9, 2) := by decide +kernel
theorem dL_areRuns_190 : decode cL_areRuns 190 = .ok (.aload 4, 2) := by decide +kernel
theorem dL_areRuns_192 : decode cL_areRuns 192 = .ok (.invokestatic 116, 3) := by decide +kernel
theorem dL_areRuns_195 : decode cL_areRuns 195 = .ok (.ifCond .ne 20, 3) := by decide +kernel
theorem dL_areRuns_198 : decode cL_areRuns 198 = .ok (.aload 4, 2) := by decide +kernel
theorem dL_areRuns_200 : decode cL_areRuns 200 = .ok (.iconst 0, 1) := by decide +kernel
theorem dL_areRuns_201 : decode cL_areRuns 201 = .ok (.iaload, 1) := by decide +kernel
theorem dL_areRuns_202 : decode cL_areRuns 202 = .ok (.aload_n 1, 1) := by decide +kernel
theorem dL_areRuns_203 : decode cL_areRuns 203 = .ok (.aload_n 2, 1) := by decide +kernel
theorem dL_areRuns_204 : decode cL_areRuns 204 = .ok (.iconst 1, 1) := by decide +kernel
theorem dL_areRuns_205 : decode cL_areRuns 205 = .ok (.iload 7, 2) := by decide +kernel
theorem dL_areRuns_207 : decode cL_areRuns 207 = .ok (.iload 9, 2) := by decide +kernel
theorem dL_areRuns_209 : decode cL_areRuns 209 = .ok (.invokestatic 36, 3) := by decide +kernel
theorem dL_areRuns_212 : decode cL_areRuns 212 = .ok (.if_icmp .eq 5, 3) := by decide +kernel
theorem dL_areRuns_215 : decode cL_areRuns 215 = .ok (.iconst 0, 1) := by decide +kernel
theorem dL_areRuns_216 : decode cL_areRuns 216 = .ok (.ireturn, 1) := by decide +kernel
theorem dL_areRuns_217 : decode cL_areRuns 217 = .ok (.iinc 9 1, 3) := by decide +kernel
theorem dL_areRuns_220 : decode cL_areRuns 220 = .ok (.goto (-42), 3) := by decide +kernel
theorem dL_areRuns_223 : decode cL_areRuns 223 = .ok (.aload_n 0, 1) := by decide +kernel
theorem dL_areRuns_224 : decode cL_areRuns 224 = .ok (.iload 7, 2) := by decide +kernel
theorem dL_areRuns_226 : decode cL_areRuns 226 = .ok (.iload 8, 2) := by decide +kernel
theorem dL_areRuns_228 : decode cL_areRuns 228 = .ok (.aload 4, 2) := by decide +kernel
theorem dL_areRuns_230 : decode cL_areRuns 230 = .ok (.invokestatic 116, 3) := by decide +kernel
theorem dL_areRuns_233 : decode cL_areRuns 233 = .ok (.iconst 2, 1) := by decide +kernel
theorem dL_areRuns_234 : decode cL_areRuns 234 = .ok (.if_icmp .eq 5, 3) := by decide +kernel
theorem dL_areRuns_237 : decode cL_areRuns 237 = .ok (.iconst 0, 1) := by decide +kernel
theorem dL_areRuns_238 : decode cL_areRuns 238 = .ok (.ireturn, 1) := by decide +kernel
theorem dL_areRuns_239 : decode cL_areRuns 239 = .ok (.iinc 6 1, 3) := by decide +kernel
theorem dL_areRuns_242 : decode cL_areRuns 242 = .ok (.goto (-227), 3) := by decide +kernel
theorem dL_areRuns_245 : decode cL_areRuns 245 = .ok (.aload_n 0, 1) := by decide +kernel
theorem dL_areRuns_246 : decode cL_areRuns 246 = .ok (.iload 5, 2) := by decide +kernel
theorem dL_areRuns_248 : decode cL_areRuns 248 = .ok (.aload 4, 2) := by decide +kernel
theorem dL_areRuns_250 : decode cL_areRuns 250 = .ok (.invokestatic 111, 3) := by decide +kernel
theorem dL_areRuns_253 : decode cL_areRuns 253 = .ok (.iconst 1, 1) := by decide +kernel
theorem dL_areRuns_254 : decode cL_areRuns 254 = .ok (.if_icmp .ne 32, 3) := by decide +kernel
theorem dL_areRuns_257 : decode cL_areRuns 257 = .ok (.aload_n 0, 1) := by decide +kernel
theorem dL_areRuns_258 : decode cL_areRuns 258 = .ok (.iconst (-1), 1) := by decide +kernel
theorem dL_areRuns_259 : decode cL_areRuns 259 = .ok (.aload 4, 2) := by decide +kernel
theorem dL_areRuns_261 : decode cL_areRuns 261 = .ok (.invokestatic 111, 3) := by decide +kernel
theorem dL_areRuns_264 : decode cL_areRuns 264 = .ok (.iconst 1, 1) := by decide +kernel
theorem dL_areRuns_265 : decode cL_areRuns 265 = .ok (.if_icmp .ne 21, 3) := by decide +kernel
theorem dL_areRuns_268 : decode cL_areRuns 268 = .ok (.aload_n 0, 1) := by decide +kernel
theorem dL_areRuns_269 : decode cL_areRuns 269 = .ok (.aload_n 2, 1) := by decide +kernel
theorem dL_areRuns_270 : decode cL_areRuns 270 = .ok (.iconst 3, 1) := by decide +kernel
theorem dL_areRuns_271 : decode cL_areRuns 271 = .ok (.iaload, 1) := by decide +kernel
theorem dL_areRuns_272 : decode cL_areRuns 272 = .ok (.iconst 0, 1) := by decide +kernel
theorem dL_areRuns_273 : decode cL_areRuns 273 = .ok (.aload 4, 2) := by decide +kernel
theorem dL_areRuns_275 : decode cL_areRuns 275 = .ok (.invokestatic 116, 3) := by decide +kernel
theorem dL_areRuns_278 : decode cL_areRuns 278 = .ok (.iconst 1, 1) := by decide +kernel
theorem dL_areRuns_279 : decode cL_areRuns 279 = .ok (.if_icmp .ne 7, 3) := by decide +kernel
theorem dL_areRuns_282 : decode cL_areRuns 282 = .ok (.iconst 1, 1) := by decide +kernel
theorem dL_areRuns_283 : decode cL_areRuns 283 = .ok (.goto 4, 3) := by decide +kernel
theorem dL_areRuns_286 : decode cL_areRuns 286 = .ok (.iconst 0, 1) := by decide +kernel
theorem dL_areRuns_287 : decode cL_areRuns 287 = .ok (.ireturn, 1) := by decide +kernel
theorem dL_areValues_0 : decode cL_areValues 0 = .ok (.iconst 1, 1) := by decide +kernel
theorem dL_areValues_1 : decode cL_areValues 1 = .ok (.newarray .int, 2) := by decide +kernel
theorem dL_areValues_3 : decode cL_areValues 3 = .ok (.astore 4, 2) := by decide +kernel
theorem dL_areValues_5 : decode cL_areValues 5 = .ok (.aload_n 1, 1) := by decide +kernel
theorem dL_areValues_6 : decode cL_areValues 6 = .ok (.aload_n 2, 1) := by decide +kernel
theorem dL_areValues_7 : decode cL_areValues 7 = .ok (.iconst 0, 1) := by decide +kernel
theorem dL_areValues_8 : decode cL_areValues 8 = .ok (.iconst (-1), 1) := by decide +kernel
theorem dL_areValues_9 : decode cL_areValues 9 = .ok (.invokestatic 32, 3) := by decide +kernel
theorem dL_areValues_12 : decode cL_areValues 12 = .ok (.istore 5, 2) := by decide +kernel
theorem dL_areValues_14 : decode cL_areValues 14 = .ok (.aload_n 1, 1) := by decide +kernel
theorem dL_areValues_15 : decode cL_areValues 15 = .ok (.aload_n 2, 1) := by decide +kernel
theorem dL_areValues_16 : decode cL_areValues 16 = .ok (.iconst 2, 1) := by decide +kernel
theorem dL_areValues_17 : decode cL_areValues 17 = .ok (.iconst (-1), 1) := by decide +kernel
theorem dL_areValues_18 : decode cL_areValues 18 = .ok (.invokestatic 32, 3) := by decide +kernel
theorem dL_areValues_21 : decode cL_areValues 21 = .ok (.istore 6, 2) := by decide +kernel
theorem dL_areValues_23 : decode cL_areValues 23 = .ok (.iconst 0, 1) := by decide +kernel
theorem dL_areValues_24 : decode cL_areValues 24 = .ok (.istore 7, 2) := by decide +kernel
theorem dL_areValues_26 : decode cL_areValues 26 = .ok (.iload 7, 2) := by decide +kernel
theorem dL_areValues_28 : decode cL_areValues 28 = .ok (.iload 6, 2) := by decide +kernel
theorem dL_areValues_30 : decode cL_areValues 30 = .ok (.if_icmp .ge 38, 3) := by decide +kernel
theorem dL_areValues_33 : decode cL_areValues 33 = .ok (.aload_n 0, 1) := by decide +kernel
theorem dL_areValues_34 : decode cL_areValues 34 = .ok (.iload 7, 2) := by decide +kernel
theorem dL_areValues_36 : decode cL_areValues 36 = .ok (.aload 4, 2) := by decide +kernel
theorem dL_areValues_38 : decode cL_areValues 38 = .ok (.invokestatic 118, 3) := by decide +kernel
theorem dL_areValues_41 : decode cL_areValues 41 = .ok (.ifCond .ne 19, 3) := by decide +kernel
theorem dL_areValues_44 : decode cL_areValues 44 = .ok (.aload 4, 2) := by decide +kernel
theorem dL_areValues_46 : decode cL_areValues 46 = .ok (.iconst 0, 1) := by decide +kernel
theorem dL_areValues_47 : decode cL_areValues 47 = .ok (.iaload, 1) := by decide +kernel
theorem dL_areValues_48 : decode cL_areValues 48 = .ok (.aload_n 1, 1) := by decide +kernel
theorem dL_areValues_49 : decode cL_areValues 49 = .ok (.aload_n 2, 1) := by decide +kernel
theorem dL_areValues_50 : decode cL_areValues 50 = .ok (.iconst 2, 1) := by decide +kernel
theorem dL_areValues_51 : decode cL_areValues 51 = .ok (.iconst (-1), 1) := by decide +kernel
theorem dL_areValues_52 : decode cL_areValues 52 = .ok (.iload 7, 2) := by decide +kernel
theorem dL_areValues_54 : decode cL_areValues 54 = .ok (.invokestatic 36, 3) := by decide +kernel
theorem dL_areValues_57 : decode cL_areValues 57 = .ok (.if_icmp .eq 5, 3) := by decide +kernel
theorem dL_areValues_60 : decode cL_areValues 60 = .ok (.iconst 0, 1) := by decide +kernel
theorem dL_areValues_61 : decode cL_areValues 61 = .ok (.ireturn, 1) := by decide +kernel
theorem dL_areValues_62 : decode cL_areValues 62 = .ok (.iinc 7 1, 3) := by decide +kernel
theorem dL_areValues_65 : decode cL_areValues 65 = .ok (.goto (-39), 3) := by decide +kernel
theorem dL_areValues_68 : decode cL_areValues 68 = .ok (.aload_n 0, 1) := by decide +kernel
theorem dL_areValues_69 : decode cL_areValues 69 = .ok (.iload 6, 2) := by decide +kernel
theorem dL_areValues_71 : decode cL_areValues 71 = .ok (.aload 4, 2) := by decide +kernel
theorem dL_areValues_73 : decode cL_areValues 73 = .ok (.invokestatic 118, 3) := by decide +kernel
theorem dL_areValues_76 : decode cL_areValues 76 = .ok (.iconst 1, 1) := by decide +kernel
theorem dL_areValues_77 : decode cL_areValues 77 = .ok (.if_icmp .ne 69, 3) := by decide +kernel
theorem dL_areValues_80 : decode cL_areValues 80 = .ok (.aload_n 0, 1) := by decide +kernel
theorem dL_areValues_81 : decode cL_areValues 81 = .ok (.iconst 0, 1) := by decide +kernel
theorem dL_areValues_82 : decode cL_areValues 82 = .ok (.invokevirtual 120, 3) := by decide +kernel
theorem dL_areValues_85 : decode cL_areValues 85 = .ok (.aload_n 2, 1) := by decide +kernel
theorem dL_areValues_86 : decode cL_areValues 86 = .ok (.iconst 1, 1) := by decide +kernel
theorem dL_areValues_87 : decode cL_areValues 87 = .ok (.iaload, 1) := by decide +kernel
theorem dL_areValues_88 : decode cL_areValues 88 = .ok (.if_icmp .ne 58, 3) := by decide +kernel
theorem dL_areValues_91 : decode cL_areValues 91 = .ok (.aload_n 0, 1) := by decide +kernel
theorem dL_areValues_92 : decode cL_areValues 92 = .ok (.iconst 1, 1) := by decide +kernel
theorem dL_areValues_93 : decode cL_areValues 93 = .ok (.invokevirtual 120, 3) := by decide +kernel
theorem dL_areValues_96 : decode cL_areValues 96 = .ok (.iload 5, 2) := by decide +kernel
theorem dL_areValues_98 : decode cL_areValues 98 = .ok (.if_icmp .ne 48, 3) := by decide +kernel
theorem dL_areValues_101 : decode cL_areValues 101 = .ok (.aload_n 0, 1) := by decide +kernel
theorem dL_areValues_102 : decode cL_areValues 102 = .ok (.iconst 2, 1) := by decide +kernel
theorem dL_areValues_103 : decode cL_areValues 103 = .ok (.invokevirtual 120, 3) := by decide +kernel
theorem dL_areValues_106 : decode cL_areValues 106 = .ok (.aload_n 2, 1) := by decide +kernel
theorem dL_areValues_107 : decode cL_areValues 107 = .ok (.iconst 0, 1) := by decide +kernel
theorem dL_areValues_108 : decode cL_areValues 108 = .ok (.iaload, 1) := by decide +kernel
theorem dL_areValues_109 : decode cL_areValues 109 = .ok (.if_icmp .ne 37, 3) := by decide +kernel
theorem dL_areValues_112 : decode cL_areValues 112 = .ok (.aload_n 0, 1) := by decide +kernel
theorem dL_areValues_113 : decode cL_areValues 113 = .ok (.iconst 3, 1) := by decide +kernel
theorem dL_areValues_114 : decode cL_areValues 114 = .ok (.invokevirtual 120, 3) := by decide +kernel
theorem dL_areValues_117 : decode cL_areValues 117 = .ok (.aload_n 2, 1) := by decide +kernel
theorem dL_areValues_118 : decode cL_areValues 118 = .ok (.aload_n 3, 1) := by decide +kernel
theorem dL_areValues_119 : decode cL_areValues 119 = .ok (.invokestatic 105, 3) := by decide +kernel
theorem dL_areValues_122 : decode cL_areValues 122 = .ok (.if_icmp .ne 24, 3) := by decide +kernel
theorem dL_areValues_125 : decode cL_areValues 125 = .ok (.aload_n 0, 1) := by decide +kernel
theorem dL_areValues_126 : decode cL_areValues 126 = .ok (.iconst 4, 1) := by decide +kernel
theorem dL_areValues_127 : decode cL_areValues 127 = .ok (.invokevirtual 120, 3) := by decide +kernel
theorem dL_areValues_130 : decode cL_areValues 130 = .ok (.aload_n 2, 1) := by decide +kernel
theorem dL_areValues_131 : decode cL_areValues 131 = .ok (.iconst 0, 1) := by decide +kernel
theorem dL_areValues_132 : decode cL_areValues 132 = .ok (.iaload, 1) := by decide +kernel
theorem dL_areValues_133 : decode cL_areValues 133 = .ok (.iload 5, 2) := by decide +kernel
theorem dL_areValues_135 : decode cL_areValues 135 = .ok (.isub, 1) := by decide +kernel
theorem dL_areValues_136 : decode cL_areValues 136 = .ok (.iload 6, 2) := by decide +kernel
theorem dL_areValues_138 : decode cL_areValues 138 = .ok (.isub, 1) := by decide +kernel
theorem dL_areValues_139 : decode cL_areValues 139 = .ok (.if_icmp .ne 7, 3) := by decide +kernel
theorem dL_areValues_142 : decode cL_areValues 142 = .ok (.iconst 1, 1) := by decide +kernel
theorem dL_areValues_143 : decode cL_areValues 143 = .ok (.goto 4, 3) := by decide +kernel
theorem dL_areValues_146 : decode cL_areValues 146 = .ok (.iconst 0, 1) := by decide +kernel
theorem dL_areValues_147 : decode cL_areValues 147 = .ok (.istore 7, 2) := by decide +kernel
theorem dL_areValues_149 : decode cL_areValues 149 = .ok (.iload 7, 2) := by decide +kernel
theorem dL_areValues_151 : decode cL_areValues 151 = .ok (.ifCond .eq 91, 3) := by decide +kernel
theorem dL_areValues_154 : decode cL_areValues 154 = .ok (.aload_n 0, 1) := by decide +kernel
theorem dL_areValues_155 : decode cL_areValues 155 = .ok (.iconst 5, 1) := by decide +kernel
theorem dL_areValues_156 : decode cL_areValues 156 = .ok (.invokevirtual 120, 3) := by decide +kernel
theorem dL_areValues_159 : decode cL_areValues 159 = .ok (.iload 6, 2) := by decide +kernel
theorem dL_areValues_161 : decode cL_areValues 161 = .ok (.if_icmp .ne 81, 3) := by decide +kernel
theorem dL_areValues_164 : decode cL_areValues 164 = .ok (.aload_n 0, 1) := by decide +kernel
theorem dL_areValues_165 : decode cL_areValues 165 = .ok (.bipush 6, 2) := by decide +kernel
theorem dL_areValues_167 : decode cL_areValues 167 = .ok (.invokevirtual 120, 3) := by decide +kernel
theorem dL_areValues_170 : decode cL_areValues 170 = .ok (.aload_n 2, 1) := by decide +kernel
theorem dL_areValues_171 : decode cL_areValues 171 = .ok (.iconst 4, 1) := by decide +kernel
theorem dL_areValues_172 : decode cL_areValues 172 = .ok (.iaload, 1) := by decide +kernel
theorem dL_areValues_173 : decode cL_areValues 173 = .ok (.if_icmp .ne 69, 3) := by decide +kernel
theorem dL_areValues_176 : decode cL_areValues 176 = .ok (.aload_n 0, 1) := by decide +kernel
theorem dL_areValues_177 : decode cL_areValues 177 = .ok (.bipush 7, 2) := by decide +kernel
theorem dL_areValues_179 : decode cL_areValues 179 = .ok (.invokevirtual 120, 3) := by decide +kernel
theorem dL_areValues_182 : decode cL_areValues 182 = .ok (.aload_n 2, 1) := by decide +kernel
theorem dL_areValues_183 : decode cL_areValues 183 = .ok (.iconst 5, 1) := by decide +kernel
theorem dL_areValues_184 : decode cL_areValues 184 = .ok (.iaload, 1) := by decide +kernel
theorem dL_areValues_185 : decode cL_areValues 185 = .ok (.if_icmp .ne 57, 3) := by decide +kernel
theorem dL_areValues_188 : decode cL_areValues 188 = .ok (.aload_n 0, 1) := by decide +kernel
theorem dL_areValues_189 : decode cL_areValues 189 = .ok (.bipush 8, 2) := by decide +kernel
theorem dL_areValues_191 : decode cL_areValues 191 = .ok (.invokevirtual 120, 3) := by decide +kernel
theorem dL_areValues_194 : decode cL_areValues 194 = .ok (.aload_n 2, 1) := by decide +kernel
theorem dL_areValues_195 : decode cL_areValues 195 = .ok (.bipush 6, 2) := by decide +kernel
theorem dL_areValues_197 : decode cL_areValues 197 = .ok (.iaload, 1) := by decide +kernel
theorem dL_areValues_198 : decode cL_areValues 198 = .ok (.if_icmp .ne 44, 3) := by decide +kernel
theorem dL_areValues_201 : decode cL_areValues 201 = .ok (.aload_n 0, 1) := by decide +kernel
theorem dL_areValues_202 : decode cL_areValues 202 = .ok (.bipush 9, 2) := by decide +kernel
theorem dL_areValues_204 : decode cL_areValues 204 = .ok (.invokevirtual 120, 3) := by decide +kernel
theorem dL_areValues_207 : decode cL_areValues 207 = .ok (.aload_n 2, 1) := by decide +kernel
theorem dL_areValues_208 : decode cL_areValues 208 = .ok (.bipush 7, 2) := by decide +kernel
theorem dL_areValues_210 : decode cL_areValues 210 = .ok (.iaload, 1) := by decide +kernel
theorem dL_areValues_211 : decode cL_areValues 211 = .ok (.if_icmp .ne 31, 3) := by decide +kernel
theorem dL_areValues_214 : decode cL_areValues 214 = .ok (.aload_n 0, 1) := by decide +kernel
theorem dL_areValues_215 : decode cL_areValues 215 = .ok (.bipush 10, 2) := by decide +kernel
theorem dL_areValues_217 : decode cL_areValues 217 = .ok (.invokevirtual 120, 3) := by decide +kernel
theorem dL_areValues_220 : decode cL_areValues 220 = .ok (.aload_n 2, 1) := by decide +kernel
theorem dL_areValues_221 : decode cL_areValues 221 = .ok (.iconst 2, 1) := by decide +kernel
theorem dL_areValues_222 : decode cL_areValues 222 = .ok (.iaload, 1) := by decide +kernel
theorem dL_areValues_223 : decode cL_areValues 223 = .ok (.if_icmp .ne 19, 3) := by decide +kernel
theorem dL_areValues_226 : decode cL_areValues 226 = .ok (.aload_n 0, 1) := by decide +kernel
theorem dL_areValues_227 : decode cL_areValues 227 = .ok (.bipush 11, 2) := by decide +kernel
theorem dL_areValues_229 : decode cL_areValues 229 = .ok (.invokevirtual 120, 3) := by decide +kernel
theorem dL_areValues_232 : decode cL_areValues 232 = .ok (.aload_n 2, 1) := by decide +kernel
theorem dL_areValues_233 : decode cL_areValues 233 = .ok (.iconst 3, 1) := by decide +kernel
theorem dL_areValues_234 : decode cL_areValues 234 = .ok (.iaload, 1) := by decide +kernel
theorem dL_areValues_235 : decode cL_areValues 235 = .ok (.if_icmp .ne 7, 3) := by decide +kernel
theorem dL_areValues_238 : decode cL_areValues 238 = .ok (.iconst 1, 1) := by decide +kernel
theorem dL_areValues_239 : decode cL_areValues 239 = .ok (.goto 4, 3) := by decide +kernel
theorem dL_areValues_242 : decode cL_areValues 242 = .ok (.iconst 0, 1) := by decide +kernel
theorem dL_areValues_243 : decode cL_areValues 243 = .ok (.istore 7, 2) := by decide +kernel
theorem dL_areValues_245 : decode cL_areValues 245 = .ok (.iload 7, 2) := by decide +kernel
theorem dL_areValues_247 : decode cL_areValues 247 = .ok (.ifCond .eq 19, 3) := by decide +kernel
theorem dL_areValues_250 : decode cL_areValues 250 = .ok (.aload_n 0, 1) := by decide +kernel
theorem dL_areValues_251 : decode cL_areValues 251 = .ok (.invokevirtual 123, 3) := by decide +kernel
theorem dL_areValues_254 : decode cL_areValues 254 = .ok (.aload_n 1, 1) := by decide +kernel
theorem dL_areValues_255 : decode cL_areValues 255 = .ok (.aload_n 2, 1) := by decide +kernel
theorem dL_areValues_256 : decode cL_areValues 256 = .ok (.invokestatic 44, 3) := by decide +kernel
theorem dL_areValues_259 : decode cL_areValues 259 = .ok (.if_icmp .ne 7, 3) := by decide +kernel
theorem dL_areValues_262 : decode cL_areValues 262 = .ok (.iconst 1, 1) := by decide +kernel
theorem dL_areValues_263 : decode cL_areValues 263 = .ok (.goto 4, 3) := by decide +kernel
theorem dL_areValues_266 : decode cL_areValues 266 = .ok (.iconst 0, 1) := by decide +kernel
theorem dL_areValues_267 : decode cL_areValues 267 = .ok (.ireturn, 1) := by decide +kernel
theorem dL_isLoaded_0 : decode cL_isLoaded 0 = .ok (.iconst 1, 1) := by decide +kernel
theorem dL_isLoaded_1 : decode cL_isLoaded 1 = .ok (.newarray .int, 2) := by decide +kernel
theorem dL_isLoaded_3 : decode cL_isLoaded 3 = .ok (.astore 5, 2) := by decide +kernel
theorem dL_isLoaded_5 : decode cL_isLoaded 5 = .ok (.iload 4, 2) := by decide +kernel
theorem dL_isLoaded_7 : decode cL_isLoaded 7 = .ok (.iload 4, 2) := by decide +kernel
theorem dL_isLoaded_9 : decode cL_isLoaded 9 = .ok (.bipush 20, 2) := by decide +kernel
theorem dL_isLoaded_11 : decode cL_isLoaded 11 = .ok (.ishr, 1) := by decide +kernel
theorem dL_isLoaded_12 : decode cL_isLoaded 12 = .ok (.iconst 2, 1) := by decide +kernel
theorem dL_isLoaded_13 : decode cL_isLoaded 13 = .ok (.invokestatic 126, 3) := by decide +kernel
theorem dL_isLoaded_16 : decode cL_isLoaded 16 = .ok (.ifCond .ne 8, 3) := by decide +kernel
theorem dL_isLoaded_19 : decode cL_isLoaded 19 = .ok (.bipush 8, 2) := by decide +kernel
theorem dL_isLoaded_21 : decode cL_isLoaded 21 = .ok (.goto 6, 3) := by decide +kernel
theorem dL_isLoaded_24 : decode cL_isLoaded 24 = .ok (.sipush 1000, 3) := by decide +kernel
theorem dL_isLoaded_27 : decode cL_isLoaded 27 = .ok (.invokestatic 126, 3) := by decide +kernel
theorem dL_isLoaded_30 : decode cL_isLoaded 30 = .ok (.istore 6, 2) := by decide +kernel
theorem dL_isLoaded_32 : decode cL_isLoaded 32 = .ok (.iconst 1, 1) := by decide +kernel
theorem dL_isLoaded_33 : decode cL_isLoaded 33 = .ok (.iload 4, 2) := by decide +kernel
theorem dL_isLoaded_35 : decode cL_isLoaded 35 = .ok (.bipush 10, 2) := by decide +kernel
theorem dL_isLoaded_37 : decode cL_isLoaded 37 = .ok (.ishr, 1) := by decide +kernel
theorem dL_isLoaded_38 : decode cL_isLoaded 38 = .ok (.bipush 50, 2) := by decide +kernel
theorem dL_isLoaded_40 : decode cL_isLoaded 40 = .ok (.invokestatic 126, 3) := by decide +kernel
theorem dL_isLoaded_43 : decode cL_isLoaded 43 = .ok (.iadd, 1) := by decide +kernel
theorem dL_isLoaded_44 : decode cL_isLoaded 44 = .ok (.istore 7, 2) := by decide +kernel
theorem dL_isLoaded_46 : decode cL_isLoaded 46 = .ok (.aload_n 2, 1) := by decide +kernel
theorem dL_isLoaded_47 : decode cL_isLoaded 47 = .ok (.iconst 0, 1) := by decide +kernel
theorem dL_isLoaded_48 : decode cL_isLoaded 48 = .ok (.iaload, 1) := by decide +kernel
theorem dL_isLoaded_49 : decode cL_isLoaded 49 = .ok (.bipush 59, 2) := by decide +kernel
theorem dL_isLoaded_51 : decode cL_isLoaded 51 = .ok (.if_icmp .gt 11, 3) := by decide +kernel
theorem dL_isLoaded_54 : decode cL_isLoaded 54 = .ok (.aload_n 2, 1) := by decide +kernel
theorem dL_isLoaded_55 : decode cL_isLoaded 55 = .ok (.iconst 3, 1) := by decide +kernel
theorem dL_isLoaded_56 : decode cL_isLoaded 56 = .ok (.iaload, 1) := by decide +kernel
theorem dL_isLoaded_57 : decode cL_isLoaded 57 = .ok (.bipush 60, 2) := by decide +kernel
theorem dL_isLoaded_59 : decode cL_isLoaded 59 = .ok (.if_icmp .le 24, 3) := by decide +kernel
theorem dL_isLoaded_62 : decode cL_isLoaded 62 = .ok (.aload_n 0, 1) := by decide +kernel
theorem dL_isLoaded_63 : decode cL_isLoaded 63 = .ok (.sipush 1000, 3) := by decide +kernel
theorem dL_isLoaded_66 : decode cL_isLoaded 66 = .ok (.iload 7, 2) := by decide +kernel
theorem dL_isLoaded_68 : decode cL_isLoaded 68 = .ok (.aload 5, 2) := by decide +kernel
theorem dL_isLoaded_70 : decode cL_isLoaded 70 = .ok (.invokestatic 129, 3) := by decide +kernel
theorem dL_isLoaded_73 : decode cL_isLoaded 73 = .ok (.iconst 1, 1) := by decide +kernel
theorem dL_isLoaded_74 : decode cL_isLoaded 74 = .ok (.if_icmp .ne 7, 3) := by decide +kernel
theorem dL_isLoaded_77 : decode cL_isLoaded 77 = .ok (.iconst 1, 1) := by decide +kernel
theorem dL_isLoaded_78 : decode cL_isLoaded 78 = .ok (.goto 4, 3) := by decide +kernel
theorem dL_isLoaded_81 : decode cL_isLoaded 81 = .ok (.iconst 0, 1) := by decide +kernel
theorem dL_isLoaded_82 : decode cL_isLoaded 82 = .ok (.ireturn, 1) := by decide +kernel
theorem dL_isLoaded_83 : decode cL_isLoaded 83 = .ok (.aload_n 0, 1) := by decide +kernel
theorem dL_isLoaded_84 : decode cL_isLoaded 84 = .ok (.iload 6, 2) := by decide +kernel
theorem dL_isLoaded_86 : decode cL_isLoaded 86 = .ok (.bipush 51, 2) := by decide +kernel
theorem dL_isLoaded_88 : decode cL_isLoaded 88 = .ok (.aload 5, 2) := by decide +kernel
theorem dL_isLoaded_90 : decode cL_isLoaded 90 = .ok (.invokestatic 129, 3) := by decide +kernel
theorem dL_isLoaded_93 : decode cL_isLoaded 93 = .ok (.iconst 1, 1) := by decide +kernel
theorem dL_isLoaded_94 : decode cL_isLoaded 94 = .ok (.if_icmp .ne 50, 3) := by decide +kernel
theorem dL_isLoaded_97 : decode cL_isLoaded 97 = .ok (.aload_n 0, 1) := by decide +kernel
theorem dL_isLoaded_98 : decode cL_isLoaded 98 = .ok (.iconst (-1), 1) := by decide +kernel
theorem dL_isLoaded_99 : decode cL_isLoaded 99 = .ok (.iload 7, 2) := by decide +kernel
theorem dL_isLoaded_101 : decode cL_isLoaded 101 = .ok (.aload 5, 2) := by decide +kernel
theorem dL_isLoaded_103 : decode cL_isLoaded 103 = .ok (.invokestatic 129, 3) := by decide +kernel
theorem dL_isLoaded_106 : decode cL_isLoaded 106 = .ok (.iconst 1, 1) := by decide +kernel
theorem dL_isLoaded_107 : decode cL_isLoaded 107 = .ok (.if_icmp .ne 37, 3) := by decide +kernel
theorem dL_isLoaded_110 : decode cL_isLoaded 110 = .ok (.aload_n 0, 1) := by decide +kernel
theorem dL_isLoaded_111 : decode cL_isLoaded 111 = .ok (.iload 6, 2) := by decide +kernel
theorem dL_isLoaded_113 : decode cL_isLoaded 113 = .ok (.iload 7, 2) := by decide +kernel
theorem dL_isLoaded_115 : decode cL_isLoaded 115 = .ok (.aload 5, 2) := by decide +kernel
theorem dL_isLoaded_117 : decode cL_isLoaded 117 = .ok (.invokestatic 129, 3) := by decide +kernel
theorem dL_isLoaded_120 : decode cL_isLoaded 120 = .ok (.ifCond .ne 24, 3) := by decide +kernel
theorem dL_isLoaded_123 : decode cL_isLoaded 123 = .ok (.aload 5, 2) := by decide +kernel
theorem dL_isLoaded_125 : decode cL_isLoaded 125 = .ok (.iconst 0, 1) := by decide +kernel
theorem dL_isLoaded_126 : decode cL_isLoaded 126 = .ok (.iaload, 1) := by decide +kernel
theorem dL_isLoaded_127 : decode cL_isLoaded 127 = .ok (.aload_n 1, 1) := by decide +kernel
theorem dL_isLoaded_128 : decode cL_isLoaded 128 = .ok (.aload_n 2, 1) := by decide +kernel
theorem dL_isLoaded_129 : decode cL_isLoaded 129 = .ok (.aload_n 3, 1) := by decide +kernel
theorem dL_isLoaded_130 : decode cL_isLoaded 130 = .ok (.iload 6, 2) := by decide +kernel
theorem dL_isLoaded_132 : decode cL_isLoaded 132 = .ok (.iload 7, 2) := by decide +kernel
theorem dL_isLoaded_134 : decode cL_isLoaded 134 = .ok (.invokestatic 131, 3) := by decide +kernel
theorem dL_isLoaded_137 : decode cL_isLoaded 137 = .ok (.if_icmp .ne 7, 3) := by decide +kernel
theorem dL_isLoaded_140 : decode cL_isLoaded 140 = .ok (.iconst 1, 1) := by decide +kernel
theorem dL_isLoaded_141 : decode cL_isLoaded 141 = .ok (.goto 4, 3) := by decide +kernel
theorem dL_isLoaded_144 : decode cL_isLoaded 144 = .ok (.iconst 0, 1) := by decide +kernel
theorem dL_isLoaded_145 : decode cL_isLoaded 145 = .ok (.ireturn, 1) := by decide +kernel
theorem dL_isStormy_0 : decode cL_isStormy 0 = .ok (.iconst 1, 1) := by decide +kernel
theorem dL_isStormy_1 : decode cL_isStormy 1 = .ok (.newarray .int, 2) := by decide +kernel
theorem dL_isStormy_3 : decode cL_isStormy 3 = .ok (.astore 5, 2) := by decide +kernel
theorem dL_isStormy_5 : decode cL_isStormy 5 = .ok (.iload 4, 2) := by decide +kernel
theorem dL_isStormy_7 : decode cL_isStormy 7 = .ok (.iconst 1, 1) := by decide +kernel
theorem dL_isStormy_8 : decode cL_isStormy 8 = .ok (.if_icmp .lt 24, 3) := by decide +kernel
theorem dL_isStormy_11 : decode cL_isStormy 11 = .ok (.iload 4, 2) := by decide +kernel
theorem dL_isStormy_13 : decode cL_isStormy 13 = .ok (.bipush 9, 2) := by decide +kernel
theorem dL_isStormy_15 : decode cL_isStormy 15 = .ok (.if_icmp .gt 17, 3) := by decide +kernel
theorem dL_isStormy_18 : decode cL_isStormy 18 = .ok (.aload_n 2, 1) := by decide +kernel
theorem dL_isStormy_19 : decode cL_isStormy 19 = .ok (.iconst 3, 1) := by decide +kernel
theorem dL_isStormy_20 : decode cL_isStormy 20 = .ok (.iaload, 1) := by decide +kernel
theorem dL_isStormy_21 : decode cL_isStormy 21 = .ok (.aload_n 2, 1) := by decide +kernel
theorem dL_isStormy_22 : decode cL_isStormy 22 = .ok (.aload_n 3, 1) := by decide +kernel
theorem dL_isStormy_23 : decode cL_isStormy 23 = .ok (.invokestatic 105, 3) := by decide +kernel
theorem dL_isStormy_26 : decode cL_isStormy 26 = .ok (.iadd, 1) := by decide +kernel
theorem dL_isStormy_27 : decode cL_isStormy 27 = .ok (.bipush 63, 2) := by decide +kernel
theorem dL_isStormy_29 : decode cL_isStormy 29 = .ok (.if_icmp .le 38, 3) := by decide +kernel
theorem dL_isStormy_32 : decode cL_isStormy 32 = .ok (.aload_n 0, 1) := by decide +kernel
theorem dL_isStormy_33 : decode cL_isStormy 33 = .ok (.iload 4, 2) := by decide +kernel
theorem dL_isStormy_35 : decode cL_isStormy 35 = .ok (.ifCond .le 15, 3) := by decide +kernel
theorem dL_isStormy_38 : decode cL_isStormy 38 = .ok (.iload 4, 2) := by decide +kernel
theorem dL_isStormy_40 : decode cL_isStormy 40 = .ok (.bipush 10, 2) := by decide +kernel
theorem dL_isStormy_42 : decode cL_isStormy 42 = .ok (.if_icmp .ge 8, 3) := by decide +kernel
theorem dL_isStormy_45 : decode cL_isStormy 45 = .ok (.bipush 10, 2) := by decide +kernel
theorem dL_isStormy_47 : decode cL_isStormy 47 = .ok (.goto 5, 3) := by decide +kernel
theorem dL_isStormy_50 : decode cL_isStormy 50 = .ok (.iload 4, 2) := by decide +kernel
theorem dL_isStormy_52 : decode cL_isStormy 52 = .ok (.aload 5, 2) := by decide +kernel
theorem dL_isStormy_54 : decode cL_isStormy 54 = .ok (.invokestatic 135, 3) := by decide +kernel
theorem dL_isStormy_57 : decode cL_isStormy 57 = .ok (.iconst 1, 1) := by decide +kernel
theorem dL_isStormy_58 : decode cL_isStormy 58 = .ok (.if_icmp .ne 7, 3) := by decide +kernel
theorem dL_isStormy_61 : decode cL_isStormy 61 = .ok (.iconst 1, 1) := by decide +kernel
theorem dL_isStormy_62 : decode cL_isStormy 62 = .ok (.goto 4, 3) := by decide +kernel
theorem dL_isStormy_65 : decode cL_isStormy 65 = .ok (.iconst 0, 1) := by decide +kernel
theorem dL_isStormy_66 : decode cL_isStormy 66 = .ok (.ireturn, 1) := by decide +kernel
theorem dL_isStormy_67 : decode cL_isStormy 67 = .ok (.aload_n 0, 1) := by decide +kernel
theorem dL_isStormy_68 : decode cL_isStormy 68 = .ok (.iload 4, 2) := by decide +kernel
theorem dL_isStormy_70 : decode cL_isStormy 70 = .ok (.aload 5, 2) := by decide +kernel
theorem dL_isStormy_72 : decode cL_isStormy 72 = .ok (.invokestatic 135, 3) := by decide +kernel
theorem dL_isStormy_75 : decode cL_isStormy 75 = .ok (.ifCond .ne 22, 3) := by decide +kernel
theorem dL_isStormy_78 : decode cL_isStormy 78 = .ok (.aload 5, 2) := by decide +kernel
theorem dL_isStormy_80 : decode cL_isStormy 80 = .ok (.iconst 0, 1) := by decide +kernel
theorem dL_isStormy_81 : decode cL_isStormy 81 = .ok (.iaload, 1) := by decide +kernel
theorem dL_isStormy_82 : decode cL_isStormy 82 = .ok (.aload_n 1, 1) := by decide +kernel
theorem dL_isStormy_83 : decode cL_isStormy 83 = .ok (.aload_n 2, 1) := by decide +kernel
theorem dL_isStormy_84 : decode cL_isStormy 84 = .ok (.aload_n 3, 1) := by decide +kernel
theorem dL_isStormy_85 : decode cL_isStormy 85 = .ok (.iload 4, 2) := by decide +kernel
theorem dL_isStormy_87 : decode cL_isStormy 87 = .ok (.invokestatic 137, 3) := by decide +kernel
theorem dL_isStormy_90 : decode cL_isStormy 90 = .ok (.if_icmp .ne 7, 3) := by decide +kernel
theorem dL_isStormy_93 : decode cL_isStormy 93 = .ok (.iconst 1, 1) := by decide +kernel
theorem dL_isStormy_94 : decode cL_isStormy 94 = .ok (.goto 4, 3) := by decide +kernel
theorem dL_isStormy_97 : decode cL_isStormy 97 = .ok (.iconst 0, 1) := by decide +kernel
theorem dL_isStormy_98 : decode cL_isStormy 98 = .ok (.ireturn, 1) := by decide +kernel
theorem dL_isMerged_0 : decode cL_isMerged 0 = .ok (.iconst 1, 1) := by decide +kernel
theorem dL_isMerged_1 : decode cL_isMerged 1 = .ok (.newarray .int, 2) := by decide +kernel
theorem dL_isMerged_3 : decode cL_isMerged 3 = .ok (.astore 5, 2) := by decide +kernel
theorem dL_isMerged_5 : decode cL_isMerged 5 = .ok (.aload_n 2, 1) := by decide +kernel
theorem dL_isMerged_6 : decode cL_isMerged 6 = .ok (.aload_n 3, 1) := by decide +kernel
theorem dL_isMerged_7 : decode cL_isMerged 7 = .ok (.invokestatic 105, 3) := by decide +kernel
theorem dL_isMerged_10 : decode cL_isMerged 10 = .ok (.istore 6, 2) := by decide +kernel
theorem dL_isMerged_12 : decode cL_isMerged 12 = .ok (.iload 6, 2) := by decide +kernel
theorem dL_isMerged_14 : decode cL_isMerged 14 = .ok (.iconst 2, 1) := by decide +kernel
theorem dL_isMerged_15 : decode cL_isMerged 15 = .ok (.if_icmp .ge 35, 3) := by decide +kernel
theorem dL_isMerged_18 : decode cL_isMerged 18 = .ok (.aload_n 0, 1) := by decide +kernel
theorem dL_isMerged_19 : decode cL_isMerged 19 = .ok (.aload 5, 2) := by decide +kernel
theorem dL_isMerged_21 : decode cL_isMerged 21 = .ok (.invokestatic 141, 3) := by decide +kernel
theorem dL_isMerged_24 : decode cL_isMerged 24 = .ok (.iconst 1, 1) := by decide +kernel
theorem dL_isMerged_25 : decode cL_isMerged 25 = .ok (.if_icmp .ne 23, 3) := by decide +kernel
theorem dL_isMerged_28 : decode cL_isMerged 28 = .ok (.aload_n 0, 1) := by decide +kernel
theorem dL_isMerged_29 : decode cL_isMerged 29 = .ok (.aload_n 2, 1) := by decide +kernel
theorem dL_isMerged_30 : decode cL_isMerged 30 = .ok (.iconst 3, 1) := by decide +kernel
theorem dL_isMerged_31 : decode cL_isMerged 31 = .ok (.iaload, 1) := by decide +kernel
theorem dL_isMerged_32 : decode cL_isMerged 32 = .ok (.aload_n 2, 1) := by decide +kernel
theorem dL_isMerged_33 : decode cL_isMerged 33 = .ok (.iconst 3, 1) := by decide +kernel
theorem dL_isMerged_34 : decode cL_isMerged 34 = .ok (.iaload, 1) := by decide +kernel
theorem dL_isMerged_35 : decode cL_isMerged 35 = .ok (.aload 5, 2) := by decide +kernel
theorem dL_isMerged_37 : decode cL_isMerged 37 = .ok (.invokestatic 144, 3) := by decide +kernel
theorem dL_isMerged_40 : decode cL_isMerged 40 = .ok (.iconst 1, 1) := by decide +kernel
theorem dL_isMerged_41 : decode cL_isMerged 41 = .ok (.if_icmp .ne 7, 3) := by decide +kernel
theorem dL_isMerged_44 : decode cL_isMerged 44 = .ok (.iconst 1, 1) := by decide +kernel
theorem dL_isMerged_45 : decode cL_isMerged 45 = .ok (.goto 4, 3) := by decide +kernel
theorem dL_isMerged_48 : decode cL_isMerged 48 = .ok (.iconst 0, 1) := by decide +kernel
theorem dL_isMerged_49 : decode cL_isMerged 49 = .ok (.ireturn, 1) := by decide +kernel
theorem dL_isMerged_50 : decode cL_isMerged 50 = .ok (.iload 4, 2) := by decide +kernel
theorem dL_isMerged_52 : decode cL_isMerged 52 = .ok (.iconst 2, 1) := by decide +kernel
theorem dL_isMerged_53 : decode cL_isMerged 53 = .ok (.invokestatic 126, 3) := by decide +kernel
theorem dL_isMerged_56 : decode cL_isMerged 56 = .ok (.ifCond .ne 69, 3) := by decide +kernel
theorem dL_isMerged_59 : decode cL_isMerged 59 = .ok (.aload_n 1, 1) := by decide +kernel
theorem dL_isMerged_60 : decode cL_isMerged 60 = .ok (.aload_n 2, 1) := by decide +kernel
theorem dL_isMerged_61 : decode cL_isMerged 61 = .ok (.aload_n 3, 1) := by decide +kernel
theorem dL_isMerged_62 : decode cL_isMerged 62 = .ok (.iconst (-1), 1) := by decide +kernel
theorem dL_isMerged_63 : decode cL_isMerged 63 = .ok (.invokestatic 146, 3) := by decide +kernel
theorem dL_isMerged_66 : decode cL_isMerged 66 = .ok (.istore 7, 2) := by decide +kernel
theorem dL_isMerged_68 : decode cL_isMerged 68 = .ok (.aload_n 1, 1) := by decide +kernel
theorem dL_isMerged_69 : decode cL_isMerged 69 = .ok (.aload_n 2, 1) := by decide +kernel
theorem dL_isMerged_70 : decode cL_isMerged 70 = .ok (.aload_n 3, 1) := by decide +kernel
theorem dL_isMerged_71 : decode cL_isMerged 71 = .ok (.iload 7, 2) := by decide +kernel
theorem dL_isMerged_73 : decode cL_isMerged 73 = .ok (.invokestatic 146, 3) := by decide +kernel
theorem dL_isMerged_76 : decode cL_isMerged 76 = .ok (.istore 8, 2) := by decide +kernel
theorem dL_isMerged_78 : decode cL_isMerged 78 = .ok (.aload_n 1, 1) := by decide +kernel
theorem dL_isMerged_79 : decode cL_isMerged 79 = .ok (.aload_n 2, 1) := by decide +kernel
theorem dL_isMerged_80 : decode cL_isMerged 80 = .ok (.aload_n 3, 1) := by decide +kernel
theorem dL_isMerged_81 : decode cL_isMerged 81 = .ok (.iload 7, 2) := by decide +kernel
theorem dL_isMerged_83 : decode cL_isMerged 83 = .ok (.iload 8, 2) := by decide +kernel
theorem dL_isMerged_85 : decode cL_isMerged 85 = .ok (.invokestatic 149, 3) := by decide +kernel
theorem dL_isMerged_88 : decode cL_isMerged 88 = .ok (.pop, 1) := by decide +kernel
theorem dL_isMerged_89 : decode cL_isMerged 89 = .ok (.aload_n 0, 1) := by decide +kernel
theorem dL_isMerged_90 : decode cL_isMerged 90 = .ok (.aload 5, 2) := by decide +kernel
theorem dL_isMerged_92 : decode cL_isMerged 92 = .ok (.invokestatic 141, 3) := by decide +kernel
theorem dL_isMerged_95 : decode cL_isMerged 95 = .ok (.ifCond .ne 28, 3) := by decide +kernel
theorem dL_isMerged_98 : decode cL_isMerged 98 = .ok (.aload 5, 2) := by decide +kernel
theorem dL_isMerged_100 : decode cL_isMerged 100 = .ok (.iconst 0, 1) := by decide +kernel
theorem dL_isMerged_101 : decode cL_isMerged 101 = .ok (.iaload, 1) := by decide +kernel
theorem dL_isMerged_102 : decode cL_isMerged 102 = .ok (.iload 7, 2) := by decide +kernel
theorem dL_isMerged_104 : decode cL_isMerged 104 = .ok (.iload 8, 2) := by decide +kernel
theorem dL_isMerged_106 : decode cL_isMerged 106 = .ok (.if_icmp .ge 8, 3) := by decide +kernel
theorem dL_isMerged_109 : decode cL_isMerged 109 = .ok (.iload 7, 2) := by decide +kernel
theorem dL_isMerged_111 : decode cL_isMerged 111 = .ok (.goto 5, 3) := by decide +kernel
theorem dL_isMerged_114 : decode cL_isMerged 114 = .ok (.iload 8, 2) := by decide +kernel
theorem dL_isMerged_116 : decode cL_isMerged 116 = .ok (.if_icmp .ne 7, 3) := by decide +kernel
theorem dL_isMerged_119 : decode cL_isMerged 119 = .ok (.iconst 1, 1) := by decide +kernel
theorem dL_isMerged_120 : decode cL_isMerged 120 = .ok (.goto 4, 3) := by decide +kernel
theorem dL_isMerged_123 : decode cL_isMerged 123 = .ok (.iconst 0, 1) := by decide +kernel
theorem dL_isMerged_124 : decode cL_isMerged 124 = .ok (.ireturn, 1) := by decide +kernel
theorem dL_isMerged_125 : decode cL_isMerged 125 = .ok (.aload_n 2, 1) := by decide +kernel
theorem dL_isMerged_126 : decode cL_isMerged 126 = .ok (.aload_n 3, 1) := by decide +kernel
theorem dL_isMerged_127 : decode cL_isMerged 127 = .ok (.iload 4, 2) := by decide +kernel
theorem dL_isMerged_129 : decode cL_isMerged 129 = .ok (.iconst 3, 1) := by decide +kernel
theorem dL_isMerged_130 : decode cL_isMerged 130 = .ok (.ishr, 1) := by decide +kernel
theorem dL_isMerged_131 : decode cL_isMerged 131 = .ok (.iload 6, 2) := by decide +kernel
theorem dL_isMerged_133 : decode cL_isMerged 133 = .ok (.invokestatic 126, 3) := by decide +kernel
theorem dL_isMerged_136 : decode cL_isMerged 136 = .ok (.invokestatic 108, 3) := by decide +kernel
theorem dL_isMerged_139 : decode cL_isMerged 139 = .ok (.istore 7, 2) := by decide +kernel
theorem dL_isMerged_141 : decode cL_isMerged 141 = .ok (.aload_n 2, 1) := by decide +kernel
theorem dL_isMerged_142 : decode cL_isMerged 142 = .ok (.aload_n 3, 1) := by decide +kernel
theorem dL_isMerged_143 : decode cL_isMerged 143 = .ok (.iload 4, 2) := by decide +kernel
theorem dL_isMerged_145 : decode cL_isMerged 145 = .ok (.bipush 9, 2) := by decide +kernel
theorem dL_isMerged_147 : decode cL_isMerged 147 = .ok (.ishr, 1) := by decide +kernel
theorem dL_isMerged_148 : decode cL_isMerged 148 = .ok (.iload 6, 2) := by decide +kernel
theorem dL_isMerged_150 : decode cL_isMerged 150 = .ok (.invokestatic 126, 3) := by decide +kernel
theorem dL_isMerged_153 : decode cL_isMerged 153 = .ok (.invokestatic 108, 3) := by decide +kernel
theorem dL_isMerged_156 : decode cL_isMerged 156 = .ok (.istore 8, 2) := by decide +kernel
theorem dL_isMerged_158 : decode cL_isMerged 158 = .ok (.iload 7, 2) := by decide +kernel
theorem dL_isMerged_160 : decode cL_isMerged 160 = .ok (.iload 8, 2) := by decide +kernel
theorem dL_isMerged_162 : decode cL_isMerged 162 = .ok (.if_icmp .ne 38, 3) := by decide +kernel
theorem dL_isMerged_165 : decode cL_isMerged 165 = .ok (.aload_n 0, 1) := by decide +kernel
theorem dL_isMerged_166 : decode cL_isMerged 166 = .ok (.iload 7, 2) := by decide +kernel
theorem dL_isMerged_168 : decode cL_isMerged 168 = .ok (.iload 8, 2) := by decide +kernel
theorem dL_isMerged_170 : decode cL_isMerged 170 = .ok (.aload 5, 2) := by decide +kernel
theorem dL_isMerged_172 : decode cL_isMerged 172 = .ok (.invokestatic 144, 3) := by decide +kernel
theorem dL_isMerged_175 : decode cL_isMerged 175 = .ok (.iconst 2, 1) := by decide +kernel
theorem dL_isMerged_176 : decode cL_isMerged 176 = .ok (.if_icmp .ne 22, 3) := by decide +kernel
theorem dL_isMerged_179 : decode cL_isMerged 179 = .ok (.aload_n 0, 1) := by decide +kernel
theorem dL_isMerged_180 : decode cL_isMerged 180 = .ok (.iload 7, 2) := by decide +kernel
theorem dL_isMerged_182 : decode cL_isMerged 182 = .ok (.aload_n 2, 1) := by decide +kernel
theorem dL_isMerged_183 : decode cL_isMerged 183 = .ok (.iconst 3, 1) := by decide +kernel
theorem dL_isMerged_184 : decode cL_isMerged 184 = .ok (.iaload, 1) := by decide +kernel
theorem dL_isMerged_185 : decode cL_isMerged 185 = .ok (.aload 5, 2) := by decide +kernel
theorem dL_isMerged_187 : decode cL_isMerged 187 = .ok (.invokestatic 144, 3) := by decide +kernel
theorem dL_isMerged_190 : decode cL_isMerged 190 = .ok (.iconst 1, 1) := by decide +kernel
theorem dL_isMerged_191 : decode cL_isMerged 191 = .ok (.if_icmp .ne 7, 3) := by decide +kernel
theorem dL_isMerged_194 : decode cL_isMerged 194 = .ok (.iconst 1, 1) := by decide +kernel
theorem dL_isMerged_195 : decode cL_isMerged 195 = .ok (.goto 4, 3) := by decide +kernel
theorem dL_isMerged_198 : decode cL_isMerged 198 = .ok (.iconst 0, 1) := by decide +kernel
theorem dL_isMerged_199 : decode cL_isMerged 199 = .ok (.ireturn, 1) := by decide +kernel
theorem dL_isMerged_200 : decode cL_isMerged 200 = .ok (.aload_n 0, 1) := by decide +kernel
theorem dL_isMerged_201 : decode cL_isMerged 201 = .ok (.iload 7, 2) := by decide +kernel
theorem dL_isMerged_203 : decode cL_isMerged 203 = .ok (.iload 8, 2) := by decide +kernel
theorem dL_isMerged_205 : decode cL_isMerged 205 = .ok (.aload 5, 2) := by decide +kernel
theorem dL_isMerged_207 : decode cL_isMerged 207 = .ok (.invokestatic 144, 3) := by decide +kernel
theorem dL_isMerged_210 : decode cL_isMerged 210 = .ok (.ifCond .ne 24, 3) := by decide +kernel
theorem dL_isMerged_213 : decode cL_isMerged 213 = .ok (.aload 5, 2) := by decide +kernel
theorem dL_isMerged_215 : decode cL_isMerged 215 = .ok (.iconst 0, 1) := by decide +kernel
theorem dL_isMerged_216 : decode cL_isMerged 216 = .ok (.iaload, 1) := by decide +kernel
theorem dL_isMerged_217 : decode cL_isMerged 217 = .ok (.aload_n 1, 1) := by decide +kernel
theorem dL_isMerged_218 : decode cL_isMerged 218 = .ok (.aload_n 2, 1) := by decide +kernel
theorem dL_isMerged_219 : decode cL_isMerged 219 = .ok (.aload_n 3, 1) := by decide +kernel
theorem dL_isMerged_220 : decode cL_isMerged 220 = .ok (.iload 7, 2) := by decide +kernel
theorem dL_isMerged_222 : decode cL_isMerged 222 = .ok (.iload 8, 2) := by decide +kernel
theorem dL_isMerged_224 : decode cL_isMerged 224 = .ok (.invokestatic 149, 3) := by decide +kernel
theorem dL_isMerged_227 : decode cL_isMerged 227 = .ok (.if_icmp .ne 7, 3) := by decide +kernel
theorem dL_isMerged_230 : decode cL_isMerged 230 = .ok (.iconst 1, 1) := by decide +kernel
theorem dL_isMerged_231 : decode cL_isMerged 231 = .ok (.goto 4, 3) := by decide +kernel
theorem dL_isMerged_234 : decode cL_isMerged 234 = .ok (.iconst 0, 1) := by decide +kernel
theorem dL_isMerged_235 : decode cL_isMerged 235 = .ok (.ireturn, 1) := by decide +kernel
theorem dL_isLanded_0 : decode cL_isLanded 0 = .ok (.iconst 1, 1) := by decide +kernel
theorem dL_isLanded_1 : decode cL_isLanded 1 = .ok (.newarray .int, 2) := by decide +kernel
theorem dL_isLanded_3 : decode cL_isLanded 3 = .ok (.astore 5, 2) := by decide +kernel
theorem dL_isLanded_5 : decode cL_isLanded 5 = .ok (.aload_n 2, 1) := by decide +kernel
theorem dL_isLanded_6 : decode cL_isLanded 6 = .ok (.aload_n 3, 1) := by decide +kernel
theorem dL_isLanded_7 : decode cL_isLanded 7 = .ok (.invokestatic 105, 3) := by decide +kernel
theorem dL_isLanded_10 : decode cL_isLanded 10 = .ok (.istore 6, 2) := by decide +kernel
theorem dL_isLanded_12 : decode cL_isLanded 12 = .ok (.iload 6, 2) := by decide +kernel
theorem dL_isLanded_14 : decode cL_isLanded 14 = .ok (.ifCond .ne 31, 3) := by decide +kernel
theorem dL_isLanded_17 : decode cL_isLanded 17 = .ok (.aload_n 0, 1) := by decide +kernel
theorem dL_isLanded_18 : decode cL_isLanded 18 = .ok (.iconst 0, 1) := by decide +kernel
theorem dL_isLanded_19 : decode cL_isLanded 19 = .ok (.aload 5, 2) := by decide +kernel
theorem dL_isLanded_21 : decode cL_isLanded 21 = .ok (.invokestatic 152, 3) := by decide +kernel
theorem dL_isLanded_24 : decode cL_isLanded 24 = .ok (.iconst 1, 1) := by decide +kernel
theorem dL_isLanded_25 : decode cL_isLanded 25 = .ok (.if_icmp .ne 18, 3) := by decide +kernel
theorem dL_isLanded_28 : decode cL_isLanded 28 = .ok (.aload_n 0, 1) := by decide +kernel
theorem dL_isLanded_29 : decode cL_isLanded 29 = .ok (.iconst 0, 1) := by decide +kernel
theorem dL_isLanded_30 : decode cL_isLanded 30 = .ok (.aload 5, 2) := by decide +kernel
theorem dL_isLanded_32 : decode cL_isLanded 32 = .ok (.invokestatic 154, 3) := by decide +kernel
theorem dL_isLanded_35 : decode cL_isLanded 35 = .ok (.iconst 1, 1) := by decide +kernel
theorem dL_isLanded_36 : decode cL_isLanded 36 = .ok (.if_icmp .ne 7, 3) := by decide +kernel
theorem dL_isLanded_39 : decode cL_isLanded 39 = .ok (.iconst 1, 1) := by decide +kernel
theorem dL_isLanded_40 : decode cL_isLanded 40 = .ok (.goto 4, 3) := by decide +kernel
theorem dL_isLanded_43 : decode cL_isLanded 43 = .ok (.iconst 0, 1) := by decide +kernel
theorem dL_isLanded_44 : decode cL_isLanded 44 = .ok (.ireturn, 1) := by decide +kernel
theorem dL_isLanded_45 : decode cL_isLanded 45 = .ok (.aload_n 2, 1) := by decide +kernel
theorem dL_isLanded_46 : decode cL_isLanded 46 = .ok (.aload_n 3, 1) := by decide +kernel
theorem dL_isLanded_47 : decode cL_isLanded 47 = .ok (.iload 4, 2) := by decide +kernel
theorem dL_isLanded_49 : decode cL_isLanded 49 = .ok (.iload 6, 2) := by decide +kernel
theorem dL_isLanded_51 : decode cL_isLanded 51 = .ok (.invokestatic 126, 3) := by decide +kernel
theorem dL_isLanded_54 : decode cL_isLanded 54 = .ok (.invokestatic 108, 3) := by decide +kernel
theorem dL_isLanded_57 : decode cL_isLanded 57 = .ok (.istore 7, 2) := by decide +kernel
theorem dL_isLanded_59 : decode cL_isLanded 59 = .ok (.iload 4, 2) := by decide +kernel
theorem dL_isLanded_61 : decode cL_isLanded 61 = .ok (.bipush 7, 2) := by decide +kernel
theorem dL_isLanded_63 : decode cL_isLanded 63 = .ok (.ishr, 1) := by decide +kernel
theorem dL_isLanded_64 : decode cL_isLanded 64 = .ok (.iconst 3, 1) := by decide +kernel
theorem dL_isLanded_65 : decode cL_isLanded 65 = .ok (.invokestatic 126, 3) := by decide +kernel
theorem dL_isLanded_68 : decode cL_isLanded 68 = .ok (.ifCond .ne 55, 3) := by decide +kernel
theorem dL_isLanded_71 : decode cL_isLanded 71 = .ok (.aload_n 3, 1) := by decide +kernel
theorem dL_isLanded_72 : decode cL_isLanded 72 = .ok (.iload 7, 2) := by decide +kernel
theorem dL_isLanded_74 : decode cL_isLanded 74 = .ok (.aload_n 3, 1) := by decide +kernel
theorem dL_isLanded_75 : decode cL_isLanded 75 = .ok (.iload 7, 2) := by decide +kernel
theorem dL_isLanded_77 : decode cL_isLanded 77 = .ok (.iaload, 1) := by decide +kernel
theorem dL_isLanded_78 : decode cL_isLanded 78 = .ok (.bipush 9, 2) := by decide +kernel
theorem dL_isLanded_80 : decode cL_isLanded 80 = .ok (.if_icmp .ge 12, 3) := by decide +kernel
theorem dL_isLanded_83 : decode cL_isLanded 83 = .ok (.aload_n 3, 1) := by decide +kernel
theorem dL_isLanded_84 : decode cL_isLanded 84 = .ok (.iload 7, 2) := by decide +kernel
theorem dL_isLanded_86 : decode cL_isLanded 86 = .ok (.iaload, 1) := by decide +kernel
theorem dL_isLanded_87 : decode cL_isLanded 87 = .ok (.iconst 1, 1) := by decide +kernel
theorem dL_isLanded_88 : decode cL_isLanded 88 = .ok (.iadd, 1) := by decide +kernel
theorem dL_isLanded_89 : decode cL_isLanded 89 = .ok (.goto 5, 3) := by decide +kernel
theorem dL_isLanded_92 : decode cL_isLanded 92 = .ok (.bipush 9, 2) := by decide +kernel
theorem dL_isLanded_94 : decode cL_isLanded 94 = .ok (.iastore, 1) := by decide +kernel
theorem dL_isLanded_95 : decode cL_isLanded 95 = .ok (.aload_n 0, 1) := by decide +kernel
theorem dL_isLanded_96 : decode cL_isLanded 96 = .ok (.iload 7, 2) := by decide +kernel
theorem dL_isLanded_98 : decode cL_isLanded 98 = .ok (.aload 5, 2) := by decide +kernel
theorem dL_isLanded_100 : decode cL_isLanded 100 = .ok (.invokestatic 154, 3) := by decide +kernel
theorem dL_isLanded_103 : decode cL_isLanded 103 = .ok (.ifCond .ne 18, 3) := by decide +kernel
theorem dL_isLanded_106 : decode cL_isLanded 106 = .ok (.aload 5, 2) := by decide +kernel
theorem dL_isLanded_108 : decode cL_isLanded 108 = .ok (.iconst 0, 1) := by decide +kernel
theorem dL_isLanded_109 : decode cL_isLanded 109 = .ok (.iaload, 1) := by decide +kernel
theorem dL_isLanded_110 : decode cL_isLanded 110 = .ok (.aload_n 3, 1) := by decide +kernel
theorem dL_isLanded_111 : decode cL_isLanded 111 = .ok (.iload 7, 2) := by decide +kernel
theorem dL_isLanded_113 : decode cL_isLanded 113 = .ok (.iaload, 1) := by decide +kernel
theorem dL_isLanded_114 : decode cL_isLanded 114 = .ok (.if_icmp .ne 7, 3) := by decide +kernel
theorem dL_isLanded_117 : decode cL_isLanded 117 = .ok (.iconst 1, 1) := by decide +kernel
theorem dL_isLanded_118 : decode cL_isLanded 118 = .ok (.goto 4, 3) := by decide +kernel
theorem dL_isLanded_121 : decode cL_isLanded 121 = .ok (.iconst 0, 1) := by decide +kernel
theorem dL_isLanded_122 : decode cL_isLanded 122 = .ok (.ireturn, 1) := by decide +kernel
theorem dL_isLanded_123 : decode cL_isLanded 123 = .ok (.aload_n 1, 1) := by decide +kernel
theorem dL_isLanded_124 : decode cL_isLanded 124 = .ok (.aload_n 2, 1) := by decide +kernel
theorem dL_isLanded_125 : decode cL_isLanded 125 = .ok (.iconst 2, 1) := by decide +kernel
theorem dL_isLanded_126 : decode cL_isLanded 126 = .ok (.iconst (-1), 1) := by decide +kernel
theorem dL_isLanded_127 : decode cL_isLanded 127 = .ok (.invokestatic 32, 3) := by decide +kernel
theorem dL_isLanded_130 : decode cL_isLanded 130 = .ok (.istore 8, 2) := by decide +kernel
theorem dL_isLanded_132 : decode cL_isLanded 132 = .ok (.iload 8, 2) := by decide +kernel
theorem dL_isLanded_134 : decode cL_isLanded 134 = .ok (.ifCond .le 48, 3) := by decide +kernel
theorem dL_isLanded_137 : decode cL_isLanded 137 = .ok (.aload_n 1, 1) := by decide +kernel
theorem dL_isLanded_138 : decode cL_isLanded 138 = .ok (.aload_n 1, 1) := by decide +kernel
theorem dL_isLanded_139 : decode cL_isLanded 139 = .ok (.aload_n 2, 1) := by decide +kernel
theorem dL_isLanded_140 : decode cL_isLanded 140 = .ok (.iconst 2, 1) := by decide +kernel
theorem dL_isLanded_141 : decode cL_isLanded 141 = .ok (.iconst (-1), 1) := by decide +kernel
theorem dL_isLanded_142 : decode cL_isLanded 142 = .ok (.iload 8, 2) := by decide +kernel
theorem dL_isLanded_144 : decode cL_isLanded 144 = .ok (.iconst 1, 1) := by decide +kernel
theorem dL_isLanded_145 : decode cL_isLanded 145 = .ok (.isub, 1) := by decide +kernel
theorem dL_isLanded_146 : decode cL_isLanded 146 = .ok (.invokestatic 36, 3) := by decide +kernel
theorem dL_isLanded_149 : decode cL_isLanded 149 = .ok (.aload_n 1, 1) := by decide +kernel
theorem dL_isLanded_150 : decode cL_isLanded 150 = .ok (.aload_n 2, 1) := by decide +kernel
theorem dL_isLanded_151 : decode cL_isLanded 151 = .ok (.iconst 1, 1) := by decide +kernel
theorem dL_isLanded_152 : decode cL_isLanded 152 = .ok (.iload 7, 2) := by decide +kernel
theorem dL_isLanded_154 : decode cL_isLanded 154 = .ok (.iconst 0, 1) := by decide +kernel
theorem dL_isLanded_155 : decode cL_isLanded 155 = .ok (.invokestatic 36, 3) := by decide +kernel
theorem dL_isLanded_158 : decode cL_isLanded 158 = .ok (.invokestatic 28, 3) := by decide +kernel
theorem dL_isLanded_161 : decode cL_isLanded 161 = .ok (.ifCond .ne 21, 3) := by decide +kernel
theorem dL_isLanded_164 : decode cL_isLanded 164 = .ok (.aload_n 0, 1) := by decide +kernel
theorem dL_isLanded_165 : decode cL_isLanded 165 = .ok (.iload 7, 2) := by decide +kernel
theorem dL_isLanded_167 : decode cL_isLanded 167 = .ok (.aload 5, 2) := by decide +kernel
theorem dL_isLanded_169 : decode cL_isLanded 169 = .ok (.invokestatic 152, 3) := by decide +kernel
theorem dL_isLanded_172 : decode cL_isLanded 172 = .ok (.iconst 2, 1) := by decide +kernel
theorem dL_isLanded_173 : decode cL_isLanded 173 = .ok (.if_icmp .ne 7, 3) := by decide +kernel
theorem dL_isLanded_176 : decode cL_isLanded 176 = .ok (.iconst 1, 1) := by decide +kernel
theorem dL_isLanded_177 : decode cL_isLanded 177 = .ok (.goto 4, 3) := by decide +kernel
theorem dL_isLanded_180 : decode cL_isLanded 180 = .ok (.iconst 0, 1) := by decide +kernel
theorem dL_isLanded_181 : decode cL_isLanded 181 = .ok (.ireturn, 1) := by decide +kernel
theorem dL_isLanded_182 : decode cL_isLanded 182 = .ok (.aload_n 1, 1) := by decide +kernel
theorem dL_isLanded_183 : decode cL_isLanded 183 = .ok (.aload_n 2, 1) := by decide +kernel
theorem dL_isLanded_184 : decode cL_isLanded 184 = .ok (.iconst 1, 1) := by decide +kernel
theorem dL_isLanded_185 : decode cL_isLanded 185 = .ok (.iload 7, 2) := by decide +kernel
theorem dL_isLanded_187 : decode cL_isLanded 187 = .ok (.invokestatic 32, 3) := by decide +kernel
theorem dL_isLanded_190 : decode cL_isLanded 190 = .ok (.istore 9, 2) := by decide +kernel
theorem dL_isLanded_192 : decode cL_isLanded 192 = .ok (.iconst 0, 1) := by decide +kernel
theorem dL_isLanded_193 : decode cL_isLanded 193 = .ok (.istore 10, 2) := by decide +kernel
theorem dL_isLanded_195 : decode cL_isLanded 195 = .ok (.iload 10, 2) := by decide +kernel
theorem dL_isLanded_197 : decode cL_isLanded 197 = .ok (.aload_n 2, 1) := by decide +kernel
theorem dL_isLanded_198 : decode cL_isLanded 198 = .ok (.iconst 0, 1) := by decide +kernel
theorem dL_isLanded_199 : decode cL_isLanded 199 = .ok (.iaload, 1) := by decide +kernel
theorem dL_isLanded_200 : decode cL_isLanded 200 = .ok (.if_icmp .ge 38, 3) := by decide +kernel
theorem dL_isLanded_203 : decode cL_isLanded 203 = .ok (.aload_n 1, 1) := by decide +kernel
theorem dL_isLanded_204 : decode cL_isLanded 204 = .ok (.iload 10, 2) := by decide +kernel
theorem dL_isLanded_206 : decode cL_isLanded 206 = .ok (.invokestatic 22, 3) := by decide +kernel
theorem dL_isLanded_209 : decode cL_isLanded 209 = .ok (.iconst 1, 1) := by decide +kernel
theorem dL_isLanded_210 : decode cL_isLanded 210 = .ok (.if_icmp .ne 22, 3) := by decide +kernel
theorem dL_isLanded_213 : decode cL_isLanded 213 = .ok (.aload_n 1, 1) := by decide +kernel
theorem dL_isLanded_214 : decode cL_isLanded 214 = .ok (.iload 10, 2) := by decide +kernel
theorem dL_isLanded_216 : decode cL_isLanded 216 = .ok (.invokestatic 25, 3) := by decide +kernel
theorem dL_isLanded_219 : decode cL_isLanded 219 = .ok (.iload 7, 2) := by decide +kernel
theorem dL_isLanded_221 : decode cL_isLanded 221 = .ok (.if_icmp .ne 11, 3) := by decide +kernel
theorem dL_isLanded_224 : decode cL_isLanded 224 = .ok (.aload_n 1, 1) := by decide +kernel
theorem dL_isLanded_225 : decode cL_isLanded 225 = .ok (.iload 10, 2) := by decide +kernel
theorem dL_isLanded_227 : decode cL_isLanded 227 = .ok (.iconst 2, 1) := by decide +kernel
theorem dL_isLanded_228 : decode cL_isLanded 228 = .ok (.iconst (-1), 1) := by decide +kernel
theorem dL_isLanded_229 : decode cL_isLanded 229 = .ok (.invokestatic 48, 3) := by decide +kernel
theorem dL_isLanded_232 : decode cL_isLanded 232 = .ok (.iinc 10 1, 3) := by decide +kernel
theorem dL_isLanded_235 : decode cL_isLanded 235 = .ok (.goto (-40), 3) := by decide +kernel
theorem dL_isLanded_238 : decode cL_isLanded 238 = .ok (.aload_n 3, 1) := by decide +kernel
theorem dL_isLanded_239 : decode cL_isLanded 239 = .ok (.iload 7, 2) := by decide +kernel
theorem dL_isLanded_241 : decode cL_isLanded 241 = .ok (.iconst (-1), 1) := by decide +kernel
theorem dL_isLanded_242 : decode cL_isLanded 242 = .ok (.iastore, 1) := by decide +kernel
theorem dL_isLanded_243 : decode cL_isLanded 243 = .ok (.aload_n 2, 1) := by decide +kernel
theorem dL_isLanded_244 : decode cL_isLanded 244 = .ok (.iconst 2, 1) := by decide +kernel
theorem dL_isLanded_245 : decode cL_isLanded 245 = .ok (.aload_n 2, 1) := by decide +kernel
theorem dL_isLanded_246 : decode cL_isLanded 246 = .ok (.iconst 2, 1) := by decide +kernel
theorem dL_isLanded_247 : decode cL_isLanded 247 = .ok (.iaload, 1) := by decide +kernel
theorem dL_isLanded_248 : decode cL_isLanded 248 = .ok (.iload 7, 2) := by decide +kernel
theorem dL_isLanded_250 : decode cL_isLanded 250 = .ok (.if_icmp .ne 7, 3) := by decide +kernel
theorem dL_isLanded_253 : decode cL_isLanded 253 = .ok (.iconst (-1), 1) := by decide +kernel
theorem dL_isLanded_254 : decode cL_isLanded 254 = .ok (.goto 6, 3) := by decide +kernel
theorem dL_isLanded_257 : decode cL_isLanded 257 = .ok (.aload_n 2, 1) := by decide +kernel
theorem dL_isLanded_258 : decode cL_isLanded 258 = .ok (.iconst 2, 1) := by decide +kernel
theorem dL_isLanded_259 : decode cL_isLanded 259 = .ok (.iaload, 1) := by decide +kernel
theorem dL_isLanded_260 : decode cL_isLanded 260 = .ok (.iastore, 1) := by decide +kernel
theorem dL_isLanded_261 : decode cL_isLanded 261 = .ok (.aload_n 0, 1) := by decide +kernel
theorem dL_isLanded_262 : decode cL_isLanded 262 = .ok (.iload 7, 2) := by decide +kernel
theorem dL_isLanded_264 : decode cL_isLanded 264 = .ok (.aload 5, 2) := by decide +kernel
theorem dL_isLanded_266 : decode cL_isLanded 266 = .ok (.invokestatic 152, 3) := by decide +kernel
theorem dL_isLanded_269 : decode cL_isLanded 269 = .ok (.ifCond .ne 31, 3) := by decide +kernel
theorem dL_isLanded_272 : decode cL_isLanded 272 = .ok (.aload 5, 2) := by decide +kernel
theorem dL_isLanded_274 : decode cL_isLanded 274 = .ok (.iconst 0, 1) := by decide +kernel
theorem dL_isLanded_275 : decode cL_isLanded 275 = .ok (.iaload, 1) := by decide +kernel
theorem dL_isLanded_276 : decode cL_isLanded 276 = .ok (.iload 8, 2) := by decide +kernel
theorem dL_isLanded_278 : decode cL_isLanded 278 = .ok (.iload 9, 2) := by decide +kernel
theorem dL_isLanded_280 : decode cL_isLanded 280 = .ok (.iadd, 1) := by decide +kernel
theorem dL_isLanded_281 : decode cL_isLanded 281 = .ok (.if_icmp .ne 19, 3) := by decide +kernel
theorem dL_isLanded_284 : decode cL_isLanded 284 = .ok (.aload_n 0, 1) := by decide +kernel
theorem dL_isLanded_285 : decode cL_isLanded 285 = .ok (.iload 7, 2) := by decide +kernel
theorem dL_isLanded_287 : decode cL_isLanded 287 = .ok (.aload 5, 2) := by decide +kernel
theorem dL_isLanded_289 : decode cL_isLanded 289 = .ok (.invokestatic 152, 3) := by decide +kernel
theorem dL_isLanded_292 : decode cL_isLanded 292 = .ok (.iconst 1, 1) := by decide +kernel
theorem dL_isLanded_293 : decode cL_isLanded 293 = .ok (.if_icmp .ne 7, 3) := by decide +kernel
theorem dL_isLanded_296 : decode cL_isLanded 296 = .ok (.iconst 1, 1) := by decide +kernel
theorem dL_isLanded_297 : decode cL_isLanded 297 = .ok (.goto 4, 3) := by decide +kernel
theorem dL_isLanded_300 : decode cL_isLanded 300 = .ok (.iconst 0, 1) := by decide +kernel
theorem dL_isLanded_301 : decode cL_isLanded 301 = .ok (.ireturn, 1) := by decide +kernel
theorem dL_isEmptied_0 : decode cL_isEmptied 0 = .ok (.aload_n 2, 1) := by decide +kernel
theorem dL_isEmptied_1 : decode cL_isEmptied 1 = .ok (.iconst 3, 1) := by decide +kernel
theorem dL_isEmptied_2 : decode cL_isEmptied 2 = .ok (.iaload, 1) := by decide +kernel
theorem dL_isEmptied_3 : decode cL_isEmptied 3 = .ok (.aload_n 1, 1) := by decide +kernel
theorem dL_isEmptied_4 : decode cL_isEmptied 4 = .ok (.aload_n 2, 1) := by decide +kernel
theorem dL_isEmptied_5 : decode cL_isEmptied 5 = .ok (.iconst 0, 1) := by decide +kernel
theorem dL_isEmptied_6 : decode cL_isEmptied 6 = .ok (.iconst (-1), 1) := by decide +kernel
theorem dL_isEmptied_7 : decode cL_isEmptied 7 = .ok (.invokestatic 32, 3) := by decide +kernel
theorem dL_isEmptied_10 : decode cL_isEmptied 10 = .ok (.iadd, 1) := by decide +kernel
theorem dL_isEmptied_11 : decode cL_isEmptied 11 = .ok (.bipush 63, 2) := by decide +kernel
theorem dL_isEmptied_13 : decode cL_isEmptied 13 = .ok (.if_icmp .le 5, 3) := by decide +kernel
theorem dL_isEmptied_16 : decode cL_isEmptied 16 = .ok (.iconst 1, 1) := by decide +kernel
theorem dL_isEmptied_17 : decode cL_isEmptied 17 = .ok (.ireturn, 1) := by decide +kernel
theorem dL_isEmptied_18 : decode cL_isEmptied 18 = .ok (.aload_n 1, 1) := by decide +kernel
theorem dL_isEmptied_19 : decode cL_isEmptied 19 = .ok (.aload_n 2, 1) := by decide +kernel
theorem dL_isEmptied_20 : decode cL_isEmptied 20 = .ok (.aload_n 3, 1) := by decide +kernel
theorem dL_isEmptied_21 : decode cL_isEmptied 21 = .ok (.invokestatic 156, 3) := by decide +kernel
theorem dL_isEmptied_24 : decode cL_isEmptied 24 = .ok (.aload_n 0, 1) := by decide +kernel
theorem dL_isEmptied_25 : decode cL_isEmptied 25 = .ok (.invokevirtual 160, 3) := by decide +kernel
theorem dL_isEmptied_28 : decode cL_isEmptied 28 = .ok (.aload_n 2, 1) := by decide +kernel
theorem dL_isEmptied_29 : decode cL_isEmptied 29 = .ok (.aload_n 3, 1) := by decide +kernel
theorem dL_isEmptied_30 : decode cL_isEmptied 30 = .ok (.invokestatic 105, 3) := by decide +kernel
theorem dL_isEmptied_33 : decode cL_isEmptied 33 = .ok (.if_icmp .ne 7, 3) := by decide +kernel
theorem dL_isEmptied_36 : decode cL_isEmptied 36 = .ok (.iconst 1, 1) := by decide +kernel
theorem dL_isEmptied_37 : decode cL_isEmptied 37 = .ok (.goto 4, 3) := by decide +kernel
theorem dL_isEmptied_40 : decode cL_isEmptied 40 = .ok (.iconst 0, 1) := by decide +kernel
theorem dL_isEmptied_41 : decode cL_isEmptied 41 = .ok (.ireturn, 1) := by decide +kernel
theorem dL_law_0 : decode cL_law 0 = .ok (.new 60, 3) := by decide +kernel
theorem dL_law_3 : decode cL_law 3 = .ok (.dup, 1) := by decide +kernel
theorem dL_law_4 : decode cL_law 4 = .ok (.invokespecial 163, 3) := by decide +kernel
theorem dL_law_7 : decode cL_law 7 = .ok (.astore_n 1, 1) := by decide +kernel
theorem dL_law_8 : decode cL_law 8 = .ok (.bipush 64, 2) := by decide +kernel
theorem dL_law_10 : decode cL_law 10 = .ok (.newarray .int, 2) := by decide +kernel
theorem dL_law_12 : decode cL_law 12 = .ok (.astore_n 2, 1) := by decide +kernel
theorem dL_law_13 : decode cL_law 13 = .ok (.bipush 8, 2) := by decide +kernel
theorem dL_law_15 : decode cL_law 15 = .ok (.newarray .int, 2) := by decide +kernel
theorem dL_law_17 : decode cL_law 17 = .ok (.astore_n 3, 1) := by decide +kernel
theorem dL_law_18 : decode cL_law 18 = .ok (.bipush 64, 2) := by decide +kernel
theorem dL_law_20 : decode cL_law 20 = .ok (.newarray .int, 2) := by decide +kernel
theorem dL_law_22 : decode cL_law 22 = .ok (.astore 4, 2) := by decide +kernel
theorem dL_law_24 : decode cL_law 24 = .ok (.iconst 1, 1) := by decide +kernel
theorem dL_law_25 : decode cL_law 25 = .ok (.newarray .int, 2) := by decide +kernel
theorem dL_law_27 : decode cL_law 27 = .ok (.astore 5, 2) := by decide +kernel
theorem dL_law_29 : decode cL_law 29 = .ok (.aload_n 0, 1) := by decide +kernel
theorem dL_law_30 : decode cL_law 30 = .ok (.iconst 0, 1) := by decide +kernel
theorem dL_law_31 : decode cL_law 31 = .ok (.invokestatic 164, 3) := by decide +kernel
theorem dL_law_34 : decode cL_law 34 = .ok (.istore 6, 2) := by decide +kernel
theorem dL_law_36 : decode cL_law 36 = .ok (.aload_n 3, 1) := by decide +kernel
theorem dL_law_37 : decode cL_law 37 = .ok (.iconst 1, 1) := by decide +kernel
theorem dL_law_38 : decode cL_law 38 = .ok (.iconst 4, 1) := by decide +kernel
theorem dL_law_39 : decode cL_law 39 = .ok (.iastore, 1) := by decide +kernel
theorem dL_law_40 : decode cL_law 40 = .ok (.aload_n 3, 1) := by decide +kernel
theorem dL_law_41 : decode cL_law 41 = .ok (.iconst 2, 1) := by decide +kernel
theorem dL_law_42 : decode cL_law 42 = .ok (.iconst (-1), 1) := by decide +kernel
theorem dL_law_43 : decode cL_law 43 = .ok (.iastore, 1) := by decide +kernel
theorem dL_law_44 : decode cL_law 44 = .ok (.iload 6, 2) := by decide +kernel
theorem dL_law_46 : decode cL_law 46 = .ok (.iconst 3, 1) := by decide +kernel
theorem dL_law_47 : decode cL_law 47 = .ok (.invokestatic 126, 3) := by decide +kernel
theorem dL_law_50 : decode cL_law 50 = .ok (.ifCond .le 29, 3) := by decide +kernel
theorem dL_law_53 : decode cL_law 53 = .ok (.aload_n 3, 1) := by decide +kernel
theorem dL_law_54 : decode cL_law 54 = .ok (.iconst 1, 1) := by decide +kernel
theorem dL_law_55 : decode cL_law 55 = .ok (.iconst 1, 1) := by decide +kernel
theorem dL_law_56 : decode cL_law 56 = .ok (.iload 6, 2) := by decide +kernel
theorem dL_law_58 : decode cL_law 58 = .ok (.iconst 4, 1) := by decide +kernel
theorem dL_law_59 : decode cL_law 59 = .ok (.ishr, 1) := by decide +kernel
theorem dL_law_60 : decode cL_law 60 = .ok (.bipush 12, 2) := by decide +kernel
theorem dL_law_62 : decode cL_law 62 = .ok (.invokestatic 126, 3) := by decide +kernel
theorem dL_law_65 : decode cL_law 65 = .ok (.iadd, 1) := by decide +kernel
theorem dL_law_66 : decode cL_law 66 = .ok (.iastore, 1) := by decide +kernel
theorem dL_law_67 : decode cL_law 67 = .ok (.aload_n 1, 1) := by decide +kernel
theorem dL_law_68 : decode cL_law 68 = .ok (.aload_n 3, 1) := by decide +kernel
theorem dL_law_69 : decode cL_law 69 = .ok (.iconst 1, 1) := by decide +kernel
theorem dL_law_70 : decode cL_law 70 = .ok (.iaload, 1) := by decide +kernel
theorem dL_law_71 : decode cL_law 71 = .ok (.invokevirtual 167, 3) := by decide +kernel
theorem dL_law_74 : decode cL_law 74 = .ok (.ifCond .eq 5, 3) := by decide +kernel
theorem dL_law_77 : decode cL_law 77 = .ok (.iconst 0, 1) := by decide +kernel
theorem dL_law_78 : decode cL_law 78 = .ok (.ireturn, 1) := by decide +kernel
theorem dL_law_79 : decode cL_law 79 = .ok (.aload_n 1, 1) := by decide +kernel
theorem dL_law_80 : decode cL_law 80 = .ok (.aload_n 2, 1) := by decide +kernel
theorem dL_law_81 : decode cL_law 81 = .ok (.aload_n 3, 1) := by decide +kernel
theorem dL_law_82 : decode cL_law 82 = .ok (.aload 4, 2) := by decide +kernel
theorem dL_law_84 : decode cL_law 84 = .ok (.invokestatic 170, 3) := by decide +kernel
theorem dL_law_87 : decode cL_law 87 = .ok (.ifCond .eq 20, 3) := by decide +kernel
theorem dL_law_90 : decode cL_law 90 = .ok (.aload_n 1, 1) := by decide +kernel
theorem dL_law_91 : decode cL_law 91 = .ok (.invokevirtual 160, 3) := by decide +kernel
theorem dL_law_94 : decode cL_law 94 = .ok (.ifCond .ne 13, 3) := by decide +kernel
theorem dL_law_97 : decode cL_law 97 = .ok (.aload_n 1, 1) := by decide +kernel
theorem dL_law_98 : decode cL_law 98 = .ok (.aload 5, 2) := by decide +kernel
theorem dL_law_100 : decode cL_law 100 = .ok (.invokestatic 141, 3) := by decide +kernel
theorem dL_law_103 : decode cL_law 103 = .ok (.iconst 1, 1) := by decide +kernel
theorem dL_law_104 : decode cL_law 104 = .ok (.if_icmp .eq 5, 3) := by decide +kernel
theorem dL_law_107 : decode cL_law 107 = .ok (.iconst 0, 1) := by decide +kernel
theorem dL_law_108 : decode cL_law 108 = .ok (.ireturn, 1) := by decide +kernel
theorem dL_law_109 : decode cL_law 109 = .ok (.iconst 1, 1) := by decide +kernel
theorem dL_law_110 : decode cL_law 110 = .ok (.istore 7, 2) := by decide +kernel
theorem dL_law_112 : decode cL_law 112 = .ok (.iload 7, 2) := by decide +kernel
theorem dL_law_114 : decode cL_law 114 = .ok (.bipush 40, 2) := by decide +kernel
theorem dL_law_116 : decode cL_law 116 = .ok (.if_icmp .ge 259, 3) := by decide +kernel
theorem dL_law_119 : decode cL_law 119 = .ok (.aload_n 0, 1) := by decide +kernel
theorem dL_law_120 : decode cL_law 120 = .ok (.iload 7, 2) := by decide +kernel
theorem dL_law_122 : decode cL_law 122 = .ok (.invokestatic 164, 3) := by decide +kernel
theorem dL_law_125 : decode cL_law 125 = .ok (.istore 8, 2) := by decide +kernel
theorem dL_law_127 : decode cL_law 127 = .ok (.iconst 1, 1) := by decide +kernel
theorem dL_law_128 : decode cL_law 128 = .ok (.istore 9, 2) := by decide +kernel
theorem dL_law_130 : decode cL_law 130 = .ok (.iload 8, 2) := by decide +kernel
theorem dL_law_132 : decode cL_law 132 = .ok (.bipush 27, 2) := by decide +kernel
theorem dL_law_134 : decode cL_law 134 = .ok (.ishr, 1) := by decide +kernel
theorem dL_law_135 : decode cL_law 135 = .ok (.bipush 8, 2) := by decide +kernel
theorem dL_law_137 : decode cL_law 137 = .ok (.invokestatic 126, 3) := by decide +kernel
theorem dL_law_140 : decode cL_law 140 = .ok (.tableswitch 112 0 3 #[32, 52, 67, 82], 32) := by decide +kernel
theorem dL_law_172 : decode cL_law 172 = .ok (.aload_n 1, 1) := by decide +kernel
theorem dL_law_173 : decode cL_law 173 = .ok (.aload_n 2, 1) := by decide +kernel
theorem dL_law_174 : decode cL_law 174 = .ok (.aload_n 3, 1) := by decide +kernel
theorem dL_law_175 : decode cL_law 175 = .ok (.aload 4, 2) := by decide +kernel
theorem dL_law_177 : decode cL_law 177 = .ok (.iload 8, 2) := by decide +kernel
theorem dL_law_179 : decode cL_law 179 = .ok (.bipush 11, 2) := by decide +kernel
theorem dL_law_181 : decode cL_law 181 = .ok (.invokestatic 126, 3) := by decide +kernel
theorem dL_law_184 : decode cL_law 184 = .ok (.invokestatic 174, 3) := by decide +kernel
theorem dL_law_187 : decode cL_law 187 = .ok (.istore 9, 2) := by decide +kernel
theorem dL_law_189 : decode cL_law 189 = .ok (.goto 126, 3) := by decide +kernel
theorem dL_law_192 : decode cL_law 192 = .ok (.aload_n 1, 1) := by decide +kernel
theorem dL_law_193 : decode cL_law 193 = .ok (.aload_n 2, 1) := by decide +kernel
theorem dL_law_194 : decode cL_law 194 = .ok (.aload_n 3, 1) := by decide +kernel
theorem dL_law_195 : decode cL_law 195 = .ok (.aload 4, 2) := by decide +kernel
theorem dL_law_197 : decode cL_law 197 = .ok (.iload 8, 2) := by decide +kernel
theorem dL_law_199 : decode cL_law 199 = .ok (.invokestatic 178, 3) := by decide +kernel
theorem dL_law_202 : decode cL_law 202 = .ok (.istore 9, 2) := by decide +kernel
theorem dL_law_204 : decode cL_law 204 = .ok (.goto 111, 3) := by decide +kernel
theorem dL_law_207 : decode cL_law 207 = .ok (.aload_n 1, 1) := by decide +kernel
theorem dL_law_208 : decode cL_law 208 = .ok (.aload_n 2, 1) := by decide +kernel
theorem dL_law_209 : decode cL_law 209 = .ok (.aload_n 3, 1) := by decide +kernel
theorem dL_law_210 : decode cL_law 210 = .ok (.aload 4, 2) := by decide +kernel
theorem dL_law_212 : decode cL_law 212 = .ok (.iload 8, 2) := by decide +kernel
theorem dL_law_214 : decode cL_law 214 = .ok (.invokestatic 181, 3) := by decide +kernel
theorem dL_law_217 : decode cL_law 217 = .ok (.istore 9, 2) := by decide +kernel
theorem dL_law_219 : decode cL_law 219 = .ok (.goto 96, 3) := by decide +kernel
theorem dL_law_222 : decode cL_law 222 = .ok (.iload 8, 2) := by decide +kernel
theorem dL_law_224 : decode cL_law 224 = .ok (.iconst 3, 1) := by decide +kernel
theorem dL_law_225 : decode cL_law 225 = .ok (.invokestatic 126, 3) := by decide +kernel
theorem dL_law_228 : decode cL_law 228 = .ok (.ifCond .gt 14, 3) := by decide +kernel
theorem dL_law_231 : decode cL_law 231 = .ok (.aload_n 1, 1) := by decide +kernel
theorem dL_law_232 : decode cL_law 232 = .ok (.aload_n 2, 1) := by decide +kernel
theorem dL_law_233 : decode cL_law 233 = .ok (.aload_n 3, 1) := by decide +kernel
theorem dL_law_234 : decode cL_law 234 = .ok (.aload 4, 2) := by decide +kernel
theorem dL_law_236 : decode cL_law 236 = .ok (.invokestatic 184, 3) := by decide +kernel
theorem dL_law_239 : decode cL_law 239 = .ok (.ifCond .eq 7, 3) := by decide +kernel
theorem dL_law_242 : decode cL_law 242 = .ok (.iconst 1, 1) := by decide +kernel
theorem dL_law_243 : decode cL_law 243 = .ok (.goto 4, 3) := by decide +kernel
theorem dL_law_246 : decode cL_law 246 = .ok (.iconst 0, 1) := by decide +kernel
theorem dL_law_247 : decode cL_law 247 = .ok (.istore 9, 2) := by decide +kernel
theorem dL_law_249 : decode cL_law 249 = .ok (.goto 66, 3) := by decide +kernel
theorem dL_law_252 : decode cL_law 252 = .ok (.iconst 0, 1) := by decide +kernel
theorem dL_law_253 : decode cL_law 253 = .ok (.istore 10, 2) := by decide +kernel
theorem dL_law_255 : decode cL_law 255 = .ok (.iload 10, 2) := by decide +kernel
theorem dL_law_257 : decode cL_law 257 = .ok (.iconst 1, 1) := by decide +kernel
theorem dL_law_258 : decode cL_law 258 = .ok (.iload 8, 2) := by decide +kernel
theorem dL_law_260 : decode cL_law 260 = .ok (.bipush 24, 2) := by decide +kernel
theorem dL_law_262 : decode cL_law 262 = .ok (.ishr, 1) := by decide +kernel
theorem dL_law_263 : decode cL_law 263 = .ok (.iconst 4, 1) := by decide +kernel
theorem dL_law_264 : decode cL_law 264 = .ok (.invokestatic 126, 3) := by decide +kernel
theorem dL_law_267 : decode cL_law 267 = .ok (.iadd, 1) := by decide +kernel
theorem dL_law_268 : decode cL_law 268 = .ok (.if_icmp .ge 47, 3) := by decide +kernel
theorem dL_law_271 : decode cL_law 271 = .ok (.iload 9, 2) := by decide +kernel
theorem dL_law_273 : decode cL_law 273 = .ok (.ifCond .eq 33, 3) := by decide +kernel
theorem dL_law_276 : decode cL_law 276 = .ok (.aload_n 1, 1) := by decide +kernel
theorem dL_law_277 : decode cL_law 277 = .ok (.aload_n 2, 1) := by decide +kernel
theorem dL_law_278 : decode cL_law 278 = .ok (.aload_n 3, 1) := by decide +kernel
theorem dL_law_279 : decode cL_law 279 = .ok (.aload 4, 2) := by decide +kernel
theorem dL_law_281 : decode cL_law 281 = .ok (.iload 8, 2) := by decide +kernel
theorem dL_law_283 : decode cL_law 283 = .ok (.iconst 3, 1) := by decide +kernel
theorem dL_law_284 : decode cL_law 284 = .ok (.iload 10, 2) := by decide +kernel
theorem dL_law_286 : decode cL_law 286 = .ok (.imul, 1) := by decide +kernel
theorem dL_law_287 : decode cL_law 287 = .ok (.ishr, 1) := by decide +kernel
theorem dL_law_288 : decode cL_law 288 = .ok (.iload 8, 2) := by decide +kernel
theorem dL_law_290 : decode cL_law 290 = .ok (.iconst 5, 1) := by decide +kernel
theorem dL_law_291 : decode cL_law 291 = .ok (.iload 10, 2) := by decide +kernel
theorem dL_law_293 : decode cL_law 293 = .ok (.imul, 1) := by decide +kernel
theorem dL_law_294 : decode cL_law 294 = .ok (.ishl, 1) := by decide +kernel
theorem dL_law_295 : decode cL_law 295 = .ok (.ixor, 1) := by decide +kernel
theorem dL_law_296 : decode cL_law 296 = .ok (.invokestatic 187, 3) := by decide +kernel
theorem dL_law_299 : decode cL_law 299 = .ok (.ifCond .eq 7, 3) := by decide +kernel
theorem dL_law_302 : decode cL_law 302 = .ok (.iconst 1, 1) := by decide +kernel
theorem dL_law_303 : decode cL_law 303 = .ok (.goto 4, 3) := by decide +kernel
theorem dL_law_306 : decode cL_law 306 = .ok (.iconst 0, 1) := by decide +kernel
theorem dL_law_307 : decode cL_law 307 = .ok (.istore 9, 2) := by decide +kernel
theorem dL_law_309 : decode cL_law 309 = .ok (.iinc 10 1, 3) := by decide +kernel
theorem dL_law_312 : decode cL_law 312 = .ok (.goto (-57), 3) := by decide +kernel
theorem dL_law_315 : decode cL_law 315 = .ok (.iload 9, 2) := by decide +kernel
theorem dL_law_317 : decode cL_law 317 = .ok (.ifCond .eq 50, 3) := by decide +kernel
theorem dL_law_320 : decode cL_law 320 = .ok (.iload 7, 2) := by decide +kernel
theorem dL_law_322 : decode cL_law 322 = .ok (.iconst 4, 1) := by decide +kernel
theorem dL_law_323 : decode cL_law 323 = .ok (.irem, 1) := by decide +kernel
theorem dL_law_324 : decode cL_law 324 = .ok (.iconst 3, 1) := by decide +kernel
theorem dL_law_325 : decode cL_law 325 = .ok (.if_icmp .ne 12, 3) := by decide +kernel
theorem dL_law_328 : decode cL_law 328 = .ok (.aload_n 1, 1) := by decide +kernel
theorem dL_law_329 : decode cL_law 329 = .ok (.aload_n 2, 1) := by decide +kernel
theorem dL_law_330 : decode cL_law 330 = .ok (.aload_n 3, 1) := by decide +kernel
theorem dL_law_331 : decode cL_law 331 = .ok (.invokestatic 190, 3) := by decide +kernel
theorem dL_law_334 : decode cL_law 334 = .ok (.ifCond .eq 33, 3) := by decide +kernel
theorem dL_law_337 : decode cL_law 337 = .ok (.iload 7, 2) := by decide +kernel
theorem dL_law_339 : decode cL_law 339 = .ok (.iconst 2, 1) := by decide +kernel
theorem dL_law_340 : decode cL_law 340 = .ok (.irem, 1) := by decide +kernel
theorem dL_law_341 : decode cL_law 341 = .ok (.iconst 1, 1) := by decide +kernel
theorem dL_law_342 : decode cL_law 342 = .ok (.if_icmp .ne 14, 3) := by decide +kernel
theorem dL_law_345 : decode cL_law 345 = .ok (.aload_n 1, 1) := by decide +kernel
theorem dL_law_346 : decode cL_law 346 = .ok (.aload_n 2, 1) := by decide +kernel
theorem dL_law_347 : decode cL_law 347 = .ok (.aload_n 3, 1) := by decide +kernel
theorem dL_law_348 : decode cL_law 348 = .ok (.aload 4, 2) := by decide +kernel
theorem dL_law_350 : decode cL_law 350 = .ok (.invokestatic 194, 3) := by decide +kernel
theorem dL_law_353 : decode cL_law 353 = .ok (.ifCond .eq 14, 3) := by decide +kernel
theorem dL_law_356 : decode cL_law 356 = .ok (.aload_n 1, 1) := by decide +kernel
theorem dL_law_357 : decode cL_law 357 = .ok (.aload_n 2, 1) := by decide +kernel
theorem dL_law_358 : decode cL_law 358 = .ok (.aload_n 3, 1) := by decide +kernel
theorem dL_law_359 : decode cL_law 359 = .ok (.aload 4, 2) := by decide +kernel
theorem dL_law_361 : decode cL_law 361 = .ok (.invokestatic 170, 3) := by decide +kernel
theorem dL_law_364 : decode cL_law 364 = .ok (.ifCond .ne 5, 3) := by decide +kernel
theorem dL_law_367 : decode cL_law 367 = .ok (.iconst 0, 1) := by decide +kernel
theorem dL_law_368 : decode cL_law 368 = .ok (.ireturn, 1) := by decide +kernel
theorem dL_law_369 : decode cL_law 369 = .ok (.iinc 7 1, 3) := by decide +kernel
theorem dL_law_372 : decode cL_law 372 = .ok (.goto (-260), 3) := by decide +kernel
theorem dL_law_375 : decode cL_law 375 = .ok (.iconst 1, 1) := by decide +kernel
theorem dL_law_376 : decode cL_law 376 = .ok (.ireturn, 1) := by decide +kernel
