theorem dL_does_5 : decode cL_does 5 = .ok (.aload_n 0, 1) := by decide +kernel
theorem dL_does_6 : decode cL_does 6 = .ok (.invokevirtual 222, 3) := by decide +kernel
theorem dL_does_9 : decode cL_does 9 = .ok (.istore 5, 2) := by decide +kernel
theorem dL_does_11 : decode cL_does 11 = .ok (.iconst 1, 1) := by decide +kernel
theorem dL_does_12 : decode cL_does 12 = .ok (.aload_n 0, 1) := by decide +kernel
theorem dL_does_13 : decode cL_does 13 = .ok (.invokevirtual 228, 3) := by decide +kernel
theorem dL_does_16 : decode cL_does 16 = .ok (.invokestatic 235, 3) := by decide +kernel
theorem dL_does_19 : decode cL_does 19 = .ok (.istore 6, 2) := by decide +kernel
theorem dL_does_21 : decode cL_does 21 = .ok (.iload_n 1, 1) := by decide +kernel
theorem dL_does_22 : decode cL_does 22 = .ok (.bipush 15, 2) := by decide +kernel
theorem dL_does_24 : decode cL_does 24 = .ok (.iand, 1) := by decide +kernel
theorem dL_does_25 : decode cL_does 25 = .ok (.tableswitch 248 0 14 #[75, 75, 75, 75, 75, 86, 86, 97, 97, 108, 126, 154, 182, 200, 221], 75) := by decide +kernel
theorem dL_does_100 : decode cL_does 100 = .ok (.aload_n 0, 1) := by decide +kernel
theorem dL_does_101 : decode cL_does 101 = .ok (.iconst 0, 1) := by decide +kernel
theorem dL_does_102 : decode cL_does 102 = .ok (.iconst 0, 1) := by decide +kernel
theorem dL_does_103 : decode cL_does 103 = .ok (.invokestatic 163, 3) := by decide +kernel
theorem dL_does_106 : decode cL_does 106 = .ok (.istore 7, 2) := by decide +kernel
theorem dL_does_108 : decode cL_does 108 = .ok (.goto 183, 3) := by decide +kernel
theorem dL_does_111 : decode cL_does 111 = .ok (.aload_n 0, 1) := by decide +kernel
theorem dL_does_112 : decode cL_does 112 = .ok (.iconst 1, 1) := by decide +kernel
theorem dL_does_113 : decode cL_does 113 = .ok (.iconst 0, 1) := by decide +kernel
theorem dL_does_114 : decode cL_does 114 = .ok (.invokestatic 163, 3) := by decide +kernel
theorem dL_does_117 : decode cL_does 117 = .ok (.istore 7, 2) := by decide +kernel
theorem dL_does_119 : decode cL_does 119 = .ok (.goto 172, 3) := by decide +kernel
theorem dL_does_122 : decode cL_does 122 = .ok (.aload_n 0, 1) := by decide +kernel
theorem dL_does_123 : decode cL_does 123 = .ok (.iconst 2, 1) := by decide +kernel
theorem dL_does_124 : decode cL_does 124 = .ok (.iconst 0, 1) := by decide +kernel
theorem dL_does_125 : decode cL_does 125 = .ok (.invokestatic 163, 3) := by decide +kernel
theorem dL_does_128 : decode cL_does 128 = .ok (.istore 7, 2) := by decide +kernel
theorem dL_does_130 : decode cL_does 130 = .ok (.goto 161, 3) := by decide +kernel
theorem dL_does_133 : decode cL_does 133 = .ok (.aload_n 0, 1) := by decide +kernel
theorem dL_does_134 : decode cL_does 134 = .ok (.iconst 3, 1) := by decide +kernel
theorem dL_does_135 : decode cL_does 135 = .ok (.iload_n 2, 1) := by decide +kernel
theorem dL_does_136 : decode cL_does 136 = .ok (.sipush 255, 3) := by decide +kernel
theorem dL_does_139 : decode cL_does 139 = .ok (.iand, 1) := by decide +kernel
theorem dL_does_140 : decode cL_does 140 = .ok (.iload 5, 2) := by decide +kernel
theorem dL_does_142 : decode cL_does 142 = .ok (.irem, 1) := by decide +kernel
theorem dL_does_143 : decode cL_does 143 = .ok (.invokestatic 163, 3) := by decide +kernel
theorem dL_does_146 : decode cL_does 146 = .ok (.istore 7, 2) := by decide +kernel
theorem dL_does_148 : decode cL_does 148 = .ok (.goto 143, 3) := by decide +kernel
theorem dL_does_151 : decode cL_does 151 = .ok (.aload_n 0, 1) := by decide +kernel
theorem dL_does_152 : decode cL_does 152 = .ok (.iload_n 2, 1) := by decide +kernel
theorem dL_does_153 : decode cL_does 153 = .ok (.iconst 1, 1) := by decide +kernel
theorem dL_does_154 : decode cL_does 154 = .ok (.iand, 1) := by decide +kernel
theorem dL_does_155 : decode cL_does 155 = .ok (.ifCond .ne 7, 3) := by decide +kernel
theorem dL_does_158 : decode cL_does 158 = .ok (.iconst 1, 1) := by decide +kernel
theorem dL_does_159 : decode cL_does 159 = .ok (.goto 4, 3) := by decide +kernel
theorem dL_does_162 : decode cL_does 162 = .ok (.iconst 0, 1) := by decide +kernel
theorem dL_does_163 : decode cL_does 163 = .ok (.invokevirtual 275, 3) := by decide +kernel
theorem dL_does_166 : decode cL_does 166 = .ok (.ifCond .eq 7, 3) := by decide +kernel
theorem dL_does_169 : decode cL_does 169 = .ok (.iconst 1, 1) := by decide +kernel
theorem dL_does_170 : decode cL_does 170 = .ok (.goto 4, 3) := by decide +kernel
theorem dL_does_173 : decode cL_does 173 = .ok (.iconst 0, 1) := by decide +kernel
theorem dL_does_174 : decode cL_does 174 = .ok (.istore 7, 2) := by decide +kernel
theorem dL_does_176 : decode cL_does 176 = .ok (.goto 115, 3) := by decide +kernel
theorem dL_does_179 : decode cL_does 179 = .ok (.aload_n 0, 1) := by decide +kernel
theorem dL_does_180 : decode cL_does 180 = .ok (.iconst 4, 1) := by decide +kernel
theorem dL_does_181 : decode cL_does 181 = .ok (.iload_n 2, 1) := by decide +kernel
theorem dL_does_182 : decode cL_does 182 = .ok (.sipush 255, 3) := by decide +kernel
theorem dL_does_185 : decode cL_does 185 = .ok (.iand, 1) := by decide +kernel
theorem dL_does_186 : decode cL_does 186 = .ok (.iload 6, 2) := by decide +kernel
theorem dL_does_188 : decode cL_does 188 = .ok (.irem, 1) := by decide +kernel
theorem dL_does_189 : decode cL_does 189 = .ok (.iload_n 2, 1) := by decide +kernel
theorem dL_does_190 : decode cL_does 190 = .ok (.iconst 3, 1) := by decide +kernel
theorem dL_does_191 : decode cL_does 191 = .ok (.ishr, 1) := by decide +kernel
theorem dL_does_192 : decode cL_does 192 = .ok (.sipush 255, 3) := by decide +kernel
theorem dL_does_195 : decode cL_does 195 = .ok (.iand, 1) := by decide +kernel
theorem dL_does_196 : decode cL_does 196 = .ok (.iload 5, 2) := by decide +kernel
theorem dL_does_198 : decode cL_does 198 = .ok (.irem, 1) := by decide +kernel
theorem dL_does_199 : decode cL_does 199 = .ok (.invokestatic 272, 3) := by decide +kernel
theorem dL_does_202 : decode cL_does 202 = .ok (.istore 7, 2) := by decide +kernel
theorem dL_does_204 : decode cL_does 204 = .ok (.goto 87, 3) := by decide +kernel
theorem dL_does_207 : decode cL_does 207 = .ok (.aload_n 0, 1) := by decide +kernel
theorem dL_does_208 : decode cL_does 208 = .ok (.iconst 5, 1) := by decide +kernel
theorem dL_does_209 : decode cL_does 209 = .ok (.iload_n 2, 1) := by decide +kernel
theorem dL_does_210 : decode cL_does 210 = .ok (.sipush 255, 3) := by decide +kernel
theorem dL_does_213 : decode cL_does 213 = .ok (.iand, 1) := by decide +kernel
theorem dL_does_214 : decode cL_does 214 = .ok (.iload 6, 2) := by decide +kernel
theorem dL_does_216 : decode cL_does 216 = .ok (.irem, 1) := by decide +kernel
theorem dL_does_217 : decode cL_does 217 = .ok (.invokestatic 163, 3) := by decide +kernel
theorem dL_does_220 : decode cL_does 220 = .ok (.istore 7, 2) := by decide +kernel
theorem dL_does_222 : decode cL_does 222 = .ok (.goto 69, 3) := by decide +kernel
theorem dL_does_225 : decode cL_does 225 = .ok (.aload_n 0, 1) := by decide +kernel
theorem dL_does_226 : decode cL_does 226 = .ok (.bipush 6, 2) := by decide +kernel
theorem dL_does_228 : decode cL_does 228 = .ok (.iload_n 2, 1) := by decide +kernel
theorem dL_does_229 : decode cL_does 229 = .ok (.bipush 63, 2) := by decide +kernel
theorem dL_does_231 : decode cL_does 231 = .ok (.iand, 1) := by decide +kernel
theorem dL_does_232 : decode cL_does 232 = .ok (.iload_n 2, 1) := by decide +kernel
theorem dL_does_233 : decode cL_does 233 = .ok (.iconst 4, 1) := by decide +kernel
theorem dL_does_234 : decode cL_does 234 = .ok (.ishr, 1) := by decide +kernel
theorem dL_does_235 : decode cL_does 235 = .ok (.bipush 127, 2) := by decide +kernel
theorem dL_does_237 : decode cL_does 237 = .ok (.iand, 1) := by decide +kernel
theorem dL_does_238 : decode cL_does 238 = .ok (.invokestatic 272, 3) := by decide +kernel
theorem dL_does_241 : decode cL_does 241 = .ok (.istore 7, 2) := by decide +kernel
theorem dL_does_243 : decode cL_does 243 = .ok (.goto 48, 3) := by decide +kernel
theorem dL_does_246 : decode cL_does 246 = .ok (.aload_n 0, 1) := by decide +kernel
theorem dL_does_247 : decode cL_does 247 = .ok (.iload_n 2, 1) := by decide +kernel
theorem dL_does_248 : decode cL_does 248 = .ok (.iconst 1, 1) := by decide +kernel
theorem dL_does_249 : decode cL_does 249 = .ok (.iand, 1) := by decide +kernel
theorem dL_does_250 : decode cL_does 250 = .ok (.ifCond .ne 8, 3) := by decide +kernel
theorem dL_does_253 : decode cL_does 253 = .ok (.bipush 8, 2) := by decide +kernel
theorem dL_does_255 : decode cL_does 255 = .ok (.goto 5, 3) := by decide +kernel
theorem dL_does_258 : decode cL_does 258 = .ok (.bipush 9, 2) := by decide +kernel
theorem dL_does_260 : decode cL_does 260 = .ok (.iload_n 2, 1) := by decide +kernel
theorem dL_does_261 : decode cL_does 261 = .ok (.iconst 1, 1) := by decide +kernel
theorem dL_does_262 : decode cL_does 262 = .ok (.ishr, 1) := by decide +kernel
theorem dL_does_263 : decode cL_does 263 = .ok (.iconst 1, 1) := by decide +kernel
theorem dL_does_264 : decode cL_does 264 = .ok (.iand, 1) := by decide +kernel
theorem dL_does_265 : decode cL_does 265 = .ok (.invokestatic 163, 3) := by decide +kernel
theorem dL_does_268 : decode cL_does 268 = .ok (.istore 7, 2) := by decide +kernel
theorem dL_does_270 : decode cL_does 270 = .ok (.goto 21, 3) := by decide +kernel
theorem dL_does_273 : decode cL_does 273 = .ok (.aload_n 0, 1) := by decide +kernel
theorem dL_does_274 : decode cL_does 274 = .ok (.bipush 7, 2) := by decide +kernel
theorem dL_does_276 : decode cL_does 276 = .ok (.iconst 0, 1) := by decide +kernel
theorem dL_does_277 : decode cL_does 277 = .ok (.invokestatic 163, 3) := by decide +kernel
theorem dL_does_280 : decode cL_does 280 = .ok (.bipush (-104), 2) := by decide +kernel
theorem dL_does_282 : decode cL_does 282 = .ok (.if_icmp .eq 7, 3) := by decide +kernel
theorem dL_does_285 : decode cL_does 285 = .ok (.iconst 1, 1) := by decide +kernel
theorem dL_does_286 : decode cL_does 286 = .ok (.goto 4, 3) := by decide +kernel
theorem dL_does_289 : decode cL_does 289 = .ok (.iconst 0, 1) := by decide +kernel
theorem dL_does_290 : decode cL_does 290 = .ok (.ireturn, 1) := by decide +kernel
theorem dL_does_291 : decode cL_does 291 = .ok (.iload 7, 2) := by decide +kernel
theorem dL_does_293 : decode cL_does 293 = .ok (.ifCond .ge 12, 3) := by decide +kernel
theorem dL_does_296 : decode cL_does 296 = .ok (.aload_n 0, 1) := by decide +kernel
theorem dL_does_297 : decode cL_does 297 = .ok (.invokestatic 257, 3) := by decide +kernel
theorem dL_does_300 : decode cL_does 300 = .ok (.lload_n 3, 1) := by decide +kernel
theorem dL_does_301 : decode cL_does 301 = .ok (.lcmp, 1) := by decide +kernel
theorem dL_does_302 : decode cL_does 302 = .ok (.ifCond .ne 7, 3) := by decide +kernel
theorem dL_does_305 : decode cL_does 305 = .ok (.iconst 1, 1) := by decide +kernel
theorem dL_does_306 : decode cL_does 306 = .ok (.goto 4, 3) := by decide +kernel
theorem dL_does_309 : decode cL_does 309 = .ok (.iconst 0, 1) := by decide +kernel
theorem dL_does_310 : decode cL_does 310 = .ok (.ireturn, 1) := by decide +kernel
theorem dL_law_0 : decode cL_law 0 = .ok (.bipush 6, 2) := by decide +kernel
theorem dL_law_2 : decode cL_law 2 = .ok (.newarray .int, 2) := by decide +kernel
theorem dL_law_4 : decode cL_law 4 = .ok (.astore_n 1, 1) := by decide +kernel
theorem dL_law_5 : decode cL_law 5 = .ok (.iconst 0, 1) := by decide +kernel
theorem dL_law_6 : decode cL_law 6 = .ok (.istore_n 2, 1) := by decide +kernel
theorem dL_law_7 : decode cL_law 7 = .ok (.iload_n 2, 1) := by decide +kernel
theorem dL_law_8 : decode cL_law 8 = .ok (.bipush 6, 2) := by decide +kernel
theorem dL_law_10 : decode cL_law 10 = .ok (.if_icmp .ge 25, 3) := by decide +kernel
theorem dL_law_13 : decode cL_law 13 = .ok (.iload_n 2, 1) := by decide +kernel
theorem dL_law_14 : decode cL_law 14 = .ok (.aload_n 0, 1) := by decide +kernel
theorem dL_law_15 : decode cL_law 15 = .ok (.arraylength, 1) := by decide +kernel
theorem dL_law_16 : decode cL_law 16 = .ok (.if_icmp .ge 19, 3) := by decide +kernel
theorem dL_law_19 : decode cL_law 19 = .ok (.aload_n 1, 1) := by decide +kernel
theorem dL_law_20 : decode cL_law 20 = .ok (.iload_n 2, 1) := by decide +kernel
theorem dL_law_21 : decode cL_law 21 = .ok (.aload_n 0, 1) := by decide +kernel
theorem dL_law_22 : decode cL_law 22 = .ok (.iload_n 2, 1) := by decide +kernel
theorem dL_law_23 : decode cL_law 23 = .ok (.iaload, 1) := by decide +kernel
theorem dL_law_24 : decode cL_law 24 = .ok (.ldc_w 279, 3) := by decide +kernel
theorem dL_law_27 : decode cL_law 27 = .ok (.iand, 1) := by decide +kernel
theorem dL_law_28 : decode cL_law 28 = .ok (.iastore, 1) := by decide +kernel
theorem dL_law_29 : decode cL_law 29 = .ok (.iinc 2 1, 3) := by decide +kernel
theorem dL_law_32 : decode cL_law 32 = .ok (.goto (-25), 3) := by decide +kernel
theorem dL_law_35 : decode cL_law 35 = .ok (.new 8, 3) := by decide +kernel
theorem dL_law_38 : decode cL_law 38 = .ok (.dup, 1) := by decide +kernel
theorem dL_law_39 : decode cL_law 39 = .ok (.invokespecial 280, 3) := by decide +kernel
theorem dL_law_42 : decode cL_law 42 = .ok (.astore_n 2, 1) := by decide +kernel
theorem dL_law_43 : decode cL_law 43 = .ok (.aload_n 2, 1) := by decide +kernel
theorem dL_law_44 : decode cL_law 44 = .ok (.bipush 7, 2) := by decide +kernel
theorem dL_law_46 : decode cL_law 46 = .ok (.iconst 0, 1) := by decide +kernel
theorem dL_law_47 : decode cL_law 47 = .ok (.invokestatic 163, 3) := by decide +kernel
theorem dL_law_50 : decode cL_law 50 = .ok (.bipush (-102), 2) := by decide +kernel
theorem dL_law_52 : decode cL_law 52 = .ok (.if_icmp .ne 104, 3) := by decide +kernel
theorem dL_law_55 : decode cL_law 55 = .ok (.aload_n 2, 1) := by decide +kernel
theorem dL_law_56 : decode cL_law 56 = .ok (.invokevirtual 222, 3) := by decide +kernel
theorem dL_law_59 : decode cL_law 59 = .ok (.iconst 3, 1) := by decide +kernel
theorem dL_law_60 : decode cL_law 60 = .ok (.if_icmp .ne 96, 3) := by decide +kernel
theorem dL_law_63 : decode cL_law 63 = .ok (.aload_n 2, 1) := by decide +kernel
theorem dL_law_64 : decode cL_law 64 = .ok (.invokevirtual 225, 3) := by decide +kernel
theorem dL_law_67 : decode cL_law 67 = .ok (.iconst 2, 1) := by decide +kernel
theorem dL_law_68 : decode cL_law 68 = .ok (.if_icmp .ne 88, 3) := by decide +kernel
theorem dL_law_71 : decode cL_law 71 = .ok (.aload_n 2, 1) := by decide +kernel
theorem dL_law_72 : decode cL_law 72 = .ok (.invokevirtual 228, 3) := by decide +kernel
theorem dL_law_75 : decode cL_law 75 = .ok (.iconst 3, 1) := by decide +kernel
theorem dL_law_76 : decode cL_law 76 = .ok (.if_icmp .ne 80, 3) := by decide +kernel
theorem dL_law_79 : decode cL_law 79 = .ok (.aload_n 2, 1) := by decide +kernel
theorem dL_law_80 : decode cL_law 80 = .ok (.invokevirtual 231, 3) := by decide +kernel
theorem dL_law_83 : decode cL_law 83 = .ok (.sipush 200, 3) := by decide +kernel
theorem dL_law_86 : decode cL_law 86 = .ok (.if_icmp .ne 70, 3) := by decide +kernel
theorem dL_law_89 : decode cL_law 89 = .ok (.aload_n 2, 1) := by decide +kernel
theorem dL_law_90 : decode cL_law 90 = .ok (.bipush 28, 2) := by decide +kernel
theorem dL_law_92 : decode cL_law 92 = .ok (.iconst 1, 1) := by decide +kernel
theorem dL_law_93 : decode cL_law 93 = .ok (.invokestatic 163, 3) := by decide +kernel
theorem dL_law_96 : decode cL_law 96 = .ok (.bipush 25, 2) := by decide +kernel
theorem dL_law_98 : decode cL_law 98 = .ok (.if_icmp .ne 58, 3) := by decide +kernel
theorem dL_law_101 : decode cL_law 101 = .ok (.aload_n 2, 1) := by decide +kernel
theorem dL_law_102 : decode cL_law 102 = .ok (.bipush 13, 2) := by decide +kernel
theorem dL_law_104 : decode cL_law 104 = .ok (.iconst 0, 1) := by decide +kernel
theorem dL_law_105 : decode cL_law 105 = .ok (.invokestatic 163, 3) := by decide +kernel
theorem dL_law_108 : decode cL_law 108 = .ok (.bipush (-101), 2) := by decide +kernel
theorem dL_law_110 : decode cL_law 110 = .ok (.if_icmp .ne 46, 3) := by decide +kernel
theorem dL_law_113 : decode cL_law 113 = .ok (.aload_n 2, 1) := by decide +kernel
theorem dL_law_114 : decode cL_law 114 = .ok (.bipush 41, 2) := by decide +kernel
theorem dL_law_116 : decode cL_law 116 = .ok (.iconst 0, 1) := by decide +kernel
theorem dL_law_117 : decode cL_law 117 = .ok (.invokestatic 163, 3) := by decide +kernel
theorem dL_law_120 : decode cL_law 120 = .ok (.bipush (-104), 2) := by decide +kernel
theorem dL_law_122 : decode cL_law 122 = .ok (.if_icmp .ne 34, 3) := by decide +kernel
theorem dL_law_125 : decode cL_law 125 = .ok (.aload_n 2, 1) := by decide +kernel
theorem dL_law_126 : decode cL_law 126 = .ok (.bipush 9, 2) := by decide +kernel
theorem dL_law_128 : decode cL_law 128 = .ok (.iconst 0, 1) := by decide +kernel
theorem dL_law_129 : decode cL_law 129 = .ok (.invokestatic 163, 3) := by decide +kernel
theorem dL_law_132 : decode cL_law 132 = .ok (.bipush (-101), 2) := by decide +kernel
theorem dL_law_134 : decode cL_law 134 = .ok (.if_icmp .ne 22, 3) := by decide +kernel
theorem dL_law_137 : decode cL_law 137 = .ok (.aload_n 2, 1) := by decide +kernel
theorem dL_law_138 : decode cL_law 138 = .ok (.invokestatic 268, 3) := by decide +kernel
theorem dL_law_141 : decode cL_law 141 = .ok (.ifCond .eq 15, 3) := by decide +kernel
theorem dL_law_144 : decode cL_law 144 = .ok (.aload_n 2, 1) := by decide +kernel
theorem dL_law_145 : decode cL_law 145 = .ok (.iconst 0, 1) := by decide +kernel
theorem dL_law_146 : decode cL_law 146 = .ok (.invokestatic 281, 3) := by decide +kernel
theorem dL_law_149 : decode cL_law 149 = .ok (.ifCond .eq 7, 3) := by decide +kernel
theorem dL_law_152 : decode cL_law 152 = .ok (.iconst 1, 1) := by decide +kernel
theorem dL_law_153 : decode cL_law 153 = .ok (.goto 4, 3) := by decide +kernel
theorem dL_law_156 : decode cL_law 156 = .ok (.iconst 0, 1) := by decide +kernel
theorem dL_law_157 : decode cL_law 157 = .ok (.istore_n 3, 1) := by decide +kernel
theorem dL_law_158 : decode cL_law 158 = .ok (.iconst 0, 1) := by decide +kernel
theorem dL_law_159 : decode cL_law 159 = .ok (.istore 4, 2) := by decide +kernel
theorem dL_law_161 : decode cL_law 161 = .ok (.iload 4, 2) := by decide +kernel
theorem dL_law_163 : decode cL_law 163 = .ok (.iconst 1, 1) := by decide +kernel
theorem dL_law_164 : decode cL_law 164 = .ok (.iadd, 1) := by decide +kernel
theorem dL_law_165 : decode cL_law 165 = .ok (.bipush 6, 2) := by decide +kernel
theorem dL_law_167 : decode cL_law 167 = .ok (.if_icmp .ge 214, 3) := by decide +kernel
theorem dL_law_170 : decode cL_law 170 = .ok (.iload_n 3, 1) := by decide +kernel
theorem dL_law_171 : decode cL_law 171 = .ok (.ifCond .eq 210, 3) := by decide +kernel
theorem dL_law_174 : decode cL_law 174 = .ok (.iload 4, 2) := by decide +kernel
theorem dL_law_176 : decode cL_law 176 = .ok (.iconst 2, 1) := by decide +kernel
theorem dL_law_177 : decode cL_law 177 = .ok (.if_icmp .eq 62, 3) := by decide +kernel
theorem dL_law_180 : decode cL_law 180 = .ok (.aload_n 2, 1) := by decide +kernel
theorem dL_law_181 : decode cL_law 181 = .ok (.aload_n 1, 1) := by decide +kernel
theorem dL_law_182 : decode cL_law 182 = .ok (.iload 4, 2) := by decide +kernel
theorem dL_law_184 : decode cL_law 184 = .ok (.iaload, 1) := by decide +kernel
theorem dL_law_185 : decode cL_law 185 = .ok (.aload_n 1, 1) := by decide +kernel
theorem dL_law_186 : decode cL_law 186 = .ok (.iload 4, 2) := by decide +kernel
theorem dL_law_188 : decode cL_law 188 = .ok (.iconst 1, 1) := by decide +kernel
theorem dL_law_189 : decode cL_law 189 = .ok (.iadd, 1) := by decide +kernel
theorem dL_law_190 : decode cL_law 190 = .ok (.iaload, 1) := by decide +kernel
theorem dL_law_191 : decode cL_law 191 = .ok (.invokestatic 284, 3) := by decide +kernel
theorem dL_law_194 : decode cL_law 194 = .ok (.invokestatic 288, 3) := by decide +kernel
theorem dL_law_197 : decode cL_law 197 = .ok (.ifCond .eq 40, 3) := by decide +kernel
theorem dL_law_200 : decode cL_law 200 = .ok (.aload_n 2, 1) := by decide +kernel
theorem dL_law_201 : decode cL_law 201 = .ok (.bipush 10, 2) := by decide +kernel
theorem dL_law_203 : decode cL_law 203 = .ok (.iconst 0, 1) := by decide +kernel
theorem dL_law_204 : decode cL_law 204 = .ok (.invokestatic 163, 3) := by decide +kernel
theorem dL_law_207 : decode cL_law 207 = .ok (.aload_n 2, 1) := by decide +kernel
theorem dL_law_208 : decode cL_law 208 = .ok (.invokevirtual 222, 3) := by decide +kernel
theorem dL_law_211 : decode cL_law 211 = .ok (.if_icmp .ne 26, 3) := by decide +kernel
theorem dL_law_214 : decode cL_law 214 = .ok (.aload_n 2, 1) := by decide +kernel
theorem dL_law_215 : decode cL_law 215 = .ok (.invokevirtual 292, 3) := by decide +kernel
theorem dL_law_218 : decode cL_law 218 = .ok (.ifCond .ne 19, 3) := by decide +kernel
theorem dL_law_221 : decode cL_law 221 = .ok (.aload_n 2, 1) := by decide +kernel
theorem dL_law_222 : decode cL_law 222 = .ok (.bipush 7, 2) := by decide +kernel
theorem dL_law_224 : decode cL_law 224 = .ok (.iconst 0, 1) := by decide +kernel
theorem dL_law_225 : decode cL_law 225 = .ok (.invokestatic 163, 3) := by decide +kernel
theorem dL_law_228 : decode cL_law 228 = .ok (.bipush (-102), 2) := by decide +kernel
theorem dL_law_230 : decode cL_law 230 = .ok (.if_icmp .ne 7, 3) := by decide +kernel
theorem dL_law_233 : decode cL_law 233 = .ok (.iconst 1, 1) := by decide +kernel
theorem dL_law_234 : decode cL_law 234 = .ok (.goto 4, 3) := by decide +kernel
theorem dL_law_237 : decode cL_law 237 = .ok (.iconst 0, 1) := by decide +kernel
theorem dL_law_238 : decode cL_law 238 = .ok (.istore_n 3, 1) := by decide +kernel
theorem dL_law_239 : decode cL_law 239 = .ok (.iconst 0, 1) := by decide +kernel
theorem dL_law_240 : decode cL_law 240 = .ok (.istore 5, 2) := by decide +kernel
theorem dL_law_242 : decode cL_law 242 = .ok (.iload 5, 2) := by decide +kernel
theorem dL_law_244 : decode cL_law 244 = .ok (.bipush 9, 2) := by decide +kernel
theorem dL_law_246 : decode cL_law 246 = .ok (.if_icmp .ge 38, 3) := by decide +kernel
theorem dL_law_249 : decode cL_law 249 = .ok (.iload_n 3, 1) := by decide +kernel
theorem dL_law_250 : decode cL_law 250 = .ok (.ifCond .eq 34, 3) := by decide +kernel
theorem dL_law_253 : decode cL_law 253 = .ok (.aload_n 2, 1) := by decide +kernel
theorem dL_law_254 : decode cL_law 254 = .ok (.aload_n 1, 1) := by decide +kernel
theorem dL_law_255 : decode cL_law 255 = .ok (.iload 4, 2) := by decide +kernel
theorem dL_law_257 : decode cL_law 257 = .ok (.iaload, 1) := by decide +kernel
theorem dL_law_258 : decode cL_law 258 = .ok (.iconst 3, 1) := by decide +kernel
theorem dL_law_259 : decode cL_law 259 = .ok (.iload 5, 2) := by decide +kernel
theorem dL_law_261 : decode cL_law 261 = .ok (.imul, 1) := by decide +kernel
theorem dL_law_262 : decode cL_law 262 = .ok (.ishr, 1) := by decide +kernel
theorem dL_law_263 : decode cL_law 263 = .ok (.aload_n 1, 1) := by decide +kernel
theorem dL_law_264 : decode cL_law 264 = .ok (.iload 4, 2) := by decide +kernel
theorem dL_law_266 : decode cL_law 266 = .ok (.iconst 1, 1) := by decide +kernel
theorem dL_law_267 : decode cL_law 267 = .ok (.iadd, 1) := by decide +kernel
theorem dL_law_268 : decode cL_law 268 = .ok (.iaload, 1) := by decide +kernel
theorem dL_law_269 : decode cL_law 269 = .ok (.iconst 2, 1) := by decide +kernel
theorem dL_law_270 : decode cL_law 270 = .ok (.iload 5, 2) := by decide +kernel
theorem dL_law_272 : decode cL_law 272 = .ok (.imul, 1) := by decide +kernel
theorem dL_law_273 : decode cL_law 273 = .ok (.ishr, 1) := by decide +kernel
theorem dL_law_274 : decode cL_law 274 = .ok (.invokestatic 295, 3) := by decide +kernel
theorem dL_law_277 : decode cL_law 277 = .ok (.istore_n 3, 1) := by decide +kernel
theorem dL_law_278 : decode cL_law 278 = .ok (.iinc 5 1, 3) := by decide +kernel
theorem dL_law_281 : decode cL_law 281 = .ok (.goto (-39), 3) := by decide +kernel
theorem dL_law_284 : decode cL_law 284 = .ok (.iload_n 3, 1) := by decide +kernel
theorem dL_law_285 : decode cL_law 285 = .ok (.ifCond .eq 10, 3) := by decide +kernel
theorem dL_law_288 : decode cL_law 288 = .ok (.aload_n 2, 1) := by decide +kernel
theorem dL_law_289 : decode cL_law 289 = .ok (.invokestatic 257, 3) := by decide +kernel
theorem dL_law_292 : decode cL_law 292 = .ok (.goto 4, 3) := by decide +kernel
theorem dL_law_295 : decode cL_law 295 = .ok (.lconst 0, 1) := by decide +kernel
theorem dL_law_296 : decode cL_law 296 = .ok (.lstore 5, 2) := by decide +kernel
theorem dL_law_298 : decode cL_law 298 = .ok (.iload_n 3, 1) := by decide +kernel
theorem dL_law_299 : decode cL_law 299 = .ok (.ifCond .eq 74, 3) := by decide +kernel
theorem dL_law_302 : decode cL_law 302 = .ok (.aload_n 2, 1) := by decide +kernel
theorem dL_law_303 : decode cL_law 303 = .ok (.invokestatic 268, 3) := by decide +kernel
theorem dL_law_306 : decode cL_law 306 = .ok (.ifCond .eq 67, 3) := by decide +kernel
theorem dL_law_309 : decode cL_law 309 = .ok (.aload_n 2, 1) := by decide +kernel
theorem dL_law_310 : decode cL_law 310 = .ok (.invokestatic 257, 3) := by decide +kernel
theorem dL_law_313 : decode cL_law 313 = .ok (.lload 5, 2) := by decide +kernel
theorem dL_law_315 : decode cL_law 315 = .ok (.lcmp, 1) := by decide +kernel
theorem dL_law_316 : decode cL_law 316 = .ok (.ifCond .ne 57, 3) := by decide +kernel
theorem dL_law_319 : decode cL_law 319 = .ok (.aload_n 2, 1) := by decide +kernel
theorem dL_law_320 : decode cL_law 320 = .ok (.iconst 0, 1) := by decide +kernel
theorem dL_law_321 : decode cL_law 321 = .ok (.invokestatic 281, 3) := by decide +kernel
theorem dL_law_324 : decode cL_law 324 = .ok (.ifCond .eq 49, 3) := by decide +kernel
theorem dL_law_327 : decode cL_law 327 = .ok (.aload_n 2, 1) := by decide +kernel
theorem dL_law_328 : decode cL_law 328 = .ok (.iconst 1, 1) := by decide +kernel
theorem dL_law_329 : decode cL_law 329 = .ok (.invokestatic 281, 3) := by decide +kernel
theorem dL_law_332 : decode cL_law 332 = .ok (.ifCond .eq 41, 3) := by decide +kernel
theorem dL_law_335 : decode cL_law 335 = .ok (.aload_n 2, 1) := by decide +kernel
theorem dL_law_336 : decode cL_law 336 = .ok (.aload_n 1, 1) := by decide +kernel
theorem dL_law_337 : decode cL_law 337 = .ok (.iload 4, 2) := by decide +kernel
theorem dL_law_339 : decode cL_law 339 = .ok (.iaload, 1) := by decide +kernel
theorem dL_law_340 : decode cL_law 340 = .ok (.invokestatic 299, 3) := by decide +kernel
theorem dL_law_343 : decode cL_law 343 = .ok (.ifCond .eq 30, 3) := by decide +kernel
theorem dL_law_346 : decode cL_law 346 = .ok (.aload_n 2, 1) := by decide +kernel
theorem dL_law_347 : decode cL_law 347 = .ok (.aload_n 1, 1) := by decide +kernel
theorem dL_law_348 : decode cL_law 348 = .ok (.iload 4, 2) := by decide +kernel
theorem dL_law_350 : decode cL_law 350 = .ok (.iconst 1, 1) := by decide +kernel
theorem dL_law_351 : decode cL_law 351 = .ok (.iadd, 1) := by decide +kernel
theorem dL_law_352 : decode cL_law 352 = .ok (.iaload, 1) := by decide +kernel
theorem dL_law_353 : decode cL_law 353 = .ok (.invokestatic 303, 3) := by decide +kernel
theorem dL_law_356 : decode cL_law 356 = .ok (.ifCond .eq 17, 3) := by decide +kernel
theorem dL_law_359 : decode cL_law 359 = .ok (.aload_n 2, 1) := by decide +kernel
theorem dL_law_360 : decode cL_law 360 = .ok (.invokestatic 257, 3) := by decide +kernel
theorem dL_law_363 : decode cL_law 363 = .ok (.lload 5, 2) := by decide +kernel
theorem dL_law_365 : decode cL_law 365 = .ok (.lcmp, 1) := by decide +kernel
theorem dL_law_366 : decode cL_law 366 = .ok (.ifCond .ne 7, 3) := by decide +kernel
theorem dL_law_369 : decode cL_law 369 = .ok (.iconst 1, 1) := by decide +kernel
theorem dL_law_370 : decode cL_law 370 = .ok (.goto 4, 3) := by decide +kernel
theorem dL_law_373 : decode cL_law 373 = .ok (.iconst 0, 1) := by decide +kernel
theorem dL_law_374 : decode cL_law 374 = .ok (.istore_n 3, 1) := by decide +kernel
theorem dL_law_375 : decode cL_law 375 = .ok (.iinc 4 2, 3) := by decide +kernel
theorem dL_law_378 : decode cL_law 378 = .ok (.goto (-217), 3) := by decide +kernel
theorem dL_law_381 : decode cL_law 381 = .ok (.iload_n 3, 1) := by decide +kernel
theorem dL_law_382 : decode cL_law 382 = .ok (.ireturn, 1) := by decide +kernel
