/-! A row that decodes each instruction. Printed. -/
theorem kd_Mo_init_0 : decode kc_Mo_init 0 = .ok (.aload_n 0, 1) := by decide +kernel
theorem kd_Mo_init_1 : decode kc_Mo_init 1 = .ok (.invokespecial 1, 3) := by decide +kernel
theorem kd_Mo_init_4 : decode kc_Mo_init 4 = .ok (.aload_n 0, 1) := by decide +kernel
theorem kd_Mo_init_5 : decode kc_Mo_init 5 = .ok (.sipush 512, 3) := by decide +kernel
theorem kd_Mo_init_8 : decode kc_Mo_init 8 = .ok (.newarray .int, 2) := by decide +kernel
theorem kd_Mo_init_10 : decode kc_Mo_init 10 = .ok (.putfield 7, 3) := by decide +kernel
theorem kd_Mo_init_13 : decode kc_Mo_init 13 = .ok (.aload_n 0, 1) := by decide +kernel
theorem kd_Mo_init_14 : decode kc_Mo_init 14 = .ok (.bipush 8, 2) := by decide +kernel
theorem kd_Mo_init_16 : decode kc_Mo_init 16 = .ok (.newarray .int, 2) := by decide +kernel
theorem kd_Mo_init_18 : decode kc_Mo_init 18 = .ok (.putfield 13, 3) := by decide +kernel
theorem kd_Mo_init_21 : decode kc_Mo_init 21 = .ok (.aload_n 0, 1) := by decide +kernel
theorem kd_Mo_init_22 : decode kc_Mo_init 22 = .ok (.bipush 16, 2) := by decide +kernel
theorem kd_Mo_init_24 : decode kc_Mo_init 24 = .ok (.newarray .boolean, 2) := by decide +kernel
theorem kd_Mo_init_26 : decode kc_Mo_init 26 = .ok (.putfield 16, 3) := by decide +kernel
theorem kd_Mo_init_29 : decode kc_Mo_init 29 = .ok (.aload_n 0, 1) := by decide +kernel
theorem kd_Mo_init_30 : decode kc_Mo_init 30 = .ok (.bipush 16, 2) := by decide +kernel
theorem kd_Mo_init_32 : decode kc_Mo_init 32 = .ok (.newarray .int, 2) := by decide +kernel
theorem kd_Mo_init_34 : decode kc_Mo_init 34 = .ok (.putfield 20, 3) := by decide +kernel
theorem kd_Mo_init_37 : decode kc_Mo_init 37 = .ok (.aload_n 0, 1) := by decide +kernel
theorem kd_Mo_init_38 : decode kc_Mo_init 38 = .ok (.bipush 16, 2) := by decide +kernel
theorem kd_Mo_init_40 : decode kc_Mo_init 40 = .ok (.newarray .int, 2) := by decide +kernel
theorem kd_Mo_init_42 : decode kc_Mo_init 42 = .ok (.putfield 23, 3) := by decide +kernel
theorem kd_Mo_init_45 : decode kc_Mo_init 45 = .ok (.aload_n 0, 1) := by decide +kernel
theorem kd_Mo_init_46 : decode kc_Mo_init 46 = .ok (.bipush 16, 2) := by decide +kernel
theorem kd_Mo_init_48 : decode kc_Mo_init 48 = .ok (.newarray .int, 2) := by decide +kernel
theorem kd_Mo_init_50 : decode kc_Mo_init 50 = .ok (.putfield 26, 3) := by decide +kernel
theorem kd_Mo_init_53 : decode kc_Mo_init 53 = .ok (.aload_n 0, 1) := by decide +kernel
theorem kd_Mo_init_54 : decode kc_Mo_init 54 = .ok (.bipush 16, 2) := by decide +kernel
theorem kd_Mo_init_56 : decode kc_Mo_init 56 = .ok (.newarray .int, 2) := by decide +kernel
theorem kd_Mo_init_58 : decode kc_Mo_init 58 = .ok (.putfield 29, 3) := by decide +kernel
theorem kd_Mo_init_61 : decode kc_Mo_init 61 = .ok (.aload_n 0, 1) := by decide +kernel
theorem kd_Mo_init_62 : decode kc_Mo_init 62 = .ok (.bipush 16, 2) := by decide +kernel
theorem kd_Mo_init_64 : decode kc_Mo_init 64 = .ok (.newarray .int, 2) := by decide +kernel
theorem kd_Mo_init_66 : decode kc_Mo_init 66 = .ok (.putfield 32, 3) := by decide +kernel
theorem kd_Mo_init_69 : decode kc_Mo_init 69 = .ok (.aload_n 0, 1) := by decide +kernel
theorem kd_Mo_init_70 : decode kc_Mo_init 70 = .ok (.bipush 16, 2) := by decide +kernel
theorem kd_Mo_init_72 : decode kc_Mo_init 72 = .ok (.newarray .int, 2) := by decide +kernel
theorem kd_Mo_init_74 : decode kc_Mo_init 74 = .ok (.putfield 35, 3) := by decide +kernel
theorem kd_Mo_init_77 : decode kc_Mo_init 77 = .ok (.aload_n 0, 1) := by decide +kernel
theorem kd_Mo_init_78 : decode kc_Mo_init 78 = .ok (.bipush 16, 2) := by decide +kernel
theorem kd_Mo_init_80 : decode kc_Mo_init 80 = .ok (.newarray .int, 2) := by decide +kernel
theorem kd_Mo_init_82 : decode kc_Mo_init 82 = .ok (.putfield 38, 3) := by decide +kernel
theorem kd_Mo_init_85 : decode kc_Mo_init 85 = .ok (.aload_n 0, 1) := by decide +kernel
theorem kd_Mo_init_86 : decode kc_Mo_init 86 = .ok (.bipush 16, 2) := by decide +kernel
theorem kd_Mo_init_88 : decode kc_Mo_init 88 = .ok (.newarray .int, 2) := by decide +kernel
theorem kd_Mo_init_90 : decode kc_Mo_init 90 = .ok (.putfield 41, 3) := by decide +kernel
theorem kd_Mo_init_93 : decode kc_Mo_init 93 = .ok (.aload_n 0, 1) := by decide +kernel
theorem kd_Mo_init_94 : decode kc_Mo_init 94 = .ok (.bipush 8, 2) := by decide +kernel
theorem kd_Mo_init_96 : decode kc_Mo_init 96 = .ok (.newarray .int, 2) := by decide +kernel
theorem kd_Mo_init_98 : decode kc_Mo_init 98 = .ok (.dup, 1) := by decide +kernel
theorem kd_Mo_init_99 : decode kc_Mo_init 99 = .ok (.iconst 0, 1) := by decide +kernel
theorem kd_Mo_init_100 : decode kc_Mo_init 100 = .ok (.bipush 7, 2) := by decide +kernel
theorem kd_Mo_init_102 : decode kc_Mo_init 102 = .ok (.iastore, 1) := by decide +kernel
theorem kd_Mo_init_103 : decode kc_Mo_init 103 = .ok (.dup, 1) := by decide +kernel
theorem kd_Mo_init_104 : decode kc_Mo_init 104 = .ok (.iconst 1, 1) := by decide +kernel
theorem kd_Mo_init_105 : decode kc_Mo_init 105 = .ok (.bipush 7, 2) := by decide +kernel
theorem kd_Mo_init_107 : decode kc_Mo_init 107 = .ok (.iastore, 1) := by decide +kernel
theorem kd_Mo_init_108 : decode kc_Mo_init 108 = .ok (.dup, 1) := by decide +kernel
theorem kd_Mo_init_109 : decode kc_Mo_init 109 = .ok (.iconst 2, 1) := by decide +kernel
theorem kd_Mo_init_110 : decode kc_Mo_init 110 = .ok (.bipush 7, 2) := by decide +kernel
theorem kd_Mo_init_112 : decode kc_Mo_init 112 = .ok (.iastore, 1) := by decide +kernel
theorem kd_Mo_init_113 : decode kc_Mo_init 113 = .ok (.dup, 1) := by decide +kernel
theorem kd_Mo_init_114 : decode kc_Mo_init 114 = .ok (.iconst 3, 1) := by decide +kernel
theorem kd_Mo_init_115 : decode kc_Mo_init 115 = .ok (.bipush 7, 2) := by decide +kernel
theorem kd_Mo_init_117 : decode kc_Mo_init 117 = .ok (.iastore, 1) := by decide +kernel
theorem kd_Mo_init_118 : decode kc_Mo_init 118 = .ok (.dup, 1) := by decide +kernel
theorem kd_Mo_init_119 : decode kc_Mo_init 119 = .ok (.iconst 4, 1) := by decide +kernel
theorem kd_Mo_init_120 : decode kc_Mo_init 120 = .ok (.bipush 7, 2) := by decide +kernel
theorem kd_Mo_init_122 : decode kc_Mo_init 122 = .ok (.iastore, 1) := by decide +kernel
theorem kd_Mo_init_123 : decode kc_Mo_init 123 = .ok (.dup, 1) := by decide +kernel
theorem kd_Mo_init_124 : decode kc_Mo_init 124 = .ok (.iconst 5, 1) := by decide +kernel
theorem kd_Mo_init_125 : decode kc_Mo_init 125 = .ok (.bipush 7, 2) := by decide +kernel
theorem kd_Mo_init_127 : decode kc_Mo_init 127 = .ok (.iastore, 1) := by decide +kernel
theorem kd_Mo_init_128 : decode kc_Mo_init 128 = .ok (.dup, 1) := by decide +kernel
theorem kd_Mo_init_129 : decode kc_Mo_init 129 = .ok (.bipush 6, 2) := by decide +kernel
theorem kd_Mo_init_131 : decode kc_Mo_init 131 = .ok (.bipush 7, 2) := by decide +kernel
theorem kd_Mo_init_133 : decode kc_Mo_init 133 = .ok (.iastore, 1) := by decide +kernel
theorem kd_Mo_init_134 : decode kc_Mo_init 134 = .ok (.dup, 1) := by decide +kernel
theorem kd_Mo_init_135 : decode kc_Mo_init 135 = .ok (.bipush 7, 2) := by decide +kernel
theorem kd_Mo_init_137 : decode kc_Mo_init 137 = .ok (.bipush 8, 2) := by decide +kernel
theorem kd_Mo_init_139 : decode kc_Mo_init 139 = .ok (.iastore, 1) := by decide +kernel
theorem kd_Mo_init_140 : decode kc_Mo_init 140 = .ok (.putfield 44, 3) := by decide +kernel
theorem kd_Mo_init_143 : decode kc_Mo_init 143 = .ok (.aload_n 0, 1) := by decide +kernel
theorem kd_Mo_init_144 : decode kc_Mo_init 144 = .ok (.bipush 24, 2) := by decide +kernel
theorem kd_Mo_init_146 : decode kc_Mo_init 146 = .ok (.newarray .int, 2) := by decide +kernel
theorem kd_Mo_init_148 : decode kc_Mo_init 148 = .ok (.putfield 47, 3) := by decide +kernel
theorem kd_Mo_init_151 : decode kc_Mo_init 151 = .ok (.aload_n 0, 1) := by decide +kernel
theorem kd_Mo_init_152 : decode kc_Mo_init 152 = .ok (.bipush 24, 2) := by decide +kernel
theorem kd_Mo_init_154 : decode kc_Mo_init 154 = .ok (.newarray .int, 2) := by decide +kernel
theorem kd_Mo_init_156 : decode kc_Mo_init 156 = .ok (.putfield 50, 3) := by decide +kernel
theorem kd_Mo_init_159 : decode kc_Mo_init 159 = .ok (.aload_n 0, 1) := by decide +kernel
theorem kd_Mo_init_160 : decode kc_Mo_init 160 = .ok (.bipush 24, 2) := by decide +kernel
theorem kd_Mo_init_162 : decode kc_Mo_init 162 = .ok (.newarray .int, 2) := by decide +kernel
theorem kd_Mo_init_164 : decode kc_Mo_init 164 = .ok (.putfield 53, 3) := by decide +kernel
theorem kd_Mo_init_167 : decode kc_Mo_init 167 = .ok (.aload_n 0, 1) := by decide +kernel
theorem kd_Mo_init_168 : decode kc_Mo_init 168 = .ok (.bipush 24, 2) := by decide +kernel
theorem kd_Mo_init_170 : decode kc_Mo_init 170 = .ok (.newarray .int, 2) := by decide +kernel
theorem kd_Mo_init_172 : decode kc_Mo_init 172 = .ok (.putfield 56, 3) := by decide +kernel
theorem kd_Mo_init_175 : decode kc_Mo_init 175 = .ok (.aload_n 0, 1) := by decide +kernel
theorem kd_Mo_init_176 : decode kc_Mo_init 176 = .ok (.bipush 8, 2) := by decide +kernel
theorem kd_Mo_init_178 : decode kc_Mo_init 178 = .ok (.newarray .int, 2) := by decide +kernel
theorem kd_Mo_init_180 : decode kc_Mo_init 180 = .ok (.dup, 1) := by decide +kernel
theorem kd_Mo_init_181 : decode kc_Mo_init 181 = .ok (.iconst 0, 1) := by decide +kernel
theorem kd_Mo_init_182 : decode kc_Mo_init 182 = .ok (.sipush 256, 3) := by decide +kernel
theorem kd_Mo_init_185 : decode kc_Mo_init 185 = .ok (.iastore, 1) := by decide +kernel
theorem kd_Mo_init_186 : decode kc_Mo_init 186 = .ok (.dup, 1) := by decide +kernel
theorem kd_Mo_init_187 : decode kc_Mo_init 187 = .ok (.iconst 1, 1) := by decide +kernel
theorem kd_Mo_init_188 : decode kc_Mo_init 188 = .ok (.sipush 256, 3) := by decide +kernel
theorem kd_Mo_init_191 : decode kc_Mo_init 191 = .ok (.iastore, 1) := by decide +kernel
theorem kd_Mo_init_192 : decode kc_Mo_init 192 = .ok (.dup, 1) := by decide +kernel
theorem kd_Mo_init_193 : decode kc_Mo_init 193 = .ok (.iconst 2, 1) := by decide +kernel
theorem kd_Mo_init_194 : decode kc_Mo_init 194 = .ok (.sipush 256, 3) := by decide +kernel
theorem kd_Mo_init_197 : decode kc_Mo_init 197 = .ok (.iastore, 1) := by decide +kernel
theorem kd_Mo_init_198 : decode kc_Mo_init 198 = .ok (.dup, 1) := by decide +kernel
theorem kd_Mo_init_199 : decode kc_Mo_init 199 = .ok (.iconst 3, 1) := by decide +kernel
theorem kd_Mo_init_200 : decode kc_Mo_init 200 = .ok (.sipush 256, 3) := by decide +kernel
theorem kd_Mo_init_203 : decode kc_Mo_init 203 = .ok (.iastore, 1) := by decide +kernel
theorem kd_Mo_init_204 : decode kc_Mo_init 204 = .ok (.dup, 1) := by decide +kernel
theorem kd_Mo_init_205 : decode kc_Mo_init 205 = .ok (.iconst 4, 1) := by decide +kernel
theorem kd_Mo_init_206 : decode kc_Mo_init 206 = .ok (.sipush 256, 3) := by decide +kernel
theorem kd_Mo_init_209 : decode kc_Mo_init 209 = .ok (.iastore, 1) := by decide +kernel
theorem kd_Mo_init_210 : decode kc_Mo_init 210 = .ok (.dup, 1) := by decide +kernel
theorem kd_Mo_init_211 : decode kc_Mo_init 211 = .ok (.iconst 5, 1) := by decide +kernel
theorem kd_Mo_init_212 : decode kc_Mo_init 212 = .ok (.sipush 256, 3) := by decide +kernel
theorem kd_Mo_init_215 : decode kc_Mo_init 215 = .ok (.iastore, 1) := by decide +kernel
theorem kd_Mo_init_216 : decode kc_Mo_init 216 = .ok (.dup, 1) := by decide +kernel
theorem kd_Mo_init_217 : decode kc_Mo_init 217 = .ok (.bipush 6, 2) := by decide +kernel
theorem kd_Mo_init_219 : decode kc_Mo_init 219 = .ok (.sipush 256, 3) := by decide +kernel
theorem kd_Mo_init_222 : decode kc_Mo_init 222 = .ok (.iastore, 1) := by decide +kernel
theorem kd_Mo_init_223 : decode kc_Mo_init 223 = .ok (.dup, 1) := by decide +kernel
theorem kd_Mo_init_224 : decode kc_Mo_init 224 = .ok (.bipush 7, 2) := by decide +kernel
theorem kd_Mo_init_226 : decode kc_Mo_init 226 = .ok (.sipush 256, 3) := by decide +kernel
theorem kd_Mo_init_229 : decode kc_Mo_init 229 = .ok (.iastore, 1) := by decide +kernel
theorem kd_Mo_init_230 : decode kc_Mo_init 230 = .ok (.putfield 59, 3) := by decide +kernel
theorem kd_Mo_init_233 : decode kc_Mo_init 233 = .ok (.aload_n 0, 1) := by decide +kernel
theorem kd_Mo_init_234 : decode kc_Mo_init 234 = .ok (.bipush 8, 2) := by decide +kernel
theorem kd_Mo_init_236 : decode kc_Mo_init 236 = .ok (.newarray .int, 2) := by decide +kernel
theorem kd_Mo_init_238 : decode kc_Mo_init 238 = .ok (.putfield 62, 3) := by decide +kernel
theorem kd_Mo_init_241 : decode kc_Mo_init 241 = .ok (.aload_n 0, 1) := by decide +kernel
theorem kd_Mo_init_242 : decode kc_Mo_init 242 = .ok (.bipush 64, 2) := by decide +kernel
theorem kd_Mo_init_244 : decode kc_Mo_init 244 = .ok (.newarray .int, 2) := by decide +kernel
theorem kd_Mo_init_246 : decode kc_Mo_init 246 = .ok (.putfield 65, 3) := by decide +kernel
theorem kd_Mo_init_249 : decode kc_Mo_init 249 = .ok (.aload_n 0, 1) := by decide +kernel
theorem kd_Mo_init_250 : decode kc_Mo_init 250 = .ok (.bipush 64, 2) := by decide +kernel
theorem kd_Mo_init_252 : decode kc_Mo_init 252 = .ok (.newarray .int, 2) := by decide +kernel
theorem kd_Mo_init_254 : decode kc_Mo_init 254 = .ok (.putfield 68, 3) := by decide +kernel
theorem kd_Mo_init_257 : decode kc_Mo_init 257 = .ok (.aload_n 0, 1) := by decide +kernel
theorem kd_Mo_init_258 : decode kc_Mo_init 258 = .ok (.bipush 64, 2) := by decide +kernel
theorem kd_Mo_init_260 : decode kc_Mo_init 260 = .ok (.newarray .boolean, 2) := by decide +kernel
theorem kd_Mo_init_262 : decode kc_Mo_init 262 = .ok (.putfield 71, 3) := by decide +kernel
theorem kd_Mo_init_265 : decode kc_Mo_init 265 = .ok (.aload_n 0, 1) := by decide +kernel
theorem kd_Mo_init_266 : decode kc_Mo_init 266 = .ok (.bipush 8, 2) := by decide +kernel
theorem kd_Mo_init_268 : decode kc_Mo_init 268 = .ok (.newarray .boolean, 2) := by decide +kernel
theorem kd_Mo_init_270 : decode kc_Mo_init 270 = .ok (.putfield 74, 3) := by decide +kernel
theorem kd_Mo_init_273 : decode kc_Mo_init 273 = .ok (.aload_n 0, 1) := by decide +kernel
theorem kd_Mo_init_274 : decode kc_Mo_init 274 = .ok (.bipush 8, 2) := by decide +kernel
theorem kd_Mo_init_276 : decode kc_Mo_init 276 = .ok (.newarray .boolean, 2) := by decide +kernel
theorem kd_Mo_init_278 : decode kc_Mo_init 278 = .ok (.putfield 77, 3) := by decide +kernel
theorem kd_Mo_init_281 : decode kc_Mo_init 281 = .ok (.aload_n 0, 1) := by decide +kernel
theorem kd_Mo_init_282 : decode kc_Mo_init 282 = .ok (.bipush 64, 2) := by decide +kernel
theorem kd_Mo_init_284 : decode kc_Mo_init 284 = .ok (.newarray .boolean, 2) := by decide +kernel
theorem kd_Mo_init_286 : decode kc_Mo_init 286 = .ok (.putfield 80, 3) := by decide +kernel
theorem kd_Mo_init_289 : decode kc_Mo_init 289 = .ok (.aload_n 0, 1) := by decide +kernel
theorem kd_Mo_init_290 : decode kc_Mo_init 290 = .ok (.bipush 8, 2) := by decide +kernel
theorem kd_Mo_init_292 : decode kc_Mo_init 292 = .ok (.newarray .int, 2) := by decide +kernel
theorem kd_Mo_init_294 : decode kc_Mo_init 294 = .ok (.putfield 83, 3) := by decide +kernel
theorem kd_Mo_init_297 : decode kc_Mo_init 297 = .ok (.aload_n 0, 1) := by decide +kernel
theorem kd_Mo_init_298 : decode kc_Mo_init 298 = .ok (.bipush 8, 2) := by decide +kernel
theorem kd_Mo_init_300 : decode kc_Mo_init 300 = .ok (.newarray .boolean, 2) := by decide +kernel
theorem kd_Mo_init_302 : decode kc_Mo_init 302 = .ok (.putfield 86, 3) := by decide +kernel
theorem kd_Mo_init_305 : decode kc_Mo_init 305 = .ok (.aload_n 0, 1) := by decide +kernel
theorem kd_Mo_init_306 : decode kc_Mo_init 306 = .ok (.sipush 8192, 3) := by decide +kernel
theorem kd_Mo_init_309 : decode kc_Mo_init 309 = .ok (.newarray .int, 2) := by decide +kernel
theorem kd_Mo_init_311 : decode kc_Mo_init 311 = .ok (.putfield 89, 3) := by decide +kernel
theorem kd_Mo_init_314 : decode kc_Mo_init 314 = .ok (.aload_n 0, 1) := by decide +kernel
theorem kd_Mo_init_315 : decode kc_Mo_init 315 = .ok (.sipush 1024, 3) := by decide +kernel
theorem kd_Mo_init_318 : decode kc_Mo_init 318 = .ok (.newarray .int, 2) := by decide +kernel
theorem kd_Mo_init_320 : decode kc_Mo_init 320 = .ok (.putfield 92, 3) := by decide +kernel
theorem kd_Mo_init_323 : decode kc_Mo_init 323 = .ok (.aload_n 0, 1) := by decide +kernel
theorem kd_Mo_init_324 : decode kc_Mo_init 324 = .ok (.sipush 1024, 3) := by decide +kernel
theorem kd_Mo_init_327 : decode kc_Mo_init 327 = .ok (.newarray .int, 2) := by decide +kernel
theorem kd_Mo_init_329 : decode kc_Mo_init 329 = .ok (.putfield 95, 3) := by decide +kernel
theorem kd_Mo_init_332 : decode kc_Mo_init 332 = .ok (.aload_n 0, 1) := by decide +kernel
theorem kd_Mo_init_333 : decode kc_Mo_init 333 = .ok (.sipush 512, 3) := by decide +kernel
theorem kd_Mo_init_336 : decode kc_Mo_init 336 = .ok (.newarray .int, 2) := by decide +kernel
theorem kd_Mo_init_338 : decode kc_Mo_init 338 = .ok (.putfield 98, 3) := by decide +kernel
theorem kd_Mo_init_341 : decode kc_Mo_init 341 = .ok (.return_, 1) := by decide +kernel
theorem kd_Mo_thrown_0 : decode kc_Mo_thrown 0 = .ok (.aload_n 0, 1) := by decide +kernel
theorem kd_Mo_thrown_1 : decode kc_Mo_thrown 1 = .ok (.getfield 101, 3) := by decide +kernel
theorem kd_Mo_thrown_4 : decode kc_Mo_thrown 4 = .ok (.ireturn, 1) := by decide +kernel
theorem kd_Mo_cut_0 : decode kc_Mo_cut 0 = .ok (.lload_n 0, 1) := by decide +kernel
theorem kd_Mo_cut_1 : decode kc_Mo_cut 1 = .ok (.ldc2_w 105, 3) := by decide +kernel
theorem kd_Mo_cut_4 : decode kc_Mo_cut 4 = .ok (.lcmp, 1) := by decide +kernel
theorem kd_Mo_cut_5 : decode kc_Mo_cut 5 = .ok (.ifCond .ge 9, 3) := by decide +kernel
theorem kd_Mo_cut_8 : decode kc_Mo_cut 8 = .ok (.ldc2_w 105, 3) := by decide +kernel
theorem kd_Mo_cut_11 : decode kc_Mo_cut 11 = .ok (.goto 18, 3) := by decide +kernel
theorem kd_Mo_cut_14 : decode kc_Mo_cut 14 = .ok (.lload_n 0, 1) := by decide +kernel
theorem kd_Mo_cut_15 : decode kc_Mo_cut 15 = .ok (.ldc2_w 107, 3) := by decide +kernel
theorem kd_Mo_cut_18 : decode kc_Mo_cut 18 = .ok (.lcmp, 1) := by decide +kernel
theorem kd_Mo_cut_19 : decode kc_Mo_cut 19 = .ok (.ifCond .le 9, 3) := by decide +kernel
theorem kd_Mo_cut_22 : decode kc_Mo_cut 22 = .ok (.ldc2_w 107, 3) := by decide +kernel
theorem kd_Mo_cut_25 : decode kc_Mo_cut 25 = .ok (.goto 4, 3) := by decide +kernel
theorem kd_Mo_cut_28 : decode kc_Mo_cut 28 = .ok (.lload_n 0, 1) := by decide +kernel
theorem kd_Mo_cut_29 : decode kc_Mo_cut 29 = .ok (.l2i, 1) := by decide +kernel
theorem kd_Mo_cut_30 : decode kc_Mo_cut 30 = .ok (.ireturn, 1) := by decide +kernel
theorem kd_Mo_down_0 : decode kc_Mo_down 0 = .ok (.lload_n 0, 1) := by decide +kernel
theorem kd_Mo_down_1 : decode kc_Mo_down 1 = .ok (.lload_n 2, 1) := by decide +kernel
theorem kd_Mo_down_2 : decode kc_Mo_down 2 = .ok (.ldiv, 1) := by decide +kernel
theorem kd_Mo_down_3 : decode kc_Mo_down 3 = .ok (.lstore 4, 2) := by decide +kernel
theorem kd_Mo_down_5 : decode kc_Mo_down 5 = .ok (.lload 4, 2) := by decide +kernel
theorem kd_Mo_down_7 : decode kc_Mo_down 7 = .ok (.lload_n 2, 1) := by decide +kernel
theorem kd_Mo_down_8 : decode kc_Mo_down 8 = .ok (.lmul, 1) := by decide +kernel
theorem kd_Mo_down_9 : decode kc_Mo_down 9 = .ok (.lload_n 0, 1) := by decide +kernel
theorem kd_Mo_down_10 : decode kc_Mo_down 10 = .ok (.lcmp, 1) := by decide +kernel
theorem kd_Mo_down_11 : decode kc_Mo_down 11 = .ok (.ifCond .le 10, 3) := by decide +kernel
theorem kd_Mo_down_14 : decode kc_Mo_down 14 = .ok (.lload 4, 2) := by decide +kernel
theorem kd_Mo_down_16 : decode kc_Mo_down 16 = .ok (.lconst 1, 1) := by decide +kernel
theorem kd_Mo_down_17 : decode kc_Mo_down 17 = .ok (.lsub, 1) := by decide +kernel
theorem kd_Mo_down_18 : decode kc_Mo_down 18 = .ok (.goto 5, 3) := by decide +kernel
theorem kd_Mo_down_21 : decode kc_Mo_down 21 = .ok (.lload 4, 2) := by decide +kernel
theorem kd_Mo_down_23 : decode kc_Mo_down 23 = .ok (.lreturn, 1) := by decide +kernel
theorem kd_Mo_by_0 : decode kc_Mo_by 0 = .ok (.lload_n 0, 1) := by decide +kernel
theorem kd_Mo_by_1 : decode kc_Mo_by 1 = .ok (.lload_n 2, 1) := by decide +kernel
theorem kd_Mo_by_2 : decode kc_Mo_by 2 = .ok (.lmul, 1) := by decide +kernel
theorem kd_Mo_by_3 : decode kc_Mo_by 3 = .ok (.ldc2_w 109, 3) := by decide +kernel
theorem kd_Mo_by_6 : decode kc_Mo_by 6 = .ok (.invokestatic 111, 3) := by decide +kernel
theorem kd_Mo_by_9 : decode kc_Mo_by 9 = .ok (.lreturn, 1) := by decide +kernel
theorem kd_Mo_noLevel_0 : decode kc_Mo_noLevel 0 = .ok (.iload_n 0, 1) := by decide +kernel
theorem kd_Mo_noLevel_1 : decode kc_Mo_noLevel 1 = .ok (.ifCond .lt 10, 3) := by decide +kernel
theorem kd_Mo_noLevel_4 : decode kc_Mo_noLevel 4 = .ok (.iload_n 0, 1) := by decide +kernel
theorem kd_Mo_noLevel_5 : decode kc_Mo_noLevel 5 = .ok (.sipush 1024, 3) := by decide +kernel
theorem kd_Mo_noLevel_8 : decode kc_Mo_noLevel 8 = .ok (.if_icmp .le 7, 3) := by decide +kernel
theorem kd_Mo_noLevel_11 : decode kc_Mo_noLevel 11 = .ok (.iconst 1, 1) := by decide +kernel
theorem kd_Mo_noLevel_12 : decode kc_Mo_noLevel 12 = .ok (.goto 4, 3) := by decide +kernel
theorem kd_Mo_noLevel_15 : decode kc_Mo_noLevel 15 = .ok (.iconst 0, 1) := by decide +kernel
theorem kd_Mo_noLevel_16 : decode kc_Mo_noLevel 16 = .ok (.ireturn, 1) := by decide +kernel
theorem kd_Mo_samples_0 : decode kc_Mo_samples 0 = .ok (.aload_n 0, 1) := by decide +kernel
theorem kd_Mo_samples_1 : decode kc_Mo_samples 1 = .ok (.iload_n 1, 1) := by decide +kernel
theorem kd_Mo_samples_2 : decode kc_Mo_samples 2 = .ok (.ifCond .lt 19, 3) := by decide +kernel
theorem kd_Mo_samples_5 : decode kc_Mo_samples 5 = .ok (.iload_n 1, 1) := by decide +kernel
theorem kd_Mo_samples_6 : decode kc_Mo_samples 6 = .ok (.bipush 7, 2) := by decide +kernel
theorem kd_Mo_samples_8 : decode kc_Mo_samples 8 = .ok (.if_icmp .gt 13, 3) := by decide +kernel
theorem kd_Mo_samples_11 : decode kc_Mo_samples 11 = .ok (.iload_n 2, 1) := by decide +kernel
theorem kd_Mo_samples_12 : decode kc_Mo_samples 12 = .ok (.ifCond .lt 9, 3) := by decide +kernel
theorem kd_Mo_samples_15 : decode kc_Mo_samples 15 = .ok (.iload_n 2, 1) := by decide +kernel
theorem kd_Mo_samples_16 : decode kc_Mo_samples 16 = .ok (.bipush 60, 2) := by decide +kernel
theorem kd_Mo_samples_18 : decode kc_Mo_samples 18 = .ok (.if_icmp .le 7, 3) := by decide +kernel
theorem kd_Mo_samples_21 : decode kc_Mo_samples 21 = .ok (.iconst 1, 1) := by decide +kernel
theorem kd_Mo_samples_22 : decode kc_Mo_samples 22 = .ok (.goto 17, 3) := by decide +kernel
theorem kd_Mo_samples_25 : decode kc_Mo_samples 25 = .ok (.aload_n 0, 1) := by decide +kernel
theorem kd_Mo_samples_26 : decode kc_Mo_samples 26 = .ok (.getfield 13, 3) := by decide +kernel
theorem kd_Mo_samples_29 : decode kc_Mo_samples 29 = .ok (.iload_n 1, 1) := by decide +kernel
theorem kd_Mo_samples_30 : decode kc_Mo_samples 30 = .ok (.iaload, 1) := by decide +kernel
theorem kd_Mo_samples_31 : decode kc_Mo_samples 31 = .ok (.ifCond .le 7, 3) := by decide +kernel
theorem kd_Mo_samples_34 : decode kc_Mo_samples 34 = .ok (.iconst 2, 1) := by decide +kernel
theorem kd_Mo_samples_35 : decode kc_Mo_samples 35 = .ok (.goto 4, 3) := by decide +kernel
theorem kd_Mo_samples_38 : decode kc_Mo_samples 38 = .ok (.iconst 0, 1) := by decide +kernel
theorem kd_Mo_samples_39 : decode kc_Mo_samples 39 = .ok (.putfield 101, 3) := by decide +kernel
theorem kd_Mo_samples_42 : decode kc_Mo_samples 42 = .ok (.iconst 0, 1) := by decide +kernel
theorem kd_Mo_samples_43 : decode kc_Mo_samples 43 = .ok (.istore 5, 2) := by decide +kernel
theorem kd_Mo_samples_45 : decode kc_Mo_samples 45 = .ok (.iload 5, 2) := by decide +kernel
theorem kd_Mo_samples_47 : decode kc_Mo_samples 47 = .ok (.iconst 4, 1) := by decide +kernel
theorem kd_Mo_samples_48 : decode kc_Mo_samples 48 = .ok (.if_icmp .ge 62, 3) := by decide +kernel
theorem kd_Mo_samples_51 : decode kc_Mo_samples 51 = .ok (.aload_n 0, 1) := by decide +kernel
theorem kd_Mo_samples_52 : decode kc_Mo_samples 52 = .ok (.getfield 101, 3) := by decide +kernel
theorem kd_Mo_samples_55 : decode kc_Mo_samples 55 = .ok (.ifCond .ne 55, 3) := by decide +kernel
theorem kd_Mo_samples_58 : decode kc_Mo_samples 58 = .ok (.lload_n 3, 1) := by decide +kernel
theorem kd_Mo_samples_59 : decode kc_Mo_samples 59 = .ok (.bipush 16, 2) := by decide +kernel
theorem kd_Mo_samples_61 : decode kc_Mo_samples 61 = .ok (.iload 5, 2) := by decide +kernel
theorem kd_Mo_samples_63 : decode kc_Mo_samples 63 = .ok (.imul, 1) := by decide +kernel
theorem kd_Mo_samples_64 : decode kc_Mo_samples 64 = .ok (.lshr, 1) := by decide +kernel
theorem kd_Mo_samples_65 : decode kc_Mo_samples 65 = .ok (.ldc2_w 115, 3) := by decide +kernel
theorem kd_Mo_samples_68 : decode kc_Mo_samples 68 = .ok (.land, 1) := by decide +kernel
theorem kd_Mo_samples_69 : decode kc_Mo_samples 69 = .ok (.l2i, 1) := by decide +kernel
theorem kd_Mo_samples_70 : decode kc_Mo_samples 70 = .ok (.istore 6, 2) := by decide +kernel
theorem kd_Mo_samples_72 : decode kc_Mo_samples 72 = .ok (.aload_n 0, 1) := by decide +kernel
theorem kd_Mo_samples_73 : decode kc_Mo_samples 73 = .ok (.getfield 7, 3) := by decide +kernel
theorem kd_Mo_samples_76 : decode kc_Mo_samples 76 = .ok (.bipush 64, 2) := by decide +kernel
theorem kd_Mo_samples_78 : decode kc_Mo_samples 78 = .ok (.iload_n 1, 1) := by decide +kernel
theorem kd_Mo_samples_79 : decode kc_Mo_samples 79 = .ok (.imul, 1) := by decide +kernel
theorem kd_Mo_samples_80 : decode kc_Mo_samples 80 = .ok (.iload_n 2, 1) := by decide +kernel
theorem kd_Mo_samples_81 : decode kc_Mo_samples 81 = .ok (.iadd, 1) := by decide +kernel
theorem kd_Mo_samples_82 : decode kc_Mo_samples 82 = .ok (.iload 5, 2) := by decide +kernel
theorem kd_Mo_samples_84 : decode kc_Mo_samples 84 = .ok (.iadd, 1) := by decide +kernel
theorem kd_Mo_samples_85 : decode kc_Mo_samples 85 = .ok (.iload 6, 2) := by decide +kernel
theorem kd_Mo_samples_87 : decode kc_Mo_samples 87 = .ok (.sipush 32767, 3) := by decide +kernel
theorem kd_Mo_samples_90 : decode kc_Mo_samples 90 = .ok (.if_icmp .le 11, 3) := by decide +kernel
theorem kd_Mo_samples_93 : decode kc_Mo_samples 93 = .ok (.iload 6, 2) := by decide +kernel
theorem kd_Mo_samples_95 : decode kc_Mo_samples 95 = .ok (.ldc 117, 2) := by decide +kernel
theorem kd_Mo_samples_97 : decode kc_Mo_samples 97 = .ok (.isub, 1) := by decide +kernel
theorem kd_Mo_samples_98 : decode kc_Mo_samples 98 = .ok (.goto 5, 3) := by decide +kernel
theorem kd_Mo_samples_101 : decode kc_Mo_samples 101 = .ok (.iload 6, 2) := by decide +kernel
theorem kd_Mo_samples_103 : decode kc_Mo_samples 103 = .ok (.iastore, 1) := by decide +kernel
theorem kd_Mo_samples_104 : decode kc_Mo_samples 104 = .ok (.iinc 5 1, 3) := by decide +kernel
theorem kd_Mo_samples_107 : decode kc_Mo_samples 107 = .ok (.goto (-62), 3) := by decide +kernel
theorem kd_Mo_samples_110 : decode kc_Mo_samples 110 = .ok (.return_, 1) := by decide +kernel
theorem kd_Mo_seal_0 : decode kc_Mo_seal 0 = .ok (.aload_n 0, 1) := by decide +kernel
theorem kd_Mo_seal_1 : decode kc_Mo_seal 1 = .ok (.iload_n 1, 1) := by decide +kernel
theorem kd_Mo_seal_2 : decode kc_Mo_seal 2 = .ok (.ifCond .lt 9, 3) := by decide +kernel
theorem kd_Mo_seal_5 : decode kc_Mo_seal 5 = .ok (.iload_n 1, 1) := by decide +kernel
theorem kd_Mo_seal_6 : decode kc_Mo_seal 6 = .ok (.bipush 7, 2) := by decide +kernel
theorem kd_Mo_seal_8 : decode kc_Mo_seal 8 = .ok (.if_icmp .le 7, 3) := by decide +kernel
theorem kd_Mo_seal_11 : decode kc_Mo_seal 11 = .ok (.iconst 1, 1) := by decide +kernel
theorem kd_Mo_seal_12 : decode kc_Mo_seal 12 = .ok (.goto 32, 3) := by decide +kernel
theorem kd_Mo_seal_15 : decode kc_Mo_seal 15 = .ok (.iload_n 2, 1) := by decide +kernel
theorem kd_Mo_seal_16 : decode kc_Mo_seal 16 = .ok (.iconst 1, 1) := by decide +kernel
theorem kd_Mo_seal_17 : decode kc_Mo_seal 17 = .ok (.if_icmp .lt 9, 3) := by decide +kernel
theorem kd_Mo_seal_20 : decode kc_Mo_seal 20 = .ok (.iload_n 2, 1) := by decide +kernel
theorem kd_Mo_seal_21 : decode kc_Mo_seal 21 = .ok (.bipush 64, 2) := by decide +kernel
theorem kd_Mo_seal_23 : decode kc_Mo_seal 23 = .ok (.if_icmp .le 7, 3) := by decide +kernel
theorem kd_Mo_seal_26 : decode kc_Mo_seal 26 = .ok (.iconst 2, 1) := by decide +kernel
theorem kd_Mo_seal_27 : decode kc_Mo_seal 27 = .ok (.goto 17, 3) := by decide +kernel
theorem kd_Mo_seal_30 : decode kc_Mo_seal 30 = .ok (.aload_n 0, 1) := by decide +kernel
theorem kd_Mo_seal_31 : decode kc_Mo_seal 31 = .ok (.getfield 13, 3) := by decide +kernel
theorem kd_Mo_seal_34 : decode kc_Mo_seal 34 = .ok (.iload_n 1, 1) := by decide +kernel
theorem kd_Mo_seal_35 : decode kc_Mo_seal 35 = .ok (.iaload, 1) := by decide +kernel
theorem kd_Mo_seal_36 : decode kc_Mo_seal 36 = .ok (.ifCond .le 7, 3) := by decide +kernel
theorem kd_Mo_seal_39 : decode kc_Mo_seal 39 = .ok (.iconst 3, 1) := by decide +kernel
theorem kd_Mo_seal_40 : decode kc_Mo_seal 40 = .ok (.goto 4, 3) := by decide +kernel
theorem kd_Mo_seal_43 : decode kc_Mo_seal 43 = .ok (.iconst 0, 1) := by decide +kernel
theorem kd_Mo_seal_44 : decode kc_Mo_seal 44 = .ok (.putfield 101, 3) := by decide +kernel
theorem kd_Mo_seal_47 : decode kc_Mo_seal 47 = .ok (.aload_n 0, 1) := by decide +kernel
theorem kd_Mo_seal_48 : decode kc_Mo_seal 48 = .ok (.getfield 101, 3) := by decide +kernel
theorem kd_Mo_seal_51 : decode kc_Mo_seal 51 = .ok (.ifCond .ne 10, 3) := by decide +kernel
theorem kd_Mo_seal_54 : decode kc_Mo_seal 54 = .ok (.aload_n 0, 1) := by decide +kernel
theorem kd_Mo_seal_55 : decode kc_Mo_seal 55 = .ok (.getfield 13, 3) := by decide +kernel
theorem kd_Mo_seal_58 : decode kc_Mo_seal 58 = .ok (.iload_n 1, 1) := by decide +kernel
theorem kd_Mo_seal_59 : decode kc_Mo_seal 59 = .ok (.iload_n 2, 1) := by decide +kernel
theorem kd_Mo_seal_60 : decode kc_Mo_seal 60 = .ok (.iastore, 1) := by decide +kernel
theorem kd_Mo_seal_61 : decode kc_Mo_seal 61 = .ok (.return_, 1) := by decide +kernel
theorem kd_Mo_take_0 : decode kc_Mo_take 0 = .ok (.iload_n 1, 1) := by decide +kernel
theorem kd_Mo_take_1 : decode kc_Mo_take 1 = .ok (.ifCond .lt 9, 3) := by decide +kernel
theorem kd_Mo_take_4 : decode kc_Mo_take 4 = .ok (.iload_n 1, 1) := by decide +kernel
theorem kd_Mo_take_5 : decode kc_Mo_take 5 = .ok (.bipush 7, 2) := by decide +kernel
theorem kd_Mo_take_7 : decode kc_Mo_take 7 = .ok (.if_icmp .le 7, 3) := by decide +kernel
theorem kd_Mo_take_10 : decode kc_Mo_take 10 = .ok (.iconst 1, 1) := by decide +kernel
theorem kd_Mo_take_11 : decode kc_Mo_take 11 = .ok (.goto 4, 3) := by decide +kernel
theorem kd_Mo_take_14 : decode kc_Mo_take 14 = .ok (.iconst 0, 1) := by decide +kernel
theorem kd_Mo_take_15 : decode kc_Mo_take 15 = .ok (.istore_n 3, 1) := by decide +kernel
theorem kd_Mo_take_16 : decode kc_Mo_take 16 = .ok (.iload_n 3, 1) := by decide +kernel
theorem kd_Mo_take_17 : decode kc_Mo_take 17 = .ok (.ifCond .eq 7, 3) := by decide +kernel
theorem kd_Mo_take_20 : decode kc_Mo_take 20 = .ok (.iconst 0, 1) := by decide +kernel
theorem kd_Mo_take_21 : decode kc_Mo_take 21 = .ok (.goto 23, 3) := by decide +kernel
theorem kd_Mo_take_24 : decode kc_Mo_take 24 = .ok (.aload_n 0, 1) := by decide +kernel
theorem kd_Mo_take_25 : decode kc_Mo_take 25 = .ok (.getfield 13, 3) := by decide +kernel
theorem kd_Mo_take_28 : decode kc_Mo_take 28 = .ok (.iload_n 1, 1) := by decide +kernel
theorem kd_Mo_take_29 : decode kc_Mo_take 29 = .ok (.iaload, 1) := by decide +kernel
theorem kd_Mo_take_30 : decode kc_Mo_take 30 = .ok (.ifCond .ne 8, 3) := by decide +kernel
theorem kd_Mo_take_33 : decode kc_Mo_take 33 = .ok (.bipush 64, 2) := by decide +kernel
theorem kd_Mo_take_35 : decode kc_Mo_take 35 = .ok (.goto 9, 3) := by decide +kernel
theorem kd_Mo_take_38 : decode kc_Mo_take 38 = .ok (.aload_n 0, 1) := by decide +kernel
theorem kd_Mo_take_39 : decode kc_Mo_take 39 = .ok (.getfield 13, 3) := by decide +kernel
theorem kd_Mo_take_42 : decode kc_Mo_take 42 = .ok (.iload_n 1, 1) := by decide +kernel
theorem kd_Mo_take_43 : decode kc_Mo_take 43 = .ok (.iaload, 1) := by decide +kernel
theorem kd_Mo_take_44 : decode kc_Mo_take 44 = .ok (.istore 4, 2) := by decide +kernel
theorem kd_Mo_take_46 : decode kc_Mo_take 46 = .ok (.aload_n 0, 1) := by decide +kernel
theorem kd_Mo_take_47 : decode kc_Mo_take 47 = .ok (.iload_n 3, 1) := by decide +kernel
theorem kd_Mo_take_48 : decode kc_Mo_take 48 = .ok (.ifCond .ne 14, 3) := by decide +kernel
theorem kd_Mo_take_51 : decode kc_Mo_take 51 = .ok (.iload_n 2, 1) := by decide +kernel
theorem kd_Mo_take_52 : decode kc_Mo_take 52 = .ok (.iconst (-1), 1) := by decide +kernel
theorem kd_Mo_take_53 : decode kc_Mo_take 53 = .ok (.if_icmp .lt 9, 3) := by decide +kernel
theorem kd_Mo_take_56 : decode kc_Mo_take 56 = .ok (.iload_n 2, 1) := by decide +kernel
theorem kd_Mo_take_57 : decode kc_Mo_take 57 = .ok (.iload 4, 2) := by decide +kernel
theorem kd_Mo_take_59 : decode kc_Mo_take 59 = .ok (.if_icmp .lt 7, 3) := by decide +kernel
theorem kd_Mo_take_62 : decode kc_Mo_take 62 = .ok (.iconst 1, 1) := by decide +kernel
theorem kd_Mo_take_63 : decode kc_Mo_take 63 = .ok (.goto 4, 3) := by decide +kernel
theorem kd_Mo_take_66 : decode kc_Mo_take 66 = .ok (.iconst 0, 1) := by decide +kernel
theorem kd_Mo_take_67 : decode kc_Mo_take 67 = .ok (.putfield 101, 3) := by decide +kernel
theorem kd_Mo_take_70 : decode kc_Mo_take 70 = .ok (.aload_n 0, 1) := by decide +kernel
theorem kd_Mo_take_71 : decode kc_Mo_take 71 = .ok (.getfield 101, 3) := by decide +kernel
theorem kd_Mo_take_74 : decode kc_Mo_take 74 = .ok (.ifCond .le 7, 3) := by decide +kernel
theorem kd_Mo_take_77 : decode kc_Mo_take 77 = .ok (.iconst 0, 1) := by decide +kernel
theorem kd_Mo_take_78 : decode kc_Mo_take 78 = .ok (.goto 27, 3) := by decide +kernel
theorem kd_Mo_take_81 : decode kc_Mo_take 81 = .ok (.iload_n 2, 1) := by decide +kernel
theorem kd_Mo_take_82 : decode kc_Mo_take 82 = .ok (.ifCond .ge 12, 3) := by decide +kernel
theorem kd_Mo_take_85 : decode kc_Mo_take 85 = .ok (.aload_n 0, 1) := by decide +kernel
theorem kd_Mo_take_86 : decode kc_Mo_take 86 = .ok (.getfield 13, 3) := by decide +kernel
theorem kd_Mo_take_89 : decode kc_Mo_take 89 = .ok (.iload_n 1, 1) := by decide +kernel
theorem kd_Mo_take_90 : decode kc_Mo_take 90 = .ok (.iaload, 1) := by decide +kernel
theorem kd_Mo_take_91 : decode kc_Mo_take 91 = .ok (.goto 14, 3) := by decide +kernel
theorem kd_Mo_take_94 : decode kc_Mo_take 94 = .ok (.aload_n 0, 1) := by decide +kernel
theorem kd_Mo_take_95 : decode kc_Mo_take 95 = .ok (.getfield 7, 3) := by decide +kernel
theorem kd_Mo_take_98 : decode kc_Mo_take 98 = .ok (.bipush 64, 2) := by decide +kernel
theorem kd_Mo_take_100 : decode kc_Mo_take 100 = .ok (.iload_n 1, 1) := by decide +kernel
theorem kd_Mo_take_101 : decode kc_Mo_take 101 = .ok (.imul, 1) := by decide +kernel
theorem kd_Mo_take_102 : decode kc_Mo_take 102 = .ok (.iload_n 2, 1) := by decide +kernel
theorem kd_Mo_take_103 : decode kc_Mo_take 103 = .ok (.iadd, 1) := by decide +kernel
theorem kd_Mo_take_104 : decode kc_Mo_take 104 = .ok (.iaload, 1) := by decide +kernel
theorem kd_Mo_take_105 : decode kc_Mo_take 105 = .ok (.ireturn, 1) := by decide +kernel
theorem kd_Mo_noClip_0 : decode kc_Mo_noClip 0 = .ok (.iload_n 1, 1) := by decide +kernel
theorem kd_Mo_noClip_1 : decode kc_Mo_noClip 1 = .ok (.ifCond .lt 18, 3) := by decide +kernel
theorem kd_Mo_noClip_4 : decode kc_Mo_noClip 4 = .ok (.iload_n 1, 1) := by decide +kernel
theorem kd_Mo_noClip_5 : decode kc_Mo_noClip 5 = .ok (.bipush 16, 2) := by decide +kernel
theorem kd_Mo_noClip_7 : decode kc_Mo_noClip 7 = .ok (.if_icmp .ge 12, 3) := by decide +kernel
theorem kd_Mo_noClip_10 : decode kc_Mo_noClip 10 = .ok (.aload_n 0, 1) := by decide +kernel
theorem kd_Mo_noClip_11 : decode kc_Mo_noClip 11 = .ok (.getfield 16, 3) := by decide +kernel
theorem kd_Mo_noClip_14 : decode kc_Mo_noClip 14 = .ok (.iload_n 1, 1) := by decide +kernel
theorem kd_Mo_noClip_15 : decode kc_Mo_noClip 15 = .ok (.baload, 1) := by decide +kernel
theorem kd_Mo_noClip_16 : decode kc_Mo_noClip 16 = .ok (.ifCond .ne 7, 3) := by decide +kernel
theorem kd_Mo_noClip_19 : decode kc_Mo_noClip 19 = .ok (.iconst 1, 1) := by decide +kernel
theorem kd_Mo_noClip_20 : decode kc_Mo_noClip 20 = .ok (.goto 4, 3) := by decide +kernel
theorem kd_Mo_noClip_23 : decode kc_Mo_noClip 23 = .ok (.iconst 0, 1) := by decide +kernel
theorem kd_Mo_noClip_24 : decode kc_Mo_noClip 24 = .ok (.ireturn, 1) := by decide +kernel
theorem kd_Mo_isTaken_0 : decode kc_Mo_isTaken 0 = .ok (.iconst 0, 1) := by decide +kernel
theorem kd_Mo_isTaken_1 : decode kc_Mo_isTaken 1 = .ok (.istore 5, 2) := by decide +kernel
theorem kd_Mo_isTaken_3 : decode kc_Mo_isTaken 3 = .ok (.iconst 0, 1) := by decide +kernel
theorem kd_Mo_isTaken_4 : decode kc_Mo_isTaken 4 = .ok (.istore 6, 2) := by decide +kernel
theorem kd_Mo_isTaken_6 : decode kc_Mo_isTaken 6 = .ok (.iload 6, 2) := by decide +kernel
theorem kd_Mo_isTaken_8 : decode kc_Mo_isTaken 8 = .ok (.bipush 16, 2) := by decide +kernel
theorem kd_Mo_isTaken_10 : decode kc_Mo_isTaken 10 = .ok (.if_icmp .ge 81, 3) := by decide +kernel
theorem kd_Mo_isTaken_13 : decode kc_Mo_isTaken 13 = .ok (.iload 5, 2) := by decide +kernel
theorem kd_Mo_isTaken_15 : decode kc_Mo_isTaken 15 = .ok (.ifCond .ne 63, 3) := by decide +kernel
theorem kd_Mo_isTaken_18 : decode kc_Mo_isTaken 18 = .ok (.aload_n 0, 1) := by decide +kernel
theorem kd_Mo_isTaken_19 : decode kc_Mo_isTaken 19 = .ok (.getfield 16, 3) := by decide +kernel
theorem kd_Mo_isTaken_22 : decode kc_Mo_isTaken 22 = .ok (.iload 6, 2) := by decide +kernel
theorem kd_Mo_isTaken_24 : decode kc_Mo_isTaken 24 = .ok (.baload, 1) := by decide +kernel
theorem kd_Mo_isTaken_25 : decode kc_Mo_isTaken 25 = .ok (.ifCond .eq 57, 3) := by decide +kernel
theorem kd_Mo_isTaken_28 : decode kc_Mo_isTaken 28 = .ok (.iload 6, 2) := by decide +kernel
theorem kd_Mo_isTaken_30 : decode kc_Mo_isTaken 30 = .ok (.iload 4, 2) := by decide +kernel
theorem kd_Mo_isTaken_32 : decode kc_Mo_isTaken 32 = .ok (.if_icmp .eq 50, 3) := by decide +kernel
theorem kd_Mo_isTaken_35 : decode kc_Mo_isTaken 35 = .ok (.aload_n 0, 1) := by decide +kernel
theorem kd_Mo_isTaken_36 : decode kc_Mo_isTaken 36 = .ok (.getfield 20, 3) := by decide +kernel
theorem kd_Mo_isTaken_39 : decode kc_Mo_isTaken 39 = .ok (.iload 6, 2) := by decide +kernel
theorem kd_Mo_isTaken_41 : decode kc_Mo_isTaken 41 = .ok (.iaload, 1) := by decide +kernel
theorem kd_Mo_isTaken_42 : decode kc_Mo_isTaken 42 = .ok (.iload_n 1, 1) := by decide +kernel
theorem kd_Mo_isTaken_43 : decode kc_Mo_isTaken 43 = .ok (.if_icmp .ne 39, 3) := by decide +kernel
theorem kd_Mo_isTaken_46 : decode kc_Mo_isTaken 46 = .ok (.iload_n 2, 1) := by decide +kernel
theorem kd_Mo_isTaken_47 : decode kc_Mo_isTaken 47 = .ok (.aload_n 0, 1) := by decide +kernel
theorem kd_Mo_isTaken_48 : decode kc_Mo_isTaken 48 = .ok (.getfield 23, 3) := by decide +kernel
theorem kd_Mo_isTaken_51 : decode kc_Mo_isTaken 51 = .ok (.iload 6, 2) := by decide +kernel
theorem kd_Mo_isTaken_53 : decode kc_Mo_isTaken 53 = .ok (.iaload, 1) := by decide +kernel
theorem kd_Mo_isTaken_54 : decode kc_Mo_isTaken 54 = .ok (.aload_n 0, 1) := by decide +kernel
theorem kd_Mo_isTaken_55 : decode kc_Mo_isTaken 55 = .ok (.getfield 32, 3) := by decide +kernel
theorem kd_Mo_isTaken_58 : decode kc_Mo_isTaken 58 = .ok (.iload 6, 2) := by decide +kernel
theorem kd_Mo_isTaken_60 : decode kc_Mo_isTaken 60 = .ok (.iaload, 1) := by decide +kernel
theorem kd_Mo_isTaken_61 : decode kc_Mo_isTaken 61 = .ok (.iadd, 1) := by decide +kernel
theorem kd_Mo_isTaken_62 : decode kc_Mo_isTaken 62 = .ok (.if_icmp .ge 20, 3) := by decide +kernel
theorem kd_Mo_isTaken_65 : decode kc_Mo_isTaken 65 = .ok (.aload_n 0, 1) := by decide +kernel
theorem kd_Mo_isTaken_66 : decode kc_Mo_isTaken 66 = .ok (.getfield 23, 3) := by decide +kernel
theorem kd_Mo_isTaken_69 : decode kc_Mo_isTaken 69 = .ok (.iload 6, 2) := by decide +kernel
theorem kd_Mo_isTaken_71 : decode kc_Mo_isTaken 71 = .ok (.iaload, 1) := by decide +kernel
theorem kd_Mo_isTaken_72 : decode kc_Mo_isTaken 72 = .ok (.iload_n 2, 1) := by decide +kernel
theorem kd_Mo_isTaken_73 : decode kc_Mo_isTaken 73 = .ok (.iload_n 3, 1) := by decide +kernel
theorem kd_Mo_isTaken_74 : decode kc_Mo_isTaken 74 = .ok (.iadd, 1) := by decide +kernel
theorem kd_Mo_isTaken_75 : decode kc_Mo_isTaken 75 = .ok (.if_icmp .ge 7, 3) := by decide +kernel
theorem kd_Mo_isTaken_78 : decode kc_Mo_isTaken 78 = .ok (.iconst 1, 1) := by decide +kernel
theorem kd_Mo_isTaken_79 : decode kc_Mo_isTaken 79 = .ok (.goto 4, 3) := by decide +kernel
theorem kd_Mo_isTaken_82 : decode kc_Mo_isTaken 82 = .ok (.iconst 0, 1) := by decide +kernel
theorem kd_Mo_isTaken_83 : decode kc_Mo_isTaken 83 = .ok (.istore 5, 2) := by decide +kernel
theorem kd_Mo_isTaken_85 : decode kc_Mo_isTaken 85 = .ok (.iinc 6 1, 3) := by decide +kernel
theorem kd_Mo_isTaken_88 : decode kc_Mo_isTaken 88 = .ok (.goto (-82), 3) := by decide +kernel
theorem kd_Mo_isTaken_91 : decode kc_Mo_isTaken 91 = .ok (.iload 5, 2) := by decide +kernel
theorem kd_Mo_isTaken_93 : decode kc_Mo_isTaken 93 = .ok (.ireturn, 1) := by decide +kernel
theorem kd_Mo_freeClip_0 : decode kc_Mo_freeClip 0 = .ok (.iconst 0, 1) := by decide +kernel
theorem kd_Mo_freeClip_1 : decode kc_Mo_freeClip 1 = .ok (.istore_n 1, 1) := by decide +kernel
theorem kd_Mo_freeClip_2 : decode kc_Mo_freeClip 2 = .ok (.iload_n 1, 1) := by decide +kernel
theorem kd_Mo_freeClip_3 : decode kc_Mo_freeClip 3 = .ok (.bipush 16, 2) := by decide +kernel
theorem kd_Mo_freeClip_5 : decode kc_Mo_freeClip 5 = .ok (.if_icmp .ge 20, 3) := by decide +kernel
theorem kd_Mo_freeClip_8 : decode kc_Mo_freeClip 8 = .ok (.aload_n 0, 1) := by decide +kernel
theorem kd_Mo_freeClip_9 : decode kc_Mo_freeClip 9 = .ok (.getfield 16, 3) := by decide +kernel
theorem kd_Mo_freeClip_12 : decode kc_Mo_freeClip 12 = .ok (.iload_n 1, 1) := by decide +kernel
theorem kd_Mo_freeClip_13 : decode kc_Mo_freeClip 13 = .ok (.baload, 1) := by decide +kernel
theorem kd_Mo_freeClip_14 : decode kc_Mo_freeClip 14 = .ok (.ifCond .ne 5, 3) := by decide +kernel
theorem kd_Mo_freeClip_17 : decode kc_Mo_freeClip 17 = .ok (.iload_n 1, 1) := by decide +kernel
theorem kd_Mo_freeClip_18 : decode kc_Mo_freeClip 18 = .ok (.ireturn, 1) := by decide +kernel
theorem kd_Mo_freeClip_19 : decode kc_Mo_freeClip 19 = .ok (.iinc 1 1, 3) := by decide +kernel
theorem kd_Mo_freeClip_22 : decode kc_Mo_freeClip 22 = .ok (.goto (-20), 3) := by decide +kernel
theorem kd_Mo_freeClip_25 : decode kc_Mo_freeClip 25 = .ok (.iconst (-1), 1) := by decide +kernel
theorem kd_Mo_freeClip_26 : decode kc_Mo_freeClip 26 = .ok (.ireturn, 1) := by decide +kernel
theorem kd_Mo_clip_0 : decode kc_Mo_clip 0 = .ok (.iload_n 1, 1) := by decide +kernel
theorem kd_Mo_clip_1 : decode kc_Mo_clip 1 = .ok (.ifCond .lt 50, 3) := by decide +kernel
theorem kd_Mo_clip_4 : decode kc_Mo_clip 4 = .ok (.iload_n 1, 1) := by decide +kernel
theorem kd_Mo_clip_5 : decode kc_Mo_clip 5 = .ok (.iconst 3, 1) := by decide +kernel
theorem kd_Mo_clip_6 : decode kc_Mo_clip 6 = .ok (.if_icmp .gt 45, 3) := by decide +kernel
theorem kd_Mo_clip_9 : decode kc_Mo_clip 9 = .ok (.iload_n 2, 1) := by decide +kernel
theorem kd_Mo_clip_10 : decode kc_Mo_clip 10 = .ok (.ifCond .lt 41, 3) := by decide +kernel
theorem kd_Mo_clip_13 : decode kc_Mo_clip 13 = .ok (.iload_n 2, 1) := by decide +kernel
theorem kd_Mo_clip_14 : decode kc_Mo_clip 14 = .ok (.sipush 1023, 3) := by decide +kernel
theorem kd_Mo_clip_17 : decode kc_Mo_clip 17 = .ok (.if_icmp .gt 34, 3) := by decide +kernel
theorem kd_Mo_clip_20 : decode kc_Mo_clip 20 = .ok (.iload_n 3, 1) := by decide +kernel
theorem kd_Mo_clip_21 : decode kc_Mo_clip 21 = .ok (.ifCond .lt 30, 3) := by decide +kernel
theorem kd_Mo_clip_24 : decode kc_Mo_clip 24 = .ok (.iload_n 3, 1) := by decide +kernel
theorem kd_Mo_clip_25 : decode kc_Mo_clip 25 = .ok (.bipush 7, 2) := by decide +kernel
theorem kd_Mo_clip_27 : decode kc_Mo_clip 27 = .ok (.if_icmp .gt 24, 3) := by decide +kernel
theorem kd_Mo_clip_30 : decode kc_Mo_clip 30 = .ok (.iload 4, 2) := by decide +kernel
theorem kd_Mo_clip_32 : decode kc_Mo_clip 32 = .ok (.ifCond .lt 19, 3) := by decide +kernel
theorem kd_Mo_clip_35 : decode kc_Mo_clip 35 = .ok (.iload 5, 2) := by decide +kernel
theorem kd_Mo_clip_37 : decode kc_Mo_clip 37 = .ok (.iconst 1, 1) := by decide +kernel
theorem kd_Mo_clip_38 : decode kc_Mo_clip 38 = .ok (.if_icmp .lt 13, 3) := by decide +kernel
theorem kd_Mo_clip_41 : decode kc_Mo_clip 41 = .ok (.iload 5, 2) := by decide +kernel
theorem kd_Mo_clip_43 : decode kc_Mo_clip 43 = .ok (.sipush 1024, 3) := by decide +kernel
theorem kd_Mo_clip_46 : decode kc_Mo_clip 46 = .ok (.iload_n 2, 1) := by decide +kernel
theorem kd_Mo_clip_47 : decode kc_Mo_clip 47 = .ok (.isub, 1) := by decide +kernel
theorem kd_Mo_clip_48 : decode kc_Mo_clip 48 = .ok (.if_icmp .le 7, 3) := by decide +kernel
theorem kd_Mo_clip_51 : decode kc_Mo_clip 51 = .ok (.iconst 1, 1) := by decide +kernel
theorem kd_Mo_clip_52 : decode kc_Mo_clip 52 = .ok (.goto 4, 3) := by decide +kernel
theorem kd_Mo_clip_55 : decode kc_Mo_clip 55 = .ok (.iconst 0, 1) := by decide +kernel
theorem kd_Mo_clip_56 : decode kc_Mo_clip 56 = .ok (.istore 6, 2) := by decide +kernel
theorem kd_Mo_clip_58 : decode kc_Mo_clip 58 = .ok (.aload_n 0, 1) := by decide +kernel
theorem kd_Mo_clip_59 : decode kc_Mo_clip 59 = .ok (.iload 6, 2) := by decide +kernel
theorem kd_Mo_clip_61 : decode kc_Mo_clip 61 = .ok (.ifCond .eq 7, 3) := by decide +kernel
theorem kd_Mo_clip_64 : decode kc_Mo_clip 64 = .ok (.iconst 1, 1) := by decide +kernel
theorem kd_Mo_clip_65 : decode kc_Mo_clip 65 = .ok (.goto 42, 3) := by decide +kernel
theorem kd_Mo_clip_68 : decode kc_Mo_clip 68 = .ok (.aload_n 0, 1) := by decide +kernel
theorem kd_Mo_clip_69 : decode kc_Mo_clip 69 = .ok (.getfield 13, 3) := by decide +kernel
theorem kd_Mo_clip_72 : decode kc_Mo_clip 72 = .ok (.iload_n 3, 1) := by decide +kernel
theorem kd_Mo_clip_73 : decode kc_Mo_clip 73 = .ok (.iaload, 1) := by decide +kernel
theorem kd_Mo_clip_74 : decode kc_Mo_clip 74 = .ok (.ifCond .eq 28, 3) := by decide +kernel
theorem kd_Mo_clip_77 : decode kc_Mo_clip 77 = .ok (.iload 5, 2) := by decide +kernel
theorem kd_Mo_clip_79 : decode kc_Mo_clip 79 = .ok (.aload_n 0, 1) := by decide +kernel
theorem kd_Mo_clip_80 : decode kc_Mo_clip 80 = .ok (.getfield 13, 3) := by decide +kernel
theorem kd_Mo_clip_83 : decode kc_Mo_clip 83 = .ok (.iload_n 3, 1) := by decide +kernel
theorem kd_Mo_clip_84 : decode kc_Mo_clip 84 = .ok (.iaload, 1) := by decide +kernel
theorem kd_Mo_clip_85 : decode kc_Mo_clip 85 = .ok (.if_icmp .gt 17, 3) := by decide +kernel
theorem kd_Mo_clip_88 : decode kc_Mo_clip 88 = .ok (.iload 4, 2) := by decide +kernel
theorem kd_Mo_clip_90 : decode kc_Mo_clip 90 = .ok (.aload_n 0, 1) := by decide +kernel
theorem kd_Mo_clip_91 : decode kc_Mo_clip 91 = .ok (.getfield 13, 3) := by decide +kernel
theorem kd_Mo_clip_94 : decode kc_Mo_clip 94 = .ok (.iload_n 3, 1) := by decide +kernel
theorem kd_Mo_clip_95 : decode kc_Mo_clip 95 = .ok (.iaload, 1) := by decide +kernel
theorem kd_Mo_clip_96 : decode kc_Mo_clip 96 = .ok (.iload 5, 2) := by decide +kernel
theorem kd_Mo_clip_98 : decode kc_Mo_clip 98 = .ok (.isub, 1) := by decide +kernel
theorem kd_Mo_clip_99 : decode kc_Mo_clip 99 = .ok (.if_icmp .le 7, 3) := by decide +kernel
theorem kd_Mo_clip_102 : decode kc_Mo_clip 102 = .ok (.iconst 2, 1) := by decide +kernel
theorem kd_Mo_clip_103 : decode kc_Mo_clip 103 = .ok (.goto 4, 3) := by decide +kernel
theorem kd_Mo_clip_106 : decode kc_Mo_clip 106 = .ok (.iconst 0, 1) := by decide +kernel
theorem kd_Mo_clip_107 : decode kc_Mo_clip 107 = .ok (.putfield 101, 3) := by decide +kernel
theorem kd_Mo_clip_110 : decode kc_Mo_clip 110 = .ok (.aload_n 0, 1) := by decide +kernel
theorem kd_Mo_clip_111 : decode kc_Mo_clip 111 = .ok (.getfield 101, 3) := by decide +kernel
theorem kd_Mo_clip_114 : decode kc_Mo_clip 114 = .ok (.ifCond .le 5, 3) := by decide +kernel
theorem kd_Mo_clip_117 : decode kc_Mo_clip 117 = .ok (.iconst 0, 1) := by decide +kernel
theorem kd_Mo_clip_118 : decode kc_Mo_clip 118 = .ok (.ireturn, 1) := by decide +kernel
theorem kd_Mo_clip_119 : decode kc_Mo_clip 119 = .ok (.aload_n 0, 1) := by decide +kernel
theorem kd_Mo_clip_120 : decode kc_Mo_clip 120 = .ok (.invokevirtual 118, 3) := by decide +kernel
theorem kd_Mo_clip_123 : decode kc_Mo_clip 123 = .ok (.istore 7, 2) := by decide +kernel
theorem kd_Mo_clip_125 : decode kc_Mo_clip 125 = .ok (.iload 7, 2) := by decide +kernel
theorem kd_Mo_clip_127 : decode kc_Mo_clip 127 = .ok (.ifCond .lt 15, 3) := by decide +kernel
theorem kd_Mo_clip_130 : decode kc_Mo_clip 130 = .ok (.aload_n 0, 1) := by decide +kernel
theorem kd_Mo_clip_131 : decode kc_Mo_clip 131 = .ok (.iload_n 1, 1) := by decide +kernel
theorem kd_Mo_clip_132 : decode kc_Mo_clip 132 = .ok (.iload_n 2, 1) := by decide +kernel
theorem kd_Mo_clip_133 : decode kc_Mo_clip 133 = .ok (.iload 5, 2) := by decide +kernel
theorem kd_Mo_clip_135 : decode kc_Mo_clip 135 = .ok (.iconst (-1), 1) := by decide +kernel
theorem kd_Mo_clip_136 : decode kc_Mo_clip 136 = .ok (.invokevirtual 122, 3) := by decide +kernel
theorem kd_Mo_clip_139 : decode kc_Mo_clip 139 = .ok (.ifCond .eq 5, 3) := by decide +kernel
theorem kd_Mo_clip_142 : decode kc_Mo_clip 142 = .ok (.iconst (-1), 1) := by decide +kernel
theorem kd_Mo_clip_143 : decode kc_Mo_clip 143 = .ok (.ireturn, 1) := by decide +kernel
theorem kd_Mo_clip_144 : decode kc_Mo_clip 144 = .ok (.aload_n 0, 1) := by decide +kernel
theorem kd_Mo_clip_145 : decode kc_Mo_clip 145 = .ok (.getfield 16, 3) := by decide +kernel
theorem kd_Mo_clip_148 : decode kc_Mo_clip 148 = .ok (.iload 7, 2) := by decide +kernel
theorem kd_Mo_clip_150 : decode kc_Mo_clip 150 = .ok (.iconst 1, 1) := by decide +kernel
theorem kd_Mo_clip_151 : decode kc_Mo_clip 151 = .ok (.bastore, 1) := by decide +kernel
theorem kd_Mo_clip_152 : decode kc_Mo_clip 152 = .ok (.aload_n 0, 1) := by decide +kernel
theorem kd_Mo_clip_153 : decode kc_Mo_clip 153 = .ok (.getfield 20, 3) := by decide +kernel
theorem kd_Mo_clip_156 : decode kc_Mo_clip 156 = .ok (.iload 7, 2) := by decide +kernel
theorem kd_Mo_clip_158 : decode kc_Mo_clip 158 = .ok (.iload_n 1, 1) := by decide +kernel
theorem kd_Mo_clip_159 : decode kc_Mo_clip 159 = .ok (.iastore, 1) := by decide +kernel
theorem kd_Mo_clip_160 : decode kc_Mo_clip 160 = .ok (.aload_n 0, 1) := by decide +kernel
theorem kd_Mo_clip_161 : decode kc_Mo_clip 161 = .ok (.getfield 23, 3) := by decide +kernel
theorem kd_Mo_clip_164 : decode kc_Mo_clip 164 = .ok (.iload 7, 2) := by decide +kernel
theorem kd_Mo_clip_166 : decode kc_Mo_clip 166 = .ok (.iload_n 2, 1) := by decide +kernel
theorem kd_Mo_clip_167 : decode kc_Mo_clip 167 = .ok (.iastore, 1) := by decide +kernel
theorem kd_Mo_clip_168 : decode kc_Mo_clip 168 = .ok (.aload_n 0, 1) := by decide +kernel
theorem kd_Mo_clip_169 : decode kc_Mo_clip 169 = .ok (.getfield 26, 3) := by decide +kernel
theorem kd_Mo_clip_172 : decode kc_Mo_clip 172 = .ok (.iload 7, 2) := by decide +kernel
theorem kd_Mo_clip_174 : decode kc_Mo_clip 174 = .ok (.iload_n 3, 1) := by decide +kernel
theorem kd_Mo_clip_175 : decode kc_Mo_clip 175 = .ok (.iastore, 1) := by decide +kernel
theorem kd_Mo_clip_176 : decode kc_Mo_clip 176 = .ok (.aload_n 0, 1) := by decide +kernel
theorem kd_Mo_clip_177 : decode kc_Mo_clip 177 = .ok (.getfield 29, 3) := by decide +kernel
theorem kd_Mo_clip_180 : decode kc_Mo_clip 180 = .ok (.iload 7, 2) := by decide +kernel
theorem kd_Mo_clip_182 : decode kc_Mo_clip 182 = .ok (.iload 4, 2) := by decide +kernel
theorem kd_Mo_clip_184 : decode kc_Mo_clip 184 = .ok (.iastore, 1) := by decide +kernel
theorem kd_Mo_clip_185 : decode kc_Mo_clip 185 = .ok (.aload_n 0, 1) := by decide +kernel
theorem kd_Mo_clip_186 : decode kc_Mo_clip 186 = .ok (.getfield 32, 3) := by decide +kernel
theorem kd_Mo_clip_189 : decode kc_Mo_clip 189 = .ok (.iload 7, 2) := by decide +kernel
theorem kd_Mo_clip_191 : decode kc_Mo_clip 191 = .ok (.iload 5, 2) := by decide +kernel
theorem kd_Mo_clip_193 : decode kc_Mo_clip 193 = .ok (.iastore, 1) := by decide +kernel
theorem kd_Mo_clip_194 : decode kc_Mo_clip 194 = .ok (.aload_n 0, 1) := by decide +kernel
theorem kd_Mo_clip_195 : decode kc_Mo_clip 195 = .ok (.getfield 35, 3) := by decide +kernel
theorem kd_Mo_clip_198 : decode kc_Mo_clip 198 = .ok (.iload 7, 2) := by decide +kernel
theorem kd_Mo_clip_200 : decode kc_Mo_clip 200 = .ok (.sipush 256, 3) := by decide +kernel
theorem kd_Mo_clip_203 : decode kc_Mo_clip 203 = .ok (.iastore, 1) := by decide +kernel
theorem kd_Mo_clip_204 : decode kc_Mo_clip 204 = .ok (.aload_n 0, 1) := by decide +kernel
theorem kd_Mo_clip_205 : decode kc_Mo_clip 205 = .ok (.getfield 38, 3) := by decide +kernel
theorem kd_Mo_clip_208 : decode kc_Mo_clip 208 = .ok (.iload 7, 2) := by decide +kernel
theorem kd_Mo_clip_210 : decode kc_Mo_clip 210 = .ok (.iconst 0, 1) := by decide +kernel
theorem kd_Mo_clip_211 : decode kc_Mo_clip 211 = .ok (.iastore, 1) := by decide +kernel
theorem kd_Mo_clip_212 : decode kc_Mo_clip 212 = .ok (.aload_n 0, 1) := by decide +kernel
theorem kd_Mo_clip_213 : decode kc_Mo_clip 213 = .ok (.getfield 41, 3) := by decide +kernel
theorem kd_Mo_clip_216 : decode kc_Mo_clip 216 = .ok (.iload 7, 2) := by decide +kernel
theorem kd_Mo_clip_218 : decode kc_Mo_clip 218 = .ok (.iconst 0, 1) := by decide +kernel
theorem kd_Mo_clip_219 : decode kc_Mo_clip 219 = .ok (.iastore, 1) := by decide +kernel
theorem kd_Mo_clip_220 : decode kc_Mo_clip 220 = .ok (.iload 7, 2) := by decide +kernel
theorem kd_Mo_clip_222 : decode kc_Mo_clip 222 = .ok (.ireturn, 1) := by decide +kernel
theorem kd_Mo_drop_0 : decode kc_Mo_drop 0 = .ok (.aload_n 0, 1) := by decide +kernel
theorem kd_Mo_drop_1 : decode kc_Mo_drop 1 = .ok (.aload_n 0, 1) := by decide +kernel
theorem kd_Mo_drop_2 : decode kc_Mo_drop 2 = .ok (.iload_n 1, 1) := by decide +kernel
theorem kd_Mo_drop_3 : decode kc_Mo_drop 3 = .ok (.invokevirtual 126, 3) := by decide +kernel
theorem kd_Mo_drop_6 : decode kc_Mo_drop 6 = .ok (.ifCond .eq 7, 3) := by decide +kernel
theorem kd_Mo_drop_9 : decode kc_Mo_drop 9 = .ok (.iconst 1, 1) := by decide +kernel
theorem kd_Mo_drop_10 : decode kc_Mo_drop 10 = .ok (.goto 4, 3) := by decide +kernel
theorem kd_Mo_drop_13 : decode kc_Mo_drop 13 = .ok (.iconst 0, 1) := by decide +kernel
theorem kd_Mo_drop_14 : decode kc_Mo_drop 14 = .ok (.putfield 101, 3) := by decide +kernel
theorem kd_Mo_drop_17 : decode kc_Mo_drop 17 = .ok (.aload_n 0, 1) := by decide +kernel
theorem kd_Mo_drop_18 : decode kc_Mo_drop 18 = .ok (.getfield 101, 3) := by decide +kernel
theorem kd_Mo_drop_21 : decode kc_Mo_drop 21 = .ok (.ifCond .ne 10, 3) := by decide +kernel
theorem kd_Mo_drop_24 : decode kc_Mo_drop 24 = .ok (.aload_n 0, 1) := by decide +kernel
theorem kd_Mo_drop_25 : decode kc_Mo_drop 25 = .ok (.getfield 16, 3) := by decide +kernel
theorem kd_Mo_drop_28 : decode kc_Mo_drop 28 = .ok (.iload_n 1, 1) := by decide +kernel
theorem kd_Mo_drop_29 : decode kc_Mo_drop 29 = .ok (.iconst 0, 1) := by decide +kernel
theorem kd_Mo_drop_30 : decode kc_Mo_drop 30 = .ok (.bastore, 1) := by decide +kernel
theorem kd_Mo_drop_31 : decode kc_Mo_drop 31 = .ok (.return_, 1) := by decide +kernel
theorem kd_Mo_move_0 : decode kc_Mo_move 0 = .ok (.aload_n 0, 1) := by decide +kernel
theorem kd_Mo_move_1 : decode kc_Mo_move 1 = .ok (.aload_n 0, 1) := by decide +kernel
theorem kd_Mo_move_2 : decode kc_Mo_move 2 = .ok (.iload_n 1, 1) := by decide +kernel
theorem kd_Mo_move_3 : decode kc_Mo_move 3 = .ok (.invokevirtual 126, 3) := by decide +kernel
theorem kd_Mo_move_6 : decode kc_Mo_move 6 = .ok (.ifCond .eq 7, 3) := by decide +kernel
theorem kd_Mo_move_9 : decode kc_Mo_move 9 = .ok (.iconst 1, 1) := by decide +kernel
theorem kd_Mo_move_10 : decode kc_Mo_move 10 = .ok (.goto 35, 3) := by decide +kernel
theorem kd_Mo_move_13 : decode kc_Mo_move 13 = .ok (.iload_n 2, 1) := by decide +kernel
theorem kd_Mo_move_14 : decode kc_Mo_move 14 = .ok (.ifCond .lt 26, 3) := by decide +kernel
theorem kd_Mo_move_17 : decode kc_Mo_move 17 = .ok (.iload_n 2, 1) := by decide +kernel
theorem kd_Mo_move_18 : decode kc_Mo_move 18 = .ok (.iconst 3, 1) := by decide +kernel
theorem kd_Mo_move_19 : decode kc_Mo_move 19 = .ok (.if_icmp .gt 21, 3) := by decide +kernel
theorem kd_Mo_move_22 : decode kc_Mo_move 22 = .ok (.iload_n 3, 1) := by decide +kernel
theorem kd_Mo_move_23 : decode kc_Mo_move 23 = .ok (.ifCond .lt 17, 3) := by decide +kernel
theorem kd_Mo_move_26 : decode kc_Mo_move 26 = .ok (.iload_n 3, 1) := by decide +kernel
theorem kd_Mo_move_27 : decode kc_Mo_move 27 = .ok (.sipush 1024, 3) := by decide +kernel
theorem kd_Mo_move_30 : decode kc_Mo_move 30 = .ok (.aload_n 0, 1) := by decide +kernel
theorem kd_Mo_move_31 : decode kc_Mo_move 31 = .ok (.getfield 32, 3) := by decide +kernel
theorem kd_Mo_move_34 : decode kc_Mo_move 34 = .ok (.iload_n 1, 1) := by decide +kernel
theorem kd_Mo_move_35 : decode kc_Mo_move 35 = .ok (.iaload, 1) := by decide +kernel
theorem kd_Mo_move_36 : decode kc_Mo_move 36 = .ok (.isub, 1) := by decide +kernel
theorem kd_Mo_move_37 : decode kc_Mo_move 37 = .ok (.if_icmp .le 7, 3) := by decide +kernel
theorem kd_Mo_move_40 : decode kc_Mo_move 40 = .ok (.iconst 2, 1) := by decide +kernel
theorem kd_Mo_move_41 : decode kc_Mo_move 41 = .ok (.goto 4, 3) := by decide +kernel
theorem kd_Mo_move_44 : decode kc_Mo_move 44 = .ok (.iconst 0, 1) := by decide +kernel
theorem kd_Mo_move_45 : decode kc_Mo_move 45 = .ok (.putfield 101, 3) := by decide +kernel
theorem kd_Mo_move_48 : decode kc_Mo_move 48 = .ok (.aload_n 0, 1) := by decide +kernel
theorem kd_Mo_move_49 : decode kc_Mo_move 49 = .ok (.getfield 101, 3) := by decide +kernel
theorem kd_Mo_move_52 : decode kc_Mo_move 52 = .ok (.ifCond .gt 19, 3) := by decide +kernel
theorem kd_Mo_move_55 : decode kc_Mo_move 55 = .ok (.aload_n 0, 1) := by decide +kernel
theorem kd_Mo_move_56 : decode kc_Mo_move 56 = .ok (.iload_n 2, 1) := by decide +kernel
theorem kd_Mo_move_57 : decode kc_Mo_move 57 = .ok (.iload_n 3, 1) := by decide +kernel
theorem kd_Mo_move_58 : decode kc_Mo_move 58 = .ok (.aload_n 0, 1) := by decide +kernel
theorem kd_Mo_move_59 : decode kc_Mo_move 59 = .ok (.getfield 32, 3) := by decide +kernel
theorem kd_Mo_move_62 : decode kc_Mo_move 62 = .ok (.iload_n 1, 1) := by decide +kernel
theorem kd_Mo_move_63 : decode kc_Mo_move 63 = .ok (.iaload, 1) := by decide +kernel
theorem kd_Mo_move_64 : decode kc_Mo_move 64 = .ok (.iload_n 1, 1) := by decide +kernel
theorem kd_Mo_move_65 : decode kc_Mo_move 65 = .ok (.invokevirtual 122, 3) := by decide +kernel
theorem kd_Mo_move_68 : decode kc_Mo_move 68 = .ok (.ifCond .eq 5, 3) := by decide +kernel
theorem kd_Mo_move_71 : decode kc_Mo_move 71 = .ok (.iconst 0, 1) := by decide +kernel
theorem kd_Mo_move_72 : decode kc_Mo_move 72 = .ok (.ireturn, 1) := by decide +kernel
theorem kd_Mo_move_73 : decode kc_Mo_move 73 = .ok (.aload_n 0, 1) := by decide +kernel
theorem kd_Mo_move_74 : decode kc_Mo_move 74 = .ok (.getfield 20, 3) := by decide +kernel
theorem kd_Mo_move_77 : decode kc_Mo_move 77 = .ok (.iload_n 1, 1) := by decide +kernel
theorem kd_Mo_move_78 : decode kc_Mo_move 78 = .ok (.iload_n 2, 1) := by decide +kernel
theorem kd_Mo_move_79 : decode kc_Mo_move 79 = .ok (.iastore, 1) := by decide +kernel
theorem kd_Mo_move_80 : decode kc_Mo_move 80 = .ok (.aload_n 0, 1) := by decide +kernel
theorem kd_Mo_move_81 : decode kc_Mo_move 81 = .ok (.getfield 23, 3) := by decide +kernel
theorem kd_Mo_move_84 : decode kc_Mo_move 84 = .ok (.iload_n 1, 1) := by decide +kernel
theorem kd_Mo_move_85 : decode kc_Mo_move 85 = .ok (.iload_n 3, 1) := by decide +kernel
theorem kd_Mo_move_86 : decode kc_Mo_move 86 = .ok (.iastore, 1) := by decide +kernel
theorem kd_Mo_move_87 : decode kc_Mo_move 87 = .ok (.iconst 1, 1) := by decide +kernel
theorem kd_Mo_move_88 : decode kc_Mo_move 88 = .ok (.ireturn, 1) := by decide +kernel
theorem kd_Mo_split_0 : decode kc_Mo_split 0 = .ok (.aload_n 0, 1) := by decide +kernel
theorem kd_Mo_split_1 : decode kc_Mo_split 1 = .ok (.aload_n 0, 1) := by decide +kernel
theorem kd_Mo_split_2 : decode kc_Mo_split 2 = .ok (.iload_n 1, 1) := by decide +kernel
theorem kd_Mo_split_3 : decode kc_Mo_split 3 = .ok (.invokevirtual 126, 3) := by decide +kernel
theorem kd_Mo_split_6 : decode kc_Mo_split 6 = .ok (.ifCond .eq 7, 3) := by decide +kernel
theorem kd_Mo_split_9 : decode kc_Mo_split 9 = .ok (.iconst 1, 1) := by decide +kernel
theorem kd_Mo_split_10 : decode kc_Mo_split 10 = .ok (.goto 23, 3) := by decide +kernel
theorem kd_Mo_split_13 : decode kc_Mo_split 13 = .ok (.iload_n 2, 1) := by decide +kernel
theorem kd_Mo_split_14 : decode kc_Mo_split 14 = .ok (.iconst 1, 1) := by decide +kernel
theorem kd_Mo_split_15 : decode kc_Mo_split 15 = .ok (.if_icmp .lt 13, 3) := by decide +kernel
theorem kd_Mo_split_18 : decode kc_Mo_split 18 = .ok (.iload_n 2, 1) := by decide +kernel
theorem kd_Mo_split_19 : decode kc_Mo_split 19 = .ok (.aload_n 0, 1) := by decide +kernel
theorem kd_Mo_split_20 : decode kc_Mo_split 20 = .ok (.getfield 32, 3) := by decide +kernel
theorem kd_Mo_split_23 : decode kc_Mo_split 23 = .ok (.iload_n 1, 1) := by decide +kernel
theorem kd_Mo_split_24 : decode kc_Mo_split 24 = .ok (.iaload, 1) := by decide +kernel
theorem kd_Mo_split_25 : decode kc_Mo_split 25 = .ok (.if_icmp .lt 7, 3) := by decide +kernel
theorem kd_Mo_split_28 : decode kc_Mo_split 28 = .ok (.iconst 2, 1) := by decide +kernel
theorem kd_Mo_split_29 : decode kc_Mo_split 29 = .ok (.goto 4, 3) := by decide +kernel
theorem kd_Mo_split_32 : decode kc_Mo_split 32 = .ok (.iconst 0, 1) := by decide +kernel
theorem kd_Mo_split_33 : decode kc_Mo_split 33 = .ok (.putfield 101, 3) := by decide +kernel
theorem kd_Mo_split_36 : decode kc_Mo_split 36 = .ok (.aload_n 0, 1) := by decide +kernel
theorem kd_Mo_split_37 : decode kc_Mo_split 37 = .ok (.getfield 101, 3) := by decide +kernel
theorem kd_Mo_split_40 : decode kc_Mo_split 40 = .ok (.ifCond .le 5, 3) := by decide +kernel
theorem kd_Mo_split_43 : decode kc_Mo_split 43 = .ok (.iconst 0, 1) := by decide +kernel
theorem kd_Mo_split_44 : decode kc_Mo_split 44 = .ok (.ireturn, 1) := by decide +kernel
theorem kd_Mo_split_45 : decode kc_Mo_split 45 = .ok (.aload_n 0, 1) := by decide +kernel
theorem kd_Mo_split_46 : decode kc_Mo_split 46 = .ok (.invokevirtual 118, 3) := by decide +kernel
theorem kd_Mo_split_49 : decode kc_Mo_split 49 = .ok (.istore_n 3, 1) := by decide +kernel
theorem kd_Mo_split_50 : decode kc_Mo_split 50 = .ok (.iload_n 3, 1) := by decide +kernel
theorem kd_Mo_split_51 : decode kc_Mo_split 51 = .ok (.ifCond .lt 30, 3) := by decide +kernel
theorem kd_Mo_split_54 : decode kc_Mo_split 54 = .ok (.iload_n 2, 1) := by decide +kernel
theorem kd_Mo_split_55 : decode kc_Mo_split 55 = .ok (.aload_n 0, 1) := by decide +kernel
theorem kd_Mo_split_56 : decode kc_Mo_split 56 = .ok (.getfield 38, 3) := by decide +kernel
theorem kd_Mo_split_59 : decode kc_Mo_split 59 = .ok (.iload_n 1, 1) := by decide +kernel
theorem kd_Mo_split_60 : decode kc_Mo_split 60 = .ok (.iaload, 1) := by decide +kernel
theorem kd_Mo_split_61 : decode kc_Mo_split 61 = .ok (.if_icmp .lt 20, 3) := by decide +kernel
theorem kd_Mo_split_64 : decode kc_Mo_split 64 = .ok (.aload_n 0, 1) := by decide +kernel
theorem kd_Mo_split_65 : decode kc_Mo_split 65 = .ok (.getfield 32, 3) := by decide +kernel
theorem kd_Mo_split_68 : decode kc_Mo_split 68 = .ok (.iload_n 1, 1) := by decide +kernel
theorem kd_Mo_split_69 : decode kc_Mo_split 69 = .ok (.iaload, 1) := by decide +kernel
theorem kd_Mo_split_70 : decode kc_Mo_split 70 = .ok (.iload_n 2, 1) := by decide +kernel
theorem kd_Mo_split_71 : decode kc_Mo_split 71 = .ok (.isub, 1) := by decide +kernel
theorem kd_Mo_split_72 : decode kc_Mo_split 72 = .ok (.aload_n 0, 1) := by decide +kernel
theorem kd_Mo_split_73 : decode kc_Mo_split 73 = .ok (.getfield 41, 3) := by decide +kernel
theorem kd_Mo_split_76 : decode kc_Mo_split 76 = .ok (.iload_n 1, 1) := by decide +kernel
theorem kd_Mo_split_77 : decode kc_Mo_split 77 = .ok (.iaload, 1) := by decide +kernel
theorem kd_Mo_split_78 : decode kc_Mo_split 78 = .ok (.if_icmp .ge 5, 3) := by decide +kernel
theorem kd_Mo_split_81 : decode kc_Mo_split 81 = .ok (.iconst (-1), 1) := by decide +kernel
theorem kd_Mo_split_82 : decode kc_Mo_split 82 = .ok (.ireturn, 1) := by decide +kernel
theorem kd_Mo_split_83 : decode kc_Mo_split 83 = .ok (.aload_n 0, 1) := by decide +kernel
theorem kd_Mo_split_84 : decode kc_Mo_split 84 = .ok (.getfield 16, 3) := by decide +kernel
theorem kd_Mo_split_87 : decode kc_Mo_split 87 = .ok (.iload_n 3, 1) := by decide +kernel
theorem kd_Mo_split_88 : decode kc_Mo_split 88 = .ok (.iconst 1, 1) := by decide +kernel
theorem kd_Mo_split_89 : decode kc_Mo_split 89 = .ok (.bastore, 1) := by decide +kernel
theorem kd_Mo_split_90 : decode kc_Mo_split 90 = .ok (.aload_n 0, 1) := by decide +kernel
theorem kd_Mo_split_91 : decode kc_Mo_split 91 = .ok (.getfield 20, 3) := by decide +kernel
theorem kd_Mo_split_94 : decode kc_Mo_split 94 = .ok (.iload_n 3, 1) := by decide +kernel
theorem kd_Mo_split_95 : decode kc_Mo_split 95 = .ok (.aload_n 0, 1) := by decide +kernel
theorem kd_Mo_split_96 : decode kc_Mo_split 96 = .ok (.getfield 20, 3) := by decide +kernel
theorem kd_Mo_split_99 : decode kc_Mo_split 99 = .ok (.iload_n 1, 1) := by decide +kernel
theorem kd_Mo_split_100 : decode kc_Mo_split 100 = .ok (.iaload, 1) := by decide +kernel
theorem kd_Mo_split_101 : decode kc_Mo_split 101 = .ok (.iastore, 1) := by decide +kernel
theorem kd_Mo_split_102 : decode kc_Mo_split 102 = .ok (.aload_n 0, 1) := by decide +kernel
theorem kd_Mo_split_103 : decode kc_Mo_split 103 = .ok (.getfield 23, 3) := by decide +kernel
theorem kd_Mo_split_106 : decode kc_Mo_split 106 = .ok (.iload_n 3, 1) := by decide +kernel
theorem kd_Mo_split_107 : decode kc_Mo_split 107 = .ok (.aload_n 0, 1) := by decide +kernel
theorem kd_Mo_split_108 : decode kc_Mo_split 108 = .ok (.getfield 23, 3) := by decide +kernel
theorem kd_Mo_split_111 : decode kc_Mo_split 111 = .ok (.iload_n 1, 1) := by decide +kernel
theorem kd_Mo_split_112 : decode kc_Mo_split 112 = .ok (.iaload, 1) := by decide +kernel
theorem kd_Mo_split_113 : decode kc_Mo_split 113 = .ok (.iload_n 2, 1) := by decide +kernel
theorem kd_Mo_split_114 : decode kc_Mo_split 114 = .ok (.iadd, 1) := by decide +kernel
theorem kd_Mo_split_115 : decode kc_Mo_split 115 = .ok (.iastore, 1) := by decide +kernel
theorem kd_Mo_split_116 : decode kc_Mo_split 116 = .ok (.aload_n 0, 1) := by decide +kernel
theorem kd_Mo_split_117 : decode kc_Mo_split 117 = .ok (.getfield 26, 3) := by decide +kernel
theorem kd_Mo_split_120 : decode kc_Mo_split 120 = .ok (.iload_n 3, 1) := by decide +kernel
theorem kd_Mo_split_121 : decode kc_Mo_split 121 = .ok (.aload_n 0, 1) := by decide +kernel
theorem kd_Mo_split_122 : decode kc_Mo_split 122 = .ok (.getfield 26, 3) := by decide +kernel
theorem kd_Mo_split_125 : decode kc_Mo_split 125 = .ok (.iload_n 1, 1) := by decide +kernel
theorem kd_Mo_split_126 : decode kc_Mo_split 126 = .ok (.iaload, 1) := by decide +kernel
theorem kd_Mo_split_127 : decode kc_Mo_split 127 = .ok (.iastore, 1) := by decide +kernel
theorem kd_Mo_split_128 : decode kc_Mo_split 128 = .ok (.aload_n 0, 1) := by decide +kernel
theorem kd_Mo_split_129 : decode kc_Mo_split 129 = .ok (.getfield 29, 3) := by decide +kernel
theorem kd_Mo_split_132 : decode kc_Mo_split 132 = .ok (.iload_n 3, 1) := by decide +kernel
theorem kd_Mo_split_133 : decode kc_Mo_split 133 = .ok (.aload_n 0, 1) := by decide +kernel
theorem kd_Mo_split_134 : decode kc_Mo_split 134 = .ok (.getfield 29, 3) := by decide +kernel
theorem kd_Mo_split_137 : decode kc_Mo_split 137 = .ok (.iload_n 1, 1) := by decide +kernel
theorem kd_Mo_split_138 : decode kc_Mo_split 138 = .ok (.iaload, 1) := by decide +kernel
theorem kd_Mo_split_139 : decode kc_Mo_split 139 = .ok (.iload_n 2, 1) := by decide +kernel
theorem kd_Mo_split_140 : decode kc_Mo_split 140 = .ok (.iadd, 1) := by decide +kernel
theorem kd_Mo_split_141 : decode kc_Mo_split 141 = .ok (.iastore, 1) := by decide +kernel
theorem kd_Mo_split_142 : decode kc_Mo_split 142 = .ok (.aload_n 0, 1) := by decide +kernel
theorem kd_Mo_split_143 : decode kc_Mo_split 143 = .ok (.getfield 32, 3) := by decide +kernel
theorem kd_Mo_split_146 : decode kc_Mo_split 146 = .ok (.iload_n 3, 1) := by decide +kernel
theorem kd_Mo_split_147 : decode kc_Mo_split 147 = .ok (.aload_n 0, 1) := by decide +kernel
theorem kd_Mo_split_148 : decode kc_Mo_split 148 = .ok (.getfield 32, 3) := by decide +kernel
theorem kd_Mo_split_151 : decode kc_Mo_split 151 = .ok (.iload_n 1, 1) := by decide +kernel
theorem kd_Mo_split_152 : decode kc_Mo_split 152 = .ok (.iaload, 1) := by decide +kernel
theorem kd_Mo_split_153 : decode kc_Mo_split 153 = .ok (.iload_n 2, 1) := by decide +kernel
theorem kd_Mo_split_154 : decode kc_Mo_split 154 = .ok (.isub, 1) := by decide +kernel
theorem kd_Mo_split_155 : decode kc_Mo_split 155 = .ok (.iastore, 1) := by decide +kernel
theorem kd_Mo_split_156 : decode kc_Mo_split 156 = .ok (.aload_n 0, 1) := by decide +kernel
theorem kd_Mo_split_157 : decode kc_Mo_split 157 = .ok (.getfield 35, 3) := by decide +kernel
theorem kd_Mo_split_160 : decode kc_Mo_split 160 = .ok (.iload_n 3, 1) := by decide +kernel
theorem kd_Mo_split_161 : decode kc_Mo_split 161 = .ok (.aload_n 0, 1) := by decide +kernel
theorem kd_Mo_split_162 : decode kc_Mo_split 162 = .ok (.getfield 35, 3) := by decide +kernel
theorem kd_Mo_split_165 : decode kc_Mo_split 165 = .ok (.iload_n 1, 1) := by decide +kernel
theorem kd_Mo_split_166 : decode kc_Mo_split 166 = .ok (.iaload, 1) := by decide +kernel
theorem kd_Mo_split_167 : decode kc_Mo_split 167 = .ok (.iastore, 1) := by decide +kernel
theorem kd_Mo_split_168 : decode kc_Mo_split 168 = .ok (.aload_n 0, 1) := by decide +kernel
theorem kd_Mo_split_169 : decode kc_Mo_split 169 = .ok (.getfield 38, 3) := by decide +kernel
theorem kd_Mo_split_172 : decode kc_Mo_split 172 = .ok (.iload_n 3, 1) := by decide +kernel
theorem kd_Mo_split_173 : decode kc_Mo_split 173 = .ok (.iconst 0, 1) := by decide +kernel
theorem kd_Mo_split_174 : decode kc_Mo_split 174 = .ok (.iastore, 1) := by decide +kernel
theorem kd_Mo_split_175 : decode kc_Mo_split 175 = .ok (.aload_n 0, 1) := by decide +kernel
theorem kd_Mo_split_176 : decode kc_Mo_split 176 = .ok (.getfield 41, 3) := by decide +kernel
theorem kd_Mo_split_179 : decode kc_Mo_split 179 = .ok (.iload_n 3, 1) := by decide +kernel
theorem kd_Mo_split_180 : decode kc_Mo_split 180 = .ok (.aload_n 0, 1) := by decide +kernel
theorem kd_Mo_split_181 : decode kc_Mo_split 181 = .ok (.getfield 41, 3) := by decide +kernel
theorem kd_Mo_split_184 : decode kc_Mo_split 184 = .ok (.iload_n 1, 1) := by decide +kernel
theorem kd_Mo_split_185 : decode kc_Mo_split 185 = .ok (.iaload, 1) := by decide +kernel
theorem kd_Mo_split_186 : decode kc_Mo_split 186 = .ok (.iastore, 1) := by decide +kernel
theorem kd_Mo_split_187 : decode kc_Mo_split 187 = .ok (.aload_n 0, 1) := by decide +kernel
theorem kd_Mo_split_188 : decode kc_Mo_split 188 = .ok (.getfield 32, 3) := by decide +kernel
theorem kd_Mo_split_191 : decode kc_Mo_split 191 = .ok (.iload_n 1, 1) := by decide +kernel
theorem kd_Mo_split_192 : decode kc_Mo_split 192 = .ok (.iload_n 2, 1) := by decide +kernel
theorem kd_Mo_split_193 : decode kc_Mo_split 193 = .ok (.iastore, 1) := by decide +kernel
theorem kd_Mo_split_194 : decode kc_Mo_split 194 = .ok (.aload_n 0, 1) := by decide +kernel
theorem kd_Mo_split_195 : decode kc_Mo_split 195 = .ok (.getfield 41, 3) := by decide +kernel
theorem kd_Mo_split_198 : decode kc_Mo_split 198 = .ok (.iload_n 1, 1) := by decide +kernel
theorem kd_Mo_split_199 : decode kc_Mo_split 199 = .ok (.iconst 0, 1) := by decide +kernel
theorem kd_Mo_split_200 : decode kc_Mo_split 200 = .ok (.iastore, 1) := by decide +kernel
theorem kd_Mo_split_201 : decode kc_Mo_split 201 = .ok (.iload_n 3, 1) := by decide +kernel
theorem kd_Mo_split_202 : decode kc_Mo_split 202 = .ok (.ireturn, 1) := by decide +kernel
theorem kd_Mo_shape_0 : decode kc_Mo_shape 0 = .ok (.iload_n 2, 1) := by decide +kernel
theorem kd_Mo_shape_1 : decode kc_Mo_shape 1 = .ok (.invokestatic 130, 3) := by decide +kernel
theorem kd_Mo_shape_4 : decode kc_Mo_shape 4 = .ok (.ifCond .ne 12, 3) := by decide +kernel
theorem kd_Mo_shape_7 : decode kc_Mo_shape 7 = .ok (.iload_n 3, 1) := by decide +kernel
theorem kd_Mo_shape_8 : decode kc_Mo_shape 8 = .ok (.ifCond .lt 8, 3) := by decide +kernel
theorem kd_Mo_shape_11 : decode kc_Mo_shape 11 = .ok (.iload 4, 2) := by decide +kernel
theorem kd_Mo_shape_13 : decode kc_Mo_shape 13 = .ok (.ifCond .ge 7, 3) := by decide +kernel
theorem kd_Mo_shape_16 : decode kc_Mo_shape 16 = .ok (.iconst 1, 1) := by decide +kernel
theorem kd_Mo_shape_17 : decode kc_Mo_shape 17 = .ok (.goto 4, 3) := by decide +kernel
theorem kd_Mo_shape_20 : decode kc_Mo_shape 20 = .ok (.iconst 0, 1) := by decide +kernel
theorem kd_Mo_shape_21 : decode kc_Mo_shape 21 = .ok (.istore 5, 2) := by decide +kernel
theorem kd_Mo_shape_23 : decode kc_Mo_shape 23 = .ok (.aload_n 0, 1) := by decide +kernel
theorem kd_Mo_shape_24 : decode kc_Mo_shape 24 = .ok (.aload_n 0, 1) := by decide +kernel
theorem kd_Mo_shape_25 : decode kc_Mo_shape 25 = .ok (.iload_n 1, 1) := by decide +kernel
theorem kd_Mo_shape_26 : decode kc_Mo_shape 26 = .ok (.invokevirtual 126, 3) := by decide +kernel
theorem kd_Mo_shape_29 : decode kc_Mo_shape 29 = .ok (.ifCond .eq 7, 3) := by decide +kernel
theorem kd_Mo_shape_32 : decode kc_Mo_shape 32 = .ok (.iconst 1, 1) := by decide +kernel
theorem kd_Mo_shape_33 : decode kc_Mo_shape 33 = .ok (.goto 36, 3) := by decide +kernel
theorem kd_Mo_shape_36 : decode kc_Mo_shape 36 = .ok (.iload 5, 2) := by decide +kernel
theorem kd_Mo_shape_38 : decode kc_Mo_shape 38 = .ok (.ifCond .ne 26, 3) := by decide +kernel
theorem kd_Mo_shape_41 : decode kc_Mo_shape 41 = .ok (.iload_n 3, 1) := by decide +kernel
theorem kd_Mo_shape_42 : decode kc_Mo_shape 42 = .ok (.aload_n 0, 1) := by decide +kernel
theorem kd_Mo_shape_43 : decode kc_Mo_shape 43 = .ok (.getfield 32, 3) := by decide +kernel
theorem kd_Mo_shape_46 : decode kc_Mo_shape 46 = .ok (.iload_n 1, 1) := by decide +kernel
theorem kd_Mo_shape_47 : decode kc_Mo_shape 47 = .ok (.iaload, 1) := by decide +kernel
theorem kd_Mo_shape_48 : decode kc_Mo_shape 48 = .ok (.if_icmp .gt 16, 3) := by decide +kernel
theorem kd_Mo_shape_51 : decode kc_Mo_shape 51 = .ok (.iload 4, 2) := by decide +kernel
theorem kd_Mo_shape_53 : decode kc_Mo_shape 53 = .ok (.aload_n 0, 1) := by decide +kernel
theorem kd_Mo_shape_54 : decode kc_Mo_shape 54 = .ok (.getfield 32, 3) := by decide +kernel
theorem kd_Mo_shape_57 : decode kc_Mo_shape 57 = .ok (.iload_n 1, 1) := by decide +kernel
theorem kd_Mo_shape_58 : decode kc_Mo_shape 58 = .ok (.iaload, 1) := by decide +kernel
theorem kd_Mo_shape_59 : decode kc_Mo_shape 59 = .ok (.iload_n 3, 1) := by decide +kernel
theorem kd_Mo_shape_60 : decode kc_Mo_shape 60 = .ok (.isub, 1) := by decide +kernel
theorem kd_Mo_shape_61 : decode kc_Mo_shape 61 = .ok (.if_icmp .le 7, 3) := by decide +kernel
theorem kd_Mo_shape_64 : decode kc_Mo_shape 64 = .ok (.iconst 2, 1) := by decide +kernel
theorem kd_Mo_shape_65 : decode kc_Mo_shape 65 = .ok (.goto 4, 3) := by decide +kernel
theorem kd_Mo_shape_68 : decode kc_Mo_shape 68 = .ok (.iconst 0, 1) := by decide +kernel
theorem kd_Mo_shape_69 : decode kc_Mo_shape 69 = .ok (.putfield 101, 3) := by decide +kernel
theorem kd_Mo_shape_72 : decode kc_Mo_shape 72 = .ok (.aload_n 0, 1) := by decide +kernel
theorem kd_Mo_shape_73 : decode kc_Mo_shape 73 = .ok (.getfield 101, 3) := by decide +kernel
theorem kd_Mo_shape_76 : decode kc_Mo_shape 76 = .ok (.ifCond .ne 25, 3) := by decide +kernel
theorem kd_Mo_shape_79 : decode kc_Mo_shape 79 = .ok (.aload_n 0, 1) := by decide +kernel
theorem kd_Mo_shape_80 : decode kc_Mo_shape 80 = .ok (.getfield 35, 3) := by decide +kernel
theorem kd_Mo_shape_83 : decode kc_Mo_shape 83 = .ok (.iload_n 1, 1) := by decide +kernel
theorem kd_Mo_shape_84 : decode kc_Mo_shape 84 = .ok (.iload_n 2, 1) := by decide +kernel
theorem kd_Mo_shape_85 : decode kc_Mo_shape 85 = .ok (.iastore, 1) := by decide +kernel
theorem kd_Mo_shape_86 : decode kc_Mo_shape 86 = .ok (.aload_n 0, 1) := by decide +kernel
theorem kd_Mo_shape_87 : decode kc_Mo_shape 87 = .ok (.getfield 38, 3) := by decide +kernel
theorem kd_Mo_shape_90 : decode kc_Mo_shape 90 = .ok (.iload_n 1, 1) := by decide +kernel
theorem kd_Mo_shape_91 : decode kc_Mo_shape 91 = .ok (.iload_n 3, 1) := by decide +kernel
theorem kd_Mo_shape_92 : decode kc_Mo_shape 92 = .ok (.iastore, 1) := by decide +kernel
theorem kd_Mo_shape_93 : decode kc_Mo_shape 93 = .ok (.aload_n 0, 1) := by decide +kernel
theorem kd_Mo_shape_94 : decode kc_Mo_shape 94 = .ok (.getfield 41, 3) := by decide +kernel
theorem kd_Mo_shape_97 : decode kc_Mo_shape 97 = .ok (.iload_n 1, 1) := by decide +kernel
theorem kd_Mo_shape_98 : decode kc_Mo_shape 98 = .ok (.iload 4, 2) := by decide +kernel
theorem kd_Mo_shape_100 : decode kc_Mo_shape 100 = .ok (.iastore, 1) := by decide +kernel
theorem kd_Mo_shape_101 : decode kc_Mo_shape 101 = .ok (.return_, 1) := by decide +kernel
theorem kd_Mo_feeds_0 : decode kc_Mo_feeds 0 = .ok (.aload_n 0, 1) := by decide +kernel
theorem kd_Mo_feeds_1 : decode kc_Mo_feeds 1 = .ok (.getfield 44, 3) := by decide +kernel
theorem kd_Mo_feeds_4 : decode kc_Mo_feeds 4 = .ok (.iload_n 1, 1) := by decide +kernel
theorem kd_Mo_feeds_5 : decode kc_Mo_feeds 5 = .ok (.iaload, 1) := by decide +kernel
theorem kd_Mo_feeds_6 : decode kc_Mo_feeds 6 = .ok (.iload_n 2, 1) := by decide +kernel
theorem kd_Mo_feeds_7 : decode kc_Mo_feeds 7 = .ok (.if_icmp .eq 35, 3) := by decide +kernel
theorem kd_Mo_feeds_10 : decode kc_Mo_feeds 10 = .ok (.iload_n 1, 1) := by decide +kernel
theorem kd_Mo_feeds_11 : decode kc_Mo_feeds 11 = .ok (.bipush 7, 2) := by decide +kernel
theorem kd_Mo_feeds_13 : decode kc_Mo_feeds 13 = .ok (.if_icmp .ge 33, 3) := by decide +kernel
theorem kd_Mo_feeds_16 : decode kc_Mo_feeds 16 = .ok (.iload_n 2, 1) := by decide +kernel
theorem kd_Mo_feeds_17 : decode kc_Mo_feeds 17 = .ok (.iconst 3, 1) := by decide +kernel
theorem kd_Mo_feeds_18 : decode kc_Mo_feeds 18 = .ok (.if_icmp .le 28, 3) := by decide +kernel
theorem kd_Mo_feeds_21 : decode kc_Mo_feeds 21 = .ok (.iload_n 2, 1) := by decide +kernel
theorem kd_Mo_feeds_22 : decode kc_Mo_feeds 22 = .ok (.bipush 7, 2) := by decide +kernel
theorem kd_Mo_feeds_24 : decode kc_Mo_feeds 24 = .ok (.if_icmp .ge 22, 3) := by decide +kernel
theorem kd_Mo_feeds_27 : decode kc_Mo_feeds 27 = .ok (.aload_n 0, 1) := by decide +kernel
theorem kd_Mo_feeds_28 : decode kc_Mo_feeds 28 = .ok (.getfield 47, 3) := by decide +kernel
theorem kd_Mo_feeds_31 : decode kc_Mo_feeds 31 = .ok (.iconst 3, 1) := by decide +kernel
theorem kd_Mo_feeds_32 : decode kc_Mo_feeds 32 = .ok (.iload_n 1, 1) := by decide +kernel
theorem kd_Mo_feeds_33 : decode kc_Mo_feeds 33 = .ok (.imul, 1) := by decide +kernel
theorem kd_Mo_feeds_34 : decode kc_Mo_feeds 34 = .ok (.iload_n 2, 1) := by decide +kernel
theorem kd_Mo_feeds_35 : decode kc_Mo_feeds 35 = .ok (.iadd, 1) := by decide +kernel
theorem kd_Mo_feeds_36 : decode kc_Mo_feeds 36 = .ok (.iconst 4, 1) := by decide +kernel
theorem kd_Mo_feeds_37 : decode kc_Mo_feeds 37 = .ok (.isub, 1) := by decide +kernel
theorem kd_Mo_feeds_38 : decode kc_Mo_feeds 38 = .ok (.iaload, 1) := by decide +kernel
theorem kd_Mo_feeds_39 : decode kc_Mo_feeds 39 = .ok (.ifCond .le 7, 3) := by decide +kernel
theorem kd_Mo_feeds_42 : decode kc_Mo_feeds 42 = .ok (.iconst 1, 1) := by decide +kernel
theorem kd_Mo_feeds_43 : decode kc_Mo_feeds 43 = .ok (.goto 4, 3) := by decide +kernel
theorem kd_Mo_feeds_46 : decode kc_Mo_feeds 46 = .ok (.iconst 0, 1) := by decide +kernel
theorem kd_Mo_feeds_47 : decode kc_Mo_feeds 47 = .ok (.ireturn, 1) := by decide +kernel
theorem kd_Mo_findReach_0 : decode kc_Mo_findReach 0 = .ok (.iconst 0, 1) := by decide +kernel
theorem kd_Mo_findReach_1 : decode kc_Mo_findReach 1 = .ok (.istore_n 1, 1) := by decide +kernel
theorem kd_Mo_findReach_2 : decode kc_Mo_findReach 2 = .ok (.iload_n 1, 1) := by decide +kernel
theorem kd_Mo_findReach_3 : decode kc_Mo_findReach 3 = .ok (.bipush 64, 2) := by decide +kernel
theorem kd_Mo_findReach_5 : decode kc_Mo_findReach 5 = .ok (.if_icmp .ge 27, 3) := by decide +kernel
theorem kd_Mo_findReach_8 : decode kc_Mo_findReach 8 = .ok (.aload_n 0, 1) := by decide +kernel
theorem kd_Mo_findReach_9 : decode kc_Mo_findReach 9 = .ok (.getfield 80, 3) := by decide +kernel
theorem kd_Mo_findReach_12 : decode kc_Mo_findReach 12 = .ok (.iload_n 1, 1) := by decide +kernel
theorem kd_Mo_findReach_13 : decode kc_Mo_findReach 13 = .ok (.aload_n 0, 1) := by decide +kernel
theorem kd_Mo_findReach_14 : decode kc_Mo_findReach 14 = .ok (.iload_n 1, 1) := by decide +kernel
theorem kd_Mo_findReach_15 : decode kc_Mo_findReach 15 = .ok (.bipush 8, 2) := by decide +kernel
theorem kd_Mo_findReach_17 : decode kc_Mo_findReach 17 = .ok (.idiv, 1) := by decide +kernel
theorem kd_Mo_findReach_18 : decode kc_Mo_findReach 18 = .ok (.iload_n 1, 1) := by decide +kernel
theorem kd_Mo_findReach_19 : decode kc_Mo_findReach 19 = .ok (.bipush 8, 2) := by decide +kernel
theorem kd_Mo_findReach_21 : decode kc_Mo_findReach 21 = .ok (.irem, 1) := by decide +kernel
theorem kd_Mo_findReach_22 : decode kc_Mo_findReach 22 = .ok (.invokevirtual 133, 3) := by decide +kernel
theorem kd_Mo_findReach_25 : decode kc_Mo_findReach 25 = .ok (.bastore, 1) := by decide +kernel
theorem kd_Mo_findReach_26 : decode kc_Mo_findReach 26 = .ok (.iinc 1 1, 3) := by decide +kernel
theorem kd_Mo_findReach_29 : decode kc_Mo_findReach 29 = .ok (.goto (-27), 3) := by decide +kernel
theorem kd_Mo_findReach_32 : decode kc_Mo_findReach 32 = .ok (.iconst 0, 1) := by decide +kernel
theorem kd_Mo_findReach_33 : decode kc_Mo_findReach 33 = .ok (.istore_n 1, 1) := by decide +kernel
theorem kd_Mo_findReach_34 : decode kc_Mo_findReach 34 = .ok (.iload_n 1, 1) := by decide +kernel
theorem kd_Mo_findReach_35 : decode kc_Mo_findReach 35 = .ok (.bipush 8, 2) := by decide +kernel
theorem kd_Mo_findReach_37 : decode kc_Mo_findReach 37 = .ok (.if_icmp .ge 77, 3) := by decide +kernel
theorem kd_Mo_findReach_40 : decode kc_Mo_findReach 40 = .ok (.iconst 0, 1) := by decide +kernel
theorem kd_Mo_findReach_41 : decode kc_Mo_findReach 41 = .ok (.istore_n 2, 1) := by decide +kernel
theorem kd_Mo_findReach_42 : decode kc_Mo_findReach 42 = .ok (.iload_n 2, 1) := by decide +kernel
theorem kd_Mo_findReach_43 : decode kc_Mo_findReach 43 = .ok (.bipush 64, 2) := by decide +kernel
theorem kd_Mo_findReach_45 : decode kc_Mo_findReach 45 = .ok (.if_icmp .ge 63, 3) := by decide +kernel
theorem kd_Mo_findReach_48 : decode kc_Mo_findReach 48 = .ok (.aload_n 0, 1) := by decide +kernel
theorem kd_Mo_findReach_49 : decode kc_Mo_findReach 49 = .ok (.getfield 80, 3) := by decide +kernel
theorem kd_Mo_findReach_52 : decode kc_Mo_findReach 52 = .ok (.iload_n 2, 1) := by decide +kernel
theorem kd_Mo_findReach_53 : decode kc_Mo_findReach 53 = .ok (.aload_n 0, 1) := by decide +kernel
theorem kd_Mo_findReach_54 : decode kc_Mo_findReach 54 = .ok (.getfield 80, 3) := by decide +kernel
theorem kd_Mo_findReach_57 : decode kc_Mo_findReach 57 = .ok (.iload_n 2, 1) := by decide +kernel
theorem kd_Mo_findReach_58 : decode kc_Mo_findReach 58 = .ok (.baload, 1) := by decide +kernel
theorem kd_Mo_findReach_59 : decode kc_Mo_findReach 59 = .ok (.ifCond .ne 37, 3) := by decide +kernel
theorem kd_Mo_findReach_62 : decode kc_Mo_findReach 62 = .ok (.aload_n 0, 1) := by decide +kernel
theorem kd_Mo_findReach_63 : decode kc_Mo_findReach 63 = .ok (.getfield 80, 3) := by decide +kernel
theorem kd_Mo_findReach_66 : decode kc_Mo_findReach 66 = .ok (.iload_n 2, 1) := by decide +kernel
theorem kd_Mo_findReach_67 : decode kc_Mo_findReach 67 = .ok (.bipush 8, 2) := by decide +kernel
theorem kd_Mo_findReach_69 : decode kc_Mo_findReach 69 = .ok (.idiv, 1) := by decide +kernel
theorem kd_Mo_findReach_70 : decode kc_Mo_findReach 70 = .ok (.bipush 8, 2) := by decide +kernel
theorem kd_Mo_findReach_72 : decode kc_Mo_findReach 72 = .ok (.imul, 1) := by decide +kernel
theorem kd_Mo_findReach_73 : decode kc_Mo_findReach 73 = .ok (.iload_n 1, 1) := by decide +kernel
theorem kd_Mo_findReach_74 : decode kc_Mo_findReach 74 = .ok (.iadd, 1) := by decide +kernel
theorem kd_Mo_findReach_75 : decode kc_Mo_findReach 75 = .ok (.baload, 1) := by decide +kernel
theorem kd_Mo_findReach_76 : decode kc_Mo_findReach 76 = .ok (.ifCond .eq 24, 3) := by decide +kernel
theorem kd_Mo_findReach_79 : decode kc_Mo_findReach 79 = .ok (.aload_n 0, 1) := by decide +kernel
theorem kd_Mo_findReach_80 : decode kc_Mo_findReach 80 = .ok (.getfield 80, 3) := by decide +kernel
theorem kd_Mo_findReach_83 : decode kc_Mo_findReach 83 = .ok (.bipush 8, 2) := by decide +kernel
theorem kd_Mo_findReach_85 : decode kc_Mo_findReach 85 = .ok (.iload_n 1, 1) := by decide +kernel
theorem kd_Mo_findReach_86 : decode kc_Mo_findReach 86 = .ok (.imul, 1) := by decide +kernel
theorem kd_Mo_findReach_87 : decode kc_Mo_findReach 87 = .ok (.iload_n 2, 1) := by decide +kernel
theorem kd_Mo_findReach_88 : decode kc_Mo_findReach 88 = .ok (.bipush 8, 2) := by decide +kernel
theorem kd_Mo_findReach_90 : decode kc_Mo_findReach 90 = .ok (.irem, 1) := by decide +kernel
theorem kd_Mo_findReach_91 : decode kc_Mo_findReach 91 = .ok (.iadd, 1) := by decide +kernel
theorem kd_Mo_findReach_92 : decode kc_Mo_findReach 92 = .ok (.baload, 1) := by decide +kernel
theorem kd_Mo_findReach_93 : decode kc_Mo_findReach 93 = .ok (.ifCond .eq 7, 3) := by decide +kernel
theorem kd_Mo_findReach_96 : decode kc_Mo_findReach 96 = .ok (.iconst 1, 1) := by decide +kernel
theorem kd_Mo_findReach_97 : decode kc_Mo_findReach 97 = .ok (.goto 4, 3) := by decide +kernel
theorem kd_Mo_findReach_100 : decode kc_Mo_findReach 100 = .ok (.iconst 0, 1) := by decide +kernel
theorem kd_Mo_findReach_101 : decode kc_Mo_findReach 101 = .ok (.bastore, 1) := by decide +kernel
theorem kd_Mo_findReach_102 : decode kc_Mo_findReach 102 = .ok (.iinc 2 1, 3) := by decide +kernel
theorem kd_Mo_findReach_105 : decode kc_Mo_findReach 105 = .ok (.goto (-63), 3) := by decide +kernel
theorem kd_Mo_findReach_108 : decode kc_Mo_findReach 108 = .ok (.iinc 1 1, 3) := by decide +kernel
theorem kd_Mo_findReach_111 : decode kc_Mo_findReach 111 = .ok (.goto (-77), 3) := by decide +kernel
theorem kd_Mo_findReach_114 : decode kc_Mo_findReach 114 = .ok (.return_, 1) := by decide +kernel
theorem kd_Mo_route_0 : decode kc_Mo_route 0 = .ok (.aload_n 0, 1) := by decide +kernel
theorem kd_Mo_route_1 : decode kc_Mo_route 1 = .ok (.iload_n 1, 1) := by decide +kernel
theorem kd_Mo_route_2 : decode kc_Mo_route 2 = .ok (.ifCond .lt 20, 3) := by decide +kernel
theorem kd_Mo_route_5 : decode kc_Mo_route 5 = .ok (.iload_n 1, 1) := by decide +kernel
theorem kd_Mo_route_6 : decode kc_Mo_route 6 = .ok (.bipush 6, 2) := by decide +kernel
theorem kd_Mo_route_8 : decode kc_Mo_route 8 = .ok (.if_icmp .gt 14, 3) := by decide +kernel
theorem kd_Mo_route_11 : decode kc_Mo_route 11 = .ok (.iload_n 2, 1) := by decide +kernel
theorem kd_Mo_route_12 : decode kc_Mo_route 12 = .ok (.iconst 4, 1) := by decide +kernel
theorem kd_Mo_route_13 : decode kc_Mo_route 13 = .ok (.if_icmp .lt 9, 3) := by decide +kernel
theorem kd_Mo_route_16 : decode kc_Mo_route 16 = .ok (.iload_n 2, 1) := by decide +kernel
theorem kd_Mo_route_17 : decode kc_Mo_route 17 = .ok (.bipush 7, 2) := by decide +kernel
theorem kd_Mo_route_19 : decode kc_Mo_route 19 = .ok (.if_icmp .le 7, 3) := by decide +kernel
theorem kd_Mo_route_22 : decode kc_Mo_route 22 = .ok (.iconst 1, 1) := by decide +kernel
theorem kd_Mo_route_23 : decode kc_Mo_route 23 = .ok (.goto 4, 3) := by decide +kernel
theorem kd_Mo_route_26 : decode kc_Mo_route 26 = .ok (.iconst 0, 1) := by decide +kernel
theorem kd_Mo_route_27 : decode kc_Mo_route 27 = .ok (.putfield 101, 3) := by decide +kernel
theorem kd_Mo_route_30 : decode kc_Mo_route 30 = .ok (.aload_n 0, 1) := by decide +kernel
theorem kd_Mo_route_31 : decode kc_Mo_route 31 = .ok (.getfield 101, 3) := by decide +kernel
theorem kd_Mo_route_34 : decode kc_Mo_route 34 = .ok (.ifCond .le 5, 3) := by decide +kernel
theorem kd_Mo_route_37 : decode kc_Mo_route 37 = .ok (.iconst 0, 1) := by decide +kernel
theorem kd_Mo_route_38 : decode kc_Mo_route 38 = .ok (.ireturn, 1) := by decide +kernel
theorem kd_Mo_route_39 : decode kc_Mo_route 39 = .ok (.aload_n 0, 1) := by decide +kernel
theorem kd_Mo_route_40 : decode kc_Mo_route 40 = .ok (.getfield 44, 3) := by decide +kernel
theorem kd_Mo_route_43 : decode kc_Mo_route 43 = .ok (.iload_n 1, 1) := by decide +kernel
theorem kd_Mo_route_44 : decode kc_Mo_route 44 = .ok (.iaload, 1) := by decide +kernel
theorem kd_Mo_route_45 : decode kc_Mo_route 45 = .ok (.istore_n 3, 1) := by decide +kernel
theorem kd_Mo_route_46 : decode kc_Mo_route 46 = .ok (.aload_n 0, 1) := by decide +kernel
theorem kd_Mo_route_47 : decode kc_Mo_route 47 = .ok (.getfield 44, 3) := by decide +kernel
theorem kd_Mo_route_50 : decode kc_Mo_route 50 = .ok (.iload_n 1, 1) := by decide +kernel
theorem kd_Mo_route_51 : decode kc_Mo_route 51 = .ok (.iload_n 2, 1) := by decide +kernel
theorem kd_Mo_route_52 : decode kc_Mo_route 52 = .ok (.iastore, 1) := by decide +kernel
theorem kd_Mo_route_53 : decode kc_Mo_route 53 = .ok (.aload_n 0, 1) := by decide +kernel
theorem kd_Mo_route_54 : decode kc_Mo_route 54 = .ok (.invokevirtual 137, 3) := by decide +kernel
theorem kd_Mo_route_57 : decode kc_Mo_route 57 = .ok (.aload_n 0, 1) := by decide +kernel
theorem kd_Mo_route_58 : decode kc_Mo_route 58 = .ok (.getfield 80, 3) := by decide +kernel
theorem kd_Mo_route_61 : decode kc_Mo_route 61 = .ok (.bipush 9, 2) := by decide +kernel
theorem kd_Mo_route_63 : decode kc_Mo_route 63 = .ok (.iload_n 1, 1) := by decide +kernel
theorem kd_Mo_route_64 : decode kc_Mo_route 64 = .ok (.imul, 1) := by decide +kernel
theorem kd_Mo_route_65 : decode kc_Mo_route 65 = .ok (.baload, 1) := by decide +kernel
theorem kd_Mo_route_66 : decode kc_Mo_route 66 = .ok (.ifCond .eq 12, 3) := by decide +kernel
theorem kd_Mo_route_69 : decode kc_Mo_route 69 = .ok (.aload_n 0, 1) := by decide +kernel
theorem kd_Mo_route_70 : decode kc_Mo_route 70 = .ok (.getfield 44, 3) := by decide +kernel
theorem kd_Mo_route_73 : decode kc_Mo_route 73 = .ok (.iload_n 1, 1) := by decide +kernel
theorem kd_Mo_route_74 : decode kc_Mo_route 74 = .ok (.iload_n 3, 1) := by decide +kernel
theorem kd_Mo_route_75 : decode kc_Mo_route 75 = .ok (.iastore, 1) := by decide +kernel
theorem kd_Mo_route_76 : decode kc_Mo_route 76 = .ok (.iconst 0, 1) := by decide +kernel
theorem kd_Mo_route_77 : decode kc_Mo_route 77 = .ok (.ireturn, 1) := by decide +kernel
theorem kd_Mo_route_78 : decode kc_Mo_route 78 = .ok (.iconst 1, 1) := by decide +kernel
theorem kd_Mo_route_79 : decode kc_Mo_route 79 = .ok (.ireturn, 1) := by decide +kernel
theorem kd_Mo_send_0 : decode kc_Mo_send 0 = .ok (.aload_n 0, 1) := by decide +kernel
theorem kd_Mo_send_1 : decode kc_Mo_send 1 = .ok (.iload_n 1, 1) := by decide +kernel
theorem kd_Mo_send_2 : decode kc_Mo_send 2 = .ok (.ifCond .lt 27, 3) := by decide +kernel
theorem kd_Mo_send_5 : decode kc_Mo_send 5 = .ok (.iload_n 1, 1) := by decide +kernel
theorem kd_Mo_send_6 : decode kc_Mo_send 6 = .ok (.bipush 6, 2) := by decide +kernel
theorem kd_Mo_send_8 : decode kc_Mo_send 8 = .ok (.if_icmp .gt 21, 3) := by decide +kernel
theorem kd_Mo_send_11 : decode kc_Mo_send 11 = .ok (.iload_n 2, 1) := by decide +kernel
theorem kd_Mo_send_12 : decode kc_Mo_send 12 = .ok (.iconst 4, 1) := by decide +kernel
theorem kd_Mo_send_13 : decode kc_Mo_send 13 = .ok (.if_icmp .lt 16, 3) := by decide +kernel
theorem kd_Mo_send_16 : decode kc_Mo_send 16 = .ok (.iload_n 2, 1) := by decide +kernel
theorem kd_Mo_send_17 : decode kc_Mo_send 17 = .ok (.bipush 6, 2) := by decide +kernel
theorem kd_Mo_send_19 : decode kc_Mo_send 19 = .ok (.if_icmp .gt 10, 3) := by decide +kernel
theorem kd_Mo_send_22 : decode kc_Mo_send 22 = .ok (.iload_n 3, 1) := by decide +kernel
theorem kd_Mo_send_23 : decode kc_Mo_send 23 = .ok (.invokestatic 130, 3) := by decide +kernel
theorem kd_Mo_send_26 : decode kc_Mo_send 26 = .ok (.ifCond .eq 7, 3) := by decide +kernel
theorem kd_Mo_send_29 : decode kc_Mo_send 29 = .ok (.iconst 1, 1) := by decide +kernel
theorem kd_Mo_send_30 : decode kc_Mo_send 30 = .ok (.goto 4, 3) := by decide +kernel
theorem kd_Mo_send_33 : decode kc_Mo_send 33 = .ok (.iconst 0, 1) := by decide +kernel
theorem kd_Mo_send_34 : decode kc_Mo_send 34 = .ok (.putfield 101, 3) := by decide +kernel
theorem kd_Mo_send_37 : decode kc_Mo_send 37 = .ok (.aload_n 0, 1) := by decide +kernel
theorem kd_Mo_send_38 : decode kc_Mo_send 38 = .ok (.getfield 101, 3) := by decide +kernel
theorem kd_Mo_send_41 : decode kc_Mo_send 41 = .ok (.ifCond .le 5, 3) := by decide +kernel
theorem kd_Mo_send_44 : decode kc_Mo_send 44 = .ok (.iconst 0, 1) := by decide +kernel
theorem kd_Mo_send_45 : decode kc_Mo_send 45 = .ok (.ireturn, 1) := by decide +kernel
theorem kd_Mo_send_46 : decode kc_Mo_send 46 = .ok (.aload_n 0, 1) := by decide +kernel
theorem kd_Mo_send_47 : decode kc_Mo_send 47 = .ok (.getfield 47, 3) := by decide +kernel
theorem kd_Mo_send_50 : decode kc_Mo_send 50 = .ok (.iconst 3, 1) := by decide +kernel
theorem kd_Mo_send_51 : decode kc_Mo_send 51 = .ok (.iload_n 1, 1) := by decide +kernel
theorem kd_Mo_send_52 : decode kc_Mo_send 52 = .ok (.imul, 1) := by decide +kernel
theorem kd_Mo_send_53 : decode kc_Mo_send 53 = .ok (.iload_n 2, 1) := by decide +kernel
theorem kd_Mo_send_54 : decode kc_Mo_send 54 = .ok (.iadd, 1) := by decide +kernel
theorem kd_Mo_send_55 : decode kc_Mo_send 55 = .ok (.iconst 4, 1) := by decide +kernel
theorem kd_Mo_send_56 : decode kc_Mo_send 56 = .ok (.isub, 1) := by decide +kernel
theorem kd_Mo_send_57 : decode kc_Mo_send 57 = .ok (.iaload, 1) := by decide +kernel
theorem kd_Mo_send_58 : decode kc_Mo_send 58 = .ok (.istore 4, 2) := by decide +kernel
theorem kd_Mo_send_60 : decode kc_Mo_send 60 = .ok (.aload_n 0, 1) := by decide +kernel
theorem kd_Mo_send_61 : decode kc_Mo_send 61 = .ok (.getfield 47, 3) := by decide +kernel
theorem kd_Mo_send_64 : decode kc_Mo_send 64 = .ok (.iconst 3, 1) := by decide +kernel
theorem kd_Mo_send_65 : decode kc_Mo_send 65 = .ok (.iload_n 1, 1) := by decide +kernel
theorem kd_Mo_send_66 : decode kc_Mo_send 66 = .ok (.imul, 1) := by decide +kernel
theorem kd_Mo_send_67 : decode kc_Mo_send 67 = .ok (.iload_n 2, 1) := by decide +kernel
theorem kd_Mo_send_68 : decode kc_Mo_send 68 = .ok (.iadd, 1) := by decide +kernel
theorem kd_Mo_send_69 : decode kc_Mo_send 69 = .ok (.iconst 4, 1) := by decide +kernel
theorem kd_Mo_send_70 : decode kc_Mo_send 70 = .ok (.isub, 1) := by decide +kernel
theorem kd_Mo_send_71 : decode kc_Mo_send 71 = .ok (.iload_n 3, 1) := by decide +kernel
theorem kd_Mo_send_72 : decode kc_Mo_send 72 = .ok (.iastore, 1) := by decide +kernel
theorem kd_Mo_send_73 : decode kc_Mo_send 73 = .ok (.aload_n 0, 1) := by decide +kernel
theorem kd_Mo_send_74 : decode kc_Mo_send 74 = .ok (.invokevirtual 137, 3) := by decide +kernel
theorem kd_Mo_send_77 : decode kc_Mo_send 77 = .ok (.aload_n 0, 1) := by decide +kernel
theorem kd_Mo_send_78 : decode kc_Mo_send 78 = .ok (.getfield 80, 3) := by decide +kernel
theorem kd_Mo_send_81 : decode kc_Mo_send 81 = .ok (.bipush 9, 2) := by decide +kernel
theorem kd_Mo_send_83 : decode kc_Mo_send 83 = .ok (.iload_n 1, 1) := by decide +kernel
theorem kd_Mo_send_84 : decode kc_Mo_send 84 = .ok (.imul, 1) := by decide +kernel
theorem kd_Mo_send_85 : decode kc_Mo_send 85 = .ok (.baload, 1) := by decide +kernel
theorem kd_Mo_send_86 : decode kc_Mo_send 86 = .ok (.ifCond .eq 19, 3) := by decide +kernel
theorem kd_Mo_send_89 : decode kc_Mo_send 89 = .ok (.aload_n 0, 1) := by decide +kernel
theorem kd_Mo_send_90 : decode kc_Mo_send 90 = .ok (.getfield 47, 3) := by decide +kernel
theorem kd_Mo_send_93 : decode kc_Mo_send 93 = .ok (.iconst 3, 1) := by decide +kernel
theorem kd_Mo_send_94 : decode kc_Mo_send 94 = .ok (.iload_n 1, 1) := by decide +kernel
theorem kd_Mo_send_95 : decode kc_Mo_send 95 = .ok (.imul, 1) := by decide +kernel
theorem kd_Mo_send_96 : decode kc_Mo_send 96 = .ok (.iload_n 2, 1) := by decide +kernel
theorem kd_Mo_send_97 : decode kc_Mo_send 97 = .ok (.iadd, 1) := by decide +kernel
theorem kd_Mo_send_98 : decode kc_Mo_send 98 = .ok (.iconst 4, 1) := by decide +kernel
theorem kd_Mo_send_99 : decode kc_Mo_send 99 = .ok (.isub, 1) := by decide +kernel
theorem kd_Mo_send_100 : decode kc_Mo_send 100 = .ok (.iload 4, 2) := by decide +kernel
theorem kd_Mo_send_102 : decode kc_Mo_send 102 = .ok (.iastore, 1) := by decide +kernel
theorem kd_Mo_send_103 : decode kc_Mo_send 103 = .ok (.iconst 0, 1) := by decide +kernel
theorem kd_Mo_send_104 : decode kc_Mo_send 104 = .ok (.ireturn, 1) := by decide +kernel
theorem kd_Mo_send_105 : decode kc_Mo_send 105 = .ok (.iconst 1, 1) := by decide +kernel
theorem kd_Mo_send_106 : decode kc_Mo_send 106 = .ok (.ireturn, 1) := by decide +kernel
theorem kd_Mo_noStrip_0 : decode kc_Mo_noStrip 0 = .ok (.iload_n 0, 1) := by decide +kernel
theorem kd_Mo_noStrip_1 : decode kc_Mo_noStrip 1 = .ok (.ifCond .lt 9, 3) := by decide +kernel
theorem kd_Mo_noStrip_4 : decode kc_Mo_noStrip 4 = .ok (.iload_n 0, 1) := by decide +kernel
theorem kd_Mo_noStrip_5 : decode kc_Mo_noStrip 5 = .ok (.bipush 7, 2) := by decide +kernel
theorem kd_Mo_noStrip_7 : decode kc_Mo_noStrip 7 = .ok (.if_icmp .le 7, 3) := by decide +kernel
theorem kd_Mo_noStrip_10 : decode kc_Mo_noStrip 10 = .ok (.iconst 1, 1) := by decide +kernel
theorem kd_Mo_noStrip_11 : decode kc_Mo_noStrip 11 = .ok (.goto 4, 3) := by decide +kernel
theorem kd_Mo_noStrip_14 : decode kc_Mo_noStrip 14 = .ok (.iconst 0, 1) := by decide +kernel
theorem kd_Mo_noStrip_15 : decode kc_Mo_noStrip 15 = .ok (.ireturn, 1) := by decide +kernel
theorem kd_Mo_isOff_0 : decode kc_Mo_isOff 0 = .ok (.iload_n 0, 1) := by decide +kernel
theorem kd_Mo_isOff_1 : decode kc_Mo_isOff 1 = .ok (.tableswitch 144 0 5 #[39, 41, 46, 63, 91, 118], 39) := by decide +kernel
theorem kd_Mo_isOff_40 : decode kc_Mo_isOff 40 = .ok (.iconst 0, 1) := by decide +kernel
theorem kd_Mo_isOff_41 : decode kc_Mo_isOff 41 = .ok (.ireturn, 1) := by decide +kernel
theorem kd_Mo_isOff_42 : decode kc_Mo_isOff 42 = .ok (.iload_n 1, 1) := by decide +kernel
theorem kd_Mo_isOff_43 : decode kc_Mo_isOff 43 = .ok (.invokestatic 130, 3) := by decide +kernel
theorem kd_Mo_isOff_46 : decode kc_Mo_isOff 46 = .ok (.ireturn, 1) := by decide +kernel
theorem kd_Mo_isOff_47 : decode kc_Mo_isOff 47 = .ok (.iload_n 1, 1) := by decide +kernel
theorem kd_Mo_isOff_48 : decode kc_Mo_isOff 48 = .ok (.ifCond .lt 10, 3) := by decide +kernel
theorem kd_Mo_isOff_51 : decode kc_Mo_isOff 51 = .ok (.iload_n 1, 1) := by decide +kernel
theorem kd_Mo_isOff_52 : decode kc_Mo_isOff 52 = .ok (.sipush 256, 3) := by decide +kernel
theorem kd_Mo_isOff_55 : decode kc_Mo_isOff 55 = .ok (.if_icmp .le 7, 3) := by decide +kernel
theorem kd_Mo_isOff_58 : decode kc_Mo_isOff 58 = .ok (.iconst 1, 1) := by decide +kernel
theorem kd_Mo_isOff_59 : decode kc_Mo_isOff 59 = .ok (.goto 4, 3) := by decide +kernel
theorem kd_Mo_isOff_62 : decode kc_Mo_isOff 62 = .ok (.iconst 0, 1) := by decide +kernel
theorem kd_Mo_isOff_63 : decode kc_Mo_isOff 63 = .ok (.ireturn, 1) := by decide +kernel
theorem kd_Mo_isOff_64 : decode kc_Mo_isOff 64 = .ok (.iload_n 1, 1) := by decide +kernel
theorem kd_Mo_isOff_65 : decode kc_Mo_isOff 65 = .ok (.iconst 1, 1) := by decide +kernel
theorem kd_Mo_isOff_66 : decode kc_Mo_isOff 66 = .ok (.if_icmp .lt 20, 3) := by decide +kernel
theorem kd_Mo_isOff_69 : decode kc_Mo_isOff 69 = .ok (.iload_n 1, 1) := by decide +kernel
theorem kd_Mo_isOff_70 : decode kc_Mo_isOff 70 = .ok (.bipush 32, 2) := by decide +kernel
theorem kd_Mo_isOff_72 : decode kc_Mo_isOff 72 = .ok (.if_icmp .gt 14, 3) := by decide +kernel
theorem kd_Mo_isOff_75 : decode kc_Mo_isOff 75 = .ok (.iload_n 2, 1) := by decide +kernel
theorem kd_Mo_isOff_76 : decode kc_Mo_isOff 76 = .ok (.ifCond .lt 10, 3) := by decide +kernel
theorem kd_Mo_isOff_79 : decode kc_Mo_isOff 79 = .ok (.iload_n 2, 1) := by decide +kernel
theorem kd_Mo_isOff_80 : decode kc_Mo_isOff 80 = .ok (.sipush 255, 3) := by decide +kernel
theorem kd_Mo_isOff_83 : decode kc_Mo_isOff 83 = .ok (.if_icmp .le 7, 3) := by decide +kernel
theorem kd_Mo_isOff_86 : decode kc_Mo_isOff 86 = .ok (.iconst 1, 1) := by decide +kernel
theorem kd_Mo_isOff_87 : decode kc_Mo_isOff 87 = .ok (.goto 4, 3) := by decide +kernel
theorem kd_Mo_isOff_90 : decode kc_Mo_isOff 90 = .ok (.iconst 0, 1) := by decide +kernel
theorem kd_Mo_isOff_91 : decode kc_Mo_isOff 91 = .ok (.ireturn, 1) := by decide +kernel
theorem kd_Mo_isOff_92 : decode kc_Mo_isOff 92 = .ok (.iload_n 1, 1) := by decide +kernel
theorem kd_Mo_isOff_93 : decode kc_Mo_isOff 93 = .ok (.iconst 1, 1) := by decide +kernel
theorem kd_Mo_isOff_94 : decode kc_Mo_isOff 94 = .ok (.if_icmp .lt 19, 3) := by decide +kernel
theorem kd_Mo_isOff_97 : decode kc_Mo_isOff 97 = .ok (.iload_n 1, 1) := by decide +kernel
theorem kd_Mo_isOff_98 : decode kc_Mo_isOff 98 = .ok (.ldc 140, 2) := by decide +kernel
theorem kd_Mo_isOff_100 : decode kc_Mo_isOff 100 = .ok (.if_icmp .gt 13, 3) := by decide +kernel
theorem kd_Mo_isOff_103 : decode kc_Mo_isOff 103 = .ok (.iload_n 2, 1) := by decide +kernel
theorem kd_Mo_isOff_104 : decode kc_Mo_isOff 104 = .ok (.ifCond .lt 9, 3) := by decide +kernel
theorem kd_Mo_isOff_107 : decode kc_Mo_isOff 107 = .ok (.iload_n 2, 1) := by decide +kernel
theorem kd_Mo_isOff_108 : decode kc_Mo_isOff 108 = .ok (.bipush 16, 2) := by decide +kernel
theorem kd_Mo_isOff_110 : decode kc_Mo_isOff 110 = .ok (.if_icmp .le 7, 3) := by decide +kernel
theorem kd_Mo_isOff_113 : decode kc_Mo_isOff 113 = .ok (.iconst 1, 1) := by decide +kernel
theorem kd_Mo_isOff_114 : decode kc_Mo_isOff 114 = .ok (.goto 4, 3) := by decide +kernel
theorem kd_Mo_isOff_117 : decode kc_Mo_isOff 117 = .ok (.iconst 0, 1) := by decide +kernel
theorem kd_Mo_isOff_118 : decode kc_Mo_isOff 118 = .ok (.ireturn, 1) := by decide +kernel
theorem kd_Mo_isOff_119 : decode kc_Mo_isOff 119 = .ok (.iload_n 1, 1) := by decide +kernel
theorem kd_Mo_isOff_120 : decode kc_Mo_isOff 120 = .ok (.ifCond .lt 19, 3) := by decide +kernel
theorem kd_Mo_isOff_123 : decode kc_Mo_isOff 123 = .ok (.iload_n 1, 1) := by decide +kernel
theorem kd_Mo_isOff_124 : decode kc_Mo_isOff 124 = .ok (.ldc 140, 2) := by decide +kernel
theorem kd_Mo_isOff_126 : decode kc_Mo_isOff 126 = .ok (.if_icmp .gt 13, 3) := by decide +kernel
theorem kd_Mo_isOff_129 : decode kc_Mo_isOff 129 = .ok (.iload_n 2, 1) := by decide +kernel
theorem kd_Mo_isOff_130 : decode kc_Mo_isOff 130 = .ok (.ifCond .lt 9, 3) := by decide +kernel
theorem kd_Mo_isOff_133 : decode kc_Mo_isOff 133 = .ok (.iload_n 2, 1) := by decide +kernel
theorem kd_Mo_isOff_134 : decode kc_Mo_isOff 134 = .ok (.bipush 64, 2) := by decide +kernel
theorem kd_Mo_isOff_136 : decode kc_Mo_isOff 136 = .ok (.if_icmp .le 7, 3) := by decide +kernel
theorem kd_Mo_isOff_139 : decode kc_Mo_isOff 139 = .ok (.iconst 1, 1) := by decide +kernel
theorem kd_Mo_isOff_140 : decode kc_Mo_isOff 140 = .ok (.goto 4, 3) := by decide +kernel
theorem kd_Mo_isOff_143 : decode kc_Mo_isOff 143 = .ok (.iconst 0, 1) := by decide +kernel
theorem kd_Mo_isOff_144 : decode kc_Mo_isOff 144 = .ok (.ireturn, 1) := by decide +kernel
theorem kd_Mo_isOff_145 : decode kc_Mo_isOff 145 = .ok (.iload_n 1, 1) := by decide +kernel
theorem kd_Mo_isOff_146 : decode kc_Mo_isOff 146 = .ok (.ifCond .lt 9, 3) := by decide +kernel
theorem kd_Mo_isOff_149 : decode kc_Mo_isOff 149 = .ok (.iload_n 1, 1) := by decide +kernel
theorem kd_Mo_isOff_150 : decode kc_Mo_isOff 150 = .ok (.ldc 140, 2) := by decide +kernel
theorem kd_Mo_isOff_152 : decode kc_Mo_isOff 152 = .ok (.if_icmp .le 7, 3) := by decide +kernel
theorem kd_Mo_isOff_155 : decode kc_Mo_isOff 155 = .ok (.iconst 1, 1) := by decide +kernel
theorem kd_Mo_isOff_156 : decode kc_Mo_isOff 156 = .ok (.goto 4, 3) := by decide +kernel
theorem kd_Mo_isOff_159 : decode kc_Mo_isOff 159 = .ok (.iconst 0, 1) := by decide +kernel
theorem kd_Mo_isOff_160 : decode kc_Mo_isOff 160 = .ok (.ireturn, 1) := by decide +kernel
theorem kd_Mo_effect_0 : decode kc_Mo_effect 0 = .ok (.aload_n 0, 1) := by decide +kernel
theorem kd_Mo_effect_1 : decode kc_Mo_effect 1 = .ok (.iload_n 1, 1) := by decide +kernel
theorem kd_Mo_effect_2 : decode kc_Mo_effect 2 = .ok (.invokestatic 141, 3) := by decide +kernel
theorem kd_Mo_effect_5 : decode kc_Mo_effect 5 = .ok (.ifCond .ne 33, 3) := by decide +kernel
theorem kd_Mo_effect_8 : decode kc_Mo_effect 8 = .ok (.iload_n 2, 1) := by decide +kernel
theorem kd_Mo_effect_9 : decode kc_Mo_effect 9 = .ok (.ifCond .lt 29, 3) := by decide +kernel
theorem kd_Mo_effect_12 : decode kc_Mo_effect 12 = .ok (.iload_n 2, 1) := by decide +kernel
theorem kd_Mo_effect_13 : decode kc_Mo_effect 13 = .ok (.iconst 2, 1) := by decide +kernel
theorem kd_Mo_effect_14 : decode kc_Mo_effect 14 = .ok (.if_icmp .gt 24, 3) := by decide +kernel
theorem kd_Mo_effect_17 : decode kc_Mo_effect 17 = .ok (.iload_n 3, 1) := by decide +kernel
theorem kd_Mo_effect_18 : decode kc_Mo_effect 18 = .ok (.ifCond .lt 20, 3) := by decide +kernel
theorem kd_Mo_effect_21 : decode kc_Mo_effect 21 = .ok (.iload_n 3, 1) := by decide +kernel
theorem kd_Mo_effect_22 : decode kc_Mo_effect 22 = .ok (.bipush 6, 2) := by decide +kernel
theorem kd_Mo_effect_24 : decode kc_Mo_effect 24 = .ok (.if_icmp .gt 14, 3) := by decide +kernel
theorem kd_Mo_effect_27 : decode kc_Mo_effect 27 = .ok (.iload_n 3, 1) := by decide +kernel
theorem kd_Mo_effect_28 : decode kc_Mo_effect 28 = .ok (.iload 4, 2) := by decide +kernel
theorem kd_Mo_effect_30 : decode kc_Mo_effect 30 = .ok (.iload 5, 2) := by decide +kernel
theorem kd_Mo_effect_32 : decode kc_Mo_effect 32 = .ok (.invokestatic 144, 3) := by decide +kernel
theorem kd_Mo_effect_35 : decode kc_Mo_effect 35 = .ok (.ifCond .eq 7, 3) := by decide +kernel
theorem kd_Mo_effect_38 : decode kc_Mo_effect 38 = .ok (.iconst 1, 1) := by decide +kernel
theorem kd_Mo_effect_39 : decode kc_Mo_effect 39 = .ok (.goto 4, 3) := by decide +kernel
theorem kd_Mo_effect_42 : decode kc_Mo_effect 42 = .ok (.iconst 0, 1) := by decide +kernel
theorem kd_Mo_effect_43 : decode kc_Mo_effect 43 = .ok (.putfield 101, 3) := by decide +kernel
theorem kd_Mo_effect_46 : decode kc_Mo_effect 46 = .ok (.aload_n 0, 1) := by decide +kernel
theorem kd_Mo_effect_47 : decode kc_Mo_effect 47 = .ok (.getfield 101, 3) := by decide +kernel
theorem kd_Mo_effect_50 : decode kc_Mo_effect 50 = .ok (.ifCond .ne 38, 3) := by decide +kernel
theorem kd_Mo_effect_53 : decode kc_Mo_effect 53 = .ok (.aload_n 0, 1) := by decide +kernel
theorem kd_Mo_effect_54 : decode kc_Mo_effect 54 = .ok (.getfield 50, 3) := by decide +kernel
theorem kd_Mo_effect_57 : decode kc_Mo_effect 57 = .ok (.iconst 3, 1) := by decide +kernel
theorem kd_Mo_effect_58 : decode kc_Mo_effect 58 = .ok (.iload_n 1, 1) := by decide +kernel
theorem kd_Mo_effect_59 : decode kc_Mo_effect 59 = .ok (.imul, 1) := by decide +kernel
theorem kd_Mo_effect_60 : decode kc_Mo_effect 60 = .ok (.iload_n 2, 1) := by decide +kernel
theorem kd_Mo_effect_61 : decode kc_Mo_effect 61 = .ok (.iadd, 1) := by decide +kernel
theorem kd_Mo_effect_62 : decode kc_Mo_effect 62 = .ok (.iload_n 3, 1) := by decide +kernel
theorem kd_Mo_effect_63 : decode kc_Mo_effect 63 = .ok (.iastore, 1) := by decide +kernel
theorem kd_Mo_effect_64 : decode kc_Mo_effect 64 = .ok (.aload_n 0, 1) := by decide +kernel
theorem kd_Mo_effect_65 : decode kc_Mo_effect 65 = .ok (.getfield 53, 3) := by decide +kernel
theorem kd_Mo_effect_68 : decode kc_Mo_effect 68 = .ok (.iconst 3, 1) := by decide +kernel
theorem kd_Mo_effect_69 : decode kc_Mo_effect 69 = .ok (.iload_n 1, 1) := by decide +kernel
theorem kd_Mo_effect_70 : decode kc_Mo_effect 70 = .ok (.imul, 1) := by decide +kernel
theorem kd_Mo_effect_71 : decode kc_Mo_effect 71 = .ok (.iload_n 2, 1) := by decide +kernel
theorem kd_Mo_effect_72 : decode kc_Mo_effect 72 = .ok (.iadd, 1) := by decide +kernel
theorem kd_Mo_effect_73 : decode kc_Mo_effect 73 = .ok (.iload 4, 2) := by decide +kernel
theorem kd_Mo_effect_75 : decode kc_Mo_effect 75 = .ok (.iastore, 1) := by decide +kernel
theorem kd_Mo_effect_76 : decode kc_Mo_effect 76 = .ok (.aload_n 0, 1) := by decide +kernel
theorem kd_Mo_effect_77 : decode kc_Mo_effect 77 = .ok (.getfield 56, 3) := by decide +kernel
theorem kd_Mo_effect_80 : decode kc_Mo_effect 80 = .ok (.iconst 3, 1) := by decide +kernel
theorem kd_Mo_effect_81 : decode kc_Mo_effect 81 = .ok (.iload_n 1, 1) := by decide +kernel
theorem kd_Mo_effect_82 : decode kc_Mo_effect 82 = .ok (.imul, 1) := by decide +kernel
theorem kd_Mo_effect_83 : decode kc_Mo_effect 83 = .ok (.iload_n 2, 1) := by decide +kernel
theorem kd_Mo_effect_84 : decode kc_Mo_effect 84 = .ok (.iadd, 1) := by decide +kernel
theorem kd_Mo_effect_85 : decode kc_Mo_effect 85 = .ok (.iload 5, 2) := by decide +kernel
theorem kd_Mo_effect_87 : decode kc_Mo_effect 87 = .ok (.iastore, 1) := by decide +kernel
theorem kd_Mo_effect_88 : decode kc_Mo_effect 88 = .ok (.return_, 1) := by decide +kernel
theorem kd_Mo_fader_0 : decode kc_Mo_fader 0 = .ok (.aload_n 0, 1) := by decide +kernel
theorem kd_Mo_fader_1 : decode kc_Mo_fader 1 = .ok (.iload_n 1, 1) := by decide +kernel
theorem kd_Mo_fader_2 : decode kc_Mo_fader 2 = .ok (.invokestatic 141, 3) := by decide +kernel
theorem kd_Mo_fader_5 : decode kc_Mo_fader 5 = .ok (.ifCond .ne 10, 3) := by decide +kernel
theorem kd_Mo_fader_8 : decode kc_Mo_fader 8 = .ok (.iload_n 2, 1) := by decide +kernel
theorem kd_Mo_fader_9 : decode kc_Mo_fader 9 = .ok (.invokestatic 130, 3) := by decide +kernel
theorem kd_Mo_fader_12 : decode kc_Mo_fader 12 = .ok (.ifCond .eq 7, 3) := by decide +kernel
theorem kd_Mo_fader_15 : decode kc_Mo_fader 15 = .ok (.iconst 1, 1) := by decide +kernel
theorem kd_Mo_fader_16 : decode kc_Mo_fader 16 = .ok (.goto 4, 3) := by decide +kernel
theorem kd_Mo_fader_19 : decode kc_Mo_fader 19 = .ok (.iconst 0, 1) := by decide +kernel
theorem kd_Mo_fader_20 : decode kc_Mo_fader 20 = .ok (.putfield 101, 3) := by decide +kernel
theorem kd_Mo_fader_23 : decode kc_Mo_fader 23 = .ok (.aload_n 0, 1) := by decide +kernel
theorem kd_Mo_fader_24 : decode kc_Mo_fader 24 = .ok (.getfield 101, 3) := by decide +kernel
theorem kd_Mo_fader_27 : decode kc_Mo_fader 27 = .ok (.ifCond .ne 10, 3) := by decide +kernel
theorem kd_Mo_fader_30 : decode kc_Mo_fader 30 = .ok (.aload_n 0, 1) := by decide +kernel
theorem kd_Mo_fader_31 : decode kc_Mo_fader 31 = .ok (.getfield 59, 3) := by decide +kernel
theorem kd_Mo_fader_34 : decode kc_Mo_fader 34 = .ok (.iload_n 1, 1) := by decide +kernel
theorem kd_Mo_fader_35 : decode kc_Mo_fader 35 = .ok (.iload_n 2, 1) := by decide +kernel
theorem kd_Mo_fader_36 : decode kc_Mo_fader 36 = .ok (.iastore, 1) := by decide +kernel
theorem kd_Mo_fader_37 : decode kc_Mo_fader 37 = .ok (.return_, 1) := by decide +kernel
theorem kd_Mo_point_0 : decode kc_Mo_point 0 = .ok (.aload_n 0, 1) := by decide +kernel
theorem kd_Mo_point_1 : decode kc_Mo_point 1 = .ok (.iload_n 1, 1) := by decide +kernel
theorem kd_Mo_point_2 : decode kc_Mo_point 2 = .ok (.invokestatic 141, 3) := by decide +kernel
theorem kd_Mo_point_5 : decode kc_Mo_point 5 = .ok (.ifCond .ne 21, 3) := by decide +kernel
theorem kd_Mo_point_8 : decode kc_Mo_point 8 = .ok (.iload_n 2, 1) := by decide +kernel
theorem kd_Mo_point_9 : decode kc_Mo_point 9 = .ok (.ifCond .lt 17, 3) := by decide +kernel
theorem kd_Mo_point_12 : decode kc_Mo_point 12 = .ok (.iload_n 2, 1) := by decide +kernel
theorem kd_Mo_point_13 : decode kc_Mo_point 13 = .ok (.sipush 1024, 3) := by decide +kernel
theorem kd_Mo_point_16 : decode kc_Mo_point 16 = .ok (.if_icmp .ge 10, 3) := by decide +kernel
theorem kd_Mo_point_19 : decode kc_Mo_point 19 = .ok (.iload_n 3, 1) := by decide +kernel
theorem kd_Mo_point_20 : decode kc_Mo_point 20 = .ok (.invokestatic 130, 3) := by decide +kernel
theorem kd_Mo_point_23 : decode kc_Mo_point 23 = .ok (.ifCond .eq 7, 3) := by decide +kernel
theorem kd_Mo_point_26 : decode kc_Mo_point 26 = .ok (.iconst 1, 1) := by decide +kernel
theorem kd_Mo_point_27 : decode kc_Mo_point 27 = .ok (.goto 4, 3) := by decide +kernel
theorem kd_Mo_point_30 : decode kc_Mo_point 30 = .ok (.iconst 0, 1) := by decide +kernel
theorem kd_Mo_point_31 : decode kc_Mo_point 31 = .ok (.putfield 101, 3) := by decide +kernel
theorem kd_Mo_point_34 : decode kc_Mo_point 34 = .ok (.aload_n 0, 1) := by decide +kernel
theorem kd_Mo_point_35 : decode kc_Mo_point 35 = .ok (.getfield 101, 3) := by decide +kernel
theorem kd_Mo_point_38 : decode kc_Mo_point 38 = .ok (.ifCond .le 5, 3) := by decide +kernel
theorem kd_Mo_point_41 : decode kc_Mo_point 41 = .ok (.iconst 0, 1) := by decide +kernel
theorem kd_Mo_point_42 : decode kc_Mo_point 42 = .ok (.ireturn, 1) := by decide +kernel
theorem kd_Mo_point_43 : decode kc_Mo_point 43 = .ok (.aload_n 0, 1) := by decide +kernel
theorem kd_Mo_point_44 : decode kc_Mo_point 44 = .ok (.getfield 62, 3) := by decide +kernel
theorem kd_Mo_point_47 : decode kc_Mo_point 47 = .ok (.iload_n 1, 1) := by decide +kernel
theorem kd_Mo_point_48 : decode kc_Mo_point 48 = .ok (.iaload, 1) := by decide +kernel
theorem kd_Mo_point_49 : decode kc_Mo_point 49 = .ok (.istore 5, 2) := by decide +kernel
theorem kd_Mo_point_51 : decode kc_Mo_point 51 = .ok (.iconst 0, 1) := by decide +kernel
theorem kd_Mo_point_52 : decode kc_Mo_point 52 = .ok (.istore 6, 2) := by decide +kernel
theorem kd_Mo_point_54 : decode kc_Mo_point 54 = .ok (.iload 6, 2) := by decide +kernel
theorem kd_Mo_point_56 : decode kc_Mo_point 56 = .ok (.iload 5, 2) := by decide +kernel
theorem kd_Mo_point_58 : decode kc_Mo_point 58 = .ok (.if_icmp .ge 25, 3) := by decide +kernel
theorem kd_Mo_point_61 : decode kc_Mo_point 61 = .ok (.aload_n 0, 1) := by decide +kernel
theorem kd_Mo_point_62 : decode kc_Mo_point 62 = .ok (.getfield 65, 3) := by decide +kernel
theorem kd_Mo_point_65 : decode kc_Mo_point 65 = .ok (.bipush 8, 2) := by decide +kernel
theorem kd_Mo_point_67 : decode kc_Mo_point 67 = .ok (.iload_n 1, 1) := by decide +kernel
theorem kd_Mo_point_68 : decode kc_Mo_point 68 = .ok (.imul, 1) := by decide +kernel
theorem kd_Mo_point_69 : decode kc_Mo_point 69 = .ok (.iload 6, 2) := by decide +kernel
theorem kd_Mo_point_71 : decode kc_Mo_point 71 = .ok (.iadd, 1) := by decide +kernel
theorem kd_Mo_point_72 : decode kc_Mo_point 72 = .ok (.iaload, 1) := by decide +kernel
theorem kd_Mo_point_73 : decode kc_Mo_point 73 = .ok (.iload_n 2, 1) := by decide +kernel
theorem kd_Mo_point_74 : decode kc_Mo_point 74 = .ok (.if_icmp .ge 9, 3) := by decide +kernel
theorem kd_Mo_point_77 : decode kc_Mo_point 77 = .ok (.iinc 6 1, 3) := by decide +kernel
theorem kd_Mo_point_80 : decode kc_Mo_point 80 = .ok (.goto (-26), 3) := by decide +kernel
theorem kd_Mo_point_83 : decode kc_Mo_point 83 = .ok (.iload 6, 2) := by decide +kernel
theorem kd_Mo_point_85 : decode kc_Mo_point 85 = .ok (.iload 5, 2) := by decide +kernel
theorem kd_Mo_point_87 : decode kc_Mo_point 87 = .ok (.if_icmp .ge 23, 3) := by decide +kernel
theorem kd_Mo_point_90 : decode kc_Mo_point 90 = .ok (.aload_n 0, 1) := by decide +kernel
theorem kd_Mo_point_91 : decode kc_Mo_point 91 = .ok (.getfield 65, 3) := by decide +kernel
theorem kd_Mo_point_94 : decode kc_Mo_point 94 = .ok (.bipush 8, 2) := by decide +kernel
theorem kd_Mo_point_96 : decode kc_Mo_point 96 = .ok (.iload_n 1, 1) := by decide +kernel
theorem kd_Mo_point_97 : decode kc_Mo_point 97 = .ok (.imul, 1) := by decide +kernel
theorem kd_Mo_point_98 : decode kc_Mo_point 98 = .ok (.iload 6, 2) := by decide +kernel
theorem kd_Mo_point_100 : decode kc_Mo_point 100 = .ok (.iadd, 1) := by decide +kernel
theorem kd_Mo_point_101 : decode kc_Mo_point 101 = .ok (.iaload, 1) := by decide +kernel
theorem kd_Mo_point_102 : decode kc_Mo_point 102 = .ok (.iload_n 2, 1) := by decide +kernel
theorem kd_Mo_point_103 : decode kc_Mo_point 103 = .ok (.if_icmp .ne 7, 3) := by decide +kernel
theorem kd_Mo_point_106 : decode kc_Mo_point 106 = .ok (.iconst 1, 1) := by decide +kernel
theorem kd_Mo_point_107 : decode kc_Mo_point 107 = .ok (.goto 4, 3) := by decide +kernel
theorem kd_Mo_point_110 : decode kc_Mo_point 110 = .ok (.iconst 0, 1) := by decide +kernel
theorem kd_Mo_point_111 : decode kc_Mo_point 111 = .ok (.istore 7, 2) := by decide +kernel
theorem kd_Mo_point_113 : decode kc_Mo_point 113 = .ok (.iload 7, 2) := by decide +kernel
theorem kd_Mo_point_115 : decode kc_Mo_point 115 = .ok (.ifCond .ne 12, 3) := by decide +kernel
theorem kd_Mo_point_118 : decode kc_Mo_point 118 = .ok (.iload 5, 2) := by decide +kernel
theorem kd_Mo_point_120 : decode kc_Mo_point 120 = .ok (.bipush 8, 2) := by decide +kernel
theorem kd_Mo_point_122 : decode kc_Mo_point 122 = .ok (.if_icmp .ne 5, 3) := by decide +kernel
theorem kd_Mo_point_125 : decode kc_Mo_point 125 = .ok (.iconst 0, 1) := by decide +kernel
theorem kd_Mo_point_126 : decode kc_Mo_point 126 = .ok (.ireturn, 1) := by decide +kernel
theorem kd_Mo_point_127 : decode kc_Mo_point 127 = .ok (.iload 5, 2) := by decide +kernel
theorem kd_Mo_point_129 : decode kc_Mo_point 129 = .ok (.istore 8, 2) := by decide +kernel
theorem kd_Mo_point_131 : decode kc_Mo_point 131 = .ok (.iload 8, 2) := by decide +kernel
theorem kd_Mo_point_133 : decode kc_Mo_point 133 = .ok (.iload 6, 2) := by decide +kernel
theorem kd_Mo_point_135 : decode kc_Mo_point 135 = .ok (.if_icmp .le 92, 3) := by decide +kernel
theorem kd_Mo_point_138 : decode kc_Mo_point 138 = .ok (.iload 7, 2) := by decide +kernel
theorem kd_Mo_point_140 : decode kc_Mo_point 140 = .ok (.ifCond .ne 87, 3) := by decide +kernel
theorem kd_Mo_point_143 : decode kc_Mo_point 143 = .ok (.aload_n 0, 1) := by decide +kernel
theorem kd_Mo_point_144 : decode kc_Mo_point 144 = .ok (.getfield 65, 3) := by decide +kernel
theorem kd_Mo_point_147 : decode kc_Mo_point 147 = .ok (.bipush 8, 2) := by decide +kernel
theorem kd_Mo_point_149 : decode kc_Mo_point 149 = .ok (.iload_n 1, 1) := by decide +kernel
theorem kd_Mo_point_150 : decode kc_Mo_point 150 = .ok (.imul, 1) := by decide +kernel
theorem kd_Mo_point_151 : decode kc_Mo_point 151 = .ok (.iload 8, 2) := by decide +kernel
theorem kd_Mo_point_153 : decode kc_Mo_point 153 = .ok (.iadd, 1) := by decide +kernel
theorem kd_Mo_point_154 : decode kc_Mo_point 154 = .ok (.aload_n 0, 1) := by decide +kernel
theorem kd_Mo_point_155 : decode kc_Mo_point 155 = .ok (.getfield 65, 3) := by decide +kernel
theorem kd_Mo_point_158 : decode kc_Mo_point 158 = .ok (.bipush 8, 2) := by decide +kernel
theorem kd_Mo_point_160 : decode kc_Mo_point 160 = .ok (.iload_n 1, 1) := by decide +kernel
theorem kd_Mo_point_161 : decode kc_Mo_point 161 = .ok (.imul, 1) := by decide +kernel
theorem kd_Mo_point_162 : decode kc_Mo_point 162 = .ok (.iload 8, 2) := by decide +kernel
theorem kd_Mo_point_164 : decode kc_Mo_point 164 = .ok (.iadd, 1) := by decide +kernel
theorem kd_Mo_point_165 : decode kc_Mo_point 165 = .ok (.iconst 1, 1) := by decide +kernel
theorem kd_Mo_point_166 : decode kc_Mo_point 166 = .ok (.isub, 1) := by decide +kernel
theorem kd_Mo_point_167 : decode kc_Mo_point 167 = .ok (.iaload, 1) := by decide +kernel
theorem kd_Mo_point_168 : decode kc_Mo_point 168 = .ok (.iastore, 1) := by decide +kernel
theorem kd_Mo_point_169 : decode kc_Mo_point 169 = .ok (.aload_n 0, 1) := by decide +kernel
theorem kd_Mo_point_170 : decode kc_Mo_point 170 = .ok (.getfield 68, 3) := by decide +kernel
theorem kd_Mo_point_173 : decode kc_Mo_point 173 = .ok (.bipush 8, 2) := by decide +kernel
theorem kd_Mo_point_175 : decode kc_Mo_point 175 = .ok (.iload_n 1, 1) := by decide +kernel
theorem kd_Mo_point_176 : decode kc_Mo_point 176 = .ok (.imul, 1) := by decide +kernel
theorem kd_Mo_point_177 : decode kc_Mo_point 177 = .ok (.iload 8, 2) := by decide +kernel
theorem kd_Mo_point_179 : decode kc_Mo_point 179 = .ok (.iadd, 1) := by decide +kernel
theorem kd_Mo_point_180 : decode kc_Mo_point 180 = .ok (.aload_n 0, 1) := by decide +kernel
theorem kd_Mo_point_181 : decode kc_Mo_point 181 = .ok (.getfield 68, 3) := by decide +kernel
theorem kd_Mo_point_184 : decode kc_Mo_point 184 = .ok (.bipush 8, 2) := by decide +kernel
theorem kd_Mo_point_186 : decode kc_Mo_point 186 = .ok (.iload_n 1, 1) := by decide +kernel
theorem kd_Mo_point_187 : decode kc_Mo_point 187 = .ok (.imul, 1) := by decide +kernel
theorem kd_Mo_point_188 : decode kc_Mo_point 188 = .ok (.iload 8, 2) := by decide +kernel
theorem kd_Mo_point_190 : decode kc_Mo_point 190 = .ok (.iadd, 1) := by decide +kernel
theorem kd_Mo_point_191 : decode kc_Mo_point 191 = .ok (.iconst 1, 1) := by decide +kernel
theorem kd_Mo_point_192 : decode kc_Mo_point 192 = .ok (.isub, 1) := by decide +kernel
theorem kd_Mo_point_193 : decode kc_Mo_point 193 = .ok (.iaload, 1) := by decide +kernel
theorem kd_Mo_point_194 : decode kc_Mo_point 194 = .ok (.iastore, 1) := by decide +kernel
theorem kd_Mo_point_195 : decode kc_Mo_point 195 = .ok (.aload_n 0, 1) := by decide +kernel
theorem kd_Mo_point_196 : decode kc_Mo_point 196 = .ok (.getfield 71, 3) := by decide +kernel
theorem kd_Mo_point_199 : decode kc_Mo_point 199 = .ok (.bipush 8, 2) := by decide +kernel
theorem kd_Mo_point_201 : decode kc_Mo_point 201 = .ok (.iload_n 1, 1) := by decide +kernel
theorem kd_Mo_point_202 : decode kc_Mo_point 202 = .ok (.imul, 1) := by decide +kernel
theorem kd_Mo_point_203 : decode kc_Mo_point 203 = .ok (.iload 8, 2) := by decide +kernel
theorem kd_Mo_point_205 : decode kc_Mo_point 205 = .ok (.iadd, 1) := by decide +kernel
theorem kd_Mo_point_206 : decode kc_Mo_point 206 = .ok (.aload_n 0, 1) := by decide +kernel
theorem kd_Mo_point_207 : decode kc_Mo_point 207 = .ok (.getfield 71, 3) := by decide +kernel
theorem kd_Mo_point_210 : decode kc_Mo_point 210 = .ok (.bipush 8, 2) := by decide +kernel
theorem kd_Mo_point_212 : decode kc_Mo_point 212 = .ok (.iload_n 1, 1) := by decide +kernel
theorem kd_Mo_point_213 : decode kc_Mo_point 213 = .ok (.imul, 1) := by decide +kernel
theorem kd_Mo_point_214 : decode kc_Mo_point 214 = .ok (.iload 8, 2) := by decide +kernel
theorem kd_Mo_point_216 : decode kc_Mo_point 216 = .ok (.iadd, 1) := by decide +kernel
theorem kd_Mo_point_217 : decode kc_Mo_point 217 = .ok (.iconst 1, 1) := by decide +kernel
theorem kd_Mo_point_218 : decode kc_Mo_point 218 = .ok (.isub, 1) := by decide +kernel
theorem kd_Mo_point_219 : decode kc_Mo_point 219 = .ok (.baload, 1) := by decide +kernel
theorem kd_Mo_point_220 : decode kc_Mo_point 220 = .ok (.bastore, 1) := by decide +kernel
theorem kd_Mo_point_221 : decode kc_Mo_point 221 = .ok (.iinc 8 (-1), 3) := by decide +kernel
theorem kd_Mo_point_224 : decode kc_Mo_point 224 = .ok (.goto (-93), 3) := by decide +kernel
theorem kd_Mo_point_227 : decode kc_Mo_point 227 = .ok (.aload_n 0, 1) := by decide +kernel
theorem kd_Mo_point_228 : decode kc_Mo_point 228 = .ok (.getfield 65, 3) := by decide +kernel
theorem kd_Mo_point_231 : decode kc_Mo_point 231 = .ok (.bipush 8, 2) := by decide +kernel
theorem kd_Mo_point_233 : decode kc_Mo_point 233 = .ok (.iload_n 1, 1) := by decide +kernel
theorem kd_Mo_point_234 : decode kc_Mo_point 234 = .ok (.imul, 1) := by decide +kernel
theorem kd_Mo_point_235 : decode kc_Mo_point 235 = .ok (.iload 6, 2) := by decide +kernel
theorem kd_Mo_point_237 : decode kc_Mo_point 237 = .ok (.iadd, 1) := by decide +kernel
theorem kd_Mo_point_238 : decode kc_Mo_point 238 = .ok (.iload_n 2, 1) := by decide +kernel
theorem kd_Mo_point_239 : decode kc_Mo_point 239 = .ok (.iastore, 1) := by decide +kernel
theorem kd_Mo_point_240 : decode kc_Mo_point 240 = .ok (.aload_n 0, 1) := by decide +kernel
theorem kd_Mo_point_241 : decode kc_Mo_point 241 = .ok (.getfield 68, 3) := by decide +kernel
theorem kd_Mo_point_244 : decode kc_Mo_point 244 = .ok (.bipush 8, 2) := by decide +kernel
theorem kd_Mo_point_246 : decode kc_Mo_point 246 = .ok (.iload_n 1, 1) := by decide +kernel
theorem kd_Mo_point_247 : decode kc_Mo_point 247 = .ok (.imul, 1) := by decide +kernel
theorem kd_Mo_point_248 : decode kc_Mo_point 248 = .ok (.iload 6, 2) := by decide +kernel
theorem kd_Mo_point_250 : decode kc_Mo_point 250 = .ok (.iadd, 1) := by decide +kernel
theorem kd_Mo_point_251 : decode kc_Mo_point 251 = .ok (.iload_n 3, 1) := by decide +kernel
theorem kd_Mo_point_252 : decode kc_Mo_point 252 = .ok (.iastore, 1) := by decide +kernel
theorem kd_Mo_point_253 : decode kc_Mo_point 253 = .ok (.aload_n 0, 1) := by decide +kernel
theorem kd_Mo_point_254 : decode kc_Mo_point 254 = .ok (.getfield 71, 3) := by decide +kernel
theorem kd_Mo_point_257 : decode kc_Mo_point 257 = .ok (.bipush 8, 2) := by decide +kernel
theorem kd_Mo_point_259 : decode kc_Mo_point 259 = .ok (.iload_n 1, 1) := by decide +kernel
theorem kd_Mo_point_260 : decode kc_Mo_point 260 = .ok (.imul, 1) := by decide +kernel
theorem kd_Mo_point_261 : decode kc_Mo_point 261 = .ok (.iload 6, 2) := by decide +kernel
theorem kd_Mo_point_263 : decode kc_Mo_point 263 = .ok (.iadd, 1) := by decide +kernel
theorem kd_Mo_point_264 : decode kc_Mo_point 264 = .ok (.iload 4, 2) := by decide +kernel
theorem kd_Mo_point_266 : decode kc_Mo_point 266 = .ok (.bastore, 1) := by decide +kernel
theorem kd_Mo_point_267 : decode kc_Mo_point 267 = .ok (.aload_n 0, 1) := by decide +kernel
theorem kd_Mo_point_268 : decode kc_Mo_point 268 = .ok (.getfield 62, 3) := by decide +kernel
theorem kd_Mo_point_271 : decode kc_Mo_point 271 = .ok (.iload_n 1, 1) := by decide +kernel
theorem kd_Mo_point_272 : decode kc_Mo_point 272 = .ok (.iload 7, 2) := by decide +kernel
theorem kd_Mo_point_274 : decode kc_Mo_point 274 = .ok (.ifCond .eq 8, 3) := by decide +kernel
theorem kd_Mo_point_277 : decode kc_Mo_point 277 = .ok (.iload 5, 2) := by decide +kernel
theorem kd_Mo_point_279 : decode kc_Mo_point 279 = .ok (.goto 7, 3) := by decide +kernel
theorem kd_Mo_point_282 : decode kc_Mo_point 282 = .ok (.iload 5, 2) := by decide +kernel
theorem kd_Mo_point_284 : decode kc_Mo_point 284 = .ok (.iconst 1, 1) := by decide +kernel
theorem kd_Mo_point_285 : decode kc_Mo_point 285 = .ok (.iadd, 1) := by decide +kernel
theorem kd_Mo_point_286 : decode kc_Mo_point 286 = .ok (.iastore, 1) := by decide +kernel
theorem kd_Mo_point_287 : decode kc_Mo_point 287 = .ok (.iconst 1, 1) := by decide +kernel
theorem kd_Mo_point_288 : decode kc_Mo_point 288 = .ok (.ireturn, 1) := by decide +kernel
theorem kd_Mo_turn_0 : decode kc_Mo_turn 0 = .ok (.aload_n 0, 1) := by decide +kernel
theorem kd_Mo_turn_1 : decode kc_Mo_turn 1 = .ok (.iload_n 1, 1) := by decide +kernel
theorem kd_Mo_turn_2 : decode kc_Mo_turn 2 = .ok (.invokestatic 141, 3) := by decide +kernel
theorem kd_Mo_turn_5 : decode kc_Mo_turn 5 = .ok (.ifCond .ne 12, 3) := by decide +kernel
theorem kd_Mo_turn_8 : decode kc_Mo_turn 8 = .ok (.iload_n 2, 1) := by decide +kernel
theorem kd_Mo_turn_9 : decode kc_Mo_turn 9 = .ok (.ifCond .lt 8, 3) := by decide +kernel
theorem kd_Mo_turn_12 : decode kc_Mo_turn 12 = .ok (.iload_n 2, 1) := by decide +kernel
theorem kd_Mo_turn_13 : decode kc_Mo_turn 13 = .ok (.iconst 4, 1) := by decide +kernel
