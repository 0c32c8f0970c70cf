/-! The law's own code, an instruction a row. -/
theorem kd_Lw_0 : decode code 0 = .ok (.new 8, 3) := by decide +kernel
theorem kd_Lw_3 : decode code 3 = .ok (.dup, 1) := by decide +kernel
theorem kd_Lw_4 : decode code 4 = .ok (.invokespecial 83, 3) := by decide +kernel
theorem kd_Lw_7 : decode code 7 = .ok (.astore_n 1, 1) := by decide +kernel
theorem kd_Lw_8 : decode code 8 = .ok (.new 84, 3) := by decide +kernel
theorem kd_Lw_11 : decode code 11 = .ok (.dup, 1) := by decide +kernel
theorem kd_Lw_12 : decode code 12 = .ok (.invokespecial 86, 3) := by decide +kernel
theorem kd_Lw_15 : decode code 15 = .ok (.astore_n 2, 1) := by decide +kernel
theorem kd_Lw_16 : decode code 16 = .ok (.iconst 1, 1) := by decide +kernel
theorem kd_Lw_17 : decode code 17 = .ok (.newarray .long, 2) := by decide +kernel
theorem kd_Lw_19 : decode code 19 = .ok (.astore_n 3, 1) := by decide +kernel
theorem kd_Lw_20 : decode code 20 = .ok (.iconst 0, 1) := by decide +kernel
theorem kd_Lw_21 : decode code 21 = .ok (.istore 4, 2) := by decide +kernel
theorem kd_Lw_23 : decode code 23 = .ok (.iload 4, 2) := by decide +kernel
theorem kd_Lw_25 : decode code 25 = .ok (.aload_n 0, 1) := by decide +kernel
theorem kd_Lw_26 : decode code 26 = .ok (.arraylength, 1) := by decide +kernel
theorem kd_Lw_27 : decode code 27 = .ok (.bipush 6, 2) := by decide +kernel
theorem kd_Lw_29 : decode code 29 = .ok (.isub, 1) := by decide +kernel
theorem kd_Lw_30 : decode code 30 = .ok (.if_icmp .gt 1419, 3) := by decide +kernel
theorem kd_Lw_33 : decode code 33 = .ok (.aload_n 0, 1) := by decide +kernel
theorem kd_Lw_34 : decode code 34 = .ok (.iload 4, 2) := by decide +kernel
theorem kd_Lw_36 : decode code 36 = .ok (.iaload, 1) := by decide +kernel
theorem kd_Lw_37 : decode code 37 = .ok (.bipush 31, 2) := by decide +kernel
theorem kd_Lw_39 : decode code 39 = .ok (.iand, 1) := by decide +kernel
theorem kd_Lw_40 : decode code 40 = .ok (.tableswitch 1403 0 17 #[88, 180, 228, 296, 400, 436, 523, 591, 663, 738, 825, 909, 957, 1072, 1140, 1188, 1256, 1323], 88) := by decide +kernel
theorem kd_Lw_128 : decode code 128 = .ok (.aload_n 1, 1) := by decide +kernel
theorem kd_Lw_129 : decode code 129 = .ok (.aload_n 0, 1) := by decide +kernel
theorem kd_Lw_130 : decode code 130 = .ok (.iload 4, 2) := by decide +kernel
theorem kd_Lw_132 : decode code 132 = .ok (.iconst 1, 1) := by decide +kernel
theorem kd_Lw_133 : decode code 133 = .ok (.iadd, 1) := by decide +kernel
theorem kd_Lw_134 : decode code 134 = .ok (.iaload, 1) := by decide +kernel
theorem kd_Lw_135 : decode code 135 = .ok (.aload_n 0, 1) := by decide +kernel
theorem kd_Lw_136 : decode code 136 = .ok (.iload 4, 2) := by decide +kernel
theorem kd_Lw_138 : decode code 138 = .ok (.iconst 2, 1) := by decide +kernel
theorem kd_Lw_139 : decode code 139 = .ok (.iadd, 1) := by decide +kernel
theorem kd_Lw_140 : decode code 140 = .ok (.iaload, 1) := by decide +kernel
theorem kd_Lw_141 : decode code 141 = .ok (.aload_n 0, 1) := by decide +kernel
theorem kd_Lw_142 : decode code 142 = .ok (.iload 4, 2) := by decide +kernel
theorem kd_Lw_144 : decode code 144 = .ok (.iconst 3, 1) := by decide +kernel
theorem kd_Lw_145 : decode code 145 = .ok (.iadd, 1) := by decide +kernel
theorem kd_Lw_146 : decode code 146 = .ok (.iaload, 1) := by decide +kernel
theorem kd_Lw_147 : decode code 147 = .ok (.i2l, 1) := by decide +kernel
theorem kd_Lw_148 : decode code 148 = .ok (.bipush 32, 2) := by decide +kernel
theorem kd_Lw_150 : decode code 150 = .ok (.lshl, 1) := by decide +kernel
theorem kd_Lw_151 : decode code 151 = .ok (.aload_n 0, 1) := by decide +kernel
theorem kd_Lw_152 : decode code 152 = .ok (.iload 4, 2) := by decide +kernel
theorem kd_Lw_154 : decode code 154 = .ok (.iconst 4, 1) := by decide +kernel
theorem kd_Lw_155 : decode code 155 = .ok (.iadd, 1) := by decide +kernel
theorem kd_Lw_156 : decode code 156 = .ok (.iaload, 1) := by decide +kernel
theorem kd_Lw_157 : decode code 157 = .ok (.i2l, 1) := by decide +kernel
theorem kd_Lw_158 : decode code 158 = .ok (.ldc2_w 87, 3) := by decide +kernel
theorem kd_Lw_161 : decode code 161 = .ok (.land, 1) := by decide +kernel
theorem kd_Lw_162 : decode code 162 = .ok (.lor, 1) := by decide +kernel
theorem kd_Lw_163 : decode code 163 = .ok (.invokestatic 89, 3) := by decide +kernel
theorem kd_Lw_166 : decode code 166 = .ok (.istore 5, 2) := by decide +kernel
theorem kd_Lw_168 : decode code 168 = .ok (.aload_n 2, 1) := by decide +kernel
theorem kd_Lw_169 : decode code 169 = .ok (.aload_n 0, 1) := by decide +kernel
theorem kd_Lw_170 : decode code 170 = .ok (.iload 4, 2) := by decide +kernel
theorem kd_Lw_172 : decode code 172 = .ok (.iconst 1, 1) := by decide +kernel
theorem kd_Lw_173 : decode code 173 = .ok (.iadd, 1) := by decide +kernel
theorem kd_Lw_174 : decode code 174 = .ok (.iaload, 1) := by decide +kernel
theorem kd_Lw_175 : decode code 175 = .ok (.aload_n 0, 1) := by decide +kernel
theorem kd_Lw_176 : decode code 176 = .ok (.iload 4, 2) := by decide +kernel
theorem kd_Lw_178 : decode code 178 = .ok (.iconst 2, 1) := by decide +kernel
theorem kd_Lw_179 : decode code 179 = .ok (.iadd, 1) := by decide +kernel
theorem kd_Lw_180 : decode code 180 = .ok (.iaload, 1) := by decide +kernel
theorem kd_Lw_181 : decode code 181 = .ok (.aload_n 0, 1) := by decide +kernel
theorem kd_Lw_182 : decode code 182 = .ok (.iload 4, 2) := by decide +kernel
theorem kd_Lw_184 : decode code 184 = .ok (.iconst 3, 1) := by decide +kernel
theorem kd_Lw_185 : decode code 185 = .ok (.iadd, 1) := by decide +kernel
theorem kd_Lw_186 : decode code 186 = .ok (.iaload, 1) := by decide +kernel
theorem kd_Lw_187 : decode code 187 = .ok (.i2l, 1) := by decide +kernel
theorem kd_Lw_188 : decode code 188 = .ok (.bipush 32, 2) := by decide +kernel
theorem kd_Lw_190 : decode code 190 = .ok (.lshl, 1) := by decide +kernel
theorem kd_Lw_191 : decode code 191 = .ok (.aload_n 0, 1) := by decide +kernel
theorem kd_Lw_192 : decode code 192 = .ok (.iload 4, 2) := by decide +kernel
theorem kd_Lw_194 : decode code 194 = .ok (.iconst 4, 1) := by decide +kernel
theorem kd_Lw_195 : decode code 195 = .ok (.iadd, 1) := by decide +kernel
theorem kd_Lw_196 : decode code 196 = .ok (.iaload, 1) := by decide +kernel
theorem kd_Lw_197 : decode code 197 = .ok (.i2l, 1) := by decide +kernel
theorem kd_Lw_198 : decode code 198 = .ok (.ldc2_w 87, 3) := by decide +kernel
theorem kd_Lw_201 : decode code 201 = .ok (.land, 1) := by decide +kernel
theorem kd_Lw_202 : decode code 202 = .ok (.lor, 1) := by decide +kernel
theorem kd_Lw_203 : decode code 203 = .ok (.invokevirtual 94, 3) := by decide +kernel
theorem kd_Lw_206 : decode code 206 = .ok (.aload_n 2, 1) := by decide +kernel
theorem kd_Lw_207 : decode code 207 = .ok (.invokevirtual 95, 3) := by decide +kernel
theorem kd_Lw_210 : decode code 210 = .ok (.iload 5, 2) := by decide +kernel
theorem kd_Lw_212 : decode code 212 = .ok (.if_icmp .eq 5, 3) := by decide +kernel
theorem kd_Lw_215 : decode code 215 = .ok (.iconst 0, 1) := by decide +kernel
theorem kd_Lw_216 : decode code 216 = .ok (.ireturn, 1) := by decide +kernel
theorem kd_Lw_217 : decode code 217 = .ok (.goto 1226, 3) := by decide +kernel
theorem kd_Lw_220 : decode code 220 = .ok (.aload_n 1, 1) := by decide +kernel
theorem kd_Lw_221 : decode code 221 = .ok (.aload_n 0, 1) := by decide +kernel
theorem kd_Lw_222 : decode code 222 = .ok (.iload 4, 2) := by decide +kernel
theorem kd_Lw_224 : decode code 224 = .ok (.iconst 1, 1) := by decide +kernel
theorem kd_Lw_225 : decode code 225 = .ok (.iadd, 1) := by decide +kernel
theorem kd_Lw_226 : decode code 226 = .ok (.iaload, 1) := by decide +kernel
theorem kd_Lw_227 : decode code 227 = .ok (.aload_n 0, 1) := by decide +kernel
theorem kd_Lw_228 : decode code 228 = .ok (.iload 4, 2) := by decide +kernel
theorem kd_Lw_230 : decode code 230 = .ok (.iconst 2, 1) := by decide +kernel
theorem kd_Lw_231 : decode code 231 = .ok (.iadd, 1) := by decide +kernel
theorem kd_Lw_232 : decode code 232 = .ok (.iaload, 1) := by decide +kernel
theorem kd_Lw_233 : decode code 233 = .ok (.invokestatic 99, 3) := by decide +kernel
theorem kd_Lw_236 : decode code 236 = .ok (.istore 5, 2) := by decide +kernel
theorem kd_Lw_238 : decode code 238 = .ok (.aload_n 2, 1) := by decide +kernel
theorem kd_Lw_239 : decode code 239 = .ok (.aload_n 0, 1) := by decide +kernel
theorem kd_Lw_240 : decode code 240 = .ok (.iload 4, 2) := by decide +kernel
theorem kd_Lw_242 : decode code 242 = .ok (.iconst 1, 1) := by decide +kernel
theorem kd_Lw_243 : decode code 243 = .ok (.iadd, 1) := by decide +kernel
theorem kd_Lw_244 : decode code 244 = .ok (.iaload, 1) := by decide +kernel
theorem kd_Lw_245 : decode code 245 = .ok (.aload_n 0, 1) := by decide +kernel
theorem kd_Lw_246 : decode code 246 = .ok (.iload 4, 2) := by decide +kernel
theorem kd_Lw_248 : decode code 248 = .ok (.iconst 2, 1) := by decide +kernel
theorem kd_Lw_249 : decode code 249 = .ok (.iadd, 1) := by decide +kernel
theorem kd_Lw_250 : decode code 250 = .ok (.iaload, 1) := by decide +kernel
theorem kd_Lw_251 : decode code 251 = .ok (.invokevirtual 102, 3) := by decide +kernel
theorem kd_Lw_254 : decode code 254 = .ok (.aload_n 2, 1) := by decide +kernel
theorem kd_Lw_255 : decode code 255 = .ok (.invokevirtual 95, 3) := by decide +kernel
theorem kd_Lw_258 : decode code 258 = .ok (.iload 5, 2) := by decide +kernel
theorem kd_Lw_260 : decode code 260 = .ok (.if_icmp .eq 5, 3) := by decide +kernel
theorem kd_Lw_263 : decode code 263 = .ok (.iconst 0, 1) := by decide +kernel
theorem kd_Lw_264 : decode code 264 = .ok (.ireturn, 1) := by decide +kernel
theorem kd_Lw_265 : decode code 265 = .ok (.goto 1178, 3) := by decide +kernel
theorem kd_Lw_268 : decode code 268 = .ok (.aload_n 1, 1) := by decide +kernel
theorem kd_Lw_269 : decode code 269 = .ok (.aload_n 0, 1) := by decide +kernel
theorem kd_Lw_270 : decode code 270 = .ok (.iload 4, 2) := by decide +kernel
theorem kd_Lw_272 : decode code 272 = .ok (.iconst 1, 1) := by decide +kernel
theorem kd_Lw_273 : decode code 273 = .ok (.iadd, 1) := by decide +kernel
theorem kd_Lw_274 : decode code 274 = .ok (.iaload, 1) := by decide +kernel
theorem kd_Lw_275 : decode code 275 = .ok (.aload_n 0, 1) := by decide +kernel
theorem kd_Lw_276 : decode code 276 = .ok (.iload 4, 2) := by decide +kernel
theorem kd_Lw_278 : decode code 278 = .ok (.iconst 2, 1) := by decide +kernel
theorem kd_Lw_279 : decode code 279 = .ok (.iadd, 1) := by decide +kernel
theorem kd_Lw_280 : decode code 280 = .ok (.iaload, 1) := by decide +kernel
theorem kd_Lw_281 : decode code 281 = .ok (.aload_n 3, 1) := by decide +kernel
theorem kd_Lw_282 : decode code 282 = .ok (.invokestatic 103, 3) := by decide +kernel
theorem kd_Lw_285 : decode code 285 = .ok (.istore 5, 2) := by decide +kernel
theorem kd_Lw_287 : decode code 287 = .ok (.aload_n 2, 1) := by decide +kernel
theorem kd_Lw_288 : decode code 288 = .ok (.aload_n 0, 1) := by decide +kernel
theorem kd_Lw_289 : decode code 289 = .ok (.iload 4, 2) := by decide +kernel
theorem kd_Lw_291 : decode code 291 = .ok (.iconst 1, 1) := by decide +kernel
theorem kd_Lw_292 : decode code 292 = .ok (.iadd, 1) := by decide +kernel
theorem kd_Lw_293 : decode code 293 = .ok (.iaload, 1) := by decide +kernel
theorem kd_Lw_294 : decode code 294 = .ok (.aload_n 0, 1) := by decide +kernel
theorem kd_Lw_295 : decode code 295 = .ok (.iload 4, 2) := by decide +kernel
theorem kd_Lw_297 : decode code 297 = .ok (.iconst 2, 1) := by decide +kernel
theorem kd_Lw_298 : decode code 298 = .ok (.iadd, 1) := by decide +kernel
theorem kd_Lw_299 : decode code 299 = .ok (.iaload, 1) := by decide +kernel
theorem kd_Lw_300 : decode code 300 = .ok (.invokevirtual 106, 3) := by decide +kernel
theorem kd_Lw_303 : decode code 303 = .ok (.istore 6, 2) := by decide +kernel
theorem kd_Lw_305 : decode code 305 = .ok (.aload_n 2, 1) := by decide +kernel
theorem kd_Lw_306 : decode code 306 = .ok (.invokevirtual 95, 3) := by decide +kernel
theorem kd_Lw_309 : decode code 309 = .ok (.iload 5, 2) := by decide +kernel
theorem kd_Lw_311 : decode code 311 = .ok (.if_icmp .eq 5, 3) := by decide +kernel
theorem kd_Lw_314 : decode code 314 = .ok (.iconst 0, 1) := by decide +kernel
theorem kd_Lw_315 : decode code 315 = .ok (.ireturn, 1) := by decide +kernel
theorem kd_Lw_316 : decode code 316 = .ok (.iload 5, 2) := by decide +kernel
theorem kd_Lw_318 : decode code 318 = .ok (.ifCond .ne 15, 3) := by decide +kernel
theorem kd_Lw_321 : decode code 321 = .ok (.aload_n 3, 1) := by decide +kernel
theorem kd_Lw_322 : decode code 322 = .ok (.iconst 0, 1) := by decide +kernel
theorem kd_Lw_323 : decode code 323 = .ok (.laload, 1) := by decide +kernel
theorem kd_Lw_324 : decode code 324 = .ok (.iload 6, 2) := by decide +kernel
theorem kd_Lw_326 : decode code 326 = .ok (.i2l, 1) := by decide +kernel
theorem kd_Lw_327 : decode code 327 = .ok (.lcmp, 1) := by decide +kernel
theorem kd_Lw_328 : decode code 328 = .ok (.ifCond .eq 5, 3) := by decide +kernel
theorem kd_Lw_331 : decode code 331 = .ok (.iconst 0, 1) := by decide +kernel
theorem kd_Lw_332 : decode code 332 = .ok (.ireturn, 1) := by decide +kernel
theorem kd_Lw_333 : decode code 333 = .ok (.goto 1110, 3) := by decide +kernel
theorem kd_Lw_336 : decode code 336 = .ok (.aload_n 1, 1) := by decide +kernel
theorem kd_Lw_337 : decode code 337 = .ok (.aload_n 0, 1) := by decide +kernel
theorem kd_Lw_338 : decode code 338 = .ok (.iload 4, 2) := by decide +kernel
theorem kd_Lw_340 : decode code 340 = .ok (.iconst 1, 1) := by decide +kernel
theorem kd_Lw_341 : decode code 341 = .ok (.iadd, 1) := by decide +kernel
theorem kd_Lw_342 : decode code 342 = .ok (.iaload, 1) := by decide +kernel
theorem kd_Lw_343 : decode code 343 = .ok (.aload_n 0, 1) := by decide +kernel
theorem kd_Lw_344 : decode code 344 = .ok (.iload 4, 2) := by decide +kernel
theorem kd_Lw_346 : decode code 346 = .ok (.iconst 2, 1) := by decide +kernel
theorem kd_Lw_347 : decode code 347 = .ok (.iadd, 1) := by decide +kernel
theorem kd_Lw_348 : decode code 348 = .ok (.iaload, 1) := by decide +kernel
theorem kd_Lw_349 : decode code 349 = .ok (.aload_n 0, 1) := by decide +kernel
theorem kd_Lw_350 : decode code 350 = .ok (.iload 4, 2) := by decide +kernel
theorem kd_Lw_352 : decode code 352 = .ok (.iconst 3, 1) := by decide +kernel
theorem kd_Lw_353 : decode code 353 = .ok (.iadd, 1) := by decide +kernel
theorem kd_Lw_354 : decode code 354 = .ok (.iaload, 1) := by decide +kernel
theorem kd_Lw_355 : decode code 355 = .ok (.aload_n 0, 1) := by decide +kernel
theorem kd_Lw_356 : decode code 356 = .ok (.iload 4, 2) := by decide +kernel
theorem kd_Lw_358 : decode code 358 = .ok (.iconst 4, 1) := by decide +kernel
theorem kd_Lw_359 : decode code 359 = .ok (.iadd, 1) := by decide +kernel
theorem kd_Lw_360 : decode code 360 = .ok (.iaload, 1) := by decide +kernel
theorem kd_Lw_361 : decode code 361 = .ok (.aload_n 0, 1) := by decide +kernel
theorem kd_Lw_362 : decode code 362 = .ok (.iload 4, 2) := by decide +kernel
theorem kd_Lw_364 : decode code 364 = .ok (.iconst 5, 1) := by decide +kernel
theorem kd_Lw_365 : decode code 365 = .ok (.iadd, 1) := by decide +kernel
theorem kd_Lw_366 : decode code 366 = .ok (.iaload, 1) := by decide +kernel
theorem kd_Lw_367 : decode code 367 = .ok (.aload_n 3, 1) := by decide +kernel
theorem kd_Lw_368 : decode code 368 = .ok (.invokestatic 107, 3) := by decide +kernel
theorem kd_Lw_371 : decode code 371 = .ok (.istore 5, 2) := by decide +kernel
theorem kd_Lw_373 : decode code 373 = .ok (.aload_n 2, 1) := by decide +kernel
theorem kd_Lw_374 : decode code 374 = .ok (.aload_n 0, 1) := by decide +kernel
theorem kd_Lw_375 : decode code 375 = .ok (.iload 4, 2) := by decide +kernel
theorem kd_Lw_377 : decode code 377 = .ok (.iconst 1, 1) := by decide +kernel
theorem kd_Lw_378 : decode code 378 = .ok (.iadd, 1) := by decide +kernel
theorem kd_Lw_379 : decode code 379 = .ok (.iaload, 1) := by decide +kernel
theorem kd_Lw_380 : decode code 380 = .ok (.aload_n 0, 1) := by decide +kernel
theorem kd_Lw_381 : decode code 381 = .ok (.iload 4, 2) := by decide +kernel
theorem kd_Lw_383 : decode code 383 = .ok (.iconst 2, 1) := by decide +kernel
theorem kd_Lw_384 : decode code 384 = .ok (.iadd, 1) := by decide +kernel
theorem kd_Lw_385 : decode code 385 = .ok (.iaload, 1) := by decide +kernel
theorem kd_Lw_386 : decode code 386 = .ok (.aload_n 0, 1) := by decide +kernel
theorem kd_Lw_387 : decode code 387 = .ok (.iload 4, 2) := by decide +kernel
theorem kd_Lw_389 : decode code 389 = .ok (.iconst 3, 1) := by decide +kernel
theorem kd_Lw_390 : decode code 390 = .ok (.iadd, 1) := by decide +kernel
theorem kd_Lw_391 : decode code 391 = .ok (.iaload, 1) := by decide +kernel
theorem kd_Lw_392 : decode code 392 = .ok (.aload_n 0, 1) := by decide +kernel
theorem kd_Lw_393 : decode code 393 = .ok (.iload 4, 2) := by decide +kernel
theorem kd_Lw_395 : decode code 395 = .ok (.iconst 4, 1) := by decide +kernel
theorem kd_Lw_396 : decode code 396 = .ok (.iadd, 1) := by decide +kernel
theorem kd_Lw_397 : decode code 397 = .ok (.iaload, 1) := by decide +kernel
theorem kd_Lw_398 : decode code 398 = .ok (.aload_n 0, 1) := by decide +kernel
theorem kd_Lw_399 : decode code 399 = .ok (.iload 4, 2) := by decide +kernel
theorem kd_Lw_401 : decode code 401 = .ok (.iconst 5, 1) := by decide +kernel
theorem kd_Lw_402 : decode code 402 = .ok (.iadd, 1) := by decide +kernel
theorem kd_Lw_403 : decode code 403 = .ok (.iaload, 1) := by decide +kernel
theorem kd_Lw_404 : decode code 404 = .ok (.invokevirtual 110, 3) := by decide +kernel
theorem kd_Lw_407 : decode code 407 = .ok (.istore 6, 2) := by decide +kernel
theorem kd_Lw_409 : decode code 409 = .ok (.aload_n 2, 1) := by decide +kernel
theorem kd_Lw_410 : decode code 410 = .ok (.invokevirtual 95, 3) := by decide +kernel
theorem kd_Lw_413 : decode code 413 = .ok (.iload 5, 2) := by decide +kernel
theorem kd_Lw_415 : decode code 415 = .ok (.if_icmp .eq 5, 3) := by decide +kernel
theorem kd_Lw_418 : decode code 418 = .ok (.iconst 0, 1) := by decide +kernel
theorem kd_Lw_419 : decode code 419 = .ok (.ireturn, 1) := by decide +kernel
theorem kd_Lw_420 : decode code 420 = .ok (.iload 5, 2) := by decide +kernel
theorem kd_Lw_422 : decode code 422 = .ok (.ifCond .ne 15, 3) := by decide +kernel
theorem kd_Lw_425 : decode code 425 = .ok (.aload_n 3, 1) := by decide +kernel
theorem kd_Lw_426 : decode code 426 = .ok (.iconst 0, 1) := by decide +kernel
theorem kd_Lw_427 : decode code 427 = .ok (.laload, 1) := by decide +kernel
theorem kd_Lw_428 : decode code 428 = .ok (.iload 6, 2) := by decide +kernel
theorem kd_Lw_430 : decode code 430 = .ok (.i2l, 1) := by decide +kernel
theorem kd_Lw_431 : decode code 431 = .ok (.lcmp, 1) := by decide +kernel
theorem kd_Lw_432 : decode code 432 = .ok (.ifCond .eq 5, 3) := by decide +kernel
theorem kd_Lw_435 : decode code 435 = .ok (.iconst 0, 1) := by decide +kernel
theorem kd_Lw_436 : decode code 436 = .ok (.ireturn, 1) := by decide +kernel
theorem kd_Lw_437 : decode code 437 = .ok (.goto 1006, 3) := by decide +kernel
theorem kd_Lw_440 : decode code 440 = .ok (.aload_n 1, 1) := by decide +kernel
theorem kd_Lw_441 : decode code 441 = .ok (.aload_n 0, 1) := by decide +kernel
theorem kd_Lw_442 : decode code 442 = .ok (.iload 4, 2) := by decide +kernel
theorem kd_Lw_444 : decode code 444 = .ok (.iconst 1, 1) := by decide +kernel
theorem kd_Lw_445 : decode code 445 = .ok (.iadd, 1) := by decide +kernel
theorem kd_Lw_446 : decode code 446 = .ok (.iaload, 1) := by decide +kernel
theorem kd_Lw_447 : decode code 447 = .ok (.invokestatic 111, 3) := by decide +kernel
theorem kd_Lw_450 : decode code 450 = .ok (.istore 5, 2) := by decide +kernel
theorem kd_Lw_452 : decode code 452 = .ok (.aload_n 2, 1) := by decide +kernel
theorem kd_Lw_453 : decode code 453 = .ok (.aload_n 0, 1) := by decide +kernel
theorem kd_Lw_454 : decode code 454 = .ok (.iload 4, 2) := by decide +kernel
theorem kd_Lw_456 : decode code 456 = .ok (.iconst 1, 1) := by decide +kernel
theorem kd_Lw_457 : decode code 457 = .ok (.iadd, 1) := by decide +kernel
theorem kd_Lw_458 : decode code 458 = .ok (.iaload, 1) := by decide +kernel
theorem kd_Lw_459 : decode code 459 = .ok (.invokevirtual 114, 3) := by decide +kernel
theorem kd_Lw_462 : decode code 462 = .ok (.aload_n 2, 1) := by decide +kernel
theorem kd_Lw_463 : decode code 463 = .ok (.invokevirtual 95, 3) := by decide +kernel
theorem kd_Lw_466 : decode code 466 = .ok (.iload 5, 2) := by decide +kernel
theorem kd_Lw_468 : decode code 468 = .ok (.if_icmp .eq 5, 3) := by decide +kernel
theorem kd_Lw_471 : decode code 471 = .ok (.iconst 0, 1) := by decide +kernel
theorem kd_Lw_472 : decode code 472 = .ok (.ireturn, 1) := by decide +kernel
theorem kd_Lw_473 : decode code 473 = .ok (.goto 970, 3) := by decide +kernel
theorem kd_Lw_476 : decode code 476 = .ok (.aload_n 1, 1) := by decide +kernel
theorem kd_Lw_477 : decode code 477 = .ok (.aload_n 0, 1) := by decide +kernel
theorem kd_Lw_478 : decode code 478 = .ok (.iload 4, 2) := by decide +kernel
theorem kd_Lw_480 : decode code 480 = .ok (.iconst 1, 1) := by decide +kernel
theorem kd_Lw_481 : decode code 481 = .ok (.iadd, 1) := by decide +kernel
theorem kd_Lw_482 : decode code 482 = .ok (.iaload, 1) := by decide +kernel
theorem kd_Lw_483 : decode code 483 = .ok (.aload_n 0, 1) := by decide +kernel
theorem kd_Lw_484 : decode code 484 = .ok (.iload 4, 2) := by decide +kernel
theorem kd_Lw_486 : decode code 486 = .ok (.iconst 2, 1) := by decide +kernel
theorem kd_Lw_487 : decode code 487 = .ok (.iadd, 1) := by decide +kernel
theorem kd_Lw_488 : decode code 488 = .ok (.iaload, 1) := by decide +kernel
theorem kd_Lw_489 : decode code 489 = .ok (.aload_n 0, 1) := by decide +kernel
theorem kd_Lw_490 : decode code 490 = .ok (.iload 4, 2) := by decide +kernel
theorem kd_Lw_492 : decode code 492 = .ok (.iconst 3, 1) := by decide +kernel
theorem kd_Lw_493 : decode code 493 = .ok (.iadd, 1) := by decide +kernel
theorem kd_Lw_494 : decode code 494 = .ok (.iaload, 1) := by decide +kernel
theorem kd_Lw_495 : decode code 495 = .ok (.aload_n 3, 1) := by decide +kernel
theorem kd_Lw_496 : decode code 496 = .ok (.invokestatic 115, 3) := by decide +kernel
theorem kd_Lw_499 : decode code 499 = .ok (.istore 5, 2) := by decide +kernel
theorem kd_Lw_501 : decode code 501 = .ok (.aload_n 2, 1) := by decide +kernel
theorem kd_Lw_502 : decode code 502 = .ok (.aload_n 0, 1) := by decide +kernel
theorem kd_Lw_503 : decode code 503 = .ok (.iload 4, 2) := by decide +kernel
theorem kd_Lw_505 : decode code 505 = .ok (.iconst 1, 1) := by decide +kernel
theorem kd_Lw_506 : decode code 506 = .ok (.iadd, 1) := by decide +kernel
theorem kd_Lw_507 : decode code 507 = .ok (.iaload, 1) := by decide +kernel
theorem kd_Lw_508 : decode code 508 = .ok (.aload_n 0, 1) := by decide +kernel
theorem kd_Lw_509 : decode code 509 = .ok (.iload 4, 2) := by decide +kernel
theorem kd_Lw_511 : decode code 511 = .ok (.iconst 2, 1) := by decide +kernel
theorem kd_Lw_512 : decode code 512 = .ok (.iadd, 1) := by decide +kernel
theorem kd_Lw_513 : decode code 513 = .ok (.iaload, 1) := by decide +kernel
theorem kd_Lw_514 : decode code 514 = .ok (.aload_n 0, 1) := by decide +kernel
theorem kd_Lw_515 : decode code 515 = .ok (.iload 4, 2) := by decide +kernel
theorem kd_Lw_517 : decode code 517 = .ok (.iconst 3, 1) := by decide +kernel
theorem kd_Lw_518 : decode code 518 = .ok (.iadd, 1) := by decide +kernel
theorem kd_Lw_519 : decode code 519 = .ok (.iaload, 1) := by decide +kernel
theorem kd_Lw_520 : decode code 520 = .ok (.invokevirtual 118, 3) := by decide +kernel
theorem kd_Lw_523 : decode code 523 = .ok (.istore 6, 2) := by decide +kernel
theorem kd_Lw_525 : decode code 525 = .ok (.aload_n 2, 1) := by decide +kernel
theorem kd_Lw_526 : decode code 526 = .ok (.invokevirtual 95, 3) := by decide +kernel
theorem kd_Lw_529 : decode code 529 = .ok (.iload 5, 2) := by decide +kernel
theorem kd_Lw_531 : decode code 531 = .ok (.if_icmp .eq 5, 3) := by decide +kernel
theorem kd_Lw_534 : decode code 534 = .ok (.iconst 0, 1) := by decide +kernel
theorem kd_Lw_535 : decode code 535 = .ok (.ireturn, 1) := by decide +kernel
theorem kd_Lw_536 : decode code 536 = .ok (.iload 5, 2) := by decide +kernel
theorem kd_Lw_538 : decode code 538 = .ok (.ifCond .ne 22, 3) := by decide +kernel
theorem kd_Lw_541 : decode code 541 = .ok (.aload_n 3, 1) := by decide +kernel
theorem kd_Lw_542 : decode code 542 = .ok (.iconst 0, 1) := by decide +kernel
theorem kd_Lw_543 : decode code 543 = .ok (.laload, 1) := by decide +kernel
theorem kd_Lw_544 : decode code 544 = .ok (.iload 6, 2) := by decide +kernel
theorem kd_Lw_546 : decode code 546 = .ok (.ifCond .eq 7, 3) := by decide +kernel
theorem kd_Lw_549 : decode code 549 = .ok (.lconst 1, 1) := by decide +kernel
theorem kd_Lw_550 : decode code 550 = .ok (.goto 4, 3) := by decide +kernel
theorem kd_Lw_553 : decode code 553 = .ok (.lconst 0, 1) := by decide +kernel
theorem kd_Lw_554 : decode code 554 = .ok (.lcmp, 1) := by decide +kernel
theorem kd_Lw_555 : decode code 555 = .ok (.ifCond .eq 5, 3) := by decide +kernel
theorem kd_Lw_558 : decode code 558 = .ok (.iconst 0, 1) := by decide +kernel
theorem kd_Lw_559 : decode code 559 = .ok (.ireturn, 1) := by decide +kernel
theorem kd_Lw_560 : decode code 560 = .ok (.goto 883, 3) := by decide +kernel
theorem kd_Lw_563 : decode code 563 = .ok (.aload_n 1, 1) := by decide +kernel
theorem kd_Lw_564 : decode code 564 = .ok (.aload_n 0, 1) := by decide +kernel
theorem kd_Lw_565 : decode code 565 = .ok (.iload 4, 2) := by decide +kernel
theorem kd_Lw_567 : decode code 567 = .ok (.iconst 1, 1) := by decide +kernel
theorem kd_Lw_568 : decode code 568 = .ok (.iadd, 1) := by decide +kernel
theorem kd_Lw_569 : decode code 569 = .ok (.iaload, 1) := by decide +kernel
theorem kd_Lw_570 : decode code 570 = .ok (.aload_n 0, 1) := by decide +kernel
theorem kd_Lw_571 : decode code 571 = .ok (.iload 4, 2) := by decide +kernel
theorem kd_Lw_573 : decode code 573 = .ok (.iconst 2, 1) := by decide +kernel
theorem kd_Lw_574 : decode code 574 = .ok (.iadd, 1) := by decide +kernel
theorem kd_Lw_575 : decode code 575 = .ok (.iaload, 1) := by decide +kernel
theorem kd_Lw_576 : decode code 576 = .ok (.aload_n 3, 1) := by decide +kernel
theorem kd_Lw_577 : decode code 577 = .ok (.invokestatic 119, 3) := by decide +kernel
theorem kd_Lw_580 : decode code 580 = .ok (.istore 5, 2) := by decide +kernel
theorem kd_Lw_582 : decode code 582 = .ok (.aload_n 2, 1) := by decide +kernel
theorem kd_Lw_583 : decode code 583 = .ok (.aload_n 0, 1) := by decide +kernel
theorem kd_Lw_584 : decode code 584 = .ok (.iload 4, 2) := by decide +kernel
theorem kd_Lw_586 : decode code 586 = .ok (.iconst 1, 1) := by decide +kernel
theorem kd_Lw_587 : decode code 587 = .ok (.iadd, 1) := by decide +kernel
theorem kd_Lw_588 : decode code 588 = .ok (.iaload, 1) := by decide +kernel
theorem kd_Lw_589 : decode code 589 = .ok (.aload_n 0, 1) := by decide +kernel
theorem kd_Lw_590 : decode code 590 = .ok (.iload 4, 2) := by decide +kernel
theorem kd_Lw_592 : decode code 592 = .ok (.iconst 2, 1) := by decide +kernel
theorem kd_Lw_593 : decode code 593 = .ok (.iadd, 1) := by decide +kernel
theorem kd_Lw_594 : decode code 594 = .ok (.iaload, 1) := by decide +kernel
theorem kd_Lw_595 : decode code 595 = .ok (.invokevirtual 121, 3) := by decide +kernel
theorem kd_Lw_598 : decode code 598 = .ok (.istore 6, 2) := by decide +kernel
theorem kd_Lw_600 : decode code 600 = .ok (.aload_n 2, 1) := by decide +kernel
theorem kd_Lw_601 : decode code 601 = .ok (.invokevirtual 95, 3) := by decide +kernel
theorem kd_Lw_604 : decode code 604 = .ok (.iload 5, 2) := by decide +kernel
theorem kd_Lw_606 : decode code 606 = .ok (.if_icmp .eq 5, 3) := by decide +kernel
theorem kd_Lw_609 : decode code 609 = .ok (.iconst 0, 1) := by decide +kernel
theorem kd_Lw_610 : decode code 610 = .ok (.ireturn, 1) := by decide +kernel
theorem kd_Lw_611 : decode code 611 = .ok (.iload 5, 2) := by decide +kernel
theorem kd_Lw_613 : decode code 613 = .ok (.ifCond .ne 15, 3) := by decide +kernel
theorem kd_Lw_616 : decode code 616 = .ok (.aload_n 3, 1) := by decide +kernel
theorem kd_Lw_617 : decode code 617 = .ok (.iconst 0, 1) := by decide +kernel
theorem kd_Lw_618 : decode code 618 = .ok (.laload, 1) := by decide +kernel
theorem kd_Lw_619 : decode code 619 = .ok (.iload 6, 2) := by decide +kernel
theorem kd_Lw_621 : decode code 621 = .ok (.i2l, 1) := by decide +kernel
theorem kd_Lw_622 : decode code 622 = .ok (.lcmp, 1) := by decide +kernel
theorem kd_Lw_623 : decode code 623 = .ok (.ifCond .eq 5, 3) := by decide +kernel
theorem kd_Lw_626 : decode code 626 = .ok (.iconst 0, 1) := by decide +kernel
theorem kd_Lw_627 : decode code 627 = .ok (.ireturn, 1) := by decide +kernel
theorem kd_Lw_628 : decode code 628 = .ok (.goto 815, 3) := by decide +kernel
theorem kd_Lw_631 : decode code 631 = .ok (.aload_n 1, 1) := by decide +kernel
theorem kd_Lw_632 : decode code 632 = .ok (.aload_n 0, 1) := by decide +kernel
theorem kd_Lw_633 : decode code 633 = .ok (.iload 4, 2) := by decide +kernel
theorem kd_Lw_635 : decode code 635 = .ok (.iconst 1, 1) := by decide +kernel
theorem kd_Lw_636 : decode code 636 = .ok (.iadd, 1) := by decide +kernel
theorem kd_Lw_637 : decode code 637 = .ok (.iaload, 1) := by decide +kernel
theorem kd_Lw_638 : decode code 638 = .ok (.aload_n 0, 1) := by decide +kernel
theorem kd_Lw_639 : decode code 639 = .ok (.iload 4, 2) := by decide +kernel
theorem kd_Lw_641 : decode code 641 = .ok (.iconst 2, 1) := by decide +kernel
theorem kd_Lw_642 : decode code 642 = .ok (.iadd, 1) := by decide +kernel
theorem kd_Lw_643 : decode code 643 = .ok (.iaload, 1) := by decide +kernel
theorem kd_Lw_644 : decode code 644 = .ok (.aload_n 0, 1) := by decide +kernel
theorem kd_Lw_645 : decode code 645 = .ok (.iload 4, 2) := by decide +kernel
theorem kd_Lw_647 : decode code 647 = .ok (.iconst 3, 1) := by decide +kernel
theorem kd_Lw_648 : decode code 648 = .ok (.iadd, 1) := by decide +kernel
theorem kd_Lw_649 : decode code 649 = .ok (.iaload, 1) := by decide +kernel
theorem kd_Lw_650 : decode code 650 = .ok (.aload_n 0, 1) := by decide +kernel
theorem kd_Lw_651 : decode code 651 = .ok (.iload 4, 2) := by decide +kernel
theorem kd_Lw_653 : decode code 653 = .ok (.iconst 4, 1) := by decide +kernel
theorem kd_Lw_654 : decode code 654 = .ok (.iadd, 1) := by decide +kernel
theorem kd_Lw_655 : decode code 655 = .ok (.iaload, 1) := by decide +kernel
theorem kd_Lw_656 : decode code 656 = .ok (.invokestatic 122, 3) := by decide +kernel
theorem kd_Lw_659 : decode code 659 = .ok (.istore 5, 2) := by decide +kernel
theorem kd_Lw_661 : decode code 661 = .ok (.aload_n 2, 1) := by decide +kernel
theorem kd_Lw_662 : decode code 662 = .ok (.aload_n 0, 1) := by decide +kernel
theorem kd_Lw_663 : decode code 663 = .ok (.iload 4, 2) := by decide +kernel
theorem kd_Lw_665 : decode code 665 = .ok (.iconst 1, 1) := by decide +kernel
theorem kd_Lw_666 : decode code 666 = .ok (.iadd, 1) := by decide +kernel
theorem kd_Lw_667 : decode code 667 = .ok (.iaload, 1) := by decide +kernel
theorem kd_Lw_668 : decode code 668 = .ok (.aload_n 0, 1) := by decide +kernel
theorem kd_Lw_669 : decode code 669 = .ok (.iload 4, 2) := by decide +kernel
theorem kd_Lw_671 : decode code 671 = .ok (.iconst 2, 1) := by decide +kernel
theorem kd_Lw_672 : decode code 672 = .ok (.iadd, 1) := by decide +kernel
theorem kd_Lw_673 : decode code 673 = .ok (.iaload, 1) := by decide +kernel
theorem kd_Lw_674 : decode code 674 = .ok (.aload_n 0, 1) := by decide +kernel
theorem kd_Lw_675 : decode code 675 = .ok (.iload 4, 2) := by decide +kernel
theorem kd_Lw_677 : decode code 677 = .ok (.iconst 3, 1) := by decide +kernel
theorem kd_Lw_678 : decode code 678 = .ok (.iadd, 1) := by decide +kernel
theorem kd_Lw_679 : decode code 679 = .ok (.iaload, 1) := by decide +kernel
theorem kd_Lw_680 : decode code 680 = .ok (.aload_n 0, 1) := by decide +kernel
theorem kd_Lw_681 : decode code 681 = .ok (.iload 4, 2) := by decide +kernel
theorem kd_Lw_683 : decode code 683 = .ok (.iconst 4, 1) := by decide +kernel
theorem kd_Lw_684 : decode code 684 = .ok (.iadd, 1) := by decide +kernel
theorem kd_Lw_685 : decode code 685 = .ok (.iaload, 1) := by decide +kernel
theorem kd_Lw_686 : decode code 686 = .ok (.invokevirtual 125, 3) := by decide +kernel
theorem kd_Lw_689 : decode code 689 = .ok (.aload_n 2, 1) := by decide +kernel
theorem kd_Lw_690 : decode code 690 = .ok (.invokevirtual 95, 3) := by decide +kernel
theorem kd_Lw_693 : decode code 693 = .ok (.iload 5, 2) := by decide +kernel
theorem kd_Lw_695 : decode code 695 = .ok (.if_icmp .eq 5, 3) := by decide +kernel
theorem kd_Lw_698 : decode code 698 = .ok (.iconst 0, 1) := by decide +kernel
theorem kd_Lw_699 : decode code 699 = .ok (.ireturn, 1) := by decide +kernel
theorem kd_Lw_700 : decode code 700 = .ok (.goto 743, 3) := by decide +kernel
theorem kd_Lw_703 : decode code 703 = .ok (.aload_n 1, 1) := by decide +kernel
theorem kd_Lw_704 : decode code 704 = .ok (.aload_n 0, 1) := by decide +kernel
theorem kd_Lw_705 : decode code 705 = .ok (.iload 4, 2) := by decide +kernel
theorem kd_Lw_707 : decode code 707 = .ok (.iconst 1, 1) := by decide +kernel
theorem kd_Lw_708 : decode code 708 = .ok (.iadd, 1) := by decide +kernel
theorem kd_Lw_709 : decode code 709 = .ok (.iaload, 1) := by decide +kernel
theorem kd_Lw_710 : decode code 710 = .ok (.aload_n 0, 1) := by decide +kernel
theorem kd_Lw_711 : decode code 711 = .ok (.iload 4, 2) := by decide +kernel
theorem kd_Lw_713 : decode code 713 = .ok (.iconst 2, 1) := by decide +kernel
theorem kd_Lw_714 : decode code 714 = .ok (.iadd, 1) := by decide +kernel
theorem kd_Lw_715 : decode code 715 = .ok (.iaload, 1) := by decide +kernel
theorem kd_Lw_716 : decode code 716 = .ok (.aload_n 3, 1) := by decide +kernel
theorem kd_Lw_717 : decode code 717 = .ok (.invokestatic 126, 3) := by decide +kernel
theorem kd_Lw_720 : decode code 720 = .ok (.istore 5, 2) := by decide +kernel
theorem kd_Lw_722 : decode code 722 = .ok (.aload_n 2, 1) := by decide +kernel
theorem kd_Lw_723 : decode code 723 = .ok (.aload_n 0, 1) := by decide +kernel
theorem kd_Lw_724 : decode code 724 = .ok (.iload 4, 2) := by decide +kernel
theorem kd_Lw_726 : decode code 726 = .ok (.iconst 1, 1) := by decide +kernel
theorem kd_Lw_727 : decode code 727 = .ok (.iadd, 1) := by decide +kernel
theorem kd_Lw_728 : decode code 728 = .ok (.iaload, 1) := by decide +kernel
theorem kd_Lw_729 : decode code 729 = .ok (.aload_n 0, 1) := by decide +kernel
theorem kd_Lw_730 : decode code 730 = .ok (.iload 4, 2) := by decide +kernel
theorem kd_Lw_732 : decode code 732 = .ok (.iconst 2, 1) := by decide +kernel
theorem kd_Lw_733 : decode code 733 = .ok (.iadd, 1) := by decide +kernel
theorem kd_Lw_734 : decode code 734 = .ok (.iaload, 1) := by decide +kernel
theorem kd_Lw_735 : decode code 735 = .ok (.invokevirtual 128, 3) := by decide +kernel
theorem kd_Lw_738 : decode code 738 = .ok (.istore 6, 2) := by decide +kernel
theorem kd_Lw_740 : decode code 740 = .ok (.aload_n 2, 1) := by decide +kernel
theorem kd_Lw_741 : decode code 741 = .ok (.invokevirtual 95, 3) := by decide +kernel
theorem kd_Lw_744 : decode code 744 = .ok (.iload 5, 2) := by decide +kernel
theorem kd_Lw_746 : decode code 746 = .ok (.if_icmp .eq 5, 3) := by decide +kernel
theorem kd_Lw_749 : decode code 749 = .ok (.iconst 0, 1) := by decide +kernel
theorem kd_Lw_750 : decode code 750 = .ok (.ireturn, 1) := by decide +kernel
theorem kd_Lw_751 : decode code 751 = .ok (.iload 5, 2) := by decide +kernel
theorem kd_Lw_753 : decode code 753 = .ok (.ifCond .ne 22, 3) := by decide +kernel
theorem kd_Lw_756 : decode code 756 = .ok (.aload_n 3, 1) := by decide +kernel
theorem kd_Lw_757 : decode code 757 = .ok (.iconst 0, 1) := by decide +kernel
theorem kd_Lw_758 : decode code 758 = .ok (.laload, 1) := by decide +kernel
theorem kd_Lw_759 : decode code 759 = .ok (.iload 6, 2) := by decide +kernel
theorem kd_Lw_761 : decode code 761 = .ok (.ifCond .eq 7, 3) := by decide +kernel
theorem kd_Lw_764 : decode code 764 = .ok (.lconst 1, 1) := by decide +kernel
theorem kd_Lw_765 : decode code 765 = .ok (.goto 4, 3) := by decide +kernel
theorem kd_Lw_768 : decode code 768 = .ok (.lconst 0, 1) := by decide +kernel
theorem kd_Lw_769 : decode code 769 = .ok (.lcmp, 1) := by decide +kernel
theorem kd_Lw_770 : decode code 770 = .ok (.ifCond .eq 5, 3) := by decide +kernel
theorem kd_Lw_773 : decode code 773 = .ok (.iconst 0, 1) := by decide +kernel
theorem kd_Lw_774 : decode code 774 = .ok (.ireturn, 1) := by decide +kernel
theorem kd_Lw_775 : decode code 775 = .ok (.goto 668, 3) := by decide +kernel
theorem kd_Lw_778 : decode code 778 = .ok (.aload_n 1, 1) := by decide +kernel
theorem kd_Lw_779 : decode code 779 = .ok (.aload_n 0, 1) := by decide +kernel
theorem kd_Lw_780 : decode code 780 = .ok (.iload 4, 2) := by decide +kernel
theorem kd_Lw_782 : decode code 782 = .ok (.iconst 1, 1) := by decide +kernel
theorem kd_Lw_783 : decode code 783 = .ok (.iadd, 1) := by decide +kernel
theorem kd_Lw_784 : decode code 784 = .ok (.iaload, 1) := by decide +kernel
theorem kd_Lw_785 : decode code 785 = .ok (.aload_n 0, 1) := by decide +kernel
theorem kd_Lw_786 : decode code 786 = .ok (.iload 4, 2) := by decide +kernel
theorem kd_Lw_788 : decode code 788 = .ok (.iconst 2, 1) := by decide +kernel
theorem kd_Lw_789 : decode code 789 = .ok (.iadd, 1) := by decide +kernel
theorem kd_Lw_790 : decode code 790 = .ok (.iaload, 1) := by decide +kernel
theorem kd_Lw_791 : decode code 791 = .ok (.aload_n 0, 1) := by decide +kernel
theorem kd_Lw_792 : decode code 792 = .ok (.iload 4, 2) := by decide +kernel
theorem kd_Lw_794 : decode code 794 = .ok (.iconst 3, 1) := by decide +kernel
theorem kd_Lw_795 : decode code 795 = .ok (.iadd, 1) := by decide +kernel
theorem kd_Lw_796 : decode code 796 = .ok (.iaload, 1) := by decide +kernel
theorem kd_Lw_797 : decode code 797 = .ok (.aload_n 3, 1) := by decide +kernel
theorem kd_Lw_798 : decode code 798 = .ok (.invokestatic 129, 3) := by decide +kernel
theorem kd_Lw_801 : decode code 801 = .ok (.istore 5, 2) := by decide +kernel
theorem kd_Lw_803 : decode code 803 = .ok (.aload_n 2, 1) := by decide +kernel
theorem kd_Lw_804 : decode code 804 = .ok (.aload_n 0, 1) := by decide +kernel
theorem kd_Lw_805 : decode code 805 = .ok (.iload 4, 2) := by decide +kernel
theorem kd_Lw_807 : decode code 807 = .ok (.iconst 1, 1) := by decide +kernel
theorem kd_Lw_808 : decode code 808 = .ok (.iadd, 1) := by decide +kernel
theorem kd_Lw_809 : decode code 809 = .ok (.iaload, 1) := by decide +kernel
theorem kd_Lw_810 : decode code 810 = .ok (.aload_n 0, 1) := by decide +kernel
theorem kd_Lw_811 : decode code 811 = .ok (.iload 4, 2) := by decide +kernel
theorem kd_Lw_813 : decode code 813 = .ok (.iconst 2, 1) := by decide +kernel
theorem kd_Lw_814 : decode code 814 = .ok (.iadd, 1) := by decide +kernel
theorem kd_Lw_815 : decode code 815 = .ok (.iaload, 1) := by decide +kernel
theorem kd_Lw_816 : decode code 816 = .ok (.aload_n 0, 1) := by decide +kernel
theorem kd_Lw_817 : decode code 817 = .ok (.iload 4, 2) := by decide +kernel
theorem kd_Lw_819 : decode code 819 = .ok (.iconst 3, 1) := by decide +kernel
theorem kd_Lw_820 : decode code 820 = .ok (.iadd, 1) := by decide +kernel
theorem kd_Lw_821 : decode code 821 = .ok (.iaload, 1) := by decide +kernel
theorem kd_Lw_822 : decode code 822 = .ok (.invokevirtual 131, 3) := by decide +kernel
theorem kd_Lw_825 : decode code 825 = .ok (.istore 6, 2) := by decide +kernel
theorem kd_Lw_827 : decode code 827 = .ok (.aload_n 2, 1) := by decide +kernel
theorem kd_Lw_828 : decode code 828 = .ok (.invokevirtual 95, 3) := by decide +kernel
theorem kd_Lw_831 : decode code 831 = .ok (.iload 5, 2) := by decide +kernel
theorem kd_Lw_833 : decode code 833 = .ok (.if_icmp .eq 5, 3) := by decide +kernel
theorem kd_Lw_836 : decode code 836 = .ok (.iconst 0, 1) := by decide +kernel
theorem kd_Lw_837 : decode code 837 = .ok (.ireturn, 1) := by decide +kernel
theorem kd_Lw_838 : decode code 838 = .ok (.iload 5, 2) := by decide +kernel
theorem kd_Lw_840 : decode code 840 = .ok (.ifCond .ne 22, 3) := by decide +kernel
theorem kd_Lw_843 : decode code 843 = .ok (.aload_n 3, 1) := by decide +kernel
theorem kd_Lw_844 : decode code 844 = .ok (.iconst 0, 1) := by decide +kernel
theorem kd_Lw_845 : decode code 845 = .ok (.laload, 1) := by decide +kernel
theorem kd_Lw_846 : decode code 846 = .ok (.iload 6, 2) := by decide +kernel
theorem kd_Lw_848 : decode code 848 = .ok (.ifCond .eq 7, 3) := by decide +kernel
theorem kd_Lw_851 : decode code 851 = .ok (.lconst 1, 1) := by decide +kernel
theorem kd_Lw_852 : decode code 852 = .ok (.goto 4, 3) := by decide +kernel
theorem kd_Lw_855 : decode code 855 = .ok (.lconst 0, 1) := by decide +kernel
theorem kd_Lw_856 : decode code 856 = .ok (.lcmp, 1) := by decide +kernel
theorem kd_Lw_857 : decode code 857 = .ok (.ifCond .eq 5, 3) := by decide +kernel
theorem kd_Lw_860 : decode code 860 = .ok (.iconst 0, 1) := by decide +kernel
theorem kd_Lw_861 : decode code 861 = .ok (.ireturn, 1) := by decide +kernel
theorem kd_Lw_862 : decode code 862 = .ok (.goto 581, 3) := by decide +kernel
theorem kd_Lw_865 : decode code 865 = .ok (.aload_n 1, 1) := by decide +kernel
theorem kd_Lw_866 : decode code 866 = .ok (.aload_n 0, 1) := by decide +kernel
theorem kd_Lw_867 : decode code 867 = .ok (.iload 4, 2) := by decide +kernel
theorem kd_Lw_869 : decode code 869 = .ok (.iconst 1, 1) := by decide +kernel
theorem kd_Lw_870 : decode code 870 = .ok (.iadd, 1) := by decide +kernel
theorem kd_Lw_871 : decode code 871 = .ok (.iaload, 1) := by decide +kernel
theorem kd_Lw_872 : decode code 872 = .ok (.aload_n 0, 1) := by decide +kernel
theorem kd_Lw_873 : decode code 873 = .ok (.iload 4, 2) := by decide +kernel
theorem kd_Lw_875 : decode code 875 = .ok (.iconst 2, 1) := by decide +kernel
theorem kd_Lw_876 : decode code 876 = .ok (.iadd, 1) := by decide +kernel
theorem kd_Lw_877 : decode code 877 = .ok (.iaload, 1) := by decide +kernel
theorem kd_Lw_878 : decode code 878 = .ok (.aload_n 0, 1) := by decide +kernel
theorem kd_Lw_879 : decode code 879 = .ok (.iload 4, 2) := by decide +kernel
theorem kd_Lw_881 : decode code 881 = .ok (.iconst 3, 1) := by decide +kernel
theorem kd_Lw_882 : decode code 882 = .ok (.iadd, 1) := by decide +kernel
theorem kd_Lw_883 : decode code 883 = .ok (.iaload, 1) := by decide +kernel
theorem kd_Lw_884 : decode code 884 = .ok (.aload_n 0, 1) := by decide +kernel
theorem kd_Lw_885 : decode code 885 = .ok (.iload 4, 2) := by decide +kernel
theorem kd_Lw_887 : decode code 887 = .ok (.iconst 4, 1) := by decide +kernel
theorem kd_Lw_888 : decode code 888 = .ok (.iadd, 1) := by decide +kernel
theorem kd_Lw_889 : decode code 889 = .ok (.iaload, 1) := by decide +kernel
theorem kd_Lw_890 : decode code 890 = .ok (.aload_n 0, 1) := by decide +kernel
theorem kd_Lw_891 : decode code 891 = .ok (.iload 4, 2) := by decide +kernel
theorem kd_Lw_893 : decode code 893 = .ok (.iconst 5, 1) := by decide +kernel
theorem kd_Lw_894 : decode code 894 = .ok (.iadd, 1) := by decide +kernel
theorem kd_Lw_895 : decode code 895 = .ok (.iaload, 1) := by decide +kernel
theorem kd_Lw_896 : decode code 896 = .ok (.invokestatic 132, 3) := by decide +kernel
theorem kd_Lw_899 : decode code 899 = .ok (.istore 5, 2) := by decide +kernel
theorem kd_Lw_901 : decode code 901 = .ok (.aload_n 2, 1) := by decide +kernel
theorem kd_Lw_902 : decode code 902 = .ok (.aload_n 0, 1) := by decide +kernel
theorem kd_Lw_903 : decode code 903 = .ok (.iload 4, 2) := by decide +kernel
theorem kd_Lw_905 : decode code 905 = .ok (.iconst 1, 1) := by decide +kernel
theorem kd_Lw_906 : decode code 906 = .ok (.iadd, 1) := by decide +kernel
theorem kd_Lw_907 : decode code 907 = .ok (.iaload, 1) := by decide +kernel
theorem kd_Lw_908 : decode code 908 = .ok (.aload_n 0, 1) := by decide +kernel
theorem kd_Lw_909 : decode code 909 = .ok (.iload 4, 2) := by decide +kernel
theorem kd_Lw_911 : decode code 911 = .ok (.iconst 2, 1) := by decide +kernel
theorem kd_Lw_912 : decode code 912 = .ok (.iadd, 1) := by decide +kernel
theorem kd_Lw_913 : decode code 913 = .ok (.iaload, 1) := by decide +kernel
theorem kd_Lw_914 : decode code 914 = .ok (.aload_n 0, 1) := by decide +kernel
theorem kd_Lw_915 : decode code 915 = .ok (.iload 4, 2) := by decide +kernel
theorem kd_Lw_917 : decode code 917 = .ok (.iconst 3, 1) := by decide +kernel
theorem kd_Lw_918 : decode code 918 = .ok (.iadd, 1) := by decide +kernel
theorem kd_Lw_919 : decode code 919 = .ok (.iaload, 1) := by decide +kernel
theorem kd_Lw_920 : decode code 920 = .ok (.aload_n 0, 1) := by decide +kernel
theorem kd_Lw_921 : decode code 921 = .ok (.iload 4, 2) := by decide +kernel
theorem kd_Lw_923 : decode code 923 = .ok (.iconst 4, 1) := by decide +kernel
theorem kd_Lw_924 : decode code 924 = .ok (.iadd, 1) := by decide +kernel
theorem kd_Lw_925 : decode code 925 = .ok (.iaload, 1) := by decide +kernel
theorem kd_Lw_926 : decode code 926 = .ok (.aload_n 0, 1) := by decide +kernel
theorem kd_Lw_927 : decode code 927 = .ok (.iload 4, 2) := by decide +kernel
theorem kd_Lw_929 : decode code 929 = .ok (.iconst 5, 1) := by decide +kernel
theorem kd_Lw_930 : decode code 930 = .ok (.iadd, 1) := by decide +kernel
theorem kd_Lw_931 : decode code 931 = .ok (.iaload, 1) := by decide +kernel
theorem kd_Lw_932 : decode code 932 = .ok (.invokevirtual 135, 3) := by decide +kernel
theorem kd_Lw_935 : decode code 935 = .ok (.aload_n 2, 1) := by decide +kernel
theorem kd_Lw_936 : decode code 936 = .ok (.invokevirtual 95, 3) := by decide +kernel
theorem kd_Lw_939 : decode code 939 = .ok (.iload 5, 2) := by decide +kernel
theorem kd_Lw_941 : decode code 941 = .ok (.if_icmp .eq 5, 3) := by decide +kernel
theorem kd_Lw_944 : decode code 944 = .ok (.iconst 0, 1) := by decide +kernel
theorem kd_Lw_945 : decode code 945 = .ok (.ireturn, 1) := by decide +kernel
theorem kd_Lw_946 : decode code 946 = .ok (.goto 497, 3) := by decide +kernel
theorem kd_Lw_949 : decode code 949 = .ok (.aload_n 1, 1) := by decide +kernel
theorem kd_Lw_950 : decode code 950 = .ok (.aload_n 0, 1) := by decide +kernel
theorem kd_Lw_951 : decode code 951 = .ok (.iload 4, 2) := by decide +kernel
theorem kd_Lw_953 : decode code 953 = .ok (.iconst 1, 1) := by decide +kernel
theorem kd_Lw_954 : decode code 954 = .ok (.iadd, 1) := by decide +kernel
theorem kd_Lw_955 : decode code 955 = .ok (.iaload, 1) := by decide +kernel
theorem kd_Lw_956 : decode code 956 = .ok (.aload_n 0, 1) := by decide +kernel
theorem kd_Lw_957 : decode code 957 = .ok (.iload 4, 2) := by decide +kernel
theorem kd_Lw_959 : decode code 959 = .ok (.iconst 2, 1) := by decide +kernel
theorem kd_Lw_960 : decode code 960 = .ok (.iadd, 1) := by decide +kernel
theorem kd_Lw_961 : decode code 961 = .ok (.iaload, 1) := by decide +kernel
theorem kd_Lw_962 : decode code 962 = .ok (.invokestatic 136, 3) := by decide +kernel
theorem kd_Lw_965 : decode code 965 = .ok (.istore 5, 2) := by decide +kernel
theorem kd_Lw_967 : decode code 967 = .ok (.aload_n 2, 1) := by decide +kernel
theorem kd_Lw_968 : decode code 968 = .ok (.aload_n 0, 1) := by decide +kernel
theorem kd_Lw_969 : decode code 969 = .ok (.iload 4, 2) := by decide +kernel
theorem kd_Lw_971 : decode code 971 = .ok (.iconst 1, 1) := by decide +kernel
theorem kd_Lw_972 : decode code 972 = .ok (.iadd, 1) := by decide +kernel
theorem kd_Lw_973 : decode code 973 = .ok (.iaload, 1) := by decide +kernel
theorem kd_Lw_974 : decode code 974 = .ok (.aload_n 0, 1) := by decide +kernel
theorem kd_Lw_975 : decode code 975 = .ok (.iload 4, 2) := by decide +kernel
theorem kd_Lw_977 : decode code 977 = .ok (.iconst 2, 1) := by decide +kernel
theorem kd_Lw_978 : decode code 978 = .ok (.iadd, 1) := by decide +kernel
theorem kd_Lw_979 : decode code 979 = .ok (.iaload, 1) := by decide +kernel
theorem kd_Lw_980 : decode code 980 = .ok (.invokevirtual 138, 3) := by decide +kernel
theorem kd_Lw_983 : decode code 983 = .ok (.aload_n 2, 1) := by decide +kernel
theorem kd_Lw_984 : decode code 984 = .ok (.invokevirtual 95, 3) := by decide +kernel
theorem kd_Lw_987 : decode code 987 = .ok (.iload 5, 2) := by decide +kernel
theorem kd_Lw_989 : decode code 989 = .ok (.if_icmp .eq 5, 3) := by decide +kernel
theorem kd_Lw_992 : decode code 992 = .ok (.iconst 0, 1) := by decide +kernel
theorem kd_Lw_993 : decode code 993 = .ok (.ireturn, 1) := by decide +kernel
theorem kd_Lw_994 : decode code 994 = .ok (.goto 449, 3) := by decide +kernel
theorem kd_Lw_997 : decode code 997 = .ok (.aload_n 1, 1) := by decide +kernel
theorem kd_Lw_998 : decode code 998 = .ok (.aload_n 0, 1) := by decide +kernel
theorem kd_Lw_999 : decode code 999 = .ok (.iload 4, 2) := by decide +kernel
theorem kd_Lw_1001 : decode code 1001 = .ok (.iconst 1, 1) := by decide +kernel
theorem kd_Lw_1002 : decode code 1002 = .ok (.iadd, 1) := by decide +kernel
theorem kd_Lw_1003 : decode code 1003 = .ok (.iaload, 1) := by decide +kernel
theorem kd_Lw_1004 : decode code 1004 = .ok (.aload_n 0, 1) := by decide +kernel
theorem kd_Lw_1005 : decode code 1005 = .ok (.iload 4, 2) := by decide +kernel
theorem kd_Lw_1007 : decode code 1007 = .ok (.iconst 2, 1) := by decide +kernel
theorem kd_Lw_1008 : decode code 1008 = .ok (.iadd, 1) := by decide +kernel
theorem kd_Lw_1009 : decode code 1009 = .ok (.iaload, 1) := by decide +kernel
theorem kd_Lw_1010 : decode code 1010 = .ok (.aload_n 0, 1) := by decide +kernel
theorem kd_Lw_1011 : decode code 1011 = .ok (.iload 4, 2) := by decide +kernel
theorem kd_Lw_1013 : decode code 1013 = .ok (.iconst 3, 1) := by decide +kernel
theorem kd_Lw_1014 : decode code 1014 = .ok (.iadd, 1) := by decide +kernel
theorem kd_Lw_1015 : decode code 1015 = .ok (.iaload, 1) := by decide +kernel
theorem kd_Lw_1016 : decode code 1016 = .ok (.aload_n 0, 1) := by decide +kernel
theorem kd_Lw_1017 : decode code 1017 = .ok (.iload 4, 2) := by decide +kernel
theorem kd_Lw_1019 : decode code 1019 = .ok (.iconst 4, 1) := by decide +kernel
theorem kd_Lw_1020 : decode code 1020 = .ok (.iadd, 1) := by decide +kernel
theorem kd_Lw_1021 : decode code 1021 = .ok (.iaload, 1) := by decide +kernel
theorem kd_Lw_1022 : decode code 1022 = .ok (.ifCond .eq 7, 3) := by decide +kernel
theorem kd_Lw_1025 : decode code 1025 = .ok (.iconst 1, 1) := by decide +kernel
theorem kd_Lw_1026 : decode code 1026 = .ok (.goto 4, 3) := by decide +kernel
theorem kd_Lw_1029 : decode code 1029 = .ok (.iconst 0, 1) := by decide +kernel
theorem kd_Lw_1030 : decode code 1030 = .ok (.aload_n 3, 1) := by decide +kernel
theorem kd_Lw_1031 : decode code 1031 = .ok (.invokestatic 139, 3) := by decide +kernel
theorem kd_Lw_1034 : decode code 1034 = .ok (.istore 5, 2) := by decide +kernel
theorem kd_Lw_1036 : decode code 1036 = .ok (.aload_n 2, 1) := by decide +kernel
theorem kd_Lw_1037 : decode code 1037 = .ok (.aload_n 0, 1) := by decide +kernel
theorem kd_Lw_1038 : decode code 1038 = .ok (.iload 4, 2) := by decide +kernel
theorem kd_Lw_1040 : decode code 1040 = .ok (.iconst 1, 1) := by decide +kernel
theorem kd_Lw_1041 : decode code 1041 = .ok (.iadd, 1) := by decide +kernel
theorem kd_Lw_1042 : decode code 1042 = .ok (.iaload, 1) := by decide +kernel
theorem kd_Lw_1043 : decode code 1043 = .ok (.aload_n 0, 1) := by decide +kernel
theorem kd_Lw_1044 : decode code 1044 = .ok (.iload 4, 2) := by decide +kernel
theorem kd_Lw_1046 : decode code 1046 = .ok (.iconst 2, 1) := by decide +kernel
theorem kd_Lw_1047 : decode code 1047 = .ok (.iadd, 1) := by decide +kernel
theorem kd_Lw_1048 : decode code 1048 = .ok (.iaload, 1) := by decide +kernel
theorem kd_Lw_1049 : decode code 1049 = .ok (.aload_n 0, 1) := by decide +kernel
theorem kd_Lw_1050 : decode code 1050 = .ok (.iload 4, 2) := by decide +kernel
theorem kd_Lw_1052 : decode code 1052 = .ok (.iconst 3, 1) := by decide +kernel
theorem kd_Lw_1053 : decode code 1053 = .ok (.iadd, 1) := by decide +kernel
theorem kd_Lw_1054 : decode code 1054 = .ok (.iaload, 1) := by decide +kernel
theorem kd_Lw_1055 : decode code 1055 = .ok (.aload_n 0, 1) := by decide +kernel
theorem kd_Lw_1056 : decode code 1056 = .ok (.iload 4, 2) := by decide +kernel
theorem kd_Lw_1058 : decode code 1058 = .ok (.iconst 4, 1) := by decide +kernel
theorem kd_Lw_1059 : decode code 1059 = .ok (.iadd, 1) := by decide +kernel
theorem kd_Lw_1060 : decode code 1060 = .ok (.iaload, 1) := by decide +kernel
theorem kd_Lw_1061 : decode code 1061 = .ok (.ifCond .eq 7, 3) := by decide +kernel
theorem kd_Lw_1064 : decode code 1064 = .ok (.iconst 1, 1) := by decide +kernel
theorem kd_Lw_1065 : decode code 1065 = .ok (.goto 4, 3) := by decide +kernel
theorem kd_Lw_1068 : decode code 1068 = .ok (.iconst 0, 1) := by decide +kernel
theorem kd_Lw_1069 : decode code 1069 = .ok (.invokevirtual 142, 3) := by decide +kernel
theorem kd_Lw_1072 : decode code 1072 = .ok (.istore 6, 2) := by decide +kernel
theorem kd_Lw_1074 : decode code 1074 = .ok (.aload_n 2, 1) := by decide +kernel
theorem kd_Lw_1075 : decode code 1075 = .ok (.invokevirtual 95, 3) := by decide +kernel
theorem kd_Lw_1078 : decode code 1078 = .ok (.iload 5, 2) := by decide +kernel
theorem kd_Lw_1080 : decode code 1080 = .ok (.if_icmp .eq 5, 3) := by decide +kernel
theorem kd_Lw_1083 : decode code 1083 = .ok (.iconst 0, 1) := by decide +kernel
theorem kd_Lw_1084 : decode code 1084 = .ok (.ireturn, 1) := by decide +kernel
theorem kd_Lw_1085 : decode code 1085 = .ok (.iload 5, 2) := by decide +kernel
theorem kd_Lw_1087 : decode code 1087 = .ok (.ifCond .ne 22, 3) := by decide +kernel
theorem kd_Lw_1090 : decode code 1090 = .ok (.aload_n 3, 1) := by decide +kernel
theorem kd_Lw_1091 : decode code 1091 = .ok (.iconst 0, 1) := by decide +kernel
theorem kd_Lw_1092 : decode code 1092 = .ok (.laload, 1) := by decide +kernel
theorem kd_Lw_1093 : decode code 1093 = .ok (.iload 6, 2) := by decide +kernel
theorem kd_Lw_1095 : decode code 1095 = .ok (.ifCond .eq 7, 3) := by decide +kernel
theorem kd_Lw_1098 : decode code 1098 = .ok (.lconst 1, 1) := by decide +kernel
theorem kd_Lw_1099 : decode code 1099 = .ok (.goto 4, 3) := by decide +kernel
theorem kd_Lw_1102 : decode code 1102 = .ok (.lconst 0, 1) := by decide +kernel
theorem kd_Lw_1103 : decode code 1103 = .ok (.lcmp, 1) := by decide +kernel
theorem kd_Lw_1104 : decode code 1104 = .ok (.ifCond .eq 5, 3) := by decide +kernel
theorem kd_Lw_1107 : decode code 1107 = .ok (.iconst 0, 1) := by decide +kernel
theorem kd_Lw_1108 : decode code 1108 = .ok (.ireturn, 1) := by decide +kernel
theorem kd_Lw_1109 : decode code 1109 = .ok (.goto 334, 3) := by decide +kernel
theorem kd_Lw_1112 : decode code 1112 = .ok (.aload_n 1, 1) := by decide +kernel
theorem kd_Lw_1113 : decode code 1113 = .ok (.aload_n 0, 1) := by decide +kernel
theorem kd_Lw_1114 : decode code 1114 = .ok (.iload 4, 2) := by decide +kernel
theorem kd_Lw_1116 : decode code 1116 = .ok (.iconst 1, 1) := by decide +kernel
theorem kd_Lw_1117 : decode code 1117 = .ok (.iadd, 1) := by decide +kernel
theorem kd_Lw_1118 : decode code 1118 = .ok (.iaload, 1) := by decide +kernel
theorem kd_Lw_1119 : decode code 1119 = .ok (.aload_n 0, 1) := by decide +kernel
theorem kd_Lw_1120 : decode code 1120 = .ok (.iload 4, 2) := by decide +kernel
theorem kd_Lw_1122 : decode code 1122 = .ok (.iconst 2, 1) := by decide +kernel
theorem kd_Lw_1123 : decode code 1123 = .ok (.iadd, 1) := by decide +kernel
theorem kd_Lw_1124 : decode code 1124 = .ok (.iaload, 1) := by decide +kernel
theorem kd_Lw_1125 : decode code 1125 = .ok (.aload_n 3, 1) := by decide +kernel
theorem kd_Lw_1126 : decode code 1126 = .ok (.invokestatic 143, 3) := by decide +kernel
theorem kd_Lw_1129 : decode code 1129 = .ok (.istore 5, 2) := by decide +kernel
theorem kd_Lw_1131 : decode code 1131 = .ok (.aload_n 2, 1) := by decide +kernel
theorem kd_Lw_1132 : decode code 1132 = .ok (.aload_n 0, 1) := by decide +kernel
theorem kd_Lw_1133 : decode code 1133 = .ok (.iload 4, 2) := by decide +kernel
theorem kd_Lw_1135 : decode code 1135 = .ok (.iconst 1, 1) := by decide +kernel
theorem kd_Lw_1136 : decode code 1136 = .ok (.iadd, 1) := by decide +kernel
theorem kd_Lw_1137 : decode code 1137 = .ok (.iaload, 1) := by decide +kernel
theorem kd_Lw_1138 : decode code 1138 = .ok (.aload_n 0, 1) := by decide +kernel
theorem kd_Lw_1139 : decode code 1139 = .ok (.iload 4, 2) := by decide +kernel
theorem kd_Lw_1141 : decode code 1141 = .ok (.iconst 2, 1) := by decide +kernel
theorem kd_Lw_1142 : decode code 1142 = .ok (.iadd, 1) := by decide +kernel
theorem kd_Lw_1143 : decode code 1143 = .ok (.iaload, 1) := by decide +kernel
theorem kd_Lw_1144 : decode code 1144 = .ok (.invokevirtual 145, 3) := by decide +kernel
theorem kd_Lw_1147 : decode code 1147 = .ok (.istore 6, 2) := by decide +kernel
theorem kd_Lw_1149 : decode code 1149 = .ok (.aload_n 2, 1) := by decide +kernel
theorem kd_Lw_1150 : decode code 1150 = .ok (.invokevirtual 95, 3) := by decide +kernel
theorem kd_Lw_1153 : decode code 1153 = .ok (.iload 5, 2) := by decide +kernel
theorem kd_Lw_1155 : decode code 1155 = .ok (.if_icmp .eq 5, 3) := by decide +kernel
theorem kd_Lw_1158 : decode code 1158 = .ok (.iconst 0, 1) := by decide +kernel
theorem kd_Lw_1159 : decode code 1159 = .ok (.ireturn, 1) := by decide +kernel
theorem kd_Lw_1160 : decode code 1160 = .ok (.iload 5, 2) := by decide +kernel
theorem kd_Lw_1162 : decode code 1162 = .ok (.ifCond .ne 15, 3) := by decide +kernel
theorem kd_Lw_1165 : decode code 1165 = .ok (.aload_n 3, 1) := by decide +kernel
theorem kd_Lw_1166 : decode code 1166 = .ok (.iconst 0, 1) := by decide +kernel
theorem kd_Lw_1167 : decode code 1167 = .ok (.laload, 1) := by decide +kernel
theorem kd_Lw_1168 : decode code 1168 = .ok (.iload 6, 2) := by decide +kernel
theorem kd_Lw_1170 : decode code 1170 = .ok (.i2l, 1) := by decide +kernel
theorem kd_Lw_1171 : decode code 1171 = .ok (.lcmp, 1) := by decide +kernel
theorem kd_Lw_1172 : decode code 1172 = .ok (.ifCond .eq 5, 3) := by decide +kernel
theorem kd_Lw_1175 : decode code 1175 = .ok (.iconst 0, 1) := by decide +kernel
theorem kd_Lw_1176 : decode code 1176 = .ok (.ireturn, 1) := by decide +kernel
theorem kd_Lw_1177 : decode code 1177 = .ok (.goto 266, 3) := by decide +kernel
theorem kd_Lw_1180 : decode code 1180 = .ok (.aload_n 1, 1) := by decide +kernel
theorem kd_Lw_1181 : decode code 1181 = .ok (.aload_n 0, 1) := by decide +kernel
theorem kd_Lw_1182 : decode code 1182 = .ok (.iload 4, 2) := by decide +kernel
theorem kd_Lw_1184 : decode code 1184 = .ok (.iconst 1, 1) := by decide +kernel
theorem kd_Lw_1185 : decode code 1185 = .ok (.iadd, 1) := by decide +kernel
theorem kd_Lw_1186 : decode code 1186 = .ok (.iaload, 1) := by decide +kernel
theorem kd_Lw_1187 : decode code 1187 = .ok (.aload_n 0, 1) := by decide +kernel
theorem kd_Lw_1188 : decode code 1188 = .ok (.iload 4, 2) := by decide +kernel
theorem kd_Lw_1190 : decode code 1190 = .ok (.iconst 2, 1) := by decide +kernel
theorem kd_Lw_1191 : decode code 1191 = .ok (.iadd, 1) := by decide +kernel
theorem kd_Lw_1192 : decode code 1192 = .ok (.iaload, 1) := by decide +kernel
theorem kd_Lw_1193 : decode code 1193 = .ok (.invokestatic 146, 3) := by decide +kernel
theorem kd_Lw_1196 : decode code 1196 = .ok (.istore 5, 2) := by decide +kernel
theorem kd_Lw_1198 : decode code 1198 = .ok (.aload_n 2, 1) := by decide +kernel
theorem kd_Lw_1199 : decode code 1199 = .ok (.aload_n 0, 1) := by decide +kernel
theorem kd_Lw_1200 : decode code 1200 = .ok (.iload 4, 2) := by decide +kernel
theorem kd_Lw_1202 : decode code 1202 = .ok (.iconst 1, 1) := by decide +kernel
theorem kd_Lw_1203 : decode code 1203 = .ok (.iadd, 1) := by decide +kernel
theorem kd_Lw_1204 : decode code 1204 = .ok (.iaload, 1) := by decide +kernel
theorem kd_Lw_1205 : decode code 1205 = .ok (.aload_n 0, 1) := by decide +kernel
theorem kd_Lw_1206 : decode code 1206 = .ok (.iload 4, 2) := by decide +kernel
theorem kd_Lw_1208 : decode code 1208 = .ok (.iconst 2, 1) := by decide +kernel
theorem kd_Lw_1209 : decode code 1209 = .ok (.iadd, 1) := by decide +kernel
theorem kd_Lw_1210 : decode code 1210 = .ok (.iaload, 1) := by decide +kernel
theorem kd_Lw_1211 : decode code 1211 = .ok (.invokevirtual 148, 3) := by decide +kernel
theorem kd_Lw_1214 : decode code 1214 = .ok (.aload_n 2, 1) := by decide +kernel
theorem kd_Lw_1215 : decode code 1215 = .ok (.invokevirtual 95, 3) := by decide +kernel
theorem kd_Lw_1218 : decode code 1218 = .ok (.iload 5, 2) := by decide +kernel
theorem kd_Lw_1220 : decode code 1220 = .ok (.if_icmp .eq 5, 3) := by decide +kernel
theorem kd_Lw_1223 : decode code 1223 = .ok (.iconst 0, 1) := by decide +kernel
theorem kd_Lw_1224 : decode code 1224 = .ok (.ireturn, 1) := by decide +kernel
theorem kd_Lw_1225 : decode code 1225 = .ok (.goto 218, 3) := by decide +kernel
theorem kd_Lw_1228 : decode code 1228 = .ok (.aload_n 1, 1) := by decide +kernel
theorem kd_Lw_1229 : decode code 1229 = .ok (.aload_n 0, 1) := by decide +kernel
theorem kd_Lw_1230 : decode code 1230 = .ok (.iload 4, 2) := by decide +kernel
theorem kd_Lw_1232 : decode code 1232 = .ok (.iconst 1, 1) := by decide +kernel
theorem kd_Lw_1233 : decode code 1233 = .ok (.iadd, 1) := by decide +kernel
theorem kd_Lw_1234 : decode code 1234 = .ok (.iaload, 1) := by decide +kernel
theorem kd_Lw_1235 : decode code 1235 = .ok (.aload_n 0, 1) := by decide +kernel
theorem kd_Lw_1236 : decode code 1236 = .ok (.iload 4, 2) := by decide +kernel
theorem kd_Lw_1238 : decode code 1238 = .ok (.iconst 2, 1) := by decide +kernel
theorem kd_Lw_1239 : decode code 1239 = .ok (.iadd, 1) := by decide +kernel
theorem kd_Lw_1240 : decode code 1240 = .ok (.iaload, 1) := by decide +kernel
theorem kd_Lw_1241 : decode code 1241 = .ok (.aload_n 3, 1) := by decide +kernel
theorem kd_Lw_1242 : decode code 1242 = .ok (.invokestatic 149, 3) := by decide +kernel
theorem kd_Lw_1245 : decode code 1245 = .ok (.istore 5, 2) := by decide +kernel
theorem kd_Lw_1247 : decode code 1247 = .ok (.aload_n 2, 1) := by decide +kernel
theorem kd_Lw_1248 : decode code 1248 = .ok (.aload_n 0, 1) := by decide +kernel
theorem kd_Lw_1249 : decode code 1249 = .ok (.iload 4, 2) := by decide +kernel
theorem kd_Lw_1251 : decode code 1251 = .ok (.iconst 1, 1) := by decide +kernel
theorem kd_Lw_1252 : decode code 1252 = .ok (.iadd, 1) := by decide +kernel
theorem kd_Lw_1253 : decode code 1253 = .ok (.iaload, 1) := by decide +kernel
theorem kd_Lw_1254 : decode code 1254 = .ok (.aload_n 0, 1) := by decide +kernel
theorem kd_Lw_1255 : decode code 1255 = .ok (.iload 4, 2) := by decide +kernel
theorem kd_Lw_1257 : decode code 1257 = .ok (.iconst 2, 1) := by decide +kernel
theorem kd_Lw_1258 : decode code 1258 = .ok (.iadd, 1) := by decide +kernel
theorem kd_Lw_1259 : decode code 1259 = .ok (.iaload, 1) := by decide +kernel
theorem kd_Lw_1260 : decode code 1260 = .ok (.invokevirtual 151, 3) := by decide +kernel
theorem kd_Lw_1263 : decode code 1263 = .ok (.istore 6, 2) := by decide +kernel
theorem kd_Lw_1265 : decode code 1265 = .ok (.aload_n 2, 1) := by decide +kernel
theorem kd_Lw_1266 : decode code 1266 = .ok (.invokevirtual 95, 3) := by decide +kernel
theorem kd_Lw_1269 : decode code 1269 = .ok (.iload 5, 2) := by decide +kernel
theorem kd_Lw_1271 : decode code 1271 = .ok (.if_icmp .eq 5, 3) := by decide +kernel
theorem kd_Lw_1274 : decode code 1274 = .ok (.iconst 0, 1) := by decide +kernel
theorem kd_Lw_1275 : decode code 1275 = .ok (.ireturn, 1) := by decide +kernel
theorem kd_Lw_1276 : decode code 1276 = .ok (.iload 5, 2) := by decide +kernel
theorem kd_Lw_1278 : decode code 1278 = .ok (.ifCond .ne 15, 3) := by decide +kernel
theorem kd_Lw_1281 : decode code 1281 = .ok (.aload_n 3, 1) := by decide +kernel
theorem kd_Lw_1282 : decode code 1282 = .ok (.iconst 0, 1) := by decide +kernel
theorem kd_Lw_1283 : decode code 1283 = .ok (.laload, 1) := by decide +kernel
theorem kd_Lw_1284 : decode code 1284 = .ok (.iload 6, 2) := by decide +kernel
theorem kd_Lw_1286 : decode code 1286 = .ok (.i2l, 1) := by decide +kernel
theorem kd_Lw_1287 : decode code 1287 = .ok (.lcmp, 1) := by decide +kernel
theorem kd_Lw_1288 : decode code 1288 = .ok (.ifCond .eq 5, 3) := by decide +kernel
theorem kd_Lw_1291 : decode code 1291 = .ok (.iconst 0, 1) := by decide +kernel
theorem kd_Lw_1292 : decode code 1292 = .ok (.ireturn, 1) := by decide +kernel
theorem kd_Lw_1293 : decode code 1293 = .ok (.goto 150, 3) := by decide +kernel
theorem kd_Lw_1296 : decode code 1296 = .ok (.aload_n 1, 1) := by decide +kernel
theorem kd_Lw_1297 : decode code 1297 = .ok (.aload_n 0, 1) := by decide +kernel
theorem kd_Lw_1298 : decode code 1298 = .ok (.iload 4, 2) := by decide +kernel
theorem kd_Lw_1300 : decode code 1300 = .ok (.iconst 1, 1) := by decide +kernel
theorem kd_Lw_1301 : decode code 1301 = .ok (.iadd, 1) := by decide +kernel
theorem kd_Lw_1302 : decode code 1302 = .ok (.iaload, 1) := by decide +kernel
theorem kd_Lw_1303 : decode code 1303 = .ok (.aload_n 0, 1) := by decide +kernel
theorem kd_Lw_1304 : decode code 1304 = .ok (.iload 4, 2) := by decide +kernel
theorem kd_Lw_1306 : decode code 1306 = .ok (.iconst 2, 1) := by decide +kernel
theorem kd_Lw_1307 : decode code 1307 = .ok (.iadd, 1) := by decide +kernel
theorem kd_Lw_1308 : decode code 1308 = .ok (.iaload, 1) := by decide +kernel
theorem kd_Lw_1309 : decode code 1309 = .ok (.aload_n 3, 1) := by decide +kernel
theorem kd_Lw_1310 : decode code 1310 = .ok (.invokestatic 152, 3) := by decide +kernel
theorem kd_Lw_1313 : decode code 1313 = .ok (.istore 5, 2) := by decide +kernel
theorem kd_Lw_1315 : decode code 1315 = .ok (.aload_n 2, 1) := by decide +kernel
theorem kd_Lw_1316 : decode code 1316 = .ok (.aload_n 0, 1) := by decide +kernel
theorem kd_Lw_1317 : decode code 1317 = .ok (.iload 4, 2) := by decide +kernel
theorem kd_Lw_1319 : decode code 1319 = .ok (.iconst 1, 1) := by decide +kernel
theorem kd_Lw_1320 : decode code 1320 = .ok (.iadd, 1) := by decide +kernel
theorem kd_Lw_1321 : decode code 1321 = .ok (.iaload, 1) := by decide +kernel
theorem kd_Lw_1322 : decode code 1322 = .ok (.aload_n 0, 1) := by decide +kernel
theorem kd_Lw_1323 : decode code 1323 = .ok (.iload 4, 2) := by decide +kernel
theorem kd_Lw_1325 : decode code 1325 = .ok (.iconst 2, 1) := by decide +kernel
theorem kd_Lw_1326 : decode code 1326 = .ok (.iadd, 1) := by decide +kernel
theorem kd_Lw_1327 : decode code 1327 = .ok (.iaload, 1) := by decide +kernel
theorem kd_Lw_1328 : decode code 1328 = .ok (.invokevirtual 154, 3) := by decide +kernel
theorem kd_Lw_1331 : decode code 1331 = .ok (.lstore 6, 2) := by decide +kernel
theorem kd_Lw_1333 : decode code 1333 = .ok (.aload_n 2, 1) := by decide +kernel
theorem kd_Lw_1334 : decode code 1334 = .ok (.invokevirtual 95, 3) := by decide +kernel
theorem kd_Lw_1337 : decode code 1337 = .ok (.iload 5, 2) := by decide +kernel
theorem kd_Lw_1339 : decode code 1339 = .ok (.if_icmp .eq 5, 3) := by decide +kernel
theorem kd_Lw_1342 : decode code 1342 = .ok (.iconst 0, 1) := by decide +kernel
theorem kd_Lw_1343 : decode code 1343 = .ok (.ireturn, 1) := by decide +kernel
theorem kd_Lw_1344 : decode code 1344 = .ok (.iload 5, 2) := by decide +kernel
theorem kd_Lw_1346 : decode code 1346 = .ok (.ifCond .ne 14, 3) := by decide +kernel
theorem kd_Lw_1349 : decode code 1349 = .ok (.aload_n 3, 1) := by decide +kernel
theorem kd_Lw_1350 : decode code 1350 = .ok (.iconst 0, 1) := by decide +kernel
theorem kd_Lw_1351 : decode code 1351 = .ok (.laload, 1) := by decide +kernel
theorem kd_Lw_1352 : decode code 1352 = .ok (.lload 6, 2) := by decide +kernel
theorem kd_Lw_1354 : decode code 1354 = .ok (.lcmp, 1) := by decide +kernel
theorem kd_Lw_1355 : decode code 1355 = .ok (.ifCond .eq 5, 3) := by decide +kernel
theorem kd_Lw_1358 : decode code 1358 = .ok (.iconst 0, 1) := by decide +kernel
theorem kd_Lw_1359 : decode code 1359 = .ok (.ireturn, 1) := by decide +kernel
theorem kd_Lw_1360 : decode code 1360 = .ok (.goto 83, 3) := by decide +kernel
theorem kd_Lw_1363 : decode code 1363 = .ok (.aload_n 1, 1) := by decide +kernel
theorem kd_Lw_1364 : decode code 1364 = .ok (.aload_n 0, 1) := by decide +kernel
theorem kd_Lw_1365 : decode code 1365 = .ok (.iload 4, 2) := by decide +kernel
theorem kd_Lw_1367 : decode code 1367 = .ok (.iconst 1, 1) := by decide +kernel
theorem kd_Lw_1368 : decode code 1368 = .ok (.iadd, 1) := by decide +kernel
theorem kd_Lw_1369 : decode code 1369 = .ok (.iaload, 1) := by decide +kernel
theorem kd_Lw_1370 : decode code 1370 = .ok (.aload_n 0, 1) := by decide +kernel
theorem kd_Lw_1371 : decode code 1371 = .ok (.iload 4, 2) := by decide +kernel
theorem kd_Lw_1373 : decode code 1373 = .ok (.iconst 2, 1) := by decide +kernel
theorem kd_Lw_1374 : decode code 1374 = .ok (.iadd, 1) := by decide +kernel
theorem kd_Lw_1375 : decode code 1375 = .ok (.iaload, 1) := by decide +kernel
theorem kd_Lw_1376 : decode code 1376 = .ok (.aload_n 0, 1) := by decide +kernel
theorem kd_Lw_1377 : decode code 1377 = .ok (.iload 4, 2) := by decide +kernel
theorem kd_Lw_1379 : decode code 1379 = .ok (.iconst 3, 1) := by decide +kernel
theorem kd_Lw_1380 : decode code 1380 = .ok (.iadd, 1) := by decide +kernel
theorem kd_Lw_1381 : decode code 1381 = .ok (.iaload, 1) := by decide +kernel
theorem kd_Lw_1382 : decode code 1382 = .ok (.aload_n 3, 1) := by decide +kernel
theorem kd_Lw_1383 : decode code 1383 = .ok (.invokestatic 155, 3) := by decide +kernel
theorem kd_Lw_1386 : decode code 1386 = .ok (.istore 5, 2) := by decide +kernel
theorem kd_Lw_1388 : decode code 1388 = .ok (.aload_n 2, 1) := by decide +kernel
theorem kd_Lw_1389 : decode code 1389 = .ok (.aload_n 0, 1) := by decide +kernel
theorem kd_Lw_1390 : decode code 1390 = .ok (.iload 4, 2) := by decide +kernel
theorem kd_Lw_1392 : decode code 1392 = .ok (.iconst 1, 1) := by decide +kernel
theorem kd_Lw_1393 : decode code 1393 = .ok (.iadd, 1) := by decide +kernel
theorem kd_Lw_1394 : decode code 1394 = .ok (.iaload, 1) := by decide +kernel
theorem kd_Lw_1395 : decode code 1395 = .ok (.aload_n 0, 1) := by decide +kernel
theorem kd_Lw_1396 : decode code 1396 = .ok (.iload 4, 2) := by decide +kernel
theorem kd_Lw_1398 : decode code 1398 = .ok (.iconst 2, 1) := by decide +kernel
theorem kd_Lw_1399 : decode code 1399 = .ok (.iadd, 1) := by decide +kernel
theorem kd_Lw_1400 : decode code 1400 = .ok (.iaload, 1) := by decide +kernel
theorem kd_Lw_1401 : decode code 1401 = .ok (.aload_n 0, 1) := by decide +kernel
theorem kd_Lw_1402 : decode code 1402 = .ok (.iload 4, 2) := by decide +kernel
theorem kd_Lw_1404 : decode code 1404 = .ok (.iconst 3, 1) := by decide +kernel
theorem kd_Lw_1405 : decode code 1405 = .ok (.iadd, 1) := by decide +kernel
theorem kd_Lw_1406 : decode code 1406 = .ok (.iaload, 1) := by decide +kernel
theorem kd_Lw_1407 : decode code 1407 = .ok (.invokevirtual 157, 3) := by decide +kernel
theorem kd_Lw_1410 : decode code 1410 = .ok (.istore 6, 2) := by decide +kernel
theorem kd_Lw_1412 : decode code 1412 = .ok (.aload_n 2, 1) := by decide +kernel
theorem kd_Lw_1413 : decode code 1413 = .ok (.invokevirtual 95, 3) := by decide +kernel
theorem kd_Lw_1416 : decode code 1416 = .ok (.iload 5, 2) := by decide +kernel
theorem kd_Lw_1418 : decode code 1418 = .ok (.if_icmp .eq 5, 3) := by decide +kernel
theorem kd_Lw_1421 : decode code 1421 = .ok (.iconst 0, 1) := by decide +kernel
theorem kd_Lw_1422 : decode code 1422 = .ok (.ireturn, 1) := by decide +kernel
theorem kd_Lw_1423 : decode code 1423 = .ok (.iload 5, 2) := by decide +kernel
theorem kd_Lw_1425 : decode code 1425 = .ok (.ifCond .ne 15, 3) := by decide +kernel
theorem kd_Lw_1428 : decode code 1428 = .ok (.aload_n 3, 1) := by decide +kernel
theorem kd_Lw_1429 : decode code 1429 = .ok (.iconst 0, 1) := by decide +kernel
theorem kd_Lw_1430 : decode code 1430 = .ok (.laload, 1) := by decide +kernel
theorem kd_Lw_1431 : decode code 1431 = .ok (.iload 6, 2) := by decide +kernel
theorem kd_Lw_1433 : decode code 1433 = .ok (.i2l, 1) := by decide +kernel
theorem kd_Lw_1434 : decode code 1434 = .ok (.lcmp, 1) := by decide +kernel
theorem kd_Lw_1435 : decode code 1435 = .ok (.ifCond .eq 5, 3) := by decide +kernel
theorem kd_Lw_1438 : decode code 1438 = .ok (.iconst 0, 1) := by decide +kernel
theorem kd_Lw_1439 : decode code 1439 = .ok (.ireturn, 1) := by decide +kernel
theorem kd_Lw_1440 : decode code 1440 = .ok (.goto 3, 3) := by decide +kernel
theorem kd_Lw_1443 : decode code 1443 = .ok (.iinc 4 6, 3) := by decide +kernel
theorem kd_Lw_1446 : decode code 1446 = .ok (.goto (-1423), 3) := by decide +kernel
theorem kd_Lw_1449 : decode code 1449 = .ok (.iconst 1, 1) := by decide +kernel
theorem kd_Lw_1450 : decode code 1450 = .ok (.ireturn, 1) := by decide +kernel
