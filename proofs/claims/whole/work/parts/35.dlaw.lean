theorem dl_0 : decode code 0 = .ok (.new 8, 3) := by decide +kernel
theorem dl_3 : decode code 3 = .ok (.dup, 1) := by decide +kernel
theorem dl_4 : decode code 4 = .ok (.invokespecial 59, 3) := by decide +kernel
theorem dl_7 : decode code 7 = .ok (.astore_n 1, 1) := by decide +kernel
theorem dl_8 : decode code 8 = .ok (.new 60, 3) := by decide +kernel
theorem dl_11 : decode code 11 = .ok (.dup, 1) := by decide +kernel
theorem dl_12 : decode code 12 = .ok (.invokespecial 62, 3) := by decide +kernel
theorem dl_15 : decode code 15 = .ok (.astore_n 2, 1) := by decide +kernel
theorem dl_16 : decode code 16 = .ok (.iconst 1, 1) := by decide +kernel
theorem dl_17 : decode code 17 = .ok (.newarray .long, 2) := by decide +kernel
theorem dl_19 : decode code 19 = .ok (.astore_n 3, 1) := by decide +kernel
theorem dl_20 : decode code 20 = .ok (.iconst 0, 1) := by decide +kernel
theorem dl_21 : decode code 21 = .ok (.istore 4, 2) := by decide +kernel
theorem dl_23 : decode code 23 = .ok (.iload 4, 2) := by decide +kernel
theorem dl_25 : decode code 25 = .ok (.aload_n 0, 1) := by decide +kernel
theorem dl_26 : decode code 26 = .ok (.arraylength, 1) := by decide +kernel
theorem dl_27 : decode code 27 = .ok (.iconst 5, 1) := by decide +kernel
theorem dl_28 : decode code 28 = .ok (.isub, 1) := by decide +kernel
theorem dl_29 : decode code 29 = .ok (.if_icmp .gt 959, 3) := by decide +kernel
theorem dl_32 : decode code 32 = .ok (.aload_n 0, 1) := by decide +kernel
theorem dl_33 : decode code 33 = .ok (.iload 4, 2) := by decide +kernel
theorem dl_35 : decode code 35 = .ok (.iaload, 1) := by decide +kernel
theorem dl_36 : decode code 36 = .ok (.bipush 15, 2) := by decide +kernel
theorem dl_38 : decode code 38 = .ok (.iand, 1) := by decide +kernel
theorem dl_39 : decode code 39 = .ok (.tableswitch 943 0 14 #[73, 153, 197, 272, 340, 396, 459, 527, 619, 675, 782, 838, 863, 876, 932], 73) := by decide +kernel
theorem dl_112 : decode code 112 = .ok (.aload_n 1, 1) := by decide +kernel
theorem dl_113 : decode code 113 = .ok (.aload_n 0, 1) := by decide +kernel
theorem dl_114 : decode code 114 = .ok (.iload 4, 2) := by decide +kernel
theorem dl_116 : decode code 116 = .ok (.iconst 1, 1) := by decide +kernel
theorem dl_117 : decode code 117 = .ok (.iadd, 1) := by decide +kernel
theorem dl_118 : decode code 118 = .ok (.iaload, 1) := by decide +kernel
theorem dl_119 : decode code 119 = .ok (.aload_n 0, 1) := by decide +kernel
theorem dl_120 : decode code 120 = .ok (.iload 4, 2) := by decide +kernel
theorem dl_122 : decode code 122 = .ok (.iconst 2, 1) := by decide +kernel
theorem dl_123 : decode code 123 = .ok (.iadd, 1) := by decide +kernel
theorem dl_124 : decode code 124 = .ok (.iaload, 1) := by decide +kernel
theorem dl_125 : decode code 125 = .ok (.aload_n 0, 1) := by decide +kernel
theorem dl_126 : decode code 126 = .ok (.iload 4, 2) := by decide +kernel
theorem dl_128 : decode code 128 = .ok (.iconst 3, 1) := by decide +kernel
theorem dl_129 : decode code 129 = .ok (.iadd, 1) := by decide +kernel
theorem dl_130 : decode code 130 = .ok (.iaload, 1) := by decide +kernel
theorem dl_131 : decode code 131 = .ok (.aload_n 3, 1) := by decide +kernel
theorem dl_132 : decode code 132 = .ok (.invokestatic 63, 3) := by decide +kernel
theorem dl_135 : decode code 135 = .ok (.istore 5, 2) := by decide +kernel
theorem dl_137 : decode code 137 = .ok (.aload_n 2, 1) := by decide +kernel
theorem dl_138 : decode code 138 = .ok (.aload_n 0, 1) := by decide +kernel
theorem dl_139 : decode code 139 = .ok (.iload 4, 2) := by decide +kernel
theorem dl_141 : decode code 141 = .ok (.iconst 1, 1) := by decide +kernel
theorem dl_142 : decode code 142 = .ok (.iadd, 1) := by decide +kernel
theorem dl_143 : decode code 143 = .ok (.iaload, 1) := by decide +kernel
theorem dl_144 : decode code 144 = .ok (.aload_n 0, 1) := by decide +kernel
theorem dl_145 : decode code 145 = .ok (.iload 4, 2) := by decide +kernel
theorem dl_147 : decode code 147 = .ok (.iconst 2, 1) := by decide +kernel
theorem dl_148 : decode code 148 = .ok (.iadd, 1) := by decide +kernel
theorem dl_149 : decode code 149 = .ok (.iaload, 1) := by decide +kernel
theorem dl_150 : decode code 150 = .ok (.aload_n 0, 1) := by decide +kernel
theorem dl_151 : decode code 151 = .ok (.iload 4, 2) := by decide +kernel
theorem dl_153 : decode code 153 = .ok (.iconst 3, 1) := by decide +kernel
theorem dl_154 : decode code 154 = .ok (.iadd, 1) := by decide +kernel
theorem dl_155 : decode code 155 = .ok (.iaload, 1) := by decide +kernel
theorem dl_156 : decode code 156 = .ok (.invokevirtual 68, 3) := by decide +kernel
theorem dl_159 : decode code 159 = .ok (.istore 6, 2) := by decide +kernel
theorem dl_161 : decode code 161 = .ok (.aload_n 2, 1) := by decide +kernel
theorem dl_162 : decode code 162 = .ok (.invokevirtual 69, 3) := by decide +kernel
theorem dl_165 : decode code 165 = .ok (.iload 5, 2) := by decide +kernel
theorem dl_167 : decode code 167 = .ok (.if_icmp .eq 5, 3) := by decide +kernel
theorem dl_170 : decode code 170 = .ok (.iconst 0, 1) := by decide +kernel
theorem dl_171 : decode code 171 = .ok (.ireturn, 1) := by decide +kernel
theorem dl_172 : decode code 172 = .ok (.iload 5, 2) := by decide +kernel
theorem dl_174 : decode code 174 = .ok (.ifCond .ne 15, 3) := by decide +kernel
theorem dl_177 : decode code 177 = .ok (.aload_n 3, 1) := by decide +kernel
theorem dl_178 : decode code 178 = .ok (.iconst 0, 1) := by decide +kernel
theorem dl_179 : decode code 179 = .ok (.laload, 1) := by decide +kernel
theorem dl_180 : decode code 180 = .ok (.iload 6, 2) := by decide +kernel
theorem dl_182 : decode code 182 = .ok (.i2l, 1) := by decide +kernel
theorem dl_183 : decode code 183 = .ok (.lcmp, 1) := by decide +kernel
theorem dl_184 : decode code 184 = .ok (.ifCond .eq 5, 3) := by decide +kernel
theorem dl_187 : decode code 187 = .ok (.iconst 0, 1) := by decide +kernel
theorem dl_188 : decode code 188 = .ok (.ireturn, 1) := by decide +kernel
theorem dl_189 : decode code 189 = .ok (.goto 793, 3) := by decide +kernel
theorem dl_192 : decode code 192 = .ok (.aload_n 1, 1) := by decide +kernel
theorem dl_193 : decode code 193 = .ok (.aload_n 3, 1) := by decide +kernel
theorem dl_194 : decode code 194 = .ok (.invokestatic 72, 3) := by decide +kernel
theorem dl_197 : decode code 197 = .ok (.istore 5, 2) := by decide +kernel
theorem dl_199 : decode code 199 = .ok (.aload_n 2, 1) := by decide +kernel
theorem dl_200 : decode code 200 = .ok (.invokevirtual 75, 3) := by decide +kernel
theorem dl_203 : decode code 203 = .ok (.istore 6, 2) := by decide +kernel
theorem dl_205 : decode code 205 = .ok (.aload_n 2, 1) := by decide +kernel
theorem dl_206 : decode code 206 = .ok (.invokevirtual 69, 3) := by decide +kernel
theorem dl_209 : decode code 209 = .ok (.iload 5, 2) := by decide +kernel
theorem dl_211 : decode code 211 = .ok (.if_icmp .eq 5, 3) := by decide +kernel
theorem dl_214 : decode code 214 = .ok (.iconst 0, 1) := by decide +kernel
theorem dl_215 : decode code 215 = .ok (.ireturn, 1) := by decide +kernel
theorem dl_216 : decode code 216 = .ok (.iload 5, 2) := by decide +kernel
theorem dl_218 : decode code 218 = .ok (.ifCond .ne 15, 3) := by decide +kernel
theorem dl_221 : decode code 221 = .ok (.aload_n 3, 1) := by decide +kernel
theorem dl_222 : decode code 222 = .ok (.iconst 0, 1) := by decide +kernel
theorem dl_223 : decode code 223 = .ok (.laload, 1) := by decide +kernel
theorem dl_224 : decode code 224 = .ok (.iload 6, 2) := by decide +kernel
theorem dl_226 : decode code 226 = .ok (.i2l, 1) := by decide +kernel
theorem dl_227 : decode code 227 = .ok (.lcmp, 1) := by decide +kernel
theorem dl_228 : decode code 228 = .ok (.ifCond .eq 5, 3) := by decide +kernel
theorem dl_231 : decode code 231 = .ok (.iconst 0, 1) := by decide +kernel
theorem dl_232 : decode code 232 = .ok (.ireturn, 1) := by decide +kernel
theorem dl_233 : decode code 233 = .ok (.goto 749, 3) := by decide +kernel
theorem dl_236 : decode code 236 = .ok (.aload_n 1, 1) := by decide +kernel
theorem dl_237 : decode code 237 = .ok (.aload_n 0, 1) := by decide +kernel
theorem dl_238 : decode code 238 = .ok (.iload 4, 2) := by decide +kernel
theorem dl_240 : decode code 240 = .ok (.iconst 1, 1) := by decide +kernel
theorem dl_241 : decode code 241 = .ok (.iadd, 1) := by decide +kernel
theorem dl_242 : decode code 242 = .ok (.iaload, 1) := by decide +kernel
theorem dl_243 : decode code 243 = .ok (.aload_n 0, 1) := by decide +kernel
theorem dl_244 : decode code 244 = .ok (.iload 4, 2) := by decide +kernel
theorem dl_246 : decode code 246 = .ok (.iconst 2, 1) := by decide +kernel
theorem dl_247 : decode code 247 = .ok (.iadd, 1) := by decide +kernel
theorem dl_248 : decode code 248 = .ok (.iaload, 1) := by decide +kernel
theorem dl_249 : decode code 249 = .ok (.aload_n 3, 1) := by decide +kernel
theorem dl_250 : decode code 250 = .ok (.invokestatic 76, 3) := by decide +kernel
theorem dl_253 : decode code 253 = .ok (.istore 5, 2) := by decide +kernel
theorem dl_255 : decode code 255 = .ok (.aload_n 2, 1) := by decide +kernel
theorem dl_256 : decode code 256 = .ok (.aload_n 0, 1) := by decide +kernel
theorem dl_257 : decode code 257 = .ok (.iload 4, 2) := by decide +kernel
theorem dl_259 : decode code 259 = .ok (.iconst 1, 1) := by decide +kernel
theorem dl_260 : decode code 260 = .ok (.iadd, 1) := by decide +kernel
theorem dl_261 : decode code 261 = .ok (.iaload, 1) := by decide +kernel
theorem dl_262 : decode code 262 = .ok (.aload_n 0, 1) := by decide +kernel
theorem dl_263 : decode code 263 = .ok (.iload 4, 2) := by decide +kernel
theorem dl_265 : decode code 265 = .ok (.iconst 2, 1) := by decide +kernel
theorem dl_266 : decode code 266 = .ok (.iadd, 1) := by decide +kernel
theorem dl_267 : decode code 267 = .ok (.iaload, 1) := by decide +kernel
theorem dl_268 : decode code 268 = .ok (.invokevirtual 79, 3) := by decide +kernel
theorem dl_271 : decode code 271 = .ok (.istore 6, 2) := by decide +kernel
theorem dl_273 : decode code 273 = .ok (.aload_n 2, 1) := by decide +kernel
theorem dl_274 : decode code 274 = .ok (.invokevirtual 69, 3) := by decide +kernel
theorem dl_277 : decode code 277 = .ok (.iload 5, 2) := by decide +kernel
theorem dl_279 : decode code 279 = .ok (.if_icmp .eq 5, 3) := by decide +kernel
theorem dl_282 : decode code 282 = .ok (.iconst 0, 1) := by decide +kernel
theorem dl_283 : decode code 283 = .ok (.ireturn, 1) := by decide +kernel
theorem dl_284 : decode code 284 = .ok (.iload 5, 2) := by decide +kernel
theorem dl_286 : decode code 286 = .ok (.ifCond .ne 22, 3) := by decide +kernel
theorem dl_289 : decode code 289 = .ok (.aload_n 3, 1) := by decide +kernel
theorem dl_290 : decode code 290 = .ok (.iconst 0, 1) := by decide +kernel
theorem dl_291 : decode code 291 = .ok (.laload, 1) := by decide +kernel
theorem dl_292 : decode code 292 = .ok (.iload 6, 2) := by decide +kernel
theorem dl_294 : decode code 294 = .ok (.ifCond .eq 7, 3) := by decide +kernel
theorem dl_297 : decode code 297 = .ok (.lconst 1, 1) := by decide +kernel
theorem dl_298 : decode code 298 = .ok (.goto 4, 3) := by decide +kernel
theorem dl_301 : decode code 301 = .ok (.lconst 0, 1) := by decide +kernel
theorem dl_302 : decode code 302 = .ok (.lcmp, 1) := by decide +kernel
theorem dl_303 : decode code 303 = .ok (.ifCond .eq 5, 3) := by decide +kernel
theorem dl_306 : decode code 306 = .ok (.iconst 0, 1) := by decide +kernel
theorem dl_307 : decode code 307 = .ok (.ireturn, 1) := by decide +kernel
theorem dl_308 : decode code 308 = .ok (.goto 674, 3) := by decide +kernel
theorem dl_311 : decode code 311 = .ok (.aload_n 1, 1) := by decide +kernel
theorem dl_312 : decode code 312 = .ok (.aload_n 0, 1) := by decide +kernel
theorem dl_313 : decode code 313 = .ok (.iload 4, 2) := by decide +kernel
theorem dl_315 : decode code 315 = .ok (.iconst 1, 1) := by decide +kernel
theorem dl_316 : decode code 316 = .ok (.iadd, 1) := by decide +kernel
theorem dl_317 : decode code 317 = .ok (.iaload, 1) := by decide +kernel
theorem dl_318 : decode code 318 = .ok (.aload_n 0, 1) := by decide +kernel
theorem dl_319 : decode code 319 = .ok (.iload 4, 2) := by decide +kernel
theorem dl_321 : decode code 321 = .ok (.iconst 2, 1) := by decide +kernel
theorem dl_322 : decode code 322 = .ok (.iadd, 1) := by decide +kernel
theorem dl_323 : decode code 323 = .ok (.iaload, 1) := by decide +kernel
theorem dl_324 : decode code 324 = .ok (.aload_n 3, 1) := by decide +kernel
theorem dl_325 : decode code 325 = .ok (.invokestatic 80, 3) := by decide +kernel
theorem dl_328 : decode code 328 = .ok (.istore 5, 2) := by decide +kernel
theorem dl_330 : decode code 330 = .ok (.aload_n 2, 1) := by decide +kernel
theorem dl_331 : decode code 331 = .ok (.aload_n 0, 1) := by decide +kernel
theorem dl_332 : decode code 332 = .ok (.iload 4, 2) := by decide +kernel
theorem dl_334 : decode code 334 = .ok (.iconst 1, 1) := by decide +kernel
theorem dl_335 : decode code 335 = .ok (.iadd, 1) := by decide +kernel
theorem dl_336 : decode code 336 = .ok (.iaload, 1) := by decide +kernel
theorem dl_337 : decode code 337 = .ok (.aload_n 0, 1) := by decide +kernel
theorem dl_338 : decode code 338 = .ok (.iload 4, 2) := by decide +kernel
theorem dl_340 : decode code 340 = .ok (.iconst 2, 1) := by decide +kernel
theorem dl_341 : decode code 341 = .ok (.iadd, 1) := by decide +kernel
theorem dl_342 : decode code 342 = .ok (.iaload, 1) := by decide +kernel
theorem dl_343 : decode code 343 = .ok (.invokevirtual 82, 3) := by decide +kernel
theorem dl_346 : decode code 346 = .ok (.istore 6, 2) := by decide +kernel
theorem dl_348 : decode code 348 = .ok (.aload_n 2, 1) := by decide +kernel
theorem dl_349 : decode code 349 = .ok (.invokevirtual 69, 3) := by decide +kernel
theorem dl_352 : decode code 352 = .ok (.iload 5, 2) := by decide +kernel
theorem dl_354 : decode code 354 = .ok (.if_icmp .eq 5, 3) := by decide +kernel
theorem dl_357 : decode code 357 = .ok (.iconst 0, 1) := by decide +kernel
theorem dl_358 : decode code 358 = .ok (.ireturn, 1) := by decide +kernel
theorem dl_359 : decode code 359 = .ok (.iload 5, 2) := by decide +kernel
theorem dl_361 : decode code 361 = .ok (.ifCond .ne 15, 3) := by decide +kernel
theorem dl_364 : decode code 364 = .ok (.aload_n 3, 1) := by decide +kernel
theorem dl_365 : decode code 365 = .ok (.iconst 0, 1) := by decide +kernel
theorem dl_366 : decode code 366 = .ok (.laload, 1) := by decide +kernel
theorem dl_367 : decode code 367 = .ok (.iload 6, 2) := by decide +kernel
theorem dl_369 : decode code 369 = .ok (.i2l, 1) := by decide +kernel
theorem dl_370 : decode code 370 = .ok (.lcmp, 1) := by decide +kernel
theorem dl_371 : decode code 371 = .ok (.ifCond .eq 5, 3) := by decide +kernel
theorem dl_374 : decode code 374 = .ok (.iconst 0, 1) := by decide +kernel
theorem dl_375 : decode code 375 = .ok (.ireturn, 1) := by decide +kernel
theorem dl_376 : decode code 376 = .ok (.goto 606, 3) := by decide +kernel
theorem dl_379 : decode code 379 = .ok (.aload_n 1, 1) := by decide +kernel
theorem dl_380 : decode code 380 = .ok (.aload_n 0, 1) := by decide +kernel
theorem dl_381 : decode code 381 = .ok (.iload 4, 2) := by decide +kernel
theorem dl_383 : decode code 383 = .ok (.iconst 1, 1) := by decide +kernel
theorem dl_384 : decode code 384 = .ok (.iadd, 1) := by decide +kernel
theorem dl_385 : decode code 385 = .ok (.iaload, 1) := by decide +kernel
theorem dl_386 : decode code 386 = .ok (.aload_n 3, 1) := by decide +kernel
theorem dl_387 : decode code 387 = .ok (.invokestatic 83, 3) := by decide +kernel
theorem dl_390 : decode code 390 = .ok (.istore 5, 2) := by decide +kernel
theorem dl_392 : decode code 392 = .ok (.aload_n 2, 1) := by decide +kernel
theorem dl_393 : decode code 393 = .ok (.aload_n 0, 1) := by decide +kernel
theorem dl_394 : decode code 394 = .ok (.iload 4, 2) := by decide +kernel
theorem dl_396 : decode code 396 = .ok (.iconst 1, 1) := by decide +kernel
theorem dl_397 : decode code 397 = .ok (.iadd, 1) := by decide +kernel
theorem dl_398 : decode code 398 = .ok (.iaload, 1) := by decide +kernel
theorem dl_399 : decode code 399 = .ok (.invokevirtual 86, 3) := by decide +kernel
theorem dl_402 : decode code 402 = .ok (.istore 6, 2) := by decide +kernel
theorem dl_404 : decode code 404 = .ok (.aload_n 2, 1) := by decide +kernel
theorem dl_405 : decode code 405 = .ok (.invokevirtual 69, 3) := by decide +kernel
theorem dl_408 : decode code 408 = .ok (.iload 5, 2) := by decide +kernel
theorem dl_410 : decode code 410 = .ok (.if_icmp .eq 5, 3) := by decide +kernel
theorem dl_413 : decode code 413 = .ok (.iconst 0, 1) := by decide +kernel
theorem dl_414 : decode code 414 = .ok (.ireturn, 1) := by decide +kernel
theorem dl_415 : decode code 415 = .ok (.iload 5, 2) := by decide +kernel
theorem dl_417 : decode code 417 = .ok (.ifCond .ne 15, 3) := by decide +kernel
theorem dl_420 : decode code 420 = .ok (.aload_n 3, 1) := by decide +kernel
theorem dl_421 : decode code 421 = .ok (.iconst 0, 1) := by decide +kernel
theorem dl_422 : decode code 422 = .ok (.laload, 1) := by decide +kernel
theorem dl_423 : decode code 423 = .ok (.iload 6, 2) := by decide +kernel
theorem dl_425 : decode code 425 = .ok (.i2l, 1) := by decide +kernel
theorem dl_426 : decode code 426 = .ok (.lcmp, 1) := by decide +kernel
theorem dl_427 : decode code 427 = .ok (.ifCond .eq 5, 3) := by decide +kernel
theorem dl_430 : decode code 430 = .ok (.iconst 0, 1) := by decide +kernel
theorem dl_431 : decode code 431 = .ok (.ireturn, 1) := by decide +kernel
theorem dl_432 : decode code 432 = .ok (.goto 550, 3) := by decide +kernel
theorem dl_435 : decode code 435 = .ok (.aload_n 1, 1) := by decide +kernel
theorem dl_436 : decode code 436 = .ok (.aload_n 0, 1) := by decide +kernel
theorem dl_437 : decode code 437 = .ok (.iload 4, 2) := by decide +kernel
theorem dl_439 : decode code 439 = .ok (.iconst 1, 1) := by decide +kernel
theorem dl_440 : decode code 440 = .ok (.iadd, 1) := by decide +kernel
theorem dl_441 : decode code 441 = .ok (.iaload, 1) := by decide +kernel
theorem dl_442 : decode code 442 = .ok (.aload_n 3, 1) := by decide +kernel
theorem dl_443 : decode code 443 = .ok (.invokestatic 87, 3) := by decide +kernel
theorem dl_446 : decode code 446 = .ok (.istore 5, 2) := by decide +kernel
theorem dl_448 : decode code 448 = .ok (.aload_n 2, 1) := by decide +kernel
theorem dl_449 : decode code 449 = .ok (.aload_n 0, 1) := by decide +kernel
theorem dl_450 : decode code 450 = .ok (.iload 4, 2) := by decide +kernel
theorem dl_452 : decode code 452 = .ok (.iconst 1, 1) := by decide +kernel
theorem dl_453 : decode code 453 = .ok (.iadd, 1) := by decide +kernel
theorem dl_454 : decode code 454 = .ok (.iaload, 1) := by decide +kernel
theorem dl_455 : decode code 455 = .ok (.invokevirtual 89, 3) := by decide +kernel
theorem dl_458 : decode code 458 = .ok (.istore 6, 2) := by decide +kernel
theorem dl_460 : decode code 460 = .ok (.aload_n 2, 1) := by decide +kernel
theorem dl_461 : decode code 461 = .ok (.invokevirtual 69, 3) := by decide +kernel
theorem dl_464 : decode code 464 = .ok (.iload 5, 2) := by decide +kernel
theorem dl_466 : decode code 466 = .ok (.if_icmp .eq 5, 3) := by decide +kernel
theorem dl_469 : decode code 469 = .ok (.iconst 0, 1) := by decide +kernel
theorem dl_470 : decode code 470 = .ok (.ireturn, 1) := by decide +kernel
theorem dl_471 : decode code 471 = .ok (.iload 5, 2) := by decide +kernel
theorem dl_473 : decode code 473 = .ok (.ifCond .ne 22, 3) := by decide +kernel
theorem dl_476 : decode code 476 = .ok (.aload_n 3, 1) := by decide +kernel
theorem dl_477 : decode code 477 = .ok (.iconst 0, 1) := by decide +kernel
theorem dl_478 : decode code 478 = .ok (.laload, 1) := by decide +kernel
theorem dl_479 : decode code 479 = .ok (.iload 6, 2) := by decide +kernel
theorem dl_481 : decode code 481 = .ok (.ifCond .eq 7, 3) := by decide +kernel
theorem dl_484 : decode code 484 = .ok (.lconst 1, 1) := by decide +kernel
theorem dl_485 : decode code 485 = .ok (.goto 4, 3) := by decide +kernel
theorem dl_488 : decode code 488 = .ok (.lconst 0, 1) := by decide +kernel
theorem dl_489 : decode code 489 = .ok (.lcmp, 1) := by decide +kernel
theorem dl_490 : decode code 490 = .ok (.ifCond .eq 5, 3) := by decide +kernel
theorem dl_493 : decode code 493 = .ok (.iconst 0, 1) := by decide +kernel
theorem dl_494 : decode code 494 = .ok (.ireturn, 1) := by decide +kernel
theorem dl_495 : decode code 495 = .ok (.goto 487, 3) := by decide +kernel
theorem dl_498 : decode code 498 = .ok (.aload_n 1, 1) := by decide +kernel
theorem dl_499 : decode code 499 = .ok (.aload_n 0, 1) := by decide +kernel
theorem dl_500 : decode code 500 = .ok (.iload 4, 2) := by decide +kernel
theorem dl_502 : decode code 502 = .ok (.iconst 1, 1) := by decide +kernel
theorem dl_503 : decode code 503 = .ok (.iadd, 1) := by decide +kernel
theorem dl_504 : decode code 504 = .ok (.iaload, 1) := by decide +kernel
theorem dl_505 : decode code 505 = .ok (.aload_n 0, 1) := by decide +kernel
theorem dl_506 : decode code 506 = .ok (.iload 4, 2) := by decide +kernel
theorem dl_508 : decode code 508 = .ok (.iconst 2, 1) := by decide +kernel
theorem dl_509 : decode code 509 = .ok (.iadd, 1) := by decide +kernel
theorem dl_510 : decode code 510 = .ok (.iaload, 1) := by decide +kernel
theorem dl_511 : decode code 511 = .ok (.aload_n 3, 1) := by decide +kernel
theorem dl_512 : decode code 512 = .ok (.invokestatic 90, 3) := by decide +kernel
theorem dl_515 : decode code 515 = .ok (.istore 5, 2) := by decide +kernel
theorem dl_517 : decode code 517 = .ok (.aload_n 2, 1) := by decide +kernel
theorem dl_518 : decode code 518 = .ok (.aload_n 0, 1) := by decide +kernel
theorem dl_519 : decode code 519 = .ok (.iload 4, 2) := by decide +kernel
theorem dl_521 : decode code 521 = .ok (.iconst 1, 1) := by decide +kernel
theorem dl_522 : decode code 522 = .ok (.iadd, 1) := by decide +kernel
theorem dl_523 : decode code 523 = .ok (.iaload, 1) := by decide +kernel
theorem dl_524 : decode code 524 = .ok (.aload_n 0, 1) := by decide +kernel
theorem dl_525 : decode code 525 = .ok (.iload 4, 2) := by decide +kernel
theorem dl_527 : decode code 527 = .ok (.iconst 2, 1) := by decide +kernel
theorem dl_528 : decode code 528 = .ok (.iadd, 1) := by decide +kernel
theorem dl_529 : decode code 529 = .ok (.iaload, 1) := by decide +kernel
theorem dl_530 : decode code 530 = .ok (.invokevirtual 92, 3) := by decide +kernel
theorem dl_533 : decode code 533 = .ok (.istore 6, 2) := by decide +kernel
theorem dl_535 : decode code 535 = .ok (.aload_n 2, 1) := by decide +kernel
theorem dl_536 : decode code 536 = .ok (.invokevirtual 69, 3) := by decide +kernel
theorem dl_539 : decode code 539 = .ok (.iload 5, 2) := by decide +kernel
theorem dl_541 : decode code 541 = .ok (.if_icmp .eq 5, 3) := by decide +kernel
theorem dl_544 : decode code 544 = .ok (.iconst 0, 1) := by decide +kernel
theorem dl_545 : decode code 545 = .ok (.ireturn, 1) := by decide +kernel
theorem dl_546 : decode code 546 = .ok (.iload 5, 2) := by decide +kernel
theorem dl_548 : decode code 548 = .ok (.ifCond .ne 15, 3) := by decide +kernel
theorem dl_551 : decode code 551 = .ok (.aload_n 3, 1) := by decide +kernel
theorem dl_552 : decode code 552 = .ok (.iconst 0, 1) := by decide +kernel
theorem dl_553 : decode code 553 = .ok (.laload, 1) := by decide +kernel
theorem dl_554 : decode code 554 = .ok (.iload 6, 2) := by decide +kernel
theorem dl_556 : decode code 556 = .ok (.i2l, 1) := by decide +kernel
theorem dl_557 : decode code 557 = .ok (.lcmp, 1) := by decide +kernel
theorem dl_558 : decode code 558 = .ok (.ifCond .eq 5, 3) := by decide +kernel
theorem dl_561 : decode code 561 = .ok (.iconst 0, 1) := by decide +kernel
theorem dl_562 : decode code 562 = .ok (.ireturn, 1) := by decide +kernel
theorem dl_563 : decode code 563 = .ok (.goto 419, 3) := by decide +kernel
theorem dl_566 : decode code 566 = .ok (.aload_n 1, 1) := by decide +kernel
theorem dl_567 : decode code 567 = .ok (.aload_n 0, 1) := by decide +kernel
theorem dl_568 : decode code 568 = .ok (.iload 4, 2) := by decide +kernel
theorem dl_570 : decode code 570 = .ok (.iconst 1, 1) := by decide +kernel
theorem dl_571 : decode code 571 = .ok (.iadd, 1) := by decide +kernel
theorem dl_572 : decode code 572 = .ok (.iaload, 1) := by decide +kernel
theorem dl_573 : decode code 573 = .ok (.aload_n 0, 1) := by decide +kernel
theorem dl_574 : decode code 574 = .ok (.iload 4, 2) := by decide +kernel
theorem dl_576 : decode code 576 = .ok (.iconst 2, 1) := by decide +kernel
theorem dl_577 : decode code 577 = .ok (.iadd, 1) := by decide +kernel
theorem dl_578 : decode code 578 = .ok (.iaload, 1) := by decide +kernel
theorem dl_579 : decode code 579 = .ok (.aload_n 0, 1) := by decide +kernel
theorem dl_580 : decode code 580 = .ok (.iload 4, 2) := by decide +kernel
theorem dl_582 : decode code 582 = .ok (.iconst 3, 1) := by decide +kernel
theorem dl_583 : decode code 583 = .ok (.iadd, 1) := by decide +kernel
theorem dl_584 : decode code 584 = .ok (.iaload, 1) := by decide +kernel
theorem dl_585 : decode code 585 = .ok (.aload_n 0, 1) := by decide +kernel
theorem dl_586 : decode code 586 = .ok (.iload 4, 2) := by decide +kernel
theorem dl_588 : decode code 588 = .ok (.iconst 4, 1) := by decide +kernel
theorem dl_589 : decode code 589 = .ok (.iadd, 1) := by decide +kernel
theorem dl_590 : decode code 590 = .ok (.iaload, 1) := by decide +kernel
theorem dl_591 : decode code 591 = .ok (.aload_n 3, 1) := by decide +kernel
theorem dl_592 : decode code 592 = .ok (.invokestatic 93, 3) := by decide +kernel
theorem dl_595 : decode code 595 = .ok (.istore 5, 2) := by decide +kernel
theorem dl_597 : decode code 597 = .ok (.aload_n 2, 1) := by decide +kernel
theorem dl_598 : decode code 598 = .ok (.aload_n 0, 1) := by decide +kernel
theorem dl_599 : decode code 599 = .ok (.iload 4, 2) := by decide +kernel
theorem dl_601 : decode code 601 = .ok (.iconst 1, 1) := by decide +kernel
theorem dl_602 : decode code 602 = .ok (.iadd, 1) := by decide +kernel
theorem dl_603 : decode code 603 = .ok (.iaload, 1) := by decide +kernel
theorem dl_604 : decode code 604 = .ok (.aload_n 0, 1) := by decide +kernel
theorem dl_605 : decode code 605 = .ok (.iload 4, 2) := by decide +kernel
theorem dl_607 : decode code 607 = .ok (.iconst 2, 1) := by decide +kernel
theorem dl_608 : decode code 608 = .ok (.iadd, 1) := by decide +kernel
theorem dl_609 : decode code 609 = .ok (.iaload, 1) := by decide +kernel
theorem dl_610 : decode code 610 = .ok (.aload_n 0, 1) := by decide +kernel
theorem dl_611 : decode code 611 = .ok (.iload 4, 2) := by decide +kernel
theorem dl_613 : decode code 613 = .ok (.iconst 3, 1) := by decide +kernel
theorem dl_614 : decode code 614 = .ok (.iadd, 1) := by decide +kernel
theorem dl_615 : decode code 615 = .ok (.iaload, 1) := by decide +kernel
theorem dl_616 : decode code 616 = .ok (.aload_n 0, 1) := by decide +kernel
theorem dl_617 : decode code 617 = .ok (.iload 4, 2) := by decide +kernel
theorem dl_619 : decode code 619 = .ok (.iconst 4, 1) := by decide +kernel
theorem dl_620 : decode code 620 = .ok (.iadd, 1) := by decide +kernel
theorem dl_621 : decode code 621 = .ok (.iaload, 1) := by decide +kernel
theorem dl_622 : decode code 622 = .ok (.invokevirtual 96, 3) := by decide +kernel
theorem dl_625 : decode code 625 = .ok (.istore 6, 2) := by decide +kernel
theorem dl_627 : decode code 627 = .ok (.aload_n 2, 1) := by decide +kernel
theorem dl_628 : decode code 628 = .ok (.invokevirtual 69, 3) := by decide +kernel
theorem dl_631 : decode code 631 = .ok (.iload 5, 2) := by decide +kernel
theorem dl_633 : decode code 633 = .ok (.if_icmp .eq 5, 3) := by decide +kernel
theorem dl_636 : decode code 636 = .ok (.iconst 0, 1) := by decide +kernel
theorem dl_637 : decode code 637 = .ok (.ireturn, 1) := by decide +kernel
theorem dl_638 : decode code 638 = .ok (.iload 5, 2) := by decide +kernel
theorem dl_640 : decode code 640 = .ok (.ifCond .ne 15, 3) := by decide +kernel
theorem dl_643 : decode code 643 = .ok (.aload_n 3, 1) := by decide +kernel
theorem dl_644 : decode code 644 = .ok (.iconst 0, 1) := by decide +kernel
theorem dl_645 : decode code 645 = .ok (.laload, 1) := by decide +kernel
theorem dl_646 : decode code 646 = .ok (.iload 6, 2) := by decide +kernel
theorem dl_648 : decode code 648 = .ok (.i2l, 1) := by decide +kernel
theorem dl_649 : decode code 649 = .ok (.lcmp, 1) := by decide +kernel
theorem dl_650 : decode code 650 = .ok (.ifCond .eq 5, 3) := by decide +kernel
theorem dl_653 : decode code 653 = .ok (.iconst 0, 1) := by decide +kernel
theorem dl_654 : decode code 654 = .ok (.ireturn, 1) := by decide +kernel
theorem dl_655 : decode code 655 = .ok (.goto 327, 3) := by decide +kernel
theorem dl_658 : decode code 658 = .ok (.aload_n 1, 1) := by decide +kernel
theorem dl_659 : decode code 659 = .ok (.aload_n 0, 1) := by decide +kernel
theorem dl_660 : decode code 660 = .ok (.iload 4, 2) := by decide +kernel
theorem dl_662 : decode code 662 = .ok (.iconst 1, 1) := by decide +kernel
theorem dl_663 : decode code 663 = .ok (.iadd, 1) := by decide +kernel
theorem dl_664 : decode code 664 = .ok (.iaload, 1) := by decide +kernel
theorem dl_665 : decode code 665 = .ok (.aload_n 3, 1) := by decide +kernel
theorem dl_666 : decode code 666 = .ok (.invokestatic 97, 3) := by decide +kernel
theorem dl_669 : decode code 669 = .ok (.istore 5, 2) := by decide +kernel
theorem dl_671 : decode code 671 = .ok (.aload_n 2, 1) := by decide +kernel
theorem dl_672 : decode code 672 = .ok (.aload_n 0, 1) := by decide +kernel
theorem dl_673 : decode code 673 = .ok (.iload 4, 2) := by decide +kernel
theorem dl_675 : decode code 675 = .ok (.iconst 1, 1) := by decide +kernel
theorem dl_676 : decode code 676 = .ok (.iadd, 1) := by decide +kernel
theorem dl_677 : decode code 677 = .ok (.iaload, 1) := by decide +kernel
theorem dl_678 : decode code 678 = .ok (.invokevirtual 99, 3) := by decide +kernel
theorem dl_681 : decode code 681 = .ok (.istore 6, 2) := by decide +kernel
theorem dl_683 : decode code 683 = .ok (.aload_n 2, 1) := by decide +kernel
theorem dl_684 : decode code 684 = .ok (.invokevirtual 69, 3) := by decide +kernel
theorem dl_687 : decode code 687 = .ok (.iload 5, 2) := by decide +kernel
theorem dl_689 : decode code 689 = .ok (.if_icmp .eq 5, 3) := by decide +kernel
theorem dl_692 : decode code 692 = .ok (.iconst 0, 1) := by decide +kernel
theorem dl_693 : decode code 693 = .ok (.ireturn, 1) := by decide +kernel
theorem dl_694 : decode code 694 = .ok (.iload 5, 2) := by decide +kernel
theorem dl_696 : decode code 696 = .ok (.ifCond .ne 15, 3) := by decide +kernel
theorem dl_699 : decode code 699 = .ok (.aload_n 3, 1) := by decide +kernel
theorem dl_700 : decode code 700 = .ok (.iconst 0, 1) := by decide +kernel
theorem dl_701 : decode code 701 = .ok (.laload, 1) := by decide +kernel
theorem dl_702 : decode code 702 = .ok (.iload 6, 2) := by decide +kernel
theorem dl_704 : decode code 704 = .ok (.i2l, 1) := by decide +kernel
theorem dl_705 : decode code 705 = .ok (.lcmp, 1) := by decide +kernel
theorem dl_706 : decode code 706 = .ok (.ifCond .eq 5, 3) := by decide +kernel
theorem dl_709 : decode code 709 = .ok (.iconst 0, 1) := by decide +kernel
theorem dl_710 : decode code 710 = .ok (.ireturn, 1) := by decide +kernel
theorem dl_711 : decode code 711 = .ok (.goto 271, 3) := by decide +kernel
theorem dl_714 : decode code 714 = .ok (.aload_n 1, 1) := by decide +kernel
theorem dl_715 : decode code 715 = .ok (.aload_n 0, 1) := by decide +kernel
theorem dl_716 : decode code 716 = .ok (.iload 4, 2) := by decide +kernel
theorem dl_718 : decode code 718 = .ok (.iconst 1, 1) := by decide +kernel
theorem dl_719 : decode code 719 = .ok (.iadd, 1) := by decide +kernel
theorem dl_720 : decode code 720 = .ok (.iaload, 1) := by decide +kernel
theorem dl_721 : decode code 721 = .ok (.aload_n 0, 1) := by decide +kernel
theorem dl_722 : decode code 722 = .ok (.iload 4, 2) := by decide +kernel
theorem dl_724 : decode code 724 = .ok (.iconst 2, 1) := by decide +kernel
theorem dl_725 : decode code 725 = .ok (.iadd, 1) := by decide +kernel
theorem dl_726 : decode code 726 = .ok (.iaload, 1) := by decide +kernel
theorem dl_727 : decode code 727 = .ok (.i2l, 1) := by decide +kernel
theorem dl_728 : decode code 728 = .ok (.bipush 32, 2) := by decide +kernel
theorem dl_730 : decode code 730 = .ok (.lshl, 1) := by decide +kernel
theorem dl_731 : decode code 731 = .ok (.aload_n 0, 1) := by decide +kernel
theorem dl_732 : decode code 732 = .ok (.iload 4, 2) := by decide +kernel
theorem dl_734 : decode code 734 = .ok (.iconst 3, 1) := by decide +kernel
theorem dl_735 : decode code 735 = .ok (.iadd, 1) := by decide +kernel
theorem dl_736 : decode code 736 = .ok (.iaload, 1) := by decide +kernel
theorem dl_737 : decode code 737 = .ok (.i2l, 1) := by decide +kernel
theorem dl_738 : decode code 738 = .ok (.ldc2_w 100, 3) := by decide +kernel
theorem dl_741 : decode code 741 = .ok (.land, 1) := by decide +kernel
theorem dl_742 : decode code 742 = .ok (.lor, 1) := by decide +kernel
theorem dl_743 : decode code 743 = .ok (.aload_n 3, 1) := by decide +kernel
theorem dl_744 : decode code 744 = .ok (.invokestatic 102, 3) := by decide +kernel
theorem dl_747 : decode code 747 = .ok (.istore 5, 2) := by decide +kernel
theorem dl_749 : decode code 749 = .ok (.aload_n 2, 1) := by decide +kernel
theorem dl_750 : decode code 750 = .ok (.aload_n 0, 1) := by decide +kernel
theorem dl_751 : decode code 751 = .ok (.iload 4, 2) := by decide +kernel
theorem dl_753 : decode code 753 = .ok (.iconst 1, 1) := by decide +kernel
theorem dl_754 : decode code 754 = .ok (.iadd, 1) := by decide +kernel
theorem dl_755 : decode code 755 = .ok (.iaload, 1) := by decide +kernel
theorem dl_756 : decode code 756 = .ok (.aload_n 0, 1) := by decide +kernel
theorem dl_757 : decode code 757 = .ok (.iload 4, 2) := by decide +kernel
theorem dl_759 : decode code 759 = .ok (.iconst 2, 1) := by decide +kernel
theorem dl_760 : decode code 760 = .ok (.iadd, 1) := by decide +kernel
theorem dl_761 : decode code 761 = .ok (.iaload, 1) := by decide +kernel
theorem dl_762 : decode code 762 = .ok (.i2l, 1) := by decide +kernel
theorem dl_763 : decode code 763 = .ok (.bipush 32, 2) := by decide +kernel
theorem dl_765 : decode code 765 = .ok (.lshl, 1) := by decide +kernel
theorem dl_766 : decode code 766 = .ok (.aload_n 0, 1) := by decide +kernel
theorem dl_767 : decode code 767 = .ok (.iload 4, 2) := by decide +kernel
theorem dl_769 : decode code 769 = .ok (.iconst 3, 1) := by decide +kernel
theorem dl_770 : decode code 770 = .ok (.iadd, 1) := by decide +kernel
theorem dl_771 : decode code 771 = .ok (.iaload, 1) := by decide +kernel
theorem dl_772 : decode code 772 = .ok (.i2l, 1) := by decide +kernel
theorem dl_773 : decode code 773 = .ok (.ldc2_w 100, 3) := by decide +kernel
theorem dl_776 : decode code 776 = .ok (.land, 1) := by decide +kernel
theorem dl_777 : decode code 777 = .ok (.lor, 1) := by decide +kernel
theorem dl_778 : decode code 778 = .ok (.invokevirtual 105, 3) := by decide +kernel
theorem dl_781 : decode code 781 = .ok (.istore 6, 2) := by decide +kernel
theorem dl_783 : decode code 783 = .ok (.aload_n 2, 1) := by decide +kernel
theorem dl_784 : decode code 784 = .ok (.invokevirtual 69, 3) := by decide +kernel
theorem dl_787 : decode code 787 = .ok (.iload 5, 2) := by decide +kernel
theorem dl_789 : decode code 789 = .ok (.if_icmp .eq 5, 3) := by decide +kernel
theorem dl_792 : decode code 792 = .ok (.iconst 0, 1) := by decide +kernel
theorem dl_793 : decode code 793 = .ok (.ireturn, 1) := by decide +kernel
theorem dl_794 : decode code 794 = .ok (.iload 5, 2) := by decide +kernel
theorem dl_796 : decode code 796 = .ok (.ifCond .ne 22, 3) := by decide +kernel
theorem dl_799 : decode code 799 = .ok (.aload_n 3, 1) := by decide +kernel
theorem dl_800 : decode code 800 = .ok (.iconst 0, 1) := by decide +kernel
theorem dl_801 : decode code 801 = .ok (.laload, 1) := by decide +kernel
theorem dl_802 : decode code 802 = .ok (.iload 6, 2) := by decide +kernel
theorem dl_804 : decode code 804 = .ok (.ifCond .eq 7, 3) := by decide +kernel
theorem dl_807 : decode code 807 = .ok (.lconst 1, 1) := by decide +kernel
theorem dl_808 : decode code 808 = .ok (.goto 4, 3) := by decide +kernel
theorem dl_811 : decode code 811 = .ok (.lconst 0, 1) := by decide +kernel
theorem dl_812 : decode code 812 = .ok (.lcmp, 1) := by decide +kernel
theorem dl_813 : decode code 813 = .ok (.ifCond .eq 5, 3) := by decide +kernel
theorem dl_816 : decode code 816 = .ok (.iconst 0, 1) := by decide +kernel
theorem dl_817 : decode code 817 = .ok (.ireturn, 1) := by decide +kernel
theorem dl_818 : decode code 818 = .ok (.goto 164, 3) := by decide +kernel
theorem dl_821 : decode code 821 = .ok (.aload_n 1, 1) := by decide +kernel
theorem dl_822 : decode code 822 = .ok (.aload_n 0, 1) := by decide +kernel
theorem dl_823 : decode code 823 = .ok (.iload 4, 2) := by decide +kernel
theorem dl_825 : decode code 825 = .ok (.iconst 1, 1) := by decide +kernel
theorem dl_826 : decode code 826 = .ok (.iadd, 1) := by decide +kernel
theorem dl_827 : decode code 827 = .ok (.iaload, 1) := by decide +kernel
theorem dl_828 : decode code 828 = .ok (.aload_n 3, 1) := by decide +kernel
theorem dl_829 : decode code 829 = .ok (.invokestatic 106, 3) := by decide +kernel
theorem dl_832 : decode code 832 = .ok (.istore 5, 2) := by decide +kernel
theorem dl_834 : decode code 834 = .ok (.aload_n 2, 1) := by decide +kernel
theorem dl_835 : decode code 835 = .ok (.aload_n 0, 1) := by decide +kernel
theorem dl_836 : decode code 836 = .ok (.iload 4, 2) := by decide +kernel
theorem dl_838 : decode code 838 = .ok (.iconst 1, 1) := by decide +kernel
theorem dl_839 : decode code 839 = .ok (.iadd, 1) := by decide +kernel
theorem dl_840 : decode code 840 = .ok (.iaload, 1) := by decide +kernel
theorem dl_841 : decode code 841 = .ok (.invokevirtual 108, 3) := by decide +kernel
theorem dl_844 : decode code 844 = .ok (.istore 6, 2) := by decide +kernel
theorem dl_846 : decode code 846 = .ok (.aload_n 2, 1) := by decide +kernel
theorem dl_847 : decode code 847 = .ok (.invokevirtual 69, 3) := by decide +kernel
theorem dl_850 : decode code 850 = .ok (.iload 5, 2) := by decide +kernel
theorem dl_852 : decode code 852 = .ok (.if_icmp .eq 5, 3) := by decide +kernel
theorem dl_855 : decode code 855 = .ok (.iconst 0, 1) := by decide +kernel
theorem dl_856 : decode code 856 = .ok (.ireturn, 1) := by decide +kernel
theorem dl_857 : decode code 857 = .ok (.iload 5, 2) := by decide +kernel
theorem dl_859 : decode code 859 = .ok (.ifCond .ne 15, 3) := by decide +kernel
theorem dl_862 : decode code 862 = .ok (.aload_n 3, 1) := by decide +kernel
theorem dl_863 : decode code 863 = .ok (.iconst 0, 1) := by decide +kernel
theorem dl_864 : decode code 864 = .ok (.laload, 1) := by decide +kernel
theorem dl_865 : decode code 865 = .ok (.iload 6, 2) := by decide +kernel
theorem dl_867 : decode code 867 = .ok (.i2l, 1) := by decide +kernel
theorem dl_868 : decode code 868 = .ok (.lcmp, 1) := by decide +kernel
theorem dl_869 : decode code 869 = .ok (.ifCond .eq 5, 3) := by decide +kernel
theorem dl_872 : decode code 872 = .ok (.iconst 0, 1) := by decide +kernel
theorem dl_873 : decode code 873 = .ok (.ireturn, 1) := by decide +kernel
theorem dl_874 : decode code 874 = .ok (.goto 108, 3) := by decide +kernel
theorem dl_877 : decode code 877 = .ok (.aload_n 1, 1) := by decide +kernel
theorem dl_878 : decode code 878 = .ok (.aload_n 0, 1) := by decide +kernel
theorem dl_879 : decode code 879 = .ok (.iload 4, 2) := by decide +kernel
theorem dl_881 : decode code 881 = .ok (.iconst 1, 1) := by decide +kernel
theorem dl_882 : decode code 882 = .ok (.iadd, 1) := by decide +kernel
theorem dl_883 : decode code 883 = .ok (.iaload, 1) := by decide +kernel
theorem dl_884 : decode code 884 = .ok (.invokevirtual 109, 3) := by decide +kernel
theorem dl_887 : decode code 887 = .ok (.aload_n 2, 1) := by decide +kernel
theorem dl_888 : decode code 888 = .ok (.aload_n 0, 1) := by decide +kernel
theorem dl_889 : decode code 889 = .ok (.iload 4, 2) := by decide +kernel
theorem dl_891 : decode code 891 = .ok (.iconst 1, 1) := by decide +kernel
theorem dl_892 : decode code 892 = .ok (.iadd, 1) := by decide +kernel
theorem dl_893 : decode code 893 = .ok (.iaload, 1) := by decide +kernel
theorem dl_894 : decode code 894 = .ok (.invokevirtual 112, 3) := by decide +kernel
theorem dl_897 : decode code 897 = .ok (.if_icmp .eq 85, 3) := by decide +kernel
theorem dl_900 : decode code 900 = .ok (.iconst 0, 1) := by decide +kernel
theorem dl_901 : decode code 901 = .ok (.ireturn, 1) := by decide +kernel
theorem dl_902 : decode code 902 = .ok (.aload_n 1, 1) := by decide +kernel
theorem dl_903 : decode code 903 = .ok (.invokevirtual 113, 3) := by decide +kernel
theorem dl_906 : decode code 906 = .ok (.aload_n 2, 1) := by decide +kernel
theorem dl_907 : decode code 907 = .ok (.invokevirtual 116, 3) := by decide +kernel
theorem dl_910 : decode code 910 = .ok (.if_icmp .eq 72, 3) := by decide +kernel
theorem dl_913 : decode code 913 = .ok (.iconst 0, 1) := by decide +kernel
theorem dl_914 : decode code 914 = .ok (.ireturn, 1) := by decide +kernel
theorem dl_915 : decode code 915 = .ok (.aload_n 1, 1) := by decide +kernel
theorem dl_916 : decode code 916 = .ok (.aload_n 0, 1) := by decide +kernel
theorem dl_917 : decode code 917 = .ok (.iload 4, 2) := by decide +kernel
theorem dl_919 : decode code 919 = .ok (.iconst 1, 1) := by decide +kernel
theorem dl_920 : decode code 920 = .ok (.iadd, 1) := by decide +kernel
theorem dl_921 : decode code 921 = .ok (.iaload, 1) := by decide +kernel
theorem dl_922 : decode code 922 = .ok (.aload_n 3, 1) := by decide +kernel
theorem dl_923 : decode code 923 = .ok (.invokestatic 117, 3) := by decide +kernel
theorem dl_926 : decode code 926 = .ok (.istore 5, 2) := by decide +kernel
theorem dl_928 : decode code 928 = .ok (.aload_n 2, 1) := by decide +kernel
theorem dl_929 : decode code 929 = .ok (.aload_n 0, 1) := by decide +kernel
theorem dl_930 : decode code 930 = .ok (.iload 4, 2) := by decide +kernel
theorem dl_932 : decode code 932 = .ok (.iconst 1, 1) := by decide +kernel
theorem dl_933 : decode code 933 = .ok (.iadd, 1) := by decide +kernel
theorem dl_934 : decode code 934 = .ok (.iaload, 1) := by decide +kernel
theorem dl_935 : decode code 935 = .ok (.invokevirtual 119, 3) := by decide +kernel
theorem dl_938 : decode code 938 = .ok (.istore 6, 2) := by decide +kernel
theorem dl_940 : decode code 940 = .ok (.aload_n 2, 1) := by decide +kernel
theorem dl_941 : decode code 941 = .ok (.invokevirtual 69, 3) := by decide +kernel
theorem dl_944 : decode code 944 = .ok (.iload 5, 2) := by decide +kernel
theorem dl_946 : decode code 946 = .ok (.if_icmp .eq 5, 3) := by decide +kernel
theorem dl_949 : decode code 949 = .ok (.iconst 0, 1) := by decide +kernel
theorem dl_950 : decode code 950 = .ok (.ireturn, 1) := by decide +kernel
theorem dl_951 : decode code 951 = .ok (.iload 5, 2) := by decide +kernel
theorem dl_953 : decode code 953 = .ok (.ifCond .ne 15, 3) := by decide +kernel
theorem dl_956 : decode code 956 = .ok (.aload_n 3, 1) := by decide +kernel
theorem dl_957 : decode code 957 = .ok (.iconst 0, 1) := by decide +kernel
theorem dl_958 : decode code 958 = .ok (.laload, 1) := by decide +kernel
theorem dl_959 : decode code 959 = .ok (.iload 6, 2) := by decide +kernel
theorem dl_961 : decode code 961 = .ok (.i2l, 1) := by decide +kernel
theorem dl_962 : decode code 962 = .ok (.lcmp, 1) := by decide +kernel
theorem dl_963 : decode code 963 = .ok (.ifCond .eq 5, 3) := by decide +kernel
theorem dl_966 : decode code 966 = .ok (.iconst 0, 1) := by decide +kernel
theorem dl_967 : decode code 967 = .ok (.ireturn, 1) := by decide +kernel
theorem dl_968 : decode code 968 = .ok (.goto 14, 3) := by decide +kernel
theorem dl_971 : decode code 971 = .ok (.aload_n 1, 1) := by decide +kernel
theorem dl_972 : decode code 972 = .ok (.invokevirtual 120, 3) := by decide +kernel
theorem dl_975 : decode code 975 = .ok (.aload_n 2, 1) := by decide +kernel
theorem dl_976 : decode code 976 = .ok (.invokevirtual 123, 3) := by decide +kernel
theorem dl_979 : decode code 979 = .ok (.goto 3, 3) := by decide +kernel
theorem dl_982 : decode code 982 = .ok (.iinc 4 5, 3) := by decide +kernel
theorem dl_985 : decode code 985 = .ok (.goto (-962), 3) := by decide +kernel
theorem dl_988 : decode code 988 = .ok (.iconst 1, 1) := by decide +kernel
theorem dl_989 : decode code 989 = .ok (.ireturn, 1) := by decide +kernel
