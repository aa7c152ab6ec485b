theorem dL_free_3 : decode cL_free 3 = .ok (.invokevirtual 47, 3) := by decide +kernel
theorem dL_free_6 : decode cL_free 6 = .ok (.aload_n 0, 1) := by decide +kernel
theorem dL_free_7 : decode cL_free 7 = .ok (.iload_n 1, 1) := by decide +kernel
theorem dL_free_8 : decode cL_free 8 = .ok (.iconst 3, 1) := by decide +kernel
theorem dL_free_9 : decode cL_free 9 = .ok (.invokevirtual 47, 3) := by decide +kernel
theorem dL_free_12 : decode cL_free 12 = .ok (.isub, 1) := by decide +kernel
theorem dL_free_13 : decode cL_free 13 = .ok (.ireturn, 1) := by decide +kernel
theorem dL_act_0 : decode cL_act 0 = .ok (.iload_n 2, 1) := by decide +kernel
theorem dL_act_1 : decode cL_act 1 = .ok (.bipush 6, 2) := by decide +kernel
theorem dL_act_3 : decode cL_act 3 = .ok (.invokestatic 22, 3) := by decide +kernel
theorem dL_act_6 : decode cL_act 6 = .ok (.istore 4, 2) := by decide +kernel
theorem dL_act_8 : decode cL_act 8 = .ok (.iload_n 2, 1) := by decide +kernel
theorem dL_act_9 : decode cL_act 9 = .ok (.iconst 3, 1) := by decide +kernel
theorem dL_act_10 : decode cL_act 10 = .ok (.ishr, 1) := by decide +kernel
theorem dL_act_11 : decode cL_act 11 = .ok (.bipush 24, 2) := by decide +kernel
theorem dL_act_13 : decode cL_act 13 = .ok (.invokestatic 22, 3) := by decide +kernel
theorem dL_act_16 : decode cL_act 16 = .ok (.istore 5, 2) := by decide +kernel
theorem dL_act_18 : decode cL_act 18 = .ok (.aload_n 0, 1) := by decide +kernel
theorem dL_act_19 : decode cL_act 19 = .ok (.bipush 8, 2) := by decide +kernel
theorem dL_act_21 : decode cL_act 21 = .ok (.invokevirtual 50, 3) := by decide +kernel
theorem dL_act_24 : decode cL_act 24 = .ok (.istore 6, 2) := by decide +kernel
theorem dL_act_26 : decode cL_act 26 = .ok (.iload 5, 2) := by decide +kernel
theorem dL_act_28 : decode cL_act 28 = .ok (.aload_n 0, 1) := by decide +kernel
theorem dL_act_29 : decode cL_act 29 = .ok (.bipush 12, 2) := by decide +kernel
theorem dL_act_31 : decode cL_act 31 = .ok (.invokevirtual 50, 3) := by decide +kernel
theorem dL_act_34 : decode cL_act 34 = .ok (.if_icmp .ge 8, 3) := by decide +kernel
theorem dL_act_37 : decode cL_act 37 = .ok (.iload 6, 2) := by decide +kernel
theorem dL_act_39 : decode cL_act 39 = .ok (.goto 7, 3) := by decide +kernel
theorem dL_act_42 : decode cL_act 42 = .ok (.iload 6, 2) := by decide +kernel
theorem dL_act_44 : decode cL_act 44 = .ok (.iconst 1, 1) := by decide +kernel
theorem dL_act_45 : decode cL_act 45 = .ok (.iadd, 1) := by decide +kernel
theorem dL_act_46 : decode cL_act 46 = .ok (.istore 7, 2) := by decide +kernel
theorem dL_act_48 : decode cL_act 48 = .ok (.iload_n 1, 1) := by decide +kernel
theorem dL_act_49 : decode cL_act 49 = .ok (.bipush 17, 2) := by decide +kernel
theorem dL_act_51 : decode cL_act 51 = .ok (.invokestatic 22, 3) := by decide +kernel
theorem dL_act_54 : decode cL_act 54 = .ok (.tableswitch 1117 0 14 #[74, 74, 74, 185, 185, 185, 363, 629, 691, 905, 905, 905, 910, 1008, 1013], 74) := by decide +kernel
theorem dL_act_128 : decode cL_act 128 = .ok (.iconst 1, 1) := by decide +kernel
theorem dL_act_129 : decode cL_act 129 = .ok (.iload_n 3, 1) := by decide +kernel
theorem dL_act_130 : decode cL_act 130 = .ok (.iload_n 3, 1) := by decide +kernel
theorem dL_act_131 : decode cL_act 131 = .ok (.bipush 20, 2) := by decide +kernel
theorem dL_act_133 : decode cL_act 133 = .ok (.ishr, 1) := by decide +kernel
theorem dL_act_134 : decode cL_act 134 = .ok (.iconst 2, 1) := by decide +kernel
theorem dL_act_135 : decode cL_act 135 = .ok (.invokestatic 22, 3) := by decide +kernel
theorem dL_act_138 : decode cL_act 138 = .ok (.ifCond .ne 8, 3) := by decide +kernel
theorem dL_act_141 : decode cL_act 141 = .ok (.ldc 69, 2) := by decide +kernel
theorem dL_act_143 : decode cL_act 143 = .ok (.goto 6, 3) := by decide +kernel
theorem dL_act_146 : decode cL_act 146 = .ok (.sipush 3000, 3) := by decide +kernel
theorem dL_act_149 : decode cL_act 149 = .ok (.invokestatic 22, 3) := by decide +kernel
theorem dL_act_152 : decode cL_act 152 = .ok (.iadd, 1) := by decide +kernel
theorem dL_act_153 : decode cL_act 153 = .ok (.istore 8, 2) := by decide +kernel
theorem dL_act_155 : decode cL_act 155 = .ok (.aload_n 0, 1) := by decide +kernel
theorem dL_act_156 : decode cL_act 156 = .ok (.bipush 9, 2) := by decide +kernel
theorem dL_act_158 : decode cL_act 158 = .ok (.invokevirtual 50, 3) := by decide +kernel
theorem dL_act_161 : decode cL_act 161 = .ok (.istore 9, 2) := by decide +kernel
theorem dL_act_163 : decode cL_act 163 = .ok (.iload 9, 2) := by decide +kernel
theorem dL_act_165 : decode cL_act 165 = .ok (.bipush 20, 2) := by decide +kernel
theorem dL_act_167 : decode cL_act 167 = .ok (.if_icmp .ne 24, 3) := by decide +kernel
theorem dL_act_170 : decode cL_act 170 = .ok (.aload_n 0, 1) := by decide +kernel
theorem dL_act_171 : decode cL_act 171 = .ok (.iload 4, 2) := by decide +kernel
theorem dL_act_173 : decode cL_act 173 = .ok (.iload 8, 2) := by decide +kernel
theorem dL_act_175 : decode cL_act 175 = .ok (.iload 5, 2) := by decide +kernel
theorem dL_act_177 : decode cL_act 177 = .ok (.invokevirtual 70, 3) := by decide +kernel
theorem dL_act_180 : decode cL_act 180 = .ok (.bipush (-4), 2) := by decide +kernel
theorem dL_act_182 : decode cL_act 182 = .ok (.if_icmp .ne 7, 3) := by decide +kernel
theorem dL_act_185 : decode cL_act 185 = .ok (.iconst 1, 1) := by decide +kernel
theorem dL_act_186 : decode cL_act 186 = .ok (.goto 4, 3) := by decide +kernel
theorem dL_act_189 : decode cL_act 189 = .ok (.iconst 0, 1) := by decide +kernel
theorem dL_act_190 : decode cL_act 190 = .ok (.ireturn, 1) := by decide +kernel
theorem dL_act_191 : decode cL_act 191 = .ok (.aload_n 0, 1) := by decide +kernel
theorem dL_act_192 : decode cL_act 192 = .ok (.iload 4, 2) := by decide +kernel
theorem dL_act_194 : decode cL_act 194 = .ok (.iload 8, 2) := by decide +kernel
theorem dL_act_196 : decode cL_act 196 = .ok (.iload 5, 2) := by decide +kernel
theorem dL_act_198 : decode cL_act 198 = .ok (.invokevirtual 70, 3) := by decide +kernel
theorem dL_act_201 : decode cL_act 201 = .ok (.iload 7, 2) := by decide +kernel
theorem dL_act_203 : decode cL_act 203 = .ok (.if_icmp .ne 34, 3) := by decide +kernel
theorem dL_act_206 : decode cL_act 206 = .ok (.aload_n 0, 1) := by decide +kernel
theorem dL_act_207 : decode cL_act 207 = .ok (.bipush 9, 2) := by decide +kernel
theorem dL_act_209 : decode cL_act 209 = .ok (.invokevirtual 50, 3) := by decide +kernel
theorem dL_act_212 : decode cL_act 212 = .ok (.iload 9, 2) := by decide +kernel
theorem dL_act_214 : decode cL_act 214 = .ok (.iconst 1, 1) := by decide +kernel
theorem dL_act_215 : decode cL_act 215 = .ok (.iadd, 1) := by decide +kernel
theorem dL_act_216 : decode cL_act 216 = .ok (.if_icmp .ne 21, 3) := by decide +kernel
theorem dL_act_219 : decode cL_act 219 = .ok (.aload_n 0, 1) := by decide +kernel
theorem dL_act_220 : decode cL_act 220 = .ok (.iconst 0, 1) := by decide +kernel
theorem dL_act_221 : decode cL_act 221 = .ok (.iload 4, 2) := by decide +kernel
theorem dL_act_223 : decode cL_act 223 = .ok (.iload 8, 2) := by decide +kernel
theorem dL_act_225 : decode cL_act 225 = .ok (.iload 7, 2) := by decide +kernel
theorem dL_act_227 : decode cL_act 227 = .ok (.invokestatic 73, 3) := by decide +kernel
theorem dL_act_230 : decode cL_act 230 = .ok (.ifCond .eq 7, 3) := by decide +kernel
theorem dL_act_233 : decode cL_act 233 = .ok (.iconst 1, 1) := by decide +kernel
theorem dL_act_234 : decode cL_act 234 = .ok (.goto 4, 3) := by decide +kernel
theorem dL_act_237 : decode cL_act 237 = .ok (.iconst 0, 1) := by decide +kernel
theorem dL_act_238 : decode cL_act 238 = .ok (.ireturn, 1) := by decide +kernel
theorem dL_act_239 : decode cL_act 239 = .ok (.aload_n 0, 1) := by decide +kernel
theorem dL_act_240 : decode cL_act 240 = .ok (.iload 4, 2) := by decide +kernel
theorem dL_act_242 : decode cL_act 242 = .ok (.invokestatic 77, 3) := by decide +kernel
theorem dL_act_245 : decode cL_act 245 = .ok (.istore 8, 2) := by decide +kernel
theorem dL_act_247 : decode cL_act 247 = .ok (.iconst 1, 1) := by decide +kernel
theorem dL_act_248 : decode cL_act 248 = .ok (.iload_n 3, 1) := by decide +kernel
theorem dL_act_249 : decode cL_act 249 = .ok (.iload 8, 2) := by decide +kernel
theorem dL_act_251 : decode cL_act 251 = .ok (.iload 8, 2) := by decide +kernel
theorem dL_act_253 : decode cL_act 253 = .ok (.iconst 3, 1) := by decide +kernel
theorem dL_act_254 : decode cL_act 254 = .ok (.if_icmp .le 7, 3) := by decide +kernel
theorem dL_act_257 : decode cL_act 257 = .ok (.iconst 0, 1) := by decide +kernel
theorem dL_act_258 : decode cL_act 258 = .ok (.goto 4, 3) := by decide +kernel
theorem dL_act_261 : decode cL_act 261 = .ok (.iconst 2, 1) := by decide +kernel
theorem dL_act_262 : decode cL_act 262 = .ok (.iadd, 1) := by decide +kernel
theorem dL_act_263 : decode cL_act 263 = .ok (.invokestatic 22, 3) := by decide +kernel
theorem dL_act_266 : decode cL_act 266 = .ok (.iadd, 1) := by decide +kernel
theorem dL_act_267 : decode cL_act 267 = .ok (.istore 9, 2) := by decide +kernel
theorem dL_act_269 : decode cL_act 269 = .ok (.aload_n 0, 1) := by decide +kernel
theorem dL_act_270 : decode cL_act 270 = .ok (.bipush 10, 2) := by decide +kernel
theorem dL_act_272 : decode cL_act 272 = .ok (.invokevirtual 50, 3) := by decide +kernel
theorem dL_act_275 : decode cL_act 275 = .ok (.istore 10, 2) := by decide +kernel
theorem dL_act_277 : decode cL_act 277 = .ok (.aload_n 0, 1) := by decide +kernel
theorem dL_act_278 : decode cL_act 278 = .ok (.bipush 11, 2) := by decide +kernel
theorem dL_act_280 : decode cL_act 280 = .ok (.invokevirtual 50, 3) := by decide +kernel
theorem dL_act_283 : decode cL_act 283 = .ok (.istore 11, 2) := by decide +kernel
theorem dL_act_285 : decode cL_act 285 = .ok (.iload 10, 2) := by decide +kernel
theorem dL_act_287 : decode cL_act 287 = .ok (.bipush 20, 2) := by decide +kernel
theorem dL_act_289 : decode cL_act 289 = .ok (.if_icmp .ne 24, 3) := by decide +kernel
theorem dL_act_292 : decode cL_act 292 = .ok (.aload_n 0, 1) := by decide +kernel
theorem dL_act_293 : decode cL_act 293 = .ok (.iload 4, 2) := by decide +kernel
theorem dL_act_295 : decode cL_act 295 = .ok (.iload 9, 2) := by decide +kernel
theorem dL_act_297 : decode cL_act 297 = .ok (.iload 5, 2) := by decide +kernel
theorem dL_act_299 : decode cL_act 299 = .ok (.invokevirtual 81, 3) := by decide +kernel
theorem dL_act_302 : decode cL_act 302 = .ok (.bipush (-4), 2) := by decide +kernel
theorem dL_act_304 : decode cL_act 304 = .ok (.if_icmp .ne 7, 3) := by decide +kernel
theorem dL_act_307 : decode cL_act 307 = .ok (.iconst 1, 1) := by decide +kernel
theorem dL_act_308 : decode cL_act 308 = .ok (.goto 4, 3) := by decide +kernel
theorem dL_act_311 : decode cL_act 311 = .ok (.iconst 0, 1) := by decide +kernel
theorem dL_act_312 : decode cL_act 312 = .ok (.ireturn, 1) := by decide +kernel
theorem dL_act_313 : decode cL_act 313 = .ok (.iload 9, 2) := by decide +kernel
theorem dL_act_315 : decode cL_act 315 = .ok (.iload 8, 2) := by decide +kernel
theorem dL_act_317 : decode cL_act 317 = .ok (.if_icmp .le 24, 3) := by decide +kernel
theorem dL_act_320 : decode cL_act 320 = .ok (.aload_n 0, 1) := by decide +kernel
theorem dL_act_321 : decode cL_act 321 = .ok (.iload 4, 2) := by decide +kernel
theorem dL_act_323 : decode cL_act 323 = .ok (.iload 9, 2) := by decide +kernel
theorem dL_act_325 : decode cL_act 325 = .ok (.iload 5, 2) := by decide +kernel
theorem dL_act_327 : decode cL_act 327 = .ok (.invokevirtual 81, 3) := by decide +kernel
theorem dL_act_330 : decode cL_act 330 = .ok (.bipush (-5), 2) := by decide +kernel
theorem dL_act_332 : decode cL_act 332 = .ok (.if_icmp .ne 7, 3) := by decide +kernel
theorem dL_act_335 : decode cL_act 335 = .ok (.iconst 1, 1) := by decide +kernel
theorem dL_act_336 : decode cL_act 336 = .ok (.goto 4, 3) := by decide +kernel
theorem dL_act_339 : decode cL_act 339 = .ok (.iconst 0, 1) := by decide +kernel
theorem dL_act_340 : decode cL_act 340 = .ok (.ireturn, 1) := by decide +kernel
theorem dL_act_341 : decode cL_act 341 = .ok (.aload_n 0, 1) := by decide +kernel
theorem dL_act_342 : decode cL_act 342 = .ok (.iload 4, 2) := by decide +kernel
theorem dL_act_344 : decode cL_act 344 = .ok (.iload 9, 2) := by decide +kernel
theorem dL_act_346 : decode cL_act 346 = .ok (.iload 5, 2) := by decide +kernel
theorem dL_act_348 : decode cL_act 348 = .ok (.invokevirtual 81, 3) := by decide +kernel
theorem dL_act_351 : decode cL_act 351 = .ok (.iload 7, 2) := by decide +kernel
theorem dL_act_353 : decode cL_act 353 = .ok (.if_icmp .ne 62, 3) := by decide +kernel
theorem dL_act_356 : decode cL_act 356 = .ok (.aload_n 0, 1) := by decide +kernel
theorem dL_act_357 : decode cL_act 357 = .ok (.bipush 10, 2) := by decide +kernel
theorem dL_act_359 : decode cL_act 359 = .ok (.invokevirtual 50, 3) := by decide +kernel
theorem dL_act_362 : decode cL_act 362 = .ok (.iload 10, 2) := by decide +kernel
theorem dL_act_364 : decode cL_act 364 = .ok (.iconst 1, 1) := by decide +kernel
theorem dL_act_365 : decode cL_act 365 = .ok (.iadd, 1) := by decide +kernel
theorem dL_act_366 : decode cL_act 366 = .ok (.if_icmp .ne 49, 3) := by decide +kernel
theorem dL_act_369 : decode cL_act 369 = .ok (.aload_n 0, 1) := by decide +kernel
theorem dL_act_370 : decode cL_act 370 = .ok (.bipush 11, 2) := by decide +kernel
theorem dL_act_372 : decode cL_act 372 = .ok (.invokevirtual 50, 3) := by decide +kernel
theorem dL_act_375 : decode cL_act 375 = .ok (.iload 11, 2) := by decide +kernel
theorem dL_act_377 : decode cL_act 377 = .ok (.iload 9, 2) := by decide +kernel
theorem dL_act_379 : decode cL_act 379 = .ok (.iadd, 1) := by decide +kernel
theorem dL_act_380 : decode cL_act 380 = .ok (.if_icmp .ne 35, 3) := by decide +kernel
theorem dL_act_383 : decode cL_act 383 = .ok (.aload_n 0, 1) := by decide +kernel
theorem dL_act_384 : decode cL_act 384 = .ok (.iload 4, 2) := by decide +kernel
theorem dL_act_386 : decode cL_act 386 = .ok (.invokestatic 77, 3) := by decide +kernel
theorem dL_act_389 : decode cL_act 389 = .ok (.iload 8, 2) := by decide +kernel
theorem dL_act_391 : decode cL_act 391 = .ok (.iload 9, 2) := by decide +kernel
theorem dL_act_393 : decode cL_act 393 = .ok (.isub, 1) := by decide +kernel
theorem dL_act_394 : decode cL_act 394 = .ok (.if_icmp .ne 21, 3) := by decide +kernel
theorem dL_act_397 : decode cL_act 397 = .ok (.aload_n 0, 1) := by decide +kernel
theorem dL_act_398 : decode cL_act 398 = .ok (.iconst 1, 1) := by decide +kernel
theorem dL_act_399 : decode cL_act 399 = .ok (.iload 4, 2) := by decide +kernel
theorem dL_act_401 : decode cL_act 401 = .ok (.iload 9, 2) := by decide +kernel
theorem dL_act_403 : decode cL_act 403 = .ok (.iload 7, 2) := by decide +kernel
theorem dL_act_405 : decode cL_act 405 = .ok (.invokestatic 73, 3) := by decide +kernel
theorem dL_act_408 : decode cL_act 408 = .ok (.ifCond .eq 7, 3) := by decide +kernel
theorem dL_act_411 : decode cL_act 411 = .ok (.iconst 1, 1) := by decide +kernel
theorem dL_act_412 : decode cL_act 412 = .ok (.goto 4, 3) := by decide +kernel
theorem dL_act_415 : decode cL_act 415 = .ok (.iconst 0, 1) := by decide +kernel
theorem dL_act_416 : decode cL_act 416 = .ok (.ireturn, 1) := by decide +kernel
theorem dL_act_417 : decode cL_act 417 = .ok (.aload_n 0, 1) := by decide +kernel
theorem dL_act_418 : decode cL_act 418 = .ok (.iload 4, 2) := by decide +kernel
theorem dL_act_420 : decode cL_act 420 = .ok (.invokestatic 77, 3) := by decide +kernel
theorem dL_act_423 : decode cL_act 423 = .ok (.istore 8, 2) := by decide +kernel
theorem dL_act_425 : decode cL_act 425 = .ok (.iconst 1, 1) := by decide +kernel
theorem dL_act_426 : decode cL_act 426 = .ok (.iload_n 3, 1) := by decide +kernel
theorem dL_act_427 : decode cL_act 427 = .ok (.iload 8, 2) := by decide +kernel
theorem dL_act_429 : decode cL_act 429 = .ok (.iconst 1, 1) := by decide +kernel
theorem dL_act_430 : decode cL_act 430 = .ok (.iadd, 1) := by decide +kernel
theorem dL_act_431 : decode cL_act 431 = .ok (.invokestatic 22, 3) := by decide +kernel
theorem dL_act_434 : decode cL_act 434 = .ok (.iadd, 1) := by decide +kernel
theorem dL_act_435 : decode cL_act 435 = .ok (.istore 9, 2) := by decide +kernel
theorem dL_act_437 : decode cL_act 437 = .ok (.iload 9, 2) := by decide +kernel
theorem dL_act_439 : decode cL_act 439 = .ok (.iload 8, 2) := by decide +kernel
theorem dL_act_441 : decode cL_act 441 = .ok (.if_icmp .le 22, 3) := by decide +kernel
theorem dL_act_444 : decode cL_act 444 = .ok (.aload_n 0, 1) := by decide +kernel
theorem dL_act_445 : decode cL_act 445 = .ok (.iload 4, 2) := by decide +kernel
theorem dL_act_447 : decode cL_act 447 = .ok (.iload 9, 2) := by decide +kernel
theorem dL_act_449 : decode cL_act 449 = .ok (.invokevirtual 84, 3) := by decide +kernel
theorem dL_act_452 : decode cL_act 452 = .ok (.bipush (-5), 2) := by decide +kernel
theorem dL_act_454 : decode cL_act 454 = .ok (.if_icmp .ne 7, 3) := by decide +kernel
theorem dL_act_457 : decode cL_act 457 = .ok (.iconst 1, 1) := by decide +kernel
theorem dL_act_458 : decode cL_act 458 = .ok (.goto 4, 3) := by decide +kernel
theorem dL_act_461 : decode cL_act 461 = .ok (.iconst 0, 1) := by decide +kernel
theorem dL_act_462 : decode cL_act 462 = .ok (.ireturn, 1) := by decide +kernel
theorem dL_act_463 : decode cL_act 463 = .ok (.iload 9, 2) := by decide +kernel
theorem dL_act_465 : decode cL_act 465 = .ok (.i2l, 1) := by decide +kernel
theorem dL_act_466 : decode cL_act 466 = .ok (.aload_n 0, 1) := by decide +kernel
theorem dL_act_467 : decode cL_act 467 = .ok (.iconst 0, 1) := by decide +kernel
theorem dL_act_468 : decode cL_act 468 = .ok (.invokevirtual 50, 3) := by decide +kernel
theorem dL_act_471 : decode cL_act 471 = .ok (.i2l, 1) := by decide +kernel
theorem dL_act_472 : decode cL_act 472 = .ok (.lmul, 1) := by decide +kernel
theorem dL_act_473 : decode cL_act 473 = .ok (.aload_n 0, 1) := by decide +kernel
theorem dL_act_474 : decode cL_act 474 = .ok (.iconst 4, 1) := by decide +kernel
theorem dL_act_475 : decode cL_act 475 = .ok (.invokevirtual 50, 3) := by decide +kernel
theorem dL_act_478 : decode cL_act 478 = .ok (.i2l, 1) := by decide +kernel
theorem dL_act_479 : decode cL_act 479 = .ok (.ldiv, 1) := by decide +kernel
theorem dL_act_480 : decode cL_act 480 = .ok (.lstore 10, 2) := by decide +kernel
theorem dL_act_482 : decode cL_act 482 = .ok (.iload 9, 2) := by decide +kernel
theorem dL_act_484 : decode cL_act 484 = .ok (.i2l, 1) := by decide +kernel
theorem dL_act_485 : decode cL_act 485 = .ok (.aload_n 0, 1) := by decide +kernel
theorem dL_act_486 : decode cL_act 486 = .ok (.iconst 1, 1) := by decide +kernel
theorem dL_act_487 : decode cL_act 487 = .ok (.invokevirtual 50, 3) := by decide +kernel
theorem dL_act_490 : decode cL_act 490 = .ok (.i2l, 1) := by decide +kernel
theorem dL_act_491 : decode cL_act 491 = .ok (.lmul, 1) := by decide +kernel
theorem dL_act_492 : decode cL_act 492 = .ok (.aload_n 0, 1) := by decide +kernel
theorem dL_act_493 : decode cL_act 493 = .ok (.iconst 4, 1) := by decide +kernel
theorem dL_act_494 : decode cL_act 494 = .ok (.invokevirtual 50, 3) := by decide +kernel
theorem dL_act_497 : decode cL_act 497 = .ok (.i2l, 1) := by decide +kernel
theorem dL_act_498 : decode cL_act 498 = .ok (.ldiv, 1) := by decide +kernel
theorem dL_act_499 : decode cL_act 499 = .ok (.lstore 12, 2) := by decide +kernel
theorem dL_act_501 : decode cL_act 501 = .ok (.aload_n 0, 1) := by decide +kernel
theorem dL_act_502 : decode cL_act 502 = .ok (.iload 4, 2) := by decide +kernel
theorem dL_act_504 : decode cL_act 504 = .ok (.iconst 5, 1) := by decide +kernel
theorem dL_act_505 : decode cL_act 505 = .ok (.invokevirtual 47, 3) := by decide +kernel
theorem dL_act_508 : decode cL_act 508 = .ok (.istore 14, 2) := by decide +kernel
theorem dL_act_510 : decode cL_act 510 = .ok (.aload_n 0, 1) := by decide +kernel
theorem dL_act_511 : decode cL_act 511 = .ok (.iload 4, 2) := by decide +kernel
theorem dL_act_513 : decode cL_act 513 = .ok (.bipush 8, 2) := by decide +kernel
theorem dL_act_515 : decode cL_act 515 = .ok (.invokevirtual 47, 3) := by decide +kernel
theorem dL_act_518 : decode cL_act 518 = .ok (.istore 15, 2) := by decide +kernel
theorem dL_act_520 : decode cL_act 520 = .ok (.aload_n 0, 1) := by decide +kernel
theorem dL_act_521 : decode cL_act 521 = .ok (.iload 4, 2) := by decide +kernel
theorem dL_act_523 : decode cL_act 523 = .ok (.iconst 0, 1) := by decide +kernel
theorem dL_act_524 : decode cL_act 524 = .ok (.invokevirtual 47, 3) := by decide +kernel
theorem dL_act_527 : decode cL_act 527 = .ok (.istore 16, 2) := by decide +kernel
theorem dL_act_529 : decode cL_act 529 = .ok (.aload_n 0, 1) := by decide +kernel
theorem dL_act_530 : decode cL_act 530 = .ok (.iload 4, 2) := by decide +kernel
theorem dL_act_532 : decode cL_act 532 = .ok (.iconst 1, 1) := by decide +kernel
theorem dL_act_533 : decode cL_act 533 = .ok (.invokevirtual 47, 3) := by decide +kernel
theorem dL_act_536 : decode cL_act 536 = .ok (.istore 17, 2) := by decide +kernel
theorem dL_act_538 : decode cL_act 538 = .ok (.aload_n 0, 1) := by decide +kernel
theorem dL_act_539 : decode cL_act 539 = .ok (.iconst 0, 1) := by decide +kernel
theorem dL_act_540 : decode cL_act 540 = .ok (.invokevirtual 50, 3) := by decide +kernel
theorem dL_act_543 : decode cL_act 543 = .ok (.istore 18, 2) := by decide +kernel
theorem dL_act_545 : decode cL_act 545 = .ok (.aload_n 0, 1) := by decide +kernel
theorem dL_act_546 : decode cL_act 546 = .ok (.iconst 1, 1) := by decide +kernel
theorem dL_act_547 : decode cL_act 547 = .ok (.invokevirtual 50, 3) := by decide +kernel
theorem dL_act_550 : decode cL_act 550 = .ok (.istore 19, 2) := by decide +kernel
theorem dL_act_552 : decode cL_act 552 = .ok (.aload_n 0, 1) := by decide +kernel
theorem dL_act_553 : decode cL_act 553 = .ok (.iload 4, 2) := by decide +kernel
theorem dL_act_555 : decode cL_act 555 = .ok (.iload 9, 2) := by decide +kernel
theorem dL_act_557 : decode cL_act 557 = .ok (.invokevirtual 84, 3) := by decide +kernel
theorem dL_act_560 : decode cL_act 560 = .ok (.i2l, 1) := by decide +kernel
theorem dL_act_561 : decode cL_act 561 = .ok (.lload 12, 2) := by decide +kernel
theorem dL_act_563 : decode cL_act 563 = .ok (.lcmp, 1) := by decide +kernel
theorem dL_act_564 : decode cL_act 564 = .ok (.ifCond .ne 117, 3) := by decide +kernel
theorem dL_act_567 : decode cL_act 567 = .ok (.aload_n 0, 1) := by decide +kernel
theorem dL_act_568 : decode cL_act 568 = .ok (.iload 4, 2) := by decide +kernel
theorem dL_act_570 : decode cL_act 570 = .ok (.iconst 5, 1) := by decide +kernel
theorem dL_act_571 : decode cL_act 571 = .ok (.invokevirtual 47, 3) := by decide +kernel
theorem dL_act_574 : decode cL_act 574 = .ok (.i2l, 1) := by decide +kernel
theorem dL_act_575 : decode cL_act 575 = .ok (.iload 14, 2) := by decide +kernel
theorem dL_act_577 : decode cL_act 577 = .ok (.i2l, 1) := by decide +kernel
theorem dL_act_578 : decode cL_act 578 = .ok (.lload 10, 2) := by decide +kernel
theorem dL_act_580 : decode cL_act 580 = .ok (.ladd, 1) := by decide +kernel
theorem dL_act_581 : decode cL_act 581 = .ok (.lcmp, 1) := by decide +kernel
theorem dL_act_582 : decode cL_act 582 = .ok (.ifCond .ne 99, 3) := by decide +kernel
theorem dL_act_585 : decode cL_act 585 = .ok (.aload_n 0, 1) := by decide +kernel
theorem dL_act_586 : decode cL_act 586 = .ok (.iload 4, 2) := by decide +kernel
theorem dL_act_588 : decode cL_act 588 = .ok (.bipush 8, 2) := by decide +kernel
theorem dL_act_590 : decode cL_act 590 = .ok (.invokevirtual 47, 3) := by decide +kernel
theorem dL_act_593 : decode cL_act 593 = .ok (.i2l, 1) := by decide +kernel
theorem dL_act_594 : decode cL_act 594 = .ok (.iload 15, 2) := by decide +kernel
theorem dL_act_596 : decode cL_act 596 = .ok (.i2l, 1) := by decide +kernel
theorem dL_act_597 : decode cL_act 597 = .ok (.lload 12, 2) := by decide +kernel
theorem dL_act_599 : decode cL_act 599 = .ok (.ladd, 1) := by decide +kernel
theorem dL_act_600 : decode cL_act 600 = .ok (.lcmp, 1) := by decide +kernel
theorem dL_act_601 : decode cL_act 601 = .ok (.ifCond .ne 80, 3) := by decide +kernel
theorem dL_act_604 : decode cL_act 604 = .ok (.aload_n 0, 1) := by decide +kernel
theorem dL_act_605 : decode cL_act 605 = .ok (.iconst 0, 1) := by decide +kernel
theorem dL_act_606 : decode cL_act 606 = .ok (.invokevirtual 50, 3) := by decide +kernel
theorem dL_act_609 : decode cL_act 609 = .ok (.i2l, 1) := by decide +kernel
theorem dL_act_610 : decode cL_act 610 = .ok (.iload 18, 2) := by decide +kernel
theorem dL_act_612 : decode cL_act 612 = .ok (.i2l, 1) := by decide +kernel
theorem dL_act_613 : decode cL_act 613 = .ok (.lload 10, 2) := by decide +kernel
theorem dL_act_615 : decode cL_act 615 = .ok (.lsub, 1) := by decide +kernel
theorem dL_act_616 : decode cL_act 616 = .ok (.lcmp, 1) := by decide +kernel
theorem dL_act_617 : decode cL_act 617 = .ok (.ifCond .ne 64, 3) := by decide +kernel
theorem dL_act_620 : decode cL_act 620 = .ok (.aload_n 0, 1) := by decide +kernel
theorem dL_act_621 : decode cL_act 621 = .ok (.iconst 1, 1) := by decide +kernel
theorem dL_act_622 : decode cL_act 622 = .ok (.invokevirtual 50, 3) := by decide +kernel
theorem dL_act_625 : decode cL_act 625 = .ok (.i2l, 1) := by decide +kernel
theorem dL_act_626 : decode cL_act 626 = .ok (.iload 19, 2) := by decide +kernel
theorem dL_act_628 : decode cL_act 628 = .ok (.i2l, 1) := by decide +kernel
theorem dL_act_629 : decode cL_act 629 = .ok (.lload 12, 2) := by decide +kernel
theorem dL_act_631 : decode cL_act 631 = .ok (.lsub, 1) := by decide +kernel
theorem dL_act_632 : decode cL_act 632 = .ok (.lcmp, 1) := by decide +kernel
theorem dL_act_633 : decode cL_act 633 = .ok (.ifCond .ne 48, 3) := by decide +kernel
theorem dL_act_636 : decode cL_act 636 = .ok (.aload_n 0, 1) := by decide +kernel
theorem dL_act_637 : decode cL_act 637 = .ok (.iload 4, 2) := by decide +kernel
theorem dL_act_639 : decode cL_act 639 = .ok (.iconst 0, 1) := by decide +kernel
theorem dL_act_640 : decode cL_act 640 = .ok (.invokevirtual 47, 3) := by decide +kernel
theorem dL_act_643 : decode cL_act 643 = .ok (.iload 16, 2) := by decide +kernel
theorem dL_act_645 : decode cL_act 645 = .ok (.iload 9, 2) := by decide +kernel
theorem dL_act_647 : decode cL_act 647 = .ok (.isub, 1) := by decide +kernel
theorem dL_act_648 : decode cL_act 648 = .ok (.if_icmp .ne 33, 3) := by decide +kernel
theorem dL_act_651 : decode cL_act 651 = .ok (.aload_n 0, 1) := by decide +kernel
theorem dL_act_652 : decode cL_act 652 = .ok (.iload 4, 2) := by decide +kernel
theorem dL_act_654 : decode cL_act 654 = .ok (.iconst 1, 1) := by decide +kernel
theorem dL_act_655 : decode cL_act 655 = .ok (.invokevirtual 47, 3) := by decide +kernel
theorem dL_act_658 : decode cL_act 658 = .ok (.iload 17, 2) := by decide +kernel
theorem dL_act_660 : decode cL_act 660 = .ok (.iload 9, 2) := by decide +kernel
theorem dL_act_662 : decode cL_act 662 = .ok (.if_icmp .le 11, 3) := by decide +kernel
theorem dL_act_665 : decode cL_act 665 = .ok (.iload 17, 2) := by decide +kernel
theorem dL_act_667 : decode cL_act 667 = .ok (.iload 9, 2) := by decide +kernel
theorem dL_act_669 : decode cL_act 669 = .ok (.isub, 1) := by decide +kernel
theorem dL_act_670 : decode cL_act 670 = .ok (.goto 4, 3) := by decide +kernel
theorem dL_act_673 : decode cL_act 673 = .ok (.iconst 0, 1) := by decide +kernel
theorem dL_act_674 : decode cL_act 674 = .ok (.if_icmp .ne 7, 3) := by decide +kernel
theorem dL_act_677 : decode cL_act 677 = .ok (.iconst 1, 1) := by decide +kernel
theorem dL_act_678 : decode cL_act 678 = .ok (.goto 4, 3) := by decide +kernel
theorem dL_act_681 : decode cL_act 681 = .ok (.iconst 0, 1) := by decide +kernel
theorem dL_act_682 : decode cL_act 682 = .ok (.ireturn, 1) := by decide +kernel
theorem dL_act_683 : decode cL_act 683 = .ok (.iconst 1, 1) := by decide +kernel
theorem dL_act_684 : decode cL_act 684 = .ok (.iload_n 3, 1) := by decide +kernel
theorem dL_act_685 : decode cL_act 685 = .ok (.iload_n 3, 1) := by decide +kernel
theorem dL_act_686 : decode cL_act 686 = .ok (.bipush 20, 2) := by decide +kernel
theorem dL_act_688 : decode cL_act 688 = .ok (.ishr, 1) := by decide +kernel
theorem dL_act_689 : decode cL_act 689 = .ok (.iconst 2, 1) := by decide +kernel
theorem dL_act_690 : decode cL_act 690 = .ok (.invokestatic 22, 3) := by decide +kernel
theorem dL_act_693 : decode cL_act 693 = .ok (.ifCond .ne 9, 3) := by decide +kernel
theorem dL_act_696 : decode cL_act 696 = .ok (.sipush 10000, 3) := by decide +kernel
theorem dL_act_699 : decode cL_act 699 = .ok (.goto 6, 3) := by decide +kernel
theorem dL_act_702 : decode cL_act 702 = .ok (.sipush 1500, 3) := by decide +kernel
theorem dL_act_705 : decode cL_act 705 = .ok (.invokestatic 22, 3) := by decide +kernel
theorem dL_act_708 : decode cL_act 708 = .ok (.iadd, 1) := by decide +kernel
theorem dL_act_709 : decode cL_act 709 = .ok (.istore 8, 2) := by decide +kernel
theorem dL_act_711 : decode cL_act 711 = .ok (.aload_n 0, 1) := by decide +kernel
theorem dL_act_712 : decode cL_act 712 = .ok (.iconst 2, 1) := by decide +kernel
theorem dL_act_713 : decode cL_act 713 = .ok (.invokevirtual 50, 3) := by decide +kernel
theorem dL_act_716 : decode cL_act 716 = .ok (.istore 9, 2) := by decide +kernel
theorem dL_act_718 : decode cL_act 718 = .ok (.aload_n 0, 1) := by decide +kernel
theorem dL_act_719 : decode cL_act 719 = .ok (.iload 8, 2) := by decide +kernel
theorem dL_act_721 : decode cL_act 721 = .ok (.invokevirtual 87, 3) := by decide +kernel
theorem dL_act_724 : decode cL_act 724 = .ok (.iload 9, 2) := by decide +kernel
theorem dL_act_726 : decode cL_act 726 = .ok (.if_icmp .ne 17, 3) := by decide +kernel
theorem dL_act_729 : decode cL_act 729 = .ok (.aload_n 0, 1) := by decide +kernel
theorem dL_act_730 : decode cL_act 730 = .ok (.iconst 2, 1) := by decide +kernel
theorem dL_act_731 : decode cL_act 731 = .ok (.invokevirtual 50, 3) := by decide +kernel
theorem dL_act_734 : decode cL_act 734 = .ok (.iload 8, 2) := by decide +kernel
theorem dL_act_736 : decode cL_act 736 = .ok (.if_icmp .ne 7, 3) := by decide +kernel
theorem dL_act_739 : decode cL_act 739 = .ok (.iconst 1, 1) := by decide +kernel
theorem dL_act_740 : decode cL_act 740 = .ok (.goto 4, 3) := by decide +kernel
theorem dL_act_743 : decode cL_act 743 = .ok (.iconst 0, 1) := by decide +kernel
theorem dL_act_744 : decode cL_act 744 = .ok (.ireturn, 1) := by decide +kernel
theorem dL_act_745 : decode cL_act 745 = .ok (.iload_n 3, 1) := by decide +kernel
theorem dL_act_746 : decode cL_act 746 = .ok (.iconst 2, 1) := by decide +kernel
theorem dL_act_747 : decode cL_act 747 = .ok (.invokestatic 22, 3) := by decide +kernel
theorem dL_act_750 : decode cL_act 750 = .ok (.ifCond .ne 16, 3) := by decide +kernel
theorem dL_act_753 : decode cL_act 753 = .ok (.iconst 1, 1) := by decide +kernel
theorem dL_act_754 : decode cL_act 754 = .ok (.iload_n 3, 1) := by decide +kernel
theorem dL_act_755 : decode cL_act 755 = .ok (.iconst 1, 1) := by decide +kernel
theorem dL_act_756 : decode cL_act 756 = .ok (.ishr, 1) := by decide +kernel
theorem dL_act_757 : decode cL_act 757 = .ok (.bipush 40, 2) := by decide +kernel
theorem dL_act_759 : decode cL_act 759 = .ok (.invokestatic 22, 3) := by decide +kernel
theorem dL_act_762 : decode cL_act 762 = .ok (.iadd, 1) := by decide +kernel
theorem dL_act_763 : decode cL_act 763 = .ok (.goto 13, 3) := by decide +kernel
theorem dL_act_766 : decode cL_act 766 = .ok (.iconst (-1), 1) := by decide +kernel
theorem dL_act_767 : decode cL_act 767 = .ok (.iload_n 3, 1) := by decide +kernel
theorem dL_act_768 : decode cL_act 768 = .ok (.iconst 1, 1) := by decide +kernel
theorem dL_act_769 : decode cL_act 769 = .ok (.ishr, 1) := by decide +kernel
theorem dL_act_770 : decode cL_act 770 = .ok (.bipush 40, 2) := by decide +kernel
theorem dL_act_772 : decode cL_act 772 = .ok (.invokestatic 22, 3) := by decide +kernel
theorem dL_act_775 : decode cL_act 775 = .ok (.isub, 1) := by decide +kernel
theorem dL_act_776 : decode cL_act 776 = .ok (.istore 8, 2) := by decide +kernel
theorem dL_act_778 : decode cL_act 778 = .ok (.aload_n 0, 1) := by decide +kernel
theorem dL_act_779 : decode cL_act 779 = .ok (.iconst 1, 1) := by decide +kernel
theorem dL_act_780 : decode cL_act 780 = .ok (.invokevirtual 50, 3) := by decide +kernel
theorem dL_act_783 : decode cL_act 783 = .ok (.istore 9, 2) := by decide +kernel
theorem dL_act_785 : decode cL_act 785 = .ok (.iload 8, 2) := by decide +kernel
theorem dL_act_787 : decode cL_act 787 = .ok (.ifCond .le 22, 3) := by decide +kernel
theorem dL_act_790 : decode cL_act 790 = .ok (.iload 8, 2) := by decide +kernel
theorem dL_act_792 : decode cL_act 792 = .ok (.ineg, 1) := by decide +kernel
theorem dL_act_793 : decode cL_act 793 = .ok (.i2l, 1) := by decide +kernel
theorem dL_act_794 : decode cL_act 794 = .ok (.aload_n 0, 1) := by decide +kernel
theorem dL_act_795 : decode cL_act 795 = .ok (.iconst 2, 1) := by decide +kernel
theorem dL_act_796 : decode cL_act 796 = .ok (.invokevirtual 50, 3) := by decide +kernel
theorem dL_act_799 : decode cL_act 799 = .ok (.i2l, 1) := by decide +kernel
theorem dL_act_800 : decode cL_act 800 = .ok (.aload_n 0, 1) := by decide +kernel
theorem dL_act_801 : decode cL_act 801 = .ok (.invokestatic 90, 3) := by decide +kernel
theorem dL_act_804 : decode cL_act 804 = .ok (.ladd, 1) := by decide +kernel
theorem dL_act_805 : decode cL_act 805 = .ok (.lmul, 1) := by decide +kernel
theorem dL_act_806 : decode cL_act 806 = .ok (.goto 19, 3) := by decide +kernel
theorem dL_act_809 : decode cL_act 809 = .ok (.iload 8, 2) := by decide +kernel
theorem dL_act_811 : decode cL_act 811 = .ok (.ineg, 1) := by decide +kernel
theorem dL_act_812 : decode cL_act 812 = .ok (.i2l, 1) := by decide +kernel
theorem dL_act_813 : decode cL_act 813 = .ok (.aload_n 0, 1) := by decide +kernel
theorem dL_act_814 : decode cL_act 814 = .ok (.iconst 2, 1) := by decide +kernel
theorem dL_act_815 : decode cL_act 815 = .ok (.invokevirtual 50, 3) := by decide +kernel
theorem dL_act_818 : decode cL_act 818 = .ok (.i2l, 1) := by decide +kernel
theorem dL_act_819 : decode cL_act 819 = .ok (.aload_n 0, 1) := by decide +kernel
theorem dL_act_820 : decode cL_act 820 = .ok (.invokestatic 90, 3) := by decide +kernel
theorem dL_act_823 : decode cL_act 823 = .ok (.lsub, 1) := by decide +kernel
theorem dL_act_824 : decode cL_act 824 = .ok (.lmul, 1) := by decide +kernel
theorem dL_act_825 : decode cL_act 825 = .ok (.lstore 10, 2) := by decide +kernel
theorem dL_act_827 : decode cL_act 827 = .ok (.aload_n 0, 1) := by decide +kernel
theorem dL_act_828 : decode cL_act 828 = .ok (.iconst 0, 1) := by decide +kernel
theorem dL_act_829 : decode cL_act 829 = .ok (.invokevirtual 50, 3) := by decide +kernel
theorem dL_act_832 : decode cL_act 832 = .ok (.istore 12, 2) := by decide +kernel
theorem dL_act_834 : decode cL_act 834 = .ok (.iload 9, 2) := by decide +kernel
theorem dL_act_836 : decode cL_act 836 = .ok (.iload 8, 2) := by decide +kernel
theorem dL_act_838 : decode cL_act 838 = .ok (.iadd, 1) := by decide +kernel
theorem dL_act_839 : decode cL_act 839 = .ok (.sipush 1000, 3) := by decide +kernel
theorem dL_act_842 : decode cL_act 842 = .ok (.if_icmp .le 20, 3) := by decide +kernel
theorem dL_act_845 : decode cL_act 845 = .ok (.aload_n 0, 1) := by decide +kernel
theorem dL_act_846 : decode cL_act 846 = .ok (.iload 8, 2) := by decide +kernel
theorem dL_act_848 : decode cL_act 848 = .ok (.invokevirtual 94, 3) := by decide +kernel
theorem dL_act_851 : decode cL_act 851 = .ok (.bipush (-4), 2) := by decide +kernel
theorem dL_act_853 : decode cL_act 853 = .ok (.if_icmp .ne 7, 3) := by decide +kernel
theorem dL_act_856 : decode cL_act 856 = .ok (.iconst 1, 1) := by decide +kernel
theorem dL_act_857 : decode cL_act 857 = .ok (.goto 4, 3) := by decide +kernel
theorem dL_act_860 : decode cL_act 860 = .ok (.iconst 0, 1) := by decide +kernel
theorem dL_act_861 : decode cL_act 861 = .ok (.ireturn, 1) := by decide +kernel
theorem dL_act_862 : decode cL_act 862 = .ok (.iload 9, 2) := by decide +kernel
theorem dL_act_864 : decode cL_act 864 = .ok (.iload 8, 2) := by decide +kernel
theorem dL_act_866 : decode cL_act 866 = .ok (.iadd, 1) := by decide +kernel
theorem dL_act_867 : decode cL_act 867 = .ok (.ifCond .lt 26, 3) := by decide +kernel
theorem dL_act_870 : decode cL_act 870 = .ok (.iload 8, 2) := by decide +kernel
theorem dL_act_872 : decode cL_act 872 = .ok (.ifCond .le 38, 3) := by decide +kernel
theorem dL_act_875 : decode cL_act 875 = .ok (.iload 12, 2) := by decide +kernel
theorem dL_act_877 : decode cL_act 877 = .ok (.aload_n 0, 1) := by decide +kernel
theorem dL_act_878 : decode cL_act 878 = .ok (.bipush 6, 2) := by decide +kernel
theorem dL_act_880 : decode cL_act 880 = .ok (.invokevirtual 50, 3) := by decide +kernel
theorem dL_act_883 : decode cL_act 883 = .ok (.isub, 1) := by decide +kernel
theorem dL_act_884 : decode cL_act 884 = .ok (.i2l, 1) := by decide +kernel
theorem dL_act_885 : decode cL_act 885 = .ok (.lload 10, 2) := by decide +kernel
theorem dL_act_887 : decode cL_act 887 = .ok (.ladd, 1) := by decide +kernel
theorem dL_act_888 : decode cL_act 888 = .ok (.lconst 0, 1) := by decide +kernel
theorem dL_act_889 : decode cL_act 889 = .ok (.lcmp, 1) := by decide +kernel
theorem dL_act_890 : decode cL_act 890 = .ok (.ifCond .ge 20, 3) := by decide +kernel
theorem dL_act_893 : decode cL_act 893 = .ok (.aload_n 0, 1) := by decide +kernel
theorem dL_act_894 : decode cL_act 894 = .ok (.iload 8, 2) := by decide +kernel
theorem dL_act_896 : decode cL_act 896 = .ok (.invokevirtual 94, 3) := by decide +kernel
theorem dL_act_899 : decode cL_act 899 = .ok (.bipush (-5), 2) := by decide +kernel
theorem dL_act_901 : decode cL_act 901 = .ok (.if_icmp .ne 7, 3) := by decide +kernel
theorem dL_act_904 : decode cL_act 904 = .ok (.iconst 1, 1) := by decide +kernel
theorem dL_act_905 : decode cL_act 905 = .ok (.goto 4, 3) := by decide +kernel
theorem dL_act_908 : decode cL_act 908 = .ok (.iconst 0, 1) := by decide +kernel
theorem dL_act_909 : decode cL_act 909 = .ok (.ireturn, 1) := by decide +kernel
theorem dL_act_910 : decode cL_act 910 = .ok (.aload_n 0, 1) := by decide +kernel
theorem dL_act_911 : decode cL_act 911 = .ok (.iload 8, 2) := by decide +kernel
theorem dL_act_913 : decode cL_act 913 = .ok (.invokevirtual 94, 3) := by decide +kernel
theorem dL_act_916 : decode cL_act 916 = .ok (.iload 9, 2) := by decide +kernel
theorem dL_act_918 : decode cL_act 918 = .ok (.iload 8, 2) := by decide +kernel
theorem dL_act_920 : decode cL_act 920 = .ok (.iadd, 1) := by decide +kernel
theorem dL_act_921 : decode cL_act 921 = .ok (.if_icmp .ne 36, 3) := by decide +kernel
theorem dL_act_924 : decode cL_act 924 = .ok (.aload_n 0, 1) := by decide +kernel
theorem dL_act_925 : decode cL_act 925 = .ok (.iconst 1, 1) := by decide +kernel
theorem dL_act_926 : decode cL_act 926 = .ok (.invokevirtual 50, 3) := by decide +kernel
theorem dL_act_929 : decode cL_act 929 = .ok (.iload 9, 2) := by decide +kernel
theorem dL_act_931 : decode cL_act 931 = .ok (.iload 8, 2) := by decide +kernel
theorem dL_act_933 : decode cL_act 933 = .ok (.iadd, 1) := by decide +kernel
theorem dL_act_934 : decode cL_act 934 = .ok (.if_icmp .ne 23, 3) := by decide +kernel
theorem dL_act_937 : decode cL_act 937 = .ok (.aload_n 0, 1) := by decide +kernel
theorem dL_act_938 : decode cL_act 938 = .ok (.iconst 0, 1) := by decide +kernel
theorem dL_act_939 : decode cL_act 939 = .ok (.invokevirtual 50, 3) := by decide +kernel
theorem dL_act_942 : decode cL_act 942 = .ok (.i2l, 1) := by decide +kernel
theorem dL_act_943 : decode cL_act 943 = .ok (.iload 12, 2) := by decide +kernel
theorem dL_act_945 : decode cL_act 945 = .ok (.i2l, 1) := by decide +kernel
theorem dL_act_946 : decode cL_act 946 = .ok (.lload 10, 2) := by decide +kernel
theorem dL_act_948 : decode cL_act 948 = .ok (.ladd, 1) := by decide +kernel
theorem dL_act_949 : decode cL_act 949 = .ok (.lcmp, 1) := by decide +kernel
theorem dL_act_950 : decode cL_act 950 = .ok (.ifCond .ne 7, 3) := by decide +kernel
theorem dL_act_953 : decode cL_act 953 = .ok (.iconst 1, 1) := by decide +kernel
theorem dL_act_954 : decode cL_act 954 = .ok (.goto 4, 3) := by decide +kernel
theorem dL_act_957 : decode cL_act 957 = .ok (.iconst 0, 1) := by decide +kernel
theorem dL_act_958 : decode cL_act 958 = .ok (.ireturn, 1) := by decide +kernel
theorem dL_act_959 : decode cL_act 959 = .ok (.aload_n 0, 1) := by decide +kernel
theorem dL_act_960 : decode cL_act 960 = .ok (.invokestatic 97, 3) := by decide +kernel
theorem dL_act_963 : decode cL_act 963 = .ok (.ireturn, 1) := by decide +kernel
theorem dL_act_964 : decode cL_act 964 = .ok (.iconst 1, 1) := by decide +kernel
theorem dL_act_965 : decode cL_act 965 = .ok (.iload_n 3, 1) := by decide +kernel
theorem dL_act_966 : decode cL_act 966 = .ok (.sipush 20000, 3) := by decide +kernel
theorem dL_act_969 : decode cL_act 969 = .ok (.invokestatic 22, 3) := by decide +kernel
theorem dL_act_972 : decode cL_act 972 = .ok (.iadd, 1) := by decide +kernel
theorem dL_act_973 : decode cL_act 973 = .ok (.istore 8, 2) := by decide +kernel
theorem dL_act_975 : decode cL_act 975 = .ok (.aload_n 0, 1) := by decide +kernel
theorem dL_act_976 : decode cL_act 976 = .ok (.bipush 6, 2) := by decide +kernel
theorem dL_act_978 : decode cL_act 978 = .ok (.invokevirtual 50, 3) := by decide +kernel
theorem dL_act_981 : decode cL_act 981 = .ok (.istore 9, 2) := by decide +kernel
theorem dL_act_983 : decode cL_act 983 = .ok (.aload_n 0, 1) := by decide +kernel
theorem dL_act_984 : decode cL_act 984 = .ok (.iconst 0, 1) := by decide +kernel
theorem dL_act_985 : decode cL_act 985 = .ok (.invokevirtual 50, 3) := by decide +kernel
theorem dL_act_988 : decode cL_act 988 = .ok (.istore 10, 2) := by decide +kernel
theorem dL_act_990 : decode cL_act 990 = .ok (.aload_n 0, 1) := by decide +kernel
theorem dL_act_991 : decode cL_act 991 = .ok (.iconst 4, 1) := by decide +kernel
theorem dL_act_992 : decode cL_act 992 = .ok (.invokevirtual 50, 3) := by decide +kernel
theorem dL_act_995 : decode cL_act 995 = .ok (.ifCond .ne 20, 3) := by decide +kernel
theorem dL_act_998 : decode cL_act 998 = .ok (.aload_n 0, 1) := by decide +kernel
theorem dL_act_999 : decode cL_act 999 = .ok (.iload 8, 2) := by decide +kernel
theorem dL_act_1001 : decode cL_act 1001 = .ok (.invokevirtual 100, 3) := by decide +kernel
theorem dL_act_1004 : decode cL_act 1004 = .ok (.bipush (-5), 2) := by decide +kernel
theorem dL_act_1006 : decode cL_act 1006 = .ok (.if_icmp .ne 7, 3) := by decide +kernel
theorem dL_act_1009 : decode cL_act 1009 = .ok (.iconst 1, 1) := by decide +kernel
theorem dL_act_1010 : decode cL_act 1010 = .ok (.goto 4, 3) := by decide +kernel
theorem dL_act_1013 : decode cL_act 1013 = .ok (.iconst 0, 1) := by decide +kernel
theorem dL_act_1014 : decode cL_act 1014 = .ok (.ireturn, 1) := by decide +kernel
theorem dL_act_1015 : decode cL_act 1015 = .ok (.aload_n 0, 1) := by decide +kernel
theorem dL_act_1016 : decode cL_act 1016 = .ok (.iload 8, 2) := by decide +kernel
theorem dL_act_1018 : decode cL_act 1018 = .ok (.invokevirtual 100, 3) := by decide +kernel
theorem dL_act_1021 : decode cL_act 1021 = .ok (.iload 9, 2) := by decide +kernel
theorem dL_act_1023 : decode cL_act 1023 = .ok (.iload 8, 2) := by decide +kernel
theorem dL_act_1025 : decode cL_act 1025 = .ok (.iadd, 1) := by decide +kernel
theorem dL_act_1026 : decode cL_act 1026 = .ok (.if_icmp .ne 34, 3) := by decide +kernel
theorem dL_act_1029 : decode cL_act 1029 = .ok (.aload_n 0, 1) := by decide +kernel
theorem dL_act_1030 : decode cL_act 1030 = .ok (.bipush 6, 2) := by decide +kernel
theorem dL_act_1032 : decode cL_act 1032 = .ok (.invokevirtual 50, 3) := by decide +kernel
theorem dL_act_1035 : decode cL_act 1035 = .ok (.iload 9, 2) := by decide +kernel
theorem dL_act_1037 : decode cL_act 1037 = .ok (.iload 8, 2) := by decide +kernel
theorem dL_act_1039 : decode cL_act 1039 = .ok (.iadd, 1) := by decide +kernel
theorem dL_act_1040 : decode cL_act 1040 = .ok (.if_icmp .ne 20, 3) := by decide +kernel
theorem dL_act_1043 : decode cL_act 1043 = .ok (.aload_n 0, 1) := by decide +kernel
theorem dL_act_1044 : decode cL_act 1044 = .ok (.iconst 0, 1) := by decide +kernel
theorem dL_act_1045 : decode cL_act 1045 = .ok (.invokevirtual 50, 3) := by decide +kernel
theorem dL_act_1048 : decode cL_act 1048 = .ok (.iload 10, 2) := by decide +kernel
theorem dL_act_1050 : decode cL_act 1050 = .ok (.iload 8, 2) := by decide +kernel
theorem dL_act_1052 : decode cL_act 1052 = .ok (.iadd, 1) := by decide +kernel
theorem dL_act_1053 : decode cL_act 1053 = .ok (.if_icmp .ne 7, 3) := by decide +kernel
theorem dL_act_1056 : decode cL_act 1056 = .ok (.iconst 1, 1) := by decide +kernel
theorem dL_act_1057 : decode cL_act 1057 = .ok (.goto 4, 3) := by decide +kernel
theorem dL_act_1060 : decode cL_act 1060 = .ok (.iconst 0, 1) := by decide +kernel
theorem dL_act_1061 : decode cL_act 1061 = .ok (.ireturn, 1) := by decide +kernel
theorem dL_act_1062 : decode cL_act 1062 = .ok (.aload_n 0, 1) := by decide +kernel
theorem dL_act_1063 : decode cL_act 1063 = .ok (.invokestatic 103, 3) := by decide +kernel
theorem dL_act_1066 : decode cL_act 1066 = .ok (.ireturn, 1) := by decide +kernel
theorem dL_act_1067 : decode cL_act 1067 = .ok (.iload_n 2, 1) := by decide +kernel
theorem dL_act_1068 : decode cL_act 1068 = .ok (.iconst 5, 1) := by decide +kernel
theorem dL_act_1069 : decode cL_act 1069 = .ok (.invokestatic 22, 3) := by decide +kernel
theorem dL_act_1072 : decode cL_act 1072 = .ok (.istore 8, 2) := by decide +kernel
theorem dL_act_1074 : decode cL_act 1074 = .ok (.iload 8, 2) := by decide +kernel
theorem dL_act_1076 : decode cL_act 1076 = .ok (.ifCond .ne 12, 3) := by decide +kernel
theorem dL_act_1079 : decode cL_act 1079 = .ok (.iload_n 3, 1) := by decide +kernel
theorem dL_act_1080 : decode cL_act 1080 = .ok (.bipush 24, 2) := by decide +kernel
theorem dL_act_1082 : decode cL_act 1082 = .ok (.invokestatic 22, 3) := by decide +kernel
theorem dL_act_1085 : decode cL_act 1085 = .ok (.goto 40, 3) := by decide +kernel
theorem dL_act_1088 : decode cL_act 1088 = .ok (.iload 8, 2) := by decide +kernel
theorem dL_act_1090 : decode cL_act 1090 = .ok (.iconst 2, 1) := by decide +kernel
theorem dL_act_1091 : decode cL_act 1091 = .ok (.if_icmp .ne 12, 3) := by decide +kernel
theorem dL_act_1094 : decode cL_act 1094 = .ok (.iload_n 3, 1) := by decide +kernel
theorem dL_act_1095 : decode cL_act 1095 = .ok (.bipush 101, 2) := by decide +kernel
theorem dL_act_1097 : decode cL_act 1097 = .ok (.invokestatic 22, 3) := by decide +kernel
theorem dL_act_1100 : decode cL_act 1100 = .ok (.goto 25, 3) := by decide +kernel
theorem dL_act_1103 : decode cL_act 1103 = .ok (.iload 8, 2) := by decide +kernel
theorem dL_act_1105 : decode cL_act 1105 = .ok (.iconst 4, 1) := by decide +kernel
theorem dL_act_1106 : decode cL_act 1106 = .ok (.if_icmp .ne 12, 3) := by decide +kernel
theorem dL_act_1109 : decode cL_act 1109 = .ok (.iload_n 3, 1) := by decide +kernel
theorem dL_act_1110 : decode cL_act 1110 = .ok (.bipush 51, 2) := by decide +kernel
theorem dL_act_1112 : decode cL_act 1112 = .ok (.invokestatic 22, 3) := by decide +kernel
theorem dL_act_1115 : decode cL_act 1115 = .ok (.goto 10, 3) := by decide +kernel
theorem dL_act_1118 : decode cL_act 1118 = .ok (.iload_n 3, 1) := by decide +kernel
theorem dL_act_1119 : decode cL_act 1119 = .ok (.sipush 1001, 3) := by decide +kernel
theorem dL_act_1122 : decode cL_act 1122 = .ok (.invokestatic 22, 3) := by decide +kernel
theorem dL_act_1125 : decode cL_act 1125 = .ok (.istore 9, 2) := by decide +kernel
theorem dL_act_1127 : decode cL_act 1127 = .ok (.aload_n 0, 1) := by decide +kernel
theorem dL_act_1128 : decode cL_act 1128 = .ok (.bipush 12, 2) := by decide +kernel
theorem dL_act_1130 : decode cL_act 1130 = .ok (.iload 8, 2) := by decide +kernel
theorem dL_act_1132 : decode cL_act 1132 = .ok (.iadd, 1) := by decide +kernel
theorem dL_act_1133 : decode cL_act 1133 = .ok (.invokevirtual 50, 3) := by decide +kernel
theorem dL_act_1136 : decode cL_act 1136 = .ok (.istore 10, 2) := by decide +kernel
theorem dL_act_1138 : decode cL_act 1138 = .ok (.aload_n 0, 1) := by decide +kernel
theorem dL_act_1139 : decode cL_act 1139 = .ok (.iload 8, 2) := by decide +kernel
theorem dL_act_1141 : decode cL_act 1141 = .ok (.iload 9, 2) := by decide +kernel
theorem dL_act_1143 : decode cL_act 1143 = .ok (.invokevirtual 26, 3) := by decide +kernel
theorem dL_act_1146 : decode cL_act 1146 = .ok (.iload 10, 2) := by decide +kernel
theorem dL_act_1148 : decode cL_act 1148 = .ok (.if_icmp .ne 21, 3) := by decide +kernel
theorem dL_act_1151 : decode cL_act 1151 = .ok (.aload_n 0, 1) := by decide +kernel
theorem dL_act_1152 : decode cL_act 1152 = .ok (.bipush 12, 2) := by decide +kernel
theorem dL_act_1154 : decode cL_act 1154 = .ok (.iload 8, 2) := by decide +kernel
theorem dL_act_1156 : decode cL_act 1156 = .ok (.iadd, 1) := by decide +kernel
theorem dL_act_1157 : decode cL_act 1157 = .ok (.invokevirtual 50, 3) := by decide +kernel
theorem dL_act_1160 : decode cL_act 1160 = .ok (.iload 9, 2) := by decide +kernel
theorem dL_act_1162 : decode cL_act 1162 = .ok (.if_icmp .ne 7, 3) := by decide +kernel
theorem dL_act_1165 : decode cL_act 1165 = .ok (.iconst 1, 1) := by decide +kernel
theorem dL_act_1166 : decode cL_act 1166 = .ok (.goto 4, 3) := by decide +kernel
theorem dL_act_1169 : decode cL_act 1169 = .ok (.iconst 0, 1) := by decide +kernel
theorem dL_act_1170 : decode cL_act 1170 = .ok (.ireturn, 1) := by decide +kernel
theorem dL_act_1171 : decode cL_act 1171 = .ok (.aload_n 0, 1) := by decide +kernel
theorem dL_act_1172 : decode cL_act 1172 = .ok (.iload_n 2, 1) := by decide +kernel
theorem dL_act_1173 : decode cL_act 1173 = .ok (.iload_n 3, 1) := by decide +kernel
theorem dL_act_1174 : decode cL_act 1174 = .ok (.invokestatic 106, 3) := by decide +kernel
theorem dL_act_1177 : decode cL_act 1177 = .ok (.ireturn, 1) := by decide +kernel
theorem dL_has_0 : decode cL_has 0 = .ok (.aload_n 0, 1) := by decide +kernel
theorem dL_has_1 : decode cL_has 1 = .ok (.bipush 9, 2) := by decide +kernel
theorem dL_has_3 : decode cL_has 3 = .ok (.iload_n 1, 1) := by decide +kernel
theorem dL_has_4 : decode cL_has 4 = .ok (.iadd, 1) := by decide +kernel
theorem dL_has_5 : decode cL_has 5 = .ok (.invokevirtual 50, 3) := by decide +kernel
theorem dL_has_8 : decode cL_has 8 = .ok (.iconst 1, 1) := by decide +kernel
theorem dL_has_9 : decode cL_has 9 = .ok (.isub, 1) := by decide +kernel
theorem dL_has_10 : decode cL_has 10 = .ok (.istore 5, 2) := by decide +kernel
theorem dL_has_12 : decode cL_has 12 = .ok (.iload 5, 2) := by decide +kernel
theorem dL_has_14 : decode cL_has 14 = .ok (.ifCond .lt 22, 3) := by decide +kernel
theorem dL_has_17 : decode cL_has 17 = .ok (.aload_n 0, 1) := by decide +kernel
theorem dL_has_18 : decode cL_has 18 = .ok (.iload_n 1, 1) := by decide +kernel
theorem dL_has_19 : decode cL_has 19 = .ok (.iload 5, 2) := by decide +kernel
theorem dL_has_21 : decode cL_has 21 = .ok (.iconst 2, 1) := by decide +kernel
theorem dL_has_22 : decode cL_has 22 = .ok (.invokevirtual 54, 3) := by decide +kernel
theorem dL_has_25 : decode cL_has 25 = .ok (.iload 4, 2) := by decide +kernel
theorem dL_has_27 : decode cL_has 27 = .ok (.if_icmp .le 9, 3) := by decide +kernel
theorem dL_has_30 : decode cL_has 30 = .ok (.iinc 5 (-1), 3) := by decide +kernel
theorem dL_has_33 : decode cL_has 33 = .ok (.goto (-21), 3) := by decide +kernel
theorem dL_has_36 : decode cL_has 36 = .ok (.iload 5, 2) := by decide +kernel
theorem dL_has_38 : decode cL_has 38 = .ok (.ifCond .lt 44, 3) := by decide +kernel
theorem dL_has_41 : decode cL_has 41 = .ok (.aload_n 0, 1) := by decide +kernel
theorem dL_has_42 : decode cL_has 42 = .ok (.iload_n 1, 1) := by decide +kernel
theorem dL_has_43 : decode cL_has 43 = .ok (.iload 5, 2) := by decide +kernel
theorem dL_has_45 : decode cL_has 45 = .ok (.iconst 0, 1) := by decide +kernel
theorem dL_has_46 : decode cL_has 46 = .ok (.invokevirtual 54, 3) := by decide +kernel
theorem dL_has_49 : decode cL_has 49 = .ok (.iload_n 2, 1) := by decide +kernel
theorem dL_has_50 : decode cL_has 50 = .ok (.if_icmp .ne 32, 3) := by decide +kernel
theorem dL_has_53 : decode cL_has 53 = .ok (.aload_n 0, 1) := by decide +kernel
theorem dL_has_54 : decode cL_has 54 = .ok (.iload_n 1, 1) := by decide +kernel
theorem dL_has_55 : decode cL_has 55 = .ok (.iload 5, 2) := by decide +kernel
theorem dL_has_57 : decode cL_has 57 = .ok (.iconst 1, 1) := by decide +kernel
theorem dL_has_58 : decode cL_has 58 = .ok (.invokevirtual 54, 3) := by decide +kernel
theorem dL_has_61 : decode cL_has 61 = .ok (.iload_n 3, 1) := by decide +kernel
theorem dL_has_62 : decode cL_has 62 = .ok (.if_icmp .ne 20, 3) := by decide +kernel
theorem dL_has_65 : decode cL_has 65 = .ok (.aload_n 0, 1) := by decide +kernel
theorem dL_has_66 : decode cL_has 66 = .ok (.iload_n 1, 1) := by decide +kernel
theorem dL_has_67 : decode cL_has 67 = .ok (.iload 5, 2) := by decide +kernel
theorem dL_has_69 : decode cL_has 69 = .ok (.iconst 2, 1) := by decide +kernel
theorem dL_has_70 : decode cL_has 70 = .ok (.invokevirtual 54, 3) := by decide +kernel
theorem dL_has_73 : decode cL_has 73 = .ok (.iload 4, 2) := by decide +kernel
theorem dL_has_75 : decode cL_has 75 = .ok (.if_icmp .ne 7, 3) := by decide +kernel
theorem dL_has_78 : decode cL_has 78 = .ok (.iconst 1, 1) := by decide +kernel
theorem dL_has_79 : decode cL_has 79 = .ok (.goto 4, 3) := by decide +kernel
theorem dL_has_82 : decode cL_has 82 = .ok (.iconst 0, 1) := by decide +kernel
theorem dL_has_83 : decode cL_has 83 = .ok (.ireturn, 1) := by decide +kernel
theorem dL_pay_0 : decode cL_pay 0 = .ok (.aload_n 0, 1) := by decide +kernel
theorem dL_pay_1 : decode cL_pay 1 = .ok (.iconst 0, 1) := by decide +kernel
theorem dL_pay_2 : decode cL_pay 2 = .ok (.invokevirtual 50, 3) := by decide +kernel
theorem dL_pay_5 : decode cL_pay 5 = .ok (.istore_n 1, 1) := by decide +kernel
theorem dL_pay_6 : decode cL_pay 6 = .ok (.aload_n 0, 1) := by decide +kernel
theorem dL_pay_7 : decode cL_pay 7 = .ok (.bipush 6, 2) := by decide +kernel
theorem dL_pay_9 : decode cL_pay 9 = .ok (.invokevirtual 50, 3) := by decide +kernel
theorem dL_pay_12 : decode cL_pay 12 = .ok (.istore_n 2, 1) := by decide +kernel
theorem dL_pay_13 : decode cL_pay 13 = .ok (.aload_n 0, 1) := by decide +kernel
theorem dL_pay_14 : decode cL_pay 14 = .ok (.iconst 3, 1) := by decide +kernel
theorem dL_pay_15 : decode cL_pay 15 = .ok (.invokevirtual 61, 3) := by decide +kernel
theorem dL_pay_18 : decode cL_pay 18 = .ok (.lstore_n 3, 1) := by decide +kernel
theorem dL_pay_19 : decode cL_pay 19 = .ok (.aload_n 0, 1) := by decide +kernel
theorem dL_pay_20 : decode cL_pay 20 = .ok (.iconst 5, 1) := by decide +kernel
theorem dL_pay_21 : decode cL_pay 21 = .ok (.invokevirtual 50, 3) := by decide +kernel
theorem dL_pay_24 : decode cL_pay 24 = .ok (.ifCond .ne 7, 3) := by decide +kernel
theorem dL_pay_27 : decode cL_pay 27 = .ok (.lconst 0, 1) := by decide +kernel
theorem dL_pay_28 : decode cL_pay 28 = .ok (.goto 21, 3) := by decide +kernel
theorem dL_pay_31 : decode cL_pay 31 = .ok (.ldc2_w 67, 3) := by decide +kernel
theorem dL_pay_34 : decode cL_pay 34 = .ok (.aload_n 0, 1) := by decide +kernel
theorem dL_pay_35 : decode cL_pay 35 = .ok (.bipush 7, 2) := by decide +kernel
theorem dL_pay_37 : decode cL_pay 37 = .ok (.invokevirtual 50, 3) := by decide +kernel
theorem dL_pay_40 : decode cL_pay 40 = .ok (.i2l, 1) := by decide +kernel
theorem dL_pay_41 : decode cL_pay 41 = .ok (.lmul, 1) := by decide +kernel
theorem dL_pay_42 : decode cL_pay 42 = .ok (.aload_n 0, 1) := by decide +kernel
theorem dL_pay_43 : decode cL_pay 43 = .ok (.iconst 5, 1) := by decide +kernel
theorem dL_pay_44 : decode cL_pay 44 = .ok (.invokevirtual 50, 3) := by decide +kernel
theorem dL_pay_47 : decode cL_pay 47 = .ok (.i2l, 1) := by decide +kernel
theorem dL_pay_48 : decode cL_pay 48 = .ok (.ldiv, 1) := by decide +kernel
theorem dL_pay_49 : decode cL_pay 49 = .ok (.lstore 5, 2) := by decide +kernel
theorem dL_pay_51 : decode cL_pay 51 = .ok (.bipush 6, 2) := by decide +kernel
theorem dL_pay_53 : decode cL_pay 53 = .ok (.newarray .long, 2) := by decide +kernel
theorem dL_pay_55 : decode cL_pay 55 = .ok (.astore 7, 2) := by decide +kernel
theorem dL_pay_57 : decode cL_pay 57 = .ok (.bipush 6, 2) := by decide +kernel
theorem dL_pay_59 : decode cL_pay 59 = .ok (.newarray .long, 2) := by decide +kernel
theorem dL_pay_61 : decode cL_pay 61 = .ok (.astore 8, 2) := by decide +kernel
theorem dL_pay_63 : decode cL_pay 63 = .ok (.lconst 0, 1) := by decide +kernel
theorem dL_pay_64 : decode cL_pay 64 = .ok (.lstore 9, 2) := by decide +kernel
theorem dL_pay_66 : decode cL_pay 66 = .ok (.iconst 0, 1) := by decide +kernel
theorem dL_pay_67 : decode cL_pay 67 = .ok (.istore 11, 2) := by decide +kernel
theorem dL_pay_69 : decode cL_pay 69 = .ok (.iload 11, 2) := by decide +kernel
theorem dL_pay_71 : decode cL_pay 71 = .ok (.bipush 6, 2) := by decide +kernel
theorem dL_pay_73 : decode cL_pay 73 = .ok (.if_icmp .ge 116, 3) := by decide +kernel
theorem dL_pay_76 : decode cL_pay 76 = .ok (.aload 7, 2) := by decide +kernel
theorem dL_pay_78 : decode cL_pay 78 = .ok (.iload 11, 2) := by decide +kernel
theorem dL_pay_80 : decode cL_pay 80 = .ok (.aload_n 0, 1) := by decide +kernel
theorem dL_pay_81 : decode cL_pay 81 = .ok (.iload 11, 2) := by decide +kernel
theorem dL_pay_83 : decode cL_pay 83 = .ok (.iconst 0, 1) := by decide +kernel
theorem dL_pay_84 : decode cL_pay 84 = .ok (.invokevirtual 47, 3) := by decide +kernel
theorem dL_pay_87 : decode cL_pay 87 = .ok (.i2l, 1) := by decide +kernel
theorem dL_pay_88 : decode cL_pay 88 = .ok (.lload_n 3, 1) := by decide +kernel
theorem dL_pay_89 : decode cL_pay 89 = .ok (.lmul, 1) := by decide +kernel
theorem dL_pay_90 : decode cL_pay 90 = .ok (.ldc2_w 67, 3) := by decide +kernel
theorem dL_pay_93 : decode cL_pay 93 = .ok (.ldiv, 1) := by decide +kernel
theorem dL_pay_94 : decode cL_pay 94 = .ok (.lastore, 1) := by decide +kernel
theorem dL_pay_95 : decode cL_pay 95 = .ok (.aload 8, 2) := by decide +kernel
theorem dL_pay_97 : decode cL_pay 97 = .ok (.iload 11, 2) := by decide +kernel
theorem dL_pay_99 : decode cL_pay 99 = .ok (.aload_n 0, 1) := by decide +kernel
theorem dL_pay_100 : decode cL_pay 100 = .ok (.iload 11, 2) := by decide +kernel
theorem dL_pay_102 : decode cL_pay 102 = .ok (.iconst 2, 1) := by decide +kernel
theorem dL_pay_103 : decode cL_pay 103 = .ok (.invokevirtual 47, 3) := by decide +kernel
theorem dL_pay_106 : decode cL_pay 106 = .ok (.i2l, 1) := by decide +kernel
theorem dL_pay_107 : decode cL_pay 107 = .ok (.lload 5, 2) := by decide +kernel
theorem dL_pay_109 : decode cL_pay 109 = .ok (.lmul, 1) := by decide +kernel
theorem dL_pay_110 : decode cL_pay 110 = .ok (.ldc2_w 67, 3) := by decide +kernel
theorem dL_pay_113 : decode cL_pay 113 = .ok (.ldiv, 1) := by decide +kernel
theorem dL_pay_114 : decode cL_pay 114 = .ok (.lastore, 1) := by decide +kernel
theorem dL_pay_115 : decode cL_pay 115 = .ok (.aload 8, 2) := by decide +kernel
theorem dL_pay_117 : decode cL_pay 117 = .ok (.iload 11, 2) := by decide +kernel
theorem dL_pay_119 : decode cL_pay 119 = .ok (.laload, 1) := by decide +kernel
theorem dL_pay_120 : decode cL_pay 120 = .ok (.aload 7, 2) := by decide +kernel
theorem dL_pay_122 : decode cL_pay 122 = .ok (.iload 11, 2) := by decide +kernel
theorem dL_pay_124 : decode cL_pay 124 = .ok (.laload, 1) := by decide +kernel
theorem dL_pay_125 : decode cL_pay 125 = .ok (.lcmp, 1) := by decide +kernel
theorem dL_pay_126 : decode cL_pay 126 = .ok (.ifCond .le 13, 3) := by decide +kernel
theorem dL_pay_129 : decode cL_pay 129 = .ok (.aload 8, 2) := by decide +kernel
theorem dL_pay_131 : decode cL_pay 131 = .ok (.iload 11, 2) := by decide +kernel
theorem dL_pay_133 : decode cL_pay 133 = .ok (.aload 7, 2) := by decide +kernel
theorem dL_pay_135 : decode cL_pay 135 = .ok (.iload 11, 2) := by decide +kernel
theorem dL_pay_137 : decode cL_pay 137 = .ok (.laload, 1) := by decide +kernel
theorem dL_pay_138 : decode cL_pay 138 = .ok (.lastore, 1) := by decide +kernel
theorem dL_pay_139 : decode cL_pay 139 = .ok (.lload 9, 2) := by decide +kernel
theorem dL_pay_141 : decode cL_pay 141 = .ok (.aload 7, 2) := by decide +kernel
theorem dL_pay_143 : decode cL_pay 143 = .ok (.iload 11, 2) := by decide +kernel
theorem dL_pay_145 : decode cL_pay 145 = .ok (.laload, 1) := by decide +kernel
theorem dL_pay_146 : decode cL_pay 146 = .ok (.ladd, 1) := by decide +kernel
theorem dL_pay_147 : decode cL_pay 147 = .ok (.lstore 9, 2) := by decide +kernel
theorem dL_pay_149 : decode cL_pay 149 = .ok (.aload 7, 2) := by decide +kernel
theorem dL_pay_151 : decode cL_pay 151 = .ok (.iload 11, 2) := by decide +kernel
theorem dL_pay_153 : decode cL_pay 153 = .ok (.dup2, 1) := by decide +kernel
theorem dL_pay_154 : decode cL_pay 154 = .ok (.laload, 1) := by decide +kernel
theorem dL_pay_155 : decode cL_pay 155 = .ok (.aload_n 0, 1) := by decide +kernel
theorem dL_pay_156 : decode cL_pay 156 = .ok (.iload 11, 2) := by decide +kernel
theorem dL_pay_158 : decode cL_pay 158 = .ok (.bipush 6, 2) := by decide +kernel
theorem dL_pay_160 : decode cL_pay 160 = .ok (.invokevirtual 47, 3) := by decide +kernel
theorem dL_pay_163 : decode cL_pay 163 = .ok (.i2l, 1) := by decide +kernel
theorem dL_pay_164 : decode cL_pay 164 = .ok (.ladd, 1) := by decide +kernel
theorem dL_pay_165 : decode cL_pay 165 = .ok (.lastore, 1) := by decide +kernel
theorem dL_pay_166 : decode cL_pay 166 = .ok (.aload 8, 2) := by decide +kernel
theorem dL_pay_168 : decode cL_pay 168 = .ok (.iload 11, 2) := by decide +kernel
theorem dL_pay_170 : decode cL_pay 170 = .ok (.dup2, 1) := by decide +kernel
theorem dL_pay_171 : decode cL_pay 171 = .ok (.laload, 1) := by decide +kernel
theorem dL_pay_172 : decode cL_pay 172 = .ok (.aload_n 0, 1) := by decide +kernel
theorem dL_pay_173 : decode cL_pay 173 = .ok (.iload 11, 2) := by decide +kernel
theorem dL_pay_175 : decode cL_pay 175 = .ok (.bipush 7, 2) := by decide +kernel
theorem dL_pay_177 : decode cL_pay 177 = .ok (.invokevirtual 47, 3) := by decide +kernel
theorem dL_pay_180 : decode cL_pay 180 = .ok (.i2l, 1) := by decide +kernel
theorem dL_pay_181 : decode cL_pay 181 = .ok (.ladd, 1) := by decide +kernel
theorem dL_pay_182 : decode cL_pay 182 = .ok (.lastore, 1) := by decide +kernel
theorem dL_pay_183 : decode cL_pay 183 = .ok (.iinc 11 1, 3) := by decide +kernel
theorem dL_pay_186 : decode cL_pay 186 = .ok (.goto (-117), 3) := by decide +kernel
theorem dL_pay_189 : decode cL_pay 189 = .ok (.aload_n 0, 1) := by decide +kernel
theorem dL_pay_190 : decode cL_pay 190 = .ok (.invokevirtual 110, 3) := by decide +kernel
theorem dL_pay_193 : decode cL_pay 193 = .ok (.i2l, 1) := by decide +kernel
theorem dL_pay_194 : decode cL_pay 194 = .ok (.lload 9, 2) := by decide +kernel
theorem dL_pay_196 : decode cL_pay 196 = .ok (.lcmp, 1) := by decide +kernel
theorem dL_pay_197 : decode cL_pay 197 = .ok (.ifCond .ne 51, 3) := by decide +kernel
theorem dL_pay_200 : decode cL_pay 200 = .ok (.aload_n 0, 1) := by decide +kernel
theorem dL_pay_201 : decode cL_pay 201 = .ok (.iconst 0, 1) := by decide +kernel
theorem dL_pay_202 : decode cL_pay 202 = .ok (.invokevirtual 50, 3) := by decide +kernel
theorem dL_pay_205 : decode cL_pay 205 = .ok (.i2l, 1) := by decide +kernel
theorem dL_pay_206 : decode cL_pay 206 = .ok (.iload_n 1, 1) := by decide +kernel
theorem dL_pay_207 : decode cL_pay 207 = .ok (.i2l, 1) := by decide +kernel
theorem dL_pay_208 : decode cL_pay 208 = .ok (.lload 9, 2) := by decide +kernel
theorem dL_pay_210 : decode cL_pay 210 = .ok (.lsub, 1) := by decide +kernel
theorem dL_pay_211 : decode cL_pay 211 = .ok (.lcmp, 1) := by decide +kernel
theorem dL_pay_212 : decode cL_pay 212 = .ok (.ifCond .ne 36, 3) := by decide +kernel
theorem dL_pay_215 : decode cL_pay 215 = .ok (.aload_n 0, 1) := by decide +kernel
theorem dL_pay_216 : decode cL_pay 216 = .ok (.bipush 6, 2) := by decide +kernel
theorem dL_pay_218 : decode cL_pay 218 = .ok (.invokevirtual 50, 3) := by decide +kernel
theorem dL_pay_221 : decode cL_pay 221 = .ok (.i2l, 1) := by decide +kernel
theorem dL_pay_222 : decode cL_pay 222 = .ok (.iload_n 2, 1) := by decide +kernel
theorem dL_pay_223 : decode cL_pay 223 = .ok (.i2l, 1) := by decide +kernel
theorem dL_pay_224 : decode cL_pay 224 = .ok (.lload 9, 2) := by decide +kernel
theorem dL_pay_226 : decode cL_pay 226 = .ok (.lsub, 1) := by decide +kernel
theorem dL_pay_227 : decode cL_pay 227 = .ok (.lcmp, 1) := by decide +kernel
theorem dL_pay_228 : decode cL_pay 228 = .ok (.ifCond .ne 20, 3) := by decide +kernel
theorem dL_pay_231 : decode cL_pay 231 = .ok (.aload_n 0, 1) := by decide +kernel
theorem dL_pay_232 : decode cL_pay 232 = .ok (.bipush 7, 2) := by decide +kernel
theorem dL_pay_234 : decode cL_pay 234 = .ok (.invokevirtual 50, 3) := by decide +kernel
theorem dL_pay_237 : decode cL_pay 237 = .ok (.ifCond .ne 11, 3) := by decide +kernel
theorem dL_pay_240 : decode cL_pay 240 = .ok (.aload_n 0, 1) := by decide +kernel
theorem dL_pay_241 : decode cL_pay 241 = .ok (.iconst 5, 1) := by decide +kernel
theorem dL_pay_242 : decode cL_pay 242 = .ok (.invokevirtual 50, 3) := by decide +kernel
theorem dL_pay_245 : decode cL_pay 245 = .ok (.ifCond .eq 5, 3) := by decide +kernel
theorem dL_pay_248 : decode cL_pay 248 = .ok (.iconst 0, 1) := by decide +kernel
theorem dL_pay_249 : decode cL_pay 249 = .ok (.ireturn, 1) := by decide +kernel
theorem dL_pay_250 : decode cL_pay 250 = .ok (.iconst 0, 1) := by decide +kernel
theorem dL_pay_251 : decode cL_pay 251 = .ok (.istore 11, 2) := by decide +kernel
theorem dL_pay_253 : decode cL_pay 253 = .ok (.iload 11, 2) := by decide +kernel
theorem dL_pay_255 : decode cL_pay 255 = .ok (.bipush 6, 2) := by decide +kernel
theorem dL_pay_257 : decode cL_pay 257 = .ok (.if_icmp .ge 57, 3) := by decide +kernel
theorem dL_pay_260 : decode cL_pay 260 = .ok (.aload_n 0, 1) := by decide +kernel
theorem dL_pay_261 : decode cL_pay 261 = .ok (.iload 11, 2) := by decide +kernel
theorem dL_pay_263 : decode cL_pay 263 = .ok (.bipush 6, 2) := by decide +kernel
theorem dL_pay_265 : decode cL_pay 265 = .ok (.invokevirtual 47, 3) := by decide +kernel
theorem dL_pay_268 : decode cL_pay 268 = .ok (.i2l, 1) := by decide +kernel
theorem dL_pay_269 : decode cL_pay 269 = .ok (.aload 7, 2) := by decide +kernel
theorem dL_pay_271 : decode cL_pay 271 = .ok (.iload 11, 2) := by decide +kernel
theorem dL_pay_273 : decode cL_pay 273 = .ok (.laload, 1) := by decide +kernel
theorem dL_pay_274 : decode cL_pay 274 = .ok (.lcmp, 1) := by decide +kernel
theorem dL_pay_275 : decode cL_pay 275 = .ok (.ifCond .ne 31, 3) := by decide +kernel
theorem dL_pay_278 : decode cL_pay 278 = .ok (.aload_n 0, 1) := by decide +kernel
theorem dL_pay_279 : decode cL_pay 279 = .ok (.iload 11, 2) := by decide +kernel
theorem dL_pay_281 : decode cL_pay 281 = .ok (.bipush 7, 2) := by decide +kernel
theorem dL_pay_283 : decode cL_pay 283 = .ok (.invokevirtual 47, 3) := by decide +kernel
theorem dL_pay_286 : decode cL_pay 286 = .ok (.i2l, 1) := by decide +kernel
theorem dL_pay_287 : decode cL_pay 287 = .ok (.aload 8, 2) := by decide +kernel
theorem dL_pay_289 : decode cL_pay 289 = .ok (.iload 11, 2) := by decide +kernel
theorem dL_pay_291 : decode cL_pay 291 = .ok (.laload, 1) := by decide +kernel
theorem dL_pay_292 : decode cL_pay 292 = .ok (.lcmp, 1) := by decide +kernel
theorem dL_pay_293 : decode cL_pay 293 = .ok (.ifCond .ne 13, 3) := by decide +kernel
theorem dL_pay_296 : decode cL_pay 296 = .ok (.aload_n 0, 1) := by decide +kernel
theorem dL_pay_297 : decode cL_pay 297 = .ok (.iload 11, 2) := by decide +kernel
theorem dL_pay_299 : decode cL_pay 299 = .ok (.iconst 2, 1) := by decide +kernel
theorem dL_pay_300 : decode cL_pay 300 = .ok (.invokevirtual 47, 3) := by decide +kernel
theorem dL_pay_303 : decode cL_pay 303 = .ok (.ifCond .eq 5, 3) := by decide +kernel
theorem dL_pay_306 : decode cL_pay 306 = .ok (.iconst 0, 1) := by decide +kernel
theorem dL_pay_307 : decode cL_pay 307 = .ok (.ireturn, 1) := by decide +kernel
theorem dL_pay_308 : decode cL_pay 308 = .ok (.iinc 11 1, 3) := by decide +kernel
theorem dL_pay_311 : decode cL_pay 311 = .ok (.goto (-58), 3) := by decide +kernel
theorem dL_pay_314 : decode cL_pay 314 = .ok (.iconst 1, 1) := by decide +kernel
theorem dL_pay_315 : decode cL_pay 315 = .ok (.ireturn, 1) := by decide +kernel
theorem dL_day_0 : decode cL_day 0 = .ok (.aload_n 0, 1) := by decide +kernel
theorem dL_day_1 : decode cL_day 1 = .ok (.bipush 8, 2) := by decide +kernel
theorem dL_day_3 : decode cL_day 3 = .ok (.invokevirtual 50, 3) := by decide +kernel
theorem dL_day_6 : decode cL_day 6 = .ok (.istore_n 1, 1) := by decide +kernel
theorem dL_day_7 : decode cL_day 7 = .ok (.aload_n 0, 1) := by decide +kernel
theorem dL_day_8 : decode cL_day 8 = .ok (.bipush 10, 2) := by decide +kernel
theorem dL_day_10 : decode cL_day 10 = .ok (.invokevirtual 50, 3) := by decide +kernel
theorem dL_day_13 : decode cL_day 13 = .ok (.istore_n 2, 1) := by decide +kernel
theorem dL_day_14 : decode cL_day 14 = .ok (.aload_n 0, 1) := by decide +kernel
theorem dL_day_15 : decode cL_day 15 = .ok (.bipush 9, 2) := by decide +kernel
theorem dL_day_17 : decode cL_day 17 = .ok (.invokevirtual 50, 3) := by decide +kernel
theorem dL_day_20 : decode cL_day 20 = .ok (.istore_n 3, 1) := by decide +kernel
theorem dL_day_21 : decode cL_day 21 = .ok (.bipush 8, 2) := by decide +kernel
theorem dL_day_23 : decode cL_day 23 = .ok (.newarray .long, 2) := by decide +kernel
theorem dL_day_25 : decode cL_day 25 = .ok (.astore 4, 2) := by decide +kernel
theorem dL_day_27 : decode cL_day 27 = .ok (.bipush 6, 2) := by decide +kernel
theorem dL_day_29 : decode cL_day 29 = .ok (.newarray .long, 2) := by decide +kernel
theorem dL_day_31 : decode cL_day 31 = .ok (.astore 5, 2) := by decide +kernel
theorem dL_day_33 : decode cL_day 33 = .ok (.bipush 6, 2) := by decide +kernel
theorem dL_day_35 : decode cL_day 35 = .ok (.newarray .long, 2) := by decide +kernel
theorem dL_day_37 : decode cL_day 37 = .ok (.astore 6, 2) := by decide +kernel
theorem dL_day_39 : decode cL_day 39 = .ok (.bipush 6, 2) := by decide +kernel
theorem dL_day_41 : decode cL_day 41 = .ok (.newarray .long, 2) := by decide +kernel
theorem dL_day_43 : decode cL_day 43 = .ok (.astore 7, 2) := by decide +kernel
theorem dL_day_45 : decode cL_day 45 = .ok (.bipush 20, 2) := by decide +kernel
theorem dL_day_47 : decode cL_day 47 = .ok (.newarray .long, 2) := by decide +kernel
theorem dL_day_49 : decode cL_day 49 = .ok (.astore 8, 2) := by decide +kernel
theorem dL_day_51 : decode cL_day 51 = .ok (.bipush 20, 2) := by decide +kernel
theorem dL_day_53 : decode cL_day 53 = .ok (.newarray .long, 2) := by decide +kernel
theorem dL_day_55 : decode cL_day 55 = .ok (.astore 9, 2) := by decide +kernel
theorem dL_day_57 : decode cL_day 57 = .ok (.bipush 20, 2) := by decide +kernel
theorem dL_day_59 : decode cL_day 59 = .ok (.newarray .int, 2) := by decide +kernel
theorem dL_day_61 : decode cL_day 61 = .ok (.astore 10, 2) := by decide +kernel
theorem dL_day_63 : decode cL_day 63 = .ok (.aload 4, 2) := by decide +kernel
theorem dL_day_65 : decode cL_day 65 = .ok (.iconst 0, 1) := by decide +kernel
theorem dL_day_66 : decode cL_day 66 = .ok (.aload_n 0, 1) := by decide +kernel
theorem dL_day_67 : decode cL_day 67 = .ok (.iconst 0, 1) := by decide +kernel
theorem dL_day_68 : decode cL_day 68 = .ok (.invokevirtual 50, 3) := by decide +kernel
theorem dL_day_71 : decode cL_day 71 = .ok (.i2l, 1) := by decide +kernel
theorem dL_day_72 : decode cL_day 72 = .ok (.lastore, 1) := by decide +kernel
theorem dL_day_73 : decode cL_day 73 = .ok (.aload 4, 2) := by decide +kernel
theorem dL_day_75 : decode cL_day 75 = .ok (.iconst 1, 1) := by decide +kernel
theorem dL_day_76 : decode cL_day 76 = .ok (.aload_n 0, 1) := by decide +kernel
theorem dL_day_77 : decode cL_day 77 = .ok (.iconst 1, 1) := by decide +kernel
theorem dL_day_78 : decode cL_day 78 = .ok (.invokevirtual 50, 3) := by decide +kernel
theorem dL_day_81 : decode cL_day 81 = .ok (.i2l, 1) := by decide +kernel
theorem dL_day_82 : decode cL_day 82 = .ok (.lastore, 1) := by decide +kernel
theorem dL_day_83 : decode cL_day 83 = .ok (.aload 4, 2) := by decide +kernel
theorem dL_day_85 : decode cL_day 85 = .ok (.iconst 2, 1) := by decide +kernel
theorem dL_day_86 : decode cL_day 86 = .ok (.aload_n 0, 1) := by decide +kernel
theorem dL_day_87 : decode cL_day 87 = .ok (.iconst 4, 1) := by decide +kernel
theorem dL_day_88 : decode cL_day 88 = .ok (.invokevirtual 50, 3) := by decide +kernel
theorem dL_day_91 : decode cL_day 91 = .ok (.i2l, 1) := by decide +kernel
theorem dL_day_92 : decode cL_day 92 = .ok (.lastore, 1) := by decide +kernel
theorem dL_day_93 : decode cL_day 93 = .ok (.iconst 0, 1) := by decide +kernel
theorem dL_day_94 : decode cL_day 94 = .ok (.istore 11, 2) := by decide +kernel
theorem dL_day_96 : decode cL_day 96 = .ok (.iload 11, 2) := by decide +kernel
theorem dL_day_98 : decode cL_day 98 = .ok (.bipush 6, 2) := by decide +kernel
theorem dL_day_100 : decode cL_day 100 = .ok (.if_icmp .ge 48, 3) := by decide +kernel
theorem dL_day_103 : decode cL_day 103 = .ok (.aload 5, 2) := by decide +kernel
theorem dL_day_105 : decode cL_day 105 = .ok (.iload 11, 2) := by decide +kernel
theorem dL_day_107 : decode cL_day 107 = .ok (.aload_n 0, 1) := by decide +kernel
theorem dL_day_108 : decode cL_day 108 = .ok (.iload 11, 2) := by decide +kernel
theorem dL_day_110 : decode cL_day 110 = .ok (.iconst 0, 1) := by decide +kernel
theorem dL_day_111 : decode cL_day 111 = .ok (.invokevirtual 47, 3) := by decide +kernel
theorem dL_day_114 : decode cL_day 114 = .ok (.i2l, 1) := by decide +kernel
theorem dL_day_115 : decode cL_day 115 = .ok (.lastore, 1) := by decide +kernel
theorem dL_day_116 : decode cL_day 116 = .ok (.aload 6, 2) := by decide +kernel
theorem dL_day_118 : decode cL_day 118 = .ok (.iload 11, 2) := by decide +kernel
theorem dL_day_120 : decode cL_day 120 = .ok (.aload_n 0, 1) := by decide +kernel
theorem dL_day_121 : decode cL_day 121 = .ok (.iload 11, 2) := by decide +kernel
theorem dL_day_123 : decode cL_day 123 = .ok (.iconst 5, 1) := by decide +kernel
theorem dL_day_124 : decode cL_day 124 = .ok (.invokevirtual 47, 3) := by decide +kernel
theorem dL_day_127 : decode cL_day 127 = .ok (.i2l, 1) := by decide +kernel
theorem dL_day_128 : decode cL_day 128 = .ok (.lastore, 1) := by decide +kernel
theorem dL_day_129 : decode cL_day 129 = .ok (.aload 7, 2) := by decide +kernel
theorem dL_day_131 : decode cL_day 131 = .ok (.iload 11, 2) := by decide +kernel
theorem dL_day_133 : decode cL_day 133 = .ok (.aload_n 0, 1) := by decide +kernel
theorem dL_day_134 : decode cL_day 134 = .ok (.iload 11, 2) := by decide +kernel
theorem dL_day_136 : decode cL_day 136 = .ok (.iconst 4, 1) := by decide +kernel
theorem dL_day_137 : decode cL_day 137 = .ok (.invokevirtual 47, 3) := by decide +kernel
theorem dL_day_140 : decode cL_day 140 = .ok (.i2l, 1) := by decide +kernel
theorem dL_day_141 : decode cL_day 141 = .ok (.lastore, 1) := by decide +kernel
theorem dL_day_142 : decode cL_day 142 = .ok (.iinc 11 1, 3) := by decide +kernel
theorem dL_day_145 : decode cL_day 145 = .ok (.goto (-49), 3) := by decide +kernel
theorem dL_day_148 : decode cL_day 148 = .ok (.lconst 0, 1) := by decide +kernel
theorem dL_day_149 : decode cL_day 149 = .ok (.lstore 11, 2) := by decide +kernel
theorem dL_day_151 : decode cL_day 151 = .ok (.lconst 0, 1) := by decide +kernel
theorem dL_day_152 : decode cL_day 152 = .ok (.lstore 13, 2) := by decide +kernel
theorem dL_day_154 : decode cL_day 154 = .ok (.iconst 0, 1) := by decide +kernel
theorem dL_day_155 : decode cL_day 155 = .ok (.istore 15, 2) := by decide +kernel
theorem dL_day_157 : decode cL_day 157 = .ok (.iload 15, 2) := by decide +kernel
theorem dL_day_159 : decode cL_day 159 = .ok (.iload_n 3, 1) := by decide +kernel
theorem dL_day_160 : decode cL_day 160 = .ok (.if_icmp .ge 35, 3) := by decide +kernel
theorem dL_day_163 : decode cL_day 163 = .ok (.aload_n 0, 1) := by decide +kernel
theorem dL_day_164 : decode cL_day 164 = .ok (.iconst 0, 1) := by decide +kernel
theorem dL_day_165 : decode cL_day 165 = .ok (.iload 15, 2) := by decide +kernel
theorem dL_day_167 : decode cL_day 167 = .ok (.iconst 2, 1) := by decide +kernel
theorem dL_day_168 : decode cL_day 168 = .ok (.invokevirtual 54, 3) := by decide +kernel
theorem dL_day_171 : decode cL_day 171 = .ok (.iload_n 1, 1) := by decide +kernel
theorem dL_day_172 : decode cL_day 172 = .ok (.if_icmp .gt 17, 3) := by decide +kernel
theorem dL_day_175 : decode cL_day 175 = .ok (.lload 11, 2) := by decide +kernel
theorem dL_day_177 : decode cL_day 177 = .ok (.aload_n 0, 1) := by decide +kernel
theorem dL_day_178 : decode cL_day 178 = .ok (.iconst 0, 1) := by decide +kernel
theorem dL_day_179 : decode cL_day 179 = .ok (.iload 15, 2) := by decide +kernel
theorem dL_day_181 : decode cL_day 181 = .ok (.iconst 1, 1) := by decide +kernel
theorem dL_day_182 : decode cL_day 182 = .ok (.invokevirtual 54, 3) := by decide +kernel
theorem dL_day_185 : decode cL_day 185 = .ok (.i2l, 1) := by decide +kernel
theorem dL_day_186 : decode cL_day 186 = .ok (.ladd, 1) := by decide +kernel
theorem dL_day_187 : decode cL_day 187 = .ok (.lstore 11, 2) := by decide +kernel
theorem dL_day_189 : decode cL_day 189 = .ok (.iinc 15 1, 3) := by decide +kernel
theorem dL_day_192 : decode cL_day 192 = .ok (.goto (-35), 3) := by decide +kernel
theorem dL_day_195 : decode cL_day 195 = .ok (.iconst 0, 1) := by decide +kernel
theorem dL_day_196 : decode cL_day 196 = .ok (.istore 15, 2) := by decide +kernel
theorem dL_day_198 : decode cL_day 198 = .ok (.iload 15, 2) := by decide +kernel
theorem dL_day_200 : decode cL_day 200 = .ok (.iload_n 2, 1) := by decide +kernel
theorem dL_day_201 : decode cL_day 201 = .ok (.if_icmp .ge 58, 3) := by decide +kernel
theorem dL_day_204 : decode cL_day 204 = .ok (.aload 9, 2) := by decide +kernel
theorem dL_day_206 : decode cL_day 206 = .ok (.iload 15, 2) := by decide +kernel
theorem dL_day_208 : decode cL_day 208 = .ok (.aload_n 0, 1) := by decide +kernel
theorem dL_day_209 : decode cL_day 209 = .ok (.iconst 1, 1) := by decide +kernel
theorem dL_day_210 : decode cL_day 210 = .ok (.iload 15, 2) := by decide +kernel
theorem dL_day_212 : decode cL_day 212 = .ok (.iconst 1, 1) := by decide +kernel
theorem dL_day_213 : decode cL_day 213 = .ok (.invokevirtual 54, 3) := by decide +kernel
theorem dL_day_216 : decode cL_day 216 = .ok (.i2l, 1) := by decide +kernel
theorem dL_day_217 : decode cL_day 217 = .ok (.lastore, 1) := by decide +kernel
theorem dL_day_218 : decode cL_day 218 = .ok (.aload 10, 2) := by decide +kernel
theorem dL_day_220 : decode cL_day 220 = .ok (.iload 15, 2) := by decide +kernel
theorem dL_day_222 : decode cL_day 222 = .ok (.aload_n 0, 1) := by decide +kernel
theorem dL_day_223 : decode cL_day 223 = .ok (.iconst 1, 1) := by decide +kernel
theorem dL_day_224 : decode cL_day 224 = .ok (.iload 15, 2) := by decide +kernel
theorem dL_day_226 : decode cL_day 226 = .ok (.iconst 0, 1) := by decide +kernel
theorem dL_day_227 : decode cL_day 227 = .ok (.invokevirtual 54, 3) := by decide +kernel
theorem dL_day_230 : decode cL_day 230 = .ok (.iastore, 1) := by decide +kernel
theorem dL_day_231 : decode cL_day 231 = .ok (.aload_n 0, 1) := by decide +kernel
theorem dL_day_232 : decode cL_day 232 = .ok (.iconst 1, 1) := by decide +kernel
theorem dL_day_233 : decode cL_day 233 = .ok (.iload 15, 2) := by decide +kernel
theorem dL_day_235 : decode cL_day 235 = .ok (.iconst 2, 1) := by decide +kernel
theorem dL_day_236 : decode cL_day 236 = .ok (.invokevirtual 54, 3) := by decide +kernel
theorem dL_day_239 : decode cL_day 239 = .ok (.iload_n 1, 1) := by decide +kernel
theorem dL_day_240 : decode cL_day 240 = .ok (.if_icmp .gt 13, 3) := by decide +kernel
theorem dL_day_243 : decode cL_day 243 = .ok (.lload 13, 2) := by decide +kernel
theorem dL_day_245 : decode cL_day 245 = .ok (.aload 9, 2) := by decide +kernel
theorem dL_day_247 : decode cL_day 247 = .ok (.iload 15, 2) := by decide +kernel
theorem dL_day_249 : decode cL_day 249 = .ok (.laload, 1) := by decide +kernel
theorem dL_day_250 : decode cL_day 250 = .ok (.ladd, 1) := by decide +kernel
theorem dL_day_251 : decode cL_day 251 = .ok (.lstore 13, 2) := by decide +kernel
theorem dL_day_253 : decode cL_day 253 = .ok (.iinc 15 1, 3) := by decide +kernel
theorem dL_day_256 : decode cL_day 256 = .ok (.goto (-58), 3) := by decide +kernel
theorem dL_day_259 : decode cL_day 259 = .ok (.aload_n 0, 1) := by decide +kernel
theorem dL_day_260 : decode cL_day 260 = .ok (.bipush 15, 2) := by decide +kernel
theorem dL_day_262 : decode cL_day 262 = .ok (.invokevirtual 50, 3) := by decide +kernel
theorem dL_day_265 : decode cL_day 265 = .ok (.i2l, 1) := by decide +kernel
theorem dL_day_266 : decode cL_day 266 = .ok (.aload 4, 2) := by decide +kernel
theorem dL_day_268 : decode cL_day 268 = .ok (.iconst 2, 1) := by decide +kernel
theorem dL_day_269 : decode cL_day 269 = .ok (.laload, 1) := by decide +kernel
theorem dL_day_270 : decode cL_day 270 = .ok (.lmul, 1) := by decide +kernel
theorem dL_day_271 : decode cL_day 271 = .ok (.ldc2_w 67, 3) := by decide +kernel
theorem dL_day_274 : decode cL_day 274 = .ok (.ldiv, 1) := by decide +kernel
theorem dL_day_275 : decode cL_day 275 = .ok (.lstore 15, 2) := by decide +kernel
theorem dL_day_277 : decode cL_day 277 = .ok (.lload 13, 2) := by decide +kernel
theorem dL_day_279 : decode cL_day 279 = .ok (.lload 15, 2) := by decide +kernel
theorem dL_day_281 : decode cL_day 281 = .ok (.lcmp, 1) := by decide +kernel
theorem dL_day_282 : decode cL_day 282 = .ok (.ifCond .ge 8, 3) := by decide +kernel
theorem dL_day_285 : decode cL_day 285 = .ok (.lload 13, 2) := by decide +kernel
theorem dL_day_287 : decode cL_day 287 = .ok (.goto 5, 3) := by decide +kernel
theorem dL_day_290 : decode cL_day 290 = .ok (.lload 15, 2) := by decide +kernel
theorem dL_day_292 : decode cL_day 292 = .ok (.lstore 17, 2) := by decide +kernel
theorem dL_day_294 : decode cL_day 294 = .ok (.aload 4, 2) := by decide +kernel
theorem dL_day_296 : decode cL_day 296 = .ok (.iconst 2, 1) := by decide +kernel
theorem dL_day_297 : decode cL_day 297 = .ok (.laload, 1) := by decide +kernel
theorem dL_day_298 : decode cL_day 298 = .ok (.lconst 0, 1) := by decide +kernel
theorem dL_day_299 : decode cL_day 299 = .ok (.lcmp, 1) := by decide +kernel
theorem dL_day_300 : decode cL_day 300 = .ok (.ifCond .ne 9, 3) := by decide +kernel
theorem dL_day_303 : decode cL_day 303 = .ok (.ldc2_w 113, 3) := by decide +kernel
theorem dL_day_306 : decode cL_day 306 = .ok (.goto 18, 3) := by decide +kernel
theorem dL_day_309 : decode cL_day 309 = .ok (.ldc2_w 67, 3) := by decide +kernel
theorem dL_day_312 : decode cL_day 312 = .ok (.aload_n 0, 1) := by decide +kernel
theorem dL_day_313 : decode cL_day 313 = .ok (.iconst 3, 1) := by decide +kernel
theorem dL_day_314 : decode cL_day 314 = .ok (.invokevirtual 50, 3) := by decide +kernel
theorem dL_day_317 : decode cL_day 317 = .ok (.i2l, 1) := by decide +kernel
theorem dL_day_318 : decode cL_day 318 = .ok (.lmul, 1) := by decide +kernel
theorem dL_day_319 : decode cL_day 319 = .ok (.aload 4, 2) := by decide +kernel
theorem dL_day_321 : decode cL_day 321 = .ok (.iconst 2, 1) := by decide +kernel
theorem dL_day_322 : decode cL_day 322 = .ok (.laload, 1) := by decide +kernel
theorem dL_day_323 : decode cL_day 323 = .ok (.ldiv, 1) := by decide +kernel
theorem dL_day_324 : decode cL_day 324 = .ok (.lstore 19, 2) := by decide +kernel
theorem dL_day_326 : decode cL_day 326 = .ok (.lload 11, 2) := by decide +kernel
theorem dL_day_328 : decode cL_day 328 = .ok (.lload 17, 2) := by decide +kernel
theorem dL_day_330 : decode cL_day 330 = .ok (.lload 19, 2) := by decide +kernel
theorem dL_day_332 : decode cL_day 332 = .ok (.lmul, 1) := by decide +kernel
theorem dL_day_333 : decode cL_day 333 = .ok (.ldc2_w 67, 3) := by decide +kernel
theorem dL_day_336 : decode cL_day 336 = .ok (.ldiv, 1) := by decide +kernel
theorem dL_day_337 : decode cL_day 337 = .ok (.lsub, 1) := by decide +kernel
theorem dL_day_338 : decode cL_day 338 = .ok (.lstore 21, 2) := by decide +kernel
theorem dL_day_340 : decode cL_day 340 = .ok (.aload_n 0, 1) := by decide +kernel
theorem dL_day_341 : decode cL_day 341 = .ok (.bipush 13, 2) := by decide +kernel
theorem dL_day_343 : decode cL_day 343 = .ok (.invokevirtual 50, 3) := by decide +kernel
theorem dL_day_346 : decode cL_day 346 = .ok (.i2l, 1) := by decide +kernel
theorem dL_day_347 : decode cL_day 347 = .ok (.aload_n 0, 1) := by decide +kernel
theorem dL_day_348 : decode cL_day 348 = .ok (.iconst 3, 1) := by decide +kernel
theorem dL_day_349 : decode cL_day 349 = .ok (.invokevirtual 50, 3) := by decide +kernel
theorem dL_day_352 : decode cL_day 352 = .ok (.i2l, 1) := by decide +kernel
theorem dL_day_353 : decode cL_day 353 = .ok (.lmul, 1) := by decide +kernel
theorem dL_day_354 : decode cL_day 354 = .ok (.lstore 23, 2) := by decide +kernel
theorem dL_day_356 : decode cL_day 356 = .ok (.aload 4, 2) := by decide +kernel
theorem dL_day_358 : decode cL_day 358 = .ok (.iconst 2, 1) := by decide +kernel
theorem dL_day_359 : decode cL_day 359 = .ok (.laload, 1) := by decide +kernel
theorem dL_day_360 : decode cL_day 360 = .ok (.lconst 0, 1) := by decide +kernel
theorem dL_day_361 : decode cL_day 361 = .ok (.lcmp, 1) := by decide +kernel
theorem dL_day_362 : decode cL_day 362 = .ok (.ifCond .ne 7, 3) := by decide +kernel
theorem dL_day_365 : decode cL_day 365 = .ok (.iconst 2, 1) := by decide +kernel
theorem dL_day_366 : decode cL_day 366 = .ok (.goto 51, 3) := by decide +kernel
theorem dL_day_369 : decode cL_day 369 = .ok (.lload 21, 2) := by decide +kernel
theorem dL_day_371 : decode cL_day 371 = .ok (.lconst 0, 1) := by decide +kernel
theorem dL_day_372 : decode cL_day 372 = .ok (.lcmp, 1) := by decide +kernel
theorem dL_day_373 : decode cL_day 373 = .ok (.ifCond .le 19, 3) := by decide +kernel
theorem dL_day_376 : decode cL_day 376 = .ok (.ldc2_w 67, 3) := by decide +kernel
theorem dL_day_379 : decode cL_day 379 = .ok (.lload 21, 2) := by decide +kernel
theorem dL_day_381 : decode cL_day 381 = .ok (.lmul, 1) := by decide +kernel
theorem dL_day_382 : decode cL_day 382 = .ok (.lload 23, 2) := by decide +kernel
theorem dL_day_384 : decode cL_day 384 = .ok (.lcmp, 1) := by decide +kernel
theorem dL_day_385 : decode cL_day 385 = .ok (.ifCond .le 7, 3) := by decide +kernel
theorem dL_day_388 : decode cL_day 388 = .ok (.iconst 3, 1) := by decide +kernel
theorem dL_day_389 : decode cL_day 389 = .ok (.goto 28, 3) := by decide +kernel
theorem dL_day_392 : decode cL_day 392 = .ok (.lload 21, 2) := by decide +kernel
theorem dL_day_394 : decode cL_day 394 = .ok (.lconst 0, 1) := by decide +kernel
theorem dL_day_395 : decode cL_day 395 = .ok (.lcmp, 1) := by decide +kernel
theorem dL_day_396 : decode cL_day 396 = .ok (.ifCond .ge 20, 3) := by decide +kernel
theorem dL_day_399 : decode cL_day 399 = .ok (.ldc2_w 67, 3) := by decide +kernel
theorem dL_day_402 : decode cL_day 402 = .ok (.lload 21, 2) := by decide +kernel
theorem dL_day_404 : decode cL_day 404 = .ok (.lmul, 1) := by decide +kernel
theorem dL_day_405 : decode cL_day 405 = .ok (.lload 23, 2) := by decide +kernel
theorem dL_day_407 : decode cL_day 407 = .ok (.lneg, 1) := by decide +kernel
theorem dL_day_408 : decode cL_day 408 = .ok (.lcmp, 1) := by decide +kernel
theorem dL_day_409 : decode cL_day 409 = .ok (.ifCond .ge 7, 3) := by decide +kernel
theorem dL_day_412 : decode cL_day 412 = .ok (.iconst 1, 1) := by decide +kernel
theorem dL_day_413 : decode cL_day 413 = .ok (.goto 4, 3) := by decide +kernel
theorem dL_day_416 : decode cL_day 416 = .ok (.iconst 2, 1) := by decide +kernel
theorem dL_day_417 : decode cL_day 417 = .ok (.istore 25, 2) := by decide +kernel
theorem dL_day_419 : decode cL_day 419 = .ok (.iload 25, 2) := by decide +kernel
theorem dL_day_421 : decode cL_day 421 = .ok (.iconst 2, 1) := by decide +kernel
theorem dL_day_422 : decode cL_day 422 = .ok (.if_icmp .ne 8, 3) := by decide +kernel
theorem dL_day_425 : decode cL_day 425 = .ok (.lload 19, 2) := by decide +kernel
theorem dL_day_427 : decode cL_day 427 = .ok (.goto 41, 3) := by decide +kernel
theorem dL_day_430 : decode cL_day 430 = .ok (.lload 19, 2) := by decide +kernel
theorem dL_day_432 : decode cL_day 432 = .ok (.iload 25, 2) := by decide +kernel
theorem dL_day_434 : decode cL_day 434 = .ok (.iconst 3, 1) := by decide +kernel
theorem dL_day_435 : decode cL_day 435 = .ok (.if_icmp .ne 17, 3) := by decide +kernel
theorem dL_day_438 : decode cL_day 438 = .ok (.ldc2_w 67, 3) := by decide +kernel
theorem dL_day_441 : decode cL_day 441 = .ok (.aload_n 0, 1) := by decide +kernel
theorem dL_day_442 : decode cL_day 442 = .ok (.bipush 14, 2) := by decide +kernel
theorem dL_day_444 : decode cL_day 444 = .ok (.invokevirtual 50, 3) := by decide +kernel
theorem dL_day_447 : decode cL_day 447 = .ok (.i2l, 1) := by decide +kernel
theorem dL_day_448 : decode cL_day 448 = .ok (.ladd, 1) := by decide +kernel
theorem dL_day_449 : decode cL_day 449 = .ok (.goto 14, 3) := by decide +kernel
theorem dL_day_452 : decode cL_day 452 = .ok (.ldc2_w 67, 3) := by decide +kernel
theorem dL_day_455 : decode cL_day 455 = .ok (.aload_n 0, 1) := by decide +kernel
theorem dL_day_456 : decode cL_day 456 = .ok (.bipush 14, 2) := by decide +kernel
theorem dL_day_458 : decode cL_day 458 = .ok (.invokevirtual 50, 3) := by decide +kernel
theorem dL_day_461 : decode cL_day 461 = .ok (.i2l, 1) := by decide +kernel
theorem dL_day_462 : decode cL_day 462 = .ok (.lsub, 1) := by decide +kernel
theorem dL_day_463 : decode cL_day 463 = .ok (.lmul, 1) := by decide +kernel
theorem dL_day_464 : decode cL_day 464 = .ok (.ldc2_w 67, 3) := by decide +kernel
theorem dL_day_467 : decode cL_day 467 = .ok (.ldiv, 1) := by decide +kernel
theorem dL_day_468 : decode cL_day 468 = .ok (.lstore 26, 2) := by decide +kernel
theorem dL_day_470 : decode cL_day 470 = .ok (.aload_n 0, 1) := by decide +kernel
theorem dL_day_471 : decode cL_day 471 = .ok (.iconst 0, 1) := by decide +kernel
theorem dL_day_472 : decode cL_day 472 = .ok (.invokevirtual 61, 3) := by decide +kernel
theorem dL_day_475 : decode cL_day 475 = .ok (.lload 19, 2) := by decide +kernel
theorem dL_day_477 : decode cL_day 477 = .ok (.lcmp, 1) := by decide +kernel
theorem dL_day_478 : decode cL_day 478 = .ok (.ifCond .ne 14, 3) := by decide +kernel
theorem dL_day_481 : decode cL_day 481 = .ok (.aload_n 0, 1) := by decide +kernel
theorem dL_day_482 : decode cL_day 482 = .ok (.iconst 1, 1) := by decide +kernel
theorem dL_day_483 : decode cL_day 483 = .ok (.invokevirtual 61, 3) := by decide +kernel
theorem dL_day_486 : decode cL_day 486 = .ok (.lload 26, 2) := by decide +kernel
theorem dL_day_488 : decode cL_day 488 = .ok (.lcmp, 1) := by decide +kernel
theorem dL_day_489 : decode cL_day 489 = .ok (.ifCond .eq 5, 3) := by decide +kernel
theorem dL_day_492 : decode cL_day 492 = .ok (.iconst 0, 1) := by decide +kernel
theorem dL_day_493 : decode cL_day 493 = .ok (.ireturn, 1) := by decide +kernel
theorem dL_day_494 : decode cL_day 494 = .ok (.iconst 0, 1) := by decide +kernel
theorem dL_day_495 : decode cL_day 495 = .ok (.istore 28, 2) := by decide +kernel
theorem dL_day_497 : decode cL_day 497 = .ok (.iload 28, 2) := by decide +kernel
theorem dL_day_499 : decode cL_day 499 = .ok (.iload_n 1, 1) := by decide +kernel
theorem dL_day_500 : decode cL_day 500 = .ok (.if_icmp .gt 223, 3) := by decide +kernel
theorem dL_day_503 : decode cL_day 503 = .ok (.lconst 0, 1) := by decide +kernel
theorem dL_day_504 : decode cL_day 504 = .ok (.lstore 29, 2) := by decide +kernel
theorem dL_day_506 : decode cL_day 506 = .ok (.iconst 0, 1) := by decide +kernel
theorem dL_day_507 : decode cL_day 507 = .ok (.istore 31, 2) := by decide +kernel
theorem dL_day_509 : decode cL_day 509 = .ok (.iload 31, 2) := by decide +kernel
theorem dL_day_511 : decode cL_day 511 = .ok (.iload_n 2, 1) := by decide +kernel
theorem dL_day_512 : decode cL_day 512 = .ok (.if_icmp .ge 32, 3) := by decide +kernel
theorem dL_day_515 : decode cL_day 515 = .ok (.aload_n 0, 1) := by decide +kernel
theorem dL_day_516 : decode cL_day 516 = .ok (.iconst 1, 1) := by decide +kernel
theorem dL_day_517 : decode cL_day 517 = .ok (.iload 31, 2) := by decide +kernel
theorem dL_day_519 : decode cL_day 519 = .ok (.iconst 2, 1) := by decide +kernel
theorem dL_day_520 : decode cL_day 520 = .ok (.invokevirtual 54, 3) := by decide +kernel
theorem dL_day_523 : decode cL_day 523 = .ok (.iload 28, 2) := by decide +kernel
theorem dL_day_525 : decode cL_day 525 = .ok (.if_icmp .ne 13, 3) := by decide +kernel
theorem dL_day_528 : decode cL_day 528 = .ok (.lload 29, 2) := by decide +kernel
theorem dL_day_530 : decode cL_day 530 = .ok (.aload 9, 2) := by decide +kernel
theorem dL_day_532 : decode cL_day 532 = .ok (.iload 31, 2) := by decide +kernel
theorem dL_day_534 : decode cL_day 534 = .ok (.laload, 1) := by decide +kernel
theorem dL_day_535 : decode cL_day 535 = .ok (.ladd, 1) := by decide +kernel
theorem dL_day_536 : decode cL_day 536 = .ok (.lstore 29, 2) := by decide +kernel
theorem dL_day_538 : decode cL_day 538 = .ok (.iinc 31 1, 3) := by decide +kernel
theorem dL_day_541 : decode cL_day 541 = .ok (.goto (-32), 3) := by decide +kernel
theorem dL_day_544 : decode cL_day 544 = .ok (.lload 29, 2) := by decide +kernel
theorem dL_day_546 : decode cL_day 546 = .ok (.lconst 0, 1) := by decide +kernel
theorem dL_day_547 : decode cL_day 547 = .ok (.lcmp, 1) := by decide +kernel
theorem dL_day_548 : decode cL_day 548 = .ok (.ifCond .ne 6, 3) := by decide +kernel
theorem dL_day_551 : decode cL_day 551 = .ok (.goto 166, 3) := by decide +kernel
theorem dL_day_554 : decode cL_day 554 = .ok (.lload 29, 2) := by decide +kernel
theorem dL_day_556 : decode cL_day 556 = .ok (.lload 17, 2) := by decide +kernel
theorem dL_day_558 : decode cL_day 558 = .ok (.lcmp, 1) := by decide +kernel
theorem dL_day_559 : decode cL_day 559 = .ok (.ifCond .gt 7, 3) := by decide +kernel
theorem dL_day_562 : decode cL_day 562 = .ok (.lconst 0, 1) := by decide +kernel
theorem dL_day_563 : decode cL_day 563 = .ok (.goto 5, 3) := by decide +kernel
theorem dL_day_566 : decode cL_day 566 = .ok (.lload 17, 2) := by decide +kernel
theorem dL_day_568 : decode cL_day 568 = .ok (.lstore 31, 2) := by decide +kernel
theorem dL_day_570 : decode cL_day 570 = .ok (.iconst 0, 1) := by decide +kernel
theorem dL_day_571 : decode cL_day 571 = .ok (.istore 33, 2) := by decide +kernel
theorem dL_day_573 : decode cL_day 573 = .ok (.iload 33, 2) := by decide +kernel
theorem dL_day_575 : decode cL_day 575 = .ok (.iload_n 2, 1) := by decide +kernel
theorem dL_day_576 : decode cL_day 576 = .ok (.if_icmp .ge 72, 3) := by decide +kernel
theorem dL_day_579 : decode cL_day 579 = .ok (.aload_n 0, 1) := by decide +kernel
theorem dL_day_580 : decode cL_day 580 = .ok (.iconst 1, 1) := by decide +kernel
theorem dL_day_581 : decode cL_day 581 = .ok (.iload 33, 2) := by decide +kernel
theorem dL_day_583 : decode cL_day 583 = .ok (.iconst 2, 1) := by decide +kernel
theorem dL_day_584 : decode cL_day 584 = .ok (.invokevirtual 54, 3) := by decide +kernel
theorem dL_day_587 : decode cL_day 587 = .ok (.iload 28, 2) := by decide +kernel
theorem dL_day_589 : decode cL_day 589 = .ok (.if_icmp .ne 53, 3) := by decide +kernel
theorem dL_day_592 : decode cL_day 592 = .ok (.aload 8, 2) := by decide +kernel
theorem dL_day_594 : decode cL_day 594 = .ok (.iload 33, 2) := by decide +kernel
theorem dL_day_596 : decode cL_day 596 = .ok (.lload 29, 2) := by decide +kernel
theorem dL_day_598 : decode cL_day 598 = .ok (.lload 17, 2) := by decide +kernel
theorem dL_day_600 : decode cL_day 600 = .ok (.lcmp, 1) := by decide +kernel
theorem dL_day_601 : decode cL_day 601 = .ok (.ifCond .gt 11, 3) := by decide +kernel
theorem dL_day_604 : decode cL_day 604 = .ok (.aload 9, 2) := by decide +kernel
theorem dL_day_606 : decode cL_day 606 = .ok (.iload 33, 2) := by decide +kernel
theorem dL_day_608 : decode cL_day 608 = .ok (.laload, 1) := by decide +kernel
theorem dL_day_609 : decode cL_day 609 = .ok (.goto 14, 3) := by decide +kernel
theorem dL_day_612 : decode cL_day 612 = .ok (.aload 9, 2) := by decide +kernel
theorem dL_day_614 : decode cL_day 614 = .ok (.iload 33, 2) := by decide +kernel
theorem dL_day_616 : decode cL_day 616 = .ok (.laload, 1) := by decide +kernel
theorem dL_day_617 : decode cL_day 617 = .ok (.lload 17, 2) := by decide +kernel
theorem dL_day_619 : decode cL_day 619 = .ok (.lmul, 1) := by decide +kernel
theorem dL_day_620 : decode cL_day 620 = .ok (.lload 29, 2) := by decide +kernel
theorem dL_day_622 : decode cL_day 622 = .ok (.ldiv, 1) := by decide +kernel
theorem dL_day_623 : decode cL_day 623 = .ok (.lastore, 1) := by decide +kernel
theorem dL_day_624 : decode cL_day 624 = .ok (.lload 29, 2) := by decide +kernel
theorem dL_day_626 : decode cL_day 626 = .ok (.lload 17, 2) := by decide +kernel
theorem dL_day_628 : decode cL_day 628 = .ok (.lcmp, 1) := by decide +kernel
theorem dL_day_629 : decode cL_day 629 = .ok (.ifCond .le 13, 3) := by decide +kernel
theorem dL_day_632 : decode cL_day 632 = .ok (.lload 31, 2) := by decide +kernel
theorem dL_day_634 : decode cL_day 634 = .ok (.aload 8, 2) := by decide +kernel
theorem dL_day_636 : decode cL_day 636 = .ok (.iload 33, 2) := by decide +kernel
theorem dL_day_638 : decode cL_day 638 = .ok (.laload, 1) := by decide +kernel
theorem dL_day_639 : decode cL_day 639 = .ok (.lsub, 1) := by decide +kernel
theorem dL_day_640 : decode cL_day 640 = .ok (.lstore 31, 2) := by decide +kernel
theorem dL_day_642 : decode cL_day 642 = .ok (.iinc 33 1, 3) := by decide +kernel
theorem dL_day_645 : decode cL_day 645 = .ok (.goto (-72), 3) := by decide +kernel
theorem dL_day_648 : decode cL_day 648 = .ok (.iconst 0, 1) := by decide +kernel
theorem dL_day_649 : decode cL_day 649 = .ok (.istore 33, 2) := by decide +kernel
theorem dL_day_651 : decode cL_day 651 = .ok (.iload 33, 2) := by decide +kernel
theorem dL_day_653 : decode cL_day 653 = .ok (.iload_n 2, 1) := by decide +kernel
theorem dL_day_654 : decode cL_day 654 = .ok (.if_icmp .ge 44, 3) := by decide +kernel
theorem dL_day_657 : decode cL_day 657 = .ok (.aload_n 0, 1) := by decide +kernel
theorem dL_day_658 : decode cL_day 658 = .ok (.iconst 1, 1) := by decide +kernel
theorem dL_day_659 : decode cL_day 659 = .ok (.iload 33, 2) := by decide +kernel
theorem dL_day_661 : decode cL_day 661 = .ok (.iconst 2, 1) := by decide +kernel
theorem dL_day_662 : decode cL_day 662 = .ok (.invokevirtual 54, 3) := by decide +kernel
theorem dL_day_665 : decode cL_day 665 = .ok (.iload 28, 2) := by decide +kernel
theorem dL_day_667 : decode cL_day 667 = .ok (.if_icmp .ne 25, 3) := by decide +kernel
theorem dL_day_670 : decode cL_day 670 = .ok (.lload 31, 2) := by decide +kernel
theorem dL_day_672 : decode cL_day 672 = .ok (.lconst 0, 1) := by decide +kernel
theorem dL_day_673 : decode cL_day 673 = .ok (.lcmp, 1) := by decide +kernel
theorem dL_day_674 : decode cL_day 674 = .ok (.ifCond .le 18, 3) := by decide +kernel
theorem dL_day_677 : decode cL_day 677 = .ok (.aload 8, 2) := by decide +kernel
theorem dL_day_679 : decode cL_day 679 = .ok (.iload 33, 2) := by decide +kernel
theorem dL_day_681 : decode cL_day 681 = .ok (.dup2, 1) := by decide +kernel
theorem dL_day_682 : decode cL_day 682 = .ok (.laload, 1) := by decide +kernel
theorem dL_day_683 : decode cL_day 683 = .ok (.lconst 1, 1) := by decide +kernel
theorem dL_day_684 : decode cL_day 684 = .ok (.ladd, 1) := by decide +kernel
theorem dL_day_685 : decode cL_day 685 = .ok (.lastore, 1) := by decide +kernel
theorem dL_day_686 : decode cL_day 686 = .ok (.lload 31, 2) := by decide +kernel
theorem dL_day_688 : decode cL_day 688 = .ok (.lconst 1, 1) := by decide +kernel
theorem dL_day_689 : decode cL_day 689 = .ok (.lsub, 1) := by decide +kernel
theorem dL_day_690 : decode cL_day 690 = .ok (.lstore 31, 2) := by decide +kernel
theorem dL_day_692 : decode cL_day 692 = .ok (.iinc 33 1, 3) := by decide +kernel
theorem dL_day_695 : decode cL_day 695 = .ok (.goto (-44), 3) := by decide +kernel
theorem dL_day_698 : decode cL_day 698 = .ok (.lload 29, 2) := by decide +kernel
theorem dL_day_700 : decode cL_day 700 = .ok (.lload 17, 2) := by decide +kernel
theorem dL_day_702 : decode cL_day 702 = .ok (.lcmp, 1) := by decide +kernel
theorem dL_day_703 : decode cL_day 703 = .ok (.ifCond .gt 11, 3) := by decide +kernel
theorem dL_day_706 : decode cL_day 706 = .ok (.lload 17, 2) := by decide +kernel
theorem dL_day_708 : decode cL_day 708 = .ok (.lload 29, 2) := by decide +kernel
theorem dL_day_710 : decode cL_day 710 = .ok (.lsub, 1) := by decide +kernel
theorem dL_day_711 : decode cL_day 711 = .ok (.goto 4, 3) := by decide +kernel
theorem dL_day_714 : decode cL_day 714 = .ok (.lconst 0, 1) := by decide +kernel
theorem dL_day_715 : decode cL_day 715 = .ok (.lstore 17, 2) := by decide +kernel
theorem dL_day_717 : decode cL_day 717 = .ok (.iinc 28 1, 3) := by decide +kernel
theorem dL_day_720 : decode cL_day 720 = .ok (.goto (-223), 3) := by decide +kernel
theorem dL_day_723 : decode cL_day 723 = .ok (.aload_n 0, 1) := by decide +kernel
theorem dL_day_724 : decode cL_day 724 = .ok (.iconst 2, 1) := by decide +kernel
theorem dL_day_725 : decode cL_day 725 = .ok (.invokevirtual 50, 3) := by decide +kernel
theorem dL_day_728 : decode cL_day 728 = .ok (.i2l, 1) := by decide +kernel
theorem dL_day_729 : decode cL_day 729 = .ok (.aload_n 0, 1) := by decide +kernel
theorem dL_day_730 : decode cL_day 730 = .ok (.invokestatic 90, 3) := by decide +kernel
theorem dL_day_733 : decode cL_day 733 = .ok (.lsub, 1) := by decide +kernel
theorem dL_day_734 : decode cL_day 734 = .ok (.lstore 28, 2) := by decide +kernel
theorem dL_day_736 : decode cL_day 736 = .ok (.iconst 1, 1) := by decide +kernel
theorem dL_day_737 : decode cL_day 737 = .ok (.istore 30, 2) := by decide +kernel
theorem dL_day_739 : decode cL_day 739 = .ok (.iconst 0, 1) := by decide +kernel
theorem dL_day_740 : decode cL_day 740 = .ok (.istore 31, 2) := by decide +kernel
theorem dL_day_742 : decode cL_day 742 = .ok (.iload 31, 2) := by decide +kernel
theorem dL_day_744 : decode cL_day 744 = .ok (.iload_n 2, 1) := by decide +kernel
theorem dL_day_745 : decode cL_day 745 = .ok (.if_icmp .ge 179, 3) := by decide +kernel
theorem dL_day_748 : decode cL_day 748 = .ok (.iload 30, 2) := by decide +kernel
theorem dL_day_750 : decode cL_day 750 = .ok (.ifCond .eq 174, 3) := by decide +kernel
theorem dL_day_753 : decode cL_day 753 = .ok (.aload 8, 2) := by decide +kernel
theorem dL_day_755 : decode cL_day 755 = .ok (.iload 31, 2) := by decide +kernel
theorem dL_day_757 : decode cL_day 757 = .ok (.laload, 1) := by decide +kernel
theorem dL_day_758 : decode cL_day 758 = .ok (.lconst 0, 1) := by decide +kernel
theorem dL_day_759 : decode cL_day 759 = .ok (.lcmp, 1) := by decide +kernel
theorem dL_day_760 : decode cL_day 760 = .ok (.ifCond .ne 6, 3) := by decide +kernel
theorem dL_day_763 : decode cL_day 763 = .ok (.goto 155, 3) := by decide +kernel
theorem dL_day_766 : decode cL_day 766 = .ok (.aload 8, 2) := by decide +kernel
theorem dL_day_768 : decode cL_day 768 = .ok (.iload 31, 2) := by decide +kernel
theorem dL_day_770 : decode cL_day 770 = .ok (.laload, 1) := by decide +kernel
theorem dL_day_771 : decode cL_day 771 = .ok (.lload 26, 2) := by decide +kernel
theorem dL_day_773 : decode cL_day 773 = .ok (.lmul, 1) := by decide +kernel
theorem dL_day_774 : decode cL_day 774 = .ok (.ldc2_w 67, 3) := by decide +kernel
theorem dL_day_777 : decode cL_day 777 = .ok (.ldiv, 1) := by decide +kernel
theorem dL_day_778 : decode cL_day 778 = .ok (.lstore 32, 2) := by decide +kernel
theorem dL_day_780 : decode cL_day 780 = .ok (.aload 4, 2) := by decide +kernel
theorem dL_day_782 : decode cL_day 782 = .ok (.iconst 0, 1) := by decide +kernel
theorem dL_day_783 : decode cL_day 783 = .ok (.laload, 1) := by decide +kernel
theorem dL_day_784 : decode cL_day 784 = .ok (.lload 32, 2) := by decide +kernel
theorem dL_day_786 : decode cL_day 786 = .ok (.lcmp, 1) := by decide +kernel
theorem dL_day_787 : decode cL_day 787 = .ok (.ifCond .ge 40, 3) := by decide +kernel
theorem dL_day_790 : decode cL_day 790 = .ok (.aload 4, 2) := by decide +kernel
theorem dL_day_792 : decode cL_day 792 = .ok (.iconst 1, 1) := by decide +kernel
theorem dL_day_793 : decode cL_day 793 = .ok (.laload, 1) := by decide +kernel
theorem dL_day_794 : decode cL_day 794 = .ok (.lconst 0, 1) := by decide +kernel
theorem dL_day_795 : decode cL_day 795 = .ok (.lcmp, 1) := by decide +kernel
theorem dL_day_796 : decode cL_day 796 = .ok (.ifCond .le 31, 3) := by decide +kernel
theorem dL_day_799 : decode cL_day 799 = .ok (.aload 4, 2) := by decide +kernel
theorem dL_day_801 : decode cL_day 801 = .ok (.iconst 0, 1) := by decide +kernel
theorem dL_day_802 : decode cL_day 802 = .ok (.dup2, 1) := by decide +kernel
theorem dL_day_803 : decode cL_day 803 = .ok (.laload, 1) := by decide +kernel
theorem dL_day_804 : decode cL_day 804 = .ok (.lload 28, 2) := by decide +kernel
theorem dL_day_806 : decode cL_day 806 = .ok (.ladd, 1) := by decide +kernel
theorem dL_day_807 : decode cL_day 807 = .ok (.lastore, 1) := by decide +kernel
theorem dL_day_808 : decode cL_day 808 = .ok (.aload 4, 2) := by decide +kernel
theorem dL_day_810 : decode cL_day 810 = .ok (.iconst 1, 1) := by decide +kernel
theorem dL_day_811 : decode cL_day 811 = .ok (.dup2, 1) := by decide +kernel
theorem dL_day_812 : decode cL_day 812 = .ok (.laload, 1) := by decide +kernel
theorem dL_day_813 : decode cL_day 813 = .ok (.lconst 1, 1) := by decide +kernel
theorem dL_day_814 : decode cL_day 814 = .ok (.lsub, 1) := by decide +kernel
theorem dL_day_815 : decode cL_day 815 = .ok (.lastore, 1) := by decide +kernel
theorem dL_day_816 : decode cL_day 816 = .ok (.aload 4, 2) := by decide +kernel
theorem dL_day_818 : decode cL_day 818 = .ok (.iconst 5, 1) := by decide +kernel
theorem dL_day_819 : decode cL_day 819 = .ok (.dup2, 1) := by decide +kernel
theorem dL_day_820 : decode cL_day 820 = .ok (.laload, 1) := by decide +kernel
theorem dL_day_821 : decode cL_day 821 = .ok (.lconst 1, 1) := by decide +kernel
theorem dL_day_822 : decode cL_day 822 = .ok (.ladd, 1) := by decide +kernel
theorem dL_day_823 : decode cL_day 823 = .ok (.lastore, 1) := by decide +kernel
theorem dL_day_824 : decode cL_day 824 = .ok (.goto (-44), 3) := by decide +kernel
theorem dL_day_827 : decode cL_day 827 = .ok (.aload 4, 2) := by decide +kernel
theorem dL_day_829 : decode cL_day 829 = .ok (.iconst 0, 1) := by decide +kernel
theorem dL_day_830 : decode cL_day 830 = .ok (.laload, 1) := by decide +kernel
theorem dL_day_831 : decode cL_day 831 = .ok (.lload 32, 2) := by decide +kernel
theorem dL_day_833 : decode cL_day 833 = .ok (.lcmp, 1) := by decide +kernel
theorem dL_day_834 : decode cL_day 834 = .ok (.ifCond .ge 9, 3) := by decide +kernel
theorem dL_day_837 : decode cL_day 837 = .ok (.iconst 0, 1) := by decide +kernel
theorem dL_day_838 : decode cL_day 838 = .ok (.istore 30, 2) := by decide +kernel
theorem dL_day_840 : decode cL_day 840 = .ok (.goto 78, 3) := by decide +kernel
theorem dL_day_843 : decode cL_day 843 = .ok (.aload 4, 2) := by decide +kernel
theorem dL_day_845 : decode cL_day 845 = .ok (.iconst 0, 1) := by decide +kernel
theorem dL_day_846 : decode cL_day 846 = .ok (.dup2, 1) := by decide +kernel
theorem dL_day_847 : decode cL_day 847 = .ok (.laload, 1) := by decide +kernel
theorem dL_day_848 : decode cL_day 848 = .ok (.lload 32, 2) := by decide +kernel
theorem dL_day_850 : decode cL_day 850 = .ok (.lsub, 1) := by decide +kernel
theorem dL_day_851 : decode cL_day 851 = .ok (.lastore, 1) := by decide +kernel
theorem dL_day_852 : decode cL_day 852 = .ok (.aload 4, 2) := by decide +kernel
theorem dL_day_854 : decode cL_day 854 = .ok (.iconst 2, 1) := by decide +kernel
theorem dL_day_855 : decode cL_day 855 = .ok (.dup2, 1) := by decide +kernel
theorem dL_day_856 : decode cL_day 856 = .ok (.laload, 1) := by decide +kernel
theorem dL_day_857 : decode cL_day 857 = .ok (.aload 8, 2) := by decide +kernel
theorem dL_day_859 : decode cL_day 859 = .ok (.iload 31, 2) := by decide +kernel
theorem dL_day_861 : decode cL_day 861 = .ok (.laload, 1) := by decide +kernel
theorem dL_day_862 : decode cL_day 862 = .ok (.lsub, 1) := by decide +kernel
theorem dL_day_863 : decode cL_day 863 = .ok (.lastore, 1) := by decide +kernel
theorem dL_day_864 : decode cL_day 864 = .ok (.aload 4, 2) := by decide +kernel
theorem dL_day_866 : decode cL_day 866 = .ok (.iconst 4, 1) := by decide +kernel
theorem dL_day_867 : decode cL_day 867 = .ok (.dup2, 1) := by decide +kernel
theorem dL_day_868 : decode cL_day 868 = .ok (.laload, 1) := by decide +kernel
theorem dL_day_869 : decode cL_day 869 = .ok (.aload 8, 2) := by decide +kernel
theorem dL_day_871 : decode cL_day 871 = .ok (.iload 31, 2) := by decide +kernel
theorem dL_day_873 : decode cL_day 873 = .ok (.laload, 1) := by decide +kernel
theorem dL_day_874 : decode cL_day 874 = .ok (.ladd, 1) := by decide +kernel
theorem dL_day_875 : decode cL_day 875 = .ok (.lastore, 1) := by decide +kernel
theorem dL_day_876 : decode cL_day 876 = .ok (.aload 5, 2) := by decide +kernel
theorem dL_day_878 : decode cL_day 878 = .ok (.aload 10, 2) := by decide +kernel
theorem dL_day_880 : decode cL_day 880 = .ok (.iload 31, 2) := by decide +kernel
theorem dL_day_882 : decode cL_day 882 = .ok (.iaload, 1) := by decide +kernel
theorem dL_day_883 : decode cL_day 883 = .ok (.dup2, 1) := by decide +kernel
theorem dL_day_884 : decode cL_day 884 = .ok (.laload, 1) := by decide +kernel
theorem dL_day_885 : decode cL_day 885 = .ok (.aload 8, 2) := by decide +kernel
theorem dL_day_887 : decode cL_day 887 = .ok (.iload 31, 2) := by decide +kernel
theorem dL_day_889 : decode cL_day 889 = .ok (.laload, 1) := by decide +kernel
theorem dL_day_890 : decode cL_day 890 = .ok (.lsub, 1) := by decide +kernel
theorem dL_day_891 : decode cL_day 891 = .ok (.lastore, 1) := by decide +kernel
theorem dL_day_892 : decode cL_day 892 = .ok (.aload 6, 2) := by decide +kernel
theorem dL_day_894 : decode cL_day 894 = .ok (.aload 10, 2) := by decide +kernel
theorem dL_day_896 : decode cL_day 896 = .ok (.iload 31, 2) := by decide +kernel
theorem dL_day_898 : decode cL_day 898 = .ok (.iaload, 1) := by decide +kernel
theorem dL_day_899 : decode cL_day 899 = .ok (.dup2, 1) := by decide +kernel
theorem dL_day_900 : decode cL_day 900 = .ok (.laload, 1) := by decide +kernel
theorem dL_day_901 : decode cL_day 901 = .ok (.lload 32, 2) := by decide +kernel
theorem dL_day_903 : decode cL_day 903 = .ok (.ladd, 1) := by decide +kernel
theorem dL_day_904 : decode cL_day 904 = .ok (.lastore, 1) := by decide +kernel
theorem dL_day_905 : decode cL_day 905 = .ok (.aload 9, 2) := by decide +kernel
theorem dL_day_907 : decode cL_day 907 = .ok (.iload 31, 2) := by decide +kernel
theorem dL_day_909 : decode cL_day 909 = .ok (.dup2, 1) := by decide +kernel
theorem dL_day_910 : decode cL_day 910 = .ok (.laload, 1) := by decide +kernel
theorem dL_day_911 : decode cL_day 911 = .ok (.aload 8, 2) := by decide +kernel
theorem dL_day_913 : decode cL_day 913 = .ok (.iload 31, 2) := by decide +kernel
theorem dL_day_915 : decode cL_day 915 = .ok (.laload, 1) := by decide +kernel
theorem dL_day_916 : decode cL_day 916 = .ok (.lsub, 1) := by decide +kernel
theorem dL_day_917 : decode cL_day 917 = .ok (.lastore, 1) := by decide +kernel
theorem dL_day_918 : decode cL_day 918 = .ok (.iinc 31 1, 3) := by decide +kernel
theorem dL_day_921 : decode cL_day 921 = .ok (.goto (-179), 3) := by decide +kernel
theorem dL_day_924 : decode cL_day 924 = .ok (.iconst 0, 1) := by decide +kernel
theorem dL_day_925 : decode cL_day 925 = .ok (.istore 31, 2) := by decide +kernel
theorem dL_day_927 : decode cL_day 927 = .ok (.iconst 0, 1) := by decide +kernel
theorem dL_day_928 : decode cL_day 928 = .ok (.istore 32, 2) := by decide +kernel
theorem dL_day_930 : decode cL_day 930 = .ok (.iload 32, 2) := by decide +kernel
theorem dL_day_932 : decode cL_day 932 = .ok (.iload_n 3, 1) := by decide +kernel
theorem dL_day_933 : decode cL_day 933 = .ok (.if_icmp .ge 153, 3) := by decide +kernel
theorem dL_day_936 : decode cL_day 936 = .ok (.aload_n 0, 1) := by decide +kernel
theorem dL_day_937 : decode cL_day 937 = .ok (.iconst 0, 1) := by decide +kernel
theorem dL_day_938 : decode cL_day 938 = .ok (.iload 32, 2) := by decide +kernel
theorem dL_day_940 : decode cL_day 940 = .ok (.iconst 2, 1) := by decide +kernel
theorem dL_day_941 : decode cL_day 941 = .ok (.invokevirtual 54, 3) := by decide +kernel
theorem dL_day_944 : decode cL_day 944 = .ok (.iload_n 1, 1) := by decide +kernel
theorem dL_day_945 : decode cL_day 945 = .ok (.if_icmp .le 9, 3) := by decide +kernel
theorem dL_day_948 : decode cL_day 948 = .ok (.iinc 31 1, 3) := by decide +kernel
theorem dL_day_951 : decode cL_day 951 = .ok (.goto 129, 3) := by decide +kernel
theorem dL_day_954 : decode cL_day 954 = .ok (.aload_n 0, 1) := by decide +kernel
theorem dL_day_955 : decode cL_day 955 = .ok (.iconst 0, 1) := by decide +kernel
theorem dL_day_956 : decode cL_day 956 = .ok (.iload 32, 2) := by decide +kernel
theorem dL_day_958 : decode cL_day 958 = .ok (.iconst 1, 1) := by decide +kernel
theorem dL_day_959 : decode cL_day 959 = .ok (.invokevirtual 54, 3) := by decide +kernel
theorem dL_day_962 : decode cL_day 962 = .ok (.i2l, 1) := by decide +kernel
theorem dL_day_963 : decode cL_day 963 = .ok (.lstore 33, 2) := by decide +kernel
theorem dL_day_965 : decode cL_day 965 = .ok (.lload 26, 2) := by decide +kernel
theorem dL_day_967 : decode cL_day 967 = .ok (.lconst 0, 1) := by decide +kernel
theorem dL_day_968 : decode cL_day 968 = .ok (.lcmp, 1) := by decide +kernel
theorem dL_day_969 : decode cL_day 969 = .ok (.ifCond .ne 7, 3) := by decide +kernel
theorem dL_day_972 : decode cL_day 972 = .ok (.lconst 0, 1) := by decide +kernel
theorem dL_day_973 : decode cL_day 973 = .ok (.goto 12, 3) := by decide +kernel
theorem dL_day_976 : decode cL_day 976 = .ok (.ldc2_w 67, 3) := by decide +kernel
theorem dL_day_979 : decode cL_day 979 = .ok (.lload 33, 2) := by decide +kernel
theorem dL_day_981 : decode cL_day 981 = .ok (.lmul, 1) := by decide +kernel
theorem dL_day_982 : decode cL_day 982 = .ok (.lload 26, 2) := by decide +kernel
theorem dL_day_984 : decode cL_day 984 = .ok (.ldiv, 1) := by decide +kernel
theorem dL_day_985 : decode cL_day 985 = .ok (.lstore 35, 2) := by decide +kernel
theorem dL_day_987 : decode cL_day 987 = .ok (.lload 35, 2) := by decide +kernel
theorem dL_day_989 : decode cL_day 989 = .ok (.lconst 0, 1) := by decide +kernel
theorem dL_day_990 : decode cL_day 990 = .ok (.lcmp, 1) := by decide +kernel
theorem dL_day_991 : decode cL_day 991 = .ok (.ifCond .eq 17, 3) := by decide +kernel
theorem dL_day_994 : decode cL_day 994 = .ok (.aload 4, 2) := by decide +kernel
theorem dL_day_996 : decode cL_day 996 = .ok (.iconst 2, 1) := by decide +kernel
theorem dL_day_997 : decode cL_day 997 = .ok (.laload, 1) := by decide +kernel
theorem dL_day_998 : decode cL_day 998 = .ok (.lload 35, 2) := by decide +kernel
theorem dL_day_1000 : decode cL_day 1000 = .ok (.ladd, 1) := by decide +kernel
theorem dL_day_1001 : decode cL_day 1001 = .ok (.ldc2_w 115, 3) := by decide +kernel
theorem dL_day_1004 : decode cL_day 1004 = .ok (.lcmp, 1) := by decide +kernel
theorem dL_day_1005 : decode cL_day 1005 = .ok (.ifCond .le 16, 3) := by decide +kernel
theorem dL_day_1008 : decode cL_day 1008 = .ok (.aload 4, 2) := by decide +kernel
theorem dL_day_1010 : decode cL_day 1010 = .ok (.bipush 6, 2) := by decide +kernel
theorem dL_day_1012 : decode cL_day 1012 = .ok (.dup2, 1) := by decide +kernel
theorem dL_day_1013 : decode cL_day 1013 = .ok (.laload, 1) := by decide +kernel
theorem dL_day_1014 : decode cL_day 1014 = .ok (.lload 33, 2) := by decide +kernel
theorem dL_day_1016 : decode cL_day 1016 = .ok (.ladd, 1) := by decide +kernel
theorem dL_day_1017 : decode cL_day 1017 = .ok (.lastore, 1) := by decide +kernel
theorem dL_day_1018 : decode cL_day 1018 = .ok (.goto 62, 3) := by decide +kernel
theorem dL_day_1021 : decode cL_day 1021 = .ok (.aload 4, 2) := by decide +kernel
theorem dL_day_1023 : decode cL_day 1023 = .ok (.iconst 0, 1) := by decide +kernel
theorem dL_day_1024 : decode cL_day 1024 = .ok (.dup2, 1) := by decide +kernel
theorem dL_day_1025 : decode cL_day 1025 = .ok (.laload, 1) := by decide +kernel
theorem dL_day_1026 : decode cL_day 1026 = .ok (.lload 33, 2) := by decide +kernel
theorem dL_day_1028 : decode cL_day 1028 = .ok (.ladd, 1) := by decide +kernel
theorem dL_day_1029 : decode cL_day 1029 = .ok (.lastore, 1) := by decide +kernel
theorem dL_day_1030 : decode cL_day 1030 = .ok (.aload 4, 2) := by decide +kernel
theorem dL_day_1032 : decode cL_day 1032 = .ok (.iconst 2, 1) := by decide +kernel
theorem dL_day_1033 : decode cL_day 1033 = .ok (.dup2, 1) := by decide +kernel
theorem dL_day_1034 : decode cL_day 1034 = .ok (.laload, 1) := by decide +kernel
theorem dL_day_1035 : decode cL_day 1035 = .ok (.lload 35, 2) := by decide +kernel
theorem dL_day_1037 : decode cL_day 1037 = .ok (.ladd, 1) := by decide +kernel
theorem dL_day_1038 : decode cL_day 1038 = .ok (.lastore, 1) := by decide +kernel
theorem dL_day_1039 : decode cL_day 1039 = .ok (.aload 4, 2) := by decide +kernel
theorem dL_day_1041 : decode cL_day 1041 = .ok (.iconst 3, 1) := by decide +kernel
theorem dL_day_1042 : decode cL_day 1042 = .ok (.dup2, 1) := by decide +kernel
theorem dL_day_1043 : decode cL_day 1043 = .ok (.laload, 1) := by decide +kernel
theorem dL_day_1044 : decode cL_day 1044 = .ok (.lload 35, 2) := by decide +kernel
theorem dL_day_1046 : decode cL_day 1046 = .ok (.ladd, 1) := by decide +kernel
theorem dL_day_1047 : decode cL_day 1047 = .ok (.lastore, 1) := by decide +kernel
theorem dL_day_1048 : decode cL_day 1048 = .ok (.aload 5, 2) := by decide +kernel
theorem dL_day_1050 : decode cL_day 1050 = .ok (.aload_n 0, 1) := by decide +kernel
theorem dL_day_1051 : decode cL_day 1051 = .ok (.iconst 0, 1) := by decide +kernel
theorem dL_day_1052 : decode cL_day 1052 = .ok (.iload 32, 2) := by decide +kernel
theorem dL_day_1054 : decode cL_day 1054 = .ok (.iconst 0, 1) := by decide +kernel
theorem dL_day_1055 : decode cL_day 1055 = .ok (.invokevirtual 54, 3) := by decide +kernel
theorem dL_day_1058 : decode cL_day 1058 = .ok (.dup2, 1) := by decide +kernel
theorem dL_day_1059 : decode cL_day 1059 = .ok (.laload, 1) := by decide +kernel
theorem dL_day_1060 : decode cL_day 1060 = .ok (.lload 35, 2) := by decide +kernel
theorem dL_day_1062 : decode cL_day 1062 = .ok (.ladd, 1) := by decide +kernel
theorem dL_day_1063 : decode cL_day 1063 = .ok (.lastore, 1) := by decide +kernel
theorem dL_day_1064 : decode cL_day 1064 = .ok (.aload 7, 2) := by decide +kernel
theorem dL_day_1066 : decode cL_day 1066 = .ok (.aload_n 0, 1) := by decide +kernel
theorem dL_day_1067 : decode cL_day 1067 = .ok (.iconst 0, 1) := by decide +kernel
theorem dL_day_1068 : decode cL_day 1068 = .ok (.iload 32, 2) := by decide +kernel
theorem dL_day_1070 : decode cL_day 1070 = .ok (.iconst 0, 1) := by decide +kernel
theorem dL_day_1071 : decode cL_day 1071 = .ok (.invokevirtual 54, 3) := by decide +kernel
theorem dL_day_1074 : decode cL_day 1074 = .ok (.dup2, 1) := by decide +kernel
theorem dL_day_1075 : decode cL_day 1075 = .ok (.laload, 1) := by decide +kernel
theorem dL_day_1076 : decode cL_day 1076 = .ok (.lload 33, 2) := by decide +kernel
theorem dL_day_1078 : decode cL_day 1078 = .ok (.ladd, 1) := by decide +kernel
theorem dL_day_1079 : decode cL_day 1079 = .ok (.lastore, 1) := by decide +kernel
theorem dL_day_1080 : decode cL_day 1080 = .ok (.iinc 32 1, 3) := by decide +kernel
theorem dL_day_1083 : decode cL_day 1083 = .ok (.goto (-153), 3) := by decide +kernel
theorem dL_day_1086 : decode cL_day 1086 = .ok (.aload_n 0, 1) := by decide +kernel
theorem dL_day_1087 : decode cL_day 1087 = .ok (.invokevirtual 117, 3) := by decide +kernel
theorem dL_day_1090 : decode cL_day 1090 = .ok (.iload_n 1, 1) := by decide +kernel
theorem dL_day_1091 : decode cL_day 1091 = .ok (.iconst 1, 1) := by decide +kernel
theorem dL_day_1092 : decode cL_day 1092 = .ok (.iadd, 1) := by decide +kernel
theorem dL_day_1093 : decode cL_day 1093 = .ok (.if_icmp .ne 67, 3) := by decide +kernel
theorem dL_day_1096 : decode cL_day 1096 = .ok (.aload_n 0, 1) := by decide +kernel
theorem dL_day_1097 : decode cL_day 1097 = .ok (.iconst 0, 1) := by decide +kernel
theorem dL_day_1098 : decode cL_day 1098 = .ok (.invokevirtual 50, 3) := by decide +kernel
theorem dL_day_1101 : decode cL_day 1101 = .ok (.i2l, 1) := by decide +kernel
theorem dL_day_1102 : decode cL_day 1102 = .ok (.aload 4, 2) := by decide +kernel
theorem dL_day_1104 : decode cL_day 1104 = .ok (.iconst 0, 1) := by decide +kernel
theorem dL_day_1105 : decode cL_day 1105 = .ok (.laload, 1) := by decide +kernel
theorem dL_day_1106 : decode cL_day 1106 = .ok (.lcmp, 1) := by decide +kernel
theorem dL_day_1107 : decode cL_day 1107 = .ok (.ifCond .ne 53, 3) := by decide +kernel
theorem dL_day_1110 : decode cL_day 1110 = .ok (.aload_n 0, 1) := by decide +kernel
theorem dL_day_1111 : decode cL_day 1111 = .ok (.iconst 1, 1) := by decide +kernel
theorem dL_day_1112 : decode cL_day 1112 = .ok (.invokevirtual 50, 3) := by decide +kernel
theorem dL_day_1115 : decode cL_day 1115 = .ok (.i2l, 1) := by decide +kernel
theorem dL_day_1116 : decode cL_day 1116 = .ok (.aload 4, 2) := by decide +kernel
theorem dL_day_1118 : decode cL_day 1118 = .ok (.iconst 1, 1) := by decide +kernel
theorem dL_day_1119 : decode cL_day 1119 = .ok (.laload, 1) := by decide +kernel
theorem dL_day_1120 : decode cL_day 1120 = .ok (.lcmp, 1) := by decide +kernel
theorem dL_day_1121 : decode cL_day 1121 = .ok (.ifCond .ne 39, 3) := by decide +kernel
theorem dL_day_1124 : decode cL_day 1124 = .ok (.aload_n 0, 1) := by decide +kernel
theorem dL_day_1125 : decode cL_day 1125 = .ok (.iconst 4, 1) := by decide +kernel
theorem dL_day_1126 : decode cL_day 1126 = .ok (.invokevirtual 50, 3) := by decide +kernel
theorem dL_day_1129 : decode cL_day 1129 = .ok (.i2l, 1) := by decide +kernel
theorem dL_day_1130 : decode cL_day 1130 = .ok (.aload 4, 2) := by decide +kernel
theorem dL_day_1132 : decode cL_day 1132 = .ok (.iconst 2, 1) := by decide +kernel
