theorem dL_law_0 : decode cL_law 0 = .ok (.new 8, 3) := by decide +kernel
theorem dL_law_3 : decode cL_law 3 = .ok (.dup, 1) := by decide +kernel
theorem dL_law_4 : decode cL_law 4 = .ok (.invokespecial 108, 3) := by decide +kernel
theorem dL_law_7 : decode cL_law 7 = .ok (.astore_n 1, 1) := by decide +kernel
theorem dL_law_8 : decode cL_law 8 = .ok (.new 109, 3) := by decide +kernel
theorem dL_law_11 : decode cL_law 11 = .ok (.dup, 1) := by decide +kernel
theorem dL_law_12 : decode cL_law 12 = .ok (.invokespecial 111, 3) := by decide +kernel
theorem dL_law_15 : decode cL_law 15 = .ok (.astore_n 2, 1) := by decide +kernel
theorem dL_law_16 : decode cL_law 16 = .ok (.iconst 1, 1) := by decide +kernel
theorem dL_law_17 : decode cL_law 17 = .ok (.newarray .long, 2) := by decide +kernel
theorem dL_law_19 : decode cL_law 19 = .ok (.astore_n 3, 1) := by decide +kernel
theorem dL_law_20 : decode cL_law 20 = .ok (.iconst 0, 1) := by decide +kernel
theorem dL_law_21 : decode cL_law 21 = .ok (.istore 4, 2) := by decide +kernel
theorem dL_law_23 : decode cL_law 23 = .ok (.iload 4, 2) := by decide +kernel
theorem dL_law_25 : decode cL_law 25 = .ok (.aload_n 0, 1) := by decide +kernel
theorem dL_law_26 : decode cL_law 26 = .ok (.arraylength, 1) := by decide +kernel
theorem dL_law_27 : decode cL_law 27 = .ok (.bipush 6, 2) := by decide +kernel
theorem dL_law_29 : decode cL_law 29 = .ok (.isub, 1) := by decide +kernel
theorem dL_law_30 : decode cL_law 30 = .ok (.if_icmp .gt 2165, 3) := by decide +kernel
theorem dL_law_33 : decode cL_law 33 = .ok (.aload_n 0, 1) := by decide +kernel
theorem dL_law_34 : decode cL_law 34 = .ok (.iload 4, 2) := by decide +kernel
theorem dL_law_36 : decode cL_law 36 = .ok (.iaload, 1) := by decide +kernel
theorem dL_law_37 : decode cL_law 37 = .ok (.bipush 63, 2) := by decide +kernel
theorem dL_law_39 : decode cL_law 39 = .ok (.iand, 1) := by decide +kernel
theorem dL_law_40 : decode cL_law 40 = .ok (.tableswitch 2149 0 38 #[172, 276, 332, 345, 358, 371, 384, 397, 410, 423, 491, 547, 603, 659, 715, 790, 846, 902, 970, 1038, 1094, 1150, 1163, 1226, 1282, 1338, 1394, 1486, 1542, 1610, 1678, 1734, 1790, 1858, 1914, 1982, 2038, 2094, 2135], 172) := by decide +kernel
theorem dL_law_212 : decode cL_law 212 = .ok (.aload_n 1, 1) := by decide +kernel
theorem dL_law_213 : decode cL_law 213 = .ok (.aload_n 0, 1) := by decide +kernel
theorem dL_law_214 : decode cL_law 214 = .ok (.iload 4, 2) := by decide +kernel
theorem dL_law_216 : decode cL_law 216 = .ok (.iconst 1, 1) := by decide +kernel
theorem dL_law_217 : decode cL_law 217 = .ok (.iadd, 1) := by decide +kernel
theorem dL_law_218 : decode cL_law 218 = .ok (.iaload, 1) := by decide +kernel
theorem dL_law_219 : decode cL_law 219 = .ok (.aload_n 0, 1) := by decide +kernel
theorem dL_law_220 : decode cL_law 220 = .ok (.iload 4, 2) := by decide +kernel
theorem dL_law_222 : decode cL_law 222 = .ok (.iconst 2, 1) := by decide +kernel
theorem dL_law_223 : decode cL_law 223 = .ok (.iadd, 1) := by decide +kernel
theorem dL_law_224 : decode cL_law 224 = .ok (.iaload, 1) := by decide +kernel
theorem dL_law_225 : decode cL_law 225 = .ok (.aload_n 0, 1) := by decide +kernel
theorem dL_law_226 : decode cL_law 226 = .ok (.iload 4, 2) := by decide +kernel
theorem dL_law_228 : decode cL_law 228 = .ok (.iconst 3, 1) := by decide +kernel
theorem dL_law_229 : decode cL_law 229 = .ok (.iadd, 1) := by decide +kernel
theorem dL_law_230 : decode cL_law 230 = .ok (.iaload, 1) := by decide +kernel
theorem dL_law_231 : decode cL_law 231 = .ok (.aload_n 0, 1) := by decide +kernel
theorem dL_law_232 : decode cL_law 232 = .ok (.iload 4, 2) := by decide +kernel
theorem dL_law_234 : decode cL_law 234 = .ok (.iconst 4, 1) := by decide +kernel
theorem dL_law_235 : decode cL_law 235 = .ok (.iadd, 1) := by decide +kernel
theorem dL_law_236 : decode cL_law 236 = .ok (.iaload, 1) := by decide +kernel
theorem dL_law_237 : decode cL_law 237 = .ok (.aload_n 0, 1) := by decide +kernel
theorem dL_law_238 : decode cL_law 238 = .ok (.iload 4, 2) := by decide +kernel
theorem dL_law_240 : decode cL_law 240 = .ok (.iconst 5, 1) := by decide +kernel
theorem dL_law_241 : decode cL_law 241 = .ok (.iadd, 1) := by decide +kernel
theorem dL_law_242 : decode cL_law 242 = .ok (.iaload, 1) := by decide +kernel
theorem dL_law_243 : decode cL_law 243 = .ok (.aload_n 3, 1) := by decide +kernel
theorem dL_law_244 : decode cL_law 244 = .ok (.invokestatic 112, 3) := by decide +kernel
theorem dL_law_247 : decode cL_law 247 = .ok (.istore 5, 2) := by decide +kernel
theorem dL_law_249 : decode cL_law 249 = .ok (.aload_n 2, 1) := by decide +kernel
theorem dL_law_250 : decode cL_law 250 = .ok (.aload_n 0, 1) := by decide +kernel
theorem dL_law_251 : decode cL_law 251 = .ok (.iload 4, 2) := by decide +kernel
theorem dL_law_253 : decode cL_law 253 = .ok (.iconst 1, 1) := by decide +kernel
theorem dL_law_254 : decode cL_law 254 = .ok (.iadd, 1) := by decide +kernel
theorem dL_law_255 : decode cL_law 255 = .ok (.iaload, 1) := by decide +kernel
theorem dL_law_256 : decode cL_law 256 = .ok (.aload_n 0, 1) := by decide +kernel
theorem dL_law_257 : decode cL_law 257 = .ok (.iload 4, 2) := by decide +kernel
theorem dL_law_259 : decode cL_law 259 = .ok (.iconst 2, 1) := by decide +kernel
theorem dL_law_260 : decode cL_law 260 = .ok (.iadd, 1) := by decide +kernel
theorem dL_law_261 : decode cL_law 261 = .ok (.iaload, 1) := by decide +kernel
theorem dL_law_262 : decode cL_law 262 = .ok (.aload_n 0, 1) := by decide +kernel
theorem dL_law_263 : decode cL_law 263 = .ok (.iload 4, 2) := by decide +kernel
theorem dL_law_265 : decode cL_law 265 = .ok (.iconst 3, 1) := by decide +kernel
theorem dL_law_266 : decode cL_law 266 = .ok (.iadd, 1) := by decide +kernel
theorem dL_law_267 : decode cL_law 267 = .ok (.iaload, 1) := by decide +kernel
theorem dL_law_268 : decode cL_law 268 = .ok (.aload_n 0, 1) := by decide +kernel
theorem dL_law_269 : decode cL_law 269 = .ok (.iload 4, 2) := by decide +kernel
theorem dL_law_271 : decode cL_law 271 = .ok (.iconst 4, 1) := by decide +kernel
theorem dL_law_272 : decode cL_law 272 = .ok (.iadd, 1) := by decide +kernel
theorem dL_law_273 : decode cL_law 273 = .ok (.iaload, 1) := by decide +kernel
theorem dL_law_274 : decode cL_law 274 = .ok (.aload_n 0, 1) := by decide +kernel
theorem dL_law_275 : decode cL_law 275 = .ok (.iload 4, 2) := by decide +kernel
theorem dL_law_277 : decode cL_law 277 = .ok (.iconst 5, 1) := by decide +kernel
theorem dL_law_278 : decode cL_law 278 = .ok (.iadd, 1) := by decide +kernel
theorem dL_law_279 : decode cL_law 279 = .ok (.iaload, 1) := by decide +kernel
theorem dL_law_280 : decode cL_law 280 = .ok (.invokevirtual 117, 3) := by decide +kernel
theorem dL_law_283 : decode cL_law 283 = .ok (.istore 6, 2) := by decide +kernel
theorem dL_law_285 : decode cL_law 285 = .ok (.aload_n 2, 1) := by decide +kernel
theorem dL_law_286 : decode cL_law 286 = .ok (.invokevirtual 118, 3) := by decide +kernel
theorem dL_law_289 : decode cL_law 289 = .ok (.iload 5, 2) := by decide +kernel
theorem dL_law_291 : decode cL_law 291 = .ok (.if_icmp .eq 5, 3) := by decide +kernel
theorem dL_law_294 : decode cL_law 294 = .ok (.iconst 0, 1) := by decide +kernel
theorem dL_law_295 : decode cL_law 295 = .ok (.ireturn, 1) := by decide +kernel
theorem dL_law_296 : decode cL_law 296 = .ok (.iload 5, 2) := by decide +kernel
theorem dL_law_298 : decode cL_law 298 = .ok (.ifCond .ne 15, 3) := by decide +kernel
theorem dL_law_301 : decode cL_law 301 = .ok (.aload_n 3, 1) := by decide +kernel
theorem dL_law_302 : decode cL_law 302 = .ok (.iconst 0, 1) := by decide +kernel
theorem dL_law_303 : decode cL_law 303 = .ok (.laload, 1) := by decide +kernel
theorem dL_law_304 : decode cL_law 304 = .ok (.iload 6, 2) := by decide +kernel
theorem dL_law_306 : decode cL_law 306 = .ok (.i2l, 1) := by decide +kernel
theorem dL_law_307 : decode cL_law 307 = .ok (.lcmp, 1) := by decide +kernel
theorem dL_law_308 : decode cL_law 308 = .ok (.ifCond .eq 5, 3) := by decide +kernel
theorem dL_law_311 : decode cL_law 311 = .ok (.iconst 0, 1) := by decide +kernel
theorem dL_law_312 : decode cL_law 312 = .ok (.ireturn, 1) := by decide +kernel
theorem dL_law_313 : decode cL_law 313 = .ok (.goto 1876, 3) := by decide +kernel
theorem dL_law_316 : decode cL_law 316 = .ok (.aload_n 1, 1) := by decide +kernel
theorem dL_law_317 : decode cL_law 317 = .ok (.aload_n 0, 1) := by decide +kernel
theorem dL_law_318 : decode cL_law 318 = .ok (.iload 4, 2) := by decide +kernel
theorem dL_law_320 : decode cL_law 320 = .ok (.iconst 1, 1) := by decide +kernel
theorem dL_law_321 : decode cL_law 321 = .ok (.iadd, 1) := by decide +kernel
theorem dL_law_322 : decode cL_law 322 = .ok (.iaload, 1) := by decide +kernel
theorem dL_law_323 : decode cL_law 323 = .ok (.aload_n 3, 1) := by decide +kernel
theorem dL_law_324 : decode cL_law 324 = .ok (.invokestatic 122, 3) := by decide +kernel
theorem dL_law_327 : decode cL_law 327 = .ok (.istore 5, 2) := by decide +kernel
theorem dL_law_329 : decode cL_law 329 = .ok (.aload_n 2, 1) := by decide +kernel
theorem dL_law_330 : decode cL_law 330 = .ok (.aload_n 0, 1) := by decide +kernel
theorem dL_law_331 : decode cL_law 331 = .ok (.iload 4, 2) := by decide +kernel
theorem dL_law_333 : decode cL_law 333 = .ok (.iconst 1, 1) := by decide +kernel
theorem dL_law_334 : decode cL_law 334 = .ok (.iadd, 1) := by decide +kernel
theorem dL_law_335 : decode cL_law 335 = .ok (.iaload, 1) := by decide +kernel
theorem dL_law_336 : decode cL_law 336 = .ok (.invokevirtual 125, 3) := by decide +kernel
theorem dL_law_339 : decode cL_law 339 = .ok (.istore 6, 2) := by decide +kernel
theorem dL_law_341 : decode cL_law 341 = .ok (.aload_n 2, 1) := by decide +kernel
theorem dL_law_342 : decode cL_law 342 = .ok (.invokevirtual 118, 3) := by decide +kernel
theorem dL_law_345 : decode cL_law 345 = .ok (.iload 5, 2) := by decide +kernel
theorem dL_law_347 : decode cL_law 347 = .ok (.if_icmp .eq 5, 3) := by decide +kernel
theorem dL_law_350 : decode cL_law 350 = .ok (.iconst 0, 1) := by decide +kernel
theorem dL_law_351 : decode cL_law 351 = .ok (.ireturn, 1) := by decide +kernel
theorem dL_law_352 : decode cL_law 352 = .ok (.iload 5, 2) := by decide +kernel
theorem dL_law_354 : decode cL_law 354 = .ok (.ifCond .ne 15, 3) := by decide +kernel
theorem dL_law_357 : decode cL_law 357 = .ok (.aload_n 3, 1) := by decide +kernel
theorem dL_law_358 : decode cL_law 358 = .ok (.iconst 0, 1) := by decide +kernel
theorem dL_law_359 : decode cL_law 359 = .ok (.laload, 1) := by decide +kernel
theorem dL_law_360 : decode cL_law 360 = .ok (.iload 6, 2) := by decide +kernel
theorem dL_law_362 : decode cL_law 362 = .ok (.i2l, 1) := by decide +kernel
theorem dL_law_363 : decode cL_law 363 = .ok (.lcmp, 1) := by decide +kernel
theorem dL_law_364 : decode cL_law 364 = .ok (.ifCond .eq 5, 3) := by decide +kernel
theorem dL_law_367 : decode cL_law 367 = .ok (.iconst 0, 1) := by decide +kernel
theorem dL_law_368 : decode cL_law 368 = .ok (.ireturn, 1) := by decide +kernel
theorem dL_law_369 : decode cL_law 369 = .ok (.goto 1820, 3) := by decide +kernel
theorem dL_law_372 : decode cL_law 372 = .ok (.aload_n 1, 1) := by decide +kernel
theorem dL_law_373 : decode cL_law 373 = .ok (.invokevirtual 126, 3) := by decide +kernel
theorem dL_law_376 : decode cL_law 376 = .ok (.aload_n 2, 1) := by decide +kernel
theorem dL_law_377 : decode cL_law 377 = .ok (.invokevirtual 129, 3) := by decide +kernel
theorem dL_law_380 : decode cL_law 380 = .ok (.if_icmp .eq 1809, 3) := by decide +kernel
theorem dL_law_383 : decode cL_law 383 = .ok (.iconst 0, 1) := by decide +kernel
theorem dL_law_384 : decode cL_law 384 = .ok (.ireturn, 1) := by decide +kernel
theorem dL_law_385 : decode cL_law 385 = .ok (.aload_n 1, 1) := by decide +kernel
theorem dL_law_386 : decode cL_law 386 = .ok (.invokevirtual 130, 3) := by decide +kernel
theorem dL_law_389 : decode cL_law 389 = .ok (.aload_n 2, 1) := by decide +kernel
theorem dL_law_390 : decode cL_law 390 = .ok (.invokevirtual 133, 3) := by decide +kernel
theorem dL_law_393 : decode cL_law 393 = .ok (.if_icmp .eq 1796, 3) := by decide +kernel
theorem dL_law_396 : decode cL_law 396 = .ok (.iconst 0, 1) := by decide +kernel
theorem dL_law_397 : decode cL_law 397 = .ok (.ireturn, 1) := by decide +kernel
theorem dL_law_398 : decode cL_law 398 = .ok (.aload_n 1, 1) := by decide +kernel
theorem dL_law_399 : decode cL_law 399 = .ok (.invokevirtual 134, 3) := by decide +kernel
theorem dL_law_402 : decode cL_law 402 = .ok (.aload_n 2, 1) := by decide +kernel
theorem dL_law_403 : decode cL_law 403 = .ok (.invokevirtual 137, 3) := by decide +kernel
theorem dL_law_406 : decode cL_law 406 = .ok (.if_icmp .eq 1783, 3) := by decide +kernel
theorem dL_law_409 : decode cL_law 409 = .ok (.iconst 0, 1) := by decide +kernel
theorem dL_law_410 : decode cL_law 410 = .ok (.ireturn, 1) := by decide +kernel
theorem dL_law_411 : decode cL_law 411 = .ok (.aload_n 1, 1) := by decide +kernel
theorem dL_law_412 : decode cL_law 412 = .ok (.invokevirtual 138, 3) := by decide +kernel
theorem dL_law_415 : decode cL_law 415 = .ok (.aload_n 2, 1) := by decide +kernel
theorem dL_law_416 : decode cL_law 416 = .ok (.invokevirtual 141, 3) := by decide +kernel
theorem dL_law_419 : decode cL_law 419 = .ok (.if_icmp .eq 1770, 3) := by decide +kernel
theorem dL_law_422 : decode cL_law 422 = .ok (.iconst 0, 1) := by decide +kernel
theorem dL_law_423 : decode cL_law 423 = .ok (.ireturn, 1) := by decide +kernel
theorem dL_law_424 : decode cL_law 424 = .ok (.aload_n 1, 1) := by decide +kernel
theorem dL_law_425 : decode cL_law 425 = .ok (.invokevirtual 142, 3) := by decide +kernel
theorem dL_law_428 : decode cL_law 428 = .ok (.aload_n 2, 1) := by decide +kernel
theorem dL_law_429 : decode cL_law 429 = .ok (.invokevirtual 145, 3) := by decide +kernel
theorem dL_law_432 : decode cL_law 432 = .ok (.if_icmp .eq 1757, 3) := by decide +kernel
theorem dL_law_435 : decode cL_law 435 = .ok (.iconst 0, 1) := by decide +kernel
theorem dL_law_436 : decode cL_law 436 = .ok (.ireturn, 1) := by decide +kernel
theorem dL_law_437 : decode cL_law 437 = .ok (.aload_n 1, 1) := by decide +kernel
theorem dL_law_438 : decode cL_law 438 = .ok (.invokevirtual 146, 3) := by decide +kernel
theorem dL_law_441 : decode cL_law 441 = .ok (.aload_n 2, 1) := by decide +kernel
theorem dL_law_442 : decode cL_law 442 = .ok (.invokevirtual 149, 3) := by decide +kernel
theorem dL_law_445 : decode cL_law 445 = .ok (.if_icmp .eq 1744, 3) := by decide +kernel
theorem dL_law_448 : decode cL_law 448 = .ok (.iconst 0, 1) := by decide +kernel
theorem dL_law_449 : decode cL_law 449 = .ok (.ireturn, 1) := by decide +kernel
theorem dL_law_450 : decode cL_law 450 = .ok (.aload_n 1, 1) := by decide +kernel
theorem dL_law_451 : decode cL_law 451 = .ok (.invokevirtual 150, 3) := by decide +kernel
theorem dL_law_454 : decode cL_law 454 = .ok (.aload_n 2, 1) := by decide +kernel
theorem dL_law_455 : decode cL_law 455 = .ok (.invokevirtual 153, 3) := by decide +kernel
theorem dL_law_458 : decode cL_law 458 = .ok (.if_icmp .eq 1731, 3) := by decide +kernel
theorem dL_law_461 : decode cL_law 461 = .ok (.iconst 0, 1) := by decide +kernel
theorem dL_law_462 : decode cL_law 462 = .ok (.ireturn, 1) := by decide +kernel
theorem dL_law_463 : decode cL_law 463 = .ok (.aload_n 1, 1) := by decide +kernel
theorem dL_law_464 : decode cL_law 464 = .ok (.aload_n 0, 1) := by decide +kernel
theorem dL_law_465 : decode cL_law 465 = .ok (.iload 4, 2) := by decide +kernel
theorem dL_law_467 : decode cL_law 467 = .ok (.iconst 1, 1) := by decide +kernel
theorem dL_law_468 : decode cL_law 468 = .ok (.iadd, 1) := by decide +kernel
theorem dL_law_469 : decode cL_law 469 = .ok (.iaload, 1) := by decide +kernel
theorem dL_law_470 : decode cL_law 470 = .ok (.aload_n 0, 1) := by decide +kernel
theorem dL_law_471 : decode cL_law 471 = .ok (.iload 4, 2) := by decide +kernel
theorem dL_law_473 : decode cL_law 473 = .ok (.iconst 2, 1) := by decide +kernel
theorem dL_law_474 : decode cL_law 474 = .ok (.iadd, 1) := by decide +kernel
theorem dL_law_475 : decode cL_law 475 = .ok (.iaload, 1) := by decide +kernel
theorem dL_law_476 : decode cL_law 476 = .ok (.aload_n 3, 1) := by decide +kernel
theorem dL_law_477 : decode cL_law 477 = .ok (.invokestatic 154, 3) := by decide +kernel
theorem dL_law_480 : decode cL_law 480 = .ok (.istore 5, 2) := by decide +kernel
theorem dL_law_482 : decode cL_law 482 = .ok (.aload_n 2, 1) := by decide +kernel
theorem dL_law_483 : decode cL_law 483 = .ok (.aload_n 0, 1) := by decide +kernel
theorem dL_law_484 : decode cL_law 484 = .ok (.iload 4, 2) := by decide +kernel
theorem dL_law_486 : decode cL_law 486 = .ok (.iconst 1, 1) := by decide +kernel
theorem dL_law_487 : decode cL_law 487 = .ok (.iadd, 1) := by decide +kernel
theorem dL_law_488 : decode cL_law 488 = .ok (.iaload, 1) := by decide +kernel
theorem dL_law_489 : decode cL_law 489 = .ok (.aload_n 0, 1) := by decide +kernel
theorem dL_law_490 : decode cL_law 490 = .ok (.iload 4, 2) := by decide +kernel
theorem dL_law_492 : decode cL_law 492 = .ok (.iconst 2, 1) := by decide +kernel
theorem dL_law_493 : decode cL_law 493 = .ok (.iadd, 1) := by decide +kernel
theorem dL_law_494 : decode cL_law 494 = .ok (.iaload, 1) := by decide +kernel
theorem dL_law_495 : decode cL_law 495 = .ok (.invokevirtual 157, 3) := by decide +kernel
theorem dL_law_498 : decode cL_law 498 = .ok (.istore 6, 2) := by decide +kernel
theorem dL_law_500 : decode cL_law 500 = .ok (.aload_n 2, 1) := by decide +kernel
theorem dL_law_501 : decode cL_law 501 = .ok (.invokevirtual 118, 3) := by decide +kernel
theorem dL_law_504 : decode cL_law 504 = .ok (.iload 5, 2) := by decide +kernel
theorem dL_law_506 : decode cL_law 506 = .ok (.if_icmp .eq 5, 3) := by decide +kernel
theorem dL_law_509 : decode cL_law 509 = .ok (.iconst 0, 1) := by decide +kernel
theorem dL_law_510 : decode cL_law 510 = .ok (.ireturn, 1) := by decide +kernel
theorem dL_law_511 : decode cL_law 511 = .ok (.iload 5, 2) := by decide +kernel
theorem dL_law_513 : decode cL_law 513 = .ok (.ifCond .ne 15, 3) := by decide +kernel
theorem dL_law_516 : decode cL_law 516 = .ok (.aload_n 3, 1) := by decide +kernel
theorem dL_law_517 : decode cL_law 517 = .ok (.iconst 0, 1) := by decide +kernel
theorem dL_law_518 : decode cL_law 518 = .ok (.laload, 1) := by decide +kernel
theorem dL_law_519 : decode cL_law 519 = .ok (.iload 6, 2) := by decide +kernel
theorem dL_law_521 : decode cL_law 521 = .ok (.i2l, 1) := by decide +kernel
theorem dL_law_522 : decode cL_law 522 = .ok (.lcmp, 1) := by decide +kernel
theorem dL_law_523 : decode cL_law 523 = .ok (.ifCond .eq 5, 3) := by decide +kernel
theorem dL_law_526 : decode cL_law 526 = .ok (.iconst 0, 1) := by decide +kernel
theorem dL_law_527 : decode cL_law 527 = .ok (.ireturn, 1) := by decide +kernel
theorem dL_law_528 : decode cL_law 528 = .ok (.goto 1661, 3) := by decide +kernel
theorem dL_law_531 : decode cL_law 531 = .ok (.aload_n 1, 1) := by decide +kernel
theorem dL_law_532 : decode cL_law 532 = .ok (.aload_n 0, 1) := by decide +kernel
theorem dL_law_533 : decode cL_law 533 = .ok (.iload 4, 2) := by decide +kernel
theorem dL_law_535 : decode cL_law 535 = .ok (.iconst 1, 1) := by decide +kernel
theorem dL_law_536 : decode cL_law 536 = .ok (.iadd, 1) := by decide +kernel
theorem dL_law_537 : decode cL_law 537 = .ok (.iaload, 1) := by decide +kernel
theorem dL_law_538 : decode cL_law 538 = .ok (.aload_n 3, 1) := by decide +kernel
theorem dL_law_539 : decode cL_law 539 = .ok (.invokestatic 158, 3) := by decide +kernel
theorem dL_law_542 : decode cL_law 542 = .ok (.istore 5, 2) := by decide +kernel
theorem dL_law_544 : decode cL_law 544 = .ok (.aload_n 2, 1) := by decide +kernel
theorem dL_law_545 : decode cL_law 545 = .ok (.aload_n 0, 1) := by decide +kernel
theorem dL_law_546 : decode cL_law 546 = .ok (.iload 4, 2) := by decide +kernel
theorem dL_law_548 : decode cL_law 548 = .ok (.iconst 1, 1) := by decide +kernel
theorem dL_law_549 : decode cL_law 549 = .ok (.iadd, 1) := by decide +kernel
theorem dL_law_550 : decode cL_law 550 = .ok (.iaload, 1) := by decide +kernel
theorem dL_law_551 : decode cL_law 551 = .ok (.invokevirtual 160, 3) := by decide +kernel
theorem dL_law_554 : decode cL_law 554 = .ok (.istore 6, 2) := by decide +kernel
theorem dL_law_556 : decode cL_law 556 = .ok (.aload_n 2, 1) := by decide +kernel
theorem dL_law_557 : decode cL_law 557 = .ok (.invokevirtual 118, 3) := by decide +kernel
theorem dL_law_560 : decode cL_law 560 = .ok (.iload 5, 2) := by decide +kernel
theorem dL_law_562 : decode cL_law 562 = .ok (.if_icmp .eq 5, 3) := by decide +kernel
theorem dL_law_565 : decode cL_law 565 = .ok (.iconst 0, 1) := by decide +kernel
theorem dL_law_566 : decode cL_law 566 = .ok (.ireturn, 1) := by decide +kernel
theorem dL_law_567 : decode cL_law 567 = .ok (.iload 5, 2) := by decide +kernel
theorem dL_law_569 : decode cL_law 569 = .ok (.ifCond .ne 15, 3) := by decide +kernel
theorem dL_law_572 : decode cL_law 572 = .ok (.aload_n 3, 1) := by decide +kernel
theorem dL_law_573 : decode cL_law 573 = .ok (.iconst 0, 1) := by decide +kernel
theorem dL_law_574 : decode cL_law 574 = .ok (.laload, 1) := by decide +kernel
theorem dL_law_575 : decode cL_law 575 = .ok (.iload 6, 2) := by decide +kernel
theorem dL_law_577 : decode cL_law 577 = .ok (.i2l, 1) := by decide +kernel
theorem dL_law_578 : decode cL_law 578 = .ok (.lcmp, 1) := by decide +kernel
theorem dL_law_579 : decode cL_law 579 = .ok (.ifCond .eq 5, 3) := by decide +kernel
theorem dL_law_582 : decode cL_law 582 = .ok (.iconst 0, 1) := by decide +kernel
theorem dL_law_583 : decode cL_law 583 = .ok (.ireturn, 1) := by decide +kernel
theorem dL_law_584 : decode cL_law 584 = .ok (.goto 1605, 3) := by decide +kernel
theorem dL_law_587 : decode cL_law 587 = .ok (.aload_n 1, 1) := by decide +kernel
theorem dL_law_588 : decode cL_law 588 = .ok (.aload_n 0, 1) := by decide +kernel
theorem dL_law_589 : decode cL_law 589 = .ok (.iload 4, 2) := by decide +kernel
theorem dL_law_591 : decode cL_law 591 = .ok (.iconst 1, 1) := by decide +kernel
theorem dL_law_592 : decode cL_law 592 = .ok (.iadd, 1) := by decide +kernel
theorem dL_law_593 : decode cL_law 593 = .ok (.iaload, 1) := by decide +kernel
theorem dL_law_594 : decode cL_law 594 = .ok (.aload_n 3, 1) := by decide +kernel
theorem dL_law_595 : decode cL_law 595 = .ok (.invokestatic 161, 3) := by decide +kernel
theorem dL_law_598 : decode cL_law 598 = .ok (.istore 5, 2) := by decide +kernel
theorem dL_law_600 : decode cL_law 600 = .ok (.aload_n 2, 1) := by decide +kernel
theorem dL_law_601 : decode cL_law 601 = .ok (.aload_n 0, 1) := by decide +kernel
theorem dL_law_602 : decode cL_law 602 = .ok (.iload 4, 2) := by decide +kernel
theorem dL_law_604 : decode cL_law 604 = .ok (.iconst 1, 1) := by decide +kernel
theorem dL_law_605 : decode cL_law 605 = .ok (.iadd, 1) := by decide +kernel
theorem dL_law_606 : decode cL_law 606 = .ok (.iaload, 1) := by decide +kernel
theorem dL_law_607 : decode cL_law 607 = .ok (.invokevirtual 163, 3) := by decide +kernel
theorem dL_law_610 : decode cL_law 610 = .ok (.istore 6, 2) := by decide +kernel
theorem dL_law_612 : decode cL_law 612 = .ok (.aload_n 2, 1) := by decide +kernel
theorem dL_law_613 : decode cL_law 613 = .ok (.invokevirtual 118, 3) := by decide +kernel
theorem dL_law_616 : decode cL_law 616 = .ok (.iload 5, 2) := by decide +kernel
theorem dL_law_618 : decode cL_law 618 = .ok (.if_icmp .eq 5, 3) := by decide +kernel
theorem dL_law_621 : decode cL_law 621 = .ok (.iconst 0, 1) := by decide +kernel
theorem dL_law_622 : decode cL_law 622 = .ok (.ireturn, 1) := by decide +kernel
theorem dL_law_623 : decode cL_law 623 = .ok (.iload 5, 2) := by decide +kernel
theorem dL_law_625 : decode cL_law 625 = .ok (.ifCond .ne 15, 3) := by decide +kernel
theorem dL_law_628 : decode cL_law 628 = .ok (.aload_n 3, 1) := by decide +kernel
theorem dL_law_629 : decode cL_law 629 = .ok (.iconst 0, 1) := by decide +kernel
theorem dL_law_630 : decode cL_law 630 = .ok (.laload, 1) := by decide +kernel
theorem dL_law_631 : decode cL_law 631 = .ok (.iload 6, 2) := by decide +kernel
theorem dL_law_633 : decode cL_law 633 = .ok (.i2l, 1) := by decide +kernel
theorem dL_law_634 : decode cL_law 634 = .ok (.lcmp, 1) := by decide +kernel
theorem dL_law_635 : decode cL_law 635 = .ok (.ifCond .eq 5, 3) := by decide +kernel
theorem dL_law_638 : decode cL_law 638 = .ok (.iconst 0, 1) := by decide +kernel
theorem dL_law_639 : decode cL_law 639 = .ok (.ireturn, 1) := by decide +kernel
theorem dL_law_640 : decode cL_law 640 = .ok (.goto 1549, 3) := by decide +kernel
theorem dL_law_643 : decode cL_law 643 = .ok (.aload_n 1, 1) := by decide +kernel
theorem dL_law_644 : decode cL_law 644 = .ok (.aload_n 0, 1) := by decide +kernel
theorem dL_law_645 : decode cL_law 645 = .ok (.iload 4, 2) := by decide +kernel
theorem dL_law_647 : decode cL_law 647 = .ok (.iconst 1, 1) := by decide +kernel
theorem dL_law_648 : decode cL_law 648 = .ok (.iadd, 1) := by decide +kernel
theorem dL_law_649 : decode cL_law 649 = .ok (.iaload, 1) := by decide +kernel
theorem dL_law_650 : decode cL_law 650 = .ok (.aload_n 3, 1) := by decide +kernel
theorem dL_law_651 : decode cL_law 651 = .ok (.invokestatic 164, 3) := by decide +kernel
theorem dL_law_654 : decode cL_law 654 = .ok (.istore 5, 2) := by decide +kernel
theorem dL_law_656 : decode cL_law 656 = .ok (.aload_n 2, 1) := by decide +kernel
theorem dL_law_657 : decode cL_law 657 = .ok (.aload_n 0, 1) := by decide +kernel
theorem dL_law_658 : decode cL_law 658 = .ok (.iload 4, 2) := by decide +kernel
theorem dL_law_660 : decode cL_law 660 = .ok (.iconst 1, 1) := by decide +kernel
theorem dL_law_661 : decode cL_law 661 = .ok (.iadd, 1) := by decide +kernel
theorem dL_law_662 : decode cL_law 662 = .ok (.iaload, 1) := by decide +kernel
theorem dL_law_663 : decode cL_law 663 = .ok (.invokevirtual 166, 3) := by decide +kernel
theorem dL_law_666 : decode cL_law 666 = .ok (.istore 6, 2) := by decide +kernel
theorem dL_law_668 : decode cL_law 668 = .ok (.aload_n 2, 1) := by decide +kernel
theorem dL_law_669 : decode cL_law 669 = .ok (.invokevirtual 118, 3) := by decide +kernel
theorem dL_law_672 : decode cL_law 672 = .ok (.iload 5, 2) := by decide +kernel
theorem dL_law_674 : decode cL_law 674 = .ok (.if_icmp .eq 5, 3) := by decide +kernel
theorem dL_law_677 : decode cL_law 677 = .ok (.iconst 0, 1) := by decide +kernel
theorem dL_law_678 : decode cL_law 678 = .ok (.ireturn, 1) := by decide +kernel
theorem dL_law_679 : decode cL_law 679 = .ok (.iload 5, 2) := by decide +kernel
theorem dL_law_681 : decode cL_law 681 = .ok (.ifCond .ne 15, 3) := by decide +kernel
theorem dL_law_684 : decode cL_law 684 = .ok (.aload_n 3, 1) := by decide +kernel
theorem dL_law_685 : decode cL_law 685 = .ok (.iconst 0, 1) := by decide +kernel
theorem dL_law_686 : decode cL_law 686 = .ok (.laload, 1) := by decide +kernel
theorem dL_law_687 : decode cL_law 687 = .ok (.iload 6, 2) := by decide +kernel
theorem dL_law_689 : decode cL_law 689 = .ok (.i2l, 1) := by decide +kernel
theorem dL_law_690 : decode cL_law 690 = .ok (.lcmp, 1) := by decide +kernel
theorem dL_law_691 : decode cL_law 691 = .ok (.ifCond .eq 5, 3) := by decide +kernel
theorem dL_law_694 : decode cL_law 694 = .ok (.iconst 0, 1) := by decide +kernel
theorem dL_law_695 : decode cL_law 695 = .ok (.ireturn, 1) := by decide +kernel
theorem dL_law_696 : decode cL_law 696 = .ok (.goto 1493, 3) := by decide +kernel
theorem dL_law_699 : decode cL_law 699 = .ok (.aload_n 1, 1) := by decide +kernel
theorem dL_law_700 : decode cL_law 700 = .ok (.aload_n 0, 1) := by decide +kernel
theorem dL_law_701 : decode cL_law 701 = .ok (.iload 4, 2) := by decide +kernel
theorem dL_law_703 : decode cL_law 703 = .ok (.iconst 1, 1) := by decide +kernel
theorem dL_law_704 : decode cL_law 704 = .ok (.iadd, 1) := by decide +kernel
theorem dL_law_705 : decode cL_law 705 = .ok (.iaload, 1) := by decide +kernel
theorem dL_law_706 : decode cL_law 706 = .ok (.aload_n 3, 1) := by decide +kernel
theorem dL_law_707 : decode cL_law 707 = .ok (.invokestatic 167, 3) := by decide +kernel
theorem dL_law_710 : decode cL_law 710 = .ok (.istore 5, 2) := by decide +kernel
theorem dL_law_712 : decode cL_law 712 = .ok (.aload_n 2, 1) := by decide +kernel
theorem dL_law_713 : decode cL_law 713 = .ok (.aload_n 0, 1) := by decide +kernel
theorem dL_law_714 : decode cL_law 714 = .ok (.iload 4, 2) := by decide +kernel
theorem dL_law_716 : decode cL_law 716 = .ok (.iconst 1, 1) := by decide +kernel
theorem dL_law_717 : decode cL_law 717 = .ok (.iadd, 1) := by decide +kernel
theorem dL_law_718 : decode cL_law 718 = .ok (.iaload, 1) := by decide +kernel
theorem dL_law_719 : decode cL_law 719 = .ok (.invokevirtual 169, 3) := by decide +kernel
theorem dL_law_722 : decode cL_law 722 = .ok (.istore 6, 2) := by decide +kernel
theorem dL_law_724 : decode cL_law 724 = .ok (.aload_n 2, 1) := by decide +kernel
theorem dL_law_725 : decode cL_law 725 = .ok (.invokevirtual 118, 3) := by decide +kernel
theorem dL_law_728 : decode cL_law 728 = .ok (.iload 5, 2) := by decide +kernel
theorem dL_law_730 : decode cL_law 730 = .ok (.if_icmp .eq 5, 3) := by decide +kernel
theorem dL_law_733 : decode cL_law 733 = .ok (.iconst 0, 1) := by decide +kernel
theorem dL_law_734 : decode cL_law 734 = .ok (.ireturn, 1) := by decide +kernel
theorem dL_law_735 : decode cL_law 735 = .ok (.iload 5, 2) := by decide +kernel
theorem dL_law_737 : decode cL_law 737 = .ok (.ifCond .ne 15, 3) := by decide +kernel
theorem dL_law_740 : decode cL_law 740 = .ok (.aload_n 3, 1) := by decide +kernel
theorem dL_law_741 : decode cL_law 741 = .ok (.iconst 0, 1) := by decide +kernel
theorem dL_law_742 : decode cL_law 742 = .ok (.laload, 1) := by decide +kernel
theorem dL_law_743 : decode cL_law 743 = .ok (.iload 6, 2) := by decide +kernel
theorem dL_law_745 : decode cL_law 745 = .ok (.i2l, 1) := by decide +kernel
theorem dL_law_746 : decode cL_law 746 = .ok (.lcmp, 1) := by decide +kernel
theorem dL_law_747 : decode cL_law 747 = .ok (.ifCond .eq 5, 3) := by decide +kernel
theorem dL_law_750 : decode cL_law 750 = .ok (.iconst 0, 1) := by decide +kernel
theorem dL_law_751 : decode cL_law 751 = .ok (.ireturn, 1) := by decide +kernel
theorem dL_law_752 : decode cL_law 752 = .ok (.goto 1437, 3) := by decide +kernel
theorem dL_law_755 : decode cL_law 755 = .ok (.aload_n 1, 1) := by decide +kernel
theorem dL_law_756 : decode cL_law 756 = .ok (.aload_n 0, 1) := by decide +kernel
theorem dL_law_757 : decode cL_law 757 = .ok (.iload 4, 2) := by decide +kernel
theorem dL_law_759 : decode cL_law 759 = .ok (.iconst 1, 1) := by decide +kernel
theorem dL_law_760 : decode cL_law 760 = .ok (.iadd, 1) := by decide +kernel
theorem dL_law_761 : decode cL_law 761 = .ok (.iaload, 1) := by decide +kernel
theorem dL_law_762 : decode cL_law 762 = .ok (.aload_n 0, 1) := by decide +kernel
theorem dL_law_763 : decode cL_law 763 = .ok (.iload 4, 2) := by decide +kernel
theorem dL_law_765 : decode cL_law 765 = .ok (.iconst 2, 1) := by decide +kernel
theorem dL_law_766 : decode cL_law 766 = .ok (.iadd, 1) := by decide +kernel
theorem dL_law_767 : decode cL_law 767 = .ok (.iaload, 1) := by decide +kernel
theorem dL_law_768 : decode cL_law 768 = .ok (.aload_n 3, 1) := by decide +kernel
theorem dL_law_769 : decode cL_law 769 = .ok (.invokestatic 170, 3) := by decide +kernel
theorem dL_law_772 : decode cL_law 772 = .ok (.istore 5, 2) := by decide +kernel
theorem dL_law_774 : decode cL_law 774 = .ok (.aload_n 2, 1) := by decide +kernel
theorem dL_law_775 : decode cL_law 775 = .ok (.aload_n 0, 1) := by decide +kernel
theorem dL_law_776 : decode cL_law 776 = .ok (.iload 4, 2) := by decide +kernel
theorem dL_law_778 : decode cL_law 778 = .ok (.iconst 1, 1) := by decide +kernel
theorem dL_law_779 : decode cL_law 779 = .ok (.iadd, 1) := by decide +kernel
theorem dL_law_780 : decode cL_law 780 = .ok (.iaload, 1) := by decide +kernel
theorem dL_law_781 : decode cL_law 781 = .ok (.aload_n 0, 1) := by decide +kernel
theorem dL_law_782 : decode cL_law 782 = .ok (.iload 4, 2) := by decide +kernel
theorem dL_law_784 : decode cL_law 784 = .ok (.iconst 2, 1) := by decide +kernel
theorem dL_law_785 : decode cL_law 785 = .ok (.iadd, 1) := by decide +kernel
theorem dL_law_786 : decode cL_law 786 = .ok (.iaload, 1) := by decide +kernel
theorem dL_law_787 : decode cL_law 787 = .ok (.invokevirtual 172, 3) := by decide +kernel
theorem dL_law_790 : decode cL_law 790 = .ok (.istore 6, 2) := by decide +kernel
theorem dL_law_792 : decode cL_law 792 = .ok (.aload_n 2, 1) := by decide +kernel
theorem dL_law_793 : decode cL_law 793 = .ok (.invokevirtual 118, 3) := by decide +kernel
theorem dL_law_796 : decode cL_law 796 = .ok (.iload 5, 2) := by decide +kernel
theorem dL_law_798 : decode cL_law 798 = .ok (.if_icmp .eq 5, 3) := by decide +kernel
theorem dL_law_801 : decode cL_law 801 = .ok (.iconst 0, 1) := by decide +kernel
theorem dL_law_802 : decode cL_law 802 = .ok (.ireturn, 1) := by decide +kernel
theorem dL_law_803 : decode cL_law 803 = .ok (.iload 5, 2) := by decide +kernel
theorem dL_law_805 : decode cL_law 805 = .ok (.ifCond .ne 22, 3) := by decide +kernel
theorem dL_law_808 : decode cL_law 808 = .ok (.aload_n 3, 1) := by decide +kernel
theorem dL_law_809 : decode cL_law 809 = .ok (.iconst 0, 1) := by decide +kernel
theorem dL_law_810 : decode cL_law 810 = .ok (.laload, 1) := by decide +kernel
theorem dL_law_811 : decode cL_law 811 = .ok (.iload 6, 2) := by decide +kernel
theorem dL_law_813 : decode cL_law 813 = .ok (.ifCond .eq 7, 3) := by decide +kernel
theorem dL_law_816 : decode cL_law 816 = .ok (.lconst 1, 1) := by decide +kernel
theorem dL_law_817 : decode cL_law 817 = .ok (.goto 4, 3) := by decide +kernel
theorem dL_law_820 : decode cL_law 820 = .ok (.lconst 0, 1) := by decide +kernel
theorem dL_law_821 : decode cL_law 821 = .ok (.lcmp, 1) := by decide +kernel
theorem dL_law_822 : decode cL_law 822 = .ok (.ifCond .eq 5, 3) := by decide +kernel
theorem dL_law_825 : decode cL_law 825 = .ok (.iconst 0, 1) := by decide +kernel
theorem dL_law_826 : decode cL_law 826 = .ok (.ireturn, 1) := by decide +kernel
theorem dL_law_827 : decode cL_law 827 = .ok (.goto 1362, 3) := by decide +kernel
theorem dL_law_830 : decode cL_law 830 = .ok (.aload_n 1, 1) := by decide +kernel
theorem dL_law_831 : decode cL_law 831 = .ok (.aload_n 0, 1) := by decide +kernel
theorem dL_law_832 : decode cL_law 832 = .ok (.iload 4, 2) := by decide +kernel
theorem dL_law_834 : decode cL_law 834 = .ok (.iconst 1, 1) := by decide +kernel
theorem dL_law_835 : decode cL_law 835 = .ok (.iadd, 1) := by decide +kernel
theorem dL_law_836 : decode cL_law 836 = .ok (.iaload, 1) := by decide +kernel
theorem dL_law_837 : decode cL_law 837 = .ok (.aload_n 3, 1) := by decide +kernel
theorem dL_law_838 : decode cL_law 838 = .ok (.invokestatic 173, 3) := by decide +kernel
theorem dL_law_841 : decode cL_law 841 = .ok (.istore 5, 2) := by decide +kernel
theorem dL_law_843 : decode cL_law 843 = .ok (.aload_n 2, 1) := by decide +kernel
theorem dL_law_844 : decode cL_law 844 = .ok (.aload_n 0, 1) := by decide +kernel
theorem dL_law_845 : decode cL_law 845 = .ok (.iload 4, 2) := by decide +kernel
theorem dL_law_847 : decode cL_law 847 = .ok (.iconst 1, 1) := by decide +kernel
theorem dL_law_848 : decode cL_law 848 = .ok (.iadd, 1) := by decide +kernel
theorem dL_law_849 : decode cL_law 849 = .ok (.iaload, 1) := by decide +kernel
theorem dL_law_850 : decode cL_law 850 = .ok (.invokevirtual 175, 3) := by decide +kernel
theorem dL_law_853 : decode cL_law 853 = .ok (.istore 6, 2) := by decide +kernel
theorem dL_law_855 : decode cL_law 855 = .ok (.aload_n 2, 1) := by decide +kernel
theorem dL_law_856 : decode cL_law 856 = .ok (.invokevirtual 118, 3) := by decide +kernel
theorem dL_law_859 : decode cL_law 859 = .ok (.iload 5, 2) := by decide +kernel
theorem dL_law_861 : decode cL_law 861 = .ok (.if_icmp .eq 5, 3) := by decide +kernel
theorem dL_law_864 : decode cL_law 864 = .ok (.iconst 0, 1) := by decide +kernel
theorem dL_law_865 : decode cL_law 865 = .ok (.ireturn, 1) := by decide +kernel
theorem dL_law_866 : decode cL_law 866 = .ok (.iload 5, 2) := by decide +kernel
theorem dL_law_868 : decode cL_law 868 = .ok (.ifCond .ne 15, 3) := by decide +kernel
theorem dL_law_871 : decode cL_law 871 = .ok (.aload_n 3, 1) := by decide +kernel
theorem dL_law_872 : decode cL_law 872 = .ok (.iconst 0, 1) := by decide +kernel
theorem dL_law_873 : decode cL_law 873 = .ok (.laload, 1) := by decide +kernel
theorem dL_law_874 : decode cL_law 874 = .ok (.iload 6, 2) := by decide +kernel
theorem dL_law_876 : decode cL_law 876 = .ok (.i2l, 1) := by decide +kernel
theorem dL_law_877 : decode cL_law 877 = .ok (.lcmp, 1) := by decide +kernel
theorem dL_law_878 : decode cL_law 878 = .ok (.ifCond .eq 5, 3) := by decide +kernel
theorem dL_law_881 : decode cL_law 881 = .ok (.iconst 0, 1) := by decide +kernel
theorem dL_law_882 : decode cL_law 882 = .ok (.ireturn, 1) := by decide +kernel
theorem dL_law_883 : decode cL_law 883 = .ok (.goto 1306, 3) := by decide +kernel
theorem dL_law_886 : decode cL_law 886 = .ok (.aload_n 1, 1) := by decide +kernel
theorem dL_law_887 : decode cL_law 887 = .ok (.aload_n 0, 1) := by decide +kernel
theorem dL_law_888 : decode cL_law 888 = .ok (.iload 4, 2) := by decide +kernel
theorem dL_law_890 : decode cL_law 890 = .ok (.iconst 1, 1) := by decide +kernel
theorem dL_law_891 : decode cL_law 891 = .ok (.iadd, 1) := by decide +kernel
theorem dL_law_892 : decode cL_law 892 = .ok (.iaload, 1) := by decide +kernel
theorem dL_law_893 : decode cL_law 893 = .ok (.aload_n 3, 1) := by decide +kernel
theorem dL_law_894 : decode cL_law 894 = .ok (.invokestatic 176, 3) := by decide +kernel
theorem dL_law_897 : decode cL_law 897 = .ok (.istore 5, 2) := by decide +kernel
theorem dL_law_899 : decode cL_law 899 = .ok (.aload_n 2, 1) := by decide +kernel
theorem dL_law_900 : decode cL_law 900 = .ok (.aload_n 0, 1) := by decide +kernel
theorem dL_law_901 : decode cL_law 901 = .ok (.iload 4, 2) := by decide +kernel
theorem dL_law_903 : decode cL_law 903 = .ok (.iconst 1, 1) := by decide +kernel
theorem dL_law_904 : decode cL_law 904 = .ok (.iadd, 1) := by decide +kernel
theorem dL_law_905 : decode cL_law 905 = .ok (.iaload, 1) := by decide +kernel
theorem dL_law_906 : decode cL_law 906 = .ok (.invokevirtual 178, 3) := by decide +kernel
theorem dL_law_909 : decode cL_law 909 = .ok (.istore 6, 2) := by decide +kernel
theorem dL_law_911 : decode cL_law 911 = .ok (.aload_n 2, 1) := by decide +kernel
theorem dL_law_912 : decode cL_law 912 = .ok (.invokevirtual 118, 3) := by decide +kernel
theorem dL_law_915 : decode cL_law 915 = .ok (.iload 5, 2) := by decide +kernel
theorem dL_law_917 : decode cL_law 917 = .ok (.if_icmp .eq 5, 3) := by decide +kernel
theorem dL_law_920 : decode cL_law 920 = .ok (.iconst 0, 1) := by decide +kernel
theorem dL_law_921 : decode cL_law 921 = .ok (.ireturn, 1) := by decide +kernel
theorem dL_law_922 : decode cL_law 922 = .ok (.iload 5, 2) := by decide +kernel
theorem dL_law_924 : decode cL_law 924 = .ok (.ifCond .ne 15, 3) := by decide +kernel
theorem dL_law_927 : decode cL_law 927 = .ok (.aload_n 3, 1) := by decide +kernel
theorem dL_law_928 : decode cL_law 928 = .ok (.iconst 0, 1) := by decide +kernel
theorem dL_law_929 : decode cL_law 929 = .ok (.laload, 1) := by decide +kernel
theorem dL_law_930 : decode cL_law 930 = .ok (.iload 6, 2) := by decide +kernel
theorem dL_law_932 : decode cL_law 932 = .ok (.i2l, 1) := by decide +kernel
theorem dL_law_933 : decode cL_law 933 = .ok (.lcmp, 1) := by decide +kernel
theorem dL_law_934 : decode cL_law 934 = .ok (.ifCond .eq 5, 3) := by decide +kernel
theorem dL_law_937 : decode cL_law 937 = .ok (.iconst 0, 1) := by decide +kernel
theorem dL_law_938 : decode cL_law 938 = .ok (.ireturn, 1) := by decide +kernel
theorem dL_law_939 : decode cL_law 939 = .ok (.goto 1250, 3) := by decide +kernel
theorem dL_law_942 : decode cL_law 942 = .ok (.aload_n 1, 1) := by decide +kernel
theorem dL_law_943 : decode cL_law 943 = .ok (.aload_n 0, 1) := by decide +kernel
theorem dL_law_944 : decode cL_law 944 = .ok (.iload 4, 2) := by decide +kernel
theorem dL_law_946 : decode cL_law 946 = .ok (.iconst 1, 1) := by decide +kernel
theorem dL_law_947 : decode cL_law 947 = .ok (.iadd, 1) := by decide +kernel
theorem dL_law_948 : decode cL_law 948 = .ok (.iaload, 1) := by decide +kernel
theorem dL_law_949 : decode cL_law 949 = .ok (.aload_n 0, 1) := by decide +kernel
theorem dL_law_950 : decode cL_law 950 = .ok (.iload 4, 2) := by decide +kernel
theorem dL_law_952 : decode cL_law 952 = .ok (.iconst 2, 1) := by decide +kernel
theorem dL_law_953 : decode cL_law 953 = .ok (.iadd, 1) := by decide +kernel
theorem dL_law_954 : decode cL_law 954 = .ok (.iaload, 1) := by decide +kernel
theorem dL_law_955 : decode cL_law 955 = .ok (.aload_n 3, 1) := by decide +kernel
theorem dL_law_956 : decode cL_law 956 = .ok (.invokestatic 179, 3) := by decide +kernel
theorem dL_law_959 : decode cL_law 959 = .ok (.istore 5, 2) := by decide +kernel
theorem dL_law_961 : decode cL_law 961 = .ok (.aload_n 2, 1) := by decide +kernel
theorem dL_law_962 : decode cL_law 962 = .ok (.aload_n 0, 1) := by decide +kernel
theorem dL_law_963 : decode cL_law 963 = .ok (.iload 4, 2) := by decide +kernel
theorem dL_law_965 : decode cL_law 965 = .ok (.iconst 1, 1) := by decide +kernel
theorem dL_law_966 : decode cL_law 966 = .ok (.iadd, 1) := by decide +kernel
theorem dL_law_967 : decode cL_law 967 = .ok (.iaload, 1) := by decide +kernel
theorem dL_law_968 : decode cL_law 968 = .ok (.aload_n 0, 1) := by decide +kernel
theorem dL_law_969 : decode cL_law 969 = .ok (.iload 4, 2) := by decide +kernel
theorem dL_law_971 : decode cL_law 971 = .ok (.iconst 2, 1) := by decide +kernel
theorem dL_law_972 : decode cL_law 972 = .ok (.iadd, 1) := by decide +kernel
theorem dL_law_973 : decode cL_law 973 = .ok (.iaload, 1) := by decide +kernel
theorem dL_law_974 : decode cL_law 974 = .ok (.invokevirtual 181, 3) := by decide +kernel
theorem dL_law_977 : decode cL_law 977 = .ok (.istore 6, 2) := by decide +kernel
theorem dL_law_979 : decode cL_law 979 = .ok (.aload_n 2, 1) := by decide +kernel
theorem dL_law_980 : decode cL_law 980 = .ok (.invokevirtual 118, 3) := by decide +kernel
theorem dL_law_983 : decode cL_law 983 = .ok (.iload 5, 2) := by decide +kernel
theorem dL_law_985 : decode cL_law 985 = .ok (.if_icmp .eq 5, 3) := by decide +kernel
theorem dL_law_988 : decode cL_law 988 = .ok (.iconst 0, 1) := by decide +kernel
theorem dL_law_989 : decode cL_law 989 = .ok (.ireturn, 1) := by decide +kernel
theorem dL_law_990 : decode cL_law 990 = .ok (.iload 5, 2) := by decide +kernel
theorem dL_law_992 : decode cL_law 992 = .ok (.ifCond .ne 15, 3) := by decide +kernel
theorem dL_law_995 : decode cL_law 995 = .ok (.aload_n 3, 1) := by decide +kernel
theorem dL_law_996 : decode cL_law 996 = .ok (.iconst 0, 1) := by decide +kernel
theorem dL_law_997 : decode cL_law 997 = .ok (.laload, 1) := by decide +kernel
theorem dL_law_998 : decode cL_law 998 = .ok (.iload 6, 2) := by decide +kernel
theorem dL_law_1000 : decode cL_law 1000 = .ok (.i2l, 1) := by decide +kernel
theorem dL_law_1001 : decode cL_law 1001 = .ok (.lcmp, 1) := by decide +kernel
theorem dL_law_1002 : decode cL_law 1002 = .ok (.ifCond .eq 5, 3) := by decide +kernel
theorem dL_law_1005 : decode cL_law 1005 = .ok (.iconst 0, 1) := by decide +kernel
theorem dL_law_1006 : decode cL_law 1006 = .ok (.ireturn, 1) := by decide +kernel
theorem dL_law_1007 : decode cL_law 1007 = .ok (.goto 1182, 3) := by decide +kernel
theorem dL_law_1010 : decode cL_law 1010 = .ok (.aload_n 1, 1) := by decide +kernel
theorem dL_law_1011 : decode cL_law 1011 = .ok (.aload_n 0, 1) := by decide +kernel
theorem dL_law_1012 : decode cL_law 1012 = .ok (.iload 4, 2) := by decide +kernel
theorem dL_law_1014 : decode cL_law 1014 = .ok (.iconst 1, 1) := by decide +kernel
theorem dL_law_1015 : decode cL_law 1015 = .ok (.iadd, 1) := by decide +kernel
theorem dL_law_1016 : decode cL_law 1016 = .ok (.iaload, 1) := by decide +kernel
theorem dL_law_1017 : decode cL_law 1017 = .ok (.aload_n 0, 1) := by decide +kernel
theorem dL_law_1018 : decode cL_law 1018 = .ok (.iload 4, 2) := by decide +kernel
theorem dL_law_1020 : decode cL_law 1020 = .ok (.iconst 2, 1) := by decide +kernel
theorem dL_law_1021 : decode cL_law 1021 = .ok (.iadd, 1) := by decide +kernel
theorem dL_law_1022 : decode cL_law 1022 = .ok (.iaload, 1) := by decide +kernel
theorem dL_law_1023 : decode cL_law 1023 = .ok (.aload_n 3, 1) := by decide +kernel
theorem dL_law_1024 : decode cL_law 1024 = .ok (.invokestatic 182, 3) := by decide +kernel
theorem dL_law_1027 : decode cL_law 1027 = .ok (.istore 5, 2) := by decide +kernel
theorem dL_law_1029 : decode cL_law 1029 = .ok (.aload_n 2, 1) := by decide +kernel
theorem dL_law_1030 : decode cL_law 1030 = .ok (.aload_n 0, 1) := by decide +kernel
theorem dL_law_1031 : decode cL_law 1031 = .ok (.iload 4, 2) := by decide +kernel
theorem dL_law_1033 : decode cL_law 1033 = .ok (.iconst 1, 1) := by decide +kernel
theorem dL_law_1034 : decode cL_law 1034 = .ok (.iadd, 1) := by decide +kernel
theorem dL_law_1035 : decode cL_law 1035 = .ok (.iaload, 1) := by decide +kernel
theorem dL_law_1036 : decode cL_law 1036 = .ok (.aload_n 0, 1) := by decide +kernel
theorem dL_law_1037 : decode cL_law 1037 = .ok (.iload 4, 2) := by decide +kernel
theorem dL_law_1039 : decode cL_law 1039 = .ok (.iconst 2, 1) := by decide +kernel
theorem dL_law_1040 : decode cL_law 1040 = .ok (.iadd, 1) := by decide +kernel
theorem dL_law_1041 : decode cL_law 1041 = .ok (.iaload, 1) := by decide +kernel
theorem dL_law_1042 : decode cL_law 1042 = .ok (.invokevirtual 184, 3) := by decide +kernel
theorem dL_law_1045 : decode cL_law 1045 = .ok (.istore 6, 2) := by decide +kernel
theorem dL_law_1047 : decode cL_law 1047 = .ok (.aload_n 2, 1) := by decide +kernel
theorem dL_law_1048 : decode cL_law 1048 = .ok (.invokevirtual 118, 3) := by decide +kernel
theorem dL_law_1051 : decode cL_law 1051 = .ok (.iload 5, 2) := by decide +kernel
theorem dL_law_1053 : decode cL_law 1053 = .ok (.if_icmp .eq 5, 3) := by decide +kernel
theorem dL_law_1056 : decode cL_law 1056 = .ok (.iconst 0, 1) := by decide +kernel
theorem dL_law_1057 : decode cL_law 1057 = .ok (.ireturn, 1) := by decide +kernel
theorem dL_law_1058 : decode cL_law 1058 = .ok (.iload 5, 2) := by decide +kernel
theorem dL_law_1060 : decode cL_law 1060 = .ok (.ifCond .ne 15, 3) := by decide +kernel
theorem dL_law_1063 : decode cL_law 1063 = .ok (.aload_n 3, 1) := by decide +kernel
theorem dL_law_1064 : decode cL_law 1064 = .ok (.iconst 0, 1) := by decide +kernel
theorem dL_law_1065 : decode cL_law 1065 = .ok (.laload, 1) := by decide +kernel
theorem dL_law_1066 : decode cL_law 1066 = .ok (.iload 6, 2) := by decide +kernel
theorem dL_law_1068 : decode cL_law 1068 = .ok (.i2l, 1) := by decide +kernel
theorem dL_law_1069 : decode cL_law 1069 = .ok (.lcmp, 1) := by decide +kernel
theorem dL_law_1070 : decode cL_law 1070 = .ok (.ifCond .eq 5, 3) := by decide +kernel
theorem dL_law_1073 : decode cL_law 1073 = .ok (.iconst 0, 1) := by decide +kernel
theorem dL_law_1074 : decode cL_law 1074 = .ok (.ireturn, 1) := by decide +kernel
theorem dL_law_1075 : decode cL_law 1075 = .ok (.goto 1114, 3) := by decide +kernel
theorem dL_law_1078 : decode cL_law 1078 = .ok (.aload_n 1, 1) := by decide +kernel
theorem dL_law_1079 : decode cL_law 1079 = .ok (.aload_n 0, 1) := by decide +kernel
theorem dL_law_1080 : decode cL_law 1080 = .ok (.iload 4, 2) := by decide +kernel
theorem dL_law_1082 : decode cL_law 1082 = .ok (.iconst 1, 1) := by decide +kernel
theorem dL_law_1083 : decode cL_law 1083 = .ok (.iadd, 1) := by decide +kernel
theorem dL_law_1084 : decode cL_law 1084 = .ok (.iaload, 1) := by decide +kernel
theorem dL_law_1085 : decode cL_law 1085 = .ok (.aload_n 3, 1) := by decide +kernel
theorem dL_law_1086 : decode cL_law 1086 = .ok (.invokestatic 185, 3) := by decide +kernel
theorem dL_law_1089 : decode cL_law 1089 = .ok (.istore 5, 2) := by decide +kernel
theorem dL_law_1091 : decode cL_law 1091 = .ok (.aload_n 2, 1) := by decide +kernel
theorem dL_law_1092 : decode cL_law 1092 = .ok (.aload_n 0, 1) := by decide +kernel
theorem dL_law_1093 : decode cL_law 1093 = .ok (.iload 4, 2) := by decide +kernel
theorem dL_law_1095 : decode cL_law 1095 = .ok (.iconst 1, 1) := by decide +kernel
theorem dL_law_1096 : decode cL_law 1096 = .ok (.iadd, 1) := by decide +kernel
theorem dL_law_1097 : decode cL_law 1097 = .ok (.iaload, 1) := by decide +kernel
theorem dL_law_1098 : decode cL_law 1098 = .ok (.invokevirtual 187, 3) := by decide +kernel
theorem dL_law_1101 : decode cL_law 1101 = .ok (.istore 6, 2) := by decide +kernel
theorem dL_law_1103 : decode cL_law 1103 = .ok (.aload_n 2, 1) := by decide +kernel
theorem dL_law_1104 : decode cL_law 1104 = .ok (.invokevirtual 118, 3) := by decide +kernel
theorem dL_law_1107 : decode cL_law 1107 = .ok (.iload 5, 2) := by decide +kernel
theorem dL_law_1109 : decode cL_law 1109 = .ok (.if_icmp .eq 5, 3) := by decide +kernel
theorem dL_law_1112 : decode cL_law 1112 = .ok (.iconst 0, 1) := by decide +kernel
theorem dL_law_1113 : decode cL_law 1113 = .ok (.ireturn, 1) := by decide +kernel
theorem dL_law_1114 : decode cL_law 1114 = .ok (.iload 5, 2) := by decide +kernel
theorem dL_law_1116 : decode cL_law 1116 = .ok (.ifCond .ne 15, 3) := by decide +kernel
theorem dL_law_1119 : decode cL_law 1119 = .ok (.aload_n 3, 1) := by decide +kernel
theorem dL_law_1120 : decode cL_law 1120 = .ok (.iconst 0, 1) := by decide +kernel
theorem dL_law_1121 : decode cL_law 1121 = .ok (.laload, 1) := by decide +kernel
theorem dL_law_1122 : decode cL_law 1122 = .ok (.iload 6, 2) := by decide +kernel
theorem dL_law_1124 : decode cL_law 1124 = .ok (.i2l, 1) := by decide +kernel
theorem dL_law_1125 : decode cL_law 1125 = .ok (.lcmp, 1) := by decide +kernel
theorem dL_law_1126 : decode cL_law 1126 = .ok (.ifCond .eq 5, 3) := by decide +kernel
theorem dL_law_1129 : decode cL_law 1129 = .ok (.iconst 0, 1) := by decide +kernel
theorem dL_law_1130 : decode cL_law 1130 = .ok (.ireturn, 1) := by decide +kernel
theorem dL_law_1131 : decode cL_law 1131 = .ok (.goto 1058, 3) := by decide +kernel
theorem dL_law_1134 : decode cL_law 1134 = .ok (.aload_n 1, 1) := by decide +kernel
theorem dL_law_1135 : decode cL_law 1135 = .ok (.aload_n 0, 1) := by decide +kernel
theorem dL_law_1136 : decode cL_law 1136 = .ok (.iload 4, 2) := by decide +kernel
theorem dL_law_1138 : decode cL_law 1138 = .ok (.iconst 1, 1) := by decide +kernel
theorem dL_law_1139 : decode cL_law 1139 = .ok (.iadd, 1) := by decide +kernel
theorem dL_law_1140 : decode cL_law 1140 = .ok (.iaload, 1) := by decide +kernel
theorem dL_law_1141 : decode cL_law 1141 = .ok (.aload_n 3, 1) := by decide +kernel
theorem dL_law_1142 : decode cL_law 1142 = .ok (.invokestatic 188, 3) := by decide +kernel
theorem dL_law_1145 : decode cL_law 1145 = .ok (.istore 5, 2) := by decide +kernel
theorem dL_law_1147 : decode cL_law 1147 = .ok (.aload_n 2, 1) := by decide +kernel
theorem dL_law_1148 : decode cL_law 1148 = .ok (.aload_n 0, 1) := by decide +kernel
theorem dL_law_1149 : decode cL_law 1149 = .ok (.iload 4, 2) := by decide +kernel
theorem dL_law_1151 : decode cL_law 1151 = .ok (.iconst 1, 1) := by decide +kernel
theorem dL_law_1152 : decode cL_law 1152 = .ok (.iadd, 1) := by decide +kernel
theorem dL_law_1153 : decode cL_law 1153 = .ok (.iaload, 1) := by decide +kernel
theorem dL_law_1154 : decode cL_law 1154 = .ok (.invokevirtual 190, 3) := by decide +kernel
theorem dL_law_1157 : decode cL_law 1157 = .ok (.istore 6, 2) := by decide +kernel
theorem dL_law_1159 : decode cL_law 1159 = .ok (.aload_n 2, 1) := by decide +kernel
theorem dL_law_1160 : decode cL_law 1160 = .ok (.invokevirtual 118, 3) := by decide +kernel
theorem dL_law_1163 : decode cL_law 1163 = .ok (.iload 5, 2) := by decide +kernel
theorem dL_law_1165 : decode cL_law 1165 = .ok (.if_icmp .eq 5, 3) := by decide +kernel
theorem dL_law_1168 : decode cL_law 1168 = .ok (.iconst 0, 1) := by decide +kernel
theorem dL_law_1169 : decode cL_law 1169 = .ok (.ireturn, 1) := by decide +kernel
theorem dL_law_1170 : decode cL_law 1170 = .ok (.iload 5, 2) := by decide +kernel
theorem dL_law_1172 : decode cL_law 1172 = .ok (.ifCond .ne 15, 3) := by decide +kernel
theorem dL_law_1175 : decode cL_law 1175 = .ok (.aload_n 3, 1) := by decide +kernel
theorem dL_law_1176 : decode cL_law 1176 = .ok (.iconst 0, 1) := by decide +kernel
theorem dL_law_1177 : decode cL_law 1177 = .ok (.laload, 1) := by decide +kernel
theorem dL_law_1178 : decode cL_law 1178 = .ok (.iload 6, 2) := by decide +kernel
theorem dL_law_1180 : decode cL_law 1180 = .ok (.i2l, 1) := by decide +kernel
theorem dL_law_1181 : decode cL_law 1181 = .ok (.lcmp, 1) := by decide +kernel
theorem dL_law_1182 : decode cL_law 1182 = .ok (.ifCond .eq 5, 3) := by decide +kernel
theorem dL_law_1185 : decode cL_law 1185 = .ok (.iconst 0, 1) := by decide +kernel
theorem dL_law_1186 : decode cL_law 1186 = .ok (.ireturn, 1) := by decide +kernel
theorem dL_law_1187 : decode cL_law 1187 = .ok (.goto 1002, 3) := by decide +kernel
theorem dL_law_1190 : decode cL_law 1190 = .ok (.aload_n 1, 1) := by decide +kernel
theorem dL_law_1191 : decode cL_law 1191 = .ok (.invokevirtual 191, 3) := by decide +kernel
theorem dL_law_1194 : decode cL_law 1194 = .ok (.aload_n 2, 1) := by decide +kernel
theorem dL_law_1195 : decode cL_law 1195 = .ok (.invokevirtual 194, 3) := by decide +kernel
theorem dL_law_1198 : decode cL_law 1198 = .ok (.if_icmp .eq 991, 3) := by decide +kernel
theorem dL_law_1201 : decode cL_law 1201 = .ok (.iconst 0, 1) := by decide +kernel
theorem dL_law_1202 : decode cL_law 1202 = .ok (.ireturn, 1) := by decide +kernel
theorem dL_law_1203 : decode cL_law 1203 = .ok (.aload_n 1, 1) := by decide +kernel
theorem dL_law_1204 : decode cL_law 1204 = .ok (.aload_n 0, 1) := by decide +kernel
theorem dL_law_1205 : decode cL_law 1205 = .ok (.iload 4, 2) := by decide +kernel
theorem dL_law_1207 : decode cL_law 1207 = .ok (.iconst 1, 1) := by decide +kernel
theorem dL_law_1208 : decode cL_law 1208 = .ok (.iadd, 1) := by decide +kernel
theorem dL_law_1209 : decode cL_law 1209 = .ok (.iaload, 1) := by decide +kernel
theorem dL_law_1210 : decode cL_law 1210 = .ok (.aload_n 3, 1) := by decide +kernel
theorem dL_law_1211 : decode cL_law 1211 = .ok (.invokestatic 195, 3) := by decide +kernel
theorem dL_law_1214 : decode cL_law 1214 = .ok (.istore 5, 2) := by decide +kernel
theorem dL_law_1216 : decode cL_law 1216 = .ok (.aload_n 2, 1) := by decide +kernel
theorem dL_law_1217 : decode cL_law 1217 = .ok (.aload_n 0, 1) := by decide +kernel
theorem dL_law_1218 : decode cL_law 1218 = .ok (.iload 4, 2) := by decide +kernel
theorem dL_law_1220 : decode cL_law 1220 = .ok (.iconst 1, 1) := by decide +kernel
theorem dL_law_1221 : decode cL_law 1221 = .ok (.iadd, 1) := by decide +kernel
theorem dL_law_1222 : decode cL_law 1222 = .ok (.iaload, 1) := by decide +kernel
theorem dL_law_1223 : decode cL_law 1223 = .ok (.invokevirtual 197, 3) := by decide +kernel
theorem dL_law_1226 : decode cL_law 1226 = .ok (.istore 6, 2) := by decide +kernel
theorem dL_law_1228 : decode cL_law 1228 = .ok (.aload_n 2, 1) := by decide +kernel
theorem dL_law_1229 : decode cL_law 1229 = .ok (.invokevirtual 118, 3) := by decide +kernel
theorem dL_law_1232 : decode cL_law 1232 = .ok (.iload 5, 2) := by decide +kernel
theorem dL_law_1234 : decode cL_law 1234 = .ok (.if_icmp .eq 5, 3) := by decide +kernel
theorem dL_law_1237 : decode cL_law 1237 = .ok (.iconst 0, 1) := by decide +kernel
theorem dL_law_1238 : decode cL_law 1238 = .ok (.ireturn, 1) := by decide +kernel
theorem dL_law_1239 : decode cL_law 1239 = .ok (.iload 5, 2) := by decide +kernel
theorem dL_law_1241 : decode cL_law 1241 = .ok (.ifCond .ne 22, 3) := by decide +kernel
theorem dL_law_1244 : decode cL_law 1244 = .ok (.aload_n 3, 1) := by decide +kernel
theorem dL_law_1245 : decode cL_law 1245 = .ok (.iconst 0, 1) := by decide +kernel
theorem dL_law_1246 : decode cL_law 1246 = .ok (.laload, 1) := by decide +kernel
theorem dL_law_1247 : decode cL_law 1247 = .ok (.iload 6, 2) := by decide +kernel
theorem dL_law_1249 : decode cL_law 1249 = .ok (.ifCond .eq 7, 3) := by decide +kernel
theorem dL_law_1252 : decode cL_law 1252 = .ok (.lconst 1, 1) := by decide +kernel
theorem dL_law_1253 : decode cL_law 1253 = .ok (.goto 4, 3) := by decide +kernel
theorem dL_law_1256 : decode cL_law 1256 = .ok (.lconst 0, 1) := by decide +kernel
theorem dL_law_1257 : decode cL_law 1257 = .ok (.lcmp, 1) := by decide +kernel
theorem dL_law_1258 : decode cL_law 1258 = .ok (.ifCond .eq 5, 3) := by decide +kernel
theorem dL_law_1261 : decode cL_law 1261 = .ok (.iconst 0, 1) := by decide +kernel
theorem dL_law_1262 : decode cL_law 1262 = .ok (.ireturn, 1) := by decide +kernel
theorem dL_law_1263 : decode cL_law 1263 = .ok (.goto 926, 3) := by decide +kernel
theorem dL_law_1266 : decode cL_law 1266 = .ok (.aload_n 1, 1) := by decide +kernel
theorem dL_law_1267 : decode cL_law 1267 = .ok (.aload_n 0, 1) := by decide +kernel
theorem dL_law_1268 : decode cL_law 1268 = .ok (.iload 4, 2) := by decide +kernel
theorem dL_law_1270 : decode cL_law 1270 = .ok (.iconst 1, 1) := by decide +kernel
theorem dL_law_1271 : decode cL_law 1271 = .ok (.iadd, 1) := by decide +kernel
theorem dL_law_1272 : decode cL_law 1272 = .ok (.iaload, 1) := by decide +kernel
theorem dL_law_1273 : decode cL_law 1273 = .ok (.aload_n 3, 1) := by decide +kernel
theorem dL_law_1274 : decode cL_law 1274 = .ok (.invokestatic 198, 3) := by decide +kernel
theorem dL_law_1277 : decode cL_law 1277 = .ok (.istore 5, 2) := by decide +kernel
theorem dL_law_1279 : decode cL_law 1279 = .ok (.aload_n 2, 1) := by decide +kernel
theorem dL_law_1280 : decode cL_law 1280 = .ok (.aload_n 0, 1) := by decide +kernel
theorem dL_law_1281 : decode cL_law 1281 = .ok (.iload 4, 2) := by decide +kernel
theorem dL_law_1283 : decode cL_law 1283 = .ok (.iconst 1, 1) := by decide +kernel
theorem dL_law_1284 : decode cL_law 1284 = .ok (.iadd, 1) := by decide +kernel
theorem dL_law_1285 : decode cL_law 1285 = .ok (.iaload, 1) := by decide +kernel
theorem dL_law_1286 : decode cL_law 1286 = .ok (.invokevirtual 200, 3) := by decide +kernel
theorem dL_law_1289 : decode cL_law 1289 = .ok (.istore 6, 2) := by decide +kernel
theorem dL_law_1291 : decode cL_law 1291 = .ok (.aload_n 2, 1) := by decide +kernel
theorem dL_law_1292 : decode cL_law 1292 = .ok (.invokevirtual 118, 3) := by decide +kernel
theorem dL_law_1295 : decode cL_law 1295 = .ok (.iload 5, 2) := by decide +kernel
theorem dL_law_1297 : decode cL_law 1297 = .ok (.if_icmp .eq 5, 3) := by decide +kernel
theorem dL_law_1300 : decode cL_law 1300 = .ok (.iconst 0, 1) := by decide +kernel
theorem dL_law_1301 : decode cL_law 1301 = .ok (.ireturn, 1) := by decide +kernel
theorem dL_law_1302 : decode cL_law 1302 = .ok (.iload 5, 2) := by decide +kernel
theorem dL_law_1304 : decode cL_law 1304 = .ok (.ifCond .ne 15, 3) := by decide +kernel
theorem dL_law_1307 : decode cL_law 1307 = .ok (.aload_n 3, 1) := by decide +kernel
theorem dL_law_1308 : decode cL_law 1308 = .ok (.iconst 0, 1) := by decide +kernel
theorem dL_law_1309 : decode cL_law 1309 = .ok (.laload, 1) := by decide +kernel
theorem dL_law_1310 : decode cL_law 1310 = .ok (.iload 6, 2) := by decide +kernel
theorem dL_law_1312 : decode cL_law 1312 = .ok (.i2l, 1) := by decide +kernel
theorem dL_law_1313 : decode cL_law 1313 = .ok (.lcmp, 1) := by decide +kernel
theorem dL_law_1314 : decode cL_law 1314 = .ok (.ifCond .eq 5, 3) := by decide +kernel
theorem dL_law_1317 : decode cL_law 1317 = .ok (.iconst 0, 1) := by decide +kernel
theorem dL_law_1318 : decode cL_law 1318 = .ok (.ireturn, 1) := by decide +kernel
theorem dL_law_1319 : decode cL_law 1319 = .ok (.goto 870, 3) := by decide +kernel
theorem dL_law_1322 : decode cL_law 1322 = .ok (.aload_n 1, 1) := by decide +kernel
theorem dL_law_1323 : decode cL_law 1323 = .ok (.aload_n 0, 1) := by decide +kernel
theorem dL_law_1324 : decode cL_law 1324 = .ok (.iload 4, 2) := by decide +kernel
theorem dL_law_1326 : decode cL_law 1326 = .ok (.iconst 1, 1) := by decide +kernel
theorem dL_law_1327 : decode cL_law 1327 = .ok (.iadd, 1) := by decide +kernel
theorem dL_law_1328 : decode cL_law 1328 = .ok (.iaload, 1) := by decide +kernel
theorem dL_law_1329 : decode cL_law 1329 = .ok (.aload_n 3, 1) := by decide +kernel
theorem dL_law_1330 : decode cL_law 1330 = .ok (.invokestatic 201, 3) := by decide +kernel
theorem dL_law_1333 : decode cL_law 1333 = .ok (.istore 5, 2) := by decide +kernel
theorem dL_law_1335 : decode cL_law 1335 = .ok (.aload_n 2, 1) := by decide +kernel
theorem dL_law_1336 : decode cL_law 1336 = .ok (.aload_n 0, 1) := by decide +kernel
theorem dL_law_1337 : decode cL_law 1337 = .ok (.iload 4, 2) := by decide +kernel
theorem dL_law_1339 : decode cL_law 1339 = .ok (.iconst 1, 1) := by decide +kernel
theorem dL_law_1340 : decode cL_law 1340 = .ok (.iadd, 1) := by decide +kernel
theorem dL_law_1341 : decode cL_law 1341 = .ok (.iaload, 1) := by decide +kernel
theorem dL_law_1342 : decode cL_law 1342 = .ok (.invokevirtual 203, 3) := by decide +kernel
theorem dL_law_1345 : decode cL_law 1345 = .ok (.istore 6, 2) := by decide +kernel
theorem dL_law_1347 : decode cL_law 1347 = .ok (.aload_n 2, 1) := by decide +kernel
theorem dL_law_1348 : decode cL_law 1348 = .ok (.invokevirtual 118, 3) := by decide +kernel
theorem dL_law_1351 : decode cL_law 1351 = .ok (.iload 5, 2) := by decide +kernel
theorem dL_law_1353 : decode cL_law 1353 = .ok (.if_icmp .eq 5, 3) := by decide +kernel
theorem dL_law_1356 : decode cL_law 1356 = .ok (.iconst 0, 1) := by decide +kernel
theorem dL_law_1357 : decode cL_law 1357 = .ok (.ireturn, 1) := by decide +kernel
theorem dL_law_1358 : decode cL_law 1358 = .ok (.iload 5, 2) := by decide +kernel
theorem dL_law_1360 : decode cL_law 1360 = .ok (.ifCond .ne 15, 3) := by decide +kernel
theorem dL_law_1363 : decode cL_law 1363 = .ok (.aload_n 3, 1) := by decide +kernel
theorem dL_law_1364 : decode cL_law 1364 = .ok (.iconst 0, 1) := by decide +kernel
theorem dL_law_1365 : decode cL_law 1365 = .ok (.laload, 1) := by decide +kernel
theorem dL_law_1366 : decode cL_law 1366 = .ok (.iload 6, 2) := by decide +kernel
theorem dL_law_1368 : decode cL_law 1368 = .ok (.i2l, 1) := by decide +kernel
theorem dL_law_1369 : decode cL_law 1369 = .ok (.lcmp, 1) := by decide +kernel
theorem dL_law_1370 : decode cL_law 1370 = .ok (.ifCond .eq 5, 3) := by decide +kernel
theorem dL_law_1373 : decode cL_law 1373 = .ok (.iconst 0, 1) := by decide +kernel
theorem dL_law_1374 : decode cL_law 1374 = .ok (.ireturn, 1) := by decide +kernel
theorem dL_law_1375 : decode cL_law 1375 = .ok (.goto 814, 3) := by decide +kernel
theorem dL_law_1378 : decode cL_law 1378 = .ok (.aload_n 1, 1) := by decide +kernel
theorem dL_law_1379 : decode cL_law 1379 = .ok (.aload_n 0, 1) := by decide +kernel
theorem dL_law_1380 : decode cL_law 1380 = .ok (.iload 4, 2) := by decide +kernel
theorem dL_law_1382 : decode cL_law 1382 = .ok (.iconst 1, 1) := by decide +kernel
theorem dL_law_1383 : decode cL_law 1383 = .ok (.iadd, 1) := by decide +kernel
theorem dL_law_1384 : decode cL_law 1384 = .ok (.iaload, 1) := by decide +kernel
theorem dL_law_1385 : decode cL_law 1385 = .ok (.aload_n 3, 1) := by decide +kernel
theorem dL_law_1386 : decode cL_law 1386 = .ok (.invokestatic 204, 3) := by decide +kernel
theorem dL_law_1389 : decode cL_law 1389 = .ok (.istore 5, 2) := by decide +kernel
theorem dL_law_1391 : decode cL_law 1391 = .ok (.aload_n 2, 1) := by decide +kernel
theorem dL_law_1392 : decode cL_law 1392 = .ok (.aload_n 0, 1) := by decide +kernel
theorem dL_law_1393 : decode cL_law 1393 = .ok (.iload 4, 2) := by decide +kernel
theorem dL_law_1395 : decode cL_law 1395 = .ok (.iconst 1, 1) := by decide +kernel
theorem dL_law_1396 : decode cL_law 1396 = .ok (.iadd, 1) := by decide +kernel
theorem dL_law_1397 : decode cL_law 1397 = .ok (.iaload, 1) := by decide +kernel
theorem dL_law_1398 : decode cL_law 1398 = .ok (.invokevirtual 206, 3) := by decide +kernel
theorem dL_law_1401 : decode cL_law 1401 = .ok (.istore 6, 2) := by decide +kernel
theorem dL_law_1403 : decode cL_law 1403 = .ok (.aload_n 2, 1) := by decide +kernel
theorem dL_law_1404 : decode cL_law 1404 = .ok (.invokevirtual 118, 3) := by decide +kernel
theorem dL_law_1407 : decode cL_law 1407 = .ok (.iload 5, 2) := by decide +kernel
theorem dL_law_1409 : decode cL_law 1409 = .ok (.if_icmp .eq 5, 3) := by decide +kernel
theorem dL_law_1412 : decode cL_law 1412 = .ok (.iconst 0, 1) := by decide +kernel
theorem dL_law_1413 : decode cL_law 1413 = .ok (.ireturn, 1) := by decide +kernel
theorem dL_law_1414 : decode cL_law 1414 = .ok (.iload 5, 2) := by decide +kernel
theorem dL_law_1416 : decode cL_law 1416 = .ok (.ifCond .ne 15, 3) := by decide +kernel
theorem dL_law_1419 : decode cL_law 1419 = .ok (.aload_n 3, 1) := by decide +kernel
theorem dL_law_1420 : decode cL_law 1420 = .ok (.iconst 0, 1) := by decide +kernel
theorem dL_law_1421 : decode cL_law 1421 = .ok (.laload, 1) := by decide +kernel
theorem dL_law_1422 : decode cL_law 1422 = .ok (.iload 6, 2) := by decide +kernel
theorem dL_law_1424 : decode cL_law 1424 = .ok (.i2l, 1) := by decide +kernel
theorem dL_law_1425 : decode cL_law 1425 = .ok (.lcmp, 1) := by decide +kernel
theorem dL_law_1426 : decode cL_law 1426 = .ok (.ifCond .eq 5, 3) := by decide +kernel
theorem dL_law_1429 : decode cL_law 1429 = .ok (.iconst 0, 1) := by decide +kernel
theorem dL_law_1430 : decode cL_law 1430 = .ok (.ireturn, 1) := by decide +kernel
theorem dL_law_1431 : decode cL_law 1431 = .ok (.goto 758, 3) := by decide +kernel
theorem dL_law_1434 : decode cL_law 1434 = .ok (.aload_n 1, 1) := by decide +kernel
theorem dL_law_1435 : decode cL_law 1435 = .ok (.aload_n 0, 1) := by decide +kernel
theorem dL_law_1436 : decode cL_law 1436 = .ok (.iload 4, 2) := by decide +kernel
theorem dL_law_1438 : decode cL_law 1438 = .ok (.iconst 1, 1) := by decide +kernel
theorem dL_law_1439 : decode cL_law 1439 = .ok (.iadd, 1) := by decide +kernel
theorem dL_law_1440 : decode cL_law 1440 = .ok (.iaload, 1) := by decide +kernel
theorem dL_law_1441 : decode cL_law 1441 = .ok (.aload_n 0, 1) := by decide +kernel
theorem dL_law_1442 : decode cL_law 1442 = .ok (.iload 4, 2) := by decide +kernel
theorem dL_law_1444 : decode cL_law 1444 = .ok (.iconst 2, 1) := by decide +kernel
theorem dL_law_1445 : decode cL_law 1445 = .ok (.iadd, 1) := by decide +kernel
theorem dL_law_1446 : decode cL_law 1446 = .ok (.iaload, 1) := by decide +kernel
theorem dL_law_1447 : decode cL_law 1447 = .ok (.aload_n 0, 1) := by decide +kernel
theorem dL_law_1448 : decode cL_law 1448 = .ok (.iload 4, 2) := by decide +kernel
theorem dL_law_1450 : decode cL_law 1450 = .ok (.iconst 3, 1) := by decide +kernel
theorem dL_law_1451 : decode cL_law 1451 = .ok (.iadd, 1) := by decide +kernel
theorem dL_law_1452 : decode cL_law 1452 = .ok (.iaload, 1) := by decide +kernel
theorem dL_law_1453 : decode cL_law 1453 = .ok (.aload_n 0, 1) := by decide +kernel
theorem dL_law_1454 : decode cL_law 1454 = .ok (.iload 4, 2) := by decide +kernel
theorem dL_law_1456 : decode cL_law 1456 = .ok (.iconst 4, 1) := by decide +kernel
theorem dL_law_1457 : decode cL_law 1457 = .ok (.iadd, 1) := by decide +kernel
theorem dL_law_1458 : decode cL_law 1458 = .ok (.iaload, 1) := by decide +kernel
theorem dL_law_1459 : decode cL_law 1459 = .ok (.aload_n 3, 1) := by decide +kernel
theorem dL_law_1460 : decode cL_law 1460 = .ok (.invokestatic 207, 3) := by decide +kernel
theorem dL_law_1463 : decode cL_law 1463 = .ok (.istore 5, 2) := by decide +kernel
theorem dL_law_1465 : decode cL_law 1465 = .ok (.aload_n 2, 1) := by decide +kernel
theorem dL_law_1466 : decode cL_law 1466 = .ok (.aload_n 0, 1) := by decide +kernel
theorem dL_law_1467 : decode cL_law 1467 = .ok (.iload 4, 2) := by decide +kernel
theorem dL_law_1469 : decode cL_law 1469 = .ok (.iconst 1, 1) := by decide +kernel
theorem dL_law_1470 : decode cL_law 1470 = .ok (.iadd, 1) := by decide +kernel
theorem dL_law_1471 : decode cL_law 1471 = .ok (.iaload, 1) := by decide +kernel
theorem dL_law_1472 : decode cL_law 1472 = .ok (.aload_n 0, 1) := by decide +kernel
theorem dL_law_1473 : decode cL_law 1473 = .ok (.iload 4, 2) := by decide +kernel
theorem dL_law_1475 : decode cL_law 1475 = .ok (.iconst 2, 1) := by decide +kernel
theorem dL_law_1476 : decode cL_law 1476 = .ok (.iadd, 1) := by decide +kernel
theorem dL_law_1477 : decode cL_law 1477 = .ok (.iaload, 1) := by decide +kernel
theorem dL_law_1478 : decode cL_law 1478 = .ok (.aload_n 0, 1) := by decide +kernel
theorem dL_law_1479 : decode cL_law 1479 = .ok (.iload 4, 2) := by decide +kernel
theorem dL_law_1481 : decode cL_law 1481 = .ok (.iconst 3, 1) := by decide +kernel
theorem dL_law_1482 : decode cL_law 1482 = .ok (.iadd, 1) := by decide +kernel
theorem dL_law_1483 : decode cL_law 1483 = .ok (.iaload, 1) := by decide +kernel
theorem dL_law_1484 : decode cL_law 1484 = .ok (.aload_n 0, 1) := by decide +kernel
theorem dL_law_1485 : decode cL_law 1485 = .ok (.iload 4, 2) := by decide +kernel
theorem dL_law_1487 : decode cL_law 1487 = .ok (.iconst 4, 1) := by decide +kernel
theorem dL_law_1488 : decode cL_law 1488 = .ok (.iadd, 1) := by decide +kernel
theorem dL_law_1489 : decode cL_law 1489 = .ok (.iaload, 1) := by decide +kernel
theorem dL_law_1490 : decode cL_law 1490 = .ok (.invokevirtual 210, 3) := by decide +kernel
theorem dL_law_1493 : decode cL_law 1493 = .ok (.istore 6, 2) := by decide +kernel
theorem dL_law_1495 : decode cL_law 1495 = .ok (.aload_n 2, 1) := by decide +kernel
theorem dL_law_1496 : decode cL_law 1496 = .ok (.invokevirtual 118, 3) := by decide +kernel
theorem dL_law_1499 : decode cL_law 1499 = .ok (.iload 5, 2) := by decide +kernel
theorem dL_law_1501 : decode cL_law 1501 = .ok (.if_icmp .eq 5, 3) := by decide +kernel
theorem dL_law_1504 : decode cL_law 1504 = .ok (.iconst 0, 1) := by decide +kernel
theorem dL_law_1505 : decode cL_law 1505 = .ok (.ireturn, 1) := by decide +kernel
theorem dL_law_1506 : decode cL_law 1506 = .ok (.iload 5, 2) := by decide +kernel
theorem dL_law_1508 : decode cL_law 1508 = .ok (.ifCond .ne 15, 3) := by decide +kernel
theorem dL_law_1511 : decode cL_law 1511 = .ok (.aload_n 3, 1) := by decide +kernel
theorem dL_law_1512 : decode cL_law 1512 = .ok (.iconst 0, 1) := by decide +kernel
theorem dL_law_1513 : decode cL_law 1513 = .ok (.laload, 1) := by decide +kernel
theorem dL_law_1514 : decode cL_law 1514 = .ok (.iload 6, 2) := by decide +kernel
theorem dL_law_1516 : decode cL_law 1516 = .ok (.i2l, 1) := by decide +kernel
theorem dL_law_1517 : decode cL_law 1517 = .ok (.lcmp, 1) := by decide +kernel
theorem dL_law_1518 : decode cL_law 1518 = .ok (.ifCond .eq 5, 3) := by decide +kernel
theorem dL_law_1521 : decode cL_law 1521 = .ok (.iconst 0, 1) := by decide +kernel
theorem dL_law_1522 : decode cL_law 1522 = .ok (.ireturn, 1) := by decide +kernel
theorem dL_law_1523 : decode cL_law 1523 = .ok (.goto 666, 3) := by decide +kernel
theorem dL_law_1526 : decode cL_law 1526 = .ok (.aload_n 1, 1) := by decide +kernel
theorem dL_law_1527 : decode cL_law 1527 = .ok (.aload_n 0, 1) := by decide +kernel
theorem dL_law_1528 : decode cL_law 1528 = .ok (.iload 4, 2) := by decide +kernel
theorem dL_law_1530 : decode cL_law 1530 = .ok (.iconst 1, 1) := by decide +kernel
theorem dL_law_1531 : decode cL_law 1531 = .ok (.iadd, 1) := by decide +kernel
theorem dL_law_1532 : decode cL_law 1532 = .ok (.iaload, 1) := by decide +kernel
theorem dL_law_1533 : decode cL_law 1533 = .ok (.aload_n 3, 1) := by decide +kernel
theorem dL_law_1534 : decode cL_law 1534 = .ok (.invokestatic 211, 3) := by decide +kernel
theorem dL_law_1537 : decode cL_law 1537 = .ok (.istore 5, 2) := by decide +kernel
theorem dL_law_1539 : decode cL_law 1539 = .ok (.aload_n 2, 1) := by decide +kernel
theorem dL_law_1540 : decode cL_law 1540 = .ok (.aload_n 0, 1) := by decide +kernel
theorem dL_law_1541 : decode cL_law 1541 = .ok (.iload 4, 2) := by decide +kernel
theorem dL_law_1543 : decode cL_law 1543 = .ok (.iconst 1, 1) := by decide +kernel
theorem dL_law_1544 : decode cL_law 1544 = .ok (.iadd, 1) := by decide +kernel
theorem dL_law_1545 : decode cL_law 1545 = .ok (.iaload, 1) := by decide +kernel
theorem dL_law_1546 : decode cL_law 1546 = .ok (.invokevirtual 213, 3) := by decide +kernel
theorem dL_law_1549 : decode cL_law 1549 = .ok (.istore 6, 2) := by decide +kernel
theorem dL_law_1551 : decode cL_law 1551 = .ok (.aload_n 2, 1) := by decide +kernel
theorem dL_law_1552 : decode cL_law 1552 = .ok (.invokevirtual 118, 3) := by decide +kernel
theorem dL_law_1555 : decode cL_law 1555 = .ok (.iload 5, 2) := by decide +kernel
theorem dL_law_1557 : decode cL_law 1557 = .ok (.if_icmp .eq 5, 3) := by decide +kernel
theorem dL_law_1560 : decode cL_law 1560 = .ok (.iconst 0, 1) := by decide +kernel
theorem dL_law_1561 : decode cL_law 1561 = .ok (.ireturn, 1) := by decide +kernel
theorem dL_law_1562 : decode cL_law 1562 = .ok (.iload 5, 2) := by decide +kernel
theorem dL_law_1564 : decode cL_law 1564 = .ok (.ifCond .ne 15, 3) := by decide +kernel
theorem dL_law_1567 : decode cL_law 1567 = .ok (.aload_n 3, 1) := by decide +kernel
theorem dL_law_1568 : decode cL_law 1568 = .ok (.iconst 0, 1) := by decide +kernel
theorem dL_law_1569 : decode cL_law 1569 = .ok (.laload, 1) := by decide +kernel
theorem dL_law_1570 : decode cL_law 1570 = .ok (.iload 6, 2) := by decide +kernel
theorem dL_law_1572 : decode cL_law 1572 = .ok (.i2l, 1) := by decide +kernel
theorem dL_law_1573 : decode cL_law 1573 = .ok (.lcmp, 1) := by decide +kernel
theorem dL_law_1574 : decode cL_law 1574 = .ok (.ifCond .eq 5, 3) := by decide +kernel
theorem dL_law_1577 : decode cL_law 1577 = .ok (.iconst 0, 1) := by decide +kernel
theorem dL_law_1578 : decode cL_law 1578 = .ok (.ireturn, 1) := by decide +kernel
theorem dL_law_1579 : decode cL_law 1579 = .ok (.goto 610, 3) := by decide +kernel
theorem dL_law_1582 : decode cL_law 1582 = .ok (.aload_n 1, 1) := by decide +kernel
theorem dL_law_1583 : decode cL_law 1583 = .ok (.aload_n 0, 1) := by decide +kernel
theorem dL_law_1584 : decode cL_law 1584 = .ok (.iload 4, 2) := by decide +kernel
theorem dL_law_1586 : decode cL_law 1586 = .ok (.iconst 1, 1) := by decide +kernel
theorem dL_law_1587 : decode cL_law 1587 = .ok (.iadd, 1) := by decide +kernel
theorem dL_law_1588 : decode cL_law 1588 = .ok (.iaload, 1) := by decide +kernel
theorem dL_law_1589 : decode cL_law 1589 = .ok (.aload_n 0, 1) := by decide +kernel
theorem dL_law_1590 : decode cL_law 1590 = .ok (.iload 4, 2) := by decide +kernel
theorem dL_law_1592 : decode cL_law 1592 = .ok (.iconst 2, 1) := by decide +kernel
theorem dL_law_1593 : decode cL_law 1593 = .ok (.iadd, 1) := by decide +kernel
theorem dL_law_1594 : decode cL_law 1594 = .ok (.iaload, 1) := by decide +kernel
theorem dL_law_1595 : decode cL_law 1595 = .ok (.aload_n 3, 1) := by decide +kernel
theorem dL_law_1596 : decode cL_law 1596 = .ok (.invokestatic 214, 3) := by decide +kernel
theorem dL_law_1599 : decode cL_law 1599 = .ok (.istore 5, 2) := by decide +kernel
theorem dL_law_1601 : decode cL_law 1601 = .ok (.aload_n 2, 1) := by decide +kernel
theorem dL_law_1602 : decode cL_law 1602 = .ok (.aload_n 0, 1) := by decide +kernel
theorem dL_law_1603 : decode cL_law 1603 = .ok (.iload 4, 2) := by decide +kernel
theorem dL_law_1605 : decode cL_law 1605 = .ok (.iconst 1, 1) := by decide +kernel
theorem dL_law_1606 : decode cL_law 1606 = .ok (.iadd, 1) := by decide +kernel
theorem dL_law_1607 : decode cL_law 1607 = .ok (.iaload, 1) := by decide +kernel
theorem dL_law_1608 : decode cL_law 1608 = .ok (.aload_n 0, 1) := by decide +kernel
theorem dL_law_1609 : decode cL_law 1609 = .ok (.iload 4, 2) := by decide +kernel
theorem dL_law_1611 : decode cL_law 1611 = .ok (.iconst 2, 1) := by decide +kernel
theorem dL_law_1612 : decode cL_law 1612 = .ok (.iadd, 1) := by decide +kernel
theorem dL_law_1613 : decode cL_law 1613 = .ok (.iaload, 1) := by decide +kernel
theorem dL_law_1614 : decode cL_law 1614 = .ok (.invokevirtual 216, 3) := by decide +kernel
theorem dL_law_1617 : decode cL_law 1617 = .ok (.istore 6, 2) := by decide +kernel
theorem dL_law_1619 : decode cL_law 1619 = .ok (.aload_n 2, 1) := by decide +kernel
theorem dL_law_1620 : decode cL_law 1620 = .ok (.invokevirtual 118, 3) := by decide +kernel
theorem dL_law_1623 : decode cL_law 1623 = .ok (.iload 5, 2) := by decide +kernel
theorem dL_law_1625 : decode cL_law 1625 = .ok (.if_icmp .eq 5, 3) := by decide +kernel
theorem dL_law_1628 : decode cL_law 1628 = .ok (.iconst 0, 1) := by decide +kernel
theorem dL_law_1629 : decode cL_law 1629 = .ok (.ireturn, 1) := by decide +kernel
theorem dL_law_1630 : decode cL_law 1630 = .ok (.iload 5, 2) := by decide +kernel
theorem dL_law_1632 : decode cL_law 1632 = .ok (.ifCond .ne 15, 3) := by decide +kernel
theorem dL_law_1635 : decode cL_law 1635 = .ok (.aload_n 3, 1) := by decide +kernel
theorem dL_law_1636 : decode cL_law 1636 = .ok (.iconst 0, 1) := by decide +kernel
theorem dL_law_1637 : decode cL_law 1637 = .ok (.laload, 1) := by decide +kernel
theorem dL_law_1638 : decode cL_law 1638 = .ok (.iload 6, 2) := by decide +kernel
theorem dL_law_1640 : decode cL_law 1640 = .ok (.i2l, 1) := by decide +kernel
theorem dL_law_1641 : decode cL_law 1641 = .ok (.lcmp, 1) := by decide +kernel
theorem dL_law_1642 : decode cL_law 1642 = .ok (.ifCond .eq 5, 3) := by decide +kernel
theorem dL_law_1645 : decode cL_law 1645 = .ok (.iconst 0, 1) := by decide +kernel
theorem dL_law_1646 : decode cL_law 1646 = .ok (.ireturn, 1) := by decide +kernel
theorem dL_law_1647 : decode cL_law 1647 = .ok (.goto 542, 3) := by decide +kernel
theorem dL_law_1650 : decode cL_law 1650 = .ok (.aload_n 1, 1) := by decide +kernel
theorem dL_law_1651 : decode cL_law 1651 = .ok (.aload_n 0, 1) := by decide +kernel
theorem dL_law_1652 : decode cL_law 1652 = .ok (.iload 4, 2) := by decide +kernel
theorem dL_law_1654 : decode cL_law 1654 = .ok (.iconst 1, 1) := by decide +kernel
theorem dL_law_1655 : decode cL_law 1655 = .ok (.iadd, 1) := by decide +kernel
theorem dL_law_1656 : decode cL_law 1656 = .ok (.iaload, 1) := by decide +kernel
theorem dL_law_1657 : decode cL_law 1657 = .ok (.aload_n 0, 1) := by decide +kernel
theorem dL_law_1658 : decode cL_law 1658 = .ok (.iload 4, 2) := by decide +kernel
theorem dL_law_1660 : decode cL_law 1660 = .ok (.iconst 2, 1) := by decide +kernel
theorem dL_law_1661 : decode cL_law 1661 = .ok (.iadd, 1) := by decide +kernel
theorem dL_law_1662 : decode cL_law 1662 = .ok (.iaload, 1) := by decide +kernel
theorem dL_law_1663 : decode cL_law 1663 = .ok (.aload_n 3, 1) := by decide +kernel
theorem dL_law_1664 : decode cL_law 1664 = .ok (.invokestatic 217, 3) := by decide +kernel
theorem dL_law_1667 : decode cL_law 1667 = .ok (.istore 5, 2) := by decide +kernel
theorem dL_law_1669 : decode cL_law 1669 = .ok (.aload_n 2, 1) := by decide +kernel
theorem dL_law_1670 : decode cL_law 1670 = .ok (.aload_n 0, 1) := by decide +kernel
theorem dL_law_1671 : decode cL_law 1671 = .ok (.iload 4, 2) := by decide +kernel
theorem dL_law_1673 : decode cL_law 1673 = .ok (.iconst 1, 1) := by decide +kernel
theorem dL_law_1674 : decode cL_law 1674 = .ok (.iadd, 1) := by decide +kernel
theorem dL_law_1675 : decode cL_law 1675 = .ok (.iaload, 1) := by decide +kernel
theorem dL_law_1676 : decode cL_law 1676 = .ok (.aload_n 0, 1) := by decide +kernel
theorem dL_law_1677 : decode cL_law 1677 = .ok (.iload 4, 2) := by decide +kernel
theorem dL_law_1679 : decode cL_law 1679 = .ok (.iconst 2, 1) := by decide +kernel
theorem dL_law_1680 : decode cL_law 1680 = .ok (.iadd, 1) := by decide +kernel
theorem dL_law_1681 : decode cL_law 1681 = .ok (.iaload, 1) := by decide +kernel
theorem dL_law_1682 : decode cL_law 1682 = .ok (.invokevirtual 219, 3) := by decide +kernel
theorem dL_law_1685 : decode cL_law 1685 = .ok (.istore 6, 2) := by decide +kernel
theorem dL_law_1687 : decode cL_law 1687 = .ok (.aload_n 2, 1) := by decide +kernel
theorem dL_law_1688 : decode cL_law 1688 = .ok (.invokevirtual 118, 3) := by decide +kernel
theorem dL_law_1691 : decode cL_law 1691 = .ok (.iload 5, 2) := by decide +kernel
theorem dL_law_1693 : decode cL_law 1693 = .ok (.if_icmp .eq 5, 3) := by decide +kernel
theorem dL_law_1696 : decode cL_law 1696 = .ok (.iconst 0, 1) := by decide +kernel
theorem dL_law_1697 : decode cL_law 1697 = .ok (.ireturn, 1) := by decide +kernel
theorem dL_law_1698 : decode cL_law 1698 = .ok (.iload 5, 2) := by decide +kernel
theorem dL_law_1700 : decode cL_law 1700 = .ok (.ifCond .ne 15, 3) := by decide +kernel
theorem dL_law_1703 : decode cL_law 1703 = .ok (.aload_n 3, 1) := by decide +kernel
theorem dL_law_1704 : decode cL_law 1704 = .ok (.iconst 0, 1) := by decide +kernel
theorem dL_law_1705 : decode cL_law 1705 = .ok (.laload, 1) := by decide +kernel
theorem dL_law_1706 : decode cL_law 1706 = .ok (.iload 6, 2) := by decide +kernel
theorem dL_law_1708 : decode cL_law 1708 = .ok (.i2l, 1) := by decide +kernel
theorem dL_law_1709 : decode cL_law 1709 = .ok (.lcmp, 1) := by decide +kernel
theorem dL_law_1710 : decode cL_law 1710 = .ok (.ifCond .eq 5, 3) := by decide +kernel
theorem dL_law_1713 : decode cL_law 1713 = .ok (.iconst 0, 1) := by decide +kernel
theorem dL_law_1714 : decode cL_law 1714 = .ok (.ireturn, 1) := by decide +kernel
theorem dL_law_1715 : decode cL_law 1715 = .ok (.goto 474, 3) := by decide +kernel
theorem dL_law_1718 : decode cL_law 1718 = .ok (.aload_n 1, 1) := by decide +kernel
theorem dL_law_1719 : decode cL_law 1719 = .ok (.aload_n 0, 1) := by decide +kernel
theorem dL_law_1720 : decode cL_law 1720 = .ok (.iload 4, 2) := by decide +kernel
theorem dL_law_1722 : decode cL_law 1722 = .ok (.iconst 1, 1) := by decide +kernel
theorem dL_law_1723 : decode cL_law 1723 = .ok (.iadd, 1) := by decide +kernel
theorem dL_law_1724 : decode cL_law 1724 = .ok (.iaload, 1) := by decide +kernel
theorem dL_law_1725 : decode cL_law 1725 = .ok (.aload_n 3, 1) := by decide +kernel
theorem dL_law_1726 : decode cL_law 1726 = .ok (.invokestatic 220, 3) := by decide +kernel
theorem dL_law_1729 : decode cL_law 1729 = .ok (.istore 5, 2) := by decide +kernel
theorem dL_law_1731 : decode cL_law 1731 = .ok (.aload_n 2, 1) := by decide +kernel
theorem dL_law_1732 : decode cL_law 1732 = .ok (.aload_n 0, 1) := by decide +kernel
theorem dL_law_1733 : decode cL_law 1733 = .ok (.iload 4, 2) := by decide +kernel
theorem dL_law_1735 : decode cL_law 1735 = .ok (.iconst 1, 1) := by decide +kernel
theorem dL_law_1736 : decode cL_law 1736 = .ok (.iadd, 1) := by decide +kernel
theorem dL_law_1737 : decode cL_law 1737 = .ok (.iaload, 1) := by decide +kernel
theorem dL_law_1738 : decode cL_law 1738 = .ok (.invokevirtual 222, 3) := by decide +kernel
theorem dL_law_1741 : decode cL_law 1741 = .ok (.istore 6, 2) := by decide +kernel
theorem dL_law_1743 : decode cL_law 1743 = .ok (.aload_n 2, 1) := by decide +kernel
theorem dL_law_1744 : decode cL_law 1744 = .ok (.invokevirtual 118, 3) := by decide +kernel
theorem dL_law_1747 : decode cL_law 1747 = .ok (.iload 5, 2) := by decide +kernel
theorem dL_law_1749 : decode cL_law 1749 = .ok (.if_icmp .eq 5, 3) := by decide +kernel
theorem dL_law_1752 : decode cL_law 1752 = .ok (.iconst 0, 1) := by decide +kernel
theorem dL_law_1753 : decode cL_law 1753 = .ok (.ireturn, 1) := by decide +kernel
theorem dL_law_1754 : decode cL_law 1754 = .ok (.iload 5, 2) := by decide +kernel
theorem dL_law_1756 : decode cL_law 1756 = .ok (.ifCond .ne 15, 3) := by decide +kernel
theorem dL_law_1759 : decode cL_law 1759 = .ok (.aload_n 3, 1) := by decide +kernel
theorem dL_law_1760 : decode cL_law 1760 = .ok (.iconst 0, 1) := by decide +kernel
theorem dL_law_1761 : decode cL_law 1761 = .ok (.laload, 1) := by decide +kernel
theorem dL_law_1762 : decode cL_law 1762 = .ok (.iload 6, 2) := by decide +kernel
theorem dL_law_1764 : decode cL_law 1764 = .ok (.i2l, 1) := by decide +kernel
theorem dL_law_1765 : decode cL_law 1765 = .ok (.lcmp, 1) := by decide +kernel
theorem dL_law_1766 : decode cL_law 1766 = .ok (.ifCond .eq 5, 3) := by decide +kernel
theorem dL_law_1769 : decode cL_law 1769 = .ok (.iconst 0, 1) := by decide +kernel
theorem dL_law_1770 : decode cL_law 1770 = .ok (.ireturn, 1) := by decide +kernel
theorem dL_law_1771 : decode cL_law 1771 = .ok (.goto 418, 3) := by decide +kernel
theorem dL_law_1774 : decode cL_law 1774 = .ok (.aload_n 1, 1) := by decide +kernel
theorem dL_law_1775 : decode cL_law 1775 = .ok (.aload_n 0, 1) := by decide +kernel
theorem dL_law_1776 : decode cL_law 1776 = .ok (.iload 4, 2) := by decide +kernel
theorem dL_law_1778 : decode cL_law 1778 = .ok (.iconst 1, 1) := by decide +kernel
theorem dL_law_1779 : decode cL_law 1779 = .ok (.iadd, 1) := by decide +kernel
theorem dL_law_1780 : decode cL_law 1780 = .ok (.iaload, 1) := by decide +kernel
theorem dL_law_1781 : decode cL_law 1781 = .ok (.aload_n 3, 1) := by decide +kernel
theorem dL_law_1782 : decode cL_law 1782 = .ok (.invokestatic 223, 3) := by decide +kernel
theorem dL_law_1785 : decode cL_law 1785 = .ok (.istore 5, 2) := by decide +kernel
theorem dL_law_1787 : decode cL_law 1787 = .ok (.aload_n 2, 1) := by decide +kernel
theorem dL_law_1788 : decode cL_law 1788 = .ok (.aload_n 0, 1) := by decide +kernel
theorem dL_law_1789 : decode cL_law 1789 = .ok (.iload 4, 2) := by decide +kernel
theorem dL_law_1791 : decode cL_law 1791 = .ok (.iconst 1, 1) := by decide +kernel
theorem dL_law_1792 : decode cL_law 1792 = .ok (.iadd, 1) := by decide +kernel
theorem dL_law_1793 : decode cL_law 1793 = .ok (.iaload, 1) := by decide +kernel
theorem dL_law_1794 : decode cL_law 1794 = .ok (.invokevirtual 225, 3) := by decide +kernel
theorem dL_law_1797 : decode cL_law 1797 = .ok (.istore 6, 2) := by decide +kernel
theorem dL_law_1799 : decode cL_law 1799 = .ok (.aload_n 2, 1) := by decide +kernel
theorem dL_law_1800 : decode cL_law 1800 = .ok (.invokevirtual 118, 3) := by decide +kernel
theorem dL_law_1803 : decode cL_law 1803 = .ok (.iload 5, 2) := by decide +kernel
theorem dL_law_1805 : decode cL_law 1805 = .ok (.if_icmp .eq 5, 3) := by decide +kernel
theorem dL_law_1808 : decode cL_law 1808 = .ok (.iconst 0, 1) := by decide +kernel
theorem dL_law_1809 : decode cL_law 1809 = .ok (.ireturn, 1) := by decide +kernel
theorem dL_law_1810 : decode cL_law 1810 = .ok (.iload 5, 2) := by decide +kernel
theorem dL_law_1812 : decode cL_law 1812 = .ok (.ifCond .ne 15, 3) := by decide +kernel
theorem dL_law_1815 : decode cL_law 1815 = .ok (.aload_n 3, 1) := by decide +kernel
theorem dL_law_1816 : decode cL_law 1816 = .ok (.iconst 0, 1) := by decide +kernel
theorem dL_law_1817 : decode cL_law 1817 = .ok (.laload, 1) := by decide +kernel
theorem dL_law_1818 : decode cL_law 1818 = .ok (.iload 6, 2) := by decide +kernel
theorem dL_law_1820 : decode cL_law 1820 = .ok (.i2l, 1) := by decide +kernel
theorem dL_law_1821 : decode cL_law 1821 = .ok (.lcmp, 1) := by decide +kernel
theorem dL_law_1822 : decode cL_law 1822 = .ok (.ifCond .eq 5, 3) := by decide +kernel
theorem dL_law_1825 : decode cL_law 1825 = .ok (.iconst 0, 1) := by decide +kernel
theorem dL_law_1826 : decode cL_law 1826 = .ok (.ireturn, 1) := by decide +kernel
theorem dL_law_1827 : decode cL_law 1827 = .ok (.goto 362, 3) := by decide +kernel
theorem dL_law_1830 : decode cL_law 1830 = .ok (.aload_n 1, 1) := by decide +kernel
theorem dL_law_1831 : decode cL_law 1831 = .ok (.aload_n 0, 1) := by decide +kernel
theorem dL_law_1832 : decode cL_law 1832 = .ok (.iload 4, 2) := by decide +kernel
theorem dL_law_1834 : decode cL_law 1834 = .ok (.iconst 1, 1) := by decide +kernel
theorem dL_law_1835 : decode cL_law 1835 = .ok (.iadd, 1) := by decide +kernel
theorem dL_law_1836 : decode cL_law 1836 = .ok (.iaload, 1) := by decide +kernel
theorem dL_law_1837 : decode cL_law 1837 = .ok (.aload_n 0, 1) := by decide +kernel
theorem dL_law_1838 : decode cL_law 1838 = .ok (.iload 4, 2) := by decide +kernel
theorem dL_law_1840 : decode cL_law 1840 = .ok (.iconst 2, 1) := by decide +kernel
theorem dL_law_1841 : decode cL_law 1841 = .ok (.iadd, 1) := by decide +kernel
theorem dL_law_1842 : decode cL_law 1842 = .ok (.iaload, 1) := by decide +kernel
theorem dL_law_1843 : decode cL_law 1843 = .ok (.aload_n 3, 1) := by decide +kernel
theorem dL_law_1844 : decode cL_law 1844 = .ok (.invokestatic 226, 3) := by decide +kernel
theorem dL_law_1847 : decode cL_law 1847 = .ok (.istore 5, 2) := by decide +kernel
theorem dL_law_1849 : decode cL_law 1849 = .ok (.aload_n 2, 1) := by decide +kernel
theorem dL_law_1850 : decode cL_law 1850 = .ok (.aload_n 0, 1) := by decide +kernel
theorem dL_law_1851 : decode cL_law 1851 = .ok (.iload 4, 2) := by decide +kernel
theorem dL_law_1853 : decode cL_law 1853 = .ok (.iconst 1, 1) := by decide +kernel
theorem dL_law_1854 : decode cL_law 1854 = .ok (.iadd, 1) := by decide +kernel
theorem dL_law_1855 : decode cL_law 1855 = .ok (.iaload, 1) := by decide +kernel
theorem dL_law_1856 : decode cL_law 1856 = .ok (.aload_n 0, 1) := by decide +kernel
theorem dL_law_1857 : decode cL_law 1857 = .ok (.iload 4, 2) := by decide +kernel
theorem dL_law_1859 : decode cL_law 1859 = .ok (.iconst 2, 1) := by decide +kernel
theorem dL_law_1860 : decode cL_law 1860 = .ok (.iadd, 1) := by decide +kernel
theorem dL_law_1861 : decode cL_law 1861 = .ok (.iaload, 1) := by decide +kernel
theorem dL_law_1862 : decode cL_law 1862 = .ok (.invokevirtual 228, 3) := by decide +kernel
theorem dL_law_1865 : decode cL_law 1865 = .ok (.istore 6, 2) := by decide +kernel
theorem dL_law_1867 : decode cL_law 1867 = .ok (.aload_n 2, 1) := by decide +kernel
theorem dL_law_1868 : decode cL_law 1868 = .ok (.invokevirtual 118, 3) := by decide +kernel
theorem dL_law_1871 : decode cL_law 1871 = .ok (.iload 5, 2) := by decide +kernel
theorem dL_law_1873 : decode cL_law 1873 = .ok (.if_icmp .eq 5, 3) := by decide +kernel
theorem dL_law_1876 : decode cL_law 1876 = .ok (.iconst 0, 1) := by decide +kernel
theorem dL_law_1877 : decode cL_law 1877 = .ok (.ireturn, 1) := by decide +kernel
theorem dL_law_1878 : decode cL_law 1878 = .ok (.iload 5, 2) := by decide +kernel
theorem dL_law_1880 : decode cL_law 1880 = .ok (.ifCond .ne 15, 3) := by decide +kernel
theorem dL_law_1883 : decode cL_law 1883 = .ok (.aload_n 3, 1) := by decide +kernel
theorem dL_law_1884 : decode cL_law 1884 = .ok (.iconst 0, 1) := by decide +kernel
theorem dL_law_1885 : decode cL_law 1885 = .ok (.laload, 1) := by decide +kernel
theorem dL_law_1886 : decode cL_law 1886 = .ok (.iload 6, 2) := by decide +kernel
theorem dL_law_1888 : decode cL_law 1888 = .ok (.i2l, 1) := by decide +kernel
theorem dL_law_1889 : decode cL_law 1889 = .ok (.lcmp, 1) := by decide +kernel
theorem dL_law_1890 : decode cL_law 1890 = .ok (.ifCond .eq 5, 3) := by decide +kernel
theorem dL_law_1893 : decode cL_law 1893 = .ok (.iconst 0, 1) := by decide +kernel
theorem dL_law_1894 : decode cL_law 1894 = .ok (.ireturn, 1) := by decide +kernel
theorem dL_law_1895 : decode cL_law 1895 = .ok (.goto 294, 3) := by decide +kernel
theorem dL_law_1898 : decode cL_law 1898 = .ok (.aload_n 1, 1) := by decide +kernel
theorem dL_law_1899 : decode cL_law 1899 = .ok (.aload_n 0, 1) := by decide +kernel
theorem dL_law_1900 : decode cL_law 1900 = .ok (.iload 4, 2) := by decide +kernel
theorem dL_law_1902 : decode cL_law 1902 = .ok (.iconst 1, 1) := by decide +kernel
theorem dL_law_1903 : decode cL_law 1903 = .ok (.iadd, 1) := by decide +kernel
theorem dL_law_1904 : decode cL_law 1904 = .ok (.iaload, 1) := by decide +kernel
theorem dL_law_1905 : decode cL_law 1905 = .ok (.aload_n 3, 1) := by decide +kernel
theorem dL_law_1906 : decode cL_law 1906 = .ok (.invokestatic 229, 3) := by decide +kernel
theorem dL_law_1909 : decode cL_law 1909 = .ok (.istore 5, 2) := by decide +kernel
theorem dL_law_1911 : decode cL_law 1911 = .ok (.aload_n 2, 1) := by decide +kernel
theorem dL_law_1912 : decode cL_law 1912 = .ok (.aload_n 0, 1) := by decide +kernel
theorem dL_law_1913 : decode cL_law 1913 = .ok (.iload 4, 2) := by decide +kernel
theorem dL_law_1915 : decode cL_law 1915 = .ok (.iconst 1, 1) := by decide +kernel
theorem dL_law_1916 : decode cL_law 1916 = .ok (.iadd, 1) := by decide +kernel
theorem dL_law_1917 : decode cL_law 1917 = .ok (.iaload, 1) := by decide +kernel
theorem dL_law_1918 : decode cL_law 1918 = .ok (.invokevirtual 231, 3) := by decide +kernel
theorem dL_law_1921 : decode cL_law 1921 = .ok (.istore 6, 2) := by decide +kernel
theorem dL_law_1923 : decode cL_law 1923 = .ok (.aload_n 2, 1) := by decide +kernel
theorem dL_law_1924 : decode cL_law 1924 = .ok (.invokevirtual 118, 3) := by decide +kernel
theorem dL_law_1927 : decode cL_law 1927 = .ok (.iload 5, 2) := by decide +kernel
theorem dL_law_1929 : decode cL_law 1929 = .ok (.if_icmp .eq 5, 3) := by decide +kernel
theorem dL_law_1932 : decode cL_law 1932 = .ok (.iconst 0, 1) := by decide +kernel
theorem dL_law_1933 : decode cL_law 1933 = .ok (.ireturn, 1) := by decide +kernel
theorem dL_law_1934 : decode cL_law 1934 = .ok (.iload 5, 2) := by decide +kernel
theorem dL_law_1936 : decode cL_law 1936 = .ok (.ifCond .ne 15, 3) := by decide +kernel
theorem dL_law_1939 : decode cL_law 1939 = .ok (.aload_n 3, 1) := by decide +kernel
theorem dL_law_1940 : decode cL_law 1940 = .ok (.iconst 0, 1) := by decide +kernel
theorem dL_law_1941 : decode cL_law 1941 = .ok (.laload, 1) := by decide +kernel
theorem dL_law_1942 : decode cL_law 1942 = .ok (.iload 6, 2) := by decide +kernel
theorem dL_law_1944 : decode cL_law 1944 = .ok (.i2l, 1) := by decide +kernel
theorem dL_law_1945 : decode cL_law 1945 = .ok (.lcmp, 1) := by decide +kernel
theorem dL_law_1946 : decode cL_law 1946 = .ok (.ifCond .eq 5, 3) := by decide +kernel
theorem dL_law_1949 : decode cL_law 1949 = .ok (.iconst 0, 1) := by decide +kernel
theorem dL_law_1950 : decode cL_law 1950 = .ok (.ireturn, 1) := by decide +kernel
theorem dL_law_1951 : decode cL_law 1951 = .ok (.goto 238, 3) := by decide +kernel
theorem dL_law_1954 : decode cL_law 1954 = .ok (.aload_n 1, 1) := by decide +kernel
theorem dL_law_1955 : decode cL_law 1955 = .ok (.aload_n 0, 1) := by decide +kernel
theorem dL_law_1956 : decode cL_law 1956 = .ok (.iload 4, 2) := by decide +kernel
theorem dL_law_1958 : decode cL_law 1958 = .ok (.iconst 1, 1) := by decide +kernel
theorem dL_law_1959 : decode cL_law 1959 = .ok (.iadd, 1) := by decide +kernel
theorem dL_law_1960 : decode cL_law 1960 = .ok (.iaload, 1) := by decide +kernel
theorem dL_law_1961 : decode cL_law 1961 = .ok (.aload_n 0, 1) := by decide +kernel
theorem dL_law_1962 : decode cL_law 1962 = .ok (.iload 4, 2) := by decide +kernel
theorem dL_law_1964 : decode cL_law 1964 = .ok (.iconst 2, 1) := by decide +kernel
theorem dL_law_1965 : decode cL_law 1965 = .ok (.iadd, 1) := by decide +kernel
theorem dL_law_1966 : decode cL_law 1966 = .ok (.iaload, 1) := by decide +kernel
theorem dL_law_1967 : decode cL_law 1967 = .ok (.aload_n 3, 1) := by decide +kernel
theorem dL_law_1968 : decode cL_law 1968 = .ok (.invokestatic 232, 3) := by decide +kernel
theorem dL_law_1971 : decode cL_law 1971 = .ok (.istore 5, 2) := by decide +kernel
theorem dL_law_1973 : decode cL_law 1973 = .ok (.aload_n 2, 1) := by decide +kernel
theorem dL_law_1974 : decode cL_law 1974 = .ok (.aload_n 0, 1) := by decide +kernel
theorem dL_law_1975 : decode cL_law 1975 = .ok (.iload 4, 2) := by decide +kernel
theorem dL_law_1977 : decode cL_law 1977 = .ok (.iconst 1, 1) := by decide +kernel
theorem dL_law_1978 : decode cL_law 1978 = .ok (.iadd, 1) := by decide +kernel
theorem dL_law_1979 : decode cL_law 1979 = .ok (.iaload, 1) := by decide +kernel
theorem dL_law_1980 : decode cL_law 1980 = .ok (.aload_n 0, 1) := by decide +kernel
theorem dL_law_1981 : decode cL_law 1981 = .ok (.iload 4, 2) := by decide +kernel
theorem dL_law_1983 : decode cL_law 1983 = .ok (.iconst 2, 1) := by decide +kernel
theorem dL_law_1984 : decode cL_law 1984 = .ok (.iadd, 1) := by decide +kernel
theorem dL_law_1985 : decode cL_law 1985 = .ok (.iaload, 1) := by decide +kernel
theorem dL_law_1986 : decode cL_law 1986 = .ok (.invokevirtual 234, 3) := by decide +kernel
theorem dL_law_1989 : decode cL_law 1989 = .ok (.istore 6, 2) := by decide +kernel
theorem dL_law_1991 : decode cL_law 1991 = .ok (.aload_n 2, 1) := by decide +kernel
theorem dL_law_1992 : decode cL_law 1992 = .ok (.invokevirtual 118, 3) := by decide +kernel
theorem dL_law_1995 : decode cL_law 1995 = .ok (.iload 5, 2) := by decide +kernel
theorem dL_law_1997 : decode cL_law 1997 = .ok (.if_icmp .eq 5, 3) := by decide +kernel
theorem dL_law_2000 : decode cL_law 2000 = .ok (.iconst 0, 1) := by decide +kernel
theorem dL_law_2001 : decode cL_law 2001 = .ok (.ireturn, 1) := by decide +kernel
theorem dL_law_2002 : decode cL_law 2002 = .ok (.iload 5, 2) := by decide +kernel
theorem dL_law_2004 : decode cL_law 2004 = .ok (.ifCond .ne 15, 3) := by decide +kernel
theorem dL_law_2007 : decode cL_law 2007 = .ok (.aload_n 3, 1) := by decide +kernel
theorem dL_law_2008 : decode cL_law 2008 = .ok (.iconst 0, 1) := by decide +kernel
theorem dL_law_2009 : decode cL_law 2009 = .ok (.laload, 1) := by decide +kernel
theorem dL_law_2010 : decode cL_law 2010 = .ok (.iload 6, 2) := by decide +kernel
theorem dL_law_2012 : decode cL_law 2012 = .ok (.i2l, 1) := by decide +kernel
theorem dL_law_2013 : decode cL_law 2013 = .ok (.lcmp, 1) := by decide +kernel
theorem dL_law_2014 : decode cL_law 2014 = .ok (.ifCond .eq 5, 3) := by decide +kernel
theorem dL_law_2017 : decode cL_law 2017 = .ok (.iconst 0, 1) := by decide +kernel
theorem dL_law_2018 : decode cL_law 2018 = .ok (.ireturn, 1) := by decide +kernel
theorem dL_law_2019 : decode cL_law 2019 = .ok (.goto 170, 3) := by decide +kernel
theorem dL_law_2022 : decode cL_law 2022 = .ok (.aload_n 1, 1) := by decide +kernel
theorem dL_law_2023 : decode cL_law 2023 = .ok (.aload_n 0, 1) := by decide +kernel
theorem dL_law_2024 : decode cL_law 2024 = .ok (.iload 4, 2) := by decide +kernel
theorem dL_law_2026 : decode cL_law 2026 = .ok (.iconst 1, 1) := by decide +kernel
theorem dL_law_2027 : decode cL_law 2027 = .ok (.iadd, 1) := by decide +kernel
theorem dL_law_2028 : decode cL_law 2028 = .ok (.iaload, 1) := by decide +kernel
theorem dL_law_2029 : decode cL_law 2029 = .ok (.aload_n 3, 1) := by decide +kernel
theorem dL_law_2030 : decode cL_law 2030 = .ok (.invokestatic 235, 3) := by decide +kernel
theorem dL_law_2033 : decode cL_law 2033 = .ok (.istore 5, 2) := by decide +kernel
theorem dL_law_2035 : decode cL_law 2035 = .ok (.aload_n 2, 1) := by decide +kernel
theorem dL_law_2036 : decode cL_law 2036 = .ok (.aload_n 0, 1) := by decide +kernel
theorem dL_law_2037 : decode cL_law 2037 = .ok (.iload 4, 2) := by decide +kernel
theorem dL_law_2039 : decode cL_law 2039 = .ok (.iconst 1, 1) := by decide +kernel
theorem dL_law_2040 : decode cL_law 2040 = .ok (.iadd, 1) := by decide +kernel
theorem dL_law_2041 : decode cL_law 2041 = .ok (.iaload, 1) := by decide +kernel
theorem dL_law_2042 : decode cL_law 2042 = .ok (.invokevirtual 237, 3) := by decide +kernel
theorem dL_law_2045 : decode cL_law 2045 = .ok (.istore 6, 2) := by decide +kernel
theorem dL_law_2047 : decode cL_law 2047 = .ok (.aload_n 2, 1) := by decide +kernel
theorem dL_law_2048 : decode cL_law 2048 = .ok (.invokevirtual 118, 3) := by decide +kernel
theorem dL_law_2051 : decode cL_law 2051 = .ok (.iload 5, 2) := by decide +kernel
theorem dL_law_2053 : decode cL_law 2053 = .ok (.if_icmp .eq 5, 3) := by decide +kernel
theorem dL_law_2056 : decode cL_law 2056 = .ok (.iconst 0, 1) := by decide +kernel
theorem dL_law_2057 : decode cL_law 2057 = .ok (.ireturn, 1) := by decide +kernel
theorem dL_law_2058 : decode cL_law 2058 = .ok (.iload 5, 2) := by decide +kernel
theorem dL_law_2060 : decode cL_law 2060 = .ok (.ifCond .ne 15, 3) := by decide +kernel
theorem dL_law_2063 : decode cL_law 2063 = .ok (.aload_n 3, 1) := by decide +kernel
theorem dL_law_2064 : decode cL_law 2064 = .ok (.iconst 0, 1) := by decide +kernel
theorem dL_law_2065 : decode cL_law 2065 = .ok (.laload, 1) := by decide +kernel
theorem dL_law_2066 : decode cL_law 2066 = .ok (.iload 6, 2) := by decide +kernel
theorem dL_law_2068 : decode cL_law 2068 = .ok (.i2l, 1) := by decide +kernel
theorem dL_law_2069 : decode cL_law 2069 = .ok (.lcmp, 1) := by decide +kernel
theorem dL_law_2070 : decode cL_law 2070 = .ok (.ifCond .eq 5, 3) := by decide +kernel
theorem dL_law_2073 : decode cL_law 2073 = .ok (.iconst 0, 1) := by decide +kernel
theorem dL_law_2074 : decode cL_law 2074 = .ok (.ireturn, 1) := by decide +kernel
theorem dL_law_2075 : decode cL_law 2075 = .ok (.goto 114, 3) := by decide +kernel
theorem dL_law_2078 : decode cL_law 2078 = .ok (.aload_n 1, 1) := by decide +kernel
theorem dL_law_2079 : decode cL_law 2079 = .ok (.aload_n 0, 1) := by decide +kernel
theorem dL_law_2080 : decode cL_law 2080 = .ok (.iload 4, 2) := by decide +kernel
theorem dL_law_2082 : decode cL_law 2082 = .ok (.iconst 1, 1) := by decide +kernel
theorem dL_law_2083 : decode cL_law 2083 = .ok (.iadd, 1) := by decide +kernel
theorem dL_law_2084 : decode cL_law 2084 = .ok (.iaload, 1) := by decide +kernel
theorem dL_law_2085 : decode cL_law 2085 = .ok (.aload_n 3, 1) := by decide +kernel
theorem dL_law_2086 : decode cL_law 2086 = .ok (.invokestatic 238, 3) := by decide +kernel
theorem dL_law_2089 : decode cL_law 2089 = .ok (.istore 5, 2) := by decide +kernel
theorem dL_law_2091 : decode cL_law 2091 = .ok (.aload_n 2, 1) := by decide +kernel
theorem dL_law_2092 : decode cL_law 2092 = .ok (.aload_n 0, 1) := by decide +kernel
theorem dL_law_2093 : decode cL_law 2093 = .ok (.iload 4, 2) := by decide +kernel
theorem dL_law_2095 : decode cL_law 2095 = .ok (.iconst 1, 1) := by decide +kernel
theorem dL_law_2096 : decode cL_law 2096 = .ok (.iadd, 1) := by decide +kernel
theorem dL_law_2097 : decode cL_law 2097 = .ok (.iaload, 1) := by decide +kernel
theorem dL_law_2098 : decode cL_law 2098 = .ok (.invokevirtual 240, 3) := by decide +kernel
theorem dL_law_2101 : decode cL_law 2101 = .ok (.istore 6, 2) := by decide +kernel
theorem dL_law_2103 : decode cL_law 2103 = .ok (.aload_n 2, 1) := by decide +kernel
theorem dL_law_2104 : decode cL_law 2104 = .ok (.invokevirtual 118, 3) := by decide +kernel
theorem dL_law_2107 : decode cL_law 2107 = .ok (.iload 5, 2) := by decide +kernel
theorem dL_law_2109 : decode cL_law 2109 = .ok (.if_icmp .eq 5, 3) := by decide +kernel
theorem dL_law_2112 : decode cL_law 2112 = .ok (.iconst 0, 1) := by decide +kernel
theorem dL_law_2113 : decode cL_law 2113 = .ok (.ireturn, 1) := by decide +kernel
theorem dL_law_2114 : decode cL_law 2114 = .ok (.iload 5, 2) := by decide +kernel
theorem dL_law_2116 : decode cL_law 2116 = .ok (.ifCond .ne 15, 3) := by decide +kernel
theorem dL_law_2119 : decode cL_law 2119 = .ok (.aload_n 3, 1) := by decide +kernel
theorem dL_law_2120 : decode cL_law 2120 = .ok (.iconst 0, 1) := by decide +kernel
theorem dL_law_2121 : decode cL_law 2121 = .ok (.laload, 1) := by decide +kernel
theorem dL_law_2122 : decode cL_law 2122 = .ok (.iload 6, 2) := by decide +kernel
theorem dL_law_2124 : decode cL_law 2124 = .ok (.i2l, 1) := by decide +kernel
theorem dL_law_2125 : decode cL_law 2125 = .ok (.lcmp, 1) := by decide +kernel
theorem dL_law_2126 : decode cL_law 2126 = .ok (.ifCond .eq 5, 3) := by decide +kernel
theorem dL_law_2129 : decode cL_law 2129 = .ok (.iconst 0, 1) := by decide +kernel
theorem dL_law_2130 : decode cL_law 2130 = .ok (.ireturn, 1) := by decide +kernel
theorem dL_law_2131 : decode cL_law 2131 = .ok (.goto 58, 3) := by decide +kernel
theorem dL_law_2134 : decode cL_law 2134 = .ok (.aload_n 1, 1) := by decide +kernel
theorem dL_law_2135 : decode cL_law 2135 = .ok (.invokevirtual 241, 3) := by decide +kernel
theorem dL_law_2138 : decode cL_law 2138 = .ok (.dstore 5, 2) := by decide +kernel
theorem dL_law_2140 : decode cL_law 2140 = .ok (.aload_n 2, 1) := by decide +kernel
theorem dL_law_2141 : decode cL_law 2141 = .ok (.invokevirtual 245, 3) := by decide +kernel
theorem dL_law_2144 : decode cL_law 2144 = .ok (.dstore 7, 2) := by decide +kernel
theorem dL_law_2146 : decode cL_law 2146 = .ok (.dload 5, 2) := by decide +kernel
theorem dL_law_2148 : decode cL_law 2148 = .ok (.dload 7, 2) := by decide +kernel
theorem dL_law_2150 : decode cL_law 2150 = .ok (.dcmp .l, 1) := by decide +kernel
theorem dL_law_2151 : decode cL_law 2151 = .ok (.ifCond .eq 21, 3) := by decide +kernel
theorem dL_law_2154 : decode cL_law 2154 = .ok (.dload 5, 2) := by decide +kernel
theorem dL_law_2156 : decode cL_law 2156 = .ok (.dload 5, 2) := by decide +kernel
theorem dL_law_2158 : decode cL_law 2158 = .ok (.dcmp .l, 1) := by decide +kernel
theorem dL_law_2159 : decode cL_law 2159 = .ok (.ifCond .eq 11, 3) := by decide +kernel
theorem dL_law_2162 : decode cL_law 2162 = .ok (.dload 7, 2) := by decide +kernel
theorem dL_law_2164 : decode cL_law 2164 = .ok (.dload 7, 2) := by decide +kernel
theorem dL_law_2166 : decode cL_law 2166 = .ok (.dcmp .l, 1) := by decide +kernel
theorem dL_law_2167 : decode cL_law 2167 = .ok (.ifCond .ne 5, 3) := by decide +kernel
theorem dL_law_2170 : decode cL_law 2170 = .ok (.iconst 0, 1) := by decide +kernel
theorem dL_law_2171 : decode cL_law 2171 = .ok (.ireturn, 1) := by decide +kernel
theorem dL_law_2172 : decode cL_law 2172 = .ok (.goto 17, 3) := by decide +kernel
theorem dL_law_2175 : decode cL_law 2175 = .ok (.aload_n 1, 1) := by decide +kernel
theorem dL_law_2176 : decode cL_law 2176 = .ok (.invokevirtual 246, 3) := by decide +kernel
theorem dL_law_2179 : decode cL_law 2179 = .ok (.aload_n 2, 1) := by decide +kernel
theorem dL_law_2180 : decode cL_law 2180 = .ok (.invokevirtual 250, 3) := by decide +kernel
theorem dL_law_2183 : decode cL_law 2183 = .ok (.lcmp, 1) := by decide +kernel
theorem dL_law_2184 : decode cL_law 2184 = .ok (.ifCond .eq 5, 3) := by decide +kernel
theorem dL_law_2187 : decode cL_law 2187 = .ok (.iconst 0, 1) := by decide +kernel
theorem dL_law_2188 : decode cL_law 2188 = .ok (.ireturn, 1) := by decide +kernel
theorem dL_law_2189 : decode cL_law 2189 = .ok (.iinc 4 6, 3) := by decide +kernel
theorem dL_law_2192 : decode cL_law 2192 = .ok (.goto (-2169), 3) := by decide +kernel
theorem dL_law_2195 : decode cL_law 2195 = .ok (.iconst 1, 1) := by decide +kernel
theorem dL_law_2196 : decode cL_law 2196 = .ok (.ireturn, 1) := by decide +kernel
section T
variable {G : GT} {d : Nat} {S : List Value} {h : AH} {P : OC → AH → Prop} {x0 x1 x2 x3 x4 x5 x6 x7 x8 x9 x10 x11 x12 x13 x14 x15 : Option Value}
theorem tL_law_0 (r : RQ G mL_law d 3 [x0, x1, x2, x3, x4, x5, x6, x7, x8] (.ref h.1 :: S) (hnew h 7 (.inr (8, [.null, .null, .null, .null, .null, .null, .int 0]))) P) : RQ G mL_law d 0 [x0, x1, x2, x3, x4, x5, x6, x7, x8] (S) h P := q_new (M := mL_law) (pc := 0) dL_law_0 (show CL[8]? = some (RX10, TX10, 7) from rfl) inA10 tyX10_ok w135 w136 w109 dfX10 dnX10 r
theorem tL_law_3 {v : Value} (hv : ok1 (some v) = true := by rfl) (r : RQ G mL_law d 4 [x0, x1, x2, x3, x4, x5, x6, x7, x8] (v :: v :: S) (h) P) : RQ G mL_law d 3 [x0, x1, x2, x3, x4, x5, x6, x7, x8] (v :: S) h P := q_dup (M := mL_law) (pc := 3) dL_law_3 hv r
theorem tL_law_4 {b d2 : Nat}  {Q : AH → Prop} (hd : d2 + 1 ≤ d) (call : RQ G mX10_init d2 0 [some (.ref b)] [] h (Rv Q)) (k : ∀ h1, Q h1 → RQ G mL_law d 7 [x0, x1, x2, x3, x4, x5, x6, x7, x8] S h1 P) (hst : (S.map fun v => v.category).sum ≤ 8 := by exact Nat.le_of_ble_eq_true rfl)  : RQ G mL_law d 4 [x0, x1, x2, x3, x4, x5, x6, x7, x8] (.ref b :: S) h P := q_callI (M := mL_law) (pc := 4) (M2 := mX10_init) (As := []) (n := 0) dL_law_4 ⟨by decide, by decide, by decide, rfl⟩ rfl rfl rfl w137 w138 w109 w139 hd (by decide) (Nat.le_of_ble_eq_true rfl) rfl hst call (callk_v k)
theorem tL_law_7 {k : Nat} (ho : ok1 x0 = true := by rfl) (r : RQ G mL_law d 8 [x0, some (.ref k), x2, x3, x4, x5, x6, x7, x8] (S) (h) P) : RQ G mL_law d 7 [x0, x1, x2, x3, x4, x5, x6, x7, x8] (.ref k :: S) h P := q_astore_n (M := mL_law) (pc := 7) (r0 := some k) dL_law_7 rfl (Nat.le_of_ble_eq_true rfl) ho r
theorem tL_law_8 (r : RQ G mL_law d 11 [x0, x1, x2, x3, x4, x5, x6, x7, x8] (.ref h.1 :: S) (hnew h 25 (.inr (10, [.int 0, .null, .int 0, .int 0, .null, .null, .null, .null, .int 0, .int 0, .int 0, .int 0, .int 0, .null, .null, .null, .int 0, .null, .null, .null, .null, .null, .null, .null, .null]))) P) : RQ G mL_law d 8 [x0, x1, x2, x3, x4, x5, x6, x7, x8] (S) h P := q_new (M := mL_law) (pc := 8) dL_law_8 (show CL[10]? = some (RX12, TX12, 25) from rfl) inA12 tyX12_ok w1307 w1308 w120 dfX12 dnX12 r
theorem tL_law_11 {v : Value} (hv : ok1 (some v) = true := by rfl) (r : RQ G mL_law d 12 [x0, x1, x2, x3, x4, x5, x6, x7, x8] (v :: v :: S) (h) P) : RQ G mL_law d 11 [x0, x1, x2, x3, x4, x5, x6, x7, x8] (v :: S) h P := q_dup (M := mL_law) (pc := 11) dL_law_11 hv r
theorem tL_law_12 {b d2 : Nat}  {Q : AH → Prop} (hd : d2 + 1 ≤ d) (call : RQ G mX12_init d2 0 [some (.ref b)] [] h (Rv Q)) (k : ∀ h1, Q h1 → RQ G mL_law d 15 [x0, x1, x2, x3, x4, x5, x6, x7, x8] S h1 P) (hst : (S.map fun v => v.category).sum ≤ 8 := by exact Nat.le_of_ble_eq_true rfl)  : RQ G mL_law d 12 [x0, x1, x2, x3, x4, x5, x6, x7, x8] (.ref b :: S) h P := q_callI (M := mL_law) (pc := 12) (M2 := mX12_init) (As := []) (n := 0) dL_law_12 ⟨by decide, by decide, by decide, rfl⟩ rfl rfl rfl w1309 w1310 w120 w1311 hd (by decide) (Nat.le_of_ble_eq_true rfl) rfl hst call (callk_v k)
theorem tL_law_15 {k : Nat} (ho : ok1 x1 = true := by rfl) (r : RQ G mL_law d 16 [x0, x1, some (.ref k), x3, x4, x5, x6, x7, x8] (S) (h) P) : RQ G mL_law d 15 [x0, x1, x2, x3, x4, x5, x6, x7, x8] (.ref k :: S) h P := q_astore_n (M := mL_law) (pc := 15) (r0 := some k) dL_law_15 rfl (Nat.le_of_ble_eq_true rfl) ho r
theorem tL_law_16 (r : RQ G mL_law d 17 [x0, x1, x2, x3, x4, x5, x6, x7, x8] (.int (nI 1) :: S) (h) P) : RQ G mL_law d 16 [x0, x1, x2, x3, x4, x5, x6, x7, x8] (S) h P := q_iconst (M := mL_law) (pc := 16) dL_law_16 (by decide) r
theorem tL_law_17 {n : Nat} {x : Int32} (hx : x = nI n) (hn : n < 60000000) (r : RQ G mL_law d 19 [x0, x1, x2, x3, x4, x5, x6, x7, x8] (.ref h.1 :: S) (hnew h n (.inl (2, n, .inr (.inl (fun _ => 0))))) P) : RQ G mL_law d 17 [x0, x1, x2, x3, x4, x5, x6, x7, x8] (.int x :: S) h P := q_newaJ (M := mL_law) (pc := 17) dL_law_17 w187 hx hn r
theorem tL_law_19 {k : Nat} (ho : ok1 x2 = true := by rfl) (r : RQ G mL_law d 20 [x0, x1, x2, some (.ref k), x4, x5, x6, x7, x8] (S) (h) P) : RQ G mL_law d 19 [x0, x1, x2, x3, x4, x5, x6, x7, x8] (.ref k :: S) h P := q_astore_n (M := mL_law) (pc := 19) (r0 := some k) dL_law_19 rfl (Nat.le_of_ble_eq_true rfl) ho r
theorem tL_law_20 (r : RQ G mL_law d 21 [x0, x1, x2, x3, x4, x5, x6, x7, x8] (.int (nI 0) :: S) (h) P) : RQ G mL_law d 20 [x0, x1, x2, x3, x4, x5, x6, x7, x8] (S) h P := q_iconst (M := mL_law) (pc := 20) dL_law_20 (by decide) r
theorem tL_law_21 {v : Int32} (ho : ok1 x3 = true := by rfl) (r : RQ G mL_law d 23 [x0, x1, x2, x3, some (.int v), x5, x6, x7, x8] (S) (h) P) : RQ G mL_law d 21 [x0, x1, x2, x3, x4, x5, x6, x7, x8] (.int v :: S) h P := q_istore (M := mL_law) (pc := 21) dL_law_21 (Nat.le_of_ble_eq_true rfl) ho r
theorem tL_law_23 {v : Int32} (r : RQ G mL_law d 25 [x0, x1, x2, x3, some (.int v), x5, x6, x7, x8] (.int v :: S) (h) P) : RQ G mL_law d 23 [x0, x1, x2, x3, some (.int v), x5, x6, x7, x8] (S) h P := q_iload (M := mL_law) (pc := 23) dL_law_23 rfl r
theorem tL_law_25 {k : Nat} (r : RQ G mL_law d 26 [some (.ref k), x1, x2, x3, x4, x5, x6, x7, x8] (.ref k :: S) (h) P) : RQ G mL_law d 25 [some (.ref k), x1, x2, x3, x4, x5, x6, x7, x8] (S) h P := q_aload_n (M := mL_law) (pc := 25) (r0 := some k) dL_law_25 rfl rfl r
theorem tL_law_26 (r : RQ G mL_law d 27 [x0, x1, x2, x3, x4, x5, x6, x7, x8] (.int (nI (gN G)) :: S) (h) P) : RQ G mL_law d 26 [x0, x1, x2, x3, x4, x5, x6, x7, x8] (.ref (OLD + 999) :: S) h P := q_slen (M := mL_law) (pc := 26) dL_law_26 r
theorem tL_law_27 (r : RQ G mL_law d 29 [x0, x1, x2, x3, x4, x5, x6, x7, x8] (.int (nI 6) :: S) (h) P) : RQ G mL_law d 27 [x0, x1, x2, x3, x4, x5, x6, x7, x8] (S) h P := q_bipush (M := mL_law) (pc := 27) dL_law_27 (by decide) r
theorem tL_law_29 {x y : Int32} (r : RQ G mL_law d 30 [x0, x1, x2, x3, x4, x5, x6, x7, x8] (.int (x - y) :: S) (h) P) : RQ G mL_law d 29 [x0, x1, x2, x3, x4, x5, x6, x7, x8] (.int y :: .int x :: S) h P := q_isub (M := mL_law) (pc := 29) dL_law_29 r
theorem tL_law_30 {x y : Int32} (kt : y < x → RQ G mL_law d 2195 [x0, x1, x2, x3, x4, x5, x6, x7, x8] S h P) (kf : ¬ y < x → RQ G mL_law d 33 [x0, x1, x2, x3, x4, x5, x6, x7, x8] S h P) : RQ G mL_law d 30 [x0, x1, x2, x3, x4, x5, x6, x7, x8] (.int y :: .int x :: S) h P := q_icmp_gt (M := mL_law) (pc := 30) dL_law_30 (by decide) kt kf
theorem tL_law_33 {k : Nat} (r : RQ G mL_law d 34 [some (.ref k), x1, x2, x3, x4, x5, x6, x7, x8] (.ref k :: S) (h) P) : RQ G mL_law d 33 [some (.ref k), x1, x2, x3, x4, x5, x6, x7, x8] (S) h P := q_aload_n (M := mL_law) (pc := 33) (r0 := some k) dL_law_33 rfl rfl r
theorem tL_law_34 {v : Int32} (r : RQ G mL_law d 36 [x0, x1, x2, x3, some (.int v), x5, x6, x7, x8] (.int v :: S) (h) P) : RQ G mL_law d 34 [x0, x1, x2, x3, some (.int v), x5, x6, x7, x8] (S) h P := q_iload (M := mL_law) (pc := 34) dL_law_34 rfl r
theorem tL_law_36 {j : Nat} {x : Int32} (hx : x = nI j) (hj : j < gN G) (hn : gN G < 2147483648) (r : RQ G mL_law d 37 [x0, x1, x2, x3, x4, x5, x6, x7, x8] (.int (gX G j) :: S) (h) P) : RQ G mL_law d 36 [x0, x1, x2, x3, x4, x5, x6, x7, x8] (.int x :: .ref (OLD + 999) :: S) h P := q_sld (M := mL_law) (pc := 36) dL_law_36 hx hj hn r
theorem tL_law_37 (r : RQ G mL_law d 39 [x0, x1, x2, x3, x4, x5, x6, x7, x8] (.int (nI 63) :: S) (h) P) : RQ G mL_law d 37 [x0, x1, x2, x3, x4, x5, x6, x7, x8] (S) h P := q_bipush (M := mL_law) (pc := 37) dL_law_37 (by decide) r
theorem tL_law_39 {x y : Int32} (r : RQ G mL_law d 40 [x0, x1, x2, x3, x4, x5, x6, x7, x8] (.int (x &&& y) :: S) (h) P) : RQ G mL_law d 39 [x0, x1, x2, x3, x4, x5, x6, x7, x8] (.int y :: .int x :: S) h P := q_iand (M := mL_law) (pc := 39) dL_law_39 r
theorem tL_law_212 {k : Nat} (r : RQ G mL_law d 213 [x0, some (.ref k), x2, x3, x4, x5, x6, x7, x8] (.ref k :: S) (h) P) : RQ G mL_law d 212 [x0, some (.ref k), x2, x3, x4, x5, x6, x7, x8] (S) h P := q_aload_n (M := mL_law) (pc := 212) (r0 := some k) dL_law_212 rfl rfl r
theorem tL_law_213 {k : Nat} (r : RQ G mL_law d 214 [some (.ref k), x1, x2, x3, x4, x5, x6, x7, x8] (.ref k :: S) (h) P) : RQ G mL_law d 213 [some (.ref k), x1, x2, x3, x4, x5, x6, x7, x8] (S) h P := q_aload_n (M := mL_law) (pc := 213) (r0 := some k) dL_law_213 rfl rfl r
theorem tL_law_214 {v : Int32} (r : RQ G mL_law d 216 [x0, x1, x2, x3, some (.int v), x5, x6, x7, x8] (.int v :: S) (h) P) : RQ G mL_law d 214 [x0, x1, x2, x3, some (.int v), x5, x6, x7, x8] (S) h P := q_iload (M := mL_law) (pc := 214) dL_law_214 rfl r
theorem tL_law_216 (r : RQ G mL_law d 217 [x0, x1, x2, x3, x4, x5, x6, x7, x8] (.int (nI 1) :: S) (h) P) : RQ G mL_law d 216 [x0, x1, x2, x3, x4, x5, x6, x7, x8] (S) h P := q_iconst (M := mL_law) (pc := 216) dL_law_216 (by decide) r
theorem tL_law_217 {x y : Int32} (r : RQ G mL_law d 218 [x0, x1, x2, x3, x4, x5, x6, x7, x8] (.int (x + y) :: S) (h) P) : RQ G mL_law d 217 [x0, x1, x2, x3, x4, x5, x6, x7, x8] (.int y :: .int x :: S) h P := q_iadd (M := mL_law) (pc := 217) dL_law_217 r
theorem tL_law_218 {j : Nat} {x : Int32} (hx : x = nI j) (hj : j < gN G) (hn : gN G < 2147483648) (r : RQ G mL_law d 219 [x0, x1, x2, x3, x4, x5, x6, x7, x8] (.int (gX G j) :: S) (h) P) : RQ G mL_law d 218 [x0, x1, x2, x3, x4, x5, x6, x7, x8] (.int x :: .ref (OLD + 999) :: S) h P := q_sld (M := mL_law) (pc := 218) dL_law_218 hx hj hn r
theorem tL_law_219 {k : Nat} (r : RQ G mL_law d 220 [some (.ref k), x1, x2, x3, x4, x5, x6, x7, x8] (.ref k :: S) (h) P) : RQ G mL_law d 219 [some (.ref k), x1, x2, x3, x4, x5, x6, x7, x8] (S) h P := q_aload_n (M := mL_law) (pc := 219) (r0 := some k) dL_law_219 rfl rfl r
theorem tL_law_220 {v : Int32} (r : RQ G mL_law d 222 [x0, x1, x2, x3, some (.int v), x5, x6, x7, x8] (.int v :: S) (h) P) : RQ G mL_law d 220 [x0, x1, x2, x3, some (.int v), x5, x6, x7, x8] (S) h P := q_iload (M := mL_law) (pc := 220) dL_law_220 rfl r
theorem tL_law_222 (r : RQ G mL_law d 223 [x0, x1, x2, x3, x4, x5, x6, x7, x8] (.int (nI 2) :: S) (h) P) : RQ G mL_law d 222 [x0, x1, x2, x3, x4, x5, x6, x7, x8] (S) h P := q_iconst (M := mL_law) (pc := 222) dL_law_222 (by decide) r
theorem tL_law_223 {x y : Int32} (r : RQ G mL_law d 224 [x0, x1, x2, x3, x4, x5, x6, x7, x8] (.int (x + y) :: S) (h) P) : RQ G mL_law d 223 [x0, x1, x2, x3, x4, x5, x6, x7, x8] (.int y :: .int x :: S) h P := q_iadd (M := mL_law) (pc := 223) dL_law_223 r
theorem tL_law_224 {j : Nat} {x : Int32} (hx : x = nI j) (hj : j < gN G) (hn : gN G < 2147483648) (r : RQ G mL_law d 225 [x0, x1, x2, x3, x4, x5, x6, x7, x8] (.int (gX G j) :: S) (h) P) : RQ G mL_law d 224 [x0, x1, x2, x3, x4, x5, x6, x7, x8] (.int x :: .ref (OLD + 999) :: S) h P := q_sld (M := mL_law) (pc := 224) dL_law_224 hx hj hn r
theorem tL_law_225 {k : Nat} (r : RQ G mL_law d 226 [some (.ref k), x1, x2, x3, x4, x5, x6, x7, x8] (.ref k :: S) (h) P) : RQ G mL_law d 225 [some (.ref k), x1, x2, x3, x4, x5, x6, x7, x8] (S) h P := q_aload_n (M := mL_law) (pc := 225) (r0 := some k) dL_law_225 rfl rfl r
theorem tL_law_226 {v : Int32} (r : RQ G mL_law d 228 [x0, x1, x2, x3, some (.int v), x5, x6, x7, x8] (.int v :: S) (h) P) : RQ G mL_law d 226 [x0, x1, x2, x3, some (.int v), x5, x6, x7, x8] (S) h P := q_iload (M := mL_law) (pc := 226) dL_law_226 rfl r
theorem tL_law_228 (r : RQ G mL_law d 229 [x0, x1, x2, x3, x4, x5, x6, x7, x8] (.int (nI 3) :: S) (h) P) : RQ G mL_law d 228 [x0, x1, x2, x3, x4, x5, x6, x7, x8] (S) h P := q_iconst (M := mL_law) (pc := 228) dL_law_228 (by decide) r
theorem tL_law_229 {x y : Int32} (r : RQ G mL_law d 230 [x0, x1, x2, x3, x4, x5, x6, x7, x8] (.int (x + y) :: S) (h) P) : RQ G mL_law d 229 [x0, x1, x2, x3, x4, x5, x6, x7, x8] (.int y :: .int x :: S) h P := q_iadd (M := mL_law) (pc := 229) dL_law_229 r
theorem tL_law_230 {j : Nat} {x : Int32} (hx : x = nI j) (hj : j < gN G) (hn : gN G < 2147483648) (r : RQ G mL_law d 231 [x0, x1, x2, x3, x4, x5, x6, x7, x8] (.int (gX G j) :: S) (h) P) : RQ G mL_law d 230 [x0, x1, x2, x3, x4, x5, x6, x7, x8] (.int x :: .ref (OLD + 999) :: S) h P := q_sld (M := mL_law) (pc := 230) dL_law_230 hx hj hn r
theorem tL_law_231 {k : Nat} (r : RQ G mL_law d 232 [some (.ref k), x1, x2, x3, x4, x5, x6, x7, x8] (.ref k :: S) (h) P) : RQ G mL_law d 231 [some (.ref k), x1, x2, x3, x4, x5, x6, x7, x8] (S) h P := q_aload_n (M := mL_law) (pc := 231) (r0 := some k) dL_law_231 rfl rfl r
theorem tL_law_232 {v : Int32} (r : RQ G mL_law d 234 [x0, x1, x2, x3, some (.int v), x5, x6, x7, x8] (.int v :: S) (h) P) : RQ G mL_law d 232 [x0, x1, x2, x3, some (.int v), x5, x6, x7, x8] (S) h P := q_iload (M := mL_law) (pc := 232) dL_law_232 rfl r
theorem tL_law_234 (r : RQ G mL_law d 235 [x0, x1, x2, x3, x4, x5, x6, x7, x8] (.int (nI 4) :: S) (h) P) : RQ G mL_law d 234 [x0, x1, x2, x3, x4, x5, x6, x7, x8] (S) h P := q_iconst (M := mL_law) (pc := 234) dL_law_234 (by decide) r
theorem tL_law_235 {x y : Int32} (r : RQ G mL_law d 236 [x0, x1, x2, x3, x4, x5, x6, x7, x8] (.int (x + y) :: S) (h) P) : RQ G mL_law d 235 [x0, x1, x2, x3, x4, x5, x6, x7, x8] (.int y :: .int x :: S) h P := q_iadd (M := mL_law) (pc := 235) dL_law_235 r
theorem tL_law_236 {j : Nat} {x : Int32} (hx : x = nI j) (hj : j < gN G) (hn : gN G < 2147483648) (r : RQ G mL_law d 237 [x0, x1, x2, x3, x4, x5, x6, x7, x8] (.int (gX G j) :: S) (h) P) : RQ G mL_law d 236 [x0, x1, x2, x3, x4, x5, x6, x7, x8] (.int x :: .ref (OLD + 999) :: S) h P := q_sld (M := mL_law) (pc := 236) dL_law_236 hx hj hn r
theorem tL_law_237 {k : Nat} (r : RQ G mL_law d 238 [some (.ref k), x1, x2, x3, x4, x5, x6, x7, x8] (.ref k :: S) (h) P) : RQ G mL_law d 237 [some (.ref k), x1, x2, x3, x4, x5, x6, x7, x8] (S) h P := q_aload_n (M := mL_law) (pc := 237) (r0 := some k) dL_law_237 rfl rfl r
theorem tL_law_238 {v : Int32} (r : RQ G mL_law d 240 [x0, x1, x2, x3, some (.int v), x5, x6, x7, x8] (.int v :: S) (h) P) : RQ G mL_law d 238 [x0, x1, x2, x3, some (.int v), x5, x6, x7, x8] (S) h P := q_iload (M := mL_law) (pc := 238) dL_law_238 rfl r
theorem tL_law_240 (r : RQ G mL_law d 241 [x0, x1, x2, x3, x4, x5, x6, x7, x8] (.int (nI 5) :: S) (h) P) : RQ G mL_law d 240 [x0, x1, x2, x3, x4, x5, x6, x7, x8] (S) h P := q_iconst (M := mL_law) (pc := 240) dL_law_240 (by decide) r
theorem tL_law_241 {x y : Int32} (r : RQ G mL_law d 242 [x0, x1, x2, x3, x4, x5, x6, x7, x8] (.int (x + y) :: S) (h) P) : RQ G mL_law d 241 [x0, x1, x2, x3, x4, x5, x6, x7, x8] (.int y :: .int x :: S) h P := q_iadd (M := mL_law) (pc := 241) dL_law_241 r
theorem tL_law_242 {j : Nat} {x : Int32} (hx : x = nI j) (hj : j < gN G) (hn : gN G < 2147483648) (r : RQ G mL_law d 243 [x0, x1, x2, x3, x4, x5, x6, x7, x8] (.int (gX G j) :: S) (h) P) : RQ G mL_law d 242 [x0, x1, x2, x3, x4, x5, x6, x7, x8] (.int x :: .ref (OLD + 999) :: S) h P := q_sld (M := mL_law) (pc := 242) dL_law_242 hx hj hn r
theorem tL_law_243 {k : Nat} (r : RQ G mL_law d 244 [x0, x1, x2, some (.ref k), x4, x5, x6, x7, x8] (.ref k :: S) (h) P) : RQ G mL_law d 243 [x0, x1, x2, some (.ref k), x4, x5, x6, x7, x8] (S) h P := q_aload_n (M := mL_law) (pc := 243) (r0 := some k) dL_law_243 rfl rfl r
theorem tL_law_244 {d2 : Nat} {a0 : Nat} {a1 : Int32} {a2 : Int32} {a3 : Int32} {a4 : Int32} {a5 : Int32} {a6 : Nat} {Q : Int32 → AH → Prop} (hd : d2 + 1 ≤ d) (call : RQ G mL_feed d2 0 [some (.ref a0), some (.int a1), some (.int a2), some (.int a3), some (.int a4), some (.int a5), some (.ref a6), none] [] h (Ri Q)) (k : ∀ x h1, Q x h1 → RQ G mL_law d 247 [x0, x1, x2, x3, x4, x5, x6, x7, x8] (.int x :: S) h1 P) (hst : (S.map fun v => v.category).sum ≤ 8 := by exact Nat.le_of_ble_eq_true rfl)  : RQ G mL_law d 244 [x0, x1, x2, x3, x4, x5, x6, x7, x8] (.ref a6 :: .int a5 :: .int a4 :: .int a3 :: .int a2 :: .int a1 :: .ref a0 :: S) h P := q_callSW (M := mL_law) (pc := 244) (M2 := mL_feed) (As := [.ref a0, .int a1, .int a2, .int a3, .int a4, .int a5, .ref a6]) (n := 7) dL_law_244 ⟨by decide, by decide, by decide, rfl⟩ w1102 w1103 w108 w1104 hd (by decide) (Nat.le_of_ble_eq_true rfl) rfl hst call (callk_i k)
theorem tL_law_247 {v : Int32} (ho : ok1 x4 = true := by rfl) (r : RQ G mL_law d 249 [x0, x1, x2, x3, x4, some (.int v), x6, x7, x8] (S) (h) P) : RQ G mL_law d 247 [x0, x1, x2, x3, x4, x5, x6, x7, x8] (.int v :: S) h P := q_istore (M := mL_law) (pc := 247) dL_law_247 (Nat.le_of_ble_eq_true rfl) ho r
theorem tL_law_249 {k : Nat} (r : RQ G mL_law d 250 [x0, x1, some (.ref k), x3, x4, x5, x6, x7, x8] (.ref k :: S) (h) P) : RQ G mL_law d 249 [x0, x1, some (.ref k), x3, x4, x5, x6, x7, x8] (S) h P := q_aload_n (M := mL_law) (pc := 249) (r0 := some k) dL_law_249 rfl rfl r
theorem tL_law_250 {k : Nat} (r : RQ G mL_law d 251 [some (.ref k), x1, x2, x3, x4, x5, x6, x7, x8] (.ref k :: S) (h) P) : RQ G mL_law d 250 [some (.ref k), x1, x2, x3, x4, x5, x6, x7, x8] (S) h P := q_aload_n (M := mL_law) (pc := 250) (r0 := some k) dL_law_250 rfl rfl r
theorem tL_law_251 {v : Int32} (r : RQ G mL_law d 253 [x0, x1, x2, x3, some (.int v), x5, x6, x7, x8] (.int v :: S) (h) P) : RQ G mL_law d 251 [x0, x1, x2, x3, some (.int v), x5, x6, x7, x8] (S) h P := q_iload (M := mL_law) (pc := 251) dL_law_251 rfl r
theorem tL_law_253 (r : RQ G mL_law d 254 [x0, x1, x2, x3, x4, x5, x6, x7, x8] (.int (nI 1) :: S) (h) P) : RQ G mL_law d 253 [x0, x1, x2, x3, x4, x5, x6, x7, x8] (S) h P := q_iconst (M := mL_law) (pc := 253) dL_law_253 (by decide) r
theorem tL_law_254 {x y : Int32} (r : RQ G mL_law d 255 [x0, x1, x2, x3, x4, x5, x6, x7, x8] (.int (x + y) :: S) (h) P) : RQ G mL_law d 254 [x0, x1, x2, x3, x4, x5, x6, x7, x8] (.int y :: .int x :: S) h P := q_iadd (M := mL_law) (pc := 254) dL_law_254 r
theorem tL_law_255 {j : Nat} {x : Int32} (hx : x = nI j) (hj : j < gN G) (hn : gN G < 2147483648) (r : RQ G mL_law d 256 [x0, x1, x2, x3, x4, x5, x6, x7, x8] (.int (gX G j) :: S) (h) P) : RQ G mL_law d 255 [x0, x1, x2, x3, x4, x5, x6, x7, x8] (.int x :: .ref (OLD + 999) :: S) h P := q_sld (M := mL_law) (pc := 255) dL_law_255 hx hj hn r
theorem tL_law_256 {k : Nat} (r : RQ G mL_law d 257 [some (.ref k), x1, x2, x3, x4, x5, x6, x7, x8] (.ref k :: S) (h) P) : RQ G mL_law d 256 [some (.ref k), x1, x2, x3, x4, x5, x6, x7, x8] (S) h P := q_aload_n (M := mL_law) (pc := 256) (r0 := some k) dL_law_256 rfl rfl r
theorem tL_law_257 {v : Int32} (r : RQ G mL_law d 259 [x0, x1, x2, x3, some (.int v), x5, x6, x7, x8] (.int v :: S) (h) P) : RQ G mL_law d 257 [x0, x1, x2, x3, some (.int v), x5, x6, x7, x8] (S) h P := q_iload (M := mL_law) (pc := 257) dL_law_257 rfl r
theorem tL_law_259 (r : RQ G mL_law d 260 [x0, x1, x2, x3, x4, x5, x6, x7, x8] (.int (nI 2) :: S) (h) P) : RQ G mL_law d 259 [x0, x1, x2, x3, x4, x5, x6, x7, x8] (S) h P := q_iconst (M := mL_law) (pc := 259) dL_law_259 (by decide) r
theorem tL_law_260 {x y : Int32} (r : RQ G mL_law d 261 [x0, x1, x2, x3, x4, x5, x6, x7, x8] (.int (x + y) :: S) (h) P) : RQ G mL_law d 260 [x0, x1, x2, x3, x4, x5, x6, x7, x8] (.int y :: .int x :: S) h P := q_iadd (M := mL_law) (pc := 260) dL_law_260 r
theorem tL_law_261 {j : Nat} {x : Int32} (hx : x = nI j) (hj : j < gN G) (hn : gN G < 2147483648) (r : RQ G mL_law d 262 [x0, x1, x2, x3, x4, x5, x6, x7, x8] (.int (gX G j) :: S) (h) P) : RQ G mL_law d 261 [x0, x1, x2, x3, x4, x5, x6, x7, x8] (.int x :: .ref (OLD + 999) :: S) h P := q_sld (M := mL_law) (pc := 261) dL_law_261 hx hj hn r
theorem tL_law_262 {k : Nat} (r : RQ G mL_law d 263 [some (.ref k), x1, x2, x3, x4, x5, x6, x7, x8] (.ref k :: S) (h) P) : RQ G mL_law d 262 [some (.ref k), x1, x2, x3, x4, x5, x6, x7, x8] (S) h P := q_aload_n (M := mL_law) (pc := 262) (r0 := some k) dL_law_262 rfl rfl r
theorem tL_law_263 {v : Int32} (r : RQ G mL_law d 265 [x0, x1, x2, x3, some (.int v), x5, x6, x7, x8] (.int v :: S) (h) P) : RQ G mL_law d 263 [x0, x1, x2, x3, some (.int v), x5, x6, x7, x8] (S) h P := q_iload (M := mL_law) (pc := 263) dL_law_263 rfl r
theorem tL_law_265 (r : RQ G mL_law d 266 [x0, x1, x2, x3, x4, x5, x6, x7, x8] (.int (nI 3) :: S) (h) P) : RQ G mL_law d 265 [x0, x1, x2, x3, x4, x5, x6, x7, x8] (S) h P := q_iconst (M := mL_law) (pc := 265) dL_law_265 (by decide) r
theorem tL_law_266 {x y : Int32} (r : RQ G mL_law d 267 [x0, x1, x2, x3, x4, x5, x6, x7, x8] (.int (x + y) :: S) (h) P) : RQ G mL_law d 266 [x0, x1, x2, x3, x4, x5, x6, x7, x8] (.int y :: .int x :: S) h P := q_iadd (M := mL_law) (pc := 266) dL_law_266 r
theorem tL_law_267 {j : Nat} {x : Int32} (hx : x = nI j) (hj : j < gN G) (hn : gN G < 2147483648) (r : RQ G mL_law d 268 [x0, x1, x2, x3, x4, x5, x6, x7, x8] (.int (gX G j) :: S) (h) P) : RQ G mL_law d 267 [x0, x1, x2, x3, x4, x5, x6, x7, x8] (.int x :: .ref (OLD + 999) :: S) h P := q_sld (M := mL_law) (pc := 267) dL_law_267 hx hj hn r
theorem tL_law_268 {k : Nat} (r : RQ G mL_law d 269 [some (.ref k), x1, x2, x3, x4, x5, x6, x7, x8] (.ref k :: S) (h) P) : RQ G mL_law d 268 [some (.ref k), x1, x2, x3, x4, x5, x6, x7, x8] (S) h P := q_aload_n (M := mL_law) (pc := 268) (r0 := some k) dL_law_268 rfl rfl r
theorem tL_law_269 {v : Int32} (r : RQ G mL_law d 271 [x0, x1, x2, x3, some (.int v), x5, x6, x7, x8] (.int v :: S) (h) P) : RQ G mL_law d 269 [x0, x1, x2, x3, some (.int v), x5, x6, x7, x8] (S) h P := q_iload (M := mL_law) (pc := 269) dL_law_269 rfl r
theorem tL_law_271 (r : RQ G mL_law d 272 [x0, x1, x2, x3, x4, x5, x6, x7, x8] (.int (nI 4) :: S) (h) P) : RQ G mL_law d 271 [x0, x1, x2, x3, x4, x5, x6, x7, x8] (S) h P := q_iconst (M := mL_law) (pc := 271) dL_law_271 (by decide) r
theorem tL_law_272 {x y : Int32} (r : RQ G mL_law d 273 [x0, x1, x2, x3, x4, x5, x6, x7, x8] (.int (x + y) :: S) (h) P) : RQ G mL_law d 272 [x0, x1, x2, x3, x4, x5, x6, x7, x8] (.int y :: .int x :: S) h P := q_iadd (M := mL_law) (pc := 272) dL_law_272 r
theorem tL_law_273 {j : Nat} {x : Int32} (hx : x = nI j) (hj : j < gN G) (hn : gN G < 2147483648) (r : RQ G mL_law d 274 [x0, x1, x2, x3, x4, x5, x6, x7, x8] (.int (gX G j) :: S) (h) P) : RQ G mL_law d 273 [x0, x1, x2, x3, x4, x5, x6, x7, x8] (.int x :: .ref (OLD + 999) :: S) h P := q_sld (M := mL_law) (pc := 273) dL_law_273 hx hj hn r
theorem tL_law_274 {k : Nat} (r : RQ G mL_law d 275 [some (.ref k), x1, x2, x3, x4, x5, x6, x7, x8] (.ref k :: S) (h) P) : RQ G mL_law d 274 [some (.ref k), x1, x2, x3, x4, x5, x6, x7, x8] (S) h P := q_aload_n (M := mL_law) (pc := 274) (r0 := some k) dL_law_274 rfl rfl r
theorem tL_law_275 {v : Int32} (r : RQ G mL_law d 277 [x0, x1, x2, x3, some (.int v), x5, x6, x7, x8] (.int v :: S) (h) P) : RQ G mL_law d 275 [x0, x1, x2, x3, some (.int v), x5, x6, x7, x8] (S) h P := q_iload (M := mL_law) (pc := 275) dL_law_275 rfl r
theorem tL_law_277 (r : RQ G mL_law d 278 [x0, x1, x2, x3, x4, x5, x6, x7, x8] (.int (nI 5) :: S) (h) P) : RQ G mL_law d 277 [x0, x1, x2, x3, x4, x5, x6, x7, x8] (S) h P := q_iconst (M := mL_law) (pc := 277) dL_law_277 (by decide) r
theorem tL_law_278 {x y : Int32} (r : RQ G mL_law d 279 [x0, x1, x2, x3, x4, x5, x6, x7, x8] (.int (x + y) :: S) (h) P) : RQ G mL_law d 278 [x0, x1, x2, x3, x4, x5, x6, x7, x8] (.int y :: .int x :: S) h P := q_iadd (M := mL_law) (pc := 278) dL_law_278 r
theorem tL_law_279 {j : Nat} {x : Int32} (hx : x = nI j) (hj : j < gN G) (hn : gN G < 2147483648) (r : RQ G mL_law d 280 [x0, x1, x2, x3, x4, x5, x6, x7, x8] (.int (gX G j) :: S) (h) P) : RQ G mL_law d 279 [x0, x1, x2, x3, x4, x5, x6, x7, x8] (.int x :: .ref (OLD + 999) :: S) h P := q_sld (M := mL_law) (pc := 279) dL_law_279 hx hj hn r
theorem tL_law_280 {b d2 : Nat} {vs : List Value} {a0 : Int32} {a1 : Int32} {a2 : Int32} {a3 : Int32} {a4 : Int32} {Q : Int32 → AH → Prop} (hd : d2 + 1 ≤ d) (ha : At h b (.inr (10, vs))) (call : RQ G mX12_feed d2 0 [some (.ref b), some (.int a0), some (.int a1), some (.int a2), some (.int a3), some (.int a4), none, none, none, none, none, none] [] h (Ri Q)) (k : ∀ x h1, Q x h1 → RQ G mL_law d 283 [x0, x1, x2, x3, x4, x5, x6, x7, x8] (.int x :: S) h1 P) (hst : (S.map fun v => v.category).sum ≤ 8 := by exact Nat.le_of_ble_eq_true rfl)  : RQ G mL_law d 280 [x0, x1, x2, x3, x4, x5, x6, x7, x8] (.int a4 :: .int a3 :: .int a2 :: .int a1 :: .int a0 :: .ref b :: S) h P := q_callV (M := mL_law) (pc := 280) (M2 := mX12_feed) (As := [.int a0, .int a1, .int a2, .int a3, .int a4]) (n := 5) dL_law_280 rfl ⟨by decide, by decide, by decide, rfl⟩ rfl w1503 w1504 w1505 w120 w1506 (show CL[10]? = some (RX12, TX12, 25) from rfl) hd (by decide) (Nat.le_of_ble_eq_true rfl) rfl ha hst call (callk_i k)
theorem tL_law_283 {v : Int32} (ho : ok1 x5 = true := by rfl) (r : RQ G mL_law d 285 [x0, x1, x2, x3, x4, x5, some (.int v), x7, x8] (S) (h) P) : RQ G mL_law d 283 [x0, x1, x2, x3, x4, x5, x6, x7, x8] (.int v :: S) h P := q_istore (M := mL_law) (pc := 283) dL_law_283 (Nat.le_of_ble_eq_true rfl) ho r
theorem tL_law_285 {k : Nat} (r : RQ G mL_law d 286 [x0, x1, some (.ref k), x3, x4, x5, x6, x7, x8] (.ref k :: S) (h) P) : RQ G mL_law d 285 [x0, x1, some (.ref k), x3, x4, x5, x6, x7, x8] (S) h P := q_aload_n (M := mL_law) (pc := 285) (r0 := some k) dL_law_285 rfl rfl r
theorem tL_law_286 {b d2 : Nat} {vs : List Value}  {Q : Int32 → AH → Prop} (hd : d2 + 1 ≤ d) (ha : At h b (.inr (10, vs))) (call : RQ G mX12_thrown d2 0 [some (.ref b)] [] h (Ri Q)) (k : ∀ x h1, Q x h1 → RQ G mL_law d 289 [x0, x1, x2, x3, x4, x5, x6, x7, x8] (.int x :: S) h1 P) (hst : (S.map fun v => v.category).sum ≤ 8 := by exact Nat.le_of_ble_eq_true rfl)  : RQ G mL_law d 286 [x0, x1, x2, x3, x4, x5, x6, x7, x8] (.ref b :: S) h P := q_callV (M := mL_law) (pc := 286) (M2 := mX12_thrown) (As := []) (n := 0) dL_law_286 rfl ⟨by decide, by decide, by decide, rfl⟩ rfl w1499 w1500 w1501 w120 w1502 (show CL[10]? = some (RX12, TX12, 25) from rfl) hd (by decide) (Nat.le_of_ble_eq_true rfl) rfl ha hst call (callk_i k)
theorem tL_law_289 {v : Int32} (r : RQ G mL_law d 291 [x0, x1, x2, x3, x4, some (.int v), x6, x7, x8] (.int v :: S) (h) P) : RQ G mL_law d 289 [x0, x1, x2, x3, x4, some (.int v), x6, x7, x8] (S) h P := q_iload (M := mL_law) (pc := 289) dL_law_289 rfl r
theorem tL_law_291 {x y : Int32} (kt : x = y → RQ G mL_law d 296 [x0, x1, x2, x3, x4, x5, x6, x7, x8] S h P) (kf : ¬ x = y → RQ G mL_law d 294 [x0, x1, x2, x3, x4, x5, x6, x7, x8] S h P) : RQ G mL_law d 291 [x0, x1, x2, x3, x4, x5, x6, x7, x8] (.int y :: .int x :: S) h P := q_icmp_eq (M := mL_law) (pc := 291) dL_law_291 (by decide) kt kf
theorem tL_law_294 (r : RQ G mL_law d 295 [x0, x1, x2, x3, x4, x5, x6, x7, x8] (.int (nI 0) :: S) (h) P) : RQ G mL_law d 294 [x0, x1, x2, x3, x4, x5, x6, x7, x8] (S) h P := q_iconst (M := mL_law) (pc := 294) dL_law_294 (by decide) r
theorem tL_law_295 {x : Int32} (hb : x = nI 0 ∨ x = nI 1) (hP : P (.inl (some (.int x))) h) : RQ G mL_law d 295 [x0, x1, x2, x3, x4, x5, x6, x7, x8] ([.int x]) h P := q_ireturn (M := mL_law) (pc := 295) (ty := .boolean) dL_law_295 rfl (nar_bool hb) hP
theorem tL_law_296 {v : Int32} (r : RQ G mL_law d 298 [x0, x1, x2, x3, x4, some (.int v), x6, x7, x8] (.int v :: S) (h) P) : RQ G mL_law d 296 [x0, x1, x2, x3, x4, some (.int v), x6, x7, x8] (S) h P := q_iload (M := mL_law) (pc := 296) dL_law_296 rfl r
theorem tL_law_298 {x : Int32} (kt : ¬ x = 0 → RQ G mL_law d 313 [x0, x1, x2, x3, x4, x5, x6, x7, x8] S h P) (kf : x = 0 → RQ G mL_law d 301 [x0, x1, x2, x3, x4, x5, x6, x7, x8] S h P) : RQ G mL_law d 298 [x0, x1, x2, x3, x4, x5, x6, x7, x8] (.int x :: S) h P := q_if_ne (M := mL_law) (pc := 298) dL_law_298 (by decide) kt kf
theorem tL_law_301 {k : Nat} (r : RQ G mL_law d 302 [x0, x1, x2, some (.ref k), x4, x5, x6, x7, x8] (.ref k :: S) (h) P) : RQ G mL_law d 301 [x0, x1, x2, some (.ref k), x4, x5, x6, x7, x8] (S) h P := q_aload_n (M := mL_law) (pc := 301) (r0 := some k) dL_law_301 rfl rfl r
theorem tL_law_302 (r : RQ G mL_law d 303 [x0, x1, x2, x3, x4, x5, x6, x7, x8] (.int (nI 0) :: S) (h) P) : RQ G mL_law d 302 [x0, x1, x2, x3, x4, x5, x6, x7, x8] (S) h P := q_iconst (M := mL_law) (pc := 302) dL_law_302 (by decide) r
theorem tL_law_303 {a n j : Nat} {x : Int32} {f : Nat → Int64} (ha : At h a (.inl (2, n, .inr (.inl f)))) (hx : x = nI j) (hj : j < n) (hn : n < 2147483648) (r : RQ G mL_law d 304 [x0, x1, x2, x3, x4, x5, x6, x7, x8] (.long (f j) :: S) (h) P) : RQ G mL_law d 303 [x0, x1, x2, x3, x4, x5, x6, x7, x8] (.int x :: .ref a :: S) h P := q_lald (M := mL_law) (pc := 303) dL_law_303 ha hx hj hn r
theorem tL_law_304 {v : Int32} (r : RQ G mL_law d 306 [x0, x1, x2, x3, x4, x5, some (.int v), x7, x8] (.int v :: S) (h) P) : RQ G mL_law d 304 [x0, x1, x2, x3, x4, x5, some (.int v), x7, x8] (S) h P := q_iload (M := mL_law) (pc := 304) dL_law_304 rfl r
theorem tL_law_306 {x : Int32} (r : RQ G mL_law d 307 [x0, x1, x2, x3, x4, x5, x6, x7, x8] (.long x.toInt64 :: S) (h) P) : RQ G mL_law d 306 [x0, x1, x2, x3, x4, x5, x6, x7, x8] (.int x :: S) h P := q_i2l (M := mL_law) (pc := 306) dL_law_306 r
theorem tL_law_307 {x y : Int64} (r : RQ G mL_law d 308 [x0, x1, x2, x3, x4, x5, x6, x7, x8] (.int (lg_cmp x y) :: S) (h) P) : RQ G mL_law d 307 [x0, x1, x2, x3, x4, x5, x6, x7, x8] (.long y :: .long x :: S) h P := q_lcmp (M := mL_law) (pc := 307) dL_law_307 r
theorem tL_law_308 {x : Int32} (kt : x = 0 → RQ G mL_law d 313 [x0, x1, x2, x3, x4, x5, x6, x7, x8] S h P) (kf : ¬ x = 0 → RQ G mL_law d 311 [x0, x1, x2, x3, x4, x5, x6, x7, x8] S h P) : RQ G mL_law d 308 [x0, x1, x2, x3, x4, x5, x6, x7, x8] (.int x :: S) h P := q_if_eq (M := mL_law) (pc := 308) dL_law_308 (by decide) kt kf
theorem tL_law_311 (r : RQ G mL_law d 312 [x0, x1, x2, x3, x4, x5, x6, x7, x8] (.int (nI 0) :: S) (h) P) : RQ G mL_law d 311 [x0, x1, x2, x3, x4, x5, x6, x7, x8] (S) h P := q_iconst (M := mL_law) (pc := 311) dL_law_311 (by decide) r
theorem tL_law_312 {x : Int32} (hb : x = nI 0 ∨ x = nI 1) (hP : P (.inl (some (.int x))) h) : RQ G mL_law d 312 [x0, x1, x2, x3, x4, x5, x6, x7, x8] ([.int x]) h P := q_ireturn (M := mL_law) (pc := 312) (ty := .boolean) dL_law_312 rfl (nar_bool hb) hP
theorem tL_law_313 (r : RQ G mL_law d 2189 [x0, x1, x2, x3, x4, x5, x6, x7, x8] S h P) : RQ G mL_law d 313 [x0, x1, x2, x3, x4, x5, x6, x7, x8] (S) h P := q_goto (M := mL_law) (pc := 313) dL_law_313 (by decide) r
theorem tL_law_316 {k : Nat} (r : RQ G mL_law d 317 [x0, some (.ref k), x2, x3, x4, x5, x6, x7, x8] (.ref k :: S) (h) P) : RQ G mL_law d 316 [x0, some (.ref k), x2, x3, x4, x5, x6, x7, x8] (S) h P := q_aload_n (M := mL_law) (pc := 316) (r0 := some k) dL_law_316 rfl rfl r
theorem tL_law_317 {k : Nat} (r : RQ G mL_law d 318 [some (.ref k), x1, x2, x3, x4, x5, x6, x7, x8] (.ref k :: S) (h) P) : RQ G mL_law d 317 [some (.ref k), x1, x2, x3, x4, x5, x6, x7, x8] (S) h P := q_aload_n (M := mL_law) (pc := 317) (r0 := some k) dL_law_317 rfl rfl r
theorem tL_law_318 {v : Int32} (r : RQ G mL_law d 320 [x0, x1, x2, x3, some (.int v), x5, x6, x7, x8] (.int v :: S) (h) P) : RQ G mL_law d 318 [x0, x1, x2, x3, some (.int v), x5, x6, x7, x8] (S) h P := q_iload (M := mL_law) (pc := 318) dL_law_318 rfl r
theorem tL_law_320 (r : RQ G mL_law d 321 [x0, x1, x2, x3, x4, x5, x6, x7, x8] (.int (nI 1) :: S) (h) P) : RQ G mL_law d 320 [x0, x1, x2, x3, x4, x5, x6, x7, x8] (S) h P := q_iconst (M := mL_law) (pc := 320) dL_law_320 (by decide) r
theorem tL_law_321 {x y : Int32} (r : RQ G mL_law d 322 [x0, x1, x2, x3, x4, x5, x6, x7, x8] (.int (x + y) :: S) (h) P) : RQ G mL_law d 321 [x0, x1, x2, x3, x4, x5, x6, x7, x8] (.int y :: .int x :: S) h P := q_iadd (M := mL_law) (pc := 321) dL_law_321 r
theorem tL_law_322 {j : Nat} {x : Int32} (hx : x = nI j) (hj : j < gN G) (hn : gN G < 2147483648) (r : RQ G mL_law d 323 [x0, x1, x2, x3, x4, x5, x6, x7, x8] (.int (gX G j) :: S) (h) P) : RQ G mL_law d 322 [x0, x1, x2, x3, x4, x5, x6, x7, x8] (.int x :: .ref (OLD + 999) :: S) h P := q_sld (M := mL_law) (pc := 322) dL_law_322 hx hj hn r
theorem tL_law_323 {k : Nat} (r : RQ G mL_law d 324 [x0, x1, x2, some (.ref k), x4, x5, x6, x7, x8] (.ref k :: S) (h) P) : RQ G mL_law d 323 [x0, x1, x2, some (.ref k), x4, x5, x6, x7, x8] (S) h P := q_aload_n (M := mL_law) (pc := 323) (r0 := some k) dL_law_323 rfl rfl r
theorem tL_law_324 {d2 : Nat} {a0 : Nat} {a1 : Int32} {a2 : Nat} {Q : Int32 → AH → Prop} (hd : d2 + 1 ≤ d) (call : RQ G mL_trim d2 0 [some (.ref a0), some (.int a1), some (.ref a2), none] [] h (Ri Q)) (k : ∀ x h1, Q x h1 → RQ G mL_law d 327 [x0, x1, x2, x3, x4, x5, x6, x7, x8] (.int x :: S) h1 P) (hst : (S.map fun v => v.category).sum ≤ 8 := by exact Nat.le_of_ble_eq_true rfl)  : RQ G mL_law d 324 [x0, x1, x2, x3, x4, x5, x6, x7, x8] (.ref a2 :: .int a1 :: .ref a0 :: S) h P := q_callSW (M := mL_law) (pc := 324) (M2 := mL_trim) (As := [.ref a0, .int a1, .ref a2]) (n := 3) dL_law_324 ⟨by decide, by decide, by decide, rfl⟩ w1133 w1134 w108 w1135 hd (by decide) (Nat.le_of_ble_eq_true rfl) rfl hst call (callk_i k)
theorem tL_law_327 {v : Int32} (ho : ok1 x4 = true := by rfl) (r : RQ G mL_law d 329 [x0, x1, x2, x3, x4, some (.int v), x6, x7, x8] (S) (h) P) : RQ G mL_law d 327 [x0, x1, x2, x3, x4, x5, x6, x7, x8] (.int v :: S) h P := q_istore (M := mL_law) (pc := 327) dL_law_327 (Nat.le_of_ble_eq_true rfl) ho r
theorem tL_law_329 {k : Nat} (r : RQ G mL_law d 330 [x0, x1, some (.ref k), x3, x4, x5, x6, x7, x8] (.ref k :: S) (h) P) : RQ G mL_law d 329 [x0, x1, some (.ref k), x3, x4, x5, x6, x7, x8] (S) h P := q_aload_n (M := mL_law) (pc := 329) (r0 := some k) dL_law_329 rfl rfl r
theorem tL_law_330 {k : Nat} (r : RQ G mL_law d 331 [some (.ref k), x1, x2, x3, x4, x5, x6, x7, x8] (.ref k :: S) (h) P) : RQ G mL_law d 330 [some (.ref k), x1, x2, x3, x4, x5, x6, x7, x8] (S) h P := q_aload_n (M := mL_law) (pc := 330) (r0 := some k) dL_law_330 rfl rfl r
theorem tL_law_331 {v : Int32} (r : RQ G mL_law d 333 [x0, x1, x2, x3, some (.int v), x5, x6, x7, x8] (.int v :: S) (h) P) : RQ G mL_law d 331 [x0, x1, x2, x3, some (.int v), x5, x6, x7, x8] (S) h P := q_iload (M := mL_law) (pc := 331) dL_law_331 rfl r
theorem tL_law_333 (r : RQ G mL_law d 334 [x0, x1, x2, x3, x4, x5, x6, x7, x8] (.int (nI 1) :: S) (h) P) : RQ G mL_law d 333 [x0, x1, x2, x3, x4, x5, x6, x7, x8] (S) h P := q_iconst (M := mL_law) (pc := 333) dL_law_333 (by decide) r
theorem tL_law_334 {x y : Int32} (r : RQ G mL_law d 335 [x0, x1, x2, x3, x4, x5, x6, x7, x8] (.int (x + y) :: S) (h) P) : RQ G mL_law d 334 [x0, x1, x2, x3, x4, x5, x6, x7, x8] (.int y :: .int x :: S) h P := q_iadd (M := mL_law) (pc := 334) dL_law_334 r
theorem tL_law_335 {j : Nat} {x : Int32} (hx : x = nI j) (hj : j < gN G) (hn : gN G < 2147483648) (r : RQ G mL_law d 336 [x0, x1, x2, x3, x4, x5, x6, x7, x8] (.int (gX G j) :: S) (h) P) : RQ G mL_law d 335 [x0, x1, x2, x3, x4, x5, x6, x7, x8] (.int x :: .ref (OLD + 999) :: S) h P := q_sld (M := mL_law) (pc := 335) dL_law_335 hx hj hn r
theorem tL_law_336 {b d2 : Nat} {vs : List Value} {a0 : Int32} {Q : Int32 → AH → Prop} (hd : d2 + 1 ≤ d) (ha : At h b (.inr (10, vs))) (call : RQ G mX12_trim d2 0 [some (.ref b), some (.int a0)] [] h (Ri Q)) (k : ∀ x h1, Q x h1 → RQ G mL_law d 339 [x0, x1, x2, x3, x4, x5, x6, x7, x8] (.int x :: S) h1 P) (hst : (S.map fun v => v.category).sum ≤ 8 := by exact Nat.le_of_ble_eq_true rfl)  : RQ G mL_law d 336 [x0, x1, x2, x3, x4, x5, x6, x7, x8] (.int a0 :: .ref b :: S) h P := q_callV (M := mL_law) (pc := 336) (M2 := mX12_trim) (As := [.int a0]) (n := 1) dL_law_336 rfl ⟨by decide, by decide, by decide, rfl⟩ rfl w1511 w1512 w1513 w120 w1514 (show CL[10]? = some (RX12, TX12, 25) from rfl) hd (by decide) (Nat.le_of_ble_eq_true rfl) rfl ha hst call (callk_i k)
theorem tL_law_339 {v : Int32} (ho : ok1 x5 = true := by rfl) (r : RQ G mL_law d 341 [x0, x1, x2, x3, x4, x5, some (.int v), x7, x8] (S) (h) P) : RQ G mL_law d 339 [x0, x1, x2, x3, x4, x5, x6, x7, x8] (.int v :: S) h P := q_istore (M := mL_law) (pc := 339) dL_law_339 (Nat.le_of_ble_eq_true rfl) ho r
theorem tL_law_341 {k : Nat} (r : RQ G mL_law d 342 [x0, x1, some (.ref k), x3, x4, x5, x6, x7, x8] (.ref k :: S) (h) P) : RQ G mL_law d 341 [x0, x1, some (.ref k), x3, x4, x5, x6, x7, x8] (S) h P := q_aload_n (M := mL_law) (pc := 341) (r0 := some k) dL_law_341 rfl rfl r
theorem tL_law_342 {b d2 : Nat} {vs : List Value}  {Q : Int32 → AH → Prop} (hd : d2 + 1 ≤ d) (ha : At h b (.inr (10, vs))) (call : RQ G mX12_thrown d2 0 [some (.ref b)] [] h (Ri Q)) (k : ∀ x h1, Q x h1 → RQ G mL_law d 345 [x0, x1, x2, x3, x4, x5, x6, x7, x8] (.int x :: S) h1 P) (hst : (S.map fun v => v.category).sum ≤ 8 := by exact Nat.le_of_ble_eq_true rfl)  : RQ G mL_law d 342 [x0, x1, x2, x3, x4, x5, x6, x7, x8] (.ref b :: S) h P := q_callV (M := mL_law) (pc := 342) (M2 := mX12_thrown) (As := []) (n := 0) dL_law_342 rfl ⟨by decide, by decide, by decide, rfl⟩ rfl w1499 w1500 w1501 w120 w1502 (show CL[10]? = some (RX12, TX12, 25) from rfl) hd (by decide) (Nat.le_of_ble_eq_true rfl) rfl ha hst call (callk_i k)
theorem tL_law_345 {v : Int32} (r : RQ G mL_law d 347 [x0, x1, x2, x3, x4, some (.int v), x6, x7, x8] (.int v :: S) (h) P) : RQ G mL_law d 345 [x0, x1, x2, x3, x4, some (.int v), x6, x7, x8] (S) h P := q_iload (M := mL_law) (pc := 345) dL_law_345 rfl r
theorem tL_law_347 {x y : Int32} (kt : x = y → RQ G mL_law d 352 [x0, x1, x2, x3, x4, x5, x6, x7, x8] S h P) (kf : ¬ x = y → RQ G mL_law d 350 [x0, x1, x2, x3, x4, x5, x6, x7, x8] S h P) : RQ G mL_law d 347 [x0, x1, x2, x3, x4, x5, x6, x7, x8] (.int y :: .int x :: S) h P := q_icmp_eq (M := mL_law) (pc := 347) dL_law_347 (by decide) kt kf
theorem tL_law_350 (r : RQ G mL_law d 351 [x0, x1, x2, x3, x4, x5, x6, x7, x8] (.int (nI 0) :: S) (h) P) : RQ G mL_law d 350 [x0, x1, x2, x3, x4, x5, x6, x7, x8] (S) h P := q_iconst (M := mL_law) (pc := 350) dL_law_350 (by decide) r
theorem tL_law_351 {x : Int32} (hb : x = nI 0 ∨ x = nI 1) (hP : P (.inl (some (.int x))) h) : RQ G mL_law d 351 [x0, x1, x2, x3, x4, x5, x6, x7, x8] ([.int x]) h P := q_ireturn (M := mL_law) (pc := 351) (ty := .boolean) dL_law_351 rfl (nar_bool hb) hP
theorem tL_law_352 {v : Int32} (r : RQ G mL_law d 354 [x0, x1, x2, x3, x4, some (.int v), x6, x7, x8] (.int v :: S) (h) P) : RQ G mL_law d 352 [x0, x1, x2, x3, x4, some (.int v), x6, x7, x8] (S) h P := q_iload (M := mL_law) (pc := 352) dL_law_352 rfl r
theorem tL_law_354 {x : Int32} (kt : ¬ x = 0 → RQ G mL_law d 369 [x0, x1, x2, x3, x4, x5, x6, x7, x8] S h P) (kf : x = 0 → RQ G mL_law d 357 [x0, x1, x2, x3, x4, x5, x6, x7, x8] S h P) : RQ G mL_law d 354 [x0, x1, x2, x3, x4, x5, x6, x7, x8] (.int x :: S) h P := q_if_ne (M := mL_law) (pc := 354) dL_law_354 (by decide) kt kf
theorem tL_law_357 {k : Nat} (r : RQ G mL_law d 358 [x0, x1, x2, some (.ref k), x4, x5, x6, x7, x8] (.ref k :: S) (h) P) : RQ G mL_law d 357 [x0, x1, x2, some (.ref k), x4, x5, x6, x7, x8] (S) h P := q_aload_n (M := mL_law) (pc := 357) (r0 := some k) dL_law_357 rfl rfl r
theorem tL_law_358 (r : RQ G mL_law d 359 [x0, x1, x2, x3, x4, x5, x6, x7, x8] (.int (nI 0) :: S) (h) P) : RQ G mL_law d 358 [x0, x1, x2, x3, x4, x5, x6, x7, x8] (S) h P := q_iconst (M := mL_law) (pc := 358) dL_law_358 (by decide) r
theorem tL_law_359 {a n j : Nat} {x : Int32} {f : Nat → Int64} (ha : At h a (.inl (2, n, .inr (.inl f)))) (hx : x = nI j) (hj : j < n) (hn : n < 2147483648) (r : RQ G mL_law d 360 [x0, x1, x2, x3, x4, x5, x6, x7, x8] (.long (f j) :: S) (h) P) : RQ G mL_law d 359 [x0, x1, x2, x3, x4, x5, x6, x7, x8] (.int x :: .ref a :: S) h P := q_lald (M := mL_law) (pc := 359) dL_law_359 ha hx hj hn r
theorem tL_law_360 {v : Int32} (r : RQ G mL_law d 362 [x0, x1, x2, x3, x4, x5, some (.int v), x7, x8] (.int v :: S) (h) P) : RQ G mL_law d 360 [x0, x1, x2, x3, x4, x5, some (.int v), x7, x8] (S) h P := q_iload (M := mL_law) (pc := 360) dL_law_360 rfl r
theorem tL_law_362 {x : Int32} (r : RQ G mL_law d 363 [x0, x1, x2, x3, x4, x5, x6, x7, x8] (.long x.toInt64 :: S) (h) P) : RQ G mL_law d 362 [x0, x1, x2, x3, x4, x5, x6, x7, x8] (.int x :: S) h P := q_i2l (M := mL_law) (pc := 362) dL_law_362 r
theorem tL_law_363 {x y : Int64} (r : RQ G mL_law d 364 [x0, x1, x2, x3, x4, x5, x6, x7, x8] (.int (lg_cmp x y) :: S) (h) P) : RQ G mL_law d 363 [x0, x1, x2, x3, x4, x5, x6, x7, x8] (.long y :: .long x :: S) h P := q_lcmp (M := mL_law) (pc := 363) dL_law_363 r
theorem tL_law_364 {x : Int32} (kt : x = 0 → RQ G mL_law d 369 [x0, x1, x2, x3, x4, x5, x6, x7, x8] S h P) (kf : ¬ x = 0 → RQ G mL_law d 367 [x0, x1, x2, x3, x4, x5, x6, x7, x8] S h P) : RQ G mL_law d 364 [x0, x1, x2, x3, x4, x5, x6, x7, x8] (.int x :: S) h P := q_if_eq (M := mL_law) (pc := 364) dL_law_364 (by decide) kt kf
theorem tL_law_367 (r : RQ G mL_law d 368 [x0, x1, x2, x3, x4, x5, x6, x7, x8] (.int (nI 0) :: S) (h) P) : RQ G mL_law d 367 [x0, x1, x2, x3, x4, x5, x6, x7, x8] (S) h P := q_iconst (M := mL_law) (pc := 367) dL_law_367 (by decide) r
theorem tL_law_368 {x : Int32} (hb : x = nI 0 ∨ x = nI 1) (hP : P (.inl (some (.int x))) h) : RQ G mL_law d 368 [x0, x1, x2, x3, x4, x5, x6, x7, x8] ([.int x]) h P := q_ireturn (M := mL_law) (pc := 368) (ty := .boolean) dL_law_368 rfl (nar_bool hb) hP
theorem tL_law_369 (r : RQ G mL_law d 2189 [x0, x1, x2, x3, x4, x5, x6, x7, x8] S h P) : RQ G mL_law d 369 [x0, x1, x2, x3, x4, x5, x6, x7, x8] (S) h P := q_goto (M := mL_law) (pc := 369) dL_law_369 (by decide) r
theorem tL_law_372 {k : Nat} (r : RQ G mL_law d 373 [x0, some (.ref k), x2, x3, x4, x5, x6, x7, x8] (.ref k :: S) (h) P) : RQ G mL_law d 372 [x0, some (.ref k), x2, x3, x4, x5, x6, x7, x8] (S) h P := q_aload_n (M := mL_law) (pc := 372) (r0 := some k) dL_law_372 rfl rfl r
theorem tL_law_373 {b d2 : Nat} {vs : List Value}  {Q : Int32 → AH → Prop} (hd : d2 + 1 ≤ d) (ha : At h b (.inr (8, vs))) (call : RQ G mX10_teach d2 0 [some (.ref b), none] [] h (Ri Q)) (k : ∀ x h1, Q x h1 → RQ G mL_law d 376 [x0, x1, x2, x3, x4, x5, x6, x7, x8] (.int x :: S) h1 P) (hst : (S.map fun v => v.category).sum ≤ 8 := by exact Nat.le_of_ble_eq_true rfl)  : RQ G mL_law d 373 [x0, x1, x2, x3, x4, x5, x6, x7, x8] (.ref b :: S) h P := q_callV (M := mL_law) (pc := 373) (M2 := mX10_teach) (As := []) (n := 0) dL_law_373 rfl ⟨by decide, by decide, by decide, rfl⟩ rfl w441 w442 w443 w109 w444 (show CL[8]? = some (RX10, TX10, 7) from rfl) hd (by decide) (Nat.le_of_ble_eq_true rfl) rfl ha hst call (callk_i k)
theorem tL_law_376 {k : Nat} (r : RQ G mL_law d 377 [x0, x1, some (.ref k), x3, x4, x5, x6, x7, x8] (.ref k :: S) (h) P) : RQ G mL_law d 376 [x0, x1, some (.ref k), x3, x4, x5, x6, x7, x8] (S) h P := q_aload_n (M := mL_law) (pc := 376) (r0 := some k) dL_law_376 rfl rfl r
theorem tL_law_377 {b d2 : Nat} {vs : List Value}  {Q : Int32 → AH → Prop} (hd : d2 + 1 ≤ d) (ha : At h b (.inr (10, vs))) (call : RQ G mX12_teach d2 0 [some (.ref b)] [] h (Ri Q)) (k : ∀ x h1, Q x h1 → RQ G mL_law d 380 [x0, x1, x2, x3, x4, x5, x6, x7, x8] (.int x :: S) h1 P) (hst : (S.map fun v => v.category).sum ≤ 8 := by exact Nat.le_of_ble_eq_true rfl)  : RQ G mL_law d 377 [x0, x1, x2, x3, x4, x5, x6, x7, x8] (.ref b :: S) h P := q_callV (M := mL_law) (pc := 377) (M2 := mX12_teach) (As := []) (n := 0) dL_law_377 rfl ⟨by decide, by decide, by decide, rfl⟩ rfl w1518 w1519 w1520 w120 w1521 (show CL[10]? = some (RX12, TX12, 25) from rfl) hd (by decide) (Nat.le_of_ble_eq_true rfl) rfl ha hst call (callk_i k)
theorem tL_law_380 {x y : Int32} (kt : x = y → RQ G mL_law d 2189 [x0, x1, x2, x3, x4, x5, x6, x7, x8] S h P) (kf : ¬ x = y → RQ G mL_law d 383 [x0, x1, x2, x3, x4, x5, x6, x7, x8] S h P) : RQ G mL_law d 380 [x0, x1, x2, x3, x4, x5, x6, x7, x8] (.int y :: .int x :: S) h P := q_icmp_eq (M := mL_law) (pc := 380) dL_law_380 (by decide) kt kf
theorem tL_law_383 (r : RQ G mL_law d 384 [x0, x1, x2, x3, x4, x5, x6, x7, x8] (.int (nI 0) :: S) (h) P) : RQ G mL_law d 383 [x0, x1, x2, x3, x4, x5, x6, x7, x8] (S) h P := q_iconst (M := mL_law) (pc := 383) dL_law_383 (by decide) r
theorem tL_law_384 {x : Int32} (hb : x = nI 0 ∨ x = nI 1) (hP : P (.inl (some (.int x))) h) : RQ G mL_law d 384 [x0, x1, x2, x3, x4, x5, x6, x7, x8] ([.int x]) h P := q_ireturn (M := mL_law) (pc := 384) (ty := .boolean) dL_law_384 rfl (nar_bool hb) hP
theorem tL_law_385 {k : Nat} (r : RQ G mL_law d 386 [x0, some (.ref k), x2, x3, x4, x5, x6, x7, x8] (.ref k :: S) (h) P) : RQ G mL_law d 385 [x0, some (.ref k), x2, x3, x4, x5, x6, x7, x8] (S) h P := q_aload_n (M := mL_law) (pc := 385) (r0 := some k) dL_law_385 rfl rfl r
theorem tL_law_386 {b d2 : Nat} {vs : List Value}  {Q : Int32 → AH → Prop} (hd : d2 + 1 ≤ d) (ha : At h b (.inr (8, vs))) (call : RQ G mX10_errorAt d2 0 [some (.ref b)] [] h (Ri Q)) (k : ∀ x h1, Q x h1 → RQ G mL_law d 389 [x0, x1, x2, x3, x4, x5, x6, x7, x8] (.int x :: S) h1 P) (hst : (S.map fun v => v.category).sum ≤ 8 := by exact Nat.le_of_ble_eq_true rfl)  : RQ G mL_law d 386 [x0, x1, x2, x3, x4, x5, x6, x7, x8] (.ref b :: S) h P := q_callV (M := mL_law) (pc := 386) (M2 := mX10_errorAt) (As := []) (n := 0) dL_law_386 rfl ⟨by decide, by decide, by decide, rfl⟩ rfl w795 w796 w797 w109 w798 (show CL[8]? = some (RX10, TX10, 7) from rfl) hd (by decide) (Nat.le_of_ble_eq_true rfl) rfl ha hst call (callk_i k)
theorem tL_law_389 {k : Nat} (r : RQ G mL_law d 390 [x0, x1, some (.ref k), x3, x4, x5, x6, x7, x8] (.ref k :: S) (h) P) : RQ G mL_law d 389 [x0, x1, some (.ref k), x3, x4, x5, x6, x7, x8] (S) h P := q_aload_n (M := mL_law) (pc := 389) (r0 := some k) dL_law_389 rfl rfl r
theorem tL_law_390 {b d2 : Nat} {vs : List Value}  {Q : Int32 → AH → Prop} (hd : d2 + 1 ≤ d) (ha : At h b (.inr (10, vs))) (call : RQ G mX12_errorAt d2 0 [some (.ref b)] [] h (Ri Q)) (k : ∀ x h1, Q x h1 → RQ G mL_law d 393 [x0, x1, x2, x3, x4, x5, x6, x7, x8] (.int x :: S) h1 P) (hst : (S.map fun v => v.category).sum ≤ 8 := by exact Nat.le_of_ble_eq_true rfl)  : RQ G mL_law d 390 [x0, x1, x2, x3, x4, x5, x6, x7, x8] (.ref b :: S) h P := q_callV (M := mL_law) (pc := 390) (M2 := mX12_errorAt) (As := []) (n := 0) dL_law_390 rfl ⟨by decide, by decide, by decide, rfl⟩ rfl w1672 w1673 w1674 w120 w1675 (show CL[10]? = some (RX12, TX12, 25) from rfl) hd (by decide) (Nat.le_of_ble_eq_true rfl) rfl ha hst call (callk_i k)
theorem tL_law_393 {x y : Int32} (kt : x = y → RQ G mL_law d 2189 [x0, x1, x2, x3, x4, x5, x6, x7, x8] S h P) (kf : ¬ x = y → RQ G mL_law d 396 [x0, x1, x2, x3, x4, x5, x6, x7, x8] S h P) : RQ G mL_law d 393 [x0, x1, x2, x3, x4, x5, x6, x7, x8] (.int y :: .int x :: S) h P := q_icmp_eq (M := mL_law) (pc := 393) dL_law_393 (by decide) kt kf
theorem tL_law_396 (r : RQ G mL_law d 397 [x0, x1, x2, x3, x4, x5, x6, x7, x8] (.int (nI 0) :: S) (h) P) : RQ G mL_law d 396 [x0, x1, x2, x3, x4, x5, x6, x7, x8] (S) h P := q_iconst (M := mL_law) (pc := 396) dL_law_396 (by decide) r
theorem tL_law_397 {x : Int32} (hb : x = nI 0 ∨ x = nI 1) (hP : P (.inl (some (.int x))) h) : RQ G mL_law d 397 [x0, x1, x2, x3, x4, x5, x6, x7, x8] ([.int x]) h P := q_ireturn (M := mL_law) (pc := 397) (ty := .boolean) dL_law_397 rfl (nar_bool hb) hP
theorem tL_law_398 {k : Nat} (r : RQ G mL_law d 399 [x0, some (.ref k), x2, x3, x4, x5, x6, x7, x8] (.ref k :: S) (h) P) : RQ G mL_law d 398 [x0, some (.ref k), x2, x3, x4, x5, x6, x7, x8] (S) h P := q_aload_n (M := mL_law) (pc := 398) (r0 := some k) dL_law_398 rfl rfl r
theorem tL_law_399 {b d2 : Nat} {vs : List Value}  {Q : Int32 → AH → Prop} (hd : d2 + 1 ≤ d) (ha : At h b (.inr (8, vs))) (call : RQ G mX10_labels d2 0 [some (.ref b)] [] h (Ri Q)) (k : ∀ x h1, Q x h1 → RQ G mL_law d 402 [x0, x1, x2, x3, x4, x5, x6, x7, x8] (.int x :: S) h1 P) (hst : (S.map fun v => v.category).sum ≤ 8 := by exact Nat.le_of_ble_eq_true rfl)  : RQ G mL_law d 399 [x0, x1, x2, x3, x4, x5, x6, x7, x8] (.ref b :: S) h P := q_callV (M := mL_law) (pc := 399) (M2 := mX10_labels) (As := []) (n := 0) dL_law_399 rfl ⟨by decide, by decide, by decide, rfl⟩ rfl w799 w800 w801 w109 w802 (show CL[8]? = some (RX10, TX10, 7) from rfl) hd (by decide) (Nat.le_of_ble_eq_true rfl) rfl ha hst call (callk_i k)
theorem tL_law_402 {k : Nat} (r : RQ G mL_law d 403 [x0, x1, some (.ref k), x3, x4, x5, x6, x7, x8] (.ref k :: S) (h) P) : RQ G mL_law d 402 [x0, x1, some (.ref k), x3, x4, x5, x6, x7, x8] (S) h P := q_aload_n (M := mL_law) (pc := 402) (r0 := some k) dL_law_402 rfl rfl r
theorem tL_law_403 {b d2 : Nat} {vs : List Value}  {Q : Int32 → AH → Prop} (hd : d2 + 1 ≤ d) (ha : At h b (.inr (10, vs))) (call : RQ G mX12_labels d2 0 [some (.ref b)] [] h (Ri Q)) (k : ∀ x h1, Q x h1 → RQ G mL_law d 406 [x0, x1, x2, x3, x4, x5, x6, x7, x8] (.int x :: S) h1 P) (hst : (S.map fun v => v.category).sum ≤ 8 := by exact Nat.le_of_ble_eq_true rfl)  : RQ G mL_law d 403 [x0, x1, x2, x3, x4, x5, x6, x7, x8] (.ref b :: S) h P := q_callV (M := mL_law) (pc := 403) (M2 := mX12_labels) (As := []) (n := 0) dL_law_403 rfl ⟨by decide, by decide, by decide, rfl⟩ rfl w1680 w1681 w1682 w120 w1683 (show CL[10]? = some (RX12, TX12, 25) from rfl) hd (by decide) (Nat.le_of_ble_eq_true rfl) rfl ha hst call (callk_i k)
theorem tL_law_406 {x y : Int32} (kt : x = y → RQ G mL_law d 2189 [x0, x1, x2, x3, x4, x5, x6, x7, x8] S h P) (kf : ¬ x = y → RQ G mL_law d 409 [x0, x1, x2, x3, x4, x5, x6, x7, x8] S h P) : RQ G mL_law d 406 [x0, x1, x2, x3, x4, x5, x6, x7, x8] (.int y :: .int x :: S) h P := q_icmp_eq (M := mL_law) (pc := 406) dL_law_406 (by decide) kt kf
theorem tL_law_409 (r : RQ G mL_law d 410 [x0, x1, x2, x3, x4, x5, x6, x7, x8] (.int (nI 0) :: S) (h) P) : RQ G mL_law d 409 [x0, x1, x2, x3, x4, x5, x6, x7, x8] (S) h P := q_iconst (M := mL_law) (pc := 409) dL_law_409 (by decide) r
theorem tL_law_410 {x : Int32} (hb : x = nI 0 ∨ x = nI 1) (hP : P (.inl (some (.int x))) h) : RQ G mL_law d 410 [x0, x1, x2, x3, x4, x5, x6, x7, x8] ([.int x]) h P := q_ireturn (M := mL_law) (pc := 410) (ty := .boolean) dL_law_410 rfl (nar_bool hb) hP
theorem tL_law_411 {k : Nat} (r : RQ G mL_law d 412 [x0, some (.ref k), x2, x3, x4, x5, x6, x7, x8] (.ref k :: S) (h) P) : RQ G mL_law d 411 [x0, some (.ref k), x2, x3, x4, x5, x6, x7, x8] (S) h P := q_aload_n (M := mL_law) (pc := 411) (r0 := some k) dL_law_411 rfl rfl r
theorem tL_law_412 {b d2 : Nat} {vs : List Value}  {Q : Int32 → AH → Prop} (hd : d2 + 1 ≤ d) (ha : At h b (.inr (8, vs))) (call : RQ G mX10_jars d2 0 [some (.ref b)] [] h (Ri Q)) (k : ∀ x h1, Q x h1 → RQ G mL_law d 415 [x0, x1, x2, x3, x4, x5, x6, x7, x8] (.int x :: S) h1 P) (hst : (S.map fun v => v.category).sum ≤ 8 := by exact Nat.le_of_ble_eq_true rfl)  : RQ G mL_law d 412 [x0, x1, x2, x3, x4, x5, x6, x7, x8] (.ref b :: S) h P := q_callV (M := mL_law) (pc := 412) (M2 := mX10_jars) (As := []) (n := 0) dL_law_412 rfl ⟨by decide, by decide, by decide, rfl⟩ rfl w803 w804 w805 w109 w806 (show CL[8]? = some (RX10, TX10, 7) from rfl) hd (by decide) (Nat.le_of_ble_eq_true rfl) rfl ha hst call (callk_i k)
theorem tL_law_415 {k : Nat} (r : RQ G mL_law d 416 [x0, x1, some (.ref k), x3, x4, x5, x6, x7, x8] (.ref k :: S) (h) P) : RQ G mL_law d 415 [x0, x1, some (.ref k), x3, x4, x5, x6, x7, x8] (S) h P := q_aload_n (M := mL_law) (pc := 415) (r0 := some k) dL_law_415 rfl rfl r
theorem tL_law_416 {b d2 : Nat} {vs : List Value}  {Q : Int32 → AH → Prop} (hd : d2 + 1 ≤ d) (ha : At h b (.inr (10, vs))) (call : RQ G mX12_jars d2 0 [some (.ref b)] [] h (Ri Q)) (k : ∀ x h1, Q x h1 → RQ G mL_law d 419 [x0, x1, x2, x3, x4, x5, x6, x7, x8] (.int x :: S) h1 P) (hst : (S.map fun v => v.category).sum ≤ 8 := by exact Nat.le_of_ble_eq_true rfl)  : RQ G mL_law d 416 [x0, x1, x2, x3, x4, x5, x6, x7, x8] (.ref b :: S) h P := q_callV (M := mL_law) (pc := 416) (M2 := mX12_jars) (As := []) (n := 0) dL_law_416 rfl ⟨by decide, by decide, by decide, rfl⟩ rfl w1684 w1685 w1686 w120 w1687 (show CL[10]? = some (RX12, TX12, 25) from rfl) hd (by decide) (Nat.le_of_ble_eq_true rfl) rfl ha hst call (callk_i k)
theorem tL_law_419 {x y : Int32} (kt : x = y → RQ G mL_law d 2189 [x0, x1, x2, x3, x4, x5, x6, x7, x8] S h P) (kf : ¬ x = y → RQ G mL_law d 422 [x0, x1, x2, x3, x4, x5, x6, x7, x8] S h P) : RQ G mL_law d 419 [x0, x1, x2, x3, x4, x5, x6, x7, x8] (.int y :: .int x :: S) h P := q_icmp_eq (M := mL_law) (pc := 419) dL_law_419 (by decide) kt kf
theorem tL_law_422 (r : RQ G mL_law d 423 [x0, x1, x2, x3, x4, x5, x6, x7, x8] (.int (nI 0) :: S) (h) P) : RQ G mL_law d 422 [x0, x1, x2, x3, x4, x5, x6, x7, x8] (S) h P := q_iconst (M := mL_law) (pc := 422) dL_law_422 (by decide) r
theorem tL_law_423 {x : Int32} (hb : x = nI 0 ∨ x = nI 1) (hP : P (.inl (some (.int x))) h) : RQ G mL_law d 423 [x0, x1, x2, x3, x4, x5, x6, x7, x8] ([.int x]) h P := q_ireturn (M := mL_law) (pc := 423) (ty := .boolean) dL_law_423 rfl (nar_bool hb) hP
theorem tL_law_424 {k : Nat} (r : RQ G mL_law d 425 [x0, some (.ref k), x2, x3, x4, x5, x6, x7, x8] (.ref k :: S) (h) P) : RQ G mL_law d 424 [x0, some (.ref k), x2, x3, x4, x5, x6, x7, x8] (S) h P := q_aload_n (M := mL_law) (pc := 424) (r0 := some k) dL_law_424 rfl rfl r
theorem tL_law_425 {b d2 : Nat} {vs : List Value}  {Q : Int32 → AH → Prop} (hd : d2 + 1 ≤ d) (ha : At h b (.inr (8, vs))) (call : RQ G mX10_lids d2 0 [some (.ref b)] [] h (Ri Q)) (k : ∀ x h1, Q x h1 → RQ G mL_law d 428 [x0, x1, x2, x3, x4, x5, x6, x7, x8] (.int x :: S) h1 P) (hst : (S.map fun v => v.category).sum ≤ 8 := by exact Nat.le_of_ble_eq_true rfl)  : RQ G mL_law d 425 [x0, x1, x2, x3, x4, x5, x6, x7, x8] (.ref b :: S) h P := q_callV (M := mL_law) (pc := 425) (M2 := mX10_lids) (As := []) (n := 0) dL_law_425 rfl ⟨by decide, by decide, by decide, rfl⟩ rfl w807 w808 w809 w109 w810 (show CL[8]? = some (RX10, TX10, 7) from rfl) hd (by decide) (Nat.le_of_ble_eq_true rfl) rfl ha hst call (callk_i k)
theorem tL_law_428 {k : Nat} (r : RQ G mL_law d 429 [x0, x1, some (.ref k), x3, x4, x5, x6, x7, x8] (.ref k :: S) (h) P) : RQ G mL_law d 428 [x0, x1, some (.ref k), x3, x4, x5, x6, x7, x8] (S) h P := q_aload_n (M := mL_law) (pc := 428) (r0 := some k) dL_law_428 rfl rfl r
theorem tL_law_429 {b d2 : Nat} {vs : List Value}  {Q : Int32 → AH → Prop} (hd : d2 + 1 ≤ d) (ha : At h b (.inr (10, vs))) (call : RQ G mX12_lids d2 0 [some (.ref b)] [] h (Ri Q)) (k : ∀ x h1, Q x h1 → RQ G mL_law d 432 [x0, x1, x2, x3, x4, x5, x6, x7, x8] (.int x :: S) h1 P) (hst : (S.map fun v => v.category).sum ≤ 8 := by exact Nat.le_of_ble_eq_true rfl)  : RQ G mL_law d 429 [x0, x1, x2, x3, x4, x5, x6, x7, x8] (.ref b :: S) h P := q_callV (M := mL_law) (pc := 429) (M2 := mX12_lids) (As := []) (n := 0) dL_law_429 rfl ⟨by decide, by decide, by decide, rfl⟩ rfl w1688 w1689 w1690 w120 w1691 (show CL[10]? = some (RX12, TX12, 25) from rfl) hd (by decide) (Nat.le_of_ble_eq_true rfl) rfl ha hst call (callk_i k)
theorem tL_law_432 {x y : Int32} (kt : x = y → RQ G mL_law d 2189 [x0, x1, x2, x3, x4, x5, x6, x7, x8] S h P) (kf : ¬ x = y → RQ G mL_law d 435 [x0, x1, x2, x3, x4, x5, x6, x7, x8] S h P) : RQ G mL_law d 432 [x0, x1, x2, x3, x4, x5, x6, x7, x8] (.int y :: .int x :: S) h P := q_icmp_eq (M := mL_law) (pc := 432) dL_law_432 (by decide) kt kf
theorem tL_law_435 (r : RQ G mL_law d 436 [x0, x1, x2, x3, x4, x5, x6, x7, x8] (.int (nI 0) :: S) (h) P) : RQ G mL_law d 435 [x0, x1, x2, x3, x4, x5, x6, x7, x8] (S) h P := q_iconst (M := mL_law) (pc := 435) dL_law_435 (by decide) r
theorem tL_law_436 {x : Int32} (hb : x = nI 0 ∨ x = nI 1) (hP : P (.inl (some (.int x))) h) : RQ G mL_law d 436 [x0, x1, x2, x3, x4, x5, x6, x7, x8] ([.int x]) h P := q_ireturn (M := mL_law) (pc := 436) (ty := .boolean) dL_law_436 rfl (nar_bool hb) hP
theorem tL_law_437 {k : Nat} (r : RQ G mL_law d 438 [x0, some (.ref k), x2, x3, x4, x5, x6, x7, x8] (.ref k :: S) (h) P) : RQ G mL_law d 437 [x0, some (.ref k), x2, x3, x4, x5, x6, x7, x8] (S) h P := q_aload_n (M := mL_law) (pc := 437) (r0 := some k) dL_law_437 rfl rfl r
theorem tL_law_438 {b d2 : Nat} {vs : List Value}  {Q : Int32 → AH → Prop} (hd : d2 + 1 ≤ d) (ha : At h b (.inr (8, vs))) (call : RQ G mX10_days d2 0 [some (.ref b)] [] h (Ri Q)) (k : ∀ x h1, Q x h1 → RQ G mL_law d 441 [x0, x1, x2, x3, x4, x5, x6, x7, x8] (.int x :: S) h1 P) (hst : (S.map fun v => v.category).sum ≤ 8 := by exact Nat.le_of_ble_eq_true rfl)  : RQ G mL_law d 438 [x0, x1, x2, x3, x4, x5, x6, x7, x8] (.ref b :: S) h P := q_callV (M := mL_law) (pc := 438) (M2 := mX10_days) (As := []) (n := 0) dL_law_438 rfl ⟨by decide, by decide, by decide, rfl⟩ rfl w811 w812 w813 w109 w814 (show CL[8]? = some (RX10, TX10, 7) from rfl) hd (by decide) (Nat.le_of_ble_eq_true rfl) rfl ha hst call (callk_i k)
theorem tL_law_441 {k : Nat} (r : RQ G mL_law d 442 [x0, x1, some (.ref k), x3, x4, x5, x6, x7, x8] (.ref k :: S) (h) P) : RQ G mL_law d 441 [x0, x1, some (.ref k), x3, x4, x5, x6, x7, x8] (S) h P := q_aload_n (M := mL_law) (pc := 441) (r0 := some k) dL_law_441 rfl rfl r
theorem tL_law_442 {b d2 : Nat} {vs : List Value}  {Q : Int32 → AH → Prop} (hd : d2 + 1 ≤ d) (ha : At h b (.inr (10, vs))) (call : RQ G mX12_days d2 0 [some (.ref b)] [] h (Ri Q)) (k : ∀ x h1, Q x h1 → RQ G mL_law d 445 [x0, x1, x2, x3, x4, x5, x6, x7, x8] (.int x :: S) h1 P) (hst : (S.map fun v => v.category).sum ≤ 8 := by exact Nat.le_of_ble_eq_true rfl)  : RQ G mL_law d 442 [x0, x1, x2, x3, x4, x5, x6, x7, x8] (.ref b :: S) h P := q_callV (M := mL_law) (pc := 442) (M2 := mX12_days) (As := []) (n := 0) dL_law_442 rfl ⟨by decide, by decide, by decide, rfl⟩ rfl w1692 w1693 w1694 w120 w1695 (show CL[10]? = some (RX12, TX12, 25) from rfl) hd (by decide) (Nat.le_of_ble_eq_true rfl) rfl ha hst call (callk_i k)
theorem tL_law_445 {x y : Int32} (kt : x = y → RQ G mL_law d 2189 [x0, x1, x2, x3, x4, x5, x6, x7, x8] S h P) (kf : ¬ x = y → RQ G mL_law d 448 [x0, x1, x2, x3, x4, x5, x6, x7, x8] S h P) : RQ G mL_law d 445 [x0, x1, x2, x3, x4, x5, x6, x7, x8] (.int y :: .int x :: S) h P := q_icmp_eq (M := mL_law) (pc := 445) dL_law_445 (by decide) kt kf
theorem tL_law_448 (r : RQ G mL_law d 449 [x0, x1, x2, x3, x4, x5, x6, x7, x8] (.int (nI 0) :: S) (h) P) : RQ G mL_law d 448 [x0, x1, x2, x3, x4, x5, x6, x7, x8] (S) h P := q_iconst (M := mL_law) (pc := 448) dL_law_448 (by decide) r
theorem tL_law_449 {x : Int32} (hb : x = nI 0 ∨ x = nI 1) (hP : P (.inl (some (.int x))) h) : RQ G mL_law d 449 [x0, x1, x2, x3, x4, x5, x6, x7, x8] ([.int x]) h P := q_ireturn (M := mL_law) (pc := 449) (ty := .boolean) dL_law_449 rfl (nar_bool hb) hP
theorem tL_law_450 {k : Nat} (r : RQ G mL_law d 451 [x0, some (.ref k), x2, x3, x4, x5, x6, x7, x8] (.ref k :: S) (h) P) : RQ G mL_law d 450 [x0, some (.ref k), x2, x3, x4, x5, x6, x7, x8] (S) h P := q_aload_n (M := mL_law) (pc := 450) (r0 := some k) dL_law_450 rfl rfl r
theorem tL_law_451 {b d2 : Nat} {vs : List Value}  {Q : Int32 → AH → Prop} (hd : d2 + 1 ≤ d) (ha : At h b (.inr (8, vs))) (call : RQ G mX10_alliances d2 0 [some (.ref b), none, none] [] h (Ri Q)) (k : ∀ x h1, Q x h1 → RQ G mL_law d 454 [x0, x1, x2, x3, x4, x5, x6, x7, x8] (.int x :: S) h1 P) (hst : (S.map fun v => v.category).sum ≤ 8 := by exact Nat.le_of_ble_eq_true rfl)  : RQ G mL_law d 451 [x0, x1, x2, x3, x4, x5, x6, x7, x8] (.ref b :: S) h P := q_callV (M := mL_law) (pc := 451) (M2 := mX10_alliances) (As := []) (n := 0) dL_law_451 rfl ⟨by decide, by decide, by decide, rfl⟩ rfl w815 w816 w817 w109 w818 (show CL[8]? = some (RX10, TX10, 7) from rfl) hd (by decide) (Nat.le_of_ble_eq_true rfl) rfl ha hst call (callk_i k)
theorem tL_law_454 {k : Nat} (r : RQ G mL_law d 455 [x0, x1, some (.ref k), x3, x4, x5, x6, x7, x8] (.ref k :: S) (h) P) : RQ G mL_law d 454 [x0, x1, some (.ref k), x3, x4, x5, x6, x7, x8] (S) h P := q_aload_n (M := mL_law) (pc := 454) (r0 := some k) dL_law_454 rfl rfl r
theorem tL_law_455 {b d2 : Nat} {vs : List Value}  {Q : Int32 → AH → Prop} (hd : d2 + 1 ≤ d) (ha : At h b (.inr (10, vs))) (call : RQ G mX12_alliances d2 0 [some (.ref b)] [] h (Ri Q)) (k : ∀ x h1, Q x h1 → RQ G mL_law d 458 [x0, x1, x2, x3, x4, x5, x6, x7, x8] (.int x :: S) h1 P) (hst : (S.map fun v => v.category).sum ≤ 8 := by exact Nat.le_of_ble_eq_true rfl)  : RQ G mL_law d 455 [x0, x1, x2, x3, x4, x5, x6, x7, x8] (.ref b :: S) h P := q_callV (M := mL_law) (pc := 455) (M2 := mX12_alliances) (As := []) (n := 0) dL_law_455 rfl ⟨by decide, by decide, by decide, rfl⟩ rfl w1696 w1697 w1698 w120 w1699 (show CL[10]? = some (RX12, TX12, 25) from rfl) hd (by decide) (Nat.le_of_ble_eq_true rfl) rfl ha hst call (callk_i k)
theorem tL_law_458 {x y : Int32} (kt : x = y → RQ G mL_law d 2189 [x0, x1, x2, x3, x4, x5, x6, x7, x8] S h P) (kf : ¬ x = y → RQ G mL_law d 461 [x0, x1, x2, x3, x4, x5, x6, x7, x8] S h P) : RQ G mL_law d 458 [x0, x1, x2, x3, x4, x5, x6, x7, x8] (.int y :: .int x :: S) h P := q_icmp_eq (M := mL_law) (pc := 458) dL_law_458 (by decide) kt kf
theorem tL_law_461 (r : RQ G mL_law d 462 [x0, x1, x2, x3, x4, x5, x6, x7, x8] (.int (nI 0) :: S) (h) P) : RQ G mL_law d 461 [x0, x1, x2, x3, x4, x5, x6, x7, x8] (S) h P := q_iconst (M := mL_law) (pc := 461) dL_law_461 (by decide) r
theorem tL_law_462 {x : Int32} (hb : x = nI 0 ∨ x = nI 1) (hP : P (.inl (some (.int x))) h) : RQ G mL_law d 462 [x0, x1, x2, x3, x4, x5, x6, x7, x8] ([.int x]) h P := q_ireturn (M := mL_law) (pc := 462) (ty := .boolean) dL_law_462 rfl (nar_bool hb) hP
theorem tL_law_463 {k : Nat} (r : RQ G mL_law d 464 [x0, some (.ref k), x2, x3, x4, x5, x6, x7, x8] (.ref k :: S) (h) P) : RQ G mL_law d 463 [x0, some (.ref k), x2, x3, x4, x5, x6, x7, x8] (S) h P := q_aload_n (M := mL_law) (pc := 463) (r0 := some k) dL_law_463 rfl rfl r
theorem tL_law_464 {k : Nat} (r : RQ G mL_law d 465 [some (.ref k), x1, x2, x3, x4, x5, x6, x7, x8] (.ref k :: S) (h) P) : RQ G mL_law d 464 [some (.ref k), x1, x2, x3, x4, x5, x6, x7, x8] (S) h P := q_aload_n (M := mL_law) (pc := 464) (r0 := some k) dL_law_464 rfl rfl r
theorem tL_law_465 {v : Int32} (r : RQ G mL_law d 467 [x0, x1, x2, x3, some (.int v), x5, x6, x7, x8] (.int v :: S) (h) P) : RQ G mL_law d 465 [x0, x1, x2, x3, some (.int v), x5, x6, x7, x8] (S) h P := q_iload (M := mL_law) (pc := 465) dL_law_465 rfl r
theorem tL_law_467 (r : RQ G mL_law d 468 [x0, x1, x2, x3, x4, x5, x6, x7, x8] (.int (nI 1) :: S) (h) P) : RQ G mL_law d 467 [x0, x1, x2, x3, x4, x5, x6, x7, x8] (S) h P := q_iconst (M := mL_law) (pc := 467) dL_law_467 (by decide) r
theorem tL_law_468 {x y : Int32} (r : RQ G mL_law d 469 [x0, x1, x2, x3, x4, x5, x6, x7, x8] (.int (x + y) :: S) (h) P) : RQ G mL_law d 468 [x0, x1, x2, x3, x4, x5, x6, x7, x8] (.int y :: .int x :: S) h P := q_iadd (M := mL_law) (pc := 468) dL_law_468 r
theorem tL_law_469 {j : Nat} {x : Int32} (hx : x = nI j) (hj : j < gN G) (hn : gN G < 2147483648) (r : RQ G mL_law d 470 [x0, x1, x2, x3, x4, x5, x6, x7, x8] (.int (gX G j) :: S) (h) P) : RQ G mL_law d 469 [x0, x1, x2, x3, x4, x5, x6, x7, x8] (.int x :: .ref (OLD + 999) :: S) h P := q_sld (M := mL_law) (pc := 469) dL_law_469 hx hj hn r
theorem tL_law_470 {k : Nat} (r : RQ G mL_law d 471 [some (.ref k), x1, x2, x3, x4, x5, x6, x7, x8] (.ref k :: S) (h) P) : RQ G mL_law d 470 [some (.ref k), x1, x2, x3, x4, x5, x6, x7, x8] (S) h P := q_aload_n (M := mL_law) (pc := 470) (r0 := some k) dL_law_470 rfl rfl r
theorem tL_law_471 {v : Int32} (r : RQ G mL_law d 473 [x0, x1, x2, x3, some (.int v), x5, x6, x7, x8] (.int v :: S) (h) P) : RQ G mL_law d 471 [x0, x1, x2, x3, some (.int v), x5, x6, x7, x8] (S) h P := q_iload (M := mL_law) (pc := 471) dL_law_471 rfl r
theorem tL_law_473 (r : RQ G mL_law d 474 [x0, x1, x2, x3, x4, x5, x6, x7, x8] (.int (nI 2) :: S) (h) P) : RQ G mL_law d 473 [x0, x1, x2, x3, x4, x5, x6, x7, x8] (S) h P := q_iconst (M := mL_law) (pc := 473) dL_law_473 (by decide) r
theorem tL_law_474 {x y : Int32} (r : RQ G mL_law d 475 [x0, x1, x2, x3, x4, x5, x6, x7, x8] (.int (x + y) :: S) (h) P) : RQ G mL_law d 474 [x0, x1, x2, x3, x4, x5, x6, x7, x8] (.int y :: .int x :: S) h P := q_iadd (M := mL_law) (pc := 474) dL_law_474 r
theorem tL_law_475 {j : Nat} {x : Int32} (hx : x = nI j) (hj : j < gN G) (hn : gN G < 2147483648) (r : RQ G mL_law d 476 [x0, x1, x2, x3, x4, x5, x6, x7, x8] (.int (gX G j) :: S) (h) P) : RQ G mL_law d 475 [x0, x1, x2, x3, x4, x5, x6, x7, x8] (.int x :: .ref (OLD + 999) :: S) h P := q_sld (M := mL_law) (pc := 475) dL_law_475 hx hj hn r
theorem tL_law_476 {k : Nat} (r : RQ G mL_law d 477 [x0, x1, x2, some (.ref k), x4, x5, x6, x7, x8] (.ref k :: S) (h) P) : RQ G mL_law d 476 [x0, x1, x2, some (.ref k), x4, x5, x6, x7, x8] (S) h P := q_aload_n (M := mL_law) (pc := 476) (r0 := some k) dL_law_476 rfl rfl r
theorem tL_law_477 {d2 : Nat} {a0 : Nat} {a1 : Int32} {a2 : Int32} {a3 : Nat} {Q : Int32 → AH → Prop} (hd : d2 + 1 ≤ d) (call : RQ G mL_beansIn d2 0 [some (.ref a0), some (.int a1), some (.int a2), some (.ref a3), none] [] h (Ri Q)) (k : ∀ x h1, Q x h1 → RQ G mL_law d 480 [x0, x1, x2, x3, x4, x5, x6, x7, x8] (.int x :: S) h1 P) (hst : (S.map fun v => v.category).sum ≤ 8 := by exact Nat.le_of_ble_eq_true rfl)  : RQ G mL_law d 477 [x0, x1, x2, x3, x4, x5, x6, x7, x8] (.ref a3 :: .int a2 :: .int a1 :: .ref a0 :: S) h P := q_callSW (M := mL_law) (pc := 477) (M2 := mL_beansIn) (As := [.ref a0, .int a1, .int a2, .ref a3]) (n := 4) dL_law_477 ⟨by decide, by decide, by decide, rfl⟩ w1156 w1157 w108 w1158 hd (by decide) (Nat.le_of_ble_eq_true rfl) rfl hst call (callk_i k)
theorem tL_law_480 {v : Int32} (ho : ok1 x4 = true := by rfl) (r : RQ G mL_law d 482 [x0, x1, x2, x3, x4, some (.int v), x6, x7, x8] (S) (h) P) : RQ G mL_law d 480 [x0, x1, x2, x3, x4, x5, x6, x7, x8] (.int v :: S) h P := q_istore (M := mL_law) (pc := 480) dL_law_480 (Nat.le_of_ble_eq_true rfl) ho r
theorem tL_law_482 {k : Nat} (r : RQ G mL_law d 483 [x0, x1, some (.ref k), x3, x4, x5, x6, x7, x8] (.ref k :: S) (h) P) : RQ G mL_law d 482 [x0, x1, some (.ref k), x3, x4, x5, x6, x7, x8] (S) h P := q_aload_n (M := mL_law) (pc := 482) (r0 := some k) dL_law_482 rfl rfl r
theorem tL_law_483 {k : Nat} (r : RQ G mL_law d 484 [some (.ref k), x1, x2, x3, x4, x5, x6, x7, x8] (.ref k :: S) (h) P) : RQ G mL_law d 483 [some (.ref k), x1, x2, x3, x4, x5, x6, x7, x8] (S) h P := q_aload_n (M := mL_law) (pc := 483) (r0 := some k) dL_law_483 rfl rfl r
theorem tL_law_484 {v : Int32} (r : RQ G mL_law d 486 [x0, x1, x2, x3, some (.int v), x5, x6, x7, x8] (.int v :: S) (h) P) : RQ G mL_law d 484 [x0, x1, x2, x3, some (.int v), x5, x6, x7, x8] (S) h P := q_iload (M := mL_law) (pc := 484) dL_law_484 rfl r
theorem tL_law_486 (r : RQ G mL_law d 487 [x0, x1, x2, x3, x4, x5, x6, x7, x8] (.int (nI 1) :: S) (h) P) : RQ G mL_law d 486 [x0, x1, x2, x3, x4, x5, x6, x7, x8] (S) h P := q_iconst (M := mL_law) (pc := 486) dL_law_486 (by decide) r
theorem tL_law_487 {x y : Int32} (r : RQ G mL_law d 488 [x0, x1, x2, x3, x4, x5, x6, x7, x8] (.int (x + y) :: S) (h) P) : RQ G mL_law d 487 [x0, x1, x2, x3, x4, x5, x6, x7, x8] (.int y :: .int x :: S) h P := q_iadd (M := mL_law) (pc := 487) dL_law_487 r
theorem tL_law_488 {j : Nat} {x : Int32} (hx : x = nI j) (hj : j < gN G) (hn : gN G < 2147483648) (r : RQ G mL_law d 489 [x0, x1, x2, x3, x4, x5, x6, x7, x8] (.int (gX G j) :: S) (h) P) : RQ G mL_law d 488 [x0, x1, x2, x3, x4, x5, x6, x7, x8] (.int x :: .ref (OLD + 999) :: S) h P := q_sld (M := mL_law) (pc := 488) dL_law_488 hx hj hn r
theorem tL_law_489 {k : Nat} (r : RQ G mL_law d 490 [some (.ref k), x1, x2, x3, x4, x5, x6, x7, x8] (.ref k :: S) (h) P) : RQ G mL_law d 489 [some (.ref k), x1, x2, x3, x4, x5, x6, x7, x8] (S) h P := q_aload_n (M := mL_law) (pc := 489) (r0 := some k) dL_law_489 rfl rfl r
theorem tL_law_490 {v : Int32} (r : RQ G mL_law d 492 [x0, x1, x2, x3, some (.int v), x5, x6, x7, x8] (.int v :: S) (h) P) : RQ G mL_law d 490 [x0, x1, x2, x3, some (.int v), x5, x6, x7, x8] (S) h P := q_iload (M := mL_law) (pc := 490) dL_law_490 rfl r
theorem tL_law_492 (r : RQ G mL_law d 493 [x0, x1, x2, x3, x4, x5, x6, x7, x8] (.int (nI 2) :: S) (h) P) : RQ G mL_law d 492 [x0, x1, x2, x3, x4, x5, x6, x7, x8] (S) h P := q_iconst (M := mL_law) (pc := 492) dL_law_492 (by decide) r
theorem tL_law_493 {x y : Int32} (r : RQ G mL_law d 494 [x0, x1, x2, x3, x4, x5, x6, x7, x8] (.int (x + y) :: S) (h) P) : RQ G mL_law d 493 [x0, x1, x2, x3, x4, x5, x6, x7, x8] (.int y :: .int x :: S) h P := q_iadd (M := mL_law) (pc := 493) dL_law_493 r
theorem tL_law_494 {j : Nat} {x : Int32} (hx : x = nI j) (hj : j < gN G) (hn : gN G < 2147483648) (r : RQ G mL_law d 495 [x0, x1, x2, x3, x4, x5, x6, x7, x8] (.int (gX G j) :: S) (h) P) : RQ G mL_law d 494 [x0, x1, x2, x3, x4, x5, x6, x7, x8] (.int x :: .ref (OLD + 999) :: S) h P := q_sld (M := mL_law) (pc := 494) dL_law_494 hx hj hn r
theorem tL_law_495 {b d2 : Nat} {vs : List Value} {a0 : Int32} {a1 : Int32} {Q : Int32 → AH → Prop} (hd : d2 + 1 ≤ d) (ha : At h b (.inr (10, vs))) (call : RQ G mX12_beansIn d2 0 [some (.ref b), some (.int a0), some (.int a1)] [] h (Ri Q)) (k : ∀ x h1, Q x h1 → RQ G mL_law d 498 [x0, x1, x2, x3, x4, x5, x6, x7, x8] (.int x :: S) h1 P) (hst : (S.map fun v => v.category).sum ≤ 8 := by exact Nat.le_of_ble_eq_true rfl)  : RQ G mL_law d 495 [x0, x1, x2, x3, x4, x5, x6, x7, x8] (.int a1 :: .int a0 :: .ref b :: S) h P := q_callV (M := mL_law) (pc := 495) (M2 := mX12_beansIn) (As := [.int a0, .int a1]) (n := 2) dL_law_495 rfl ⟨by decide, by decide, by decide, rfl⟩ rfl w1704 w1705 w1706 w120 w1707 (show CL[10]? = some (RX12, TX12, 25) from rfl) hd (by decide) (Nat.le_of_ble_eq_true rfl) rfl ha hst call (callk_i k)
theorem tL_law_498 {v : Int32} (ho : ok1 x5 = true := by rfl) (r : RQ G mL_law d 500 [x0, x1, x2, x3, x4, x5, some (.int v), x7, x8] (S) (h) P) : RQ G mL_law d 498 [x0, x1, x2, x3, x4, x5, x6, x7, x8] (.int v :: S) h P := q_istore (M := mL_law) (pc := 498) dL_law_498 (Nat.le_of_ble_eq_true rfl) ho r
theorem tL_law_500 {k : Nat} (r : RQ G mL_law d 501 [x0, x1, some (.ref k), x3, x4, x5, x6, x7, x8] (.ref k :: S) (h) P) : RQ G mL_law d 500 [x0, x1, some (.ref k), x3, x4, x5, x6, x7, x8] (S) h P := q_aload_n (M := mL_law) (pc := 500) (r0 := some k) dL_law_500 rfl rfl r
theorem tL_law_501 {b d2 : Nat} {vs : List Value}  {Q : Int32 → AH → Prop} (hd : d2 + 1 ≤ d) (ha : At h b (.inr (10, vs))) (call : RQ G mX12_thrown d2 0 [some (.ref b)] [] h (Ri Q)) (k : ∀ x h1, Q x h1 → RQ G mL_law d 504 [x0, x1, x2, x3, x4, x5, x6, x7, x8] (.int x :: S) h1 P) (hst : (S.map fun v => v.category).sum ≤ 8 := by exact Nat.le_of_ble_eq_true rfl)  : RQ G mL_law d 501 [x0, x1, x2, x3, x4, x5, x6, x7, x8] (.ref b :: S) h P := q_callV (M := mL_law) (pc := 501) (M2 := mX12_thrown) (As := []) (n := 0) dL_law_501 rfl ⟨by decide, by decide, by decide, rfl⟩ rfl w1499 w1500 w1501 w120 w1502 (show CL[10]? = some (RX12, TX12, 25) from rfl) hd (by decide) (Nat.le_of_ble_eq_true rfl) rfl ha hst call (callk_i k)
theorem tL_law_504 {v : Int32} (r : RQ G mL_law d 506 [x0, x1, x2, x3, x4, some (.int v), x6, x7, x8] (.int v :: S) (h) P) : RQ G mL_law d 504 [x0, x1, x2, x3, x4, some (.int v), x6, x7, x8] (S) h P := q_iload (M := mL_law) (pc := 504) dL_law_504 rfl r
theorem tL_law_506 {x y : Int32} (kt : x = y → RQ G mL_law d 511 [x0, x1, x2, x3, x4, x5, x6, x7, x8] S h P) (kf : ¬ x = y → RQ G mL_law d 509 [x0, x1, x2, x3, x4, x5, x6, x7, x8] S h P) : RQ G mL_law d 506 [x0, x1, x2, x3, x4, x5, x6, x7, x8] (.int y :: .int x :: S) h P := q_icmp_eq (M := mL_law) (pc := 506) dL_law_506 (by decide) kt kf
theorem tL_law_509 (r : RQ G mL_law d 510 [x0, x1, x2, x3, x4, x5, x6, x7, x8] (.int (nI 0) :: S) (h) P) : RQ G mL_law d 509 [x0, x1, x2, x3, x4, x5, x6, x7, x8] (S) h P := q_iconst (M := mL_law) (pc := 509) dL_law_509 (by decide) r
theorem tL_law_510 {x : Int32} (hb : x = nI 0 ∨ x = nI 1) (hP : P (.inl (some (.int x))) h) : RQ G mL_law d 510 [x0, x1, x2, x3, x4, x5, x6, x7, x8] ([.int x]) h P := q_ireturn (M := mL_law) (pc := 510) (ty := .boolean) dL_law_510 rfl (nar_bool hb) hP
theorem tL_law_511 {v : Int32} (r : RQ G mL_law d 513 [x0, x1, x2, x3, x4, some (.int v), x6, x7, x8] (.int v :: S) (h) P) : RQ G mL_law d 511 [x0, x1, x2, x3, x4, some (.int v), x6, x7, x8] (S) h P := q_iload (M := mL_law) (pc := 511) dL_law_511 rfl r
theorem tL_law_513 {x : Int32} (kt : ¬ x = 0 → RQ G mL_law d 528 [x0, x1, x2, x3, x4, x5, x6, x7, x8] S h P) (kf : x = 0 → RQ G mL_law d 516 [x0, x1, x2, x3, x4, x5, x6, x7, x8] S h P) : RQ G mL_law d 513 [x0, x1, x2, x3, x4, x5, x6, x7, x8] (.int x :: S) h P := q_if_ne (M := mL_law) (pc := 513) dL_law_513 (by decide) kt kf
theorem tL_law_516 {k : Nat} (r : RQ G mL_law d 517 [x0, x1, x2, some (.ref k), x4, x5, x6, x7, x8] (.ref k :: S) (h) P) : RQ G mL_law d 516 [x0, x1, x2, some (.ref k), x4, x5, x6, x7, x8] (S) h P := q_aload_n (M := mL_law) (pc := 516) (r0 := some k) dL_law_516 rfl rfl r
theorem tL_law_517 (r : RQ G mL_law d 518 [x0, x1, x2, x3, x4, x5, x6, x7, x8] (.int (nI 0) :: S) (h) P) : RQ G mL_law d 517 [x0, x1, x2, x3, x4, x5, x6, x7, x8] (S) h P := q_iconst (M := mL_law) (pc := 517) dL_law_517 (by decide) r
theorem tL_law_518 {a n j : Nat} {x : Int32} {f : Nat → Int64} (ha : At h a (.inl (2, n, .inr (.inl f)))) (hx : x = nI j) (hj : j < n) (hn : n < 2147483648) (r : RQ G mL_law d 519 [x0, x1, x2, x3, x4, x5, x6, x7, x8] (.long (f j) :: S) (h) P) : RQ G mL_law d 518 [x0, x1, x2, x3, x4, x5, x6, x7, x8] (.int x :: .ref a :: S) h P := q_lald (M := mL_law) (pc := 518) dL_law_518 ha hx hj hn r
theorem tL_law_519 {v : Int32} (r : RQ G mL_law d 521 [x0, x1, x2, x3, x4, x5, some (.int v), x7, x8] (.int v :: S) (h) P) : RQ G mL_law d 519 [x0, x1, x2, x3, x4, x5, some (.int v), x7, x8] (S) h P := q_iload (M := mL_law) (pc := 519) dL_law_519 rfl r
theorem tL_law_521 {x : Int32} (r : RQ G mL_law d 522 [x0, x1, x2, x3, x4, x5, x6, x7, x8] (.long x.toInt64 :: S) (h) P) : RQ G mL_law d 521 [x0, x1, x2, x3, x4, x5, x6, x7, x8] (.int x :: S) h P := q_i2l (M := mL_law) (pc := 521) dL_law_521 r
theorem tL_law_522 {x y : Int64} (r : RQ G mL_law d 523 [x0, x1, x2, x3, x4, x5, x6, x7, x8] (.int (lg_cmp x y) :: S) (h) P) : RQ G mL_law d 522 [x0, x1, x2, x3, x4, x5, x6, x7, x8] (.long y :: .long x :: S) h P := q_lcmp (M := mL_law) (pc := 522) dL_law_522 r
theorem tL_law_523 {x : Int32} (kt : x = 0 → RQ G mL_law d 528 [x0, x1, x2, x3, x4, x5, x6, x7, x8] S h P) (kf : ¬ x = 0 → RQ G mL_law d 526 [x0, x1, x2, x3, x4, x5, x6, x7, x8] S h P) : RQ G mL_law d 523 [x0, x1, x2, x3, x4, x5, x6, x7, x8] (.int x :: S) h P := q_if_eq (M := mL_law) (pc := 523) dL_law_523 (by decide) kt kf
theorem tL_law_526 (r : RQ G mL_law d 527 [x0, x1, x2, x3, x4, x5, x6, x7, x8] (.int (nI 0) :: S) (h) P) : RQ G mL_law d 526 [x0, x1, x2, x3, x4, x5, x6, x7, x8] (S) h P := q_iconst (M := mL_law) (pc := 526) dL_law_526 (by decide) r
theorem tL_law_527 {x : Int32} (hb : x = nI 0 ∨ x = nI 1) (hP : P (.inl (some (.int x))) h) : RQ G mL_law d 527 [x0, x1, x2, x3, x4, x5, x6, x7, x8] ([.int x]) h P := q_ireturn (M := mL_law) (pc := 527) (ty := .boolean) dL_law_527 rfl (nar_bool hb) hP
theorem tL_law_528 (r : RQ G mL_law d 2189 [x0, x1, x2, x3, x4, x5, x6, x7, x8] S h P) : RQ G mL_law d 528 [x0, x1, x2, x3, x4, x5, x6, x7, x8] (S) h P := q_goto (M := mL_law) (pc := 528) dL_law_528 (by decide) r
theorem tL_law_531 {k : Nat} (r : RQ G mL_law d 532 [x0, some (.ref k), x2, x3, x4, x5, x6, x7, x8] (.ref k :: S) (h) P) : RQ G mL_law d 531 [x0, some (.ref k), x2, x3, x4, x5, x6, x7, x8] (S) h P := q_aload_n (M := mL_law) (pc := 531) (r0 := some k) dL_law_531 rfl rfl r
theorem tL_law_532 {k : Nat} (r : RQ G mL_law d 533 [some (.ref k), x1, x2, x3, x4, x5, x6, x7, x8] (.ref k :: S) (h) P) : RQ G mL_law d 532 [some (.ref k), x1, x2, x3, x4, x5, x6, x7, x8] (S) h P := q_aload_n (M := mL_law) (pc := 532) (r0 := some k) dL_law_532 rfl rfl r
theorem tL_law_533 {v : Int32} (r : RQ G mL_law d 535 [x0, x1, x2, x3, some (.int v), x5, x6, x7, x8] (.int v :: S) (h) P) : RQ G mL_law d 533 [x0, x1, x2, x3, some (.int v), x5, x6, x7, x8] (S) h P := q_iload (M := mL_law) (pc := 533) dL_law_533 rfl r
theorem tL_law_535 (r : RQ G mL_law d 536 [x0, x1, x2, x3, x4, x5, x6, x7, x8] (.int (nI 1) :: S) (h) P) : RQ G mL_law d 535 [x0, x1, x2, x3, x4, x5, x6, x7, x8] (S) h P := q_iconst (M := mL_law) (pc := 535) dL_law_535 (by decide) r
theorem tL_law_536 {x y : Int32} (r : RQ G mL_law d 537 [x0, x1, x2, x3, x4, x5, x6, x7, x8] (.int (x + y) :: S) (h) P) : RQ G mL_law d 536 [x0, x1, x2, x3, x4, x5, x6, x7, x8] (.int y :: .int x :: S) h P := q_iadd (M := mL_law) (pc := 536) dL_law_536 r
theorem tL_law_537 {j : Nat} {x : Int32} (hx : x = nI j) (hj : j < gN G) (hn : gN G < 2147483648) (r : RQ G mL_law d 538 [x0, x1, x2, x3, x4, x5, x6, x7, x8] (.int (gX G j) :: S) (h) P) : RQ G mL_law d 537 [x0, x1, x2, x3, x4, x5, x6, x7, x8] (.int x :: .ref (OLD + 999) :: S) h P := q_sld (M := mL_law) (pc := 537) dL_law_537 hx hj hn r
theorem tL_law_538 {k : Nat} (r : RQ G mL_law d 539 [x0, x1, x2, some (.ref k), x4, x5, x6, x7, x8] (.ref k :: S) (h) P) : RQ G mL_law d 538 [x0, x1, x2, some (.ref k), x4, x5, x6, x7, x8] (S) h P := q_aload_n (M := mL_law) (pc := 538) (r0 := some k) dL_law_538 rfl rfl r
theorem tL_law_539 {d2 : Nat} {a0 : Nat} {a1 : Int32} {a2 : Nat} {Q : Int32 → AH → Prop} (hd : d2 + 1 ≤ d) (call : RQ G mL_beansOf d2 0 [some (.ref a0), some (.int a1), some (.ref a2), none] [] h (Ri Q)) (k : ∀ x h1, Q x h1 → RQ G mL_law d 542 [x0, x1, x2, x3, x4, x5, x6, x7, x8] (.int x :: S) h1 P) (hst : (S.map fun v => v.category).sum ≤ 8 := by exact Nat.le_of_ble_eq_true rfl)  : RQ G mL_law d 539 [x0, x1, x2, x3, x4, x5, x6, x7, x8] (.ref a2 :: .int a1 :: .ref a0 :: S) h P := q_callSW (M := mL_law) (pc := 539) (M2 := mL_beansOf) (As := [.ref a0, .int a1, .ref a2]) (n := 3) dL_law_539 ⟨by decide, by decide, by decide, rfl⟩ w1161 w1162 w108 w1163 hd (by decide) (Nat.le_of_ble_eq_true rfl) rfl hst call (callk_i k)
theorem tL_law_542 {v : Int32} (ho : ok1 x4 = true := by rfl) (r : RQ G mL_law d 544 [x0, x1, x2, x3, x4, some (.int v), x6, x7, x8] (S) (h) P) : RQ G mL_law d 542 [x0, x1, x2, x3, x4, x5, x6, x7, x8] (.int v :: S) h P := q_istore (M := mL_law) (pc := 542) dL_law_542 (Nat.le_of_ble_eq_true rfl) ho r
theorem tL_law_544 {k : Nat} (r : RQ G mL_law d 545 [x0, x1, some (.ref k), x3, x4, x5, x6, x7, x8] (.ref k :: S) (h) P) : RQ G mL_law d 544 [x0, x1, some (.ref k), x3, x4, x5, x6, x7, x8] (S) h P := q_aload_n (M := mL_law) (pc := 544) (r0 := some k) dL_law_544 rfl rfl r
theorem tL_law_545 {k : Nat} (r : RQ G mL_law d 546 [some (.ref k), x1, x2, x3, x4, x5, x6, x7, x8] (.ref k :: S) (h) P) : RQ G mL_law d 545 [some (.ref k), x1, x2, x3, x4, x5, x6, x7, x8] (S) h P := q_aload_n (M := mL_law) (pc := 545) (r0 := some k) dL_law_545 rfl rfl r
theorem tL_law_546 {v : Int32} (r : RQ G mL_law d 548 [x0, x1, x2, x3, some (.int v), x5, x6, x7, x8] (.int v :: S) (h) P) : RQ G mL_law d 546 [x0, x1, x2, x3, some (.int v), x5, x6, x7, x8] (S) h P := q_iload (M := mL_law) (pc := 546) dL_law_546 rfl r
theorem tL_law_548 (r : RQ G mL_law d 549 [x0, x1, x2, x3, x4, x5, x6, x7, x8] (.int (nI 1) :: S) (h) P) : RQ G mL_law d 548 [x0, x1, x2, x3, x4, x5, x6, x7, x8] (S) h P := q_iconst (M := mL_law) (pc := 548) dL_law_548 (by decide) r
theorem tL_law_549 {x y : Int32} (r : RQ G mL_law d 550 [x0, x1, x2, x3, x4, x5, x6, x7, x8] (.int (x + y) :: S) (h) P) : RQ G mL_law d 549 [x0, x1, x2, x3, x4, x5, x6, x7, x8] (.int y :: .int x :: S) h P := q_iadd (M := mL_law) (pc := 549) dL_law_549 r
theorem tL_law_550 {j : Nat} {x : Int32} (hx : x = nI j) (hj : j < gN G) (hn : gN G < 2147483648) (r : RQ G mL_law d 551 [x0, x1, x2, x3, x4, x5, x6, x7, x8] (.int (gX G j) :: S) (h) P) : RQ G mL_law d 550 [x0, x1, x2, x3, x4, x5, x6, x7, x8] (.int x :: .ref (OLD + 999) :: S) h P := q_sld (M := mL_law) (pc := 550) dL_law_550 hx hj hn r
theorem tL_law_551 {b d2 : Nat} {vs : List Value} {a0 : Int32} {Q : Int32 → AH → Prop} (hd : d2 + 1 ≤ d) (ha : At h b (.inr (10, vs))) (call : RQ G mX12_beansOf d2 0 [some (.ref b), some (.int a0)] [] h (Ri Q)) (k : ∀ x h1, Q x h1 → RQ G mL_law d 554 [x0, x1, x2, x3, x4, x5, x6, x7, x8] (.int x :: S) h1 P) (hst : (S.map fun v => v.category).sum ≤ 8 := by exact Nat.le_of_ble_eq_true rfl)  : RQ G mL_law d 551 [x0, x1, x2, x3, x4, x5, x6, x7, x8] (.int a0 :: .ref b :: S) h P := q_callV (M := mL_law) (pc := 551) (M2 := mX12_beansOf) (As := [.int a0]) (n := 1) dL_law_551 rfl ⟨by decide, by decide, by decide, rfl⟩ rfl w1720 w1721 w1722 w120 w1723 (show CL[10]? = some (RX12, TX12, 25) from rfl) hd (by decide) (Nat.le_of_ble_eq_true rfl) rfl ha hst call (callk_i k)
theorem tL_law_554 {v : Int32} (ho : ok1 x5 = true := by rfl) (r : RQ G mL_law d 556 [x0, x1, x2, x3, x4, x5, some (.int v), x7, x8] (S) (h) P) : RQ G mL_law d 554 [x0, x1, x2, x3, x4, x5, x6, x7, x8] (.int v :: S) h P := q_istore (M := mL_law) (pc := 554) dL_law_554 (Nat.le_of_ble_eq_true rfl) ho r
theorem tL_law_556 {k : Nat} (r : RQ G mL_law d 557 [x0, x1, some (.ref k), x3, x4, x5, x6, x7, x8] (.ref k :: S) (h) P) : RQ G mL_law d 556 [x0, x1, some (.ref k), x3, x4, x5, x6, x7, x8] (S) h P := q_aload_n (M := mL_law) (pc := 556) (r0 := some k) dL_law_556 rfl rfl r
theorem tL_law_557 {b d2 : Nat} {vs : List Value}  {Q : Int32 → AH → Prop} (hd : d2 + 1 ≤ d) (ha : At h b (.inr (10, vs))) (call : RQ G mX12_thrown d2 0 [some (.ref b)] [] h (Ri Q)) (k : ∀ x h1, Q x h1 → RQ G mL_law d 560 [x0, x1, x2, x3, x4, x5, x6, x7, x8] (.int x :: S) h1 P) (hst : (S.map fun v => v.category).sum ≤ 8 := by exact Nat.le_of_ble_eq_true rfl)  : RQ G mL_law d 557 [x0, x1, x2, x3, x4, x5, x6, x7, x8] (.ref b :: S) h P := q_callV (M := mL_law) (pc := 557) (M2 := mX12_thrown) (As := []) (n := 0) dL_law_557 rfl ⟨by decide, by decide, by decide, rfl⟩ rfl w1499 w1500 w1501 w120 w1502 (show CL[10]? = some (RX12, TX12, 25) from rfl) hd (by decide) (Nat.le_of_ble_eq_true rfl) rfl ha hst call (callk_i k)
theorem tL_law_560 {v : Int32} (r : RQ G mL_law d 562 [x0, x1, x2, x3, x4, some (.int v), x6, x7, x8] (.int v :: S) (h) P) : RQ G mL_law d 560 [x0, x1, x2, x3, x4, some (.int v), x6, x7, x8] (S) h P := q_iload (M := mL_law) (pc := 560) dL_law_560 rfl r
theorem tL_law_562 {x y : Int32} (kt : x = y → RQ G mL_law d 567 [x0, x1, x2, x3, x4, x5, x6, x7, x8] S h P) (kf : ¬ x = y → RQ G mL_law d 565 [x0, x1, x2, x3, x4, x5, x6, x7, x8] S h P) : RQ G mL_law d 562 [x0, x1, x2, x3, x4, x5, x6, x7, x8] (.int y :: .int x :: S) h P := q_icmp_eq (M := mL_law) (pc := 562) dL_law_562 (by decide) kt kf
theorem tL_law_565 (r : RQ G mL_law d 566 [x0, x1, x2, x3, x4, x5, x6, x7, x8] (.int (nI 0) :: S) (h) P) : RQ G mL_law d 565 [x0, x1, x2, x3, x4, x5, x6, x7, x8] (S) h P := q_iconst (M := mL_law) (pc := 565) dL_law_565 (by decide) r
theorem tL_law_566 {x : Int32} (hb : x = nI 0 ∨ x = nI 1) (hP : P (.inl (some (.int x))) h) : RQ G mL_law d 566 [x0, x1, x2, x3, x4, x5, x6, x7, x8] ([.int x]) h P := q_ireturn (M := mL_law) (pc := 566) (ty := .boolean) dL_law_566 rfl (nar_bool hb) hP
theorem tL_law_567 {v : Int32} (r : RQ G mL_law d 569 [x0, x1, x2, x3, x4, some (.int v), x6, x7, x8] (.int v :: S) (h) P) : RQ G mL_law d 567 [x0, x1, x2, x3, x4, some (.int v), x6, x7, x8] (S) h P := q_iload (M := mL_law) (pc := 567) dL_law_567 rfl r
theorem tL_law_569 {x : Int32} (kt : ¬ x = 0 → RQ G mL_law d 584 [x0, x1, x2, x3, x4, x5, x6, x7, x8] S h P) (kf : x = 0 → RQ G mL_law d 572 [x0, x1, x2, x3, x4, x5, x6, x7, x8] S h P) : RQ G mL_law d 569 [x0, x1, x2, x3, x4, x5, x6, x7, x8] (.int x :: S) h P := q_if_ne (M := mL_law) (pc := 569) dL_law_569 (by decide) kt kf
theorem tL_law_572 {k : Nat} (r : RQ G mL_law d 573 [x0, x1, x2, some (.ref k), x4, x5, x6, x7, x8] (.ref k :: S) (h) P) : RQ G mL_law d 572 [x0, x1, x2, some (.ref k), x4, x5, x6, x7, x8] (S) h P := q_aload_n (M := mL_law) (pc := 572) (r0 := some k) dL_law_572 rfl rfl r
theorem tL_law_573 (r : RQ G mL_law d 574 [x0, x1, x2, x3, x4, x5, x6, x7, x8] (.int (nI 0) :: S) (h) P) : RQ G mL_law d 573 [x0, x1, x2, x3, x4, x5, x6, x7, x8] (S) h P := q_iconst (M := mL_law) (pc := 573) dL_law_573 (by decide) r
theorem tL_law_574 {a n j : Nat} {x : Int32} {f : Nat → Int64} (ha : At h a (.inl (2, n, .inr (.inl f)))) (hx : x = nI j) (hj : j < n) (hn : n < 2147483648) (r : RQ G mL_law d 575 [x0, x1, x2, x3, x4, x5, x6, x7, x8] (.long (f j) :: S) (h) P) : RQ G mL_law d 574 [x0, x1, x2, x3, x4, x5, x6, x7, x8] (.int x :: .ref a :: S) h P := q_lald (M := mL_law) (pc := 574) dL_law_574 ha hx hj hn r
theorem tL_law_575 {v : Int32} (r : RQ G mL_law d 577 [x0, x1, x2, x3, x4, x5, some (.int v), x7, x8] (.int v :: S) (h) P) : RQ G mL_law d 575 [x0, x1, x2, x3, x4, x5, some (.int v), x7, x8] (S) h P := q_iload (M := mL_law) (pc := 575) dL_law_575 rfl r
theorem tL_law_577 {x : Int32} (r : RQ G mL_law d 578 [x0, x1, x2, x3, x4, x5, x6, x7, x8] (.long x.toInt64 :: S) (h) P) : RQ G mL_law d 577 [x0, x1, x2, x3, x4, x5, x6, x7, x8] (.int x :: S) h P := q_i2l (M := mL_law) (pc := 577) dL_law_577 r
theorem tL_law_578 {x y : Int64} (r : RQ G mL_law d 579 [x0, x1, x2, x3, x4, x5, x6, x7, x8] (.int (lg_cmp x y) :: S) (h) P) : RQ G mL_law d 578 [x0, x1, x2, x3, x4, x5, x6, x7, x8] (.long y :: .long x :: S) h P := q_lcmp (M := mL_law) (pc := 578) dL_law_578 r
theorem tL_law_579 {x : Int32} (kt : x = 0 → RQ G mL_law d 584 [x0, x1, x2, x3, x4, x5, x6, x7, x8] S h P) (kf : ¬ x = 0 → RQ G mL_law d 582 [x0, x1, x2, x3, x4, x5, x6, x7, x8] S h P) : RQ G mL_law d 579 [x0, x1, x2, x3, x4, x5, x6, x7, x8] (.int x :: S) h P := q_if_eq (M := mL_law) (pc := 579) dL_law_579 (by decide) kt kf
theorem tL_law_582 (r : RQ G mL_law d 583 [x0, x1, x2, x3, x4, x5, x6, x7, x8] (.int (nI 0) :: S) (h) P) : RQ G mL_law d 582 [x0, x1, x2, x3, x4, x5, x6, x7, x8] (S) h P := q_iconst (M := mL_law) (pc := 582) dL_law_582 (by decide) r
theorem tL_law_583 {x : Int32} (hb : x = nI 0 ∨ x = nI 1) (hP : P (.inl (some (.int x))) h) : RQ G mL_law d 583 [x0, x1, x2, x3, x4, x5, x6, x7, x8] ([.int x]) h P := q_ireturn (M := mL_law) (pc := 583) (ty := .boolean) dL_law_583 rfl (nar_bool hb) hP
theorem tL_law_584 (r : RQ G mL_law d 2189 [x0, x1, x2, x3, x4, x5, x6, x7, x8] S h P) : RQ G mL_law d 584 [x0, x1, x2, x3, x4, x5, x6, x7, x8] (S) h P := q_goto (M := mL_law) (pc := 584) dL_law_584 (by decide) r
theorem tL_law_587 {k : Nat} (r : RQ G mL_law d 588 [x0, some (.ref k), x2, x3, x4, x5, x6, x7, x8] (.ref k :: S) (h) P) : RQ G mL_law d 587 [x0, some (.ref k), x2, x3, x4, x5, x6, x7, x8] (S) h P := q_aload_n (M := mL_law) (pc := 587) (r0 := some k) dL_law_587 rfl rfl r
theorem tL_law_588 {k : Nat} (r : RQ G mL_law d 589 [some (.ref k), x1, x2, x3, x4, x5, x6, x7, x8] (.ref k :: S) (h) P) : RQ G mL_law d 588 [some (.ref k), x1, x2, x3, x4, x5, x6, x7, x8] (S) h P := q_aload_n (M := mL_law) (pc := 588) (r0 := some k) dL_law_588 rfl rfl r
theorem tL_law_589 {v : Int32} (r : RQ G mL_law d 591 [x0, x1, x2, x3, some (.int v), x5, x6, x7, x8] (.int v :: S) (h) P) : RQ G mL_law d 589 [x0, x1, x2, x3, some (.int v), x5, x6, x7, x8] (S) h P := q_iload (M := mL_law) (pc := 589) dL_law_589 rfl r
theorem tL_law_591 (r : RQ G mL_law d 592 [x0, x1, x2, x3, x4, x5, x6, x7, x8] (.int (nI 1) :: S) (h) P) : RQ G mL_law d 591 [x0, x1, x2, x3, x4, x5, x6, x7, x8] (S) h P := q_iconst (M := mL_law) (pc := 591) dL_law_591 (by decide) r
theorem tL_law_592 {x y : Int32} (r : RQ G mL_law d 593 [x0, x1, x2, x3, x4, x5, x6, x7, x8] (.int (x + y) :: S) (h) P) : RQ G mL_law d 592 [x0, x1, x2, x3, x4, x5, x6, x7, x8] (.int y :: .int x :: S) h P := q_iadd (M := mL_law) (pc := 592) dL_law_592 r
theorem tL_law_593 {j : Nat} {x : Int32} (hx : x = nI j) (hj : j < gN G) (hn : gN G < 2147483648) (r : RQ G mL_law d 594 [x0, x1, x2, x3, x4, x5, x6, x7, x8] (.int (gX G j) :: S) (h) P) : RQ G mL_law d 593 [x0, x1, x2, x3, x4, x5, x6, x7, x8] (.int x :: .ref (OLD + 999) :: S) h P := q_sld (M := mL_law) (pc := 593) dL_law_593 hx hj hn r
theorem tL_law_594 {k : Nat} (r : RQ G mL_law d 595 [x0, x1, x2, some (.ref k), x4, x5, x6, x7, x8] (.ref k :: S) (h) P) : RQ G mL_law d 594 [x0, x1, x2, some (.ref k), x4, x5, x6, x7, x8] (S) h P := q_aload_n (M := mL_law) (pc := 594) (r0 := some k) dL_law_594 rfl rfl r
theorem tL_law_595 {d2 : Nat} {a0 : Nat} {a1 : Int32} {a2 : Nat} {Q : Int32 → AH → Prop} (hd : d2 + 1 ≤ d) (call : RQ G mL_turnout d2 0 [some (.ref a0), some (.int a1), some (.ref a2), none] [] h (Ri Q)) (k : ∀ x h1, Q x h1 → RQ G mL_law d 598 [x0, x1, x2, x3, x4, x5, x6, x7, x8] (.int x :: S) h1 P) (hst : (S.map fun v => v.category).sum ≤ 8 := by exact Nat.le_of_ble_eq_true rfl)  : RQ G mL_law d 595 [x0, x1, x2, x3, x4, x5, x6, x7, x8] (.ref a2 :: .int a1 :: .ref a0 :: S) h P := q_callSW (M := mL_law) (pc := 595) (M2 := mL_turnout) (As := [.ref a0, .int a1, .ref a2]) (n := 3) dL_law_595 ⟨by decide, by decide, by decide, rfl⟩ w1165 w1166 w108 w1167 hd (by decide) (Nat.le_of_ble_eq_true rfl) rfl hst call (callk_i k)
theorem tL_law_598 {v : Int32} (ho : ok1 x4 = true := by rfl) (r : RQ G mL_law d 600 [x0, x1, x2, x3, x4, some (.int v), x6, x7, x8] (S) (h) P) : RQ G mL_law d 598 [x0, x1, x2, x3, x4, x5, x6, x7, x8] (.int v :: S) h P := q_istore (M := mL_law) (pc := 598) dL_law_598 (Nat.le_of_ble_eq_true rfl) ho r
theorem tL_law_600 {k : Nat} (r : RQ G mL_law d 601 [x0, x1, some (.ref k), x3, x4, x5, x6, x7, x8] (.ref k :: S) (h) P) : RQ G mL_law d 600 [x0, x1, some (.ref k), x3, x4, x5, x6, x7, x8] (S) h P := q_aload_n (M := mL_law) (pc := 600) (r0 := some k) dL_law_600 rfl rfl r
theorem tL_law_601 {k : Nat} (r : RQ G mL_law d 602 [some (.ref k), x1, x2, x3, x4, x5, x6, x7, x8] (.ref k :: S) (h) P) : RQ G mL_law d 601 [some (.ref k), x1, x2, x3, x4, x5, x6, x7, x8] (S) h P := q_aload_n (M := mL_law) (pc := 601) (r0 := some k) dL_law_601 rfl rfl r
theorem tL_law_602 {v : Int32} (r : RQ G mL_law d 604 [x0, x1, x2, x3, some (.int v), x5, x6, x7, x8] (.int v :: S) (h) P) : RQ G mL_law d 602 [x0, x1, x2, x3, some (.int v), x5, x6, x7, x8] (S) h P := q_iload (M := mL_law) (pc := 602) dL_law_602 rfl r
theorem tL_law_604 (r : RQ G mL_law d 605 [x0, x1, x2, x3, x4, x5, x6, x7, x8] (.int (nI 1) :: S) (h) P) : RQ G mL_law d 604 [x0, x1, x2, x3, x4, x5, x6, x7, x8] (S) h P := q_iconst (M := mL_law) (pc := 604) dL_law_604 (by decide) r
theorem tL_law_605 {x y : Int32} (r : RQ G mL_law d 606 [x0, x1, x2, x3, x4, x5, x6, x7, x8] (.int (x + y) :: S) (h) P) : RQ G mL_law d 605 [x0, x1, x2, x3, x4, x5, x6, x7, x8] (.int y :: .int x :: S) h P := q_iadd (M := mL_law) (pc := 605) dL_law_605 r
theorem tL_law_606 {j : Nat} {x : Int32} (hx : x = nI j) (hj : j < gN G) (hn : gN G < 2147483648) (r : RQ G mL_law d 607 [x0, x1, x2, x3, x4, x5, x6, x7, x8] (.int (gX G j) :: S) (h) P) : RQ G mL_law d 606 [x0, x1, x2, x3, x4, x5, x6, x7, x8] (.int x :: .ref (OLD + 999) :: S) h P := q_sld (M := mL_law) (pc := 606) dL_law_606 hx hj hn r
theorem tL_law_607 {b d2 : Nat} {vs : List Value} {a0 : Int32} {Q : Int32 → AH → Prop} (hd : d2 + 1 ≤ d) (ha : At h b (.inr (10, vs))) (call : RQ G mX12_turnout d2 0 [some (.ref b), some (.int a0)] [] h (Ri Q)) (k : ∀ x h1, Q x h1 → RQ G mL_law d 610 [x0, x1, x2, x3, x4, x5, x6, x7, x8] (.int x :: S) h1 P) (hst : (S.map fun v => v.category).sum ≤ 8 := by exact Nat.le_of_ble_eq_true rfl)  : RQ G mL_law d 607 [x0, x1, x2, x3, x4, x5, x6, x7, x8] (.int a0 :: .ref b :: S) h P := q_callV (M := mL_law) (pc := 607) (M2 := mX12_turnout) (As := [.int a0]) (n := 1) dL_law_607 rfl ⟨by decide, by decide, by decide, rfl⟩ rfl w1728 w1729 w1730 w120 w1731 (show CL[10]? = some (RX12, TX12, 25) from rfl) hd (by decide) (Nat.le_of_ble_eq_true rfl) rfl ha hst call (callk_i k)
theorem tL_law_610 {v : Int32} (ho : ok1 x5 = true := by rfl) (r : RQ G mL_law d 612 [x0, x1, x2, x3, x4, x5, some (.int v), x7, x8] (S) (h) P) : RQ G mL_law d 610 [x0, x1, x2, x3, x4, x5, x6, x7, x8] (.int v :: S) h P := q_istore (M := mL_law) (pc := 610) dL_law_610 (Nat.le_of_ble_eq_true rfl) ho r
theorem tL_law_612 {k : Nat} (r : RQ G mL_law d 613 [x0, x1, some (.ref k), x3, x4, x5, x6, x7, x8] (.ref k :: S) (h) P) : RQ G mL_law d 612 [x0, x1, some (.ref k), x3, x4, x5, x6, x7, x8] (S) h P := q_aload_n (M := mL_law) (pc := 612) (r0 := some k) dL_law_612 rfl rfl r
theorem tL_law_613 {b d2 : Nat} {vs : List Value}  {Q : Int32 → AH → Prop} (hd : d2 + 1 ≤ d) (ha : At h b (.inr (10, vs))) (call : RQ G mX12_thrown d2 0 [some (.ref b)] [] h (Ri Q)) (k : ∀ x h1, Q x h1 → RQ G mL_law d 616 [x0, x1, x2, x3, x4, x5, x6, x7, x8] (.int x :: S) h1 P) (hst : (S.map fun v => v.category).sum ≤ 8 := by exact Nat.le_of_ble_eq_true rfl)  : RQ G mL_law d 613 [x0, x1, x2, x3, x4, x5, x6, x7, x8] (.ref b :: S) h P := q_callV (M := mL_law) (pc := 613) (M2 := mX12_thrown) (As := []) (n := 0) dL_law_613 rfl ⟨by decide, by decide, by decide, rfl⟩ rfl w1499 w1500 w1501 w120 w1502 (show CL[10]? = some (RX12, TX12, 25) from rfl) hd (by decide) (Nat.le_of_ble_eq_true rfl) rfl ha hst call (callk_i k)
theorem tL_law_616 {v : Int32} (r : RQ G mL_law d 618 [x0, x1, x2, x3, x4, some (.int v), x6, x7, x8] (.int v :: S) (h) P) : RQ G mL_law d 616 [x0, x1, x2, x3, x4, some (.int v), x6, x7, x8] (S) h P := q_iload (M := mL_law) (pc := 616) dL_law_616 rfl r
theorem tL_law_618 {x y : Int32} (kt : x = y → RQ G mL_law d 623 [x0, x1, x2, x3, x4, x5, x6, x7, x8] S h P) (kf : ¬ x = y → RQ G mL_law d 621 [x0, x1, x2, x3, x4, x5, x6, x7, x8] S h P) : RQ G mL_law d 618 [x0, x1, x2, x3, x4, x5, x6, x7, x8] (.int y :: .int x :: S) h P := q_icmp_eq (M := mL_law) (pc := 618) dL_law_618 (by decide) kt kf
theorem tL_law_621 (r : RQ G mL_law d 622 [x0, x1, x2, x3, x4, x5, x6, x7, x8] (.int (nI 0) :: S) (h) P) : RQ G mL_law d 621 [x0, x1, x2, x3, x4, x5, x6, x7, x8] (S) h P := q_iconst (M := mL_law) (pc := 621) dL_law_621 (by decide) r
theorem tL_law_622 {x : Int32} (hb : x = nI 0 ∨ x = nI 1) (hP : P (.inl (some (.int x))) h) : RQ G mL_law d 622 [x0, x1, x2, x3, x4, x5, x6, x7, x8] ([.int x]) h P := q_ireturn (M := mL_law) (pc := 622) (ty := .boolean) dL_law_622 rfl (nar_bool hb) hP
theorem tL_law_623 {v : Int32} (r : RQ G mL_law d 625 [x0, x1, x2, x3, x4, some (.int v), x6, x7, x8] (.int v :: S) (h) P) : RQ G mL_law d 623 [x0, x1, x2, x3, x4, some (.int v), x6, x7, x8] (S) h P := q_iload (M := mL_law) (pc := 623) dL_law_623 rfl r
theorem tL_law_625 {x : Int32} (kt : ¬ x = 0 → RQ G mL_law d 640 [x0, x1, x2, x3, x4, x5, x6, x7, x8] S h P) (kf : x = 0 → RQ G mL_law d 628 [x0, x1, x2, x3, x4, x5, x6, x7, x8] S h P) : RQ G mL_law d 625 [x0, x1, x2, x3, x4, x5, x6, x7, x8] (.int x :: S) h P := q_if_ne (M := mL_law) (pc := 625) dL_law_625 (by decide) kt kf
theorem tL_law_628 {k : Nat} (r : RQ G mL_law d 629 [x0, x1, x2, some (.ref k), x4, x5, x6, x7, x8] (.ref k :: S) (h) P) : RQ G mL_law d 628 [x0, x1, x2, some (.ref k), x4, x5, x6, x7, x8] (S) h P := q_aload_n (M := mL_law) (pc := 628) (r0 := some k) dL_law_628 rfl rfl r
theorem tL_law_629 (r : RQ G mL_law d 630 [x0, x1, x2, x3, x4, x5, x6, x7, x8] (.int (nI 0) :: S) (h) P) : RQ G mL_law d 629 [x0, x1, x2, x3, x4, x5, x6, x7, x8] (S) h P := q_iconst (M := mL_law) (pc := 629) dL_law_629 (by decide) r
theorem tL_law_630 {a n j : Nat} {x : Int32} {f : Nat → Int64} (ha : At h a (.inl (2, n, .inr (.inl f)))) (hx : x = nI j) (hj : j < n) (hn : n < 2147483648) (r : RQ G mL_law d 631 [x0, x1, x2, x3, x4, x5, x6, x7, x8] (.long (f j) :: S) (h) P) : RQ G mL_law d 630 [x0, x1, x2, x3, x4, x5, x6, x7, x8] (.int x :: .ref a :: S) h P := q_lald (M := mL_law) (pc := 630) dL_law_630 ha hx hj hn r
theorem tL_law_631 {v : Int32} (r : RQ G mL_law d 633 [x0, x1, x2, x3, x4, x5, some (.int v), x7, x8] (.int v :: S) (h) P) : RQ G mL_law d 631 [x0, x1, x2, x3, x4, x5, some (.int v), x7, x8] (S) h P := q_iload (M := mL_law) (pc := 631) dL_law_631 rfl r
theorem tL_law_633 {x : Int32} (r : RQ G mL_law d 634 [x0, x1, x2, x3, x4, x5, x6, x7, x8] (.long x.toInt64 :: S) (h) P) : RQ G mL_law d 633 [x0, x1, x2, x3, x4, x5, x6, x7, x8] (.int x :: S) h P := q_i2l (M := mL_law) (pc := 633) dL_law_633 r
theorem tL_law_634 {x y : Int64} (r : RQ G mL_law d 635 [x0, x1, x2, x3, x4, x5, x6, x7, x8] (.int (lg_cmp x y) :: S) (h) P) : RQ G mL_law d 634 [x0, x1, x2, x3, x4, x5, x6, x7, x8] (.long y :: .long x :: S) h P := q_lcmp (M := mL_law) (pc := 634) dL_law_634 r
theorem tL_law_635 {x : Int32} (kt : x = 0 → RQ G mL_law d 640 [x0, x1, x2, x3, x4, x5, x6, x7, x8] S h P) (kf : ¬ x = 0 → RQ G mL_law d 638 [x0, x1, x2, x3, x4, x5, x6, x7, x8] S h P) : RQ G mL_law d 635 [x0, x1, x2, x3, x4, x5, x6, x7, x8] (.int x :: S) h P := q_if_eq (M := mL_law) (pc := 635) dL_law_635 (by decide) kt kf
theorem tL_law_638 (r : RQ G mL_law d 639 [x0, x1, x2, x3, x4, x5, x6, x7, x8] (.int (nI 0) :: S) (h) P) : RQ G mL_law d 638 [x0, x1, x2, x3, x4, x5, x6, x7, x8] (S) h P := q_iconst (M := mL_law) (pc := 638) dL_law_638 (by decide) r
theorem tL_law_639 {x : Int32} (hb : x = nI 0 ∨ x = nI 1) (hP : P (.inl (some (.int x))) h) : RQ G mL_law d 639 [x0, x1, x2, x3, x4, x5, x6, x7, x8] ([.int x]) h P := q_ireturn (M := mL_law) (pc := 639) (ty := .boolean) dL_law_639 rfl (nar_bool hb) hP
theorem tL_law_640 (r : RQ G mL_law d 2189 [x0, x1, x2, x3, x4, x5, x6, x7, x8] S h P) : RQ G mL_law d 640 [x0, x1, x2, x3, x4, x5, x6, x7, x8] (S) h P := q_goto (M := mL_law) (pc := 640) dL_law_640 (by decide) r
theorem tL_law_643 {k : Nat} (r : RQ G mL_law d 644 [x0, some (.ref k), x2, x3, x4, x5, x6, x7, x8] (.ref k :: S) (h) P) : RQ G mL_law d 643 [x0, some (.ref k), x2, x3, x4, x5, x6, x7, x8] (S) h P := q_aload_n (M := mL_law) (pc := 643) (r0 := some k) dL_law_643 rfl rfl r
theorem tL_law_644 {k : Nat} (r : RQ G mL_law d 645 [some (.ref k), x1, x2, x3, x4, x5, x6, x7, x8] (.ref k :: S) (h) P) : RQ G mL_law d 644 [some (.ref k), x1, x2, x3, x4, x5, x6, x7, x8] (S) h P := q_aload_n (M := mL_law) (pc := 644) (r0 := some k) dL_law_644 rfl rfl r
theorem tL_law_645 {v : Int32} (r : RQ G mL_law d 647 [x0, x1, x2, x3, some (.int v), x5, x6, x7, x8] (.int v :: S) (h) P) : RQ G mL_law d 645 [x0, x1, x2, x3, some (.int v), x5, x6, x7, x8] (S) h P := q_iload (M := mL_law) (pc := 645) dL_law_645 rfl r
theorem tL_law_647 (r : RQ G mL_law d 648 [x0, x1, x2, x3, x4, x5, x6, x7, x8] (.int (nI 1) :: S) (h) P) : RQ G mL_law d 647 [x0, x1, x2, x3, x4, x5, x6, x7, x8] (S) h P := q_iconst (M := mL_law) (pc := 647) dL_law_647 (by decide) r
theorem tL_law_648 {x y : Int32} (r : RQ G mL_law d 649 [x0, x1, x2, x3, x4, x5, x6, x7, x8] (.int (x + y) :: S) (h) P) : RQ G mL_law d 648 [x0, x1, x2, x3, x4, x5, x6, x7, x8] (.int y :: .int x :: S) h P := q_iadd (M := mL_law) (pc := 648) dL_law_648 r
theorem tL_law_649 {j : Nat} {x : Int32} (hx : x = nI j) (hj : j < gN G) (hn : gN G < 2147483648) (r : RQ G mL_law d 650 [x0, x1, x2, x3, x4, x5, x6, x7, x8] (.int (gX G j) :: S) (h) P) : RQ G mL_law d 649 [x0, x1, x2, x3, x4, x5, x6, x7, x8] (.int x :: .ref (OLD + 999) :: S) h P := q_sld (M := mL_law) (pc := 649) dL_law_649 hx hj hn r
theorem tL_law_650 {k : Nat} (r : RQ G mL_law d 651 [x0, x1, x2, some (.ref k), x4, x5, x6, x7, x8] (.ref k :: S) (h) P) : RQ G mL_law d 650 [x0, x1, x2, some (.ref k), x4, x5, x6, x7, x8] (S) h P := q_aload_n (M := mL_law) (pc := 650) (r0 := some k) dL_law_650 rfl rfl r
theorem tL_law_651 {d2 : Nat} {a0 : Nat} {a1 : Int32} {a2 : Nat} {Q : Int32 → AH → Prop} (hd : d2 + 1 ≤ d) (call : RQ G mL_seatsOf d2 0 [some (.ref a0), some (.int a1), some (.ref a2), none] [] h (Ri Q)) (k : ∀ x h1, Q x h1 → RQ G mL_law d 654 [x0, x1, x2, x3, x4, x5, x6, x7, x8] (.int x :: S) h1 P) (hst : (S.map fun v => v.category).sum ≤ 8 := by exact Nat.le_of_ble_eq_true rfl)  : RQ G mL_law d 651 [x0, x1, x2, x3, x4, x5, x6, x7, x8] (.ref a2 :: .int a1 :: .ref a0 :: S) h P := q_callSW (M := mL_law) (pc := 651) (M2 := mL_seatsOf) (As := [.ref a0, .int a1, .ref a2]) (n := 3) dL_law_651 ⟨by decide, by decide, by decide, rfl⟩ w1169 w1170 w108 w1171 hd (by decide) (Nat.le_of_ble_eq_true rfl) rfl hst call (callk_i k)
theorem tL_law_654 {v : Int32} (ho : ok1 x4 = true := by rfl) (r : RQ G mL_law d 656 [x0, x1, x2, x3, x4, some (.int v), x6, x7, x8] (S) (h) P) : RQ G mL_law d 654 [x0, x1, x2, x3, x4, x5, x6, x7, x8] (.int v :: S) h P := q_istore (M := mL_law) (pc := 654) dL_law_654 (Nat.le_of_ble_eq_true rfl) ho r
theorem tL_law_656 {k : Nat} (r : RQ G mL_law d 657 [x0, x1, some (.ref k), x3, x4, x5, x6, x7, x8] (.ref k :: S) (h) P) : RQ G mL_law d 656 [x0, x1, some (.ref k), x3, x4, x5, x6, x7, x8] (S) h P := q_aload_n (M := mL_law) (pc := 656) (r0 := some k) dL_law_656 rfl rfl r
theorem tL_law_657 {k : Nat} (r : RQ G mL_law d 658 [some (.ref k), x1, x2, x3, x4, x5, x6, x7, x8] (.ref k :: S) (h) P) : RQ G mL_law d 657 [some (.ref k), x1, x2, x3, x4, x5, x6, x7, x8] (S) h P := q_aload_n (M := mL_law) (pc := 657) (r0 := some k) dL_law_657 rfl rfl r
theorem tL_law_658 {v : Int32} (r : RQ G mL_law d 660 [x0, x1, x2, x3, some (.int v), x5, x6, x7, x8] (.int v :: S) (h) P) : RQ G mL_law d 658 [x0, x1, x2, x3, some (.int v), x5, x6, x7, x8] (S) h P := q_iload (M := mL_law) (pc := 658) dL_law_658 rfl r
theorem tL_law_660 (r : RQ G mL_law d 661 [x0, x1, x2, x3, x4, x5, x6, x7, x8] (.int (nI 1) :: S) (h) P) : RQ G mL_law d 660 [x0, x1, x2, x3, x4, x5, x6, x7, x8] (S) h P := q_iconst (M := mL_law) (pc := 660) dL_law_660 (by decide) r
theorem tL_law_661 {x y : Int32} (r : RQ G mL_law d 662 [x0, x1, x2, x3, x4, x5, x6, x7, x8] (.int (x + y) :: S) (h) P) : RQ G mL_law d 661 [x0, x1, x2, x3, x4, x5, x6, x7, x8] (.int y :: .int x :: S) h P := q_iadd (M := mL_law) (pc := 661) dL_law_661 r
theorem tL_law_662 {j : Nat} {x : Int32} (hx : x = nI j) (hj : j < gN G) (hn : gN G < 2147483648) (r : RQ G mL_law d 663 [x0, x1, x2, x3, x4, x5, x6, x7, x8] (.int (gX G j) :: S) (h) P) : RQ G mL_law d 662 [x0, x1, x2, x3, x4, x5, x6, x7, x8] (.int x :: .ref (OLD + 999) :: S) h P := q_sld (M := mL_law) (pc := 662) dL_law_662 hx hj hn r
theorem tL_law_663 {b d2 : Nat} {vs : List Value} {a0 : Int32} {Q : Int32 → AH → Prop} (hd : d2 + 1 ≤ d) (ha : At h b (.inr (10, vs))) (call : RQ G mX12_seatsOf d2 0 [some (.ref b), some (.int a0)] [] h (Ri Q)) (k : ∀ x h1, Q x h1 → RQ G mL_law d 666 [x0, x1, x2, x3, x4, x5, x6, x7, x8] (.int x :: S) h1 P) (hst : (S.map fun v => v.category).sum ≤ 8 := by exact Nat.le_of_ble_eq_true rfl)  : RQ G mL_law d 663 [x0, x1, x2, x3, x4, x5, x6, x7, x8] (.int a0 :: .ref b :: S) h P := q_callV (M := mL_law) (pc := 663) (M2 := mX12_seatsOf) (As := [.int a0]) (n := 1) dL_law_663 rfl ⟨by decide, by decide, by decide, rfl⟩ rfl w1736 w1737 w1738 w120 w1739 (show CL[10]? = some (RX12, TX12, 25) from rfl) hd (by decide) (Nat.le_of_ble_eq_true rfl) rfl ha hst call (callk_i k)
theorem tL_law_666 {v : Int32} (ho : ok1 x5 = true := by rfl) (r : RQ G mL_law d 668 [x0, x1, x2, x3, x4, x5, some (.int v), x7, x8] (S) (h) P) : RQ G mL_law d 666 [x0, x1, x2, x3, x4, x5, x6, x7, x8] (.int v :: S) h P := q_istore (M := mL_law) (pc := 666) dL_law_666 (Nat.le_of_ble_eq_true rfl) ho r
theorem tL_law_668 {k : Nat} (r : RQ G mL_law d 669 [x0, x1, some (.ref k), x3, x4, x5, x6, x7, x8] (.ref k :: S) (h) P) : RQ G mL_law d 668 [x0, x1, some (.ref k), x3, x4, x5, x6, x7, x8] (S) h P := q_aload_n (M := mL_law) (pc := 668) (r0 := some k) dL_law_668 rfl rfl r
theorem tL_law_669 {b d2 : Nat} {vs : List Value}  {Q : Int32 → AH → Prop} (hd : d2 + 1 ≤ d) (ha : At h b (.inr (10, vs))) (call : RQ G mX12_thrown d2 0 [some (.ref b)] [] h (Ri Q)) (k : ∀ x h1, Q x h1 → RQ G mL_law d 672 [x0, x1, x2, x3, x4, x5, x6, x7, x8] (.int x :: S) h1 P) (hst : (S.map fun v => v.category).sum ≤ 8 := by exact Nat.le_of_ble_eq_true rfl)  : RQ G mL_law d 669 [x0, x1, x2, x3, x4, x5, x6, x7, x8] (.ref b :: S) h P := q_callV (M := mL_law) (pc := 669) (M2 := mX12_thrown) (As := []) (n := 0) dL_law_669 rfl ⟨by decide, by decide, by decide, rfl⟩ rfl w1499 w1500 w1501 w120 w1502 (show CL[10]? = some (RX12, TX12, 25) from rfl) hd (by decide) (Nat.le_of_ble_eq_true rfl) rfl ha hst call (callk_i k)
theorem tL_law_672 {v : Int32} (r : RQ G mL_law d 674 [x0, x1, x2, x3, x4, some (.int v), x6, x7, x8] (.int v :: S) (h) P) : RQ G mL_law d 672 [x0, x1, x2, x3, x4, some (.int v), x6, x7, x8] (S) h P := q_iload (M := mL_law) (pc := 672) dL_law_672 rfl r
theorem tL_law_674 {x y : Int32} (kt : x = y → RQ G mL_law d 679 [x0, x1, x2, x3, x4, x5, x6, x7, x8] S h P) (kf : ¬ x = y → RQ G mL_law d 677 [x0, x1, x2, x3, x4, x5, x6, x7, x8] S h P) : RQ G mL_law d 674 [x0, x1, x2, x3, x4, x5, x6, x7, x8] (.int y :: .int x :: S) h P := q_icmp_eq (M := mL_law) (pc := 674) dL_law_674 (by decide) kt kf
theorem tL_law_677 (r : RQ G mL_law d 678 [x0, x1, x2, x3, x4, x5, x6, x7, x8] (.int (nI 0) :: S) (h) P) : RQ G mL_law d 677 [x0, x1, x2, x3, x4, x5, x6, x7, x8] (S) h P := q_iconst (M := mL_law) (pc := 677) dL_law_677 (by decide) r
theorem tL_law_678 {x : Int32} (hb : x = nI 0 ∨ x = nI 1) (hP : P (.inl (some (.int x))) h) : RQ G mL_law d 678 [x0, x1, x2, x3, x4, x5, x6, x7, x8] ([.int x]) h P := q_ireturn (M := mL_law) (pc := 678) (ty := .boolean) dL_law_678 rfl (nar_bool hb) hP
theorem tL_law_679 {v : Int32} (r : RQ G mL_law d 681 [x0, x1, x2, x3, x4, some (.int v), x6, x7, x8] (.int v :: S) (h) P) : RQ G mL_law d 679 [x0, x1, x2, x3, x4, some (.int v), x6, x7, x8] (S) h P := q_iload (M := mL_law) (pc := 679) dL_law_679 rfl r
theorem tL_law_681 {x : Int32} (kt : ¬ x = 0 → RQ G mL_law d 696 [x0, x1, x2, x3, x4, x5, x6, x7, x8] S h P) (kf : x = 0 → RQ G mL_law d 684 [x0, x1, x2, x3, x4, x5, x6, x7, x8] S h P) : RQ G mL_law d 681 [x0, x1, x2, x3, x4, x5, x6, x7, x8] (.int x :: S) h P := q_if_ne (M := mL_law) (pc := 681) dL_law_681 (by decide) kt kf
theorem tL_law_684 {k : Nat} (r : RQ G mL_law d 685 [x0, x1, x2, some (.ref k), x4, x5, x6, x7, x8] (.ref k :: S) (h) P) : RQ G mL_law d 684 [x0, x1, x2, some (.ref k), x4, x5, x6, x7, x8] (S) h P := q_aload_n (M := mL_law) (pc := 684) (r0 := some k) dL_law_684 rfl rfl r
theorem tL_law_685 (r : RQ G mL_law d 686 [x0, x1, x2, x3, x4, x5, x6, x7, x8] (.int (nI 0) :: S) (h) P) : RQ G mL_law d 685 [x0, x1, x2, x3, x4, x5, x6, x7, x8] (S) h P := q_iconst (M := mL_law) (pc := 685) dL_law_685 (by decide) r
theorem tL_law_686 {a n j : Nat} {x : Int32} {f : Nat → Int64} (ha : At h a (.inl (2, n, .inr (.inl f)))) (hx : x = nI j) (hj : j < n) (hn : n < 2147483648) (r : RQ G mL_law d 687 [x0, x1, x2, x3, x4, x5, x6, x7, x8] (.long (f j) :: S) (h) P) : RQ G mL_law d 686 [x0, x1, x2, x3, x4, x5, x6, x7, x8] (.int x :: .ref a :: S) h P := q_lald (M := mL_law) (pc := 686) dL_law_686 ha hx hj hn r
theorem tL_law_687 {v : Int32} (r : RQ G mL_law d 689 [x0, x1, x2, x3, x4, x5, some (.int v), x7, x8] (.int v :: S) (h) P) : RQ G mL_law d 687 [x0, x1, x2, x3, x4, x5, some (.int v), x7, x8] (S) h P := q_iload (M := mL_law) (pc := 687) dL_law_687 rfl r
theorem tL_law_689 {x : Int32} (r : RQ G mL_law d 690 [x0, x1, x2, x3, x4, x5, x6, x7, x8] (.long x.toInt64 :: S) (h) P) : RQ G mL_law d 689 [x0, x1, x2, x3, x4, x5, x6, x7, x8] (.int x :: S) h P := q_i2l (M := mL_law) (pc := 689) dL_law_689 r
theorem tL_law_690 {x y : Int64} (r : RQ G mL_law d 691 [x0, x1, x2, x3, x4, x5, x6, x7, x8] (.int (lg_cmp x y) :: S) (h) P) : RQ G mL_law d 690 [x0, x1, x2, x3, x4, x5, x6, x7, x8] (.long y :: .long x :: S) h P := q_lcmp (M := mL_law) (pc := 690) dL_law_690 r
theorem tL_law_691 {x : Int32} (kt : x = 0 → RQ G mL_law d 696 [x0, x1, x2, x3, x4, x5, x6, x7, x8] S h P) (kf : ¬ x = 0 → RQ G mL_law d 694 [x0, x1, x2, x3, x4, x5, x6, x7, x8] S h P) : RQ G mL_law d 691 [x0, x1, x2, x3, x4, x5, x6, x7, x8] (.int x :: S) h P := q_if_eq (M := mL_law) (pc := 691) dL_law_691 (by decide) kt kf
theorem tL_law_694 (r : RQ G mL_law d 695 [x0, x1, x2, x3, x4, x5, x6, x7, x8] (.int (nI 0) :: S) (h) P) : RQ G mL_law d 694 [x0, x1, x2, x3, x4, x5, x6, x7, x8] (S) h P := q_iconst (M := mL_law) (pc := 694) dL_law_694 (by decide) r
theorem tL_law_695 {x : Int32} (hb : x = nI 0 ∨ x = nI 1) (hP : P (.inl (some (.int x))) h) : RQ G mL_law d 695 [x0, x1, x2, x3, x4, x5, x6, x7, x8] ([.int x]) h P := q_ireturn (M := mL_law) (pc := 695) (ty := .boolean) dL_law_695 rfl (nar_bool hb) hP
theorem tL_law_696 (r : RQ G mL_law d 2189 [x0, x1, x2, x3, x4, x5, x6, x7, x8] S h P) : RQ G mL_law d 696 [x0, x1, x2, x3, x4, x5, x6, x7, x8] (S) h P := q_goto (M := mL_law) (pc := 696) dL_law_696 (by decide) r
theorem tL_law_699 {k : Nat} (r : RQ G mL_law d 700 [x0, some (.ref k), x2, x3, x4, x5, x6, x7, x8] (.ref k :: S) (h) P) : RQ G mL_law d 699 [x0, some (.ref k), x2, x3, x4, x5, x6, x7, x8] (S) h P := q_aload_n (M := mL_law) (pc := 699) (r0 := some k) dL_law_699 rfl rfl r
theorem tL_law_700 {k : Nat} (r : RQ G mL_law d 701 [some (.ref k), x1, x2, x3, x4, x5, x6, x7, x8] (.ref k :: S) (h) P) : RQ G mL_law d 700 [some (.ref k), x1, x2, x3, x4, x5, x6, x7, x8] (S) h P := q_aload_n (M := mL_law) (pc := 700) (r0 := some k) dL_law_700 rfl rfl r
theorem tL_law_701 {v : Int32} (r : RQ G mL_law d 703 [x0, x1, x2, x3, some (.int v), x5, x6, x7, x8] (.int v :: S) (h) P) : RQ G mL_law d 701 [x0, x1, x2, x3, some (.int v), x5, x6, x7, x8] (S) h P := q_iload (M := mL_law) (pc := 701) dL_law_701 rfl r
theorem tL_law_703 (r : RQ G mL_law d 704 [x0, x1, x2, x3, x4, x5, x6, x7, x8] (.int (nI 1) :: S) (h) P) : RQ G mL_law d 703 [x0, x1, x2, x3, x4, x5, x6, x7, x8] (S) h P := q_iconst (M := mL_law) (pc := 703) dL_law_703 (by decide) r
theorem tL_law_704 {x y : Int32} (r : RQ G mL_law d 705 [x0, x1, x2, x3, x4, x5, x6, x7, x8] (.int (x + y) :: S) (h) P) : RQ G mL_law d 704 [x0, x1, x2, x3, x4, x5, x6, x7, x8] (.int y :: .int x :: S) h P := q_iadd (M := mL_law) (pc := 704) dL_law_704 r
theorem tL_law_705 {j : Nat} {x : Int32} (hx : x = nI j) (hj : j < gN G) (hn : gN G < 2147483648) (r : RQ G mL_law d 706 [x0, x1, x2, x3, x4, x5, x6, x7, x8] (.int (gX G j) :: S) (h) P) : RQ G mL_law d 705 [x0, x1, x2, x3, x4, x5, x6, x7, x8] (.int x :: .ref (OLD + 999) :: S) h P := q_sld (M := mL_law) (pc := 705) dL_law_705 hx hj hn r
theorem tL_law_706 {k : Nat} (r : RQ G mL_law d 707 [x0, x1, x2, some (.ref k), x4, x5, x6, x7, x8] (.ref k :: S) (h) P) : RQ G mL_law d 706 [x0, x1, x2, some (.ref k), x4, x5, x6, x7, x8] (S) h P := q_aload_n (M := mL_law) (pc := 706) (r0 := some k) dL_law_706 rfl rfl r
theorem tL_law_707 {d2 : Nat} {a0 : Nat} {a1 : Int32} {a2 : Nat} {Q : Int32 → AH → Prop} (hd : d2 + 1 ≤ d) (call : RQ G mL_leaderOf d2 0 [some (.ref a0), some (.int a1), some (.ref a2), none] [] h (Ri Q)) (k : ∀ x h1, Q x h1 → RQ G mL_law d 710 [x0, x1, x2, x3, x4, x5, x6, x7, x8] (.int x :: S) h1 P) (hst : (S.map fun v => v.category).sum ≤ 8 := by exact Nat.le_of_ble_eq_true rfl)  : RQ G mL_law d 707 [x0, x1, x2, x3, x4, x5, x6, x7, x8] (.ref a2 :: .int a1 :: .ref a0 :: S) h P := q_callSW (M := mL_law) (pc := 707) (M2 := mL_leaderOf) (As := [.ref a0, .int a1, .ref a2]) (n := 3) dL_law_707 ⟨by decide, by decide, by decide, rfl⟩ w1173 w1174 w108 w1175 hd (by decide) (Nat.le_of_ble_eq_true rfl) rfl hst call (callk_i k)
theorem tL_law_710 {v : Int32} (ho : ok1 x4 = true := by rfl) (r : RQ G mL_law d 712 [x0, x1, x2, x3, x4, some (.int v), x6, x7, x8] (S) (h) P) : RQ G mL_law d 710 [x0, x1, x2, x3, x4, x5, x6, x7, x8] (.int v :: S) h P := q_istore (M := mL_law) (pc := 710) dL_law_710 (Nat.le_of_ble_eq_true rfl) ho r
theorem tL_law_712 {k : Nat} (r : RQ G mL_law d 713 [x0, x1, some (.ref k), x3, x4, x5, x6, x7, x8] (.ref k :: S) (h) P) : RQ G mL_law d 712 [x0, x1, some (.ref k), x3, x4, x5, x6, x7, x8] (S) h P := q_aload_n (M := mL_law) (pc := 712) (r0 := some k) dL_law_712 rfl rfl r
theorem tL_law_713 {k : Nat} (r : RQ G mL_law d 714 [some (.ref k), x1, x2, x3, x4, x5, x6, x7, x8] (.ref k :: S) (h) P) : RQ G mL_law d 713 [some (.ref k), x1, x2, x3, x4, x5, x6, x7, x8] (S) h P := q_aload_n (M := mL_law) (pc := 713) (r0 := some k) dL_law_713 rfl rfl r
theorem tL_law_714 {v : Int32} (r : RQ G mL_law d 716 [x0, x1, x2, x3, some (.int v), x5, x6, x7, x8] (.int v :: S) (h) P) : RQ G mL_law d 714 [x0, x1, x2, x3, some (.int v), x5, x6, x7, x8] (S) h P := q_iload (M := mL_law) (pc := 714) dL_law_714 rfl r
theorem tL_law_716 (r : RQ G mL_law d 717 [x0, x1, x2, x3, x4, x5, x6, x7, x8] (.int (nI 1) :: S) (h) P) : RQ G mL_law d 716 [x0, x1, x2, x3, x4, x5, x6, x7, x8] (S) h P := q_iconst (M := mL_law) (pc := 716) dL_law_716 (by decide) r
theorem tL_law_717 {x y : Int32} (r : RQ G mL_law d 718 [x0, x1, x2, x3, x4, x5, x6, x7, x8] (.int (x + y) :: S) (h) P) : RQ G mL_law d 717 [x0, x1, x2, x3, x4, x5, x6, x7, x8] (.int y :: .int x :: S) h P := q_iadd (M := mL_law) (pc := 717) dL_law_717 r
theorem tL_law_718 {j : Nat} {x : Int32} (hx : x = nI j) (hj : j < gN G) (hn : gN G < 2147483648) (r : RQ G mL_law d 719 [x0, x1, x2, x3, x4, x5, x6, x7, x8] (.int (gX G j) :: S) (h) P) : RQ G mL_law d 718 [x0, x1, x2, x3, x4, x5, x6, x7, x8] (.int x :: .ref (OLD + 999) :: S) h P := q_sld (M := mL_law) (pc := 718) dL_law_718 hx hj hn r
theorem tL_law_719 {b d2 : Nat} {vs : List Value} {a0 : Int32} {Q : Int32 → AH → Prop} (hd : d2 + 1 ≤ d) (ha : At h b (.inr (10, vs))) (call : RQ G mX12_leaderOf d2 0 [some (.ref b), some (.int a0)] [] h (Ri Q)) (k : ∀ x h1, Q x h1 → RQ G mL_law d 722 [x0, x1, x2, x3, x4, x5, x6, x7, x8] (.int x :: S) h1 P) (hst : (S.map fun v => v.category).sum ≤ 8 := by exact Nat.le_of_ble_eq_true rfl)  : RQ G mL_law d 719 [x0, x1, x2, x3, x4, x5, x6, x7, x8] (.int a0 :: .ref b :: S) h P := q_callV (M := mL_law) (pc := 719) (M2 := mX12_leaderOf) (As := [.int a0]) (n := 1) dL_law_719 rfl ⟨by decide, by decide, by decide, rfl⟩ rfl w1740 w1741 w1742 w120 w1743 (show CL[10]? = some (RX12, TX12, 25) from rfl) hd (by decide) (Nat.le_of_ble_eq_true rfl) rfl ha hst call (callk_i k)
theorem tL_law_722 {v : Int32} (ho : ok1 x5 = true := by rfl) (r : RQ G mL_law d 724 [x0, x1, x2, x3, x4, x5, some (.int v), x7, x8] (S) (h) P) : RQ G mL_law d 722 [x0, x1, x2, x3, x4, x5, x6, x7, x8] (.int v :: S) h P := q_istore (M := mL_law) (pc := 722) dL_law_722 (Nat.le_of_ble_eq_true rfl) ho r
theorem tL_law_724 {k : Nat} (r : RQ G mL_law d 725 [x0, x1, some (.ref k), x3, x4, x5, x6, x7, x8] (.ref k :: S) (h) P) : RQ G mL_law d 724 [x0, x1, some (.ref k), x3, x4, x5, x6, x7, x8] (S) h P := q_aload_n (M := mL_law) (pc := 724) (r0 := some k) dL_law_724 rfl rfl r
theorem tL_law_725 {b d2 : Nat} {vs : List Value}  {Q : Int32 → AH → Prop} (hd : d2 + 1 ≤ d) (ha : At h b (.inr (10, vs))) (call : RQ G mX12_thrown d2 0 [some (.ref b)] [] h (Ri Q)) (k : ∀ x h1, Q x h1 → RQ G mL_law d 728 [x0, x1, x2, x3, x4, x5, x6, x7, x8] (.int x :: S) h1 P) (hst : (S.map fun v => v.category).sum ≤ 8 := by exact Nat.le_of_ble_eq_true rfl)  : RQ G mL_law d 725 [x0, x1, x2, x3, x4, x5, x6, x7, x8] (.ref b :: S) h P := q_callV (M := mL_law) (pc := 725) (M2 := mX12_thrown) (As := []) (n := 0) dL_law_725 rfl ⟨by decide, by decide, by decide, rfl⟩ rfl w1499 w1500 w1501 w120 w1502 (show CL[10]? = some (RX12, TX12, 25) from rfl) hd (by decide) (Nat.le_of_ble_eq_true rfl) rfl ha hst call (callk_i k)
theorem tL_law_728 {v : Int32} (r : RQ G mL_law d 730 [x0, x1, x2, x3, x4, some (.int v), x6, x7, x8] (.int v :: S) (h) P) : RQ G mL_law d 728 [x0, x1, x2, x3, x4, some (.int v), x6, x7, x8] (S) h P := q_iload (M := mL_law) (pc := 728) dL_law_728 rfl r
theorem tL_law_730 {x y : Int32} (kt : x = y → RQ G mL_law d 735 [x0, x1, x2, x3, x4, x5, x6, x7, x8] S h P) (kf : ¬ x = y → RQ G mL_law d 733 [x0, x1, x2, x3, x4, x5, x6, x7, x8] S h P) : RQ G mL_law d 730 [x0, x1, x2, x3, x4, x5, x6, x7, x8] (.int y :: .int x :: S) h P := q_icmp_eq (M := mL_law) (pc := 730) dL_law_730 (by decide) kt kf
theorem tL_law_733 (r : RQ G mL_law d 734 [x0, x1, x2, x3, x4, x5, x6, x7, x8] (.int (nI 0) :: S) (h) P) : RQ G mL_law d 733 [x0, x1, x2, x3, x4, x5, x6, x7, x8] (S) h P := q_iconst (M := mL_law) (pc := 733) dL_law_733 (by decide) r
theorem tL_law_734 {x : Int32} (hb : x = nI 0 ∨ x = nI 1) (hP : P (.inl (some (.int x))) h) : RQ G mL_law d 734 [x0, x1, x2, x3, x4, x5, x6, x7, x8] ([.int x]) h P := q_ireturn (M := mL_law) (pc := 734) (ty := .boolean) dL_law_734 rfl (nar_bool hb) hP
theorem tL_law_735 {v : Int32} (r : RQ G mL_law d 737 [x0, x1, x2, x3, x4, some (.int v), x6, x7, x8] (.int v :: S) (h) P) : RQ G mL_law d 735 [x0, x1, x2, x3, x4, some (.int v), x6, x7, x8] (S) h P := q_iload (M := mL_law) (pc := 735) dL_law_735 rfl r
theorem tL_law_737 {x : Int32} (kt : ¬ x = 0 → RQ G mL_law d 752 [x0, x1, x2, x3, x4, x5, x6, x7, x8] S h P) (kf : x = 0 → RQ G mL_law d 740 [x0, x1, x2, x3, x4, x5, x6, x7, x8] S h P) : RQ G mL_law d 737 [x0, x1, x2, x3, x4, x5, x6, x7, x8] (.int x :: S) h P := q_if_ne (M := mL_law) (pc := 737) dL_law_737 (by decide) kt kf
theorem tL_law_740 {k : Nat} (r : RQ G mL_law d 741 [x0, x1, x2, some (.ref k), x4, x5, x6, x7, x8] (.ref k :: S) (h) P) : RQ G mL_law d 740 [x0, x1, x2, some (.ref k), x4, x5, x6, x7, x8] (S) h P := q_aload_n (M := mL_law) (pc := 740) (r0 := some k) dL_law_740 rfl rfl r
theorem tL_law_741 (r : RQ G mL_law d 742 [x0, x1, x2, x3, x4, x5, x6, x7, x8] (.int (nI 0) :: S) (h) P) : RQ G mL_law d 741 [x0, x1, x2, x3, x4, x5, x6, x7, x8] (S) h P := q_iconst (M := mL_law) (pc := 741) dL_law_741 (by decide) r
theorem tL_law_742 {a n j : Nat} {x : Int32} {f : Nat → Int64} (ha : At h a (.inl (2, n, .inr (.inl f)))) (hx : x = nI j) (hj : j < n) (hn : n < 2147483648) (r : RQ G mL_law d 743 [x0, x1, x2, x3, x4, x5, x6, x7, x8] (.long (f j) :: S) (h) P) : RQ G mL_law d 742 [x0, x1, x2, x3, x4, x5, x6, x7, x8] (.int x :: .ref a :: S) h P := q_lald (M := mL_law) (pc := 742) dL_law_742 ha hx hj hn r
theorem tL_law_743 {v : Int32} (r : RQ G mL_law d 745 [x0, x1, x2, x3, x4, x5, some (.int v), x7, x8] (.int v :: S) (h) P) : RQ G mL_law d 743 [x0, x1, x2, x3, x4, x5, some (.int v), x7, x8] (S) h P := q_iload (M := mL_law) (pc := 743) dL_law_743 rfl r
theorem tL_law_745 {x : Int32} (r : RQ G mL_law d 746 [x0, x1, x2, x3, x4, x5, x6, x7, x8] (.long x.toInt64 :: S) (h) P) : RQ G mL_law d 745 [x0, x1, x2, x3, x4, x5, x6, x7, x8] (.int x :: S) h P := q_i2l (M := mL_law) (pc := 745) dL_law_745 r
theorem tL_law_746 {x y : Int64} (r : RQ G mL_law d 747 [x0, x1, x2, x3, x4, x5, x6, x7, x8] (.int (lg_cmp x y) :: S) (h) P) : RQ G mL_law d 746 [x0, x1, x2, x3, x4, x5, x6, x7, x8] (.long y :: .long x :: S) h P := q_lcmp (M := mL_law) (pc := 746) dL_law_746 r
theorem tL_law_747 {x : Int32} (kt : x = 0 → RQ G mL_law d 752 [x0, x1, x2, x3, x4, x5, x6, x7, x8] S h P) (kf : ¬ x = 0 → RQ G mL_law d 750 [x0, x1, x2, x3, x4, x5, x6, x7, x8] S h P) : RQ G mL_law d 747 [x0, x1, x2, x3, x4, x5, x6, x7, x8] (.int x :: S) h P := q_if_eq (M := mL_law) (pc := 747) dL_law_747 (by decide) kt kf
theorem tL_law_750 (r : RQ G mL_law d 751 [x0, x1, x2, x3, x4, x5, x6, x7, x8] (.int (nI 0) :: S) (h) P) : RQ G mL_law d 750 [x0, x1, x2, x3, x4, x5, x6, x7, x8] (S) h P := q_iconst (M := mL_law) (pc := 750) dL_law_750 (by decide) r
theorem tL_law_751 {x : Int32} (hb : x = nI 0 ∨ x = nI 1) (hP : P (.inl (some (.int x))) h) : RQ G mL_law d 751 [x0, x1, x2, x3, x4, x5, x6, x7, x8] ([.int x]) h P := q_ireturn (M := mL_law) (pc := 751) (ty := .boolean) dL_law_751 rfl (nar_bool hb) hP
theorem tL_law_752 (r : RQ G mL_law d 2189 [x0, x1, x2, x3, x4, x5, x6, x7, x8] S h P) : RQ G mL_law d 752 [x0, x1, x2, x3, x4, x5, x6, x7, x8] (S) h P := q_goto (M := mL_law) (pc := 752) dL_law_752 (by decide) r
theorem tL_law_755 {k : Nat} (r : RQ G mL_law d 756 [x0, some (.ref k), x2, x3, x4, x5, x6, x7, x8] (.ref k :: S) (h) P) : RQ G mL_law d 755 [x0, some (.ref k), x2, x3, x4, x5, x6, x7, x8] (S) h P := q_aload_n (M := mL_law) (pc := 755) (r0 := some k) dL_law_755 rfl rfl r
theorem tL_law_756 {k : Nat} (r : RQ G mL_law d 757 [some (.ref k), x1, x2, x3, x4, x5, x6, x7, x8] (.ref k :: S) (h) P) : RQ G mL_law d 756 [some (.ref k), x1, x2, x3, x4, x5, x6, x7, x8] (S) h P := q_aload_n (M := mL_law) (pc := 756) (r0 := some k) dL_law_756 rfl rfl r
theorem tL_law_757 {v : Int32} (r : RQ G mL_law d 759 [x0, x1, x2, x3, some (.int v), x5, x6, x7, x8] (.int v :: S) (h) P) : RQ G mL_law d 757 [x0, x1, x2, x3, some (.int v), x5, x6, x7, x8] (S) h P := q_iload (M := mL_law) (pc := 757) dL_law_757 rfl r
theorem tL_law_759 (r : RQ G mL_law d 760 [x0, x1, x2, x3, x4, x5, x6, x7, x8] (.int (nI 1) :: S) (h) P) : RQ G mL_law d 759 [x0, x1, x2, x3, x4, x5, x6, x7, x8] (S) h P := q_iconst (M := mL_law) (pc := 759) dL_law_759 (by decide) r
theorem tL_law_760 {x y : Int32} (r : RQ G mL_law d 761 [x0, x1, x2, x3, x4, x5, x6, x7, x8] (.int (x + y) :: S) (h) P) : RQ G mL_law d 760 [x0, x1, x2, x3, x4, x5, x6, x7, x8] (.int y :: .int x :: S) h P := q_iadd (M := mL_law) (pc := 760) dL_law_760 r
theorem tL_law_761 {j : Nat} {x : Int32} (hx : x = nI j) (hj : j < gN G) (hn : gN G < 2147483648) (r : RQ G mL_law d 762 [x0, x1, x2, x3, x4, x5, x6, x7, x8] (.int (gX G j) :: S) (h) P) : RQ G mL_law d 761 [x0, x1, x2, x3, x4, x5, x6, x7, x8] (.int x :: .ref (OLD + 999) :: S) h P := q_sld (M := mL_law) (pc := 761) dL_law_761 hx hj hn r
theorem tL_law_762 {k : Nat} (r : RQ G mL_law d 763 [some (.ref k), x1, x2, x3, x4, x5, x6, x7, x8] (.ref k :: S) (h) P) : RQ G mL_law d 762 [some (.ref k), x1, x2, x3, x4, x5, x6, x7, x8] (S) h P := q_aload_n (M := mL_law) (pc := 762) (r0 := some k) dL_law_762 rfl rfl r
theorem tL_law_763 {v : Int32} (r : RQ G mL_law d 765 [x0, x1, x2, x3, some (.int v), x5, x6, x7, x8] (.int v :: S) (h) P) : RQ G mL_law d 763 [x0, x1, x2, x3, some (.int v), x5, x6, x7, x8] (S) h P := q_iload (M := mL_law) (pc := 763) dL_law_763 rfl r
theorem tL_law_765 (r : RQ G mL_law d 766 [x0, x1, x2, x3, x4, x5, x6, x7, x8] (.int (nI 2) :: S) (h) P) : RQ G mL_law d 765 [x0, x1, x2, x3, x4, x5, x6, x7, x8] (S) h P := q_iconst (M := mL_law) (pc := 765) dL_law_765 (by decide) r
theorem tL_law_766 {x y : Int32} (r : RQ G mL_law d 767 [x0, x1, x2, x3, x4, x5, x6, x7, x8] (.int (x + y) :: S) (h) P) : RQ G mL_law d 766 [x0, x1, x2, x3, x4, x5, x6, x7, x8] (.int y :: .int x :: S) h P := q_iadd (M := mL_law) (pc := 766) dL_law_766 r
theorem tL_law_767 {j : Nat} {x : Int32} (hx : x = nI j) (hj : j < gN G) (hn : gN G < 2147483648) (r : RQ G mL_law d 768 [x0, x1, x2, x3, x4, x5, x6, x7, x8] (.int (gX G j) :: S) (h) P) : RQ G mL_law d 767 [x0, x1, x2, x3, x4, x5, x6, x7, x8] (.int x :: .ref (OLD + 999) :: S) h P := q_sld (M := mL_law) (pc := 767) dL_law_767 hx hj hn r
theorem tL_law_768 {k : Nat} (r : RQ G mL_law d 769 [x0, x1, x2, some (.ref k), x4, x5, x6, x7, x8] (.ref k :: S) (h) P) : RQ G mL_law d 768 [x0, x1, x2, some (.ref k), x4, x5, x6, x7, x8] (S) h P := q_aload_n (M := mL_law) (pc := 768) (r0 := some k) dL_law_768 rfl rfl r
theorem tL_law_769 {d2 : Nat} {a0 : Nat} {a1 : Int32} {a2 : Int32} {a3 : Nat} {Q : Int32 → AH → Prop} (hd : d2 + 1 ≤ d) (call : RQ G mL_areAllied d2 0 [some (.ref a0), some (.int a1), some (.int a2), some (.ref a3), none] [] h (Ri Q)) (k : ∀ x h1, Q x h1 → RQ G mL_law d 772 [x0, x1, x2, x3, x4, x5, x6, x7, x8] (.int x :: S) h1 P) (hst : (S.map fun v => v.category).sum ≤ 8 := by exact Nat.le_of_ble_eq_true rfl)  : RQ G mL_law d 769 [x0, x1, x2, x3, x4, x5, x6, x7, x8] (.ref a3 :: .int a2 :: .int a1 :: .ref a0 :: S) h P := q_callSW (M := mL_law) (pc := 769) (M2 := mL_areAllied) (As := [.ref a0, .int a1, .int a2, .ref a3]) (n := 4) dL_law_769 ⟨by decide, by decide, by decide, rfl⟩ w1177 w1178 w108 w1179 hd (by decide) (Nat.le_of_ble_eq_true rfl) rfl hst call (callk_i k)
theorem tL_law_772 {v : Int32} (ho : ok1 x4 = true := by rfl) (r : RQ G mL_law d 774 [x0, x1, x2, x3, x4, some (.int v), x6, x7, x8] (S) (h) P) : RQ G mL_law d 772 [x0, x1, x2, x3, x4, x5, x6, x7, x8] (.int v :: S) h P := q_istore (M := mL_law) (pc := 772) dL_law_772 (Nat.le_of_ble_eq_true rfl) ho r
theorem tL_law_774 {k : Nat} (r : RQ G mL_law d 775 [x0, x1, some (.ref k), x3, x4, x5, x6, x7, x8] (.ref k :: S) (h) P) : RQ G mL_law d 774 [x0, x1, some (.ref k), x3, x4, x5, x6, x7, x8] (S) h P := q_aload_n (M := mL_law) (pc := 774) (r0 := some k) dL_law_774 rfl rfl r
theorem tL_law_775 {k : Nat} (r : RQ G mL_law d 776 [some (.ref k), x1, x2, x3, x4, x5, x6, x7, x8] (.ref k :: S) (h) P) : RQ G mL_law d 775 [some (.ref k), x1, x2, x3, x4, x5, x6, x7, x8] (S) h P := q_aload_n (M := mL_law) (pc := 775) (r0 := some k) dL_law_775 rfl rfl r
theorem tL_law_776 {v : Int32} (r : RQ G mL_law d 778 [x0, x1, x2, x3, some (.int v), x5, x6, x7, x8] (.int v :: S) (h) P) : RQ G mL_law d 776 [x0, x1, x2, x3, some (.int v), x5, x6, x7, x8] (S) h P := q_iload (M := mL_law) (pc := 776) dL_law_776 rfl r
theorem tL_law_778 (r : RQ G mL_law d 779 [x0, x1, x2, x3, x4, x5, x6, x7, x8] (.int (nI 1) :: S) (h) P) : RQ G mL_law d 778 [x0, x1, x2, x3, x4, x5, x6, x7, x8] (S) h P := q_iconst (M := mL_law) (pc := 778) dL_law_778 (by decide) r
theorem tL_law_779 {x y : Int32} (r : RQ G mL_law d 780 [x0, x1, x2, x3, x4, x5, x6, x7, x8] (.int (x + y) :: S) (h) P) : RQ G mL_law d 779 [x0, x1, x2, x3, x4, x5, x6, x7, x8] (.int y :: .int x :: S) h P := q_iadd (M := mL_law) (pc := 779) dL_law_779 r
theorem tL_law_780 {j : Nat} {x : Int32} (hx : x = nI j) (hj : j < gN G) (hn : gN G < 2147483648) (r : RQ G mL_law d 781 [x0, x1, x2, x3, x4, x5, x6, x7, x8] (.int (gX G j) :: S) (h) P) : RQ G mL_law d 780 [x0, x1, x2, x3, x4, x5, x6, x7, x8] (.int x :: .ref (OLD + 999) :: S) h P := q_sld (M := mL_law) (pc := 780) dL_law_780 hx hj hn r
theorem tL_law_781 {k : Nat} (r : RQ G mL_law d 782 [some (.ref k), x1, x2, x3, x4, x5, x6, x7, x8] (.ref k :: S) (h) P) : RQ G mL_law d 781 [some (.ref k), x1, x2, x3, x4, x5, x6, x7, x8] (S) h P := q_aload_n (M := mL_law) (pc := 781) (r0 := some k) dL_law_781 rfl rfl r
theorem tL_law_782 {v : Int32} (r : RQ G mL_law d 784 [x0, x1, x2, x3, some (.int v), x5, x6, x7, x8] (.int v :: S) (h) P) : RQ G mL_law d 782 [x0, x1, x2, x3, some (.int v), x5, x6, x7, x8] (S) h P := q_iload (M := mL_law) (pc := 782) dL_law_782 rfl r
theorem tL_law_784 (r : RQ G mL_law d 785 [x0, x1, x2, x3, x4, x5, x6, x7, x8] (.int (nI 2) :: S) (h) P) : RQ G mL_law d 784 [x0, x1, x2, x3, x4, x5, x6, x7, x8] (S) h P := q_iconst (M := mL_law) (pc := 784) dL_law_784 (by decide) r
theorem tL_law_785 {x y : Int32} (r : RQ G mL_law d 786 [x0, x1, x2, x3, x4, x5, x6, x7, x8] (.int (x + y) :: S) (h) P) : RQ G mL_law d 785 [x0, x1, x2, x3, x4, x5, x6, x7, x8] (.int y :: .int x :: S) h P := q_iadd (M := mL_law) (pc := 785) dL_law_785 r
theorem tL_law_786 {j : Nat} {x : Int32} (hx : x = nI j) (hj : j < gN G) (hn : gN G < 2147483648) (r : RQ G mL_law d 787 [x0, x1, x2, x3, x4, x5, x6, x7, x8] (.int (gX G j) :: S) (h) P) : RQ G mL_law d 786 [x0, x1, x2, x3, x4, x5, x6, x7, x8] (.int x :: .ref (OLD + 999) :: S) h P := q_sld (M := mL_law) (pc := 786) dL_law_786 hx hj hn r
theorem tL_law_787 {b d2 : Nat} {vs : List Value} {a0 : Int32} {a1 : Int32} {Q : Int32 → AH → Prop} (hd : d2 + 1 ≤ d) (ha : At h b (.inr (10, vs))) (call : RQ G mX12_areAllied d2 0 [some (.ref b), some (.int a0), some (.int a1)] [] h (Ri Q)) (k : ∀ x h1, Q x h1 → RQ G mL_law d 790 [x0, x1, x2, x3, x4, x5, x6, x7, x8] (.int x :: S) h1 P) (hst : (S.map fun v => v.category).sum ≤ 8 := by exact Nat.le_of_ble_eq_true rfl)  : RQ G mL_law d 787 [x0, x1, x2, x3, x4, x5, x6, x7, x8] (.int a1 :: .int a0 :: .ref b :: S) h P := q_callV (M := mL_law) (pc := 787) (M2 := mX12_areAllied) (As := [.int a0, .int a1]) (n := 2) dL_law_787 rfl ⟨by decide, by decide, by decide, rfl⟩ rfl w1748 w1749 w1750 w120 w1751 (show CL[10]? = some (RX12, TX12, 25) from rfl) hd (by decide) (Nat.le_of_ble_eq_true rfl) rfl ha hst call (callk_i k)
theorem tL_law_790 {v : Int32} (ho : ok1 x5 = true := by rfl) (r : RQ G mL_law d 792 [x0, x1, x2, x3, x4, x5, some (.int v), x7, x8] (S) (h) P) : RQ G mL_law d 790 [x0, x1, x2, x3, x4, x5, x6, x7, x8] (.int v :: S) h P := q_istore (M := mL_law) (pc := 790) dL_law_790 (Nat.le_of_ble_eq_true rfl) ho r
theorem tL_law_792 {k : Nat} (r : RQ G mL_law d 793 [x0, x1, some (.ref k), x3, x4, x5, x6, x7, x8] (.ref k :: S) (h) P) : RQ G mL_law d 792 [x0, x1, some (.ref k), x3, x4, x5, x6, x7, x8] (S) h P := q_aload_n (M := mL_law) (pc := 792) (r0 := some k) dL_law_792 rfl rfl r
theorem tL_law_793 {b d2 : Nat} {vs : List Value}  {Q : Int32 → AH → Prop} (hd : d2 + 1 ≤ d) (ha : At h b (.inr (10, vs))) (call : RQ G mX12_thrown d2 0 [some (.ref b)] [] h (Ri Q)) (k : ∀ x h1, Q x h1 → RQ G mL_law d 796 [x0, x1, x2, x3, x4, x5, x6, x7, x8] (.int x :: S) h1 P) (hst : (S.map fun v => v.category).sum ≤ 8 := by exact Nat.le_of_ble_eq_true rfl)  : RQ G mL_law d 793 [x0, x1, x2, x3, x4, x5, x6, x7, x8] (.ref b :: S) h P := q_callV (M := mL_law) (pc := 793) (M2 := mX12_thrown) (As := []) (n := 0) dL_law_793 rfl ⟨by decide, by decide, by decide, rfl⟩ rfl w1499 w1500 w1501 w120 w1502 (show CL[10]? = some (RX12, TX12, 25) from rfl) hd (by decide) (Nat.le_of_ble_eq_true rfl) rfl ha hst call (callk_i k)
theorem tL_law_796 {v : Int32} (r : RQ G mL_law d 798 [x0, x1, x2, x3, x4, some (.int v), x6, x7, x8] (.int v :: S) (h) P) : RQ G mL_law d 796 [x0, x1, x2, x3, x4, some (.int v), x6, x7, x8] (S) h P := q_iload (M := mL_law) (pc := 796) dL_law_796 rfl r
theorem tL_law_798 {x y : Int32} (kt : x = y → RQ G mL_law d 803 [x0, x1, x2, x3, x4, x5, x6, x7, x8] S h P) (kf : ¬ x = y → RQ G mL_law d 801 [x0, x1, x2, x3, x4, x5, x6, x7, x8] S h P) : RQ G mL_law d 798 [x0, x1, x2, x3, x4, x5, x6, x7, x8] (.int y :: .int x :: S) h P := q_icmp_eq (M := mL_law) (pc := 798) dL_law_798 (by decide) kt kf
theorem tL_law_801 (r : RQ G mL_law d 802 [x0, x1, x2, x3, x4, x5, x6, x7, x8] (.int (nI 0) :: S) (h) P) : RQ G mL_law d 801 [x0, x1, x2, x3, x4, x5, x6, x7, x8] (S) h P := q_iconst (M := mL_law) (pc := 801) dL_law_801 (by decide) r
theorem tL_law_802 {x : Int32} (hb : x = nI 0 ∨ x = nI 1) (hP : P (.inl (some (.int x))) h) : RQ G mL_law d 802 [x0, x1, x2, x3, x4, x5, x6, x7, x8] ([.int x]) h P := q_ireturn (M := mL_law) (pc := 802) (ty := .boolean) dL_law_802 rfl (nar_bool hb) hP
theorem tL_law_803 {v : Int32} (r : RQ G mL_law d 805 [x0, x1, x2, x3, x4, some (.int v), x6, x7, x8] (.int v :: S) (h) P) : RQ G mL_law d 803 [x0, x1, x2, x3, x4, some (.int v), x6, x7, x8] (S) h P := q_iload (M := mL_law) (pc := 803) dL_law_803 rfl r
theorem tL_law_805 {x : Int32} (kt : ¬ x = 0 → RQ G mL_law d 827 [x0, x1, x2, x3, x4, x5, x6, x7, x8] S h P) (kf : x = 0 → RQ G mL_law d 808 [x0, x1, x2, x3, x4, x5, x6, x7, x8] S h P) : RQ G mL_law d 805 [x0, x1, x2, x3, x4, x5, x6, x7, x8] (.int x :: S) h P := q_if_ne (M := mL_law) (pc := 805) dL_law_805 (by decide) kt kf
theorem tL_law_808 {k : Nat} (r : RQ G mL_law d 809 [x0, x1, x2, some (.ref k), x4, x5, x6, x7, x8] (.ref k :: S) (h) P) : RQ G mL_law d 808 [x0, x1, x2, some (.ref k), x4, x5, x6, x7, x8] (S) h P := q_aload_n (M := mL_law) (pc := 808) (r0 := some k) dL_law_808 rfl rfl r
theorem tL_law_809 (r : RQ G mL_law d 810 [x0, x1, x2, x3, x4, x5, x6, x7, x8] (.int (nI 0) :: S) (h) P) : RQ G mL_law d 809 [x0, x1, x2, x3, x4, x5, x6, x7, x8] (S) h P := q_iconst (M := mL_law) (pc := 809) dL_law_809 (by decide) r
theorem tL_law_810 {a n j : Nat} {x : Int32} {f : Nat → Int64} (ha : At h a (.inl (2, n, .inr (.inl f)))) (hx : x = nI j) (hj : j < n) (hn : n < 2147483648) (r : RQ G mL_law d 811 [x0, x1, x2, x3, x4, x5, x6, x7, x8] (.long (f j) :: S) (h) P) : RQ G mL_law d 810 [x0, x1, x2, x3, x4, x5, x6, x7, x8] (.int x :: .ref a :: S) h P := q_lald (M := mL_law) (pc := 810) dL_law_810 ha hx hj hn r
theorem tL_law_811 {v : Int32} (r : RQ G mL_law d 813 [x0, x1, x2, x3, x4, x5, some (.int v), x7, x8] (.int v :: S) (h) P) : RQ G mL_law d 811 [x0, x1, x2, x3, x4, x5, some (.int v), x7, x8] (S) h P := q_iload (M := mL_law) (pc := 811) dL_law_811 rfl r
theorem tL_law_813 {x : Int32} (kt : x = 0 → RQ G mL_law d 820 [x0, x1, x2, x3, x4, x5, x6, x7, x8] S h P) (kf : ¬ x = 0 → RQ G mL_law d 816 [x0, x1, x2, x3, x4, x5, x6, x7, x8] S h P) : RQ G mL_law d 813 [x0, x1, x2, x3, x4, x5, x6, x7, x8] (.int x :: S) h P := q_if_eq (M := mL_law) (pc := 813) dL_law_813 (by decide) kt kf
theorem tL_law_816 (r : RQ G mL_law d 817 [x0, x1, x2, x3, x4, x5, x6, x7, x8] (.long (lN 1) :: S) (h) P) : RQ G mL_law d 816 [x0, x1, x2, x3, x4, x5, x6, x7, x8] (S) h P := q_lconst (M := mL_law) (pc := 816) dL_law_816 (by decide) r
theorem tL_law_817 (r : RQ G mL_law d 821 [x0, x1, x2, x3, x4, x5, x6, x7, x8] S h P) : RQ G mL_law d 817 [x0, x1, x2, x3, x4, x5, x6, x7, x8] (S) h P := q_goto (M := mL_law) (pc := 817) dL_law_817 (by decide) r
theorem tL_law_820 (r : RQ G mL_law d 821 [x0, x1, x2, x3, x4, x5, x6, x7, x8] (.long (lN 0) :: S) (h) P) : RQ G mL_law d 820 [x0, x1, x2, x3, x4, x5, x6, x7, x8] (S) h P := q_lconst (M := mL_law) (pc := 820) dL_law_820 (by decide) r
theorem tL_law_821 {x y : Int64} (r : RQ G mL_law d 822 [x0, x1, x2, x3, x4, x5, x6, x7, x8] (.int (lg_cmp x y) :: S) (h) P) : RQ G mL_law d 821 [x0, x1, x2, x3, x4, x5, x6, x7, x8] (.long y :: .long x :: S) h P := q_lcmp (M := mL_law) (pc := 821) dL_law_821 r
theorem tL_law_822 {x : Int32} (kt : x = 0 → RQ G mL_law d 827 [x0, x1, x2, x3, x4, x5, x6, x7, x8] S h P) (kf : ¬ x = 0 → RQ G mL_law d 825 [x0, x1, x2, x3, x4, x5, x6, x7, x8] S h P) : RQ G mL_law d 822 [x0, x1, x2, x3, x4, x5, x6, x7, x8] (.int x :: S) h P := q_if_eq (M := mL_law) (pc := 822) dL_law_822 (by decide) kt kf
theorem tL_law_825 (r : RQ G mL_law d 826 [x0, x1, x2, x3, x4, x5, x6, x7, x8] (.int (nI 0) :: S) (h) P) : RQ G mL_law d 825 [x0, x1, x2, x3, x4, x5, x6, x7, x8] (S) h P := q_iconst (M := mL_law) (pc := 825) dL_law_825 (by decide) r
theorem tL_law_826 {x : Int32} (hb : x = nI 0 ∨ x = nI 1) (hP : P (.inl (some (.int x))) h) : RQ G mL_law d 826 [x0, x1, x2, x3, x4, x5, x6, x7, x8] ([.int x]) h P := q_ireturn (M := mL_law) (pc := 826) (ty := .boolean) dL_law_826 rfl (nar_bool hb) hP
theorem tL_law_827 (r : RQ G mL_law d 2189 [x0, x1, x2, x3, x4, x5, x6, x7, x8] S h P) : RQ G mL_law d 827 [x0, x1, x2, x3, x4, x5, x6, x7, x8] (S) h P := q_goto (M := mL_law) (pc := 827) dL_law_827 (by decide) r
theorem tL_law_830 {k : Nat} (r : RQ G mL_law d 831 [x0, some (.ref k), x2, x3, x4, x5, x6, x7, x8] (.ref k :: S) (h) P) : RQ G mL_law d 830 [x0, some (.ref k), x2, x3, x4, x5, x6, x7, x8] (S) h P := q_aload_n (M := mL_law) (pc := 830) (r0 := some k) dL_law_830 rfl rfl r
theorem tL_law_831 {k : Nat} (r : RQ G mL_law d 832 [some (.ref k), x1, x2, x3, x4, x5, x6, x7, x8] (.ref k :: S) (h) P) : RQ G mL_law d 831 [some (.ref k), x1, x2, x3, x4, x5, x6, x7, x8] (S) h P := q_aload_n (M := mL_law) (pc := 831) (r0 := some k) dL_law_831 rfl rfl r
theorem tL_law_832 {v : Int32} (r : RQ G mL_law d 834 [x0, x1, x2, x3, some (.int v), x5, x6, x7, x8] (.int v :: S) (h) P) : RQ G mL_law d 832 [x0, x1, x2, x3, some (.int v), x5, x6, x7, x8] (S) h P := q_iload (M := mL_law) (pc := 832) dL_law_832 rfl r
theorem tL_law_834 (r : RQ G mL_law d 835 [x0, x1, x2, x3, x4, x5, x6, x7, x8] (.int (nI 1) :: S) (h) P) : RQ G mL_law d 834 [x0, x1, x2, x3, x4, x5, x6, x7, x8] (S) h P := q_iconst (M := mL_law) (pc := 834) dL_law_834 (by decide) r
theorem tL_law_835 {x y : Int32} (r : RQ G mL_law d 836 [x0, x1, x2, x3, x4, x5, x6, x7, x8] (.int (x + y) :: S) (h) P) : RQ G mL_law d 835 [x0, x1, x2, x3, x4, x5, x6, x7, x8] (.int y :: .int x :: S) h P := q_iadd (M := mL_law) (pc := 835) dL_law_835 r
theorem tL_law_836 {j : Nat} {x : Int32} (hx : x = nI j) (hj : j < gN G) (hn : gN G < 2147483648) (r : RQ G mL_law d 837 [x0, x1, x2, x3, x4, x5, x6, x7, x8] (.int (gX G j) :: S) (h) P) : RQ G mL_law d 836 [x0, x1, x2, x3, x4, x5, x6, x7, x8] (.int x :: .ref (OLD + 999) :: S) h P := q_sld (M := mL_law) (pc := 836) dL_law_836 hx hj hn r
theorem tL_law_837 {k : Nat} (r : RQ G mL_law d 838 [x0, x1, x2, some (.ref k), x4, x5, x6, x7, x8] (.ref k :: S) (h) P) : RQ G mL_law d 837 [x0, x1, x2, some (.ref k), x4, x5, x6, x7, x8] (S) h P := q_aload_n (M := mL_law) (pc := 837) (r0 := some k) dL_law_837 rfl rfl r
theorem tL_law_838 {d2 : Nat} {a0 : Nat} {a1 : Int32} {a2 : Nat} {Q : Int32 → AH → Prop} (hd : d2 + 1 ≤ d) (call : RQ G mL_firstIn d2 0 [some (.ref a0), some (.int a1), some (.ref a2), none] [] h (Ri Q)) (k : ∀ x h1, Q x h1 → RQ G mL_law d 841 [x0, x1, x2, x3, x4, x5, x6, x7, x8] (.int x :: S) h1 P) (hst : (S.map fun v => v.category).sum ≤ 8 := by exact Nat.le_of_ble_eq_true rfl)  : RQ G mL_law d 838 [x0, x1, x2, x3, x4, x5, x6, x7, x8] (.ref a2 :: .int a1 :: .ref a0 :: S) h P := q_callSW (M := mL_law) (pc := 838) (M2 := mL_firstIn) (As := [.ref a0, .int a1, .ref a2]) (n := 3) dL_law_838 ⟨by decide, by decide, by decide, rfl⟩ w1184 w1185 w108 w1186 hd (by decide) (Nat.le_of_ble_eq_true rfl) rfl hst call (callk_i k)
theorem tL_law_841 {v : Int32} (ho : ok1 x4 = true := by rfl) (r : RQ G mL_law d 843 [x0, x1, x2, x3, x4, some (.int v), x6, x7, x8] (S) (h) P) : RQ G mL_law d 841 [x0, x1, x2, x3, x4, x5, x6, x7, x8] (.int v :: S) h P := q_istore (M := mL_law) (pc := 841) dL_law_841 (Nat.le_of_ble_eq_true rfl) ho r
theorem tL_law_843 {k : Nat} (r : RQ G mL_law d 844 [x0, x1, some (.ref k), x3, x4, x5, x6, x7, x8] (.ref k :: S) (h) P) : RQ G mL_law d 843 [x0, x1, some (.ref k), x3, x4, x5, x6, x7, x8] (S) h P := q_aload_n (M := mL_law) (pc := 843) (r0 := some k) dL_law_843 rfl rfl r
theorem tL_law_844 {k : Nat} (r : RQ G mL_law d 845 [some (.ref k), x1, x2, x3, x4, x5, x6, x7, x8] (.ref k :: S) (h) P) : RQ G mL_law d 844 [some (.ref k), x1, x2, x3, x4, x5, x6, x7, x8] (S) h P := q_aload_n (M := mL_law) (pc := 844) (r0 := some k) dL_law_844 rfl rfl r
theorem tL_law_845 {v : Int32} (r : RQ G mL_law d 847 [x0, x1, x2, x3, some (.int v), x5, x6, x7, x8] (.int v :: S) (h) P) : RQ G mL_law d 845 [x0, x1, x2, x3, some (.int v), x5, x6, x7, x8] (S) h P := q_iload (M := mL_law) (pc := 845) dL_law_845 rfl r
theorem tL_law_847 (r : RQ G mL_law d 848 [x0, x1, x2, x3, x4, x5, x6, x7, x8] (.int (nI 1) :: S) (h) P) : RQ G mL_law d 847 [x0, x1, x2, x3, x4, x5, x6, x7, x8] (S) h P := q_iconst (M := mL_law) (pc := 847) dL_law_847 (by decide) r
theorem tL_law_848 {x y : Int32} (r : RQ G mL_law d 849 [x0, x1, x2, x3, x4, x5, x6, x7, x8] (.int (x + y) :: S) (h) P) : RQ G mL_law d 848 [x0, x1, x2, x3, x4, x5, x6, x7, x8] (.int y :: .int x :: S) h P := q_iadd (M := mL_law) (pc := 848) dL_law_848 r
theorem tL_law_849 {j : Nat} {x : Int32} (hx : x = nI j) (hj : j < gN G) (hn : gN G < 2147483648) (r : RQ G mL_law d 850 [x0, x1, x2, x3, x4, x5, x6, x7, x8] (.int (gX G j) :: S) (h) P) : RQ G mL_law d 849 [x0, x1, x2, x3, x4, x5, x6, x7, x8] (.int x :: .ref (OLD + 999) :: S) h P := q_sld (M := mL_law) (pc := 849) dL_law_849 hx hj hn r
theorem tL_law_850 {b d2 : Nat} {vs : List Value} {a0 : Int32} {Q : Int32 → AH → Prop} (hd : d2 + 1 ≤ d) (ha : At h b (.inr (10, vs))) (call : RQ G mX12_firstIn d2 0 [some (.ref b), some (.int a0)] [] h (Ri Q)) (k : ∀ x h1, Q x h1 → RQ G mL_law d 853 [x0, x1, x2, x3, x4, x5, x6, x7, x8] (.int x :: S) h1 P) (hst : (S.map fun v => v.category).sum ≤ 8 := by exact Nat.le_of_ble_eq_true rfl)  : RQ G mL_law d 850 [x0, x1, x2, x3, x4, x5, x6, x7, x8] (.int a0 :: .ref b :: S) h P := q_callV (M := mL_law) (pc := 850) (M2 := mX12_firstIn) (As := [.int a0]) (n := 1) dL_law_850 rfl ⟨by decide, by decide, by decide, rfl⟩ rfl w1752 w1753 w1754 w120 w1755 (show CL[10]? = some (RX12, TX12, 25) from rfl) hd (by decide) (Nat.le_of_ble_eq_true rfl) rfl ha hst call (callk_i k)
theorem tL_law_853 {v : Int32} (ho : ok1 x5 = true := by rfl) (r : RQ G mL_law d 855 [x0, x1, x2, x3, x4, x5, some (.int v), x7, x8] (S) (h) P) : RQ G mL_law d 853 [x0, x1, x2, x3, x4, x5, x6, x7, x8] (.int v :: S) h P := q_istore (M := mL_law) (pc := 853) dL_law_853 (Nat.le_of_ble_eq_true rfl) ho r
theorem tL_law_855 {k : Nat} (r : RQ G mL_law d 856 [x0, x1, some (.ref k), x3, x4, x5, x6, x7, x8] (.ref k :: S) (h) P) : RQ G mL_law d 855 [x0, x1, some (.ref k), x3, x4, x5, x6, x7, x8] (S) h P := q_aload_n (M := mL_law) (pc := 855) (r0 := some k) dL_law_855 rfl rfl r
theorem tL_law_856 {b d2 : Nat} {vs : List Value}  {Q : Int32 → AH → Prop} (hd : d2 + 1 ≤ d) (ha : At h b (.inr (10, vs))) (call : RQ G mX12_thrown d2 0 [some (.ref b)] [] h (Ri Q)) (k : ∀ x h1, Q x h1 → RQ G mL_law d 859 [x0, x1, x2, x3, x4, x5, x6, x7, x8] (.int x :: S) h1 P) (hst : (S.map fun v => v.category).sum ≤ 8 := by exact Nat.le_of_ble_eq_true rfl)  : RQ G mL_law d 856 [x0, x1, x2, x3, x4, x5, x6, x7, x8] (.ref b :: S) h P := q_callV (M := mL_law) (pc := 856) (M2 := mX12_thrown) (As := []) (n := 0) dL_law_856 rfl ⟨by decide, by decide, by decide, rfl⟩ rfl w1499 w1500 w1501 w120 w1502 (show CL[10]? = some (RX12, TX12, 25) from rfl) hd (by decide) (Nat.le_of_ble_eq_true rfl) rfl ha hst call (callk_i k)
theorem tL_law_859 {v : Int32} (r : RQ G mL_law d 861 [x0, x1, x2, x3, x4, some (.int v), x6, x7, x8] (.int v :: S) (h) P) : RQ G mL_law d 859 [x0, x1, x2, x3, x4, some (.int v), x6, x7, x8] (S) h P := q_iload (M := mL_law) (pc := 859) dL_law_859 rfl r
theorem tL_law_861 {x y : Int32} (kt : x = y → RQ G mL_law d 866 [x0, x1, x2, x3, x4, x5, x6, x7, x8] S h P) (kf : ¬ x = y → RQ G mL_law d 864 [x0, x1, x2, x3, x4, x5, x6, x7, x8] S h P) : RQ G mL_law d 861 [x0, x1, x2, x3, x4, x5, x6, x7, x8] (.int y :: .int x :: S) h P := q_icmp_eq (M := mL_law) (pc := 861) dL_law_861 (by decide) kt kf
theorem tL_law_864 (r : RQ G mL_law d 865 [x0, x1, x2, x3, x4, x5, x6, x7, x8] (.int (nI 0) :: S) (h) P) : RQ G mL_law d 864 [x0, x1, x2, x3, x4, x5, x6, x7, x8] (S) h P := q_iconst (M := mL_law) (pc := 864) dL_law_864 (by decide) r
theorem tL_law_865 {x : Int32} (hb : x = nI 0 ∨ x = nI 1) (hP : P (.inl (some (.int x))) h) : RQ G mL_law d 865 [x0, x1, x2, x3, x4, x5, x6, x7, x8] ([.int x]) h P := q_ireturn (M := mL_law) (pc := 865) (ty := .boolean) dL_law_865 rfl (nar_bool hb) hP
theorem tL_law_866 {v : Int32} (r : RQ G mL_law d 868 [x0, x1, x2, x3, x4, some (.int v), x6, x7, x8] (.int v :: S) (h) P) : RQ G mL_law d 866 [x0, x1, x2, x3, x4, some (.int v), x6, x7, x8] (S) h P := q_iload (M := mL_law) (pc := 866) dL_law_866 rfl r
theorem tL_law_868 {x : Int32} (kt : ¬ x = 0 → RQ G mL_law d 883 [x0, x1, x2, x3, x4, x5, x6, x7, x8] S h P) (kf : x = 0 → RQ G mL_law d 871 [x0, x1, x2, x3, x4, x5, x6, x7, x8] S h P) : RQ G mL_law d 868 [x0, x1, x2, x3, x4, x5, x6, x7, x8] (.int x :: S) h P := q_if_ne (M := mL_law) (pc := 868) dL_law_868 (by decide) kt kf
theorem tL_law_871 {k : Nat} (r : RQ G mL_law d 872 [x0, x1, x2, some (.ref k), x4, x5, x6, x7, x8] (.ref k :: S) (h) P) : RQ G mL_law d 871 [x0, x1, x2, some (.ref k), x4, x5, x6, x7, x8] (S) h P := q_aload_n (M := mL_law) (pc := 871) (r0 := some k) dL_law_871 rfl rfl r
theorem tL_law_872 (r : RQ G mL_law d 873 [x0, x1, x2, x3, x4, x5, x6, x7, x8] (.int (nI 0) :: S) (h) P) : RQ G mL_law d 872 [x0, x1, x2, x3, x4, x5, x6, x7, x8] (S) h P := q_iconst (M := mL_law) (pc := 872) dL_law_872 (by decide) r
theorem tL_law_873 {a n j : Nat} {x : Int32} {f : Nat → Int64} (ha : At h a (.inl (2, n, .inr (.inl f)))) (hx : x = nI j) (hj : j < n) (hn : n < 2147483648) (r : RQ G mL_law d 874 [x0, x1, x2, x3, x4, x5, x6, x7, x8] (.long (f j) :: S) (h) P) : RQ G mL_law d 873 [x0, x1, x2, x3, x4, x5, x6, x7, x8] (.int x :: .ref a :: S) h P := q_lald (M := mL_law) (pc := 873) dL_law_873 ha hx hj hn r
theorem tL_law_874 {v : Int32} (r : RQ G mL_law d 876 [x0, x1, x2, x3, x4, x5, some (.int v), x7, x8] (.int v :: S) (h) P) : RQ G mL_law d 874 [x0, x1, x2, x3, x4, x5, some (.int v), x7, x8] (S) h P := q_iload (M := mL_law) (pc := 874) dL_law_874 rfl r
theorem tL_law_876 {x : Int32} (r : RQ G mL_law d 877 [x0, x1, x2, x3, x4, x5, x6, x7, x8] (.long x.toInt64 :: S) (h) P) : RQ G mL_law d 876 [x0, x1, x2, x3, x4, x5, x6, x7, x8] (.int x :: S) h P := q_i2l (M := mL_law) (pc := 876) dL_law_876 r
theorem tL_law_877 {x y : Int64} (r : RQ G mL_law d 878 [x0, x1, x2, x3, x4, x5, x6, x7, x8] (.int (lg_cmp x y) :: S) (h) P) : RQ G mL_law d 877 [x0, x1, x2, x3, x4, x5, x6, x7, x8] (.long y :: .long x :: S) h P := q_lcmp (M := mL_law) (pc := 877) dL_law_877 r
theorem tL_law_878 {x : Int32} (kt : x = 0 → RQ G mL_law d 883 [x0, x1, x2, x3, x4, x5, x6, x7, x8] S h P) (kf : ¬ x = 0 → RQ G mL_law d 881 [x0, x1, x2, x3, x4, x5, x6, x7, x8] S h P) : RQ G mL_law d 878 [x0, x1, x2, x3, x4, x5, x6, x7, x8] (.int x :: S) h P := q_if_eq (M := mL_law) (pc := 878) dL_law_878 (by decide) kt kf
theorem tL_law_881 (r : RQ G mL_law d 882 [x0, x1, x2, x3, x4, x5, x6, x7, x8] (.int (nI 0) :: S) (h) P) : RQ G mL_law d 881 [x0, x1, x2, x3, x4, x5, x6, x7, x8] (S) h P := q_iconst (M := mL_law) (pc := 881) dL_law_881 (by decide) r
theorem tL_law_882 {x : Int32} (hb : x = nI 0 ∨ x = nI 1) (hP : P (.inl (some (.int x))) h) : RQ G mL_law d 882 [x0, x1, x2, x3, x4, x5, x6, x7, x8] ([.int x]) h P := q_ireturn (M := mL_law) (pc := 882) (ty := .boolean) dL_law_882 rfl (nar_bool hb) hP
theorem tL_law_883 (r : RQ G mL_law d 2189 [x0, x1, x2, x3, x4, x5, x6, x7, x8] S h P) : RQ G mL_law d 883 [x0, x1, x2, x3, x4, x5, x6, x7, x8] (S) h P := q_goto (M := mL_law) (pc := 883) dL_law_883 (by decide) r
theorem tL_law_886 {k : Nat} (r : RQ G mL_law d 887 [x0, some (.ref k), x2, x3, x4, x5, x6, x7, x8] (.ref k :: S) (h) P) : RQ G mL_law d 886 [x0, some (.ref k), x2, x3, x4, x5, x6, x7, x8] (S) h P := q_aload_n (M := mL_law) (pc := 886) (r0 := some k) dL_law_886 rfl rfl r
theorem tL_law_887 {k : Nat} (r : RQ G mL_law d 888 [some (.ref k), x1, x2, x3, x4, x5, x6, x7, x8] (.ref k :: S) (h) P) : RQ G mL_law d 887 [some (.ref k), x1, x2, x3, x4, x5, x6, x7, x8] (S) h P := q_aload_n (M := mL_law) (pc := 887) (r0 := some k) dL_law_887 rfl rfl r
theorem tL_law_888 {v : Int32} (r : RQ G mL_law d 890 [x0, x1, x2, x3, some (.int v), x5, x6, x7, x8] (.int v :: S) (h) P) : RQ G mL_law d 888 [x0, x1, x2, x3, some (.int v), x5, x6, x7, x8] (S) h P := q_iload (M := mL_law) (pc := 888) dL_law_888 rfl r
theorem tL_law_890 (r : RQ G mL_law d 891 [x0, x1, x2, x3, x4, x5, x6, x7, x8] (.int (nI 1) :: S) (h) P) : RQ G mL_law d 890 [x0, x1, x2, x3, x4, x5, x6, x7, x8] (S) h P := q_iconst (M := mL_law) (pc := 890) dL_law_890 (by decide) r
theorem tL_law_891 {x y : Int32} (r : RQ G mL_law d 892 [x0, x1, x2, x3, x4, x5, x6, x7, x8] (.int (x + y) :: S) (h) P) : RQ G mL_law d 891 [x0, x1, x2, x3, x4, x5, x6, x7, x8] (.int y :: .int x :: S) h P := q_iadd (M := mL_law) (pc := 891) dL_law_891 r
theorem tL_law_892 {j : Nat} {x : Int32} (hx : x = nI j) (hj : j < gN G) (hn : gN G < 2147483648) (r : RQ G mL_law d 893 [x0, x1, x2, x3, x4, x5, x6, x7, x8] (.int (gX G j) :: S) (h) P) : RQ G mL_law d 892 [x0, x1, x2, x3, x4, x5, x6, x7, x8] (.int x :: .ref (OLD + 999) :: S) h P := q_sld (M := mL_law) (pc := 892) dL_law_892 hx hj hn r
theorem tL_law_893 {k : Nat} (r : RQ G mL_law d 894 [x0, x1, x2, some (.ref k), x4, x5, x6, x7, x8] (.ref k :: S) (h) P) : RQ G mL_law d 893 [x0, x1, x2, some (.ref k), x4, x5, x6, x7, x8] (S) h P := q_aload_n (M := mL_law) (pc := 893) (r0 := some k) dL_law_893 rfl rfl r
theorem tL_law_894 {d2 : Nat} {a0 : Nat} {a1 : Int32} {a2 : Nat} {Q : Int32 → AH → Prop} (hd : d2 + 1 ≤ d) (call : RQ G mL_marginIn d2 0 [some (.ref a0), some (.int a1), some (.ref a2), none] [] h (Ri Q)) (k : ∀ x h1, Q x h1 → RQ G mL_law d 897 [x0, x1, x2, x3, x4, x5, x6, x7, x8] (.int x :: S) h1 P) (hst : (S.map fun v => v.category).sum ≤ 8 := by exact Nat.le_of_ble_eq_true rfl)  : RQ G mL_law d 894 [x0, x1, x2, x3, x4, x5, x6, x7, x8] (.ref a2 :: .int a1 :: .ref a0 :: S) h P := q_callSW (M := mL_law) (pc := 894) (M2 := mL_marginIn) (As := [.ref a0, .int a1, .ref a2]) (n := 3) dL_law_894 ⟨by decide, by decide, by decide, rfl⟩ w1188 w1189 w108 w1190 hd (by decide) (Nat.le_of_ble_eq_true rfl) rfl hst call (callk_i k)
theorem tL_law_897 {v : Int32} (ho : ok1 x4 = true := by rfl) (r : RQ G mL_law d 899 [x0, x1, x2, x3, x4, some (.int v), x6, x7, x8] (S) (h) P) : RQ G mL_law d 897 [x0, x1, x2, x3, x4, x5, x6, x7, x8] (.int v :: S) h P := q_istore (M := mL_law) (pc := 897) dL_law_897 (Nat.le_of_ble_eq_true rfl) ho r
theorem tL_law_899 {k : Nat} (r : RQ G mL_law d 900 [x0, x1, some (.ref k), x3, x4, x5, x6, x7, x8] (.ref k :: S) (h) P) : RQ G mL_law d 899 [x0, x1, some (.ref k), x3, x4, x5, x6, x7, x8] (S) h P := q_aload_n (M := mL_law) (pc := 899) (r0 := some k) dL_law_899 rfl rfl r
theorem tL_law_900 {k : Nat} (r : RQ G mL_law d 901 [some (.ref k), x1, x2, x3, x4, x5, x6, x7, x8] (.ref k :: S) (h) P) : RQ G mL_law d 900 [some (.ref k), x1, x2, x3, x4, x5, x6, x7, x8] (S) h P := q_aload_n (M := mL_law) (pc := 900) (r0 := some k) dL_law_900 rfl rfl r
theorem tL_law_901 {v : Int32} (r : RQ G mL_law d 903 [x0, x1, x2, x3, some (.int v), x5, x6, x7, x8] (.int v :: S) (h) P) : RQ G mL_law d 901 [x0, x1, x2, x3, some (.int v), x5, x6, x7, x8] (S) h P := q_iload (M := mL_law) (pc := 901) dL_law_901 rfl r
theorem tL_law_903 (r : RQ G mL_law d 904 [x0, x1, x2, x3, x4, x5, x6, x7, x8] (.int (nI 1) :: S) (h) P) : RQ G mL_law d 903 [x0, x1, x2, x3, x4, x5, x6, x7, x8] (S) h P := q_iconst (M := mL_law) (pc := 903) dL_law_903 (by decide) r
theorem tL_law_904 {x y : Int32} (r : RQ G mL_law d 905 [x0, x1, x2, x3, x4, x5, x6, x7, x8] (.int (x + y) :: S) (h) P) : RQ G mL_law d 904 [x0, x1, x2, x3, x4, x5, x6, x7, x8] (.int y :: .int x :: S) h P := q_iadd (M := mL_law) (pc := 904) dL_law_904 r
theorem tL_law_905 {j : Nat} {x : Int32} (hx : x = nI j) (hj : j < gN G) (hn : gN G < 2147483648) (r : RQ G mL_law d 906 [x0, x1, x2, x3, x4, x5, x6, x7, x8] (.int (gX G j) :: S) (h) P) : RQ G mL_law d 905 [x0, x1, x2, x3, x4, x5, x6, x7, x8] (.int x :: .ref (OLD + 999) :: S) h P := q_sld (M := mL_law) (pc := 905) dL_law_905 hx hj hn r
theorem tL_law_906 {b d2 : Nat} {vs : List Value} {a0 : Int32} {Q : Int32 → AH → Prop} (hd : d2 + 1 ≤ d) (ha : At h b (.inr (10, vs))) (call : RQ G mX12_marginIn d2 0 [some (.ref b), some (.int a0)] [] h (Ri Q)) (k : ∀ x h1, Q x h1 → RQ G mL_law d 909 [x0, x1, x2, x3, x4, x5, x6, x7, x8] (.int x :: S) h1 P) (hst : (S.map fun v => v.category).sum ≤ 8 := by exact Nat.le_of_ble_eq_true rfl)  : RQ G mL_law d 906 [x0, x1, x2, x3, x4, x5, x6, x7, x8] (.int a0 :: .ref b :: S) h P := q_callV (M := mL_law) (pc := 906) (M2 := mX12_marginIn) (As := [.int a0]) (n := 1) dL_law_906 rfl ⟨by decide, by decide, by decide, rfl⟩ rfl w1768 w1769 w1770 w120 w1771 (show CL[10]? = some (RX12, TX12, 25) from rfl) hd (by decide) (Nat.le_of_ble_eq_true rfl) rfl ha hst call (callk_i k)
theorem tL_law_909 {v : Int32} (ho : ok1 x5 = true := by rfl) (r : RQ G mL_law d 911 [x0, x1, x2, x3, x4, x5, some (.int v), x7, x8] (S) (h) P) : RQ G mL_law d 909 [x0, x1, x2, x3, x4, x5, x6, x7, x8] (.int v :: S) h P := q_istore (M := mL_law) (pc := 909) dL_law_909 (Nat.le_of_ble_eq_true rfl) ho r
theorem tL_law_911 {k : Nat} (r : RQ G mL_law d 912 [x0, x1, some (.ref k), x3, x4, x5, x6, x7, x8] (.ref k :: S) (h) P) : RQ G mL_law d 911 [x0, x1, some (.ref k), x3, x4, x5, x6, x7, x8] (S) h P := q_aload_n (M := mL_law) (pc := 911) (r0 := some k) dL_law_911 rfl rfl r
theorem tL_law_912 {b d2 : Nat} {vs : List Value}  {Q : Int32 → AH → Prop} (hd : d2 + 1 ≤ d) (ha : At h b (.inr (10, vs))) (call : RQ G mX12_thrown d2 0 [some (.ref b)] [] h (Ri Q)) (k : ∀ x h1, Q x h1 → RQ G mL_law d 915 [x0, x1, x2, x3, x4, x5, x6, x7, x8] (.int x :: S) h1 P) (hst : (S.map fun v => v.category).sum ≤ 8 := by exact Nat.le_of_ble_eq_true rfl)  : RQ G mL_law d 912 [x0, x1, x2, x3, x4, x5, x6, x7, x8] (.ref b :: S) h P := q_callV (M := mL_law) (pc := 912) (M2 := mX12_thrown) (As := []) (n := 0) dL_law_912 rfl ⟨by decide, by decide, by decide, rfl⟩ rfl w1499 w1500 w1501 w120 w1502 (show CL[10]? = some (RX12, TX12, 25) from rfl) hd (by decide) (Nat.le_of_ble_eq_true rfl) rfl ha hst call (callk_i k)
theorem tL_law_915 {v : Int32} (r : RQ G mL_law d 917 [x0, x1, x2, x3, x4, some (.int v), x6, x7, x8] (.int v :: S) (h) P) : RQ G mL_law d 915 [x0, x1, x2, x3, x4, some (.int v), x6, x7, x8] (S) h P := q_iload (M := mL_law) (pc := 915) dL_law_915 rfl r
theorem tL_law_917 {x y : Int32} (kt : x = y → RQ G mL_law d 922 [x0, x1, x2, x3, x4, x5, x6, x7, x8] S h P) (kf : ¬ x = y → RQ G mL_law d 920 [x0, x1, x2, x3, x4, x5, x6, x7, x8] S h P) : RQ G mL_law d 917 [x0, x1, x2, x3, x4, x5, x6, x7, x8] (.int y :: .int x :: S) h P := q_icmp_eq (M := mL_law) (pc := 917) dL_law_917 (by decide) kt kf
theorem tL_law_920 (r : RQ G mL_law d 921 [x0, x1, x2, x3, x4, x5, x6, x7, x8] (.int (nI 0) :: S) (h) P) : RQ G mL_law d 920 [x0, x1, x2, x3, x4, x5, x6, x7, x8] (S) h P := q_iconst (M := mL_law) (pc := 920) dL_law_920 (by decide) r
theorem tL_law_921 {x : Int32} (hb : x = nI 0 ∨ x = nI 1) (hP : P (.inl (some (.int x))) h) : RQ G mL_law d 921 [x0, x1, x2, x3, x4, x5, x6, x7, x8] ([.int x]) h P := q_ireturn (M := mL_law) (pc := 921) (ty := .boolean) dL_law_921 rfl (nar_bool hb) hP
theorem tL_law_922 {v : Int32} (r : RQ G mL_law d 924 [x0, x1, x2, x3, x4, some (.int v), x6, x7, x8] (.int v :: S) (h) P) : RQ G mL_law d 922 [x0, x1, x2, x3, x4, some (.int v), x6, x7, x8] (S) h P := q_iload (M := mL_law) (pc := 922) dL_law_922 rfl r
theorem tL_law_924 {x : Int32} (kt : ¬ x = 0 → RQ G mL_law d 939 [x0, x1, x2, x3, x4, x5, x6, x7, x8] S h P) (kf : x = 0 → RQ G mL_law d 927 [x0, x1, x2, x3, x4, x5, x6, x7, x8] S h P) : RQ G mL_law d 924 [x0, x1, x2, x3, x4, x5, x6, x7, x8] (.int x :: S) h P := q_if_ne (M := mL_law) (pc := 924) dL_law_924 (by decide) kt kf
theorem tL_law_927 {k : Nat} (r : RQ G mL_law d 928 [x0, x1, x2, some (.ref k), x4, x5, x6, x7, x8] (.ref k :: S) (h) P) : RQ G mL_law d 927 [x0, x1, x2, some (.ref k), x4, x5, x6, x7, x8] (S) h P := q_aload_n (M := mL_law) (pc := 927) (r0 := some k) dL_law_927 rfl rfl r
theorem tL_law_928 (r : RQ G mL_law d 929 [x0, x1, x2, x3, x4, x5, x6, x7, x8] (.int (nI 0) :: S) (h) P) : RQ G mL_law d 928 [x0, x1, x2, x3, x4, x5, x6, x7, x8] (S) h P := q_iconst (M := mL_law) (pc := 928) dL_law_928 (by decide) r
theorem tL_law_929 {a n j : Nat} {x : Int32} {f : Nat → Int64} (ha : At h a (.inl (2, n, .inr (.inl f)))) (hx : x = nI j) (hj : j < n) (hn : n < 2147483648) (r : RQ G mL_law d 930 [x0, x1, x2, x3, x4, x5, x6, x7, x8] (.long (f j) :: S) (h) P) : RQ G mL_law d 929 [x0, x1, x2, x3, x4, x5, x6, x7, x8] (.int x :: .ref a :: S) h P := q_lald (M := mL_law) (pc := 929) dL_law_929 ha hx hj hn r
theorem tL_law_930 {v : Int32} (r : RQ G mL_law d 932 [x0, x1, x2, x3, x4, x5, some (.int v), x7, x8] (.int v :: S) (h) P) : RQ G mL_law d 930 [x0, x1, x2, x3, x4, x5, some (.int v), x7, x8] (S) h P := q_iload (M := mL_law) (pc := 930) dL_law_930 rfl r
theorem tL_law_932 {x : Int32} (r : RQ G mL_law d 933 [x0, x1, x2, x3, x4, x5, x6, x7, x8] (.long x.toInt64 :: S) (h) P) : RQ G mL_law d 932 [x0, x1, x2, x3, x4, x5, x6, x7, x8] (.int x :: S) h P := q_i2l (M := mL_law) (pc := 932) dL_law_932 r
theorem tL_law_933 {x y : Int64} (r : RQ G mL_law d 934 [x0, x1, x2, x3, x4, x5, x6, x7, x8] (.int (lg_cmp x y) :: S) (h) P) : RQ G mL_law d 933 [x0, x1, x2, x3, x4, x5, x6, x7, x8] (.long y :: .long x :: S) h P := q_lcmp (M := mL_law) (pc := 933) dL_law_933 r
theorem tL_law_934 {x : Int32} (kt : x = 0 → RQ G mL_law d 939 [x0, x1, x2, x3, x4, x5, x6, x7, x8] S h P) (kf : ¬ x = 0 → RQ G mL_law d 937 [x0, x1, x2, x3, x4, x5, x6, x7, x8] S h P) : RQ G mL_law d 934 [x0, x1, x2, x3, x4, x5, x6, x7, x8] (.int x :: S) h P := q_if_eq (M := mL_law) (pc := 934) dL_law_934 (by decide) kt kf
theorem tL_law_937 (r : RQ G mL_law d 938 [x0, x1, x2, x3, x4, x5, x6, x7, x8] (.int (nI 0) :: S) (h) P) : RQ G mL_law d 937 [x0, x1, x2, x3, x4, x5, x6, x7, x8] (S) h P := q_iconst (M := mL_law) (pc := 937) dL_law_937 (by decide) r
theorem tL_law_938 {x : Int32} (hb : x = nI 0 ∨ x = nI 1) (hP : P (.inl (some (.int x))) h) : RQ G mL_law d 938 [x0, x1, x2, x3, x4, x5, x6, x7, x8] ([.int x]) h P := q_ireturn (M := mL_law) (pc := 938) (ty := .boolean) dL_law_938 rfl (nar_bool hb) hP
theorem tL_law_939 (r : RQ G mL_law d 2189 [x0, x1, x2, x3, x4, x5, x6, x7, x8] S h P) : RQ G mL_law d 939 [x0, x1, x2, x3, x4, x5, x6, x7, x8] (S) h P := q_goto (M := mL_law) (pc := 939) dL_law_939 (by decide) r
theorem tL_law_942 {k : Nat} (r : RQ G mL_law d 943 [x0, some (.ref k), x2, x3, x4, x5, x6, x7, x8] (.ref k :: S) (h) P) : RQ G mL_law d 942 [x0, some (.ref k), x2, x3, x4, x5, x6, x7, x8] (S) h P := q_aload_n (M := mL_law) (pc := 942) (r0 := some k) dL_law_942 rfl rfl r
theorem tL_law_943 {k : Nat} (r : RQ G mL_law d 944 [some (.ref k), x1, x2, x3, x4, x5, x6, x7, x8] (.ref k :: S) (h) P) : RQ G mL_law d 943 [some (.ref k), x1, x2, x3, x4, x5, x6, x7, x8] (S) h P := q_aload_n (M := mL_law) (pc := 943) (r0 := some k) dL_law_943 rfl rfl r
theorem tL_law_944 {v : Int32} (r : RQ G mL_law d 946 [x0, x1, x2, x3, some (.int v), x5, x6, x7, x8] (.int v :: S) (h) P) : RQ G mL_law d 944 [x0, x1, x2, x3, some (.int v), x5, x6, x7, x8] (S) h P := q_iload (M := mL_law) (pc := 944) dL_law_944 rfl r
theorem tL_law_946 (r : RQ G mL_law d 947 [x0, x1, x2, x3, x4, x5, x6, x7, x8] (.int (nI 1) :: S) (h) P) : RQ G mL_law d 946 [x0, x1, x2, x3, x4, x5, x6, x7, x8] (S) h P := q_iconst (M := mL_law) (pc := 946) dL_law_946 (by decide) r
theorem tL_law_947 {x y : Int32} (r : RQ G mL_law d 948 [x0, x1, x2, x3, x4, x5, x6, x7, x8] (.int (x + y) :: S) (h) P) : RQ G mL_law d 947 [x0, x1, x2, x3, x4, x5, x6, x7, x8] (.int y :: .int x :: S) h P := q_iadd (M := mL_law) (pc := 947) dL_law_947 r
theorem tL_law_948 {j : Nat} {x : Int32} (hx : x = nI j) (hj : j < gN G) (hn : gN G < 2147483648) (r : RQ G mL_law d 949 [x0, x1, x2, x3, x4, x5, x6, x7, x8] (.int (gX G j) :: S) (h) P) : RQ G mL_law d 948 [x0, x1, x2, x3, x4, x5, x6, x7, x8] (.int x :: .ref (OLD + 999) :: S) h P := q_sld (M := mL_law) (pc := 948) dL_law_948 hx hj hn r
theorem tL_law_949 {k : Nat} (r : RQ G mL_law d 950 [some (.ref k), x1, x2, x3, x4, x5, x6, x7, x8] (.ref k :: S) (h) P) : RQ G mL_law d 949 [some (.ref k), x1, x2, x3, x4, x5, x6, x7, x8] (S) h P := q_aload_n (M := mL_law) (pc := 949) (r0 := some k) dL_law_949 rfl rfl r
theorem tL_law_950 {v : Int32} (r : RQ G mL_law d 952 [x0, x1, x2, x3, some (.int v), x5, x6, x7, x8] (.int v :: S) (h) P) : RQ G mL_law d 950 [x0, x1, x2, x3, some (.int v), x5, x6, x7, x8] (S) h P := q_iload (M := mL_law) (pc := 950) dL_law_950 rfl r
theorem tL_law_952 (r : RQ G mL_law d 953 [x0, x1, x2, x3, x4, x5, x6, x7, x8] (.int (nI 2) :: S) (h) P) : RQ G mL_law d 952 [x0, x1, x2, x3, x4, x5, x6, x7, x8] (S) h P := q_iconst (M := mL_law) (pc := 952) dL_law_952 (by decide) r
theorem tL_law_953 {x y : Int32} (r : RQ G mL_law d 954 [x0, x1, x2, x3, x4, x5, x6, x7, x8] (.int (x + y) :: S) (h) P) : RQ G mL_law d 953 [x0, x1, x2, x3, x4, x5, x6, x7, x8] (.int y :: .int x :: S) h P := q_iadd (M := mL_law) (pc := 953) dL_law_953 r
theorem tL_law_954 {j : Nat} {x : Int32} (hx : x = nI j) (hj : j < gN G) (hn : gN G < 2147483648) (r : RQ G mL_law d 955 [x0, x1, x2, x3, x4, x5, x6, x7, x8] (.int (gX G j) :: S) (h) P) : RQ G mL_law d 954 [x0, x1, x2, x3, x4, x5, x6, x7, x8] (.int x :: .ref (OLD + 999) :: S) h P := q_sld (M := mL_law) (pc := 954) dL_law_954 hx hj hn r
theorem tL_law_955 {k : Nat} (r : RQ G mL_law d 956 [x0, x1, x2, some (.ref k), x4, x5, x6, x7, x8] (.ref k :: S) (h) P) : RQ G mL_law d 955 [x0, x1, x2, some (.ref k), x4, x5, x6, x7, x8] (S) h P := q_aload_n (M := mL_law) (pc := 955) (r0 := some k) dL_law_955 rfl rfl r
theorem tL_law_956 {d2 : Nat} {a0 : Nat} {a1 : Int32} {a2 : Int32} {a3 : Nat} {Q : Int32 → AH → Prop} (hd : d2 + 1 ≤ d) (call : RQ G mL_allianceBeans d2 0 [some (.ref a0), some (.int a1), some (.int a2), some (.ref a3), none] [] h (Ri Q)) (k : ∀ x h1, Q x h1 → RQ G mL_law d 959 [x0, x1, x2, x3, x4, x5, x6, x7, x8] (.int x :: S) h1 P) (hst : (S.map fun v => v.category).sum ≤ 8 := by exact Nat.le_of_ble_eq_true rfl)  : RQ G mL_law d 956 [x0, x1, x2, x3, x4, x5, x6, x7, x8] (.ref a3 :: .int a2 :: .int a1 :: .ref a0 :: S) h P := q_callSW (M := mL_law) (pc := 956) (M2 := mL_allianceBeans) (As := [.ref a0, .int a1, .int a2, .ref a3]) (n := 4) dL_law_956 ⟨by decide, by decide, by decide, rfl⟩ w1192 w1193 w108 w1194 hd (by decide) (Nat.le_of_ble_eq_true rfl) rfl hst call (callk_i k)
theorem tL_law_959 {v : Int32} (ho : ok1 x4 = true := by rfl) (r : RQ G mL_law d 961 [x0, x1, x2, x3, x4, some (.int v), x6, x7, x8] (S) (h) P) : RQ G mL_law d 959 [x0, x1, x2, x3, x4, x5, x6, x7, x8] (.int v :: S) h P := q_istore (M := mL_law) (pc := 959) dL_law_959 (Nat.le_of_ble_eq_true rfl) ho r
theorem tL_law_961 {k : Nat} (r : RQ G mL_law d 962 [x0, x1, some (.ref k), x3, x4, x5, x6, x7, x8] (.ref k :: S) (h) P) : RQ G mL_law d 961 [x0, x1, some (.ref k), x3, x4, x5, x6, x7, x8] (S) h P := q_aload_n (M := mL_law) (pc := 961) (r0 := some k) dL_law_961 rfl rfl r
theorem tL_law_962 {k : Nat} (r : RQ G mL_law d 963 [some (.ref k), x1, x2, x3, x4, x5, x6, x7, x8] (.ref k :: S) (h) P) : RQ G mL_law d 962 [some (.ref k), x1, x2, x3, x4, x5, x6, x7, x8] (S) h P := q_aload_n (M := mL_law) (pc := 962) (r0 := some k) dL_law_962 rfl rfl r
theorem tL_law_963 {v : Int32} (r : RQ G mL_law d 965 [x0, x1, x2, x3, some (.int v), x5, x6, x7, x8] (.int v :: S) (h) P) : RQ G mL_law d 963 [x0, x1, x2, x3, some (.int v), x5, x6, x7, x8] (S) h P := q_iload (M := mL_law) (pc := 963) dL_law_963 rfl r
theorem tL_law_965 (r : RQ G mL_law d 966 [x0, x1, x2, x3, x4, x5, x6, x7, x8] (.int (nI 1) :: S) (h) P) : RQ G mL_law d 965 [x0, x1, x2, x3, x4, x5, x6, x7, x8] (S) h P := q_iconst (M := mL_law) (pc := 965) dL_law_965 (by decide) r
theorem tL_law_966 {x y : Int32} (r : RQ G mL_law d 967 [x0, x1, x2, x3, x4, x5, x6, x7, x8] (.int (x + y) :: S) (h) P) : RQ G mL_law d 966 [x0, x1, x2, x3, x4, x5, x6, x7, x8] (.int y :: .int x :: S) h P := q_iadd (M := mL_law) (pc := 966) dL_law_966 r
theorem tL_law_967 {j : Nat} {x : Int32} (hx : x = nI j) (hj : j < gN G) (hn : gN G < 2147483648) (r : RQ G mL_law d 968 [x0, x1, x2, x3, x4, x5, x6, x7, x8] (.int (gX G j) :: S) (h) P) : RQ G mL_law d 967 [x0, x1, x2, x3, x4, x5, x6, x7, x8] (.int x :: .ref (OLD + 999) :: S) h P := q_sld (M := mL_law) (pc := 967) dL_law_967 hx hj hn r
theorem tL_law_968 {k : Nat} (r : RQ G mL_law d 969 [some (.ref k), x1, x2, x3, x4, x5, x6, x7, x8] (.ref k :: S) (h) P) : RQ G mL_law d 968 [some (.ref k), x1, x2, x3, x4, x5, x6, x7, x8] (S) h P := q_aload_n (M := mL_law) (pc := 968) (r0 := some k) dL_law_968 rfl rfl r
theorem tL_law_969 {v : Int32} (r : RQ G mL_law d 971 [x0, x1, x2, x3, some (.int v), x5, x6, x7, x8] (.int v :: S) (h) P) : RQ G mL_law d 969 [x0, x1, x2, x3, some (.int v), x5, x6, x7, x8] (S) h P := q_iload (M := mL_law) (pc := 969) dL_law_969 rfl r
theorem tL_law_971 (r : RQ G mL_law d 972 [x0, x1, x2, x3, x4, x5, x6, x7, x8] (.int (nI 2) :: S) (h) P) : RQ G mL_law d 971 [x0, x1, x2, x3, x4, x5, x6, x7, x8] (S) h P := q_iconst (M := mL_law) (pc := 971) dL_law_971 (by decide) r
theorem tL_law_972 {x y : Int32} (r : RQ G mL_law d 973 [x0, x1, x2, x3, x4, x5, x6, x7, x8] (.int (x + y) :: S) (h) P) : RQ G mL_law d 972 [x0, x1, x2, x3, x4, x5, x6, x7, x8] (.int y :: .int x :: S) h P := q_iadd (M := mL_law) (pc := 972) dL_law_972 r
theorem tL_law_973 {j : Nat} {x : Int32} (hx : x = nI j) (hj : j < gN G) (hn : gN G < 2147483648) (r : RQ G mL_law d 974 [x0, x1, x2, x3, x4, x5, x6, x7, x8] (.int (gX G j) :: S) (h) P) : RQ G mL_law d 973 [x0, x1, x2, x3, x4, x5, x6, x7, x8] (.int x :: .ref (OLD + 999) :: S) h P := q_sld (M := mL_law) (pc := 973) dL_law_973 hx hj hn r
theorem tL_law_974 {b d2 : Nat} {vs : List Value} {a0 : Int32} {a1 : Int32} {Q : Int32 → AH → Prop} (hd : d2 + 1 ≤ d) (ha : At h b (.inr (10, vs))) (call : RQ G mX12_allianceBeans d2 0 [some (.ref b), some (.int a0), some (.int a1)] [] h (Ri Q)) (k : ∀ x h1, Q x h1 → RQ G mL_law d 977 [x0, x1, x2, x3, x4, x5, x6, x7, x8] (.int x :: S) h1 P) (hst : (S.map fun v => v.category).sum ≤ 8 := by exact Nat.le_of_ble_eq_true rfl)  : RQ G mL_law d 974 [x0, x1, x2, x3, x4, x5, x6, x7, x8] (.int a1 :: .int a0 :: .ref b :: S) h P := q_callV (M := mL_law) (pc := 974) (M2 := mX12_allianceBeans) (As := [.int a0, .int a1]) (n := 2) dL_law_974 rfl ⟨by decide, by decide, by decide, rfl⟩ rfl w1777 w1778 w1779 w120 w1780 (show CL[10]? = some (RX12, TX12, 25) from rfl) hd (by decide) (Nat.le_of_ble_eq_true rfl) rfl ha hst call (callk_i k)
theorem tL_law_977 {v : Int32} (ho : ok1 x5 = true := by rfl) (r : RQ G mL_law d 979 [x0, x1, x2, x3, x4, x5, some (.int v), x7, x8] (S) (h) P) : RQ G mL_law d 977 [x0, x1, x2, x3, x4, x5, x6, x7, x8] (.int v :: S) h P := q_istore (M := mL_law) (pc := 977) dL_law_977 (Nat.le_of_ble_eq_true rfl) ho r
theorem tL_law_979 {k : Nat} (r : RQ G mL_law d 980 [x0, x1, some (.ref k), x3, x4, x5, x6, x7, x8] (.ref k :: S) (h) P) : RQ G mL_law d 979 [x0, x1, some (.ref k), x3, x4, x5, x6, x7, x8] (S) h P := q_aload_n (M := mL_law) (pc := 979) (r0 := some k) dL_law_979 rfl rfl r
theorem tL_law_980 {b d2 : Nat} {vs : List Value}  {Q : Int32 → AH → Prop} (hd : d2 + 1 ≤ d) (ha : At h b (.inr (10, vs))) (call : RQ G mX12_thrown d2 0 [some (.ref b)] [] h (Ri Q)) (k : ∀ x h1, Q x h1 → RQ G mL_law d 983 [x0, x1, x2, x3, x4, x5, x6, x7, x8] (.int x :: S) h1 P) (hst : (S.map fun v => v.category).sum ≤ 8 := by exact Nat.le_of_ble_eq_true rfl)  : RQ G mL_law d 980 [x0, x1, x2, x3, x4, x5, x6, x7, x8] (.ref b :: S) h P := q_callV (M := mL_law) (pc := 980) (M2 := mX12_thrown) (As := []) (n := 0) dL_law_980 rfl ⟨by decide, by decide, by decide, rfl⟩ rfl w1499 w1500 w1501 w120 w1502 (show CL[10]? = some (RX12, TX12, 25) from rfl) hd (by decide) (Nat.le_of_ble_eq_true rfl) rfl ha hst call (callk_i k)
theorem tL_law_983 {v : Int32} (r : RQ G mL_law d 985 [x0, x1, x2, x3, x4, some (.int v), x6, x7, x8] (.int v :: S) (h) P) : RQ G mL_law d 983 [x0, x1, x2, x3, x4, some (.int v), x6, x7, x8] (S) h P := q_iload (M := mL_law) (pc := 983) dL_law_983 rfl r
theorem tL_law_985 {x y : Int32} (kt : x = y → RQ G mL_law d 990 [x0, x1, x2, x3, x4, x5, x6, x7, x8] S h P) (kf : ¬ x = y → RQ G mL_law d 988 [x0, x1, x2, x3, x4, x5, x6, x7, x8] S h P) : RQ G mL_law d 985 [x0, x1, x2, x3, x4, x5, x6, x7, x8] (.int y :: .int x :: S) h P := q_icmp_eq (M := mL_law) (pc := 985) dL_law_985 (by decide) kt kf
theorem tL_law_988 (r : RQ G mL_law d 989 [x0, x1, x2, x3, x4, x5, x6, x7, x8] (.int (nI 0) :: S) (h) P) : RQ G mL_law d 988 [x0, x1, x2, x3, x4, x5, x6, x7, x8] (S) h P := q_iconst (M := mL_law) (pc := 988) dL_law_988 (by decide) r
theorem tL_law_989 {x : Int32} (hb : x = nI 0 ∨ x = nI 1) (hP : P (.inl (some (.int x))) h) : RQ G mL_law d 989 [x0, x1, x2, x3, x4, x5, x6, x7, x8] ([.int x]) h P := q_ireturn (M := mL_law) (pc := 989) (ty := .boolean) dL_law_989 rfl (nar_bool hb) hP
theorem tL_law_990 {v : Int32} (r : RQ G mL_law d 992 [x0, x1, x2, x3, x4, some (.int v), x6, x7, x8] (.int v :: S) (h) P) : RQ G mL_law d 990 [x0, x1, x2, x3, x4, some (.int v), x6, x7, x8] (S) h P := q_iload (M := mL_law) (pc := 990) dL_law_990 rfl r
theorem tL_law_992 {x : Int32} (kt : ¬ x = 0 → RQ G mL_law d 1007 [x0, x1, x2, x3, x4, x5, x6, x7, x8] S h P) (kf : x = 0 → RQ G mL_law d 995 [x0, x1, x2, x3, x4, x5, x6, x7, x8] S h P) : RQ G mL_law d 992 [x0, x1, x2, x3, x4, x5, x6, x7, x8] (.int x :: S) h P := q_if_ne (M := mL_law) (pc := 992) dL_law_992 (by decide) kt kf
theorem tL_law_995 {k : Nat} (r : RQ G mL_law d 996 [x0, x1, x2, some (.ref k), x4, x5, x6, x7, x8] (.ref k :: S) (h) P) : RQ G mL_law d 995 [x0, x1, x2, some (.ref k), x4, x5, x6, x7, x8] (S) h P := q_aload_n (M := mL_law) (pc := 995) (r0 := some k) dL_law_995 rfl rfl r
theorem tL_law_996 (r : RQ G mL_law d 997 [x0, x1, x2, x3, x4, x5, x6, x7, x8] (.int (nI 0) :: S) (h) P) : RQ G mL_law d 996 [x0, x1, x2, x3, x4, x5, x6, x7, x8] (S) h P := q_iconst (M := mL_law) (pc := 996) dL_law_996 (by decide) r
theorem tL_law_997 {a n j : Nat} {x : Int32} {f : Nat → Int64} (ha : At h a (.inl (2, n, .inr (.inl f)))) (hx : x = nI j) (hj : j < n) (hn : n < 2147483648) (r : RQ G mL_law d 998 [x0, x1, x2, x3, x4, x5, x6, x7, x8] (.long (f j) :: S) (h) P) : RQ G mL_law d 997 [x0, x1, x2, x3, x4, x5, x6, x7, x8] (.int x :: .ref a :: S) h P := q_lald (M := mL_law) (pc := 997) dL_law_997 ha hx hj hn r
theorem tL_law_998 {v : Int32} (r : RQ G mL_law d 1000 [x0, x1, x2, x3, x4, x5, some (.int v), x7, x8] (.int v :: S) (h) P) : RQ G mL_law d 998 [x0, x1, x2, x3, x4, x5, some (.int v), x7, x8] (S) h P := q_iload (M := mL_law) (pc := 998) dL_law_998 rfl r
theorem tL_law_1000 {x : Int32} (r : RQ G mL_law d 1001 [x0, x1, x2, x3, x4, x5, x6, x7, x8] (.long x.toInt64 :: S) (h) P) : RQ G mL_law d 1000 [x0, x1, x2, x3, x4, x5, x6, x7, x8] (.int x :: S) h P := q_i2l (M := mL_law) (pc := 1000) dL_law_1000 r
theorem tL_law_1001 {x y : Int64} (r : RQ G mL_law d 1002 [x0, x1, x2, x3, x4, x5, x6, x7, x8] (.int (lg_cmp x y) :: S) (h) P) : RQ G mL_law d 1001 [x0, x1, x2, x3, x4, x5, x6, x7, x8] (.long y :: .long x :: S) h P := q_lcmp (M := mL_law) (pc := 1001) dL_law_1001 r
theorem tL_law_1002 {x : Int32} (kt : x = 0 → RQ G mL_law d 1007 [x0, x1, x2, x3, x4, x5, x6, x7, x8] S h P) (kf : ¬ x = 0 → RQ G mL_law d 1005 [x0, x1, x2, x3, x4, x5, x6, x7, x8] S h P) : RQ G mL_law d 1002 [x0, x1, x2, x3, x4, x5, x6, x7, x8] (.int x :: S) h P := q_if_eq (M := mL_law) (pc := 1002) dL_law_1002 (by decide) kt kf
theorem tL_law_1005 (r : RQ G mL_law d 1006 [x0, x1, x2, x3, x4, x5, x6, x7, x8] (.int (nI 0) :: S) (h) P) : RQ G mL_law d 1005 [x0, x1, x2, x3, x4, x5, x6, x7, x8] (S) h P := q_iconst (M := mL_law) (pc := 1005) dL_law_1005 (by decide) r
theorem tL_law_1006 {x : Int32} (hb : x = nI 0 ∨ x = nI 1) (hP : P (.inl (some (.int x))) h) : RQ G mL_law d 1006 [x0, x1, x2, x3, x4, x5, x6, x7, x8] ([.int x]) h P := q_ireturn (M := mL_law) (pc := 1006) (ty := .boolean) dL_law_1006 rfl (nar_bool hb) hP
theorem tL_law_1007 (r : RQ G mL_law d 2189 [x0, x1, x2, x3, x4, x5, x6, x7, x8] S h P) : RQ G mL_law d 1007 [x0, x1, x2, x3, x4, x5, x6, x7, x8] (S) h P := q_goto (M := mL_law) (pc := 1007) dL_law_1007 (by decide) r
theorem tL_law_1010 {k : Nat} (r : RQ G mL_law d 1011 [x0, some (.ref k), x2, x3, x4, x5, x6, x7, x8] (.ref k :: S) (h) P) : RQ G mL_law d 1010 [x0, some (.ref k), x2, x3, x4, x5, x6, x7, x8] (S) h P := q_aload_n (M := mL_law) (pc := 1010) (r0 := some k) dL_law_1010 rfl rfl r
theorem tL_law_1011 {k : Nat} (r : RQ G mL_law d 1012 [some (.ref k), x1, x2, x3, x4, x5, x6, x7, x8] (.ref k :: S) (h) P) : RQ G mL_law d 1011 [some (.ref k), x1, x2, x3, x4, x5, x6, x7, x8] (S) h P := q_aload_n (M := mL_law) (pc := 1011) (r0 := some k) dL_law_1011 rfl rfl r
theorem tL_law_1012 {v : Int32} (r : RQ G mL_law d 1014 [x0, x1, x2, x3, some (.int v), x5, x6, x7, x8] (.int v :: S) (h) P) : RQ G mL_law d 1012 [x0, x1, x2, x3, some (.int v), x5, x6, x7, x8] (S) h P := q_iload (M := mL_law) (pc := 1012) dL_law_1012 rfl r
theorem tL_law_1014 (r : RQ G mL_law d 1015 [x0, x1, x2, x3, x4, x5, x6, x7, x8] (.int (nI 1) :: S) (h) P) : RQ G mL_law d 1014 [x0, x1, x2, x3, x4, x5, x6, x7, x8] (S) h P := q_iconst (M := mL_law) (pc := 1014) dL_law_1014 (by decide) r
theorem tL_law_1015 {x y : Int32} (r : RQ G mL_law d 1016 [x0, x1, x2, x3, x4, x5, x6, x7, x8] (.int (x + y) :: S) (h) P) : RQ G mL_law d 1015 [x0, x1, x2, x3, x4, x5, x6, x7, x8] (.int y :: .int x :: S) h P := q_iadd (M := mL_law) (pc := 1015) dL_law_1015 r
theorem tL_law_1016 {j : Nat} {x : Int32} (hx : x = nI j) (hj : j < gN G) (hn : gN G < 2147483648) (r : RQ G mL_law d 1017 [x0, x1, x2, x3, x4, x5, x6, x7, x8] (.int (gX G j) :: S) (h) P) : RQ G mL_law d 1016 [x0, x1, x2, x3, x4, x5, x6, x7, x8] (.int x :: .ref (OLD + 999) :: S) h P := q_sld (M := mL_law) (pc := 1016) dL_law_1016 hx hj hn r
theorem tL_law_1017 {k : Nat} (r : RQ G mL_law d 1018 [some (.ref k), x1, x2, x3, x4, x5, x6, x7, x8] (.ref k :: S) (h) P) : RQ G mL_law d 1017 [some (.ref k), x1, x2, x3, x4, x5, x6, x7, x8] (S) h P := q_aload_n (M := mL_law) (pc := 1017) (r0 := some k) dL_law_1017 rfl rfl r
theorem tL_law_1018 {v : Int32} (r : RQ G mL_law d 1020 [x0, x1, x2, x3, some (.int v), x5, x6, x7, x8] (.int v :: S) (h) P) : RQ G mL_law d 1018 [x0, x1, x2, x3, some (.int v), x5, x6, x7, x8] (S) h P := q_iload (M := mL_law) (pc := 1018) dL_law_1018 rfl r
theorem tL_law_1020 (r : RQ G mL_law d 1021 [x0, x1, x2, x3, x4, x5, x6, x7, x8] (.int (nI 2) :: S) (h) P) : RQ G mL_law d 1020 [x0, x1, x2, x3, x4, x5, x6, x7, x8] (S) h P := q_iconst (M := mL_law) (pc := 1020) dL_law_1020 (by decide) r
theorem tL_law_1021 {x y : Int32} (r : RQ G mL_law d 1022 [x0, x1, x2, x3, x4, x5, x6, x7, x8] (.int (x + y) :: S) (h) P) : RQ G mL_law d 1021 [x0, x1, x2, x3, x4, x5, x6, x7, x8] (.int y :: .int x :: S) h P := q_iadd (M := mL_law) (pc := 1021) dL_law_1021 r
theorem tL_law_1022 {j : Nat} {x : Int32} (hx : x = nI j) (hj : j < gN G) (hn : gN G < 2147483648) (r : RQ G mL_law d 1023 [x0, x1, x2, x3, x4, x5, x6, x7, x8] (.int (gX G j) :: S) (h) P) : RQ G mL_law d 1022 [x0, x1, x2, x3, x4, x5, x6, x7, x8] (.int x :: .ref (OLD + 999) :: S) h P := q_sld (M := mL_law) (pc := 1022) dL_law_1022 hx hj hn r
theorem tL_law_1023 {k : Nat} (r : RQ G mL_law d 1024 [x0, x1, x2, some (.ref k), x4, x5, x6, x7, x8] (.ref k :: S) (h) P) : RQ G mL_law d 1023 [x0, x1, x2, some (.ref k), x4, x5, x6, x7, x8] (S) h P := q_aload_n (M := mL_law) (pc := 1023) (r0 := some k) dL_law_1023 rfl rfl r
theorem tL_law_1024 {d2 : Nat} {a0 : Nat} {a1 : Int32} {a2 : Int32} {a3 : Nat} {Q : Int32 → AH → Prop} (hd : d2 + 1 ≤ d) (call : RQ G mL_seatsWon d2 0 [some (.ref a0), some (.int a1), some (.int a2), some (.ref a3), none] [] h (Ri Q)) (k : ∀ x h1, Q x h1 → RQ G mL_law d 1027 [x0, x1, x2, x3, x4, x5, x6, x7, x8] (.int x :: S) h1 P) (hst : (S.map fun v => v.category).sum ≤ 8 := by exact Nat.le_of_ble_eq_true rfl)  : RQ G mL_law d 1024 [x0, x1, x2, x3, x4, x5, x6, x7, x8] (.ref a3 :: .int a2 :: .int a1 :: .ref a0 :: S) h P := q_callSW (M := mL_law) (pc := 1024) (M2 := mL_seatsWon) (As := [.ref a0, .int a1, .int a2, .ref a3]) (n := 4) dL_law_1024 ⟨by decide, by decide, by decide, rfl⟩ w1199 w1200 w108 w1201 hd (by decide) (Nat.le_of_ble_eq_true rfl) rfl hst call (callk_i k)
theorem tL_law_1027 {v : Int32} (ho : ok1 x4 = true := by rfl) (r : RQ G mL_law d 1029 [x0, x1, x2, x3, x4, some (.int v), x6, x7, x8] (S) (h) P) : RQ G mL_law d 1027 [x0, x1, x2, x3, x4, x5, x6, x7, x8] (.int v :: S) h P := q_istore (M := mL_law) (pc := 1027) dL_law_1027 (Nat.le_of_ble_eq_true rfl) ho r
theorem tL_law_1029 {k : Nat} (r : RQ G mL_law d 1030 [x0, x1, some (.ref k), x3, x4, x5, x6, x7, x8] (.ref k :: S) (h) P) : RQ G mL_law d 1029 [x0, x1, some (.ref k), x3, x4, x5, x6, x7, x8] (S) h P := q_aload_n (M := mL_law) (pc := 1029) (r0 := some k) dL_law_1029 rfl rfl r
theorem tL_law_1030 {k : Nat} (r : RQ G mL_law d 1031 [some (.ref k), x1, x2, x3, x4, x5, x6, x7, x8] (.ref k :: S) (h) P) : RQ G mL_law d 1030 [some (.ref k), x1, x2, x3, x4, x5, x6, x7, x8] (S) h P := q_aload_n (M := mL_law) (pc := 1030) (r0 := some k) dL_law_1030 rfl rfl r
theorem tL_law_1031 {v : Int32} (r : RQ G mL_law d 1033 [x0, x1, x2, x3, some (.int v), x5, x6, x7, x8] (.int v :: S) (h) P) : RQ G mL_law d 1031 [x0, x1, x2, x3, some (.int v), x5, x6, x7, x8] (S) h P := q_iload (M := mL_law) (pc := 1031) dL_law_1031 rfl r
theorem tL_law_1033 (r : RQ G mL_law d 1034 [x0, x1, x2, x3, x4, x5, x6, x7, x8] (.int (nI 1) :: S) (h) P) : RQ G mL_law d 1033 [x0, x1, x2, x3, x4, x5, x6, x7, x8] (S) h P := q_iconst (M := mL_law) (pc := 1033) dL_law_1033 (by decide) r
theorem tL_law_1034 {x y : Int32} (r : RQ G mL_law d 1035 [x0, x1, x2, x3, x4, x5, x6, x7, x8] (.int (x + y) :: S) (h) P) : RQ G mL_law d 1034 [x0, x1, x2, x3, x4, x5, x6, x7, x8] (.int y :: .int x :: S) h P := q_iadd (M := mL_law) (pc := 1034) dL_law_1034 r
theorem tL_law_1035 {j : Nat} {x : Int32} (hx : x = nI j) (hj : j < gN G) (hn : gN G < 2147483648) (r : RQ G mL_law d 1036 [x0, x1, x2, x3, x4, x5, x6, x7, x8] (.int (gX G j) :: S) (h) P) : RQ G mL_law d 1035 [x0, x1, x2, x3, x4, x5, x6, x7, x8] (.int x :: .ref (OLD + 999) :: S) h P := q_sld (M := mL_law) (pc := 1035) dL_law_1035 hx hj hn r
theorem tL_law_1036 {k : Nat} (r : RQ G mL_law d 1037 [some (.ref k), x1, x2, x3, x4, x5, x6, x7, x8] (.ref k :: S) (h) P) : RQ G mL_law d 1036 [some (.ref k), x1, x2, x3, x4, x5, x6, x7, x8] (S) h P := q_aload_n (M := mL_law) (pc := 1036) (r0 := some k) dL_law_1036 rfl rfl r
theorem tL_law_1037 {v : Int32} (r : RQ G mL_law d 1039 [x0, x1, x2, x3, some (.int v), x5, x6, x7, x8] (.int v :: S) (h) P) : RQ G mL_law d 1037 [x0, x1, x2, x3, some (.int v), x5, x6, x7, x8] (S) h P := q_iload (M := mL_law) (pc := 1037) dL_law_1037 rfl r
theorem tL_law_1039 (r : RQ G mL_law d 1040 [x0, x1, x2, x3, x4, x5, x6, x7, x8] (.int (nI 2) :: S) (h) P) : RQ G mL_law d 1039 [x0, x1, x2, x3, x4, x5, x6, x7, x8] (S) h P := q_iconst (M := mL_law) (pc := 1039) dL_law_1039 (by decide) r
theorem tL_law_1040 {x y : Int32} (r : RQ G mL_law d 1041 [x0, x1, x2, x3, x4, x5, x6, x7, x8] (.int (x + y) :: S) (h) P) : RQ G mL_law d 1040 [x0, x1, x2, x3, x4, x5, x6, x7, x8] (.int y :: .int x :: S) h P := q_iadd (M := mL_law) (pc := 1040) dL_law_1040 r
theorem tL_law_1041 {j : Nat} {x : Int32} (hx : x = nI j) (hj : j < gN G) (hn : gN G < 2147483648) (r : RQ G mL_law d 1042 [x0, x1, x2, x3, x4, x5, x6, x7, x8] (.int (gX G j) :: S) (h) P) : RQ G mL_law d 1041 [x0, x1, x2, x3, x4, x5, x6, x7, x8] (.int x :: .ref (OLD + 999) :: S) h P := q_sld (M := mL_law) (pc := 1041) dL_law_1041 hx hj hn r
theorem tL_law_1042 {b d2 : Nat} {vs : List Value} {a0 : Int32} {a1 : Int32} {Q : Int32 → AH → Prop} (hd : d2 + 1 ≤ d) (ha : At h b (.inr (10, vs))) (call : RQ G mX12_seatsWon d2 0 [some (.ref b), some (.int a0), some (.int a1)] [] h (Ri Q)) (k : ∀ x h1, Q x h1 → RQ G mL_law d 1045 [x0, x1, x2, x3, x4, x5, x6, x7, x8] (.int x :: S) h1 P) (hst : (S.map fun v => v.category).sum ≤ 8 := by exact Nat.le_of_ble_eq_true rfl)  : RQ G mL_law d 1042 [x0, x1, x2, x3, x4, x5, x6, x7, x8] (.int a1 :: .int a0 :: .ref b :: S) h P := q_callV (M := mL_law) (pc := 1042) (M2 := mX12_seatsWon) (As := [.int a0, .int a1]) (n := 2) dL_law_1042 rfl ⟨by decide, by decide, by decide, rfl⟩ rfl w1781 w1782 w1783 w120 w1784 (show CL[10]? = some (RX12, TX12, 25) from rfl) hd (by decide) (Nat.le_of_ble_eq_true rfl) rfl ha hst call (callk_i k)
theorem tL_law_1045 {v : Int32} (ho : ok1 x5 = true := by rfl) (r : RQ G mL_law d 1047 [x0, x1, x2, x3, x4, x5, some (.int v), x7, x8] (S) (h) P) : RQ G mL_law d 1045 [x0, x1, x2, x3, x4, x5, x6, x7, x8] (.int v :: S) h P := q_istore (M := mL_law) (pc := 1045) dL_law_1045 (Nat.le_of_ble_eq_true rfl) ho r
theorem tL_law_1047 {k : Nat} (r : RQ G mL_law d 1048 [x0, x1, some (.ref k), x3, x4, x5, x6, x7, x8] (.ref k :: S) (h) P) : RQ G mL_law d 1047 [x0, x1, some (.ref k), x3, x4, x5, x6, x7, x8] (S) h P := q_aload_n (M := mL_law) (pc := 1047) (r0 := some k) dL_law_1047 rfl rfl r
theorem tL_law_1048 {b d2 : Nat} {vs : List Value}  {Q : Int32 → AH → Prop} (hd : d2 + 1 ≤ d) (ha : At h b (.inr (10, vs))) (call : RQ G mX12_thrown d2 0 [some (.ref b)] [] h (Ri Q)) (k : ∀ x h1, Q x h1 → RQ G mL_law d 1051 [x0, x1, x2, x3, x4, x5, x6, x7, x8] (.int x :: S) h1 P) (hst : (S.map fun v => v.category).sum ≤ 8 := by exact Nat.le_of_ble_eq_true rfl)  : RQ G mL_law d 1048 [x0, x1, x2, x3, x4, x5, x6, x7, x8] (.ref b :: S) h P := q_callV (M := mL_law) (pc := 1048) (M2 := mX12_thrown) (As := []) (n := 0) dL_law_1048 rfl ⟨by decide, by decide, by decide, rfl⟩ rfl w1499 w1500 w1501 w120 w1502 (show CL[10]? = some (RX12, TX12, 25) from rfl) hd (by decide) (Nat.le_of_ble_eq_true rfl) rfl ha hst call (callk_i k)
theorem tL_law_1051 {v : Int32} (r : RQ G mL_law d 1053 [x0, x1, x2, x3, x4, some (.int v), x6, x7, x8] (.int v :: S) (h) P) : RQ G mL_law d 1051 [x0, x1, x2, x3, x4, some (.int v), x6, x7, x8] (S) h P := q_iload (M := mL_law) (pc := 1051) dL_law_1051 rfl r
theorem tL_law_1053 {x y : Int32} (kt : x = y → RQ G mL_law d 1058 [x0, x1, x2, x3, x4, x5, x6, x7, x8] S h P) (kf : ¬ x = y → RQ G mL_law d 1056 [x0, x1, x2, x3, x4, x5, x6, x7, x8] S h P) : RQ G mL_law d 1053 [x0, x1, x2, x3, x4, x5, x6, x7, x8] (.int y :: .int x :: S) h P := q_icmp_eq (M := mL_law) (pc := 1053) dL_law_1053 (by decide) kt kf
theorem tL_law_1056 (r : RQ G mL_law d 1057 [x0, x1, x2, x3, x4, x5, x6, x7, x8] (.int (nI 0) :: S) (h) P) : RQ G mL_law d 1056 [x0, x1, x2, x3, x4, x5, x6, x7, x8] (S) h P := q_iconst (M := mL_law) (pc := 1056) dL_law_1056 (by decide) r
theorem tL_law_1057 {x : Int32} (hb : x = nI 0 ∨ x = nI 1) (hP : P (.inl (some (.int x))) h) : RQ G mL_law d 1057 [x0, x1, x2, x3, x4, x5, x6, x7, x8] ([.int x]) h P := q_ireturn (M := mL_law) (pc := 1057) (ty := .boolean) dL_law_1057 rfl (nar_bool hb) hP
theorem tL_law_1058 {v : Int32} (r : RQ G mL_law d 1060 [x0, x1, x2, x3, x4, some (.int v), x6, x7, x8] (.int v :: S) (h) P) : RQ G mL_law d 1058 [x0, x1, x2, x3, x4, some (.int v), x6, x7, x8] (S) h P := q_iload (M := mL_law) (pc := 1058) dL_law_1058 rfl r
theorem tL_law_1060 {x : Int32} (kt : ¬ x = 0 → RQ G mL_law d 1075 [x0, x1, x2, x3, x4, x5, x6, x7, x8] S h P) (kf : x = 0 → RQ G mL_law d 1063 [x0, x1, x2, x3, x4, x5, x6, x7, x8] S h P) : RQ G mL_law d 1060 [x0, x1, x2, x3, x4, x5, x6, x7, x8] (.int x :: S) h P := q_if_ne (M := mL_law) (pc := 1060) dL_law_1060 (by decide) kt kf
theorem tL_law_1063 {k : Nat} (r : RQ G mL_law d 1064 [x0, x1, x2, some (.ref k), x4, x5, x6, x7, x8] (.ref k :: S) (h) P) : RQ G mL_law d 1063 [x0, x1, x2, some (.ref k), x4, x5, x6, x7, x8] (S) h P := q_aload_n (M := mL_law) (pc := 1063) (r0 := some k) dL_law_1063 rfl rfl r
theorem tL_law_1064 (r : RQ G mL_law d 1065 [x0, x1, x2, x3, x4, x5, x6, x7, x8] (.int (nI 0) :: S) (h) P) : RQ G mL_law d 1064 [x0, x1, x2, x3, x4, x5, x6, x7, x8] (S) h P := q_iconst (M := mL_law) (pc := 1064) dL_law_1064 (by decide) r
theorem tL_law_1065 {a n j : Nat} {x : Int32} {f : Nat → Int64} (ha : At h a (.inl (2, n, .inr (.inl f)))) (hx : x = nI j) (hj : j < n) (hn : n < 2147483648) (r : RQ G mL_law d 1066 [x0, x1, x2, x3, x4, x5, x6, x7, x8] (.long (f j) :: S) (h) P) : RQ G mL_law d 1065 [x0, x1, x2, x3, x4, x5, x6, x7, x8] (.int x :: .ref a :: S) h P := q_lald (M := mL_law) (pc := 1065) dL_law_1065 ha hx hj hn r
theorem tL_law_1066 {v : Int32} (r : RQ G mL_law d 1068 [x0, x1, x2, x3, x4, x5, some (.int v), x7, x8] (.int v :: S) (h) P) : RQ G mL_law d 1066 [x0, x1, x2, x3, x4, x5, some (.int v), x7, x8] (S) h P := q_iload (M := mL_law) (pc := 1066) dL_law_1066 rfl r
theorem tL_law_1068 {x : Int32} (r : RQ G mL_law d 1069 [x0, x1, x2, x3, x4, x5, x6, x7, x8] (.long x.toInt64 :: S) (h) P) : RQ G mL_law d 1068 [x0, x1, x2, x3, x4, x5, x6, x7, x8] (.int x :: S) h P := q_i2l (M := mL_law) (pc := 1068) dL_law_1068 r
theorem tL_law_1069 {x y : Int64} (r : RQ G mL_law d 1070 [x0, x1, x2, x3, x4, x5, x6, x7, x8] (.int (lg_cmp x y) :: S) (h) P) : RQ G mL_law d 1069 [x0, x1, x2, x3, x4, x5, x6, x7, x8] (.long y :: .long x :: S) h P := q_lcmp (M := mL_law) (pc := 1069) dL_law_1069 r
theorem tL_law_1070 {x : Int32} (kt : x = 0 → RQ G mL_law d 1075 [x0, x1, x2, x3, x4, x5, x6, x7, x8] S h P) (kf : ¬ x = 0 → RQ G mL_law d 1073 [x0, x1, x2, x3, x4, x5, x6, x7, x8] S h P) : RQ G mL_law d 1070 [x0, x1, x2, x3, x4, x5, x6, x7, x8] (.int x :: S) h P := q_if_eq (M := mL_law) (pc := 1070) dL_law_1070 (by decide) kt kf
theorem tL_law_1073 (r : RQ G mL_law d 1074 [x0, x1, x2, x3, x4, x5, x6, x7, x8] (.int (nI 0) :: S) (h) P) : RQ G mL_law d 1073 [x0, x1, x2, x3, x4, x5, x6, x7, x8] (S) h P := q_iconst (M := mL_law) (pc := 1073) dL_law_1073 (by decide) r
theorem tL_law_1074 {x : Int32} (hb : x = nI 0 ∨ x = nI 1) (hP : P (.inl (some (.int x))) h) : RQ G mL_law d 1074 [x0, x1, x2, x3, x4, x5, x6, x7, x8] ([.int x]) h P := q_ireturn (M := mL_law) (pc := 1074) (ty := .boolean) dL_law_1074 rfl (nar_bool hb) hP
theorem tL_law_1075 (r : RQ G mL_law d 2189 [x0, x1, x2, x3, x4, x5, x6, x7, x8] S h P) : RQ G mL_law d 1075 [x0, x1, x2, x3, x4, x5, x6, x7, x8] (S) h P := q_goto (M := mL_law) (pc := 1075) dL_law_1075 (by decide) r
theorem tL_law_1078 {k : Nat} (r : RQ G mL_law d 1079 [x0, some (.ref k), x2, x3, x4, x5, x6, x7, x8] (.ref k :: S) (h) P) : RQ G mL_law d 1078 [x0, some (.ref k), x2, x3, x4, x5, x6, x7, x8] (S) h P := q_aload_n (M := mL_law) (pc := 1078) (r0 := some k) dL_law_1078 rfl rfl r
theorem tL_law_1079 {k : Nat} (r : RQ G mL_law d 1080 [some (.ref k), x1, x2, x3, x4, x5, x6, x7, x8] (.ref k :: S) (h) P) : RQ G mL_law d 1079 [some (.ref k), x1, x2, x3, x4, x5, x6, x7, x8] (S) h P := q_aload_n (M := mL_law) (pc := 1079) (r0 := some k) dL_law_1079 rfl rfl r
theorem tL_law_1080 {v : Int32} (r : RQ G mL_law d 1082 [x0, x1, x2, x3, some (.int v), x5, x6, x7, x8] (.int v :: S) (h) P) : RQ G mL_law d 1080 [x0, x1, x2, x3, some (.int v), x5, x6, x7, x8] (S) h P := q_iload (M := mL_law) (pc := 1080) dL_law_1080 rfl r
theorem tL_law_1082 (r : RQ G mL_law d 1083 [x0, x1, x2, x3, x4, x5, x6, x7, x8] (.int (nI 1) :: S) (h) P) : RQ G mL_law d 1082 [x0, x1, x2, x3, x4, x5, x6, x7, x8] (S) h P := q_iconst (M := mL_law) (pc := 1082) dL_law_1082 (by decide) r
theorem tL_law_1083 {x y : Int32} (r : RQ G mL_law d 1084 [x0, x1, x2, x3, x4, x5, x6, x7, x8] (.int (x + y) :: S) (h) P) : RQ G mL_law d 1083 [x0, x1, x2, x3, x4, x5, x6, x7, x8] (.int y :: .int x :: S) h P := q_iadd (M := mL_law) (pc := 1083) dL_law_1083 r
theorem tL_law_1084 {j : Nat} {x : Int32} (hx : x = nI j) (hj : j < gN G) (hn : gN G < 2147483648) (r : RQ G mL_law d 1085 [x0, x1, x2, x3, x4, x5, x6, x7, x8] (.int (gX G j) :: S) (h) P) : RQ G mL_law d 1084 [x0, x1, x2, x3, x4, x5, x6, x7, x8] (.int x :: .ref (OLD + 999) :: S) h P := q_sld (M := mL_law) (pc := 1084) dL_law_1084 hx hj hn r
theorem tL_law_1085 {k : Nat} (r : RQ G mL_law d 1086 [x0, x1, x2, some (.ref k), x4, x5, x6, x7, x8] (.ref k :: S) (h) P) : RQ G mL_law d 1085 [x0, x1, x2, some (.ref k), x4, x5, x6, x7, x8] (S) h P := q_aload_n (M := mL_law) (pc := 1085) (r0 := some k) dL_law_1085 rfl rfl r
theorem tL_law_1086 {d2 : Nat} {a0 : Nat} {a1 : Int32} {a2 : Nat} {Q : Int32 → AH → Prop} (hd : d2 + 1 ≤ d) (call : RQ G mL_emptySeats d2 0 [some (.ref a0), some (.int a1), some (.ref a2), none] [] h (Ri Q)) (k : ∀ x h1, Q x h1 → RQ G mL_law d 1089 [x0, x1, x2, x3, x4, x5, x6, x7, x8] (.int x :: S) h1 P) (hst : (S.map fun v => v.category).sum ≤ 8 := by exact Nat.le_of_ble_eq_true rfl)  : RQ G mL_law d 1086 [x0, x1, x2, x3, x4, x5, x6, x7, x8] (.ref a2 :: .int a1 :: .ref a0 :: S) h P := q_callSW (M := mL_law) (pc := 1086) (M2 := mL_emptySeats) (As := [.ref a0, .int a1, .ref a2]) (n := 3) dL_law_1086 ⟨by decide, by decide, by decide, rfl⟩ w1203 w1204 w108 w1205 hd (by decide) (Nat.le_of_ble_eq_true rfl) rfl hst call (callk_i k)
theorem tL_law_1089 {v : Int32} (ho : ok1 x4 = true := by rfl) (r : RQ G mL_law d 1091 [x0, x1, x2, x3, x4, some (.int v), x6, x7, x8] (S) (h) P) : RQ G mL_law d 1089 [x0, x1, x2, x3, x4, x5, x6, x7, x8] (.int v :: S) h P := q_istore (M := mL_law) (pc := 1089) dL_law_1089 (Nat.le_of_ble_eq_true rfl) ho r
theorem tL_law_1091 {k : Nat} (r : RQ G mL_law d 1092 [x0, x1, some (.ref k), x3, x4, x5, x6, x7, x8] (.ref k :: S) (h) P) : RQ G mL_law d 1091 [x0, x1, some (.ref k), x3, x4, x5, x6, x7, x8] (S) h P := q_aload_n (M := mL_law) (pc := 1091) (r0 := some k) dL_law_1091 rfl rfl r
theorem tL_law_1092 {k : Nat} (r : RQ G mL_law d 1093 [some (.ref k), x1, x2, x3, x4, x5, x6, x7, x8] (.ref k :: S) (h) P) : RQ G mL_law d 1092 [some (.ref k), x1, x2, x3, x4, x5, x6, x7, x8] (S) h P := q_aload_n (M := mL_law) (pc := 1092) (r0 := some k) dL_law_1092 rfl rfl r
theorem tL_law_1093 {v : Int32} (r : RQ G mL_law d 1095 [x0, x1, x2, x3, some (.int v), x5, x6, x7, x8] (.int v :: S) (h) P) : RQ G mL_law d 1093 [x0, x1, x2, x3, some (.int v), x5, x6, x7, x8] (S) h P := q_iload (M := mL_law) (pc := 1093) dL_law_1093 rfl r
theorem tL_law_1095 (r : RQ G mL_law d 1096 [x0, x1, x2, x3, x4, x5, x6, x7, x8] (.int (nI 1) :: S) (h) P) : RQ G mL_law d 1095 [x0, x1, x2, x3, x4, x5, x6, x7, x8] (S) h P := q_iconst (M := mL_law) (pc := 1095) dL_law_1095 (by decide) r
theorem tL_law_1096 {x y : Int32} (r : RQ G mL_law d 1097 [x0, x1, x2, x3, x4, x5, x6, x7, x8] (.int (x + y) :: S) (h) P) : RQ G mL_law d 1096 [x0, x1, x2, x3, x4, x5, x6, x7, x8] (.int y :: .int x :: S) h P := q_iadd (M := mL_law) (pc := 1096) dL_law_1096 r
theorem tL_law_1097 {j : Nat} {x : Int32} (hx : x = nI j) (hj : j < gN G) (hn : gN G < 2147483648) (r : RQ G mL_law d 1098 [x0, x1, x2, x3, x4, x5, x6, x7, x8] (.int (gX G j) :: S) (h) P) : RQ G mL_law d 1097 [x0, x1, x2, x3, x4, x5, x6, x7, x8] (.int x :: .ref (OLD + 999) :: S) h P := q_sld (M := mL_law) (pc := 1097) dL_law_1097 hx hj hn r
theorem tL_law_1098 {b d2 : Nat} {vs : List Value} {a0 : Int32} {Q : Int32 → AH → Prop} (hd : d2 + 1 ≤ d) (ha : At h b (.inr (10, vs))) (call : RQ G mX12_emptySeats d2 0 [some (.ref b), some (.int a0)] [] h (Ri Q)) (k : ∀ x h1, Q x h1 → RQ G mL_law d 1101 [x0, x1, x2, x3, x4, x5, x6, x7, x8] (.int x :: S) h1 P) (hst : (S.map fun v => v.category).sum ≤ 8 := by exact Nat.le_of_ble_eq_true rfl)  : RQ G mL_law d 1098 [x0, x1, x2, x3, x4, x5, x6, x7, x8] (.int a0 :: .ref b :: S) h P := q_callV (M := mL_law) (pc := 1098) (M2 := mX12_emptySeats) (As := [.int a0]) (n := 1) dL_law_1098 rfl ⟨by decide, by decide, by decide, rfl⟩ rfl w1801 w1802 w1803 w120 w1804 (show CL[10]? = some (RX12, TX12, 25) from rfl) hd (by decide) (Nat.le_of_ble_eq_true rfl) rfl ha hst call (callk_i k)
theorem tL_law_1101 {v : Int32} (ho : ok1 x5 = true := by rfl) (r : RQ G mL_law d 1103 [x0, x1, x2, x3, x4, x5, some (.int v), x7, x8] (S) (h) P) : RQ G mL_law d 1101 [x0, x1, x2, x3, x4, x5, x6, x7, x8] (.int v :: S) h P := q_istore (M := mL_law) (pc := 1101) dL_law_1101 (Nat.le_of_ble_eq_true rfl) ho r
theorem tL_law_1103 {k : Nat} (r : RQ G mL_law d 1104 [x0, x1, some (.ref k), x3, x4, x5, x6, x7, x8] (.ref k :: S) (h) P) : RQ G mL_law d 1103 [x0, x1, some (.ref k), x3, x4, x5, x6, x7, x8] (S) h P := q_aload_n (M := mL_law) (pc := 1103) (r0 := some k) dL_law_1103 rfl rfl r
theorem tL_law_1104 {b d2 : Nat} {vs : List Value}  {Q : Int32 → AH → Prop} (hd : d2 + 1 ≤ d) (ha : At h b (.inr (10, vs))) (call : RQ G mX12_thrown d2 0 [some (.ref b)] [] h (Ri Q)) (k : ∀ x h1, Q x h1 → RQ G mL_law d 1107 [x0, x1, x2, x3, x4, x5, x6, x7, x8] (.int x :: S) h1 P) (hst : (S.map fun v => v.category).sum ≤ 8 := by exact Nat.le_of_ble_eq_true rfl)  : RQ G mL_law d 1104 [x0, x1, x2, x3, x4, x5, x6, x7, x8] (.ref b :: S) h P := q_callV (M := mL_law) (pc := 1104) (M2 := mX12_thrown) (As := []) (n := 0) dL_law_1104 rfl ⟨by decide, by decide, by decide, rfl⟩ rfl w1499 w1500 w1501 w120 w1502 (show CL[10]? = some (RX12, TX12, 25) from rfl) hd (by decide) (Nat.le_of_ble_eq_true rfl) rfl ha hst call (callk_i k)
theorem tL_law_1107 {v : Int32} (r : RQ G mL_law d 1109 [x0, x1, x2, x3, x4, some (.int v), x6, x7, x8] (.int v :: S) (h) P) : RQ G mL_law d 1107 [x0, x1, x2, x3, x4, some (.int v), x6, x7, x8] (S) h P := q_iload (M := mL_law) (pc := 1107) dL_law_1107 rfl r
theorem tL_law_1109 {x y : Int32} (kt : x = y → RQ G mL_law d 1114 [x0, x1, x2, x3, x4, x5, x6, x7, x8] S h P) (kf : ¬ x = y → RQ G mL_law d 1112 [x0, x1, x2, x3, x4, x5, x6, x7, x8] S h P) : RQ G mL_law d 1109 [x0, x1, x2, x3, x4, x5, x6, x7, x8] (.int y :: .int x :: S) h P := q_icmp_eq (M := mL_law) (pc := 1109) dL_law_1109 (by decide) kt kf
theorem tL_law_1112 (r : RQ G mL_law d 1113 [x0, x1, x2, x3, x4, x5, x6, x7, x8] (.int (nI 0) :: S) (h) P) : RQ G mL_law d 1112 [x0, x1, x2, x3, x4, x5, x6, x7, x8] (S) h P := q_iconst (M := mL_law) (pc := 1112) dL_law_1112 (by decide) r
theorem tL_law_1113 {x : Int32} (hb : x = nI 0 ∨ x = nI 1) (hP : P (.inl (some (.int x))) h) : RQ G mL_law d 1113 [x0, x1, x2, x3, x4, x5, x6, x7, x8] ([.int x]) h P := q_ireturn (M := mL_law) (pc := 1113) (ty := .boolean) dL_law_1113 rfl (nar_bool hb) hP
theorem tL_law_1114 {v : Int32} (r : RQ G mL_law d 1116 [x0, x1, x2, x3, x4, some (.int v), x6, x7, x8] (.int v :: S) (h) P) : RQ G mL_law d 1114 [x0, x1, x2, x3, x4, some (.int v), x6, x7, x8] (S) h P := q_iload (M := mL_law) (pc := 1114) dL_law_1114 rfl r
theorem tL_law_1116 {x : Int32} (kt : ¬ x = 0 → RQ G mL_law d 1131 [x0, x1, x2, x3, x4, x5, x6, x7, x8] S h P) (kf : x = 0 → RQ G mL_law d 1119 [x0, x1, x2, x3, x4, x5, x6, x7, x8] S h P) : RQ G mL_law d 1116 [x0, x1, x2, x3, x4, x5, x6, x7, x8] (.int x :: S) h P := q_if_ne (M := mL_law) (pc := 1116) dL_law_1116 (by decide) kt kf
theorem tL_law_1119 {k : Nat} (r : RQ G mL_law d 1120 [x0, x1, x2, some (.ref k), x4, x5, x6, x7, x8] (.ref k :: S) (h) P) : RQ G mL_law d 1119 [x0, x1, x2, some (.ref k), x4, x5, x6, x7, x8] (S) h P := q_aload_n (M := mL_law) (pc := 1119) (r0 := some k) dL_law_1119 rfl rfl r
theorem tL_law_1120 (r : RQ G mL_law d 1121 [x0, x1, x2, x3, x4, x5, x6, x7, x8] (.int (nI 0) :: S) (h) P) : RQ G mL_law d 1120 [x0, x1, x2, x3, x4, x5, x6, x7, x8] (S) h P := q_iconst (M := mL_law) (pc := 1120) dL_law_1120 (by decide) r
theorem tL_law_1121 {a n j : Nat} {x : Int32} {f : Nat → Int64} (ha : At h a (.inl (2, n, .inr (.inl f)))) (hx : x = nI j) (hj : j < n) (hn : n < 2147483648) (r : RQ G mL_law d 1122 [x0, x1, x2, x3, x4, x5, x6, x7, x8] (.long (f j) :: S) (h) P) : RQ G mL_law d 1121 [x0, x1, x2, x3, x4, x5, x6, x7, x8] (.int x :: .ref a :: S) h P := q_lald (M := mL_law) (pc := 1121) dL_law_1121 ha hx hj hn r
theorem tL_law_1122 {v : Int32} (r : RQ G mL_law d 1124 [x0, x1, x2, x3, x4, x5, some (.int v), x7, x8] (.int v :: S) (h) P) : RQ G mL_law d 1122 [x0, x1, x2, x3, x4, x5, some (.int v), x7, x8] (S) h P := q_iload (M := mL_law) (pc := 1122) dL_law_1122 rfl r
theorem tL_law_1124 {x : Int32} (r : RQ G mL_law d 1125 [x0, x1, x2, x3, x4, x5, x6, x7, x8] (.long x.toInt64 :: S) (h) P) : RQ G mL_law d 1124 [x0, x1, x2, x3, x4, x5, x6, x7, x8] (.int x :: S) h P := q_i2l (M := mL_law) (pc := 1124) dL_law_1124 r
theorem tL_law_1125 {x y : Int64} (r : RQ G mL_law d 1126 [x0, x1, x2, x3, x4, x5, x6, x7, x8] (.int (lg_cmp x y) :: S) (h) P) : RQ G mL_law d 1125 [x0, x1, x2, x3, x4, x5, x6, x7, x8] (.long y :: .long x :: S) h P := q_lcmp (M := mL_law) (pc := 1125) dL_law_1125 r
theorem tL_law_1126 {x : Int32} (kt : x = 0 → RQ G mL_law d 1131 [x0, x1, x2, x3, x4, x5, x6, x7, x8] S h P) (kf : ¬ x = 0 → RQ G mL_law d 1129 [x0, x1, x2, x3, x4, x5, x6, x7, x8] S h P) : RQ G mL_law d 1126 [x0, x1, x2, x3, x4, x5, x6, x7, x8] (.int x :: S) h P := q_if_eq (M := mL_law) (pc := 1126) dL_law_1126 (by decide) kt kf
theorem tL_law_1129 (r : RQ G mL_law d 1130 [x0, x1, x2, x3, x4, x5, x6, x7, x8] (.int (nI 0) :: S) (h) P) : RQ G mL_law d 1129 [x0, x1, x2, x3, x4, x5, x6, x7, x8] (S) h P := q_iconst (M := mL_law) (pc := 1129) dL_law_1129 (by decide) r
theorem tL_law_1130 {x : Int32} (hb : x = nI 0 ∨ x = nI 1) (hP : P (.inl (some (.int x))) h) : RQ G mL_law d 1130 [x0, x1, x2, x3, x4, x5, x6, x7, x8] ([.int x]) h P := q_ireturn (M := mL_law) (pc := 1130) (ty := .boolean) dL_law_1130 rfl (nar_bool hb) hP
theorem tL_law_1131 (r : RQ G mL_law d 2189 [x0, x1, x2, x3, x4, x5, x6, x7, x8] S h P) : RQ G mL_law d 1131 [x0, x1, x2, x3, x4, x5, x6, x7, x8] (S) h P := q_goto (M := mL_law) (pc := 1131) dL_law_1131 (by decide) r
theorem tL_law_1134 {k : Nat} (r : RQ G mL_law d 1135 [x0, some (.ref k), x2, x3, x4, x5, x6, x7, x8] (.ref k :: S) (h) P) : RQ G mL_law d 1134 [x0, some (.ref k), x2, x3, x4, x5, x6, x7, x8] (S) h P := q_aload_n (M := mL_law) (pc := 1134) (r0 := some k) dL_law_1134 rfl rfl r
theorem tL_law_1135 {k : Nat} (r : RQ G mL_law d 1136 [some (.ref k), x1, x2, x3, x4, x5, x6, x7, x8] (.ref k :: S) (h) P) : RQ G mL_law d 1135 [some (.ref k), x1, x2, x3, x4, x5, x6, x7, x8] (S) h P := q_aload_n (M := mL_law) (pc := 1135) (r0 := some k) dL_law_1135 rfl rfl r
theorem tL_law_1136 {v : Int32} (r : RQ G mL_law d 1138 [x0, x1, x2, x3, some (.int v), x5, x6, x7, x8] (.int v :: S) (h) P) : RQ G mL_law d 1136 [x0, x1, x2, x3, some (.int v), x5, x6, x7, x8] (S) h P := q_iload (M := mL_law) (pc := 1136) dL_law_1136 rfl r
theorem tL_law_1138 (r : RQ G mL_law d 1139 [x0, x1, x2, x3, x4, x5, x6, x7, x8] (.int (nI 1) :: S) (h) P) : RQ G mL_law d 1138 [x0, x1, x2, x3, x4, x5, x6, x7, x8] (S) h P := q_iconst (M := mL_law) (pc := 1138) dL_law_1138 (by decide) r
theorem tL_law_1139 {x y : Int32} (r : RQ G mL_law d 1140 [x0, x1, x2, x3, x4, x5, x6, x7, x8] (.int (x + y) :: S) (h) P) : RQ G mL_law d 1139 [x0, x1, x2, x3, x4, x5, x6, x7, x8] (.int y :: .int x :: S) h P := q_iadd (M := mL_law) (pc := 1139) dL_law_1139 r
theorem tL_law_1140 {j : Nat} {x : Int32} (hx : x = nI j) (hj : j < gN G) (hn : gN G < 2147483648) (r : RQ G mL_law d 1141 [x0, x1, x2, x3, x4, x5, x6, x7, x8] (.int (gX G j) :: S) (h) P) : RQ G mL_law d 1140 [x0, x1, x2, x3, x4, x5, x6, x7, x8] (.int x :: .ref (OLD + 999) :: S) h P := q_sld (M := mL_law) (pc := 1140) dL_law_1140 hx hj hn r
theorem tL_law_1141 {k : Nat} (r : RQ G mL_law d 1142 [x0, x1, x2, some (.ref k), x4, x5, x6, x7, x8] (.ref k :: S) (h) P) : RQ G mL_law d 1141 [x0, x1, x2, some (.ref k), x4, x5, x6, x7, x8] (S) h P := q_aload_n (M := mL_law) (pc := 1141) (r0 := some k) dL_law_1141 rfl rfl r
theorem tL_law_1142 {d2 : Nat} {a0 : Nat} {a1 : Int32} {a2 : Nat} {Q : Int32 → AH → Prop} (hd : d2 + 1 ≤ d) (call : RQ G mL_seatsInAll d2 0 [some (.ref a0), some (.int a1), some (.ref a2), none] [] h (Ri Q)) (k : ∀ x h1, Q x h1 → RQ G mL_law d 1145 [x0, x1, x2, x3, x4, x5, x6, x7, x8] (.int x :: S) h1 P) (hst : (S.map fun v => v.category).sum ≤ 8 := by exact Nat.le_of_ble_eq_true rfl)  : RQ G mL_law d 1142 [x0, x1, x2, x3, x4, x5, x6, x7, x8] (.ref a2 :: .int a1 :: .ref a0 :: S) h P := q_callSW (M := mL_law) (pc := 1142) (M2 := mL_seatsInAll) (As := [.ref a0, .int a1, .ref a2]) (n := 3) dL_law_1142 ⟨by decide, by decide, by decide, rfl⟩ w1207 w1208 w108 w1209 hd (by decide) (Nat.le_of_ble_eq_true rfl) rfl hst call (callk_i k)
theorem tL_law_1145 {v : Int32} (ho : ok1 x4 = true := by rfl) (r : RQ G mL_law d 1147 [x0, x1, x2, x3, x4, some (.int v), x6, x7, x8] (S) (h) P) : RQ G mL_law d 1145 [x0, x1, x2, x3, x4, x5, x6, x7, x8] (.int v :: S) h P := q_istore (M := mL_law) (pc := 1145) dL_law_1145 (Nat.le_of_ble_eq_true rfl) ho r
theorem tL_law_1147 {k : Nat} (r : RQ G mL_law d 1148 [x0, x1, some (.ref k), x3, x4, x5, x6, x7, x8] (.ref k :: S) (h) P) : RQ G mL_law d 1147 [x0, x1, some (.ref k), x3, x4, x5, x6, x7, x8] (S) h P := q_aload_n (M := mL_law) (pc := 1147) (r0 := some k) dL_law_1147 rfl rfl r
theorem tL_law_1148 {k : Nat} (r : RQ G mL_law d 1149 [some (.ref k), x1, x2, x3, x4, x5, x6, x7, x8] (.ref k :: S) (h) P) : RQ G mL_law d 1148 [some (.ref k), x1, x2, x3, x4, x5, x6, x7, x8] (S) h P := q_aload_n (M := mL_law) (pc := 1148) (r0 := some k) dL_law_1148 rfl rfl r
theorem tL_law_1149 {v : Int32} (r : RQ G mL_law d 1151 [x0, x1, x2, x3, some (.int v), x5, x6, x7, x8] (.int v :: S) (h) P) : RQ G mL_law d 1149 [x0, x1, x2, x3, some (.int v), x5, x6, x7, x8] (S) h P := q_iload (M := mL_law) (pc := 1149) dL_law_1149 rfl r
theorem tL_law_1151 (r : RQ G mL_law d 1152 [x0, x1, x2, x3, x4, x5, x6, x7, x8] (.int (nI 1) :: S) (h) P) : RQ G mL_law d 1151 [x0, x1, x2, x3, x4, x5, x6, x7, x8] (S) h P := q_iconst (M := mL_law) (pc := 1151) dL_law_1151 (by decide) r
theorem tL_law_1152 {x y : Int32} (r : RQ G mL_law d 1153 [x0, x1, x2, x3, x4, x5, x6, x7, x8] (.int (x + y) :: S) (h) P) : RQ G mL_law d 1152 [x0, x1, x2, x3, x4, x5, x6, x7, x8] (.int y :: .int x :: S) h P := q_iadd (M := mL_law) (pc := 1152) dL_law_1152 r
theorem tL_law_1153 {j : Nat} {x : Int32} (hx : x = nI j) (hj : j < gN G) (hn : gN G < 2147483648) (r : RQ G mL_law d 1154 [x0, x1, x2, x3, x4, x5, x6, x7, x8] (.int (gX G j) :: S) (h) P) : RQ G mL_law d 1153 [x0, x1, x2, x3, x4, x5, x6, x7, x8] (.int x :: .ref (OLD + 999) :: S) h P := q_sld (M := mL_law) (pc := 1153) dL_law_1153 hx hj hn r
theorem tL_law_1154 {b d2 : Nat} {vs : List Value} {a0 : Int32} {Q : Int32 → AH → Prop} (hd : d2 + 1 ≤ d) (ha : At h b (.inr (10, vs))) (call : RQ G mX12_seatsInAll d2 0 [some (.ref b), some (.int a0)] [] h (Ri Q)) (k : ∀ x h1, Q x h1 → RQ G mL_law d 1157 [x0, x1, x2, x3, x4, x5, x6, x7, x8] (.int x :: S) h1 P) (hst : (S.map fun v => v.category).sum ≤ 8 := by exact Nat.le_of_ble_eq_true rfl)  : RQ G mL_law d 1154 [x0, x1, x2, x3, x4, x5, x6, x7, x8] (.int a0 :: .ref b :: S) h P := q_callV (M := mL_law) (pc := 1154) (M2 := mX12_seatsInAll) (As := [.int a0]) (n := 1) dL_law_1154 rfl ⟨by decide, by decide, by decide, rfl⟩ rfl w1805 w1806 w1807 w120 w1808 (show CL[10]? = some (RX12, TX12, 25) from rfl) hd (by decide) (Nat.le_of_ble_eq_true rfl) rfl ha hst call (callk_i k)
theorem tL_law_1157 {v : Int32} (ho : ok1 x5 = true := by rfl) (r : RQ G mL_law d 1159 [x0, x1, x2, x3, x4, x5, some (.int v), x7, x8] (S) (h) P) : RQ G mL_law d 1157 [x0, x1, x2, x3, x4, x5, x6, x7, x8] (.int v :: S) h P := q_istore (M := mL_law) (pc := 1157) dL_law_1157 (Nat.le_of_ble_eq_true rfl) ho r
theorem tL_law_1159 {k : Nat} (r : RQ G mL_law d 1160 [x0, x1, some (.ref k), x3, x4, x5, x6, x7, x8] (.ref k :: S) (h) P) : RQ G mL_law d 1159 [x0, x1, some (.ref k), x3, x4, x5, x6, x7, x8] (S) h P := q_aload_n (M := mL_law) (pc := 1159) (r0 := some k) dL_law_1159 rfl rfl r
theorem tL_law_1160 {b d2 : Nat} {vs : List Value}  {Q : Int32 → AH → Prop} (hd : d2 + 1 ≤ d) (ha : At h b (.inr (10, vs))) (call : RQ G mX12_thrown d2 0 [some (.ref b)] [] h (Ri Q)) (k : ∀ x h1, Q x h1 → RQ G mL_law d 1163 [x0, x1, x2, x3, x4, x5, x6, x7, x8] (.int x :: S) h1 P) (hst : (S.map fun v => v.category).sum ≤ 8 := by exact Nat.le_of_ble_eq_true rfl)  : RQ G mL_law d 1160 [x0, x1, x2, x3, x4, x5, x6, x7, x8] (.ref b :: S) h P := q_callV (M := mL_law) (pc := 1160) (M2 := mX12_thrown) (As := []) (n := 0) dL_law_1160 rfl ⟨by decide, by decide, by decide, rfl⟩ rfl w1499 w1500 w1501 w120 w1502 (show CL[10]? = some (RX12, TX12, 25) from rfl) hd (by decide) (Nat.le_of_ble_eq_true rfl) rfl ha hst call (callk_i k)
theorem tL_law_1163 {v : Int32} (r : RQ G mL_law d 1165 [x0, x1, x2, x3, x4, some (.int v), x6, x7, x8] (.int v :: S) (h) P) : RQ G mL_law d 1163 [x0, x1, x2, x3, x4, some (.int v), x6, x7, x8] (S) h P := q_iload (M := mL_law) (pc := 1163) dL_law_1163 rfl r
theorem tL_law_1165 {x y : Int32} (kt : x = y → RQ G mL_law d 1170 [x0, x1, x2, x3, x4, x5, x6, x7, x8] S h P) (kf : ¬ x = y → RQ G mL_law d 1168 [x0, x1, x2, x3, x4, x5, x6, x7, x8] S h P) : RQ G mL_law d 1165 [x0, x1, x2, x3, x4, x5, x6, x7, x8] (.int y :: .int x :: S) h P := q_icmp_eq (M := mL_law) (pc := 1165) dL_law_1165 (by decide) kt kf
theorem tL_law_1168 (r : RQ G mL_law d 1169 [x0, x1, x2, x3, x4, x5, x6, x7, x8] (.int (nI 0) :: S) (h) P) : RQ G mL_law d 1168 [x0, x1, x2, x3, x4, x5, x6, x7, x8] (S) h P := q_iconst (M := mL_law) (pc := 1168) dL_law_1168 (by decide) r
theorem tL_law_1169 {x : Int32} (hb : x = nI 0 ∨ x = nI 1) (hP : P (.inl (some (.int x))) h) : RQ G mL_law d 1169 [x0, x1, x2, x3, x4, x5, x6, x7, x8] ([.int x]) h P := q_ireturn (M := mL_law) (pc := 1169) (ty := .boolean) dL_law_1169 rfl (nar_bool hb) hP
theorem tL_law_1170 {v : Int32} (r : RQ G mL_law d 1172 [x0, x1, x2, x3, x4, some (.int v), x6, x7, x8] (.int v :: S) (h) P) : RQ G mL_law d 1170 [x0, x1, x2, x3, x4, some (.int v), x6, x7, x8] (S) h P := q_iload (M := mL_law) (pc := 1170) dL_law_1170 rfl r
theorem tL_law_1172 {x : Int32} (kt : ¬ x = 0 → RQ G mL_law d 1187 [x0, x1, x2, x3, x4, x5, x6, x7, x8] S h P) (kf : x = 0 → RQ G mL_law d 1175 [x0, x1, x2, x3, x4, x5, x6, x7, x8] S h P) : RQ G mL_law d 1172 [x0, x1, x2, x3, x4, x5, x6, x7, x8] (.int x :: S) h P := q_if_ne (M := mL_law) (pc := 1172) dL_law_1172 (by decide) kt kf
theorem tL_law_1175 {k : Nat} (r : RQ G mL_law d 1176 [x0, x1, x2, some (.ref k), x4, x5, x6, x7, x8] (.ref k :: S) (h) P) : RQ G mL_law d 1175 [x0, x1, x2, some (.ref k), x4, x5, x6, x7, x8] (S) h P := q_aload_n (M := mL_law) (pc := 1175) (r0 := some k) dL_law_1175 rfl rfl r
theorem tL_law_1176 (r : RQ G mL_law d 1177 [x0, x1, x2, x3, x4, x5, x6, x7, x8] (.int (nI 0) :: S) (h) P) : RQ G mL_law d 1176 [x0, x1, x2, x3, x4, x5, x6, x7, x8] (S) h P := q_iconst (M := mL_law) (pc := 1176) dL_law_1176 (by decide) r
theorem tL_law_1177 {a n j : Nat} {x : Int32} {f : Nat → Int64} (ha : At h a (.inl (2, n, .inr (.inl f)))) (hx : x = nI j) (hj : j < n) (hn : n < 2147483648) (r : RQ G mL_law d 1178 [x0, x1, x2, x3, x4, x5, x6, x7, x8] (.long (f j) :: S) (h) P) : RQ G mL_law d 1177 [x0, x1, x2, x3, x4, x5, x6, x7, x8] (.int x :: .ref a :: S) h P := q_lald (M := mL_law) (pc := 1177) dL_law_1177 ha hx hj hn r
theorem tL_law_1178 {v : Int32} (r : RQ G mL_law d 1180 [x0, x1, x2, x3, x4, x5, some (.int v), x7, x8] (.int v :: S) (h) P) : RQ G mL_law d 1178 [x0, x1, x2, x3, x4, x5, some (.int v), x7, x8] (S) h P := q_iload (M := mL_law) (pc := 1178) dL_law_1178 rfl r
theorem tL_law_1180 {x : Int32} (r : RQ G mL_law d 1181 [x0, x1, x2, x3, x4, x5, x6, x7, x8] (.long x.toInt64 :: S) (h) P) : RQ G mL_law d 1180 [x0, x1, x2, x3, x4, x5, x6, x7, x8] (.int x :: S) h P := q_i2l (M := mL_law) (pc := 1180) dL_law_1180 r
theorem tL_law_1181 {x y : Int64} (r : RQ G mL_law d 1182 [x0, x1, x2, x3, x4, x5, x6, x7, x8] (.int (lg_cmp x y) :: S) (h) P) : RQ G mL_law d 1181 [x0, x1, x2, x3, x4, x5, x6, x7, x8] (.long y :: .long x :: S) h P := q_lcmp (M := mL_law) (pc := 1181) dL_law_1181 r
theorem tL_law_1182 {x : Int32} (kt : x = 0 → RQ G mL_law d 1187 [x0, x1, x2, x3, x4, x5, x6, x7, x8] S h P) (kf : ¬ x = 0 → RQ G mL_law d 1185 [x0, x1, x2, x3, x4, x5, x6, x7, x8] S h P) : RQ G mL_law d 1182 [x0, x1, x2, x3, x4, x5, x6, x7, x8] (.int x :: S) h P := q_if_eq (M := mL_law) (pc := 1182) dL_law_1182 (by decide) kt kf
theorem tL_law_1185 (r : RQ G mL_law d 1186 [x0, x1, x2, x3, x4, x5, x6, x7, x8] (.int (nI 0) :: S) (h) P) : RQ G mL_law d 1185 [x0, x1, x2, x3, x4, x5, x6, x7, x8] (S) h P := q_iconst (M := mL_law) (pc := 1185) dL_law_1185 (by decide) r
theorem tL_law_1186 {x : Int32} (hb : x = nI 0 ∨ x = nI 1) (hP : P (.inl (some (.int x))) h) : RQ G mL_law d 1186 [x0, x1, x2, x3, x4, x5, x6, x7, x8] ([.int x]) h P := q_ireturn (M := mL_law) (pc := 1186) (ty := .boolean) dL_law_1186 rfl (nar_bool hb) hP
theorem tL_law_1187 (r : RQ G mL_law d 2189 [x0, x1, x2, x3, x4, x5, x6, x7, x8] S h P) : RQ G mL_law d 1187 [x0, x1, x2, x3, x4, x5, x6, x7, x8] (S) h P := q_goto (M := mL_law) (pc := 1187) dL_law_1187 (by decide) r
theorem tL_law_1190 {k : Nat} (r : RQ G mL_law d 1191 [x0, some (.ref k), x2, x3, x4, x5, x6, x7, x8] (.ref k :: S) (h) P) : RQ G mL_law d 1190 [x0, some (.ref k), x2, x3, x4, x5, x6, x7, x8] (S) h P := q_aload_n (M := mL_law) (pc := 1190) (r0 := some k) dL_law_1190 rfl rfl r
theorem tL_law_1191 {b d2 : Nat} {vs : List Value}  {Q : Int32 → AH → Prop} (hd : d2 + 1 ≤ d) (ha : At h b (.inr (8, vs))) (call : RQ G mX10_leading d2 0 [some (.ref b), none, none, none] [] h (Ri Q)) (k : ∀ x h1, Q x h1 → RQ G mL_law d 1194 [x0, x1, x2, x3, x4, x5, x6, x7, x8] (.int x :: S) h1 P) (hst : (S.map fun v => v.category).sum ≤ 8 := by exact Nat.le_of_ble_eq_true rfl)  : RQ G mL_law d 1191 [x0, x1, x2, x3, x4, x5, x6, x7, x8] (.ref b :: S) h P := q_callV (M := mL_law) (pc := 1191) (M2 := mX10_leading) (As := []) (n := 0) dL_law_1191 rfl ⟨by decide, by decide, by decide, rfl⟩ rfl w819 w820 w821 w109 w822 (show CL[8]? = some (RX10, TX10, 7) from rfl) hd (by decide) (Nat.le_of_ble_eq_true rfl) rfl ha hst call (callk_i k)
theorem tL_law_1194 {k : Nat} (r : RQ G mL_law d 1195 [x0, x1, some (.ref k), x3, x4, x5, x6, x7, x8] (.ref k :: S) (h) P) : RQ G mL_law d 1194 [x0, x1, some (.ref k), x3, x4, x5, x6, x7, x8] (S) h P := q_aload_n (M := mL_law) (pc := 1194) (r0 := some k) dL_law_1194 rfl rfl r
theorem tL_law_1195 {b d2 : Nat} {vs : List Value}  {Q : Int32 → AH → Prop} (hd : d2 + 1 ≤ d) (ha : At h b (.inr (10, vs))) (call : RQ G mX12_leading d2 0 [some (.ref b)] [] h (Ri Q)) (k : ∀ x h1, Q x h1 → RQ G mL_law d 1198 [x0, x1, x2, x3, x4, x5, x6, x7, x8] (.int x :: S) h1 P) (hst : (S.map fun v => v.category).sum ≤ 8 := by exact Nat.le_of_ble_eq_true rfl)  : RQ G mL_law d 1195 [x0, x1, x2, x3, x4, x5, x6, x7, x8] (.ref b :: S) h P := q_callV (M := mL_law) (pc := 1195) (M2 := mX12_leading) (As := []) (n := 0) dL_law_1195 rfl ⟨by decide, by decide, by decide, rfl⟩ rfl w1813 w1814 w1815 w120 w1816 (show CL[10]? = some (RX12, TX12, 25) from rfl) hd (by decide) (Nat.le_of_ble_eq_true rfl) rfl ha hst call (callk_i k)
theorem tL_law_1198 {x y : Int32} (kt : x = y → RQ G mL_law d 2189 [x0, x1, x2, x3, x4, x5, x6, x7, x8] S h P) (kf : ¬ x = y → RQ G mL_law d 1201 [x0, x1, x2, x3, x4, x5, x6, x7, x8] S h P) : RQ G mL_law d 1198 [x0, x1, x2, x3, x4, x5, x6, x7, x8] (.int y :: .int x :: S) h P := q_icmp_eq (M := mL_law) (pc := 1198) dL_law_1198 (by decide) kt kf
theorem tL_law_1201 (r : RQ G mL_law d 1202 [x0, x1, x2, x3, x4, x5, x6, x7, x8] (.int (nI 0) :: S) (h) P) : RQ G mL_law d 1201 [x0, x1, x2, x3, x4, x5, x6, x7, x8] (S) h P := q_iconst (M := mL_law) (pc := 1201) dL_law_1201 (by decide) r
theorem tL_law_1202 {x : Int32} (hb : x = nI 0 ∨ x = nI 1) (hP : P (.inl (some (.int x))) h) : RQ G mL_law d 1202 [x0, x1, x2, x3, x4, x5, x6, x7, x8] ([.int x]) h P := q_ireturn (M := mL_law) (pc := 1202) (ty := .boolean) dL_law_1202 rfl (nar_bool hb) hP
theorem tL_law_1203 {k : Nat} (r : RQ G mL_law d 1204 [x0, some (.ref k), x2, x3, x4, x5, x6, x7, x8] (.ref k :: S) (h) P) : RQ G mL_law d 1203 [x0, some (.ref k), x2, x3, x4, x5, x6, x7, x8] (S) h P := q_aload_n (M := mL_law) (pc := 1203) (r0 := some k) dL_law_1203 rfl rfl r
theorem tL_law_1204 {k : Nat} (r : RQ G mL_law d 1205 [some (.ref k), x1, x2, x3, x4, x5, x6, x7, x8] (.ref k :: S) (h) P) : RQ G mL_law d 1204 [some (.ref k), x1, x2, x3, x4, x5, x6, x7, x8] (S) h P := q_aload_n (M := mL_law) (pc := 1204) (r0 := some k) dL_law_1204 rfl rfl r
theorem tL_law_1205 {v : Int32} (r : RQ G mL_law d 1207 [x0, x1, x2, x3, some (.int v), x5, x6, x7, x8] (.int v :: S) (h) P) : RQ G mL_law d 1205 [x0, x1, x2, x3, some (.int v), x5, x6, x7, x8] (S) h P := q_iload (M := mL_law) (pc := 1205) dL_law_1205 rfl r
theorem tL_law_1207 (r : RQ G mL_law d 1208 [x0, x1, x2, x3, x4, x5, x6, x7, x8] (.int (nI 1) :: S) (h) P) : RQ G mL_law d 1207 [x0, x1, x2, x3, x4, x5, x6, x7, x8] (S) h P := q_iconst (M := mL_law) (pc := 1207) dL_law_1207 (by decide) r
theorem tL_law_1208 {x y : Int32} (r : RQ G mL_law d 1209 [x0, x1, x2, x3, x4, x5, x6, x7, x8] (.int (x + y) :: S) (h) P) : RQ G mL_law d 1208 [x0, x1, x2, x3, x4, x5, x6, x7, x8] (.int y :: .int x :: S) h P := q_iadd (M := mL_law) (pc := 1208) dL_law_1208 r
theorem tL_law_1209 {j : Nat} {x : Int32} (hx : x = nI j) (hj : j < gN G) (hn : gN G < 2147483648) (r : RQ G mL_law d 1210 [x0, x1, x2, x3, x4, x5, x6, x7, x8] (.int (gX G j) :: S) (h) P) : RQ G mL_law d 1209 [x0, x1, x2, x3, x4, x5, x6, x7, x8] (.int x :: .ref (OLD + 999) :: S) h P := q_sld (M := mL_law) (pc := 1209) dL_law_1209 hx hj hn r
theorem tL_law_1210 {k : Nat} (r : RQ G mL_law d 1211 [x0, x1, x2, some (.ref k), x4, x5, x6, x7, x8] (.ref k :: S) (h) P) : RQ G mL_law d 1210 [x0, x1, x2, some (.ref k), x4, x5, x6, x7, x8] (S) h P := q_aload_n (M := mL_law) (pc := 1210) (r0 := some k) dL_law_1210 rfl rfl r
theorem tL_law_1211 {d2 : Nat} {a0 : Nat} {a1 : Int32} {a2 : Nat} {Q : Int32 → AH → Prop} (hd : d2 + 1 ≤ d) (call : RQ G mL_hasMajority d2 0 [some (.ref a0), some (.int a1), some (.ref a2), none] [] h (Ri Q)) (k : ∀ x h1, Q x h1 → RQ G mL_law d 1214 [x0, x1, x2, x3, x4, x5, x6, x7, x8] (.int x :: S) h1 P) (hst : (S.map fun v => v.category).sum ≤ 8 := by exact Nat.le_of_ble_eq_true rfl)  : RQ G mL_law d 1211 [x0, x1, x2, x3, x4, x5, x6, x7, x8] (.ref a2 :: .int a1 :: .ref a0 :: S) h P := q_callSW (M := mL_law) (pc := 1211) (M2 := mL_hasMajority) (As := [.ref a0, .int a1, .ref a2]) (n := 3) dL_law_1211 ⟨by decide, by decide, by decide, rfl⟩ w1211 w1212 w108 w1213 hd (by decide) (Nat.le_of_ble_eq_true rfl) rfl hst call (callk_i k)
theorem tL_law_1214 {v : Int32} (ho : ok1 x4 = true := by rfl) (r : RQ G mL_law d 1216 [x0, x1, x2, x3, x4, some (.int v), x6, x7, x8] (S) (h) P) : RQ G mL_law d 1214 [x0, x1, x2, x3, x4, x5, x6, x7, x8] (.int v :: S) h P := q_istore (M := mL_law) (pc := 1214) dL_law_1214 (Nat.le_of_ble_eq_true rfl) ho r
theorem tL_law_1216 {k : Nat} (r : RQ G mL_law d 1217 [x0, x1, some (.ref k), x3, x4, x5, x6, x7, x8] (.ref k :: S) (h) P) : RQ G mL_law d 1216 [x0, x1, some (.ref k), x3, x4, x5, x6, x7, x8] (S) h P := q_aload_n (M := mL_law) (pc := 1216) (r0 := some k) dL_law_1216 rfl rfl r
theorem tL_law_1217 {k : Nat} (r : RQ G mL_law d 1218 [some (.ref k), x1, x2, x3, x4, x5, x6, x7, x8] (.ref k :: S) (h) P) : RQ G mL_law d 1217 [some (.ref k), x1, x2, x3, x4, x5, x6, x7, x8] (S) h P := q_aload_n (M := mL_law) (pc := 1217) (r0 := some k) dL_law_1217 rfl rfl r
theorem tL_law_1218 {v : Int32} (r : RQ G mL_law d 1220 [x0, x1, x2, x3, some (.int v), x5, x6, x7, x8] (.int v :: S) (h) P) : RQ G mL_law d 1218 [x0, x1, x2, x3, some (.int v), x5, x6, x7, x8] (S) h P := q_iload (M := mL_law) (pc := 1218) dL_law_1218 rfl r
theorem tL_law_1220 (r : RQ G mL_law d 1221 [x0, x1, x2, x3, x4, x5, x6, x7, x8] (.int (nI 1) :: S) (h) P) : RQ G mL_law d 1220 [x0, x1, x2, x3, x4, x5, x6, x7, x8] (S) h P := q_iconst (M := mL_law) (pc := 1220) dL_law_1220 (by decide) r
theorem tL_law_1221 {x y : Int32} (r : RQ G mL_law d 1222 [x0, x1, x2, x3, x4, x5, x6, x7, x8] (.int (x + y) :: S) (h) P) : RQ G mL_law d 1221 [x0, x1, x2, x3, x4, x5, x6, x7, x8] (.int y :: .int x :: S) h P := q_iadd (M := mL_law) (pc := 1221) dL_law_1221 r
theorem tL_law_1222 {j : Nat} {x : Int32} (hx : x = nI j) (hj : j < gN G) (hn : gN G < 2147483648) (r : RQ G mL_law d 1223 [x0, x1, x2, x3, x4, x5, x6, x7, x8] (.int (gX G j) :: S) (h) P) : RQ G mL_law d 1222 [x0, x1, x2, x3, x4, x5, x6, x7, x8] (.int x :: .ref (OLD + 999) :: S) h P := q_sld (M := mL_law) (pc := 1222) dL_law_1222 hx hj hn r
theorem tL_law_1223 {b d2 : Nat} {vs : List Value} {a0 : Int32} {Q : Int32 → AH → Prop} (hd : d2 + 1 ≤ d) (ha : At h b (.inr (10, vs))) (call : RQ G mX12_hasMajority d2 0 [some (.ref b), some (.int a0)] [] h (Ri Q)) (k : ∀ x h1, Q x h1 → RQ G mL_law d 1226 [x0, x1, x2, x3, x4, x5, x6, x7, x8] (.int x :: S) h1 P) (hst : (S.map fun v => v.category).sum ≤ 8 := by exact Nat.le_of_ble_eq_true rfl)  : RQ G mL_law d 1223 [x0, x1, x2, x3, x4, x5, x6, x7, x8] (.int a0 :: .ref b :: S) h P := q_callV (M := mL_law) (pc := 1223) (M2 := mX12_hasMajority) (As := [.int a0]) (n := 1) dL_law_1223 rfl ⟨by decide, by decide, by decide, rfl⟩ rfl w1821 w1822 w1823 w120 w1824 (show CL[10]? = some (RX12, TX12, 25) from rfl) hd (by decide) (Nat.le_of_ble_eq_true rfl) rfl ha hst call (callk_i k)
theorem tL_law_1226 {v : Int32} (ho : ok1 x5 = true := by rfl) (r : RQ G mL_law d 1228 [x0, x1, x2, x3, x4, x5, some (.int v), x7, x8] (S) (h) P) : RQ G mL_law d 1226 [x0, x1, x2, x3, x4, x5, x6, x7, x8] (.int v :: S) h P := q_istore (M := mL_law) (pc := 1226) dL_law_1226 (Nat.le_of_ble_eq_true rfl) ho r
theorem tL_law_1228 {k : Nat} (r : RQ G mL_law d 1229 [x0, x1, some (.ref k), x3, x4, x5, x6, x7, x8] (.ref k :: S) (h) P) : RQ G mL_law d 1228 [x0, x1, some (.ref k), x3, x4, x5, x6, x7, x8] (S) h P := q_aload_n (M := mL_law) (pc := 1228) (r0 := some k) dL_law_1228 rfl rfl r
theorem tL_law_1229 {b d2 : Nat} {vs : List Value}  {Q : Int32 → AH → Prop} (hd : d2 + 1 ≤ d) (ha : At h b (.inr (10, vs))) (call : RQ G mX12_thrown d2 0 [some (.ref b)] [] h (Ri Q)) (k : ∀ x h1, Q x h1 → RQ G mL_law d 1232 [x0, x1, x2, x3, x4, x5, x6, x7, x8] (.int x :: S) h1 P) (hst : (S.map fun v => v.category).sum ≤ 8 := by exact Nat.le_of_ble_eq_true rfl)  : RQ G mL_law d 1229 [x0, x1, x2, x3, x4, x5, x6, x7, x8] (.ref b :: S) h P := q_callV (M := mL_law) (pc := 1229) (M2 := mX12_thrown) (As := []) (n := 0) dL_law_1229 rfl ⟨by decide, by decide, by decide, rfl⟩ rfl w1499 w1500 w1501 w120 w1502 (show CL[10]? = some (RX12, TX12, 25) from rfl) hd (by decide) (Nat.le_of_ble_eq_true rfl) rfl ha hst call (callk_i k)
theorem tL_law_1232 {v : Int32} (r : RQ G mL_law d 1234 [x0, x1, x2, x3, x4, some (.int v), x6, x7, x8] (.int v :: S) (h) P) : RQ G mL_law d 1232 [x0, x1, x2, x3, x4, some (.int v), x6, x7, x8] (S) h P := q_iload (M := mL_law) (pc := 1232) dL_law_1232 rfl r
theorem tL_law_1234 {x y : Int32} (kt : x = y → RQ G mL_law d 1239 [x0, x1, x2, x3, x4, x5, x6, x7, x8] S h P) (kf : ¬ x = y → RQ G mL_law d 1237 [x0, x1, x2, x3, x4, x5, x6, x7, x8] S h P) : RQ G mL_law d 1234 [x0, x1, x2, x3, x4, x5, x6, x7, x8] (.int y :: .int x :: S) h P := q_icmp_eq (M := mL_law) (pc := 1234) dL_law_1234 (by decide) kt kf
theorem tL_law_1237 (r : RQ G mL_law d 1238 [x0, x1, x2, x3, x4, x5, x6, x7, x8] (.int (nI 0) :: S) (h) P) : RQ G mL_law d 1237 [x0, x1, x2, x3, x4, x5, x6, x7, x8] (S) h P := q_iconst (M := mL_law) (pc := 1237) dL_law_1237 (by decide) r
theorem tL_law_1238 {x : Int32} (hb : x = nI 0 ∨ x = nI 1) (hP : P (.inl (some (.int x))) h) : RQ G mL_law d 1238 [x0, x1, x2, x3, x4, x5, x6, x7, x8] ([.int x]) h P := q_ireturn (M := mL_law) (pc := 1238) (ty := .boolean) dL_law_1238 rfl (nar_bool hb) hP
theorem tL_law_1239 {v : Int32} (r : RQ G mL_law d 1241 [x0, x1, x2, x3, x4, some (.int v), x6, x7, x8] (.int v :: S) (h) P) : RQ G mL_law d 1239 [x0, x1, x2, x3, x4, some (.int v), x6, x7, x8] (S) h P := q_iload (M := mL_law) (pc := 1239) dL_law_1239 rfl r
theorem tL_law_1241 {x : Int32} (kt : ¬ x = 0 → RQ G mL_law d 1263 [x0, x1, x2, x3, x4, x5, x6, x7, x8] S h P) (kf : x = 0 → RQ G mL_law d 1244 [x0, x1, x2, x3, x4, x5, x6, x7, x8] S h P) : RQ G mL_law d 1241 [x0, x1, x2, x3, x4, x5, x6, x7, x8] (.int x :: S) h P := q_if_ne (M := mL_law) (pc := 1241) dL_law_1241 (by decide) kt kf
theorem tL_law_1244 {k : Nat} (r : RQ G mL_law d 1245 [x0, x1, x2, some (.ref k), x4, x5, x6, x7, x8] (.ref k :: S) (h) P) : RQ G mL_law d 1244 [x0, x1, x2, some (.ref k), x4, x5, x6, x7, x8] (S) h P := q_aload_n (M := mL_law) (pc := 1244) (r0 := some k) dL_law_1244 rfl rfl r
theorem tL_law_1245 (r : RQ G mL_law d 1246 [x0, x1, x2, x3, x4, x5, x6, x7, x8] (.int (nI 0) :: S) (h) P) : RQ G mL_law d 1245 [x0, x1, x2, x3, x4, x5, x6, x7, x8] (S) h P := q_iconst (M := mL_law) (pc := 1245) dL_law_1245 (by decide) r
theorem tL_law_1246 {a n j : Nat} {x : Int32} {f : Nat → Int64} (ha : At h a (.inl (2, n, .inr (.inl f)))) (hx : x = nI j) (hj : j < n) (hn : n < 2147483648) (r : RQ G mL_law d 1247 [x0, x1, x2, x3, x4, x5, x6, x7, x8] (.long (f j) :: S) (h) P) : RQ G mL_law d 1246 [x0, x1, x2, x3, x4, x5, x6, x7, x8] (.int x :: .ref a :: S) h P := q_lald (M := mL_law) (pc := 1246) dL_law_1246 ha hx hj hn r
theorem tL_law_1247 {v : Int32} (r : RQ G mL_law d 1249 [x0, x1, x2, x3, x4, x5, some (.int v), x7, x8] (.int v :: S) (h) P) : RQ G mL_law d 1247 [x0, x1, x2, x3, x4, x5, some (.int v), x7, x8] (S) h P := q_iload (M := mL_law) (pc := 1247) dL_law_1247 rfl r
theorem tL_law_1249 {x : Int32} (kt : x = 0 → RQ G mL_law d 1256 [x0, x1, x2, x3, x4, x5, x6, x7, x8] S h P) (kf : ¬ x = 0 → RQ G mL_law d 1252 [x0, x1, x2, x3, x4, x5, x6, x7, x8] S h P) : RQ G mL_law d 1249 [x0, x1, x2, x3, x4, x5, x6, x7, x8] (.int x :: S) h P := q_if_eq (M := mL_law) (pc := 1249) dL_law_1249 (by decide) kt kf
theorem tL_law_1252 (r : RQ G mL_law d 1253 [x0, x1, x2, x3, x4, x5, x6, x7, x8] (.long (lN 1) :: S) (h) P) : RQ G mL_law d 1252 [x0, x1, x2, x3, x4, x5, x6, x7, x8] (S) h P := q_lconst (M := mL_law) (pc := 1252) dL_law_1252 (by decide) r
theorem tL_law_1253 (r : RQ G mL_law d 1257 [x0, x1, x2, x3, x4, x5, x6, x7, x8] S h P) : RQ G mL_law d 1253 [x0, x1, x2, x3, x4, x5, x6, x7, x8] (S) h P := q_goto (M := mL_law) (pc := 1253) dL_law_1253 (by decide) r
theorem tL_law_1256 (r : RQ G mL_law d 1257 [x0, x1, x2, x3, x4, x5, x6, x7, x8] (.long (lN 0) :: S) (h) P) : RQ G mL_law d 1256 [x0, x1, x2, x3, x4, x5, x6, x7, x8] (S) h P := q_lconst (M := mL_law) (pc := 1256) dL_law_1256 (by decide) r
theorem tL_law_1257 {x y : Int64} (r : RQ G mL_law d 1258 [x0, x1, x2, x3, x4, x5, x6, x7, x8] (.int (lg_cmp x y) :: S) (h) P) : RQ G mL_law d 1257 [x0, x1, x2, x3, x4, x5, x6, x7, x8] (.long y :: .long x :: S) h P := q_lcmp (M := mL_law) (pc := 1257) dL_law_1257 r
theorem tL_law_1258 {x : Int32} (kt : x = 0 → RQ G mL_law d 1263 [x0, x1, x2, x3, x4, x5, x6, x7, x8] S h P) (kf : ¬ x = 0 → RQ G mL_law d 1261 [x0, x1, x2, x3, x4, x5, x6, x7, x8] S h P) : RQ G mL_law d 1258 [x0, x1, x2, x3, x4, x5, x6, x7, x8] (.int x :: S) h P := q_if_eq (M := mL_law) (pc := 1258) dL_law_1258 (by decide) kt kf
theorem tL_law_1261 (r : RQ G mL_law d 1262 [x0, x1, x2, x3, x4, x5, x6, x7, x8] (.int (nI 0) :: S) (h) P) : RQ G mL_law d 1261 [x0, x1, x2, x3, x4, x5, x6, x7, x8] (S) h P := q_iconst (M := mL_law) (pc := 1261) dL_law_1261 (by decide) r
theorem tL_law_1262 {x : Int32} (hb : x = nI 0 ∨ x = nI 1) (hP : P (.inl (some (.int x))) h) : RQ G mL_law d 1262 [x0, x1, x2, x3, x4, x5, x6, x7, x8] ([.int x]) h P := q_ireturn (M := mL_law) (pc := 1262) (ty := .boolean) dL_law_1262 rfl (nar_bool hb) hP
theorem tL_law_1263 (r : RQ G mL_law d 2189 [x0, x1, x2, x3, x4, x5, x6, x7, x8] S h P) : RQ G mL_law d 1263 [x0, x1, x2, x3, x4, x5, x6, x7, x8] (S) h P := q_goto (M := mL_law) (pc := 1263) dL_law_1263 (by decide) r
theorem tL_law_1266 {k : Nat} (r : RQ G mL_law d 1267 [x0, some (.ref k), x2, x3, x4, x5, x6, x7, x8] (.ref k :: S) (h) P) : RQ G mL_law d 1266 [x0, some (.ref k), x2, x3, x4, x5, x6, x7, x8] (S) h P := q_aload_n (M := mL_law) (pc := 1266) (r0 := some k) dL_law_1266 rfl rfl r
theorem tL_law_1267 {k : Nat} (r : RQ G mL_law d 1268 [some (.ref k), x1, x2, x3, x4, x5, x6, x7, x8] (.ref k :: S) (h) P) : RQ G mL_law d 1267 [some (.ref k), x1, x2, x3, x4, x5, x6, x7, x8] (S) h P := q_aload_n (M := mL_law) (pc := 1267) (r0 := some k) dL_law_1267 rfl rfl r
theorem tL_law_1268 {v : Int32} (r : RQ G mL_law d 1270 [x0, x1, x2, x3, some (.int v), x5, x6, x7, x8] (.int v :: S) (h) P) : RQ G mL_law d 1268 [x0, x1, x2, x3, some (.int v), x5, x6, x7, x8] (S) h P := q_iload (M := mL_law) (pc := 1268) dL_law_1268 rfl r
theorem tL_law_1270 (r : RQ G mL_law d 1271 [x0, x1, x2, x3, x4, x5, x6, x7, x8] (.int (nI 1) :: S) (h) P) : RQ G mL_law d 1270 [x0, x1, x2, x3, x4, x5, x6, x7, x8] (S) h P := q_iconst (M := mL_law) (pc := 1270) dL_law_1270 (by decide) r
theorem tL_law_1271 {x y : Int32} (r : RQ G mL_law d 1272 [x0, x1, x2, x3, x4, x5, x6, x7, x8] (.int (x + y) :: S) (h) P) : RQ G mL_law d 1271 [x0, x1, x2, x3, x4, x5, x6, x7, x8] (.int y :: .int x :: S) h P := q_iadd (M := mL_law) (pc := 1271) dL_law_1271 r
theorem tL_law_1272 {j : Nat} {x : Int32} (hx : x = nI j) (hj : j < gN G) (hn : gN G < 2147483648) (r : RQ G mL_law d 1273 [x0, x1, x2, x3, x4, x5, x6, x7, x8] (.int (gX G j) :: S) (h) P) : RQ G mL_law d 1272 [x0, x1, x2, x3, x4, x5, x6, x7, x8] (.int x :: .ref (OLD + 999) :: S) h P := q_sld (M := mL_law) (pc := 1272) dL_law_1272 hx hj hn r
theorem tL_law_1273 {k : Nat} (r : RQ G mL_law d 1274 [x0, x1, x2, some (.ref k), x4, x5, x6, x7, x8] (.ref k :: S) (h) P) : RQ G mL_law d 1273 [x0, x1, x2, some (.ref k), x4, x5, x6, x7, x8] (S) h P := q_aload_n (M := mL_law) (pc := 1273) (r0 := some k) dL_law_1273 rfl rfl r
theorem tL_law_1274 {d2 : Nat} {a0 : Nat} {a1 : Int32} {a2 : Nat} {Q : Int32 → AH → Prop} (hd : d2 + 1 ≤ d) (call : RQ G mL_jarOfLid d2 0 [some (.ref a0), some (.int a1), some (.ref a2), none] [] h (Ri Q)) (k : ∀ x h1, Q x h1 → RQ G mL_law d 1277 [x0, x1, x2, x3, x4, x5, x6, x7, x8] (.int x :: S) h1 P) (hst : (S.map fun v => v.category).sum ≤ 8 := by exact Nat.le_of_ble_eq_true rfl)  : RQ G mL_law d 1274 [x0, x1, x2, x3, x4, x5, x6, x7, x8] (.ref a2 :: .int a1 :: .ref a0 :: S) h P := q_callSW (M := mL_law) (pc := 1274) (M2 := mL_jarOfLid) (As := [.ref a0, .int a1, .ref a2]) (n := 3) dL_law_1274 ⟨by decide, by decide, by decide, rfl⟩ w1215 w1216 w108 w1217 hd (by decide) (Nat.le_of_ble_eq_true rfl) rfl hst call (callk_i k)
theorem tL_law_1277 {v : Int32} (ho : ok1 x4 = true := by rfl) (r : RQ G mL_law d 1279 [x0, x1, x2, x3, x4, some (.int v), x6, x7, x8] (S) (h) P) : RQ G mL_law d 1277 [x0, x1, x2, x3, x4, x5, x6, x7, x8] (.int v :: S) h P := q_istore (M := mL_law) (pc := 1277) dL_law_1277 (Nat.le_of_ble_eq_true rfl) ho r
theorem tL_law_1279 {k : Nat} (r : RQ G mL_law d 1280 [x0, x1, some (.ref k), x3, x4, x5, x6, x7, x8] (.ref k :: S) (h) P) : RQ G mL_law d 1279 [x0, x1, some (.ref k), x3, x4, x5, x6, x7, x8] (S) h P := q_aload_n (M := mL_law) (pc := 1279) (r0 := some k) dL_law_1279 rfl rfl r
theorem tL_law_1280 {k : Nat} (r : RQ G mL_law d 1281 [some (.ref k), x1, x2, x3, x4, x5, x6, x7, x8] (.ref k :: S) (h) P) : RQ G mL_law d 1280 [some (.ref k), x1, x2, x3, x4, x5, x6, x7, x8] (S) h P := q_aload_n (M := mL_law) (pc := 1280) (r0 := some k) dL_law_1280 rfl rfl r
theorem tL_law_1281 {v : Int32} (r : RQ G mL_law d 1283 [x0, x1, x2, x3, some (.int v), x5, x6, x7, x8] (.int v :: S) (h) P) : RQ G mL_law d 1281 [x0, x1, x2, x3, some (.int v), x5, x6, x7, x8] (S) h P := q_iload (M := mL_law) (pc := 1281) dL_law_1281 rfl r
theorem tL_law_1283 (r : RQ G mL_law d 1284 [x0, x1, x2, x3, x4, x5, x6, x7, x8] (.int (nI 1) :: S) (h) P) : RQ G mL_law d 1283 [x0, x1, x2, x3, x4, x5, x6, x7, x8] (S) h P := q_iconst (M := mL_law) (pc := 1283) dL_law_1283 (by decide) r
theorem tL_law_1284 {x y : Int32} (r : RQ G mL_law d 1285 [x0, x1, x2, x3, x4, x5, x6, x7, x8] (.int (x + y) :: S) (h) P) : RQ G mL_law d 1284 [x0, x1, x2, x3, x4, x5, x6, x7, x8] (.int y :: .int x :: S) h P := q_iadd (M := mL_law) (pc := 1284) dL_law_1284 r
theorem tL_law_1285 {j : Nat} {x : Int32} (hx : x = nI j) (hj : j < gN G) (hn : gN G < 2147483648) (r : RQ G mL_law d 1286 [x0, x1, x2, x3, x4, x5, x6, x7, x8] (.int (gX G j) :: S) (h) P) : RQ G mL_law d 1285 [x0, x1, x2, x3, x4, x5, x6, x7, x8] (.int x :: .ref (OLD + 999) :: S) h P := q_sld (M := mL_law) (pc := 1285) dL_law_1285 hx hj hn r
theorem tL_law_1286 {b d2 : Nat} {vs : List Value} {a0 : Int32} {Q : Int32 → AH → Prop} (hd : d2 + 1 ≤ d) (ha : At h b (.inr (10, vs))) (call : RQ G mX12_jarOfLid d2 0 [some (.ref b), some (.int a0)] [] h (Ri Q)) (k : ∀ x h1, Q x h1 → RQ G mL_law d 1289 [x0, x1, x2, x3, x4, x5, x6, x7, x8] (.int x :: S) h1 P) (hst : (S.map fun v => v.category).sum ≤ 8 := by exact Nat.le_of_ble_eq_true rfl)  : RQ G mL_law d 1286 [x0, x1, x2, x3, x4, x5, x6, x7, x8] (.int a0 :: .ref b :: S) h P := q_callV (M := mL_law) (pc := 1286) (M2 := mX12_jarOfLid) (As := [.int a0]) (n := 1) dL_law_1286 rfl ⟨by decide, by decide, by decide, rfl⟩ rfl w1833 w1834 w1835 w120 w1836 (show CL[10]? = some (RX12, TX12, 25) from rfl) hd (by decide) (Nat.le_of_ble_eq_true rfl) rfl ha hst call (callk_i k)
theorem tL_law_1289 {v : Int32} (ho : ok1 x5 = true := by rfl) (r : RQ G mL_law d 1291 [x0, x1, x2, x3, x4, x5, some (.int v), x7, x8] (S) (h) P) : RQ G mL_law d 1289 [x0, x1, x2, x3, x4, x5, x6, x7, x8] (.int v :: S) h P := q_istore (M := mL_law) (pc := 1289) dL_law_1289 (Nat.le_of_ble_eq_true rfl) ho r
theorem tL_law_1291 {k : Nat} (r : RQ G mL_law d 1292 [x0, x1, some (.ref k), x3, x4, x5, x6, x7, x8] (.ref k :: S) (h) P) : RQ G mL_law d 1291 [x0, x1, some (.ref k), x3, x4, x5, x6, x7, x8] (S) h P := q_aload_n (M := mL_law) (pc := 1291) (r0 := some k) dL_law_1291 rfl rfl r
theorem tL_law_1292 {b d2 : Nat} {vs : List Value}  {Q : Int32 → AH → Prop} (hd : d2 + 1 ≤ d) (ha : At h b (.inr (10, vs))) (call : RQ G mX12_thrown d2 0 [some (.ref b)] [] h (Ri Q)) (k : ∀ x h1, Q x h1 → RQ G mL_law d 1295 [x0, x1, x2, x3, x4, x5, x6, x7, x8] (.int x :: S) h1 P) (hst : (S.map fun v => v.category).sum ≤ 8 := by exact Nat.le_of_ble_eq_true rfl)  : RQ G mL_law d 1292 [x0, x1, x2, x3, x4, x5, x6, x7, x8] (.ref b :: S) h P := q_callV (M := mL_law) (pc := 1292) (M2 := mX12_thrown) (As := []) (n := 0) dL_law_1292 rfl ⟨by decide, by decide, by decide, rfl⟩ rfl w1499 w1500 w1501 w120 w1502 (show CL[10]? = some (RX12, TX12, 25) from rfl) hd (by decide) (Nat.le_of_ble_eq_true rfl) rfl ha hst call (callk_i k)
theorem tL_law_1295 {v : Int32} (r : RQ G mL_law d 1297 [x0, x1, x2, x3, x4, some (.int v), x6, x7, x8] (.int v :: S) (h) P) : RQ G mL_law d 1295 [x0, x1, x2, x3, x4, some (.int v), x6, x7, x8] (S) h P := q_iload (M := mL_law) (pc := 1295) dL_law_1295 rfl r
theorem tL_law_1297 {x y : Int32} (kt : x = y → RQ G mL_law d 1302 [x0, x1, x2, x3, x4, x5, x6, x7, x8] S h P) (kf : ¬ x = y → RQ G mL_law d 1300 [x0, x1, x2, x3, x4, x5, x6, x7, x8] S h P) : RQ G mL_law d 1297 [x0, x1, x2, x3, x4, x5, x6, x7, x8] (.int y :: .int x :: S) h P := q_icmp_eq (M := mL_law) (pc := 1297) dL_law_1297 (by decide) kt kf
theorem tL_law_1300 (r : RQ G mL_law d 1301 [x0, x1, x2, x3, x4, x5, x6, x7, x8] (.int (nI 0) :: S) (h) P) : RQ G mL_law d 1300 [x0, x1, x2, x3, x4, x5, x6, x7, x8] (S) h P := q_iconst (M := mL_law) (pc := 1300) dL_law_1300 (by decide) r
theorem tL_law_1301 {x : Int32} (hb : x = nI 0 ∨ x = nI 1) (hP : P (.inl (some (.int x))) h) : RQ G mL_law d 1301 [x0, x1, x2, x3, x4, x5, x6, x7, x8] ([.int x]) h P := q_ireturn (M := mL_law) (pc := 1301) (ty := .boolean) dL_law_1301 rfl (nar_bool hb) hP
theorem tL_law_1302 {v : Int32} (r : RQ G mL_law d 1304 [x0, x1, x2, x3, x4, some (.int v), x6, x7, x8] (.int v :: S) (h) P) : RQ G mL_law d 1302 [x0, x1, x2, x3, x4, some (.int v), x6, x7, x8] (S) h P := q_iload (M := mL_law) (pc := 1302) dL_law_1302 rfl r
theorem tL_law_1304 {x : Int32} (kt : ¬ x = 0 → RQ G mL_law d 1319 [x0, x1, x2, x3, x4, x5, x6, x7, x8] S h P) (kf : x = 0 → RQ G mL_law d 1307 [x0, x1, x2, x3, x4, x5, x6, x7, x8] S h P) : RQ G mL_law d 1304 [x0, x1, x2, x3, x4, x5, x6, x7, x8] (.int x :: S) h P := q_if_ne (M := mL_law) (pc := 1304) dL_law_1304 (by decide) kt kf
theorem tL_law_1307 {k : Nat} (r : RQ G mL_law d 1308 [x0, x1, x2, some (.ref k), x4, x5, x6, x7, x8] (.ref k :: S) (h) P) : RQ G mL_law d 1307 [x0, x1, x2, some (.ref k), x4, x5, x6, x7, x8] (S) h P := q_aload_n (M := mL_law) (pc := 1307) (r0 := some k) dL_law_1307 rfl rfl r
theorem tL_law_1308 (r : RQ G mL_law d 1309 [x0, x1, x2, x3, x4, x5, x6, x7, x8] (.int (nI 0) :: S) (h) P) : RQ G mL_law d 1308 [x0, x1, x2, x3, x4, x5, x6, x7, x8] (S) h P := q_iconst (M := mL_law) (pc := 1308) dL_law_1308 (by decide) r
theorem tL_law_1309 {a n j : Nat} {x : Int32} {f : Nat → Int64} (ha : At h a (.inl (2, n, .inr (.inl f)))) (hx : x = nI j) (hj : j < n) (hn : n < 2147483648) (r : RQ G mL_law d 1310 [x0, x1, x2, x3, x4, x5, x6, x7, x8] (.long (f j) :: S) (h) P) : RQ G mL_law d 1309 [x0, x1, x2, x3, x4, x5, x6, x7, x8] (.int x :: .ref a :: S) h P := q_lald (M := mL_law) (pc := 1309) dL_law_1309 ha hx hj hn r
theorem tL_law_1310 {v : Int32} (r : RQ G mL_law d 1312 [x0, x1, x2, x3, x4, x5, some (.int v), x7, x8] (.int v :: S) (h) P) : RQ G mL_law d 1310 [x0, x1, x2, x3, x4, x5, some (.int v), x7, x8] (S) h P := q_iload (M := mL_law) (pc := 1310) dL_law_1310 rfl r
theorem tL_law_1312 {x : Int32} (r : RQ G mL_law d 1313 [x0, x1, x2, x3, x4, x5, x6, x7, x8] (.long x.toInt64 :: S) (h) P) : RQ G mL_law d 1312 [x0, x1, x2, x3, x4, x5, x6, x7, x8] (.int x :: S) h P := q_i2l (M := mL_law) (pc := 1312) dL_law_1312 r
theorem tL_law_1313 {x y : Int64} (r : RQ G mL_law d 1314 [x0, x1, x2, x3, x4, x5, x6, x7, x8] (.int (lg_cmp x y) :: S) (h) P) : RQ G mL_law d 1313 [x0, x1, x2, x3, x4, x5, x6, x7, x8] (.long y :: .long x :: S) h P := q_lcmp (M := mL_law) (pc := 1313) dL_law_1313 r
theorem tL_law_1314 {x : Int32} (kt : x = 0 → RQ G mL_law d 1319 [x0, x1, x2, x3, x4, x5, x6, x7, x8] S h P) (kf : ¬ x = 0 → RQ G mL_law d 1317 [x0, x1, x2, x3, x4, x5, x6, x7, x8] S h P) : RQ G mL_law d 1314 [x0, x1, x2, x3, x4, x5, x6, x7, x8] (.int x :: S) h P := q_if_eq (M := mL_law) (pc := 1314) dL_law_1314 (by decide) kt kf
theorem tL_law_1317 (r : RQ G mL_law d 1318 [x0, x1, x2, x3, x4, x5, x6, x7, x8] (.int (nI 0) :: S) (h) P) : RQ G mL_law d 1317 [x0, x1, x2, x3, x4, x5, x6, x7, x8] (S) h P := q_iconst (M := mL_law) (pc := 1317) dL_law_1317 (by decide) r
theorem tL_law_1318 {x : Int32} (hb : x = nI 0 ∨ x = nI 1) (hP : P (.inl (some (.int x))) h) : RQ G mL_law d 1318 [x0, x1, x2, x3, x4, x5, x6, x7, x8] ([.int x]) h P := q_ireturn (M := mL_law) (pc := 1318) (ty := .boolean) dL_law_1318 rfl (nar_bool hb) hP
theorem tL_law_1319 (r : RQ G mL_law d 2189 [x0, x1, x2, x3, x4, x5, x6, x7, x8] S h P) : RQ G mL_law d 1319 [x0, x1, x2, x3, x4, x5, x6, x7, x8] (S) h P := q_goto (M := mL_law) (pc := 1319) dL_law_1319 (by decide) r
theorem tL_law_1322 {k : Nat} (r : RQ G mL_law d 1323 [x0, some (.ref k), x2, x3, x4, x5, x6, x7, x8] (.ref k :: S) (h) P) : RQ G mL_law d 1322 [x0, some (.ref k), x2, x3, x4, x5, x6, x7, x8] (S) h P := q_aload_n (M := mL_law) (pc := 1322) (r0 := some k) dL_law_1322 rfl rfl r
theorem tL_law_1323 {k : Nat} (r : RQ G mL_law d 1324 [some (.ref k), x1, x2, x3, x4, x5, x6, x7, x8] (.ref k :: S) (h) P) : RQ G mL_law d 1323 [some (.ref k), x1, x2, x3, x4, x5, x6, x7, x8] (S) h P := q_aload_n (M := mL_law) (pc := 1323) (r0 := some k) dL_law_1323 rfl rfl r
theorem tL_law_1324 {v : Int32} (r : RQ G mL_law d 1326 [x0, x1, x2, x3, some (.int v), x5, x6, x7, x8] (.int v :: S) (h) P) : RQ G mL_law d 1324 [x0, x1, x2, x3, some (.int v), x5, x6, x7, x8] (S) h P := q_iload (M := mL_law) (pc := 1324) dL_law_1324 rfl r
theorem tL_law_1326 (r : RQ G mL_law d 1327 [x0, x1, x2, x3, x4, x5, x6, x7, x8] (.int (nI 1) :: S) (h) P) : RQ G mL_law d 1326 [x0, x1, x2, x3, x4, x5, x6, x7, x8] (S) h P := q_iconst (M := mL_law) (pc := 1326) dL_law_1326 (by decide) r
theorem tL_law_1327 {x y : Int32} (r : RQ G mL_law d 1328 [x0, x1, x2, x3, x4, x5, x6, x7, x8] (.int (x + y) :: S) (h) P) : RQ G mL_law d 1327 [x0, x1, x2, x3, x4, x5, x6, x7, x8] (.int y :: .int x :: S) h P := q_iadd (M := mL_law) (pc := 1327) dL_law_1327 r
theorem tL_law_1328 {j : Nat} {x : Int32} (hx : x = nI j) (hj : j < gN G) (hn : gN G < 2147483648) (r : RQ G mL_law d 1329 [x0, x1, x2, x3, x4, x5, x6, x7, x8] (.int (gX G j) :: S) (h) P) : RQ G mL_law d 1328 [x0, x1, x2, x3, x4, x5, x6, x7, x8] (.int x :: .ref (OLD + 999) :: S) h P := q_sld (M := mL_law) (pc := 1328) dL_law_1328 hx hj hn r
theorem tL_law_1329 {k : Nat} (r : RQ G mL_law d 1330 [x0, x1, x2, some (.ref k), x4, x5, x6, x7, x8] (.ref k :: S) (h) P) : RQ G mL_law d 1329 [x0, x1, x2, some (.ref k), x4, x5, x6, x7, x8] (S) h P := q_aload_n (M := mL_law) (pc := 1329) (r0 := some k) dL_law_1329 rfl rfl r
theorem tL_law_1330 {d2 : Nat} {a0 : Nat} {a1 : Int32} {a2 : Nat} {Q : Int32 → AH → Prop} (hd : d2 + 1 ≤ d) (call : RQ G mL_labelOfLid d2 0 [some (.ref a0), some (.int a1), some (.ref a2), none] [] h (Ri Q)) (k : ∀ x h1, Q x h1 → RQ G mL_law d 1333 [x0, x1, x2, x3, x4, x5, x6, x7, x8] (.int x :: S) h1 P) (hst : (S.map fun v => v.category).sum ≤ 8 := by exact Nat.le_of_ble_eq_true rfl)  : RQ G mL_law d 1330 [x0, x1, x2, x3, x4, x5, x6, x7, x8] (.ref a2 :: .int a1 :: .ref a0 :: S) h P := q_callSW (M := mL_law) (pc := 1330) (M2 := mL_labelOfLid) (As := [.ref a0, .int a1, .ref a2]) (n := 3) dL_law_1330 ⟨by decide, by decide, by decide, rfl⟩ w1219 w1220 w108 w1221 hd (by decide) (Nat.le_of_ble_eq_true rfl) rfl hst call (callk_i k)
theorem tL_law_1333 {v : Int32} (ho : ok1 x4 = true := by rfl) (r : RQ G mL_law d 1335 [x0, x1, x2, x3, x4, some (.int v), x6, x7, x8] (S) (h) P) : RQ G mL_law d 1333 [x0, x1, x2, x3, x4, x5, x6, x7, x8] (.int v :: S) h P := q_istore (M := mL_law) (pc := 1333) dL_law_1333 (Nat.le_of_ble_eq_true rfl) ho r
theorem tL_law_1335 {k : Nat} (r : RQ G mL_law d 1336 [x0, x1, some (.ref k), x3, x4, x5, x6, x7, x8] (.ref k :: S) (h) P) : RQ G mL_law d 1335 [x0, x1, some (.ref k), x3, x4, x5, x6, x7, x8] (S) h P := q_aload_n (M := mL_law) (pc := 1335) (r0 := some k) dL_law_1335 rfl rfl r
theorem tL_law_1336 {k : Nat} (r : RQ G mL_law d 1337 [some (.ref k), x1, x2, x3, x4, x5, x6, x7, x8] (.ref k :: S) (h) P) : RQ G mL_law d 1336 [some (.ref k), x1, x2, x3, x4, x5, x6, x7, x8] (S) h P := q_aload_n (M := mL_law) (pc := 1336) (r0 := some k) dL_law_1336 rfl rfl r
theorem tL_law_1337 {v : Int32} (r : RQ G mL_law d 1339 [x0, x1, x2, x3, some (.int v), x5, x6, x7, x8] (.int v :: S) (h) P) : RQ G mL_law d 1337 [x0, x1, x2, x3, some (.int v), x5, x6, x7, x8] (S) h P := q_iload (M := mL_law) (pc := 1337) dL_law_1337 rfl r
theorem tL_law_1339 (r : RQ G mL_law d 1340 [x0, x1, x2, x3, x4, x5, x6, x7, x8] (.int (nI 1) :: S) (h) P) : RQ G mL_law d 1339 [x0, x1, x2, x3, x4, x5, x6, x7, x8] (S) h P := q_iconst (M := mL_law) (pc := 1339) dL_law_1339 (by decide) r
theorem tL_law_1340 {x y : Int32} (r : RQ G mL_law d 1341 [x0, x1, x2, x3, x4, x5, x6, x7, x8] (.int (x + y) :: S) (h) P) : RQ G mL_law d 1340 [x0, x1, x2, x3, x4, x5, x6, x7, x8] (.int y :: .int x :: S) h P := q_iadd (M := mL_law) (pc := 1340) dL_law_1340 r
theorem tL_law_1341 {j : Nat} {x : Int32} (hx : x = nI j) (hj : j < gN G) (hn : gN G < 2147483648) (r : RQ G mL_law d 1342 [x0, x1, x2, x3, x4, x5, x6, x7, x8] (.int (gX G j) :: S) (h) P) : RQ G mL_law d 1341 [x0, x1, x2, x3, x4, x5, x6, x7, x8] (.int x :: .ref (OLD + 999) :: S) h P := q_sld (M := mL_law) (pc := 1341) dL_law_1341 hx hj hn r
theorem tL_law_1342 {b d2 : Nat} {vs : List Value} {a0 : Int32} {Q : Int32 → AH → Prop} (hd : d2 + 1 ≤ d) (ha : At h b (.inr (10, vs))) (call : RQ G mX12_labelOfLid d2 0 [some (.ref b), some (.int a0)] [] h (Ri Q)) (k : ∀ x h1, Q x h1 → RQ G mL_law d 1345 [x0, x1, x2, x3, x4, x5, x6, x7, x8] (.int x :: S) h1 P) (hst : (S.map fun v => v.category).sum ≤ 8 := by exact Nat.le_of_ble_eq_true rfl)  : RQ G mL_law d 1342 [x0, x1, x2, x3, x4, x5, x6, x7, x8] (.int a0 :: .ref b :: S) h P := q_callV (M := mL_law) (pc := 1342) (M2 := mX12_labelOfLid) (As := [.int a0]) (n := 1) dL_law_1342 rfl ⟨by decide, by decide, by decide, rfl⟩ rfl w1841 w1842 w1843 w120 w1844 (show CL[10]? = some (RX12, TX12, 25) from rfl) hd (by decide) (Nat.le_of_ble_eq_true rfl) rfl ha hst call (callk_i k)
theorem tL_law_1345 {v : Int32} (ho : ok1 x5 = true := by rfl) (r : RQ G mL_law d 1347 [x0, x1, x2, x3, x4, x5, some (.int v), x7, x8] (S) (h) P) : RQ G mL_law d 1345 [x0, x1, x2, x3, x4, x5, x6, x7, x8] (.int v :: S) h P := q_istore (M := mL_law) (pc := 1345) dL_law_1345 (Nat.le_of_ble_eq_true rfl) ho r
theorem tL_law_1347 {k : Nat} (r : RQ G mL_law d 1348 [x0, x1, some (.ref k), x3, x4, x5, x6, x7, x8] (.ref k :: S) (h) P) : RQ G mL_law d 1347 [x0, x1, some (.ref k), x3, x4, x5, x6, x7, x8] (S) h P := q_aload_n (M := mL_law) (pc := 1347) (r0 := some k) dL_law_1347 rfl rfl r
theorem tL_law_1348 {b d2 : Nat} {vs : List Value}  {Q : Int32 → AH → Prop} (hd : d2 + 1 ≤ d) (ha : At h b (.inr (10, vs))) (call : RQ G mX12_thrown d2 0 [some (.ref b)] [] h (Ri Q)) (k : ∀ x h1, Q x h1 → RQ G mL_law d 1351 [x0, x1, x2, x3, x4, x5, x6, x7, x8] (.int x :: S) h1 P) (hst : (S.map fun v => v.category).sum ≤ 8 := by exact Nat.le_of_ble_eq_true rfl)  : RQ G mL_law d 1348 [x0, x1, x2, x3, x4, x5, x6, x7, x8] (.ref b :: S) h P := q_callV (M := mL_law) (pc := 1348) (M2 := mX12_thrown) (As := []) (n := 0) dL_law_1348 rfl ⟨by decide, by decide, by decide, rfl⟩ rfl w1499 w1500 w1501 w120 w1502 (show CL[10]? = some (RX12, TX12, 25) from rfl) hd (by decide) (Nat.le_of_ble_eq_true rfl) rfl ha hst call (callk_i k)
theorem tL_law_1351 {v : Int32} (r : RQ G mL_law d 1353 [x0, x1, x2, x3, x4, some (.int v), x6, x7, x8] (.int v :: S) (h) P) : RQ G mL_law d 1351 [x0, x1, x2, x3, x4, some (.int v), x6, x7, x8] (S) h P := q_iload (M := mL_law) (pc := 1351) dL_law_1351 rfl r
theorem tL_law_1353 {x y : Int32} (kt : x = y → RQ G mL_law d 1358 [x0, x1, x2, x3, x4, x5, x6, x7, x8] S h P) (kf : ¬ x = y → RQ G mL_law d 1356 [x0, x1, x2, x3, x4, x5, x6, x7, x8] S h P) : RQ G mL_law d 1353 [x0, x1, x2, x3, x4, x5, x6, x7, x8] (.int y :: .int x :: S) h P := q_icmp_eq (M := mL_law) (pc := 1353) dL_law_1353 (by decide) kt kf
theorem tL_law_1356 (r : RQ G mL_law d 1357 [x0, x1, x2, x3, x4, x5, x6, x7, x8] (.int (nI 0) :: S) (h) P) : RQ G mL_law d 1356 [x0, x1, x2, x3, x4, x5, x6, x7, x8] (S) h P := q_iconst (M := mL_law) (pc := 1356) dL_law_1356 (by decide) r
theorem tL_law_1357 {x : Int32} (hb : x = nI 0 ∨ x = nI 1) (hP : P (.inl (some (.int x))) h) : RQ G mL_law d 1357 [x0, x1, x2, x3, x4, x5, x6, x7, x8] ([.int x]) h P := q_ireturn (M := mL_law) (pc := 1357) (ty := .boolean) dL_law_1357 rfl (nar_bool hb) hP
theorem tL_law_1358 {v : Int32} (r : RQ G mL_law d 1360 [x0, x1, x2, x3, x4, some (.int v), x6, x7, x8] (.int v :: S) (h) P) : RQ G mL_law d 1358 [x0, x1, x2, x3, x4, some (.int v), x6, x7, x8] (S) h P := q_iload (M := mL_law) (pc := 1358) dL_law_1358 rfl r
theorem tL_law_1360 {x : Int32} (kt : ¬ x = 0 → RQ G mL_law d 1375 [x0, x1, x2, x3, x4, x5, x6, x7, x8] S h P) (kf : x = 0 → RQ G mL_law d 1363 [x0, x1, x2, x3, x4, x5, x6, x7, x8] S h P) : RQ G mL_law d 1360 [x0, x1, x2, x3, x4, x5, x6, x7, x8] (.int x :: S) h P := q_if_ne (M := mL_law) (pc := 1360) dL_law_1360 (by decide) kt kf
theorem tL_law_1363 {k : Nat} (r : RQ G mL_law d 1364 [x0, x1, x2, some (.ref k), x4, x5, x6, x7, x8] (.ref k :: S) (h) P) : RQ G mL_law d 1363 [x0, x1, x2, some (.ref k), x4, x5, x6, x7, x8] (S) h P := q_aload_n (M := mL_law) (pc := 1363) (r0 := some k) dL_law_1363 rfl rfl r
theorem tL_law_1364 (r : RQ G mL_law d 1365 [x0, x1, x2, x3, x4, x5, x6, x7, x8] (.int (nI 0) :: S) (h) P) : RQ G mL_law d 1364 [x0, x1, x2, x3, x4, x5, x6, x7, x8] (S) h P := q_iconst (M := mL_law) (pc := 1364) dL_law_1364 (by decide) r
theorem tL_law_1365 {a n j : Nat} {x : Int32} {f : Nat → Int64} (ha : At h a (.inl (2, n, .inr (.inl f)))) (hx : x = nI j) (hj : j < n) (hn : n < 2147483648) (r : RQ G mL_law d 1366 [x0, x1, x2, x3, x4, x5, x6, x7, x8] (.long (f j) :: S) (h) P) : RQ G mL_law d 1365 [x0, x1, x2, x3, x4, x5, x6, x7, x8] (.int x :: .ref a :: S) h P := q_lald (M := mL_law) (pc := 1365) dL_law_1365 ha hx hj hn r
theorem tL_law_1366 {v : Int32} (r : RQ G mL_law d 1368 [x0, x1, x2, x3, x4, x5, some (.int v), x7, x8] (.int v :: S) (h) P) : RQ G mL_law d 1366 [x0, x1, x2, x3, x4, x5, some (.int v), x7, x8] (S) h P := q_iload (M := mL_law) (pc := 1366) dL_law_1366 rfl r
theorem tL_law_1368 {x : Int32} (r : RQ G mL_law d 1369 [x0, x1, x2, x3, x4, x5, x6, x7, x8] (.long x.toInt64 :: S) (h) P) : RQ G mL_law d 1368 [x0, x1, x2, x3, x4, x5, x6, x7, x8] (.int x :: S) h P := q_i2l (M := mL_law) (pc := 1368) dL_law_1368 r
theorem tL_law_1369 {x y : Int64} (r : RQ G mL_law d 1370 [x0, x1, x2, x3, x4, x5, x6, x7, x8] (.int (lg_cmp x y) :: S) (h) P) : RQ G mL_law d 1369 [x0, x1, x2, x3, x4, x5, x6, x7, x8] (.long y :: .long x :: S) h P := q_lcmp (M := mL_law) (pc := 1369) dL_law_1369 r
theorem tL_law_1370 {x : Int32} (kt : x = 0 → RQ G mL_law d 1375 [x0, x1, x2, x3, x4, x5, x6, x7, x8] S h P) (kf : ¬ x = 0 → RQ G mL_law d 1373 [x0, x1, x2, x3, x4, x5, x6, x7, x8] S h P) : RQ G mL_law d 1370 [x0, x1, x2, x3, x4, x5, x6, x7, x8] (.int x :: S) h P := q_if_eq (M := mL_law) (pc := 1370) dL_law_1370 (by decide) kt kf
theorem tL_law_1373 (r : RQ G mL_law d 1374 [x0, x1, x2, x3, x4, x5, x6, x7, x8] (.int (nI 0) :: S) (h) P) : RQ G mL_law d 1373 [x0, x1, x2, x3, x4, x5, x6, x7, x8] (S) h P := q_iconst (M := mL_law) (pc := 1373) dL_law_1373 (by decide) r
theorem tL_law_1374 {x : Int32} (hb : x = nI 0 ∨ x = nI 1) (hP : P (.inl (some (.int x))) h) : RQ G mL_law d 1374 [x0, x1, x2, x3, x4, x5, x6, x7, x8] ([.int x]) h P := q_ireturn (M := mL_law) (pc := 1374) (ty := .boolean) dL_law_1374 rfl (nar_bool hb) hP
theorem tL_law_1375 (r : RQ G mL_law d 2189 [x0, x1, x2, x3, x4, x5, x6, x7, x8] S h P) : RQ G mL_law d 1375 [x0, x1, x2, x3, x4, x5, x6, x7, x8] (S) h P := q_goto (M := mL_law) (pc := 1375) dL_law_1375 (by decide) r
theorem tL_law_1378 {k : Nat} (r : RQ G mL_law d 1379 [x0, some (.ref k), x2, x3, x4, x5, x6, x7, x8] (.ref k :: S) (h) P) : RQ G mL_law d 1378 [x0, some (.ref k), x2, x3, x4, x5, x6, x7, x8] (S) h P := q_aload_n (M := mL_law) (pc := 1378) (r0 := some k) dL_law_1378 rfl rfl r
theorem tL_law_1379 {k : Nat} (r : RQ G mL_law d 1380 [some (.ref k), x1, x2, x3, x4, x5, x6, x7, x8] (.ref k :: S) (h) P) : RQ G mL_law d 1379 [some (.ref k), x1, x2, x3, x4, x5, x6, x7, x8] (S) h P := q_aload_n (M := mL_law) (pc := 1379) (r0 := some k) dL_law_1379 rfl rfl r
theorem tL_law_1380 {v : Int32} (r : RQ G mL_law d 1382 [x0, x1, x2, x3, some (.int v), x5, x6, x7, x8] (.int v :: S) (h) P) : RQ G mL_law d 1380 [x0, x1, x2, x3, some (.int v), x5, x6, x7, x8] (S) h P := q_iload (M := mL_law) (pc := 1380) dL_law_1380 rfl r
theorem tL_law_1382 (r : RQ G mL_law d 1383 [x0, x1, x2, x3, x4, x5, x6, x7, x8] (.int (nI 1) :: S) (h) P) : RQ G mL_law d 1382 [x0, x1, x2, x3, x4, x5, x6, x7, x8] (S) h P := q_iconst (M := mL_law) (pc := 1382) dL_law_1382 (by decide) r
theorem tL_law_1383 {x y : Int32} (r : RQ G mL_law d 1384 [x0, x1, x2, x3, x4, x5, x6, x7, x8] (.int (x + y) :: S) (h) P) : RQ G mL_law d 1383 [x0, x1, x2, x3, x4, x5, x6, x7, x8] (.int y :: .int x :: S) h P := q_iadd (M := mL_law) (pc := 1383) dL_law_1383 r
theorem tL_law_1384 {j : Nat} {x : Int32} (hx : x = nI j) (hj : j < gN G) (hn : gN G < 2147483648) (r : RQ G mL_law d 1385 [x0, x1, x2, x3, x4, x5, x6, x7, x8] (.int (gX G j) :: S) (h) P) : RQ G mL_law d 1384 [x0, x1, x2, x3, x4, x5, x6, x7, x8] (.int x :: .ref (OLD + 999) :: S) h P := q_sld (M := mL_law) (pc := 1384) dL_law_1384 hx hj hn r
theorem tL_law_1385 {k : Nat} (r : RQ G mL_law d 1386 [x0, x1, x2, some (.ref k), x4, x5, x6, x7, x8] (.ref k :: S) (h) P) : RQ G mL_law d 1385 [x0, x1, x2, some (.ref k), x4, x5, x6, x7, x8] (S) h P := q_aload_n (M := mL_law) (pc := 1385) (r0 := some k) dL_law_1385 rfl rfl r
theorem tL_law_1386 {d2 : Nat} {a0 : Nat} {a1 : Int32} {a2 : Nat} {Q : Int32 → AH → Prop} (hd : d2 + 1 ≤ d) (call : RQ G mL_ruleOfLid d2 0 [some (.ref a0), some (.int a1), some (.ref a2), none] [] h (Ri Q)) (k : ∀ x h1, Q x h1 → RQ G mL_law d 1389 [x0, x1, x2, x3, x4, x5, x6, x7, x8] (.int x :: S) h1 P) (hst : (S.map fun v => v.category).sum ≤ 8 := by exact Nat.le_of_ble_eq_true rfl)  : RQ G mL_law d 1386 [x0, x1, x2, x3, x4, x5, x6, x7, x8] (.ref a2 :: .int a1 :: .ref a0 :: S) h P := q_callSW (M := mL_law) (pc := 1386) (M2 := mL_ruleOfLid) (As := [.ref a0, .int a1, .ref a2]) (n := 3) dL_law_1386 ⟨by decide, by decide, by decide, rfl⟩ w1223 w1224 w108 w1225 hd (by decide) (Nat.le_of_ble_eq_true rfl) rfl hst call (callk_i k)
theorem tL_law_1389 {v : Int32} (ho : ok1 x4 = true := by rfl) (r : RQ G mL_law d 1391 [x0, x1, x2, x3, x4, some (.int v), x6, x7, x8] (S) (h) P) : RQ G mL_law d 1389 [x0, x1, x2, x3, x4, x5, x6, x7, x8] (.int v :: S) h P := q_istore (M := mL_law) (pc := 1389) dL_law_1389 (Nat.le_of_ble_eq_true rfl) ho r
theorem tL_law_1391 {k : Nat} (r : RQ G mL_law d 1392 [x0, x1, some (.ref k), x3, x4, x5, x6, x7, x8] (.ref k :: S) (h) P) : RQ G mL_law d 1391 [x0, x1, some (.ref k), x3, x4, x5, x6, x7, x8] (S) h P := q_aload_n (M := mL_law) (pc := 1391) (r0 := some k) dL_law_1391 rfl rfl r
theorem tL_law_1392 {k : Nat} (r : RQ G mL_law d 1393 [some (.ref k), x1, x2, x3, x4, x5, x6, x7, x8] (.ref k :: S) (h) P) : RQ G mL_law d 1392 [some (.ref k), x1, x2, x3, x4, x5, x6, x7, x8] (S) h P := q_aload_n (M := mL_law) (pc := 1392) (r0 := some k) dL_law_1392 rfl rfl r
theorem tL_law_1393 {v : Int32} (r : RQ G mL_law d 1395 [x0, x1, x2, x3, some (.int v), x5, x6, x7, x8] (.int v :: S) (h) P) : RQ G mL_law d 1393 [x0, x1, x2, x3, some (.int v), x5, x6, x7, x8] (S) h P := q_iload (M := mL_law) (pc := 1393) dL_law_1393 rfl r
theorem tL_law_1395 (r : RQ G mL_law d 1396 [x0, x1, x2, x3, x4, x5, x6, x7, x8] (.int (nI 1) :: S) (h) P) : RQ G mL_law d 1395 [x0, x1, x2, x3, x4, x5, x6, x7, x8] (S) h P := q_iconst (M := mL_law) (pc := 1395) dL_law_1395 (by decide) r
theorem tL_law_1396 {x y : Int32} (r : RQ G mL_law d 1397 [x0, x1, x2, x3, x4, x5, x6, x7, x8] (.int (x + y) :: S) (h) P) : RQ G mL_law d 1396 [x0, x1, x2, x3, x4, x5, x6, x7, x8] (.int y :: .int x :: S) h P := q_iadd (M := mL_law) (pc := 1396) dL_law_1396 r
theorem tL_law_1397 {j : Nat} {x : Int32} (hx : x = nI j) (hj : j < gN G) (hn : gN G < 2147483648) (r : RQ G mL_law d 1398 [x0, x1, x2, x3, x4, x5, x6, x7, x8] (.int (gX G j) :: S) (h) P) : RQ G mL_law d 1397 [x0, x1, x2, x3, x4, x5, x6, x7, x8] (.int x :: .ref (OLD + 999) :: S) h P := q_sld (M := mL_law) (pc := 1397) dL_law_1397 hx hj hn r
theorem tL_law_1398 {b d2 : Nat} {vs : List Value} {a0 : Int32} {Q : Int32 → AH → Prop} (hd : d2 + 1 ≤ d) (ha : At h b (.inr (10, vs))) (call : RQ G mX12_ruleOfLid d2 0 [some (.ref b), some (.int a0)] [] h (Ri Q)) (k : ∀ x h1, Q x h1 → RQ G mL_law d 1401 [x0, x1, x2, x3, x4, x5, x6, x7, x8] (.int x :: S) h1 P) (hst : (S.map fun v => v.category).sum ≤ 8 := by exact Nat.le_of_ble_eq_true rfl)  : RQ G mL_law d 1398 [x0, x1, x2, x3, x4, x5, x6, x7, x8] (.int a0 :: .ref b :: S) h P := q_callV (M := mL_law) (pc := 1398) (M2 := mX12_ruleOfLid) (As := [.int a0]) (n := 1) dL_law_1398 rfl ⟨by decide, by decide, by decide, rfl⟩ rfl w1845 w1846 w1847 w120 w1848 (show CL[10]? = some (RX12, TX12, 25) from rfl) hd (by decide) (Nat.le_of_ble_eq_true rfl) rfl ha hst call (callk_i k)
theorem tL_law_1401 {v : Int32} (ho : ok1 x5 = true := by rfl) (r : RQ G mL_law d 1403 [x0, x1, x2, x3, x4, x5, some (.int v), x7, x8] (S) (h) P) : RQ G mL_law d 1401 [x0, x1, x2, x3, x4, x5, x6, x7, x8] (.int v :: S) h P := q_istore (M := mL_law) (pc := 1401) dL_law_1401 (Nat.le_of_ble_eq_true rfl) ho r
theorem tL_law_1403 {k : Nat} (r : RQ G mL_law d 1404 [x0, x1, some (.ref k), x3, x4, x5, x6, x7, x8] (.ref k :: S) (h) P) : RQ G mL_law d 1403 [x0, x1, some (.ref k), x3, x4, x5, x6, x7, x8] (S) h P := q_aload_n (M := mL_law) (pc := 1403) (r0 := some k) dL_law_1403 rfl rfl r
theorem tL_law_1404 {b d2 : Nat} {vs : List Value}  {Q : Int32 → AH → Prop} (hd : d2 + 1 ≤ d) (ha : At h b (.inr (10, vs))) (call : RQ G mX12_thrown d2 0 [some (.ref b)] [] h (Ri Q)) (k : ∀ x h1, Q x h1 → RQ G mL_law d 1407 [x0, x1, x2, x3, x4, x5, x6, x7, x8] (.int x :: S) h1 P) (hst : (S.map fun v => v.category).sum ≤ 8 := by exact Nat.le_of_ble_eq_true rfl)  : RQ G mL_law d 1404 [x0, x1, x2, x3, x4, x5, x6, x7, x8] (.ref b :: S) h P := q_callV (M := mL_law) (pc := 1404) (M2 := mX12_thrown) (As := []) (n := 0) dL_law_1404 rfl ⟨by decide, by decide, by decide, rfl⟩ rfl w1499 w1500 w1501 w120 w1502 (show CL[10]? = some (RX12, TX12, 25) from rfl) hd (by decide) (Nat.le_of_ble_eq_true rfl) rfl ha hst call (callk_i k)
theorem tL_law_1407 {v : Int32} (r : RQ G mL_law d 1409 [x0, x1, x2, x3, x4, some (.int v), x6, x7, x8] (.int v :: S) (h) P) : RQ G mL_law d 1407 [x0, x1, x2, x3, x4, some (.int v), x6, x7, x8] (S) h P := q_iload (M := mL_law) (pc := 1407) dL_law_1407 rfl r
theorem tL_law_1409 {x y : Int32} (kt : x = y → RQ G mL_law d 1414 [x0, x1, x2, x3, x4, x5, x6, x7, x8] S h P) (kf : ¬ x = y → RQ G mL_law d 1412 [x0, x1, x2, x3, x4, x5, x6, x7, x8] S h P) : RQ G mL_law d 1409 [x0, x1, x2, x3, x4, x5, x6, x7, x8] (.int y :: .int x :: S) h P := q_icmp_eq (M := mL_law) (pc := 1409) dL_law_1409 (by decide) kt kf
theorem tL_law_1412 (r : RQ G mL_law d 1413 [x0, x1, x2, x3, x4, x5, x6, x7, x8] (.int (nI 0) :: S) (h) P) : RQ G mL_law d 1412 [x0, x1, x2, x3, x4, x5, x6, x7, x8] (S) h P := q_iconst (M := mL_law) (pc := 1412) dL_law_1412 (by decide) r
theorem tL_law_1413 {x : Int32} (hb : x = nI 0 ∨ x = nI 1) (hP : P (.inl (some (.int x))) h) : RQ G mL_law d 1413 [x0, x1, x2, x3, x4, x5, x6, x7, x8] ([.int x]) h P := q_ireturn (M := mL_law) (pc := 1413) (ty := .boolean) dL_law_1413 rfl (nar_bool hb) hP
theorem tL_law_1414 {v : Int32} (r : RQ G mL_law d 1416 [x0, x1, x2, x3, x4, some (.int v), x6, x7, x8] (.int v :: S) (h) P) : RQ G mL_law d 1414 [x0, x1, x2, x3, x4, some (.int v), x6, x7, x8] (S) h P := q_iload (M := mL_law) (pc := 1414) dL_law_1414 rfl r
theorem tL_law_1416 {x : Int32} (kt : ¬ x = 0 → RQ G mL_law d 1431 [x0, x1, x2, x3, x4, x5, x6, x7, x8] S h P) (kf : x = 0 → RQ G mL_law d 1419 [x0, x1, x2, x3, x4, x5, x6, x7, x8] S h P) : RQ G mL_law d 1416 [x0, x1, x2, x3, x4, x5, x6, x7, x8] (.int x :: S) h P := q_if_ne (M := mL_law) (pc := 1416) dL_law_1416 (by decide) kt kf
theorem tL_law_1419 {k : Nat} (r : RQ G mL_law d 1420 [x0, x1, x2, some (.ref k), x4, x5, x6, x7, x8] (.ref k :: S) (h) P) : RQ G mL_law d 1419 [x0, x1, x2, some (.ref k), x4, x5, x6, x7, x8] (S) h P := q_aload_n (M := mL_law) (pc := 1419) (r0 := some k) dL_law_1419 rfl rfl r
theorem tL_law_1420 (r : RQ G mL_law d 1421 [x0, x1, x2, x3, x4, x5, x6, x7, x8] (.int (nI 0) :: S) (h) P) : RQ G mL_law d 1420 [x0, x1, x2, x3, x4, x5, x6, x7, x8] (S) h P := q_iconst (M := mL_law) (pc := 1420) dL_law_1420 (by decide) r
theorem tL_law_1421 {a n j : Nat} {x : Int32} {f : Nat → Int64} (ha : At h a (.inl (2, n, .inr (.inl f)))) (hx : x = nI j) (hj : j < n) (hn : n < 2147483648) (r : RQ G mL_law d 1422 [x0, x1, x2, x3, x4, x5, x6, x7, x8] (.long (f j) :: S) (h) P) : RQ G mL_law d 1421 [x0, x1, x2, x3, x4, x5, x6, x7, x8] (.int x :: .ref a :: S) h P := q_lald (M := mL_law) (pc := 1421) dL_law_1421 ha hx hj hn r
theorem tL_law_1422 {v : Int32} (r : RQ G mL_law d 1424 [x0, x1, x2, x3, x4, x5, some (.int v), x7, x8] (.int v :: S) (h) P) : RQ G mL_law d 1422 [x0, x1, x2, x3, x4, x5, some (.int v), x7, x8] (S) h P := q_iload (M := mL_law) (pc := 1422) dL_law_1422 rfl r
theorem tL_law_1424 {x : Int32} (r : RQ G mL_law d 1425 [x0, x1, x2, x3, x4, x5, x6, x7, x8] (.long x.toInt64 :: S) (h) P) : RQ G mL_law d 1424 [x0, x1, x2, x3, x4, x5, x6, x7, x8] (.int x :: S) h P := q_i2l (M := mL_law) (pc := 1424) dL_law_1424 r
theorem tL_law_1425 {x y : Int64} (r : RQ G mL_law d 1426 [x0, x1, x2, x3, x4, x5, x6, x7, x8] (.int (lg_cmp x y) :: S) (h) P) : RQ G mL_law d 1425 [x0, x1, x2, x3, x4, x5, x6, x7, x8] (.long y :: .long x :: S) h P := q_lcmp (M := mL_law) (pc := 1425) dL_law_1425 r
theorem tL_law_1426 {x : Int32} (kt : x = 0 → RQ G mL_law d 1431 [x0, x1, x2, x3, x4, x5, x6, x7, x8] S h P) (kf : ¬ x = 0 → RQ G mL_law d 1429 [x0, x1, x2, x3, x4, x5, x6, x7, x8] S h P) : RQ G mL_law d 1426 [x0, x1, x2, x3, x4, x5, x6, x7, x8] (.int x :: S) h P := q_if_eq (M := mL_law) (pc := 1426) dL_law_1426 (by decide) kt kf
theorem tL_law_1429 (r : RQ G mL_law d 1430 [x0, x1, x2, x3, x4, x5, x6, x7, x8] (.int (nI 0) :: S) (h) P) : RQ G mL_law d 1429 [x0, x1, x2, x3, x4, x5, x6, x7, x8] (S) h P := q_iconst (M := mL_law) (pc := 1429) dL_law_1429 (by decide) r
theorem tL_law_1430 {x : Int32} (hb : x = nI 0 ∨ x = nI 1) (hP : P (.inl (some (.int x))) h) : RQ G mL_law d 1430 [x0, x1, x2, x3, x4, x5, x6, x7, x8] ([.int x]) h P := q_ireturn (M := mL_law) (pc := 1430) (ty := .boolean) dL_law_1430 rfl (nar_bool hb) hP
theorem tL_law_1431 (r : RQ G mL_law d 2189 [x0, x1, x2, x3, x4, x5, x6, x7, x8] S h P) : RQ G mL_law d 1431 [x0, x1, x2, x3, x4, x5, x6, x7, x8] (S) h P := q_goto (M := mL_law) (pc := 1431) dL_law_1431 (by decide) r
theorem tL_law_1434 {k : Nat} (r : RQ G mL_law d 1435 [x0, some (.ref k), x2, x3, x4, x5, x6, x7, x8] (.ref k :: S) (h) P) : RQ G mL_law d 1434 [x0, some (.ref k), x2, x3, x4, x5, x6, x7, x8] (S) h P := q_aload_n (M := mL_law) (pc := 1434) (r0 := some k) dL_law_1434 rfl rfl r
theorem tL_law_1435 {k : Nat} (r : RQ G mL_law d 1436 [some (.ref k), x1, x2, x3, x4, x5, x6, x7, x8] (.ref k :: S) (h) P) : RQ G mL_law d 1435 [some (.ref k), x1, x2, x3, x4, x5, x6, x7, x8] (S) h P := q_aload_n (M := mL_law) (pc := 1435) (r0 := some k) dL_law_1435 rfl rfl r
theorem tL_law_1436 {v : Int32} (r : RQ G mL_law d 1438 [x0, x1, x2, x3, some (.int v), x5, x6, x7, x8] (.int v :: S) (h) P) : RQ G mL_law d 1436 [x0, x1, x2, x3, some (.int v), x5, x6, x7, x8] (S) h P := q_iload (M := mL_law) (pc := 1436) dL_law_1436 rfl r
theorem tL_law_1438 (r : RQ G mL_law d 1439 [x0, x1, x2, x3, x4, x5, x6, x7, x8] (.int (nI 1) :: S) (h) P) : RQ G mL_law d 1438 [x0, x1, x2, x3, x4, x5, x6, x7, x8] (S) h P := q_iconst (M := mL_law) (pc := 1438) dL_law_1438 (by decide) r
theorem tL_law_1439 {x y : Int32} (r : RQ G mL_law d 1440 [x0, x1, x2, x3, x4, x5, x6, x7, x8] (.int (x + y) :: S) (h) P) : RQ G mL_law d 1439 [x0, x1, x2, x3, x4, x5, x6, x7, x8] (.int y :: .int x :: S) h P := q_iadd (M := mL_law) (pc := 1439) dL_law_1439 r
theorem tL_law_1440 {j : Nat} {x : Int32} (hx : x = nI j) (hj : j < gN G) (hn : gN G < 2147483648) (r : RQ G mL_law d 1441 [x0, x1, x2, x3, x4, x5, x6, x7, x8] (.int (gX G j) :: S) (h) P) : RQ G mL_law d 1440 [x0, x1, x2, x3, x4, x5, x6, x7, x8] (.int x :: .ref (OLD + 999) :: S) h P := q_sld (M := mL_law) (pc := 1440) dL_law_1440 hx hj hn r
theorem tL_law_1441 {k : Nat} (r : RQ G mL_law d 1442 [some (.ref k), x1, x2, x3, x4, x5, x6, x7, x8] (.ref k :: S) (h) P) : RQ G mL_law d 1441 [some (.ref k), x1, x2, x3, x4, x5, x6, x7, x8] (S) h P := q_aload_n (M := mL_law) (pc := 1441) (r0 := some k) dL_law_1441 rfl rfl r
theorem tL_law_1442 {v : Int32} (r : RQ G mL_law d 1444 [x0, x1, x2, x3, some (.int v), x5, x6, x7, x8] (.int v :: S) (h) P) : RQ G mL_law d 1442 [x0, x1, x2, x3, some (.int v), x5, x6, x7, x8] (S) h P := q_iload (M := mL_law) (pc := 1442) dL_law_1442 rfl r
theorem tL_law_1444 (r : RQ G mL_law d 1445 [x0, x1, x2, x3, x4, x5, x6, x7, x8] (.int (nI 2) :: S) (h) P) : RQ G mL_law d 1444 [x0, x1, x2, x3, x4, x5, x6, x7, x8] (S) h P := q_iconst (M := mL_law) (pc := 1444) dL_law_1444 (by decide) r
theorem tL_law_1445 {x y : Int32} (r : RQ G mL_law d 1446 [x0, x1, x2, x3, x4, x5, x6, x7, x8] (.int (x + y) :: S) (h) P) : RQ G mL_law d 1445 [x0, x1, x2, x3, x4, x5, x6, x7, x8] (.int y :: .int x :: S) h P := q_iadd (M := mL_law) (pc := 1445) dL_law_1445 r
theorem tL_law_1446 {j : Nat} {x : Int32} (hx : x = nI j) (hj : j < gN G) (hn : gN G < 2147483648) (r : RQ G mL_law d 1447 [x0, x1, x2, x3, x4, x5, x6, x7, x8] (.int (gX G j) :: S) (h) P) : RQ G mL_law d 1446 [x0, x1, x2, x3, x4, x5, x6, x7, x8] (.int x :: .ref (OLD + 999) :: S) h P := q_sld (M := mL_law) (pc := 1446) dL_law_1446 hx hj hn r
theorem tL_law_1447 {k : Nat} (r : RQ G mL_law d 1448 [some (.ref k), x1, x2, x3, x4, x5, x6, x7, x8] (.ref k :: S) (h) P) : RQ G mL_law d 1447 [some (.ref k), x1, x2, x3, x4, x5, x6, x7, x8] (S) h P := q_aload_n (M := mL_law) (pc := 1447) (r0 := some k) dL_law_1447 rfl rfl r
theorem tL_law_1448 {v : Int32} (r : RQ G mL_law d 1450 [x0, x1, x2, x3, some (.int v), x5, x6, x7, x8] (.int v :: S) (h) P) : RQ G mL_law d 1448 [x0, x1, x2, x3, some (.int v), x5, x6, x7, x8] (S) h P := q_iload (M := mL_law) (pc := 1448) dL_law_1448 rfl r
theorem tL_law_1450 (r : RQ G mL_law d 1451 [x0, x1, x2, x3, x4, x5, x6, x7, x8] (.int (nI 3) :: S) (h) P) : RQ G mL_law d 1450 [x0, x1, x2, x3, x4, x5, x6, x7, x8] (S) h P := q_iconst (M := mL_law) (pc := 1450) dL_law_1450 (by decide) r
theorem tL_law_1451 {x y : Int32} (r : RQ G mL_law d 1452 [x0, x1, x2, x3, x4, x5, x6, x7, x8] (.int (x + y) :: S) (h) P) : RQ G mL_law d 1451 [x0, x1, x2, x3, x4, x5, x6, x7, x8] (.int y :: .int x :: S) h P := q_iadd (M := mL_law) (pc := 1451) dL_law_1451 r
theorem tL_law_1452 {j : Nat} {x : Int32} (hx : x = nI j) (hj : j < gN G) (hn : gN G < 2147483648) (r : RQ G mL_law d 1453 [x0, x1, x2, x3, x4, x5, x6, x7, x8] (.int (gX G j) :: S) (h) P) : RQ G mL_law d 1452 [x0, x1, x2, x3, x4, x5, x6, x7, x8] (.int x :: .ref (OLD + 999) :: S) h P := q_sld (M := mL_law) (pc := 1452) dL_law_1452 hx hj hn r
theorem tL_law_1453 {k : Nat} (r : RQ G mL_law d 1454 [some (.ref k), x1, x2, x3, x4, x5, x6, x7, x8] (.ref k :: S) (h) P) : RQ G mL_law d 1453 [some (.ref k), x1, x2, x3, x4, x5, x6, x7, x8] (S) h P := q_aload_n (M := mL_law) (pc := 1453) (r0 := some k) dL_law_1453 rfl rfl r
theorem tL_law_1454 {v : Int32} (r : RQ G mL_law d 1456 [x0, x1, x2, x3, some (.int v), x5, x6, x7, x8] (.int v :: S) (h) P) : RQ G mL_law d 1454 [x0, x1, x2, x3, some (.int v), x5, x6, x7, x8] (S) h P := q_iload (M := mL_law) (pc := 1454) dL_law_1454 rfl r
theorem tL_law_1456 (r : RQ G mL_law d 1457 [x0, x1, x2, x3, x4, x5, x6, x7, x8] (.int (nI 4) :: S) (h) P) : RQ G mL_law d 1456 [x0, x1, x2, x3, x4, x5, x6, x7, x8] (S) h P := q_iconst (M := mL_law) (pc := 1456) dL_law_1456 (by decide) r
theorem tL_law_1457 {x y : Int32} (r : RQ G mL_law d 1458 [x0, x1, x2, x3, x4, x5, x6, x7, x8] (.int (x + y) :: S) (h) P) : RQ G mL_law d 1457 [x0, x1, x2, x3, x4, x5, x6, x7, x8] (.int y :: .int x :: S) h P := q_iadd (M := mL_law) (pc := 1457) dL_law_1457 r
theorem tL_law_1458 {j : Nat} {x : Int32} (hx : x = nI j) (hj : j < gN G) (hn : gN G < 2147483648) (r : RQ G mL_law d 1459 [x0, x1, x2, x3, x4, x5, x6, x7, x8] (.int (gX G j) :: S) (h) P) : RQ G mL_law d 1458 [x0, x1, x2, x3, x4, x5, x6, x7, x8] (.int x :: .ref (OLD + 999) :: S) h P := q_sld (M := mL_law) (pc := 1458) dL_law_1458 hx hj hn r
theorem tL_law_1459 {k : Nat} (r : RQ G mL_law d 1460 [x0, x1, x2, some (.ref k), x4, x5, x6, x7, x8] (.ref k :: S) (h) P) : RQ G mL_law d 1459 [x0, x1, x2, some (.ref k), x4, x5, x6, x7, x8] (S) h P := q_aload_n (M := mL_law) (pc := 1459) (r0 := some k) dL_law_1459 rfl rfl r
theorem tL_law_1460 {d2 : Nat} {a0 : Nat} {a1 : Int32} {a2 : Int32} {a3 : Int32} {a4 : Int32} {a5 : Nat} {Q : Int32 → AH → Prop} (hd : d2 + 1 ≤ d) (call : RQ G mL_pour d2 0 [some (.ref a0), some (.int a1), some (.int a2), some (.int a3), some (.int a4), some (.ref a5), none] [] h (Ri Q)) (k : ∀ x h1, Q x h1 → RQ G mL_law d 1463 [x0, x1, x2, x3, x4, x5, x6, x7, x8] (.int x :: S) h1 P) (hst : (S.map fun v => v.category).sum ≤ 8 := by exact Nat.le_of_ble_eq_true rfl)  : RQ G mL_law d 1460 [x0, x1, x2, x3, x4, x5, x6, x7, x8] (.ref a5 :: .int a4 :: .int a3 :: .int a2 :: .int a1 :: .ref a0 :: S) h P := q_callSW (M := mL_law) (pc := 1460) (M2 := mL_pour) (As := [.ref a0, .int a1, .int a2, .int a3, .int a4, .ref a5]) (n := 6) dL_law_1460 ⟨by decide, by decide, by decide, rfl⟩ w1227 w1228 w108 w1229 hd (by decide) (Nat.le_of_ble_eq_true rfl) rfl hst call (callk_i k)
theorem tL_law_1463 {v : Int32} (ho : ok1 x4 = true := by rfl) (r : RQ G mL_law d 1465 [x0, x1, x2, x3, x4, some (.int v), x6, x7, x8] (S) (h) P) : RQ G mL_law d 1463 [x0, x1, x2, x3, x4, x5, x6, x7, x8] (.int v :: S) h P := q_istore (M := mL_law) (pc := 1463) dL_law_1463 (Nat.le_of_ble_eq_true rfl) ho r
theorem tL_law_1465 {k : Nat} (r : RQ G mL_law d 1466 [x0, x1, some (.ref k), x3, x4, x5, x6, x7, x8] (.ref k :: S) (h) P) : RQ G mL_law d 1465 [x0, x1, some (.ref k), x3, x4, x5, x6, x7, x8] (S) h P := q_aload_n (M := mL_law) (pc := 1465) (r0 := some k) dL_law_1465 rfl rfl r
theorem tL_law_1466 {k : Nat} (r : RQ G mL_law d 1467 [some (.ref k), x1, x2, x3, x4, x5, x6, x7, x8] (.ref k :: S) (h) P) : RQ G mL_law d 1466 [some (.ref k), x1, x2, x3, x4, x5, x6, x7, x8] (S) h P := q_aload_n (M := mL_law) (pc := 1466) (r0 := some k) dL_law_1466 rfl rfl r
theorem tL_law_1467 {v : Int32} (r : RQ G mL_law d 1469 [x0, x1, x2, x3, some (.int v), x5, x6, x7, x8] (.int v :: S) (h) P) : RQ G mL_law d 1467 [x0, x1, x2, x3, some (.int v), x5, x6, x7, x8] (S) h P := q_iload (M := mL_law) (pc := 1467) dL_law_1467 rfl r
theorem tL_law_1469 (r : RQ G mL_law d 1470 [x0, x1, x2, x3, x4, x5, x6, x7, x8] (.int (nI 1) :: S) (h) P) : RQ G mL_law d 1469 [x0, x1, x2, x3, x4, x5, x6, x7, x8] (S) h P := q_iconst (M := mL_law) (pc := 1469) dL_law_1469 (by decide) r
theorem tL_law_1470 {x y : Int32} (r : RQ G mL_law d 1471 [x0, x1, x2, x3, x4, x5, x6, x7, x8] (.int (x + y) :: S) (h) P) : RQ G mL_law d 1470 [x0, x1, x2, x3, x4, x5, x6, x7, x8] (.int y :: .int x :: S) h P := q_iadd (M := mL_law) (pc := 1470) dL_law_1470 r
theorem tL_law_1471 {j : Nat} {x : Int32} (hx : x = nI j) (hj : j < gN G) (hn : gN G < 2147483648) (r : RQ G mL_law d 1472 [x0, x1, x2, x3, x4, x5, x6, x7, x8] (.int (gX G j) :: S) (h) P) : RQ G mL_law d 1471 [x0, x1, x2, x3, x4, x5, x6, x7, x8] (.int x :: .ref (OLD + 999) :: S) h P := q_sld (M := mL_law) (pc := 1471) dL_law_1471 hx hj hn r
theorem tL_law_1472 {k : Nat} (r : RQ G mL_law d 1473 [some (.ref k), x1, x2, x3, x4, x5, x6, x7, x8] (.ref k :: S) (h) P) : RQ G mL_law d 1472 [some (.ref k), x1, x2, x3, x4, x5, x6, x7, x8] (S) h P := q_aload_n (M := mL_law) (pc := 1472) (r0 := some k) dL_law_1472 rfl rfl r
theorem tL_law_1473 {v : Int32} (r : RQ G mL_law d 1475 [x0, x1, x2, x3, some (.int v), x5, x6, x7, x8] (.int v :: S) (h) P) : RQ G mL_law d 1473 [x0, x1, x2, x3, some (.int v), x5, x6, x7, x8] (S) h P := q_iload (M := mL_law) (pc := 1473) dL_law_1473 rfl r
theorem tL_law_1475 (r : RQ G mL_law d 1476 [x0, x1, x2, x3, x4, x5, x6, x7, x8] (.int (nI 2) :: S) (h) P) : RQ G mL_law d 1475 [x0, x1, x2, x3, x4, x5, x6, x7, x8] (S) h P := q_iconst (M := mL_law) (pc := 1475) dL_law_1475 (by decide) r
theorem tL_law_1476 {x y : Int32} (r : RQ G mL_law d 1477 [x0, x1, x2, x3, x4, x5, x6, x7, x8] (.int (x + y) :: S) (h) P) : RQ G mL_law d 1476 [x0, x1, x2, x3, x4, x5, x6, x7, x8] (.int y :: .int x :: S) h P := q_iadd (M := mL_law) (pc := 1476) dL_law_1476 r
theorem tL_law_1477 {j : Nat} {x : Int32} (hx : x = nI j) (hj : j < gN G) (hn : gN G < 2147483648) (r : RQ G mL_law d 1478 [x0, x1, x2, x3, x4, x5, x6, x7, x8] (.int (gX G j) :: S) (h) P) : RQ G mL_law d 1477 [x0, x1, x2, x3, x4, x5, x6, x7, x8] (.int x :: .ref (OLD + 999) :: S) h P := q_sld (M := mL_law) (pc := 1477) dL_law_1477 hx hj hn r
theorem tL_law_1478 {k : Nat} (r : RQ G mL_law d 1479 [some (.ref k), x1, x2, x3, x4, x5, x6, x7, x8] (.ref k :: S) (h) P) : RQ G mL_law d 1478 [some (.ref k), x1, x2, x3, x4, x5, x6, x7, x8] (S) h P := q_aload_n (M := mL_law) (pc := 1478) (r0 := some k) dL_law_1478 rfl rfl r
theorem tL_law_1479 {v : Int32} (r : RQ G mL_law d 1481 [x0, x1, x2, x3, some (.int v), x5, x6, x7, x8] (.int v :: S) (h) P) : RQ G mL_law d 1479 [x0, x1, x2, x3, some (.int v), x5, x6, x7, x8] (S) h P := q_iload (M := mL_law) (pc := 1479) dL_law_1479 rfl r
theorem tL_law_1481 (r : RQ G mL_law d 1482 [x0, x1, x2, x3, x4, x5, x6, x7, x8] (.int (nI 3) :: S) (h) P) : RQ G mL_law d 1481 [x0, x1, x2, x3, x4, x5, x6, x7, x8] (S) h P := q_iconst (M := mL_law) (pc := 1481) dL_law_1481 (by decide) r
theorem tL_law_1482 {x y : Int32} (r : RQ G mL_law d 1483 [x0, x1, x2, x3, x4, x5, x6, x7, x8] (.int (x + y) :: S) (h) P) : RQ G mL_law d 1482 [x0, x1, x2, x3, x4, x5, x6, x7, x8] (.int y :: .int x :: S) h P := q_iadd (M := mL_law) (pc := 1482) dL_law_1482 r
theorem tL_law_1483 {j : Nat} {x : Int32} (hx : x = nI j) (hj : j < gN G) (hn : gN G < 2147483648) (r : RQ G mL_law d 1484 [x0, x1, x2, x3, x4, x5, x6, x7, x8] (.int (gX G j) :: S) (h) P) : RQ G mL_law d 1483 [x0, x1, x2, x3, x4, x5, x6, x7, x8] (.int x :: .ref (OLD + 999) :: S) h P := q_sld (M := mL_law) (pc := 1483) dL_law_1483 hx hj hn r
theorem tL_law_1484 {k : Nat} (r : RQ G mL_law d 1485 [some (.ref k), x1, x2, x3, x4, x5, x6, x7, x8] (.ref k :: S) (h) P) : RQ G mL_law d 1484 [some (.ref k), x1, x2, x3, x4, x5, x6, x7, x8] (S) h P := q_aload_n (M := mL_law) (pc := 1484) (r0 := some k) dL_law_1484 rfl rfl r
theorem tL_law_1485 {v : Int32} (r : RQ G mL_law d 1487 [x0, x1, x2, x3, some (.int v), x5, x6, x7, x8] (.int v :: S) (h) P) : RQ G mL_law d 1485 [x0, x1, x2, x3, some (.int v), x5, x6, x7, x8] (S) h P := q_iload (M := mL_law) (pc := 1485) dL_law_1485 rfl r
theorem tL_law_1487 (r : RQ G mL_law d 1488 [x0, x1, x2, x3, x4, x5, x6, x7, x8] (.int (nI 4) :: S) (h) P) : RQ G mL_law d 1487 [x0, x1, x2, x3, x4, x5, x6, x7, x8] (S) h P := q_iconst (M := mL_law) (pc := 1487) dL_law_1487 (by decide) r
theorem tL_law_1488 {x y : Int32} (r : RQ G mL_law d 1489 [x0, x1, x2, x3, x4, x5, x6, x7, x8] (.int (x + y) :: S) (h) P) : RQ G mL_law d 1488 [x0, x1, x2, x3, x4, x5, x6, x7, x8] (.int y :: .int x :: S) h P := q_iadd (M := mL_law) (pc := 1488) dL_law_1488 r
theorem tL_law_1489 {j : Nat} {x : Int32} (hx : x = nI j) (hj : j < gN G) (hn : gN G < 2147483648) (r : RQ G mL_law d 1490 [x0, x1, x2, x3, x4, x5, x6, x7, x8] (.int (gX G j) :: S) (h) P) : RQ G mL_law d 1489 [x0, x1, x2, x3, x4, x5, x6, x7, x8] (.int x :: .ref (OLD + 999) :: S) h P := q_sld (M := mL_law) (pc := 1489) dL_law_1489 hx hj hn r
theorem tL_law_1490 {b d2 : Nat} {vs : List Value} {a0 : Int32} {a1 : Int32} {a2 : Int32} {a3 : Int32} {Q : Int32 → AH → Prop} (hd : d2 + 1 ≤ d) (ha : At h b (.inr (10, vs))) (call : RQ G mX12_pour d2 0 [some (.ref b), some (.int a0), some (.int a1), some (.int a2), some (.int a3)] [] h (Ri Q)) (k : ∀ x h1, Q x h1 → RQ G mL_law d 1493 [x0, x1, x2, x3, x4, x5, x6, x7, x8] (.int x :: S) h1 P) (hst : (S.map fun v => v.category).sum ≤ 8 := by exact Nat.le_of_ble_eq_true rfl)  : RQ G mL_law d 1490 [x0, x1, x2, x3, x4, x5, x6, x7, x8] (.int a3 :: .int a2 :: .int a1 :: .int a0 :: .ref b :: S) h P := q_callV (M := mL_law) (pc := 1490) (M2 := mX12_pour) (As := [.int a0, .int a1, .int a2, .int a3]) (n := 4) dL_law_1490 rfl ⟨by decide, by decide, by decide, rfl⟩ rfl w1868 w1869 w1870 w120 w1871 (show CL[10]? = some (RX12, TX12, 25) from rfl) hd (by decide) (Nat.le_of_ble_eq_true rfl) rfl ha hst call (callk_i k)
theorem tL_law_1493 {v : Int32} (ho : ok1 x5 = true := by rfl) (r : RQ G mL_law d 1495 [x0, x1, x2, x3, x4, x5, some (.int v), x7, x8] (S) (h) P) : RQ G mL_law d 1493 [x0, x1, x2, x3, x4, x5, x6, x7, x8] (.int v :: S) h P := q_istore (M := mL_law) (pc := 1493) dL_law_1493 (Nat.le_of_ble_eq_true rfl) ho r
theorem tL_law_1495 {k : Nat} (r : RQ G mL_law d 1496 [x0, x1, some (.ref k), x3, x4, x5, x6, x7, x8] (.ref k :: S) (h) P) : RQ G mL_law d 1495 [x0, x1, some (.ref k), x3, x4, x5, x6, x7, x8] (S) h P := q_aload_n (M := mL_law) (pc := 1495) (r0 := some k) dL_law_1495 rfl rfl r
theorem tL_law_1496 {b d2 : Nat} {vs : List Value}  {Q : Int32 → AH → Prop} (hd : d2 + 1 ≤ d) (ha : At h b (.inr (10, vs))) (call : RQ G mX12_thrown d2 0 [some (.ref b)] [] h (Ri Q)) (k : ∀ x h1, Q x h1 → RQ G mL_law d 1499 [x0, x1, x2, x3, x4, x5, x6, x7, x8] (.int x :: S) h1 P) (hst : (S.map fun v => v.category).sum ≤ 8 := by exact Nat.le_of_ble_eq_true rfl)  : RQ G mL_law d 1496 [x0, x1, x2, x3, x4, x5, x6, x7, x8] (.ref b :: S) h P := q_callV (M := mL_law) (pc := 1496) (M2 := mX12_thrown) (As := []) (n := 0) dL_law_1496 rfl ⟨by decide, by decide, by decide, rfl⟩ rfl w1499 w1500 w1501 w120 w1502 (show CL[10]? = some (RX12, TX12, 25) from rfl) hd (by decide) (Nat.le_of_ble_eq_true rfl) rfl ha hst call (callk_i k)
theorem tL_law_1499 {v : Int32} (r : RQ G mL_law d 1501 [x0, x1, x2, x3, x4, some (.int v), x6, x7, x8] (.int v :: S) (h) P) : RQ G mL_law d 1499 [x0, x1, x2, x3, x4, some (.int v), x6, x7, x8] (S) h P := q_iload (M := mL_law) (pc := 1499) dL_law_1499 rfl r
theorem tL_law_1501 {x y : Int32} (kt : x = y → RQ G mL_law d 1506 [x0, x1, x2, x3, x4, x5, x6, x7, x8] S h P) (kf : ¬ x = y → RQ G mL_law d 1504 [x0, x1, x2, x3, x4, x5, x6, x7, x8] S h P) : RQ G mL_law d 1501 [x0, x1, x2, x3, x4, x5, x6, x7, x8] (.int y :: .int x :: S) h P := q_icmp_eq (M := mL_law) (pc := 1501) dL_law_1501 (by decide) kt kf
theorem tL_law_1504 (r : RQ G mL_law d 1505 [x0, x1, x2, x3, x4, x5, x6, x7, x8] (.int (nI 0) :: S) (h) P) : RQ G mL_law d 1504 [x0, x1, x2, x3, x4, x5, x6, x7, x8] (S) h P := q_iconst (M := mL_law) (pc := 1504) dL_law_1504 (by decide) r
theorem tL_law_1505 {x : Int32} (hb : x = nI 0 ∨ x = nI 1) (hP : P (.inl (some (.int x))) h) : RQ G mL_law d 1505 [x0, x1, x2, x3, x4, x5, x6, x7, x8] ([.int x]) h P := q_ireturn (M := mL_law) (pc := 1505) (ty := .boolean) dL_law_1505 rfl (nar_bool hb) hP
theorem tL_law_1506 {v : Int32} (r : RQ G mL_law d 1508 [x0, x1, x2, x3, x4, some (.int v), x6, x7, x8] (.int v :: S) (h) P) : RQ G mL_law d 1506 [x0, x1, x2, x3, x4, some (.int v), x6, x7, x8] (S) h P := q_iload (M := mL_law) (pc := 1506) dL_law_1506 rfl r
theorem tL_law_1508 {x : Int32} (kt : ¬ x = 0 → RQ G mL_law d 1523 [x0, x1, x2, x3, x4, x5, x6, x7, x8] S h P) (kf : x = 0 → RQ G mL_law d 1511 [x0, x1, x2, x3, x4, x5, x6, x7, x8] S h P) : RQ G mL_law d 1508 [x0, x1, x2, x3, x4, x5, x6, x7, x8] (.int x :: S) h P := q_if_ne (M := mL_law) (pc := 1508) dL_law_1508 (by decide) kt kf
theorem tL_law_1511 {k : Nat} (r : RQ G mL_law d 1512 [x0, x1, x2, some (.ref k), x4, x5, x6, x7, x8] (.ref k :: S) (h) P) : RQ G mL_law d 1511 [x0, x1, x2, some (.ref k), x4, x5, x6, x7, x8] (S) h P := q_aload_n (M := mL_law) (pc := 1511) (r0 := some k) dL_law_1511 rfl rfl r
theorem tL_law_1512 (r : RQ G mL_law d 1513 [x0, x1, x2, x3, x4, x5, x6, x7, x8] (.int (nI 0) :: S) (h) P) : RQ G mL_law d 1512 [x0, x1, x2, x3, x4, x5, x6, x7, x8] (S) h P := q_iconst (M := mL_law) (pc := 1512) dL_law_1512 (by decide) r
theorem tL_law_1513 {a n j : Nat} {x : Int32} {f : Nat → Int64} (ha : At h a (.inl (2, n, .inr (.inl f)))) (hx : x = nI j) (hj : j < n) (hn : n < 2147483648) (r : RQ G mL_law d 1514 [x0, x1, x2, x3, x4, x5, x6, x7, x8] (.long (f j) :: S) (h) P) : RQ G mL_law d 1513 [x0, x1, x2, x3, x4, x5, x6, x7, x8] (.int x :: .ref a :: S) h P := q_lald (M := mL_law) (pc := 1513) dL_law_1513 ha hx hj hn r
theorem tL_law_1514 {v : Int32} (r : RQ G mL_law d 1516 [x0, x1, x2, x3, x4, x5, some (.int v), x7, x8] (.int v :: S) (h) P) : RQ G mL_law d 1514 [x0, x1, x2, x3, x4, x5, some (.int v), x7, x8] (S) h P := q_iload (M := mL_law) (pc := 1514) dL_law_1514 rfl r
theorem tL_law_1516 {x : Int32} (r : RQ G mL_law d 1517 [x0, x1, x2, x3, x4, x5, x6, x7, x8] (.long x.toInt64 :: S) (h) P) : RQ G mL_law d 1516 [x0, x1, x2, x3, x4, x5, x6, x7, x8] (.int x :: S) h P := q_i2l (M := mL_law) (pc := 1516) dL_law_1516 r
theorem tL_law_1517 {x y : Int64} (r : RQ G mL_law d 1518 [x0, x1, x2, x3, x4, x5, x6, x7, x8] (.int (lg_cmp x y) :: S) (h) P) : RQ G mL_law d 1517 [x0, x1, x2, x3, x4, x5, x6, x7, x8] (.long y :: .long x :: S) h P := q_lcmp (M := mL_law) (pc := 1517) dL_law_1517 r
theorem tL_law_1518 {x : Int32} (kt : x = 0 → RQ G mL_law d 1523 [x0, x1, x2, x3, x4, x5, x6, x7, x8] S h P) (kf : ¬ x = 0 → RQ G mL_law d 1521 [x0, x1, x2, x3, x4, x5, x6, x7, x8] S h P) : RQ G mL_law d 1518 [x0, x1, x2, x3, x4, x5, x6, x7, x8] (.int x :: S) h P := q_if_eq (M := mL_law) (pc := 1518) dL_law_1518 (by decide) kt kf
theorem tL_law_1521 (r : RQ G mL_law d 1522 [x0, x1, x2, x3, x4, x5, x6, x7, x8] (.int (nI 0) :: S) (h) P) : RQ G mL_law d 1521 [x0, x1, x2, x3, x4, x5, x6, x7, x8] (S) h P := q_iconst (M := mL_law) (pc := 1521) dL_law_1521 (by decide) r
theorem tL_law_1522 {x : Int32} (hb : x = nI 0 ∨ x = nI 1) (hP : P (.inl (some (.int x))) h) : RQ G mL_law d 1522 [x0, x1, x2, x3, x4, x5, x6, x7, x8] ([.int x]) h P := q_ireturn (M := mL_law) (pc := 1522) (ty := .boolean) dL_law_1522 rfl (nar_bool hb) hP
theorem tL_law_1523 (r : RQ G mL_law d 2189 [x0, x1, x2, x3, x4, x5, x6, x7, x8] S h P) : RQ G mL_law d 1523 [x0, x1, x2, x3, x4, x5, x6, x7, x8] (S) h P := q_goto (M := mL_law) (pc := 1523) dL_law_1523 (by decide) r
theorem tL_law_1526 {k : Nat} (r : RQ G mL_law d 1527 [x0, some (.ref k), x2, x3, x4, x5, x6, x7, x8] (.ref k :: S) (h) P) : RQ G mL_law d 1526 [x0, some (.ref k), x2, x3, x4, x5, x6, x7, x8] (S) h P := q_aload_n (M := mL_law) (pc := 1526) (r0 := some k) dL_law_1526 rfl rfl r
theorem tL_law_1527 {k : Nat} (r : RQ G mL_law d 1528 [some (.ref k), x1, x2, x3, x4, x5, x6, x7, x8] (.ref k :: S) (h) P) : RQ G mL_law d 1527 [some (.ref k), x1, x2, x3, x4, x5, x6, x7, x8] (S) h P := q_aload_n (M := mL_law) (pc := 1527) (r0 := some k) dL_law_1527 rfl rfl r
theorem tL_law_1528 {v : Int32} (r : RQ G mL_law d 1530 [x0, x1, x2, x3, some (.int v), x5, x6, x7, x8] (.int v :: S) (h) P) : RQ G mL_law d 1528 [x0, x1, x2, x3, some (.int v), x5, x6, x7, x8] (S) h P := q_iload (M := mL_law) (pc := 1528) dL_law_1528 rfl r
theorem tL_law_1530 (r : RQ G mL_law d 1531 [x0, x1, x2, x3, x4, x5, x6, x7, x8] (.int (nI 1) :: S) (h) P) : RQ G mL_law d 1530 [x0, x1, x2, x3, x4, x5, x6, x7, x8] (S) h P := q_iconst (M := mL_law) (pc := 1530) dL_law_1530 (by decide) r
theorem tL_law_1531 {x y : Int32} (r : RQ G mL_law d 1532 [x0, x1, x2, x3, x4, x5, x6, x7, x8] (.int (x + y) :: S) (h) P) : RQ G mL_law d 1531 [x0, x1, x2, x3, x4, x5, x6, x7, x8] (.int y :: .int x :: S) h P := q_iadd (M := mL_law) (pc := 1531) dL_law_1531 r
theorem tL_law_1532 {j : Nat} {x : Int32} (hx : x = nI j) (hj : j < gN G) (hn : gN G < 2147483648) (r : RQ G mL_law d 1533 [x0, x1, x2, x3, x4, x5, x6, x7, x8] (.int (gX G j) :: S) (h) P) : RQ G mL_law d 1532 [x0, x1, x2, x3, x4, x5, x6, x7, x8] (.int x :: .ref (OLD + 999) :: S) h P := q_sld (M := mL_law) (pc := 1532) dL_law_1532 hx hj hn r
theorem tL_law_1533 {k : Nat} (r : RQ G mL_law d 1534 [x0, x1, x2, some (.ref k), x4, x5, x6, x7, x8] (.ref k :: S) (h) P) : RQ G mL_law d 1533 [x0, x1, x2, some (.ref k), x4, x5, x6, x7, x8] (S) h P := q_aload_n (M := mL_law) (pc := 1533) (r0 := some k) dL_law_1533 rfl rfl r
theorem tL_law_1534 {d2 : Nat} {a0 : Nat} {a1 : Int32} {a2 : Nat} {Q : Int32 → AH → Prop} (hd : d2 + 1 ≤ d) (call : RQ G mL_shake d2 0 [some (.ref a0), some (.int a1), some (.ref a2), none] [] h (Ri Q)) (k : ∀ x h1, Q x h1 → RQ G mL_law d 1537 [x0, x1, x2, x3, x4, x5, x6, x7, x8] (.int x :: S) h1 P) (hst : (S.map fun v => v.category).sum ≤ 8 := by exact Nat.le_of_ble_eq_true rfl)  : RQ G mL_law d 1534 [x0, x1, x2, x3, x4, x5, x6, x7, x8] (.ref a2 :: .int a1 :: .ref a0 :: S) h P := q_callSW (M := mL_law) (pc := 1534) (M2 := mL_shake) (As := [.ref a0, .int a1, .ref a2]) (n := 3) dL_law_1534 ⟨by decide, by decide, by decide, rfl⟩ w1235 w1236 w108 w1237 hd (by decide) (Nat.le_of_ble_eq_true rfl) rfl hst call (callk_i k)
theorem tL_law_1537 {v : Int32} (ho : ok1 x4 = true := by rfl) (r : RQ G mL_law d 1539 [x0, x1, x2, x3, x4, some (.int v), x6, x7, x8] (S) (h) P) : RQ G mL_law d 1537 [x0, x1, x2, x3, x4, x5, x6, x7, x8] (.int v :: S) h P := q_istore (M := mL_law) (pc := 1537) dL_law_1537 (Nat.le_of_ble_eq_true rfl) ho r
theorem tL_law_1539 {k : Nat} (r : RQ G mL_law d 1540 [x0, x1, some (.ref k), x3, x4, x5, x6, x7, x8] (.ref k :: S) (h) P) : RQ G mL_law d 1539 [x0, x1, some (.ref k), x3, x4, x5, x6, x7, x8] (S) h P := q_aload_n (M := mL_law) (pc := 1539) (r0 := some k) dL_law_1539 rfl rfl r
theorem tL_law_1540 {k : Nat} (r : RQ G mL_law d 1541 [some (.ref k), x1, x2, x3, x4, x5, x6, x7, x8] (.ref k :: S) (h) P) : RQ G mL_law d 1540 [some (.ref k), x1, x2, x3, x4, x5, x6, x7, x8] (S) h P := q_aload_n (M := mL_law) (pc := 1540) (r0 := some k) dL_law_1540 rfl rfl r
theorem tL_law_1541 {v : Int32} (r : RQ G mL_law d 1543 [x0, x1, x2, x3, some (.int v), x5, x6, x7, x8] (.int v :: S) (h) P) : RQ G mL_law d 1541 [x0, x1, x2, x3, some (.int v), x5, x6, x7, x8] (S) h P := q_iload (M := mL_law) (pc := 1541) dL_law_1541 rfl r
theorem tL_law_1543 (r : RQ G mL_law d 1544 [x0, x1, x2, x3, x4, x5, x6, x7, x8] (.int (nI 1) :: S) (h) P) : RQ G mL_law d 1543 [x0, x1, x2, x3, x4, x5, x6, x7, x8] (S) h P := q_iconst (M := mL_law) (pc := 1543) dL_law_1543 (by decide) r
theorem tL_law_1544 {x y : Int32} (r : RQ G mL_law d 1545 [x0, x1, x2, x3, x4, x5, x6, x7, x8] (.int (x + y) :: S) (h) P) : RQ G mL_law d 1544 [x0, x1, x2, x3, x4, x5, x6, x7, x8] (.int y :: .int x :: S) h P := q_iadd (M := mL_law) (pc := 1544) dL_law_1544 r
theorem tL_law_1545 {j : Nat} {x : Int32} (hx : x = nI j) (hj : j < gN G) (hn : gN G < 2147483648) (r : RQ G mL_law d 1546 [x0, x1, x2, x3, x4, x5, x6, x7, x8] (.int (gX G j) :: S) (h) P) : RQ G mL_law d 1545 [x0, x1, x2, x3, x4, x5, x6, x7, x8] (.int x :: .ref (OLD + 999) :: S) h P := q_sld (M := mL_law) (pc := 1545) dL_law_1545 hx hj hn r
theorem tL_law_1546 {b d2 : Nat} {vs : List Value} {a0 : Int32} {Q : Int32 → AH → Prop} (hd : d2 + 1 ≤ d) (ha : At h b (.inr (10, vs))) (call : RQ G mX12_shake d2 0 [some (.ref b), some (.int a0)] [] h (Ri Q)) (k : ∀ x h1, Q x h1 → RQ G mL_law d 1549 [x0, x1, x2, x3, x4, x5, x6, x7, x8] (.int x :: S) h1 P) (hst : (S.map fun v => v.category).sum ≤ 8 := by exact Nat.le_of_ble_eq_true rfl)  : RQ G mL_law d 1546 [x0, x1, x2, x3, x4, x5, x6, x7, x8] (.int a0 :: .ref b :: S) h P := q_callV (M := mL_law) (pc := 1546) (M2 := mX12_shake) (As := [.int a0]) (n := 1) dL_law_1546 rfl ⟨by decide, by decide, by decide, rfl⟩ rfl w1876 w1877 w1878 w120 w1879 (show CL[10]? = some (RX12, TX12, 25) from rfl) hd (by decide) (Nat.le_of_ble_eq_true rfl) rfl ha hst call (callk_i k)
theorem tL_law_1549 {v : Int32} (ho : ok1 x5 = true := by rfl) (r : RQ G mL_law d 1551 [x0, x1, x2, x3, x4, x5, some (.int v), x7, x8] (S) (h) P) : RQ G mL_law d 1549 [x0, x1, x2, x3, x4, x5, x6, x7, x8] (.int v :: S) h P := q_istore (M := mL_law) (pc := 1549) dL_law_1549 (Nat.le_of_ble_eq_true rfl) ho r
theorem tL_law_1551 {k : Nat} (r : RQ G mL_law d 1552 [x0, x1, some (.ref k), x3, x4, x5, x6, x7, x8] (.ref k :: S) (h) P) : RQ G mL_law d 1551 [x0, x1, some (.ref k), x3, x4, x5, x6, x7, x8] (S) h P := q_aload_n (M := mL_law) (pc := 1551) (r0 := some k) dL_law_1551 rfl rfl r
theorem tL_law_1552 {b d2 : Nat} {vs : List Value}  {Q : Int32 → AH → Prop} (hd : d2 + 1 ≤ d) (ha : At h b (.inr (10, vs))) (call : RQ G mX12_thrown d2 0 [some (.ref b)] [] h (Ri Q)) (k : ∀ x h1, Q x h1 → RQ G mL_law d 1555 [x0, x1, x2, x3, x4, x5, x6, x7, x8] (.int x :: S) h1 P) (hst : (S.map fun v => v.category).sum ≤ 8 := by exact Nat.le_of_ble_eq_true rfl)  : RQ G mL_law d 1552 [x0, x1, x2, x3, x4, x5, x6, x7, x8] (.ref b :: S) h P := q_callV (M := mL_law) (pc := 1552) (M2 := mX12_thrown) (As := []) (n := 0) dL_law_1552 rfl ⟨by decide, by decide, by decide, rfl⟩ rfl w1499 w1500 w1501 w120 w1502 (show CL[10]? = some (RX12, TX12, 25) from rfl) hd (by decide) (Nat.le_of_ble_eq_true rfl) rfl ha hst call (callk_i k)
theorem tL_law_1555 {v : Int32} (r : RQ G mL_law d 1557 [x0, x1, x2, x3, x4, some (.int v), x6, x7, x8] (.int v :: S) (h) P) : RQ G mL_law d 1555 [x0, x1, x2, x3, x4, some (.int v), x6, x7, x8] (S) h P := q_iload (M := mL_law) (pc := 1555) dL_law_1555 rfl r
theorem tL_law_1557 {x y : Int32} (kt : x = y → RQ G mL_law d 1562 [x0, x1, x2, x3, x4, x5, x6, x7, x8] S h P) (kf : ¬ x = y → RQ G mL_law d 1560 [x0, x1, x2, x3, x4, x5, x6, x7, x8] S h P) : RQ G mL_law d 1557 [x0, x1, x2, x3, x4, x5, x6, x7, x8] (.int y :: .int x :: S) h P := q_icmp_eq (M := mL_law) (pc := 1557) dL_law_1557 (by decide) kt kf
theorem tL_law_1560 (r : RQ G mL_law d 1561 [x0, x1, x2, x3, x4, x5, x6, x7, x8] (.int (nI 0) :: S) (h) P) : RQ G mL_law d 1560 [x0, x1, x2, x3, x4, x5, x6, x7, x8] (S) h P := q_iconst (M := mL_law) (pc := 1560) dL_law_1560 (by decide) r
theorem tL_law_1561 {x : Int32} (hb : x = nI 0 ∨ x = nI 1) (hP : P (.inl (some (.int x))) h) : RQ G mL_law d 1561 [x0, x1, x2, x3, x4, x5, x6, x7, x8] ([.int x]) h P := q_ireturn (M := mL_law) (pc := 1561) (ty := .boolean) dL_law_1561 rfl (nar_bool hb) hP
theorem tL_law_1562 {v : Int32} (r : RQ G mL_law d 1564 [x0, x1, x2, x3, x4, some (.int v), x6, x7, x8] (.int v :: S) (h) P) : RQ G mL_law d 1562 [x0, x1, x2, x3, x4, some (.int v), x6, x7, x8] (S) h P := q_iload (M := mL_law) (pc := 1562) dL_law_1562 rfl r
theorem tL_law_1564 {x : Int32} (kt : ¬ x = 0 → RQ G mL_law d 1579 [x0, x1, x2, x3, x4, x5, x6, x7, x8] S h P) (kf : x = 0 → RQ G mL_law d 1567 [x0, x1, x2, x3, x4, x5, x6, x7, x8] S h P) : RQ G mL_law d 1564 [x0, x1, x2, x3, x4, x5, x6, x7, x8] (.int x :: S) h P := q_if_ne (M := mL_law) (pc := 1564) dL_law_1564 (by decide) kt kf
theorem tL_law_1567 {k : Nat} (r : RQ G mL_law d 1568 [x0, x1, x2, some (.ref k), x4, x5, x6, x7, x8] (.ref k :: S) (h) P) : RQ G mL_law d 1567 [x0, x1, x2, some (.ref k), x4, x5, x6, x7, x8] (S) h P := q_aload_n (M := mL_law) (pc := 1567) (r0 := some k) dL_law_1567 rfl rfl r
theorem tL_law_1568 (r : RQ G mL_law d 1569 [x0, x1, x2, x3, x4, x5, x6, x7, x8] (.int (nI 0) :: S) (h) P) : RQ G mL_law d 1568 [x0, x1, x2, x3, x4, x5, x6, x7, x8] (S) h P := q_iconst (M := mL_law) (pc := 1568) dL_law_1568 (by decide) r
theorem tL_law_1569 {a n j : Nat} {x : Int32} {f : Nat → Int64} (ha : At h a (.inl (2, n, .inr (.inl f)))) (hx : x = nI j) (hj : j < n) (hn : n < 2147483648) (r : RQ G mL_law d 1570 [x0, x1, x2, x3, x4, x5, x6, x7, x8] (.long (f j) :: S) (h) P) : RQ G mL_law d 1569 [x0, x1, x2, x3, x4, x5, x6, x7, x8] (.int x :: .ref a :: S) h P := q_lald (M := mL_law) (pc := 1569) dL_law_1569 ha hx hj hn r
theorem tL_law_1570 {v : Int32} (r : RQ G mL_law d 1572 [x0, x1, x2, x3, x4, x5, some (.int v), x7, x8] (.int v :: S) (h) P) : RQ G mL_law d 1570 [x0, x1, x2, x3, x4, x5, some (.int v), x7, x8] (S) h P := q_iload (M := mL_law) (pc := 1570) dL_law_1570 rfl r
theorem tL_law_1572 {x : Int32} (r : RQ G mL_law d 1573 [x0, x1, x2, x3, x4, x5, x6, x7, x8] (.long x.toInt64 :: S) (h) P) : RQ G mL_law d 1572 [x0, x1, x2, x3, x4, x5, x6, x7, x8] (.int x :: S) h P := q_i2l (M := mL_law) (pc := 1572) dL_law_1572 r
theorem tL_law_1573 {x y : Int64} (r : RQ G mL_law d 1574 [x0, x1, x2, x3, x4, x5, x6, x7, x8] (.int (lg_cmp x y) :: S) (h) P) : RQ G mL_law d 1573 [x0, x1, x2, x3, x4, x5, x6, x7, x8] (.long y :: .long x :: S) h P := q_lcmp (M := mL_law) (pc := 1573) dL_law_1573 r
theorem tL_law_1574 {x : Int32} (kt : x = 0 → RQ G mL_law d 1579 [x0, x1, x2, x3, x4, x5, x6, x7, x8] S h P) (kf : ¬ x = 0 → RQ G mL_law d 1577 [x0, x1, x2, x3, x4, x5, x6, x7, x8] S h P) : RQ G mL_law d 1574 [x0, x1, x2, x3, x4, x5, x6, x7, x8] (.int x :: S) h P := q_if_eq (M := mL_law) (pc := 1574) dL_law_1574 (by decide) kt kf
theorem tL_law_1577 (r : RQ G mL_law d 1578 [x0, x1, x2, x3, x4, x5, x6, x7, x8] (.int (nI 0) :: S) (h) P) : RQ G mL_law d 1577 [x0, x1, x2, x3, x4, x5, x6, x7, x8] (S) h P := q_iconst (M := mL_law) (pc := 1577) dL_law_1577 (by decide) r
theorem tL_law_1578 {x : Int32} (hb : x = nI 0 ∨ x = nI 1) (hP : P (.inl (some (.int x))) h) : RQ G mL_law d 1578 [x0, x1, x2, x3, x4, x5, x6, x7, x8] ([.int x]) h P := q_ireturn (M := mL_law) (pc := 1578) (ty := .boolean) dL_law_1578 rfl (nar_bool hb) hP
theorem tL_law_1579 (r : RQ G mL_law d 2189 [x0, x1, x2, x3, x4, x5, x6, x7, x8] S h P) : RQ G mL_law d 1579 [x0, x1, x2, x3, x4, x5, x6, x7, x8] (S) h P := q_goto (M := mL_law) (pc := 1579) dL_law_1579 (by decide) r
theorem tL_law_1582 {k : Nat} (r : RQ G mL_law d 1583 [x0, some (.ref k), x2, x3, x4, x5, x6, x7, x8] (.ref k :: S) (h) P) : RQ G mL_law d 1582 [x0, some (.ref k), x2, x3, x4, x5, x6, x7, x8] (S) h P := q_aload_n (M := mL_law) (pc := 1582) (r0 := some k) dL_law_1582 rfl rfl r
theorem tL_law_1583 {k : Nat} (r : RQ G mL_law d 1584 [some (.ref k), x1, x2, x3, x4, x5, x6, x7, x8] (.ref k :: S) (h) P) : RQ G mL_law d 1583 [some (.ref k), x1, x2, x3, x4, x5, x6, x7, x8] (S) h P := q_aload_n (M := mL_law) (pc := 1583) (r0 := some k) dL_law_1583 rfl rfl r
theorem tL_law_1584 {v : Int32} (r : RQ G mL_law d 1586 [x0, x1, x2, x3, some (.int v), x5, x6, x7, x8] (.int v :: S) (h) P) : RQ G mL_law d 1584 [x0, x1, x2, x3, some (.int v), x5, x6, x7, x8] (S) h P := q_iload (M := mL_law) (pc := 1584) dL_law_1584 rfl r
theorem tL_law_1586 (r : RQ G mL_law d 1587 [x0, x1, x2, x3, x4, x5, x6, x7, x8] (.int (nI 1) :: S) (h) P) : RQ G mL_law d 1586 [x0, x1, x2, x3, x4, x5, x6, x7, x8] (S) h P := q_iconst (M := mL_law) (pc := 1586) dL_law_1586 (by decide) r
theorem tL_law_1587 {x y : Int32} (r : RQ G mL_law d 1588 [x0, x1, x2, x3, x4, x5, x6, x7, x8] (.int (x + y) :: S) (h) P) : RQ G mL_law d 1587 [x0, x1, x2, x3, x4, x5, x6, x7, x8] (.int y :: .int x :: S) h P := q_iadd (M := mL_law) (pc := 1587) dL_law_1587 r
theorem tL_law_1588 {j : Nat} {x : Int32} (hx : x = nI j) (hj : j < gN G) (hn : gN G < 2147483648) (r : RQ G mL_law d 1589 [x0, x1, x2, x3, x4, x5, x6, x7, x8] (.int (gX G j) :: S) (h) P) : RQ G mL_law d 1588 [x0, x1, x2, x3, x4, x5, x6, x7, x8] (.int x :: .ref (OLD + 999) :: S) h P := q_sld (M := mL_law) (pc := 1588) dL_law_1588 hx hj hn r
theorem tL_law_1589 {k : Nat} (r : RQ G mL_law d 1590 [some (.ref k), x1, x2, x3, x4, x5, x6, x7, x8] (.ref k :: S) (h) P) : RQ G mL_law d 1589 [some (.ref k), x1, x2, x3, x4, x5, x6, x7, x8] (S) h P := q_aload_n (M := mL_law) (pc := 1589) (r0 := some k) dL_law_1589 rfl rfl r
theorem tL_law_1590 {v : Int32} (r : RQ G mL_law d 1592 [x0, x1, x2, x3, some (.int v), x5, x6, x7, x8] (.int v :: S) (h) P) : RQ G mL_law d 1590 [x0, x1, x2, x3, some (.int v), x5, x6, x7, x8] (S) h P := q_iload (M := mL_law) (pc := 1590) dL_law_1590 rfl r
theorem tL_law_1592 (r : RQ G mL_law d 1593 [x0, x1, x2, x3, x4, x5, x6, x7, x8] (.int (nI 2) :: S) (h) P) : RQ G mL_law d 1592 [x0, x1, x2, x3, x4, x5, x6, x7, x8] (S) h P := q_iconst (M := mL_law) (pc := 1592) dL_law_1592 (by decide) r
theorem tL_law_1593 {x y : Int32} (r : RQ G mL_law d 1594 [x0, x1, x2, x3, x4, x5, x6, x7, x8] (.int (x + y) :: S) (h) P) : RQ G mL_law d 1593 [x0, x1, x2, x3, x4, x5, x6, x7, x8] (.int y :: .int x :: S) h P := q_iadd (M := mL_law) (pc := 1593) dL_law_1593 r
theorem tL_law_1594 {j : Nat} {x : Int32} (hx : x = nI j) (hj : j < gN G) (hn : gN G < 2147483648) (r : RQ G mL_law d 1595 [x0, x1, x2, x3, x4, x5, x6, x7, x8] (.int (gX G j) :: S) (h) P) : RQ G mL_law d 1594 [x0, x1, x2, x3, x4, x5, x6, x7, x8] (.int x :: .ref (OLD + 999) :: S) h P := q_sld (M := mL_law) (pc := 1594) dL_law_1594 hx hj hn r
theorem tL_law_1595 {k : Nat} (r : RQ G mL_law d 1596 [x0, x1, x2, some (.ref k), x4, x5, x6, x7, x8] (.ref k :: S) (h) P) : RQ G mL_law d 1595 [x0, x1, x2, some (.ref k), x4, x5, x6, x7, x8] (S) h P := q_aload_n (M := mL_law) (pc := 1595) (r0 := some k) dL_law_1595 rfl rfl r
theorem tL_law_1596 {d2 : Nat} {a0 : Nat} {a1 : Int32} {a2 : Int32} {a3 : Nat} {Q : Int32 → AH → Prop} (hd : d2 + 1 ≤ d) (call : RQ G mL_putLid d2 0 [some (.ref a0), some (.int a1), some (.int a2), some (.ref a3), none] [] h (Ri Q)) (k : ∀ x h1, Q x h1 → RQ G mL_law d 1599 [x0, x1, x2, x3, x4, x5, x6, x7, x8] (.int x :: S) h1 P) (hst : (S.map fun v => v.category).sum ≤ 8 := by exact Nat.le_of_ble_eq_true rfl)  : RQ G mL_law d 1596 [x0, x1, x2, x3, x4, x5, x6, x7, x8] (.ref a3 :: .int a2 :: .int a1 :: .ref a0 :: S) h P := q_callSW (M := mL_law) (pc := 1596) (M2 := mL_putLid) (As := [.ref a0, .int a1, .int a2, .ref a3]) (n := 4) dL_law_1596 ⟨by decide, by decide, by decide, rfl⟩ w1242 w1243 w108 w1244 hd (by decide) (Nat.le_of_ble_eq_true rfl) rfl hst call (callk_i k)
theorem tL_law_1599 {v : Int32} (ho : ok1 x4 = true := by rfl) (r : RQ G mL_law d 1601 [x0, x1, x2, x3, x4, some (.int v), x6, x7, x8] (S) (h) P) : RQ G mL_law d 1599 [x0, x1, x2, x3, x4, x5, x6, x7, x8] (.int v :: S) h P := q_istore (M := mL_law) (pc := 1599) dL_law_1599 (Nat.le_of_ble_eq_true rfl) ho r
theorem tL_law_1601 {k : Nat} (r : RQ G mL_law d 1602 [x0, x1, some (.ref k), x3, x4, x5, x6, x7, x8] (.ref k :: S) (h) P) : RQ G mL_law d 1601 [x0, x1, some (.ref k), x3, x4, x5, x6, x7, x8] (S) h P := q_aload_n (M := mL_law) (pc := 1601) (r0 := some k) dL_law_1601 rfl rfl r
theorem tL_law_1602 {k : Nat} (r : RQ G mL_law d 1603 [some (.ref k), x1, x2, x3, x4, x5, x6, x7, x8] (.ref k :: S) (h) P) : RQ G mL_law d 1602 [some (.ref k), x1, x2, x3, x4, x5, x6, x7, x8] (S) h P := q_aload_n (M := mL_law) (pc := 1602) (r0 := some k) dL_law_1602 rfl rfl r
theorem tL_law_1603 {v : Int32} (r : RQ G mL_law d 1605 [x0, x1, x2, x3, some (.int v), x5, x6, x7, x8] (.int v :: S) (h) P) : RQ G mL_law d 1603 [x0, x1, x2, x3, some (.int v), x5, x6, x7, x8] (S) h P := q_iload (M := mL_law) (pc := 1603) dL_law_1603 rfl r
theorem tL_law_1605 (r : RQ G mL_law d 1606 [x0, x1, x2, x3, x4, x5, x6, x7, x8] (.int (nI 1) :: S) (h) P) : RQ G mL_law d 1605 [x0, x1, x2, x3, x4, x5, x6, x7, x8] (S) h P := q_iconst (M := mL_law) (pc := 1605) dL_law_1605 (by decide) r
theorem tL_law_1606 {x y : Int32} (r : RQ G mL_law d 1607 [x0, x1, x2, x3, x4, x5, x6, x7, x8] (.int (x + y) :: S) (h) P) : RQ G mL_law d 1606 [x0, x1, x2, x3, x4, x5, x6, x7, x8] (.int y :: .int x :: S) h P := q_iadd (M := mL_law) (pc := 1606) dL_law_1606 r
theorem tL_law_1607 {j : Nat} {x : Int32} (hx : x = nI j) (hj : j < gN G) (hn : gN G < 2147483648) (r : RQ G mL_law d 1608 [x0, x1, x2, x3, x4, x5, x6, x7, x8] (.int (gX G j) :: S) (h) P) : RQ G mL_law d 1607 [x0, x1, x2, x3, x4, x5, x6, x7, x8] (.int x :: .ref (OLD + 999) :: S) h P := q_sld (M := mL_law) (pc := 1607) dL_law_1607 hx hj hn r
theorem tL_law_1608 {k : Nat} (r : RQ G mL_law d 1609 [some (.ref k), x1, x2, x3, x4, x5, x6, x7, x8] (.ref k :: S) (h) P) : RQ G mL_law d 1608 [some (.ref k), x1, x2, x3, x4, x5, x6, x7, x8] (S) h P := q_aload_n (M := mL_law) (pc := 1608) (r0 := some k) dL_law_1608 rfl rfl r
theorem tL_law_1609 {v : Int32} (r : RQ G mL_law d 1611 [x0, x1, x2, x3, some (.int v), x5, x6, x7, x8] (.int v :: S) (h) P) : RQ G mL_law d 1609 [x0, x1, x2, x3, some (.int v), x5, x6, x7, x8] (S) h P := q_iload (M := mL_law) (pc := 1609) dL_law_1609 rfl r
theorem tL_law_1611 (r : RQ G mL_law d 1612 [x0, x1, x2, x3, x4, x5, x6, x7, x8] (.int (nI 2) :: S) (h) P) : RQ G mL_law d 1611 [x0, x1, x2, x3, x4, x5, x6, x7, x8] (S) h P := q_iconst (M := mL_law) (pc := 1611) dL_law_1611 (by decide) r
theorem tL_law_1612 {x y : Int32} (r : RQ G mL_law d 1613 [x0, x1, x2, x3, x4, x5, x6, x7, x8] (.int (x + y) :: S) (h) P) : RQ G mL_law d 1612 [x0, x1, x2, x3, x4, x5, x6, x7, x8] (.int y :: .int x :: S) h P := q_iadd (M := mL_law) (pc := 1612) dL_law_1612 r
theorem tL_law_1613 {j : Nat} {x : Int32} (hx : x = nI j) (hj : j < gN G) (hn : gN G < 2147483648) (r : RQ G mL_law d 1614 [x0, x1, x2, x3, x4, x5, x6, x7, x8] (.int (gX G j) :: S) (h) P) : RQ G mL_law d 1613 [x0, x1, x2, x3, x4, x5, x6, x7, x8] (.int x :: .ref (OLD + 999) :: S) h P := q_sld (M := mL_law) (pc := 1613) dL_law_1613 hx hj hn r
theorem tL_law_1614 {b d2 : Nat} {vs : List Value} {a0 : Int32} {a1 : Int32} {Q : Int32 → AH → Prop} (hd : d2 + 1 ≤ d) (ha : At h b (.inr (10, vs))) (call : RQ G mX12_putLid d2 0 [some (.ref b), some (.int a0), some (.int a1), none] [] h (Ri Q)) (k : ∀ x h1, Q x h1 → RQ G mL_law d 1617 [x0, x1, x2, x3, x4, x5, x6, x7, x8] (.int x :: S) h1 P) (hst : (S.map fun v => v.category).sum ≤ 8 := by exact Nat.le_of_ble_eq_true rfl)  : RQ G mL_law d 1614 [x0, x1, x2, x3, x4, x5, x6, x7, x8] (.int a1 :: .int a0 :: .ref b :: S) h P := q_callV (M := mL_law) (pc := 1614) (M2 := mX12_putLid) (As := [.int a0, .int a1]) (n := 2) dL_law_1614 rfl ⟨by decide, by decide, by decide, rfl⟩ rfl w1884 w1885 w1886 w120 w1887 (show CL[10]? = some (RX12, TX12, 25) from rfl) hd (by decide) (Nat.le_of_ble_eq_true rfl) rfl ha hst call (callk_i k)
theorem tL_law_1617 {v : Int32} (ho : ok1 x5 = true := by rfl) (r : RQ G mL_law d 1619 [x0, x1, x2, x3, x4, x5, some (.int v), x7, x8] (S) (h) P) : RQ G mL_law d 1617 [x0, x1, x2, x3, x4, x5, x6, x7, x8] (.int v :: S) h P := q_istore (M := mL_law) (pc := 1617) dL_law_1617 (Nat.le_of_ble_eq_true rfl) ho r
theorem tL_law_1619 {k : Nat} (r : RQ G mL_law d 1620 [x0, x1, some (.ref k), x3, x4, x5, x6, x7, x8] (.ref k :: S) (h) P) : RQ G mL_law d 1619 [x0, x1, some (.ref k), x3, x4, x5, x6, x7, x8] (S) h P := q_aload_n (M := mL_law) (pc := 1619) (r0 := some k) dL_law_1619 rfl rfl r
theorem tL_law_1620 {b d2 : Nat} {vs : List Value}  {Q : Int32 → AH → Prop} (hd : d2 + 1 ≤ d) (ha : At h b (.inr (10, vs))) (call : RQ G mX12_thrown d2 0 [some (.ref b)] [] h (Ri Q)) (k : ∀ x h1, Q x h1 → RQ G mL_law d 1623 [x0, x1, x2, x3, x4, x5, x6, x7, x8] (.int x :: S) h1 P) (hst : (S.map fun v => v.category).sum ≤ 8 := by exact Nat.le_of_ble_eq_true rfl)  : RQ G mL_law d 1620 [x0, x1, x2, x3, x4, x5, x6, x7, x8] (.ref b :: S) h P := q_callV (M := mL_law) (pc := 1620) (M2 := mX12_thrown) (As := []) (n := 0) dL_law_1620 rfl ⟨by decide, by decide, by decide, rfl⟩ rfl w1499 w1500 w1501 w120 w1502 (show CL[10]? = some (RX12, TX12, 25) from rfl) hd (by decide) (Nat.le_of_ble_eq_true rfl) rfl ha hst call (callk_i k)
theorem tL_law_1623 {v : Int32} (r : RQ G mL_law d 1625 [x0, x1, x2, x3, x4, some (.int v), x6, x7, x8] (.int v :: S) (h) P) : RQ G mL_law d 1623 [x0, x1, x2, x3, x4, some (.int v), x6, x7, x8] (S) h P := q_iload (M := mL_law) (pc := 1623) dL_law_1623 rfl r
theorem tL_law_1625 {x y : Int32} (kt : x = y → RQ G mL_law d 1630 [x0, x1, x2, x3, x4, x5, x6, x7, x8] S h P) (kf : ¬ x = y → RQ G mL_law d 1628 [x0, x1, x2, x3, x4, x5, x6, x7, x8] S h P) : RQ G mL_law d 1625 [x0, x1, x2, x3, x4, x5, x6, x7, x8] (.int y :: .int x :: S) h P := q_icmp_eq (M := mL_law) (pc := 1625) dL_law_1625 (by decide) kt kf
theorem tL_law_1628 (r : RQ G mL_law d 1629 [x0, x1, x2, x3, x4, x5, x6, x7, x8] (.int (nI 0) :: S) (h) P) : RQ G mL_law d 1628 [x0, x1, x2, x3, x4, x5, x6, x7, x8] (S) h P := q_iconst (M := mL_law) (pc := 1628) dL_law_1628 (by decide) r
theorem tL_law_1629 {x : Int32} (hb : x = nI 0 ∨ x = nI 1) (hP : P (.inl (some (.int x))) h) : RQ G mL_law d 1629 [x0, x1, x2, x3, x4, x5, x6, x7, x8] ([.int x]) h P := q_ireturn (M := mL_law) (pc := 1629) (ty := .boolean) dL_law_1629 rfl (nar_bool hb) hP
theorem tL_law_1630 {v : Int32} (r : RQ G mL_law d 1632 [x0, x1, x2, x3, x4, some (.int v), x6, x7, x8] (.int v :: S) (h) P) : RQ G mL_law d 1630 [x0, x1, x2, x3, x4, some (.int v), x6, x7, x8] (S) h P := q_iload (M := mL_law) (pc := 1630) dL_law_1630 rfl r
theorem tL_law_1632 {x : Int32} (kt : ¬ x = 0 → RQ G mL_law d 1647 [x0, x1, x2, x3, x4, x5, x6, x7, x8] S h P) (kf : x = 0 → RQ G mL_law d 1635 [x0, x1, x2, x3, x4, x5, x6, x7, x8] S h P) : RQ G mL_law d 1632 [x0, x1, x2, x3, x4, x5, x6, x7, x8] (.int x :: S) h P := q_if_ne (M := mL_law) (pc := 1632) dL_law_1632 (by decide) kt kf
theorem tL_law_1635 {k : Nat} (r : RQ G mL_law d 1636 [x0, x1, x2, some (.ref k), x4, x5, x6, x7, x8] (.ref k :: S) (h) P) : RQ G mL_law d 1635 [x0, x1, x2, some (.ref k), x4, x5, x6, x7, x8] (S) h P := q_aload_n (M := mL_law) (pc := 1635) (r0 := some k) dL_law_1635 rfl rfl r
theorem tL_law_1636 (r : RQ G mL_law d 1637 [x0, x1, x2, x3, x4, x5, x6, x7, x8] (.int (nI 0) :: S) (h) P) : RQ G mL_law d 1636 [x0, x1, x2, x3, x4, x5, x6, x7, x8] (S) h P := q_iconst (M := mL_law) (pc := 1636) dL_law_1636 (by decide) r
theorem tL_law_1637 {a n j : Nat} {x : Int32} {f : Nat → Int64} (ha : At h a (.inl (2, n, .inr (.inl f)))) (hx : x = nI j) (hj : j < n) (hn : n < 2147483648) (r : RQ G mL_law d 1638 [x0, x1, x2, x3, x4, x5, x6, x7, x8] (.long (f j) :: S) (h) P) : RQ G mL_law d 1637 [x0, x1, x2, x3, x4, x5, x6, x7, x8] (.int x :: .ref a :: S) h P := q_lald (M := mL_law) (pc := 1637) dL_law_1637 ha hx hj hn r
theorem tL_law_1638 {v : Int32} (r : RQ G mL_law d 1640 [x0, x1, x2, x3, x4, x5, some (.int v), x7, x8] (.int v :: S) (h) P) : RQ G mL_law d 1638 [x0, x1, x2, x3, x4, x5, some (.int v), x7, x8] (S) h P := q_iload (M := mL_law) (pc := 1638) dL_law_1638 rfl r
theorem tL_law_1640 {x : Int32} (r : RQ G mL_law d 1641 [x0, x1, x2, x3, x4, x5, x6, x7, x8] (.long x.toInt64 :: S) (h) P) : RQ G mL_law d 1640 [x0, x1, x2, x3, x4, x5, x6, x7, x8] (.int x :: S) h P := q_i2l (M := mL_law) (pc := 1640) dL_law_1640 r
theorem tL_law_1641 {x y : Int64} (r : RQ G mL_law d 1642 [x0, x1, x2, x3, x4, x5, x6, x7, x8] (.int (lg_cmp x y) :: S) (h) P) : RQ G mL_law d 1641 [x0, x1, x2, x3, x4, x5, x6, x7, x8] (.long y :: .long x :: S) h P := q_lcmp (M := mL_law) (pc := 1641) dL_law_1641 r
theorem tL_law_1642 {x : Int32} (kt : x = 0 → RQ G mL_law d 1647 [x0, x1, x2, x3, x4, x5, x6, x7, x8] S h P) (kf : ¬ x = 0 → RQ G mL_law d 1645 [x0, x1, x2, x3, x4, x5, x6, x7, x8] S h P) : RQ G mL_law d 1642 [x0, x1, x2, x3, x4, x5, x6, x7, x8] (.int x :: S) h P := q_if_eq (M := mL_law) (pc := 1642) dL_law_1642 (by decide) kt kf
theorem tL_law_1645 (r : RQ G mL_law d 1646 [x0, x1, x2, x3, x4, x5, x6, x7, x8] (.int (nI 0) :: S) (h) P) : RQ G mL_law d 1645 [x0, x1, x2, x3, x4, x5, x6, x7, x8] (S) h P := q_iconst (M := mL_law) (pc := 1645) dL_law_1645 (by decide) r
theorem tL_law_1646 {x : Int32} (hb : x = nI 0 ∨ x = nI 1) (hP : P (.inl (some (.int x))) h) : RQ G mL_law d 1646 [x0, x1, x2, x3, x4, x5, x6, x7, x8] ([.int x]) h P := q_ireturn (M := mL_law) (pc := 1646) (ty := .boolean) dL_law_1646 rfl (nar_bool hb) hP
theorem tL_law_1647 (r : RQ G mL_law d 2189 [x0, x1, x2, x3, x4, x5, x6, x7, x8] S h P) : RQ G mL_law d 1647 [x0, x1, x2, x3, x4, x5, x6, x7, x8] (S) h P := q_goto (M := mL_law) (pc := 1647) dL_law_1647 (by decide) r
theorem tL_law_1650 {k : Nat} (r : RQ G mL_law d 1651 [x0, some (.ref k), x2, x3, x4, x5, x6, x7, x8] (.ref k :: S) (h) P) : RQ G mL_law d 1650 [x0, some (.ref k), x2, x3, x4, x5, x6, x7, x8] (S) h P := q_aload_n (M := mL_law) (pc := 1650) (r0 := some k) dL_law_1650 rfl rfl r
theorem tL_law_1651 {k : Nat} (r : RQ G mL_law d 1652 [some (.ref k), x1, x2, x3, x4, x5, x6, x7, x8] (.ref k :: S) (h) P) : RQ G mL_law d 1651 [some (.ref k), x1, x2, x3, x4, x5, x6, x7, x8] (S) h P := q_aload_n (M := mL_law) (pc := 1651) (r0 := some k) dL_law_1651 rfl rfl r
theorem tL_law_1652 {v : Int32} (r : RQ G mL_law d 1654 [x0, x1, x2, x3, some (.int v), x5, x6, x7, x8] (.int v :: S) (h) P) : RQ G mL_law d 1652 [x0, x1, x2, x3, some (.int v), x5, x6, x7, x8] (S) h P := q_iload (M := mL_law) (pc := 1652) dL_law_1652 rfl r
theorem tL_law_1654 (r : RQ G mL_law d 1655 [x0, x1, x2, x3, x4, x5, x6, x7, x8] (.int (nI 1) :: S) (h) P) : RQ G mL_law d 1654 [x0, x1, x2, x3, x4, x5, x6, x7, x8] (S) h P := q_iconst (M := mL_law) (pc := 1654) dL_law_1654 (by decide) r
theorem tL_law_1655 {x y : Int32} (r : RQ G mL_law d 1656 [x0, x1, x2, x3, x4, x5, x6, x7, x8] (.int (x + y) :: S) (h) P) : RQ G mL_law d 1655 [x0, x1, x2, x3, x4, x5, x6, x7, x8] (.int y :: .int x :: S) h P := q_iadd (M := mL_law) (pc := 1655) dL_law_1655 r
theorem tL_law_1656 {j : Nat} {x : Int32} (hx : x = nI j) (hj : j < gN G) (hn : gN G < 2147483648) (r : RQ G mL_law d 1657 [x0, x1, x2, x3, x4, x5, x6, x7, x8] (.int (gX G j) :: S) (h) P) : RQ G mL_law d 1656 [x0, x1, x2, x3, x4, x5, x6, x7, x8] (.int x :: .ref (OLD + 999) :: S) h P := q_sld (M := mL_law) (pc := 1656) dL_law_1656 hx hj hn r
theorem tL_law_1657 {k : Nat} (r : RQ G mL_law d 1658 [some (.ref k), x1, x2, x3, x4, x5, x6, x7, x8] (.ref k :: S) (h) P) : RQ G mL_law d 1657 [some (.ref k), x1, x2, x3, x4, x5, x6, x7, x8] (S) h P := q_aload_n (M := mL_law) (pc := 1657) (r0 := some k) dL_law_1657 rfl rfl r
theorem tL_law_1658 {v : Int32} (r : RQ G mL_law d 1660 [x0, x1, x2, x3, some (.int v), x5, x6, x7, x8] (.int v :: S) (h) P) : RQ G mL_law d 1658 [x0, x1, x2, x3, some (.int v), x5, x6, x7, x8] (S) h P := q_iload (M := mL_law) (pc := 1658) dL_law_1658 rfl r
theorem tL_law_1660 (r : RQ G mL_law d 1661 [x0, x1, x2, x3, x4, x5, x6, x7, x8] (.int (nI 2) :: S) (h) P) : RQ G mL_law d 1660 [x0, x1, x2, x3, x4, x5, x6, x7, x8] (S) h P := q_iconst (M := mL_law) (pc := 1660) dL_law_1660 (by decide) r
theorem tL_law_1661 {x y : Int32} (r : RQ G mL_law d 1662 [x0, x1, x2, x3, x4, x5, x6, x7, x8] (.int (x + y) :: S) (h) P) : RQ G mL_law d 1661 [x0, x1, x2, x3, x4, x5, x6, x7, x8] (.int y :: .int x :: S) h P := q_iadd (M := mL_law) (pc := 1661) dL_law_1661 r
theorem tL_law_1662 {j : Nat} {x : Int32} (hx : x = nI j) (hj : j < gN G) (hn : gN G < 2147483648) (r : RQ G mL_law d 1663 [x0, x1, x2, x3, x4, x5, x6, x7, x8] (.int (gX G j) :: S) (h) P) : RQ G mL_law d 1662 [x0, x1, x2, x3, x4, x5, x6, x7, x8] (.int x :: .ref (OLD + 999) :: S) h P := q_sld (M := mL_law) (pc := 1662) dL_law_1662 hx hj hn r
theorem tL_law_1663 {k : Nat} (r : RQ G mL_law d 1664 [x0, x1, x2, some (.ref k), x4, x5, x6, x7, x8] (.ref k :: S) (h) P) : RQ G mL_law d 1663 [x0, x1, x2, some (.ref k), x4, x5, x6, x7, x8] (S) h P := q_aload_n (M := mL_law) (pc := 1663) (r0 := some k) dL_law_1663 rfl rfl r
theorem tL_law_1664 {d2 : Nat} {a0 : Nat} {a1 : Int32} {a2 : Int32} {a3 : Nat} {Q : Int32 → AH → Prop} (hd : d2 + 1 ≤ d) (call : RQ G mL_join d2 0 [some (.ref a0), some (.int a1), some (.int a2), some (.ref a3), none] [] h (Ri Q)) (k : ∀ x h1, Q x h1 → RQ G mL_law d 1667 [x0, x1, x2, x3, x4, x5, x6, x7, x8] (.int x :: S) h1 P) (hst : (S.map fun v => v.category).sum ≤ 8 := by exact Nat.le_of_ble_eq_true rfl)  : RQ G mL_law d 1664 [x0, x1, x2, x3, x4, x5, x6, x7, x8] (.ref a3 :: .int a2 :: .int a1 :: .ref a0 :: S) h P := q_callSW (M := mL_law) (pc := 1664) (M2 := mL_join) (As := [.ref a0, .int a1, .int a2, .ref a3]) (n := 4) dL_law_1664 ⟨by decide, by decide, by decide, rfl⟩ w1249 w1250 w108 w1251 hd (by decide) (Nat.le_of_ble_eq_true rfl) rfl hst call (callk_i k)
theorem tL_law_1667 {v : Int32} (ho : ok1 x4 = true := by rfl) (r : RQ G mL_law d 1669 [x0, x1, x2, x3, x4, some (.int v), x6, x7, x8] (S) (h) P) : RQ G mL_law d 1667 [x0, x1, x2, x3, x4, x5, x6, x7, x8] (.int v :: S) h P := q_istore (M := mL_law) (pc := 1667) dL_law_1667 (Nat.le_of_ble_eq_true rfl) ho r
theorem tL_law_1669 {k : Nat} (r : RQ G mL_law d 1670 [x0, x1, some (.ref k), x3, x4, x5, x6, x7, x8] (.ref k :: S) (h) P) : RQ G mL_law d 1669 [x0, x1, some (.ref k), x3, x4, x5, x6, x7, x8] (S) h P := q_aload_n (M := mL_law) (pc := 1669) (r0 := some k) dL_law_1669 rfl rfl r
theorem tL_law_1670 {k : Nat} (r : RQ G mL_law d 1671 [some (.ref k), x1, x2, x3, x4, x5, x6, x7, x8] (.ref k :: S) (h) P) : RQ G mL_law d 1670 [some (.ref k), x1, x2, x3, x4, x5, x6, x7, x8] (S) h P := q_aload_n (M := mL_law) (pc := 1670) (r0 := some k) dL_law_1670 rfl rfl r
theorem tL_law_1671 {v : Int32} (r : RQ G mL_law d 1673 [x0, x1, x2, x3, some (.int v), x5, x6, x7, x8] (.int v :: S) (h) P) : RQ G mL_law d 1671 [x0, x1, x2, x3, some (.int v), x5, x6, x7, x8] (S) h P := q_iload (M := mL_law) (pc := 1671) dL_law_1671 rfl r
theorem tL_law_1673 (r : RQ G mL_law d 1674 [x0, x1, x2, x3, x4, x5, x6, x7, x8] (.int (nI 1) :: S) (h) P) : RQ G mL_law d 1673 [x0, x1, x2, x3, x4, x5, x6, x7, x8] (S) h P := q_iconst (M := mL_law) (pc := 1673) dL_law_1673 (by decide) r
theorem tL_law_1674 {x y : Int32} (r : RQ G mL_law d 1675 [x0, x1, x2, x3, x4, x5, x6, x7, x8] (.int (x + y) :: S) (h) P) : RQ G mL_law d 1674 [x0, x1, x2, x3, x4, x5, x6, x7, x8] (.int y :: .int x :: S) h P := q_iadd (M := mL_law) (pc := 1674) dL_law_1674 r
theorem tL_law_1675 {j : Nat} {x : Int32} (hx : x = nI j) (hj : j < gN G) (hn : gN G < 2147483648) (r : RQ G mL_law d 1676 [x0, x1, x2, x3, x4, x5, x6, x7, x8] (.int (gX G j) :: S) (h) P) : RQ G mL_law d 1675 [x0, x1, x2, x3, x4, x5, x6, x7, x8] (.int x :: .ref (OLD + 999) :: S) h P := q_sld (M := mL_law) (pc := 1675) dL_law_1675 hx hj hn r
theorem tL_law_1676 {k : Nat} (r : RQ G mL_law d 1677 [some (.ref k), x1, x2, x3, x4, x5, x6, x7, x8] (.ref k :: S) (h) P) : RQ G mL_law d 1676 [some (.ref k), x1, x2, x3, x4, x5, x6, x7, x8] (S) h P := q_aload_n (M := mL_law) (pc := 1676) (r0 := some k) dL_law_1676 rfl rfl r
theorem tL_law_1677 {v : Int32} (r : RQ G mL_law d 1679 [x0, x1, x2, x3, some (.int v), x5, x6, x7, x8] (.int v :: S) (h) P) : RQ G mL_law d 1677 [x0, x1, x2, x3, some (.int v), x5, x6, x7, x8] (S) h P := q_iload (M := mL_law) (pc := 1677) dL_law_1677 rfl r
theorem tL_law_1679 (r : RQ G mL_law d 1680 [x0, x1, x2, x3, x4, x5, x6, x7, x8] (.int (nI 2) :: S) (h) P) : RQ G mL_law d 1679 [x0, x1, x2, x3, x4, x5, x6, x7, x8] (S) h P := q_iconst (M := mL_law) (pc := 1679) dL_law_1679 (by decide) r
theorem tL_law_1680 {x y : Int32} (r : RQ G mL_law d 1681 [x0, x1, x2, x3, x4, x5, x6, x7, x8] (.int (x + y) :: S) (h) P) : RQ G mL_law d 1680 [x0, x1, x2, x3, x4, x5, x6, x7, x8] (.int y :: .int x :: S) h P := q_iadd (M := mL_law) (pc := 1680) dL_law_1680 r
theorem tL_law_1681 {j : Nat} {x : Int32} (hx : x = nI j) (hj : j < gN G) (hn : gN G < 2147483648) (r : RQ G mL_law d 1682 [x0, x1, x2, x3, x4, x5, x6, x7, x8] (.int (gX G j) :: S) (h) P) : RQ G mL_law d 1681 [x0, x1, x2, x3, x4, x5, x6, x7, x8] (.int x :: .ref (OLD + 999) :: S) h P := q_sld (M := mL_law) (pc := 1681) dL_law_1681 hx hj hn r
theorem tL_law_1682 {b d2 : Nat} {vs : List Value} {a0 : Int32} {a1 : Int32} {Q : Int32 → AH → Prop} (hd : d2 + 1 ≤ d) (ha : At h b (.inr (10, vs))) (call : RQ G mX12_join d2 0 [some (.ref b), some (.int a0), some (.int a1)] [] h (Ri Q)) (k : ∀ x h1, Q x h1 → RQ G mL_law d 1685 [x0, x1, x2, x3, x4, x5, x6, x7, x8] (.int x :: S) h1 P) (hst : (S.map fun v => v.category).sum ≤ 8 := by exact Nat.le_of_ble_eq_true rfl)  : RQ G mL_law d 1682 [x0, x1, x2, x3, x4, x5, x6, x7, x8] (.int a1 :: .int a0 :: .ref b :: S) h P := q_callV (M := mL_law) (pc := 1682) (M2 := mX12_join) (As := [.int a0, .int a1]) (n := 2) dL_law_1682 rfl ⟨by decide, by decide, by decide, rfl⟩ rfl w1888 w1889 w1890 w120 w1891 (show CL[10]? = some (RX12, TX12, 25) from rfl) hd (by decide) (Nat.le_of_ble_eq_true rfl) rfl ha hst call (callk_i k)
theorem tL_law_1685 {v : Int32} (ho : ok1 x5 = true := by rfl) (r : RQ G mL_law d 1687 [x0, x1, x2, x3, x4, x5, some (.int v), x7, x8] (S) (h) P) : RQ G mL_law d 1685 [x0, x1, x2, x3, x4, x5, x6, x7, x8] (.int v :: S) h P := q_istore (M := mL_law) (pc := 1685) dL_law_1685 (Nat.le_of_ble_eq_true rfl) ho r
theorem tL_law_1687 {k : Nat} (r : RQ G mL_law d 1688 [x0, x1, some (.ref k), x3, x4, x5, x6, x7, x8] (.ref k :: S) (h) P) : RQ G mL_law d 1687 [x0, x1, some (.ref k), x3, x4, x5, x6, x7, x8] (S) h P := q_aload_n (M := mL_law) (pc := 1687) (r0 := some k) dL_law_1687 rfl rfl r
theorem tL_law_1688 {b d2 : Nat} {vs : List Value}  {Q : Int32 → AH → Prop} (hd : d2 + 1 ≤ d) (ha : At h b (.inr (10, vs))) (call : RQ G mX12_thrown d2 0 [some (.ref b)] [] h (Ri Q)) (k : ∀ x h1, Q x h1 → RQ G mL_law d 1691 [x0, x1, x2, x3, x4, x5, x6, x7, x8] (.int x :: S) h1 P) (hst : (S.map fun v => v.category).sum ≤ 8 := by exact Nat.le_of_ble_eq_true rfl)  : RQ G mL_law d 1688 [x0, x1, x2, x3, x4, x5, x6, x7, x8] (.ref b :: S) h P := q_callV (M := mL_law) (pc := 1688) (M2 := mX12_thrown) (As := []) (n := 0) dL_law_1688 rfl ⟨by decide, by decide, by decide, rfl⟩ rfl w1499 w1500 w1501 w120 w1502 (show CL[10]? = some (RX12, TX12, 25) from rfl) hd (by decide) (Nat.le_of_ble_eq_true rfl) rfl ha hst call (callk_i k)
theorem tL_law_1691 {v : Int32} (r : RQ G mL_law d 1693 [x0, x1, x2, x3, x4, some (.int v), x6, x7, x8] (.int v :: S) (h) P) : RQ G mL_law d 1691 [x0, x1, x2, x3, x4, some (.int v), x6, x7, x8] (S) h P := q_iload (M := mL_law) (pc := 1691) dL_law_1691 rfl r
theorem tL_law_1693 {x y : Int32} (kt : x = y → RQ G mL_law d 1698 [x0, x1, x2, x3, x4, x5, x6, x7, x8] S h P) (kf : ¬ x = y → RQ G mL_law d 1696 [x0, x1, x2, x3, x4, x5, x6, x7, x8] S h P) : RQ G mL_law d 1693 [x0, x1, x2, x3, x4, x5, x6, x7, x8] (.int y :: .int x :: S) h P := q_icmp_eq (M := mL_law) (pc := 1693) dL_law_1693 (by decide) kt kf
theorem tL_law_1696 (r : RQ G mL_law d 1697 [x0, x1, x2, x3, x4, x5, x6, x7, x8] (.int (nI 0) :: S) (h) P) : RQ G mL_law d 1696 [x0, x1, x2, x3, x4, x5, x6, x7, x8] (S) h P := q_iconst (M := mL_law) (pc := 1696) dL_law_1696 (by decide) r
theorem tL_law_1697 {x : Int32} (hb : x = nI 0 ∨ x = nI 1) (hP : P (.inl (some (.int x))) h) : RQ G mL_law d 1697 [x0, x1, x2, x3, x4, x5, x6, x7, x8] ([.int x]) h P := q_ireturn (M := mL_law) (pc := 1697) (ty := .boolean) dL_law_1697 rfl (nar_bool hb) hP
theorem tL_law_1698 {v : Int32} (r : RQ G mL_law d 1700 [x0, x1, x2, x3, x4, some (.int v), x6, x7, x8] (.int v :: S) (h) P) : RQ G mL_law d 1698 [x0, x1, x2, x3, x4, some (.int v), x6, x7, x8] (S) h P := q_iload (M := mL_law) (pc := 1698) dL_law_1698 rfl r
theorem tL_law_1700 {x : Int32} (kt : ¬ x = 0 → RQ G mL_law d 1715 [x0, x1, x2, x3, x4, x5, x6, x7, x8] S h P) (kf : x = 0 → RQ G mL_law d 1703 [x0, x1, x2, x3, x4, x5, x6, x7, x8] S h P) : RQ G mL_law d 1700 [x0, x1, x2, x3, x4, x5, x6, x7, x8] (.int x :: S) h P := q_if_ne (M := mL_law) (pc := 1700) dL_law_1700 (by decide) kt kf
theorem tL_law_1703 {k : Nat} (r : RQ G mL_law d 1704 [x0, x1, x2, some (.ref k), x4, x5, x6, x7, x8] (.ref k :: S) (h) P) : RQ G mL_law d 1703 [x0, x1, x2, some (.ref k), x4, x5, x6, x7, x8] (S) h P := q_aload_n (M := mL_law) (pc := 1703) (r0 := some k) dL_law_1703 rfl rfl r
theorem tL_law_1704 (r : RQ G mL_law d 1705 [x0, x1, x2, x3, x4, x5, x6, x7, x8] (.int (nI 0) :: S) (h) P) : RQ G mL_law d 1704 [x0, x1, x2, x3, x4, x5, x6, x7, x8] (S) h P := q_iconst (M := mL_law) (pc := 1704) dL_law_1704 (by decide) r
theorem tL_law_1705 {a n j : Nat} {x : Int32} {f : Nat → Int64} (ha : At h a (.inl (2, n, .inr (.inl f)))) (hx : x = nI j) (hj : j < n) (hn : n < 2147483648) (r : RQ G mL_law d 1706 [x0, x1, x2, x3, x4, x5, x6, x7, x8] (.long (f j) :: S) (h) P) : RQ G mL_law d 1705 [x0, x1, x2, x3, x4, x5, x6, x7, x8] (.int x :: .ref a :: S) h P := q_lald (M := mL_law) (pc := 1705) dL_law_1705 ha hx hj hn r
theorem tL_law_1706 {v : Int32} (r : RQ G mL_law d 1708 [x0, x1, x2, x3, x4, x5, some (.int v), x7, x8] (.int v :: S) (h) P) : RQ G mL_law d 1706 [x0, x1, x2, x3, x4, x5, some (.int v), x7, x8] (S) h P := q_iload (M := mL_law) (pc := 1706) dL_law_1706 rfl r
theorem tL_law_1708 {x : Int32} (r : RQ G mL_law d 1709 [x0, x1, x2, x3, x4, x5, x6, x7, x8] (.long x.toInt64 :: S) (h) P) : RQ G mL_law d 1708 [x0, x1, x2, x3, x4, x5, x6, x7, x8] (.int x :: S) h P := q_i2l (M := mL_law) (pc := 1708) dL_law_1708 r
theorem tL_law_1709 {x y : Int64} (r : RQ G mL_law d 1710 [x0, x1, x2, x3, x4, x5, x6, x7, x8] (.int (lg_cmp x y) :: S) (h) P) : RQ G mL_law d 1709 [x0, x1, x2, x3, x4, x5, x6, x7, x8] (.long y :: .long x :: S) h P := q_lcmp (M := mL_law) (pc := 1709) dL_law_1709 r
theorem tL_law_1710 {x : Int32} (kt : x = 0 → RQ G mL_law d 1715 [x0, x1, x2, x3, x4, x5, x6, x7, x8] S h P) (kf : ¬ x = 0 → RQ G mL_law d 1713 [x0, x1, x2, x3, x4, x5, x6, x7, x8] S h P) : RQ G mL_law d 1710 [x0, x1, x2, x3, x4, x5, x6, x7, x8] (.int x :: S) h P := q_if_eq (M := mL_law) (pc := 1710) dL_law_1710 (by decide) kt kf
theorem tL_law_1713 (r : RQ G mL_law d 1714 [x0, x1, x2, x3, x4, x5, x6, x7, x8] (.int (nI 0) :: S) (h) P) : RQ G mL_law d 1713 [x0, x1, x2, x3, x4, x5, x6, x7, x8] (S) h P := q_iconst (M := mL_law) (pc := 1713) dL_law_1713 (by decide) r
theorem tL_law_1714 {x : Int32} (hb : x = nI 0 ∨ x = nI 1) (hP : P (.inl (some (.int x))) h) : RQ G mL_law d 1714 [x0, x1, x2, x3, x4, x5, x6, x7, x8] ([.int x]) h P := q_ireturn (M := mL_law) (pc := 1714) (ty := .boolean) dL_law_1714 rfl (nar_bool hb) hP
theorem tL_law_1715 (r : RQ G mL_law d 2189 [x0, x1, x2, x3, x4, x5, x6, x7, x8] S h P) : RQ G mL_law d 1715 [x0, x1, x2, x3, x4, x5, x6, x7, x8] (S) h P := q_goto (M := mL_law) (pc := 1715) dL_law_1715 (by decide) r
theorem tL_law_1718 {k : Nat} (r : RQ G mL_law d 1719 [x0, some (.ref k), x2, x3, x4, x5, x6, x7, x8] (.ref k :: S) (h) P) : RQ G mL_law d 1718 [x0, some (.ref k), x2, x3, x4, x5, x6, x7, x8] (S) h P := q_aload_n (M := mL_law) (pc := 1718) (r0 := some k) dL_law_1718 rfl rfl r
theorem tL_law_1719 {k : Nat} (r : RQ G mL_law d 1720 [some (.ref k), x1, x2, x3, x4, x5, x6, x7, x8] (.ref k :: S) (h) P) : RQ G mL_law d 1719 [some (.ref k), x1, x2, x3, x4, x5, x6, x7, x8] (S) h P := q_aload_n (M := mL_law) (pc := 1719) (r0 := some k) dL_law_1719 rfl rfl r
theorem tL_law_1720 {v : Int32} (r : RQ G mL_law d 1722 [x0, x1, x2, x3, some (.int v), x5, x6, x7, x8] (.int v :: S) (h) P) : RQ G mL_law d 1720 [x0, x1, x2, x3, some (.int v), x5, x6, x7, x8] (S) h P := q_iload (M := mL_law) (pc := 1720) dL_law_1720 rfl r
theorem tL_law_1722 (r : RQ G mL_law d 1723 [x0, x1, x2, x3, x4, x5, x6, x7, x8] (.int (nI 1) :: S) (h) P) : RQ G mL_law d 1722 [x0, x1, x2, x3, x4, x5, x6, x7, x8] (S) h P := q_iconst (M := mL_law) (pc := 1722) dL_law_1722 (by decide) r
theorem tL_law_1723 {x y : Int32} (r : RQ G mL_law d 1724 [x0, x1, x2, x3, x4, x5, x6, x7, x8] (.int (x + y) :: S) (h) P) : RQ G mL_law d 1723 [x0, x1, x2, x3, x4, x5, x6, x7, x8] (.int y :: .int x :: S) h P := q_iadd (M := mL_law) (pc := 1723) dL_law_1723 r
theorem tL_law_1724 {j : Nat} {x : Int32} (hx : x = nI j) (hj : j < gN G) (hn : gN G < 2147483648) (r : RQ G mL_law d 1725 [x0, x1, x2, x3, x4, x5, x6, x7, x8] (.int (gX G j) :: S) (h) P) : RQ G mL_law d 1724 [x0, x1, x2, x3, x4, x5, x6, x7, x8] (.int x :: .ref (OLD + 999) :: S) h P := q_sld (M := mL_law) (pc := 1724) dL_law_1724 hx hj hn r
theorem tL_law_1725 {k : Nat} (r : RQ G mL_law d 1726 [x0, x1, x2, some (.ref k), x4, x5, x6, x7, x8] (.ref k :: S) (h) P) : RQ G mL_law d 1725 [x0, x1, x2, some (.ref k), x4, x5, x6, x7, x8] (S) h P := q_aload_n (M := mL_law) (pc := 1725) (r0 := some k) dL_law_1725 rfl rfl r
theorem tL_law_1726 {d2 : Nat} {a0 : Nat} {a1 : Int32} {a2 : Nat} {Q : Int32 → AH → Prop} (hd : d2 + 1 ≤ d) (call : RQ G mL_leave d2 0 [some (.ref a0), some (.int a1), some (.ref a2), none] [] h (Ri Q)) (k : ∀ x h1, Q x h1 → RQ G mL_law d 1729 [x0, x1, x2, x3, x4, x5, x6, x7, x8] (.int x :: S) h1 P) (hst : (S.map fun v => v.category).sum ≤ 8 := by exact Nat.le_of_ble_eq_true rfl)  : RQ G mL_law d 1726 [x0, x1, x2, x3, x4, x5, x6, x7, x8] (.ref a2 :: .int a1 :: .ref a0 :: S) h P := q_callSW (M := mL_law) (pc := 1726) (M2 := mL_leave) (As := [.ref a0, .int a1, .ref a2]) (n := 3) dL_law_1726 ⟨by decide, by decide, by decide, rfl⟩ w1258 w1259 w108 w1260 hd (by decide) (Nat.le_of_ble_eq_true rfl) rfl hst call (callk_i k)
theorem tL_law_1729 {v : Int32} (ho : ok1 x4 = true := by rfl) (r : RQ G mL_law d 1731 [x0, x1, x2, x3, x4, some (.int v), x6, x7, x8] (S) (h) P) : RQ G mL_law d 1729 [x0, x1, x2, x3, x4, x5, x6, x7, x8] (.int v :: S) h P := q_istore (M := mL_law) (pc := 1729) dL_law_1729 (Nat.le_of_ble_eq_true rfl) ho r
theorem tL_law_1731 {k : Nat} (r : RQ G mL_law d 1732 [x0, x1, some (.ref k), x3, x4, x5, x6, x7, x8] (.ref k :: S) (h) P) : RQ G mL_law d 1731 [x0, x1, some (.ref k), x3, x4, x5, x6, x7, x8] (S) h P := q_aload_n (M := mL_law) (pc := 1731) (r0 := some k) dL_law_1731 rfl rfl r
theorem tL_law_1732 {k : Nat} (r : RQ G mL_law d 1733 [some (.ref k), x1, x2, x3, x4, x5, x6, x7, x8] (.ref k :: S) (h) P) : RQ G mL_law d 1732 [some (.ref k), x1, x2, x3, x4, x5, x6, x7, x8] (S) h P := q_aload_n (M := mL_law) (pc := 1732) (r0 := some k) dL_law_1732 rfl rfl r
theorem tL_law_1733 {v : Int32} (r : RQ G mL_law d 1735 [x0, x1, x2, x3, some (.int v), x5, x6, x7, x8] (.int v :: S) (h) P) : RQ G mL_law d 1733 [x0, x1, x2, x3, some (.int v), x5, x6, x7, x8] (S) h P := q_iload (M := mL_law) (pc := 1733) dL_law_1733 rfl r
theorem tL_law_1735 (r : RQ G mL_law d 1736 [x0, x1, x2, x3, x4, x5, x6, x7, x8] (.int (nI 1) :: S) (h) P) : RQ G mL_law d 1735 [x0, x1, x2, x3, x4, x5, x6, x7, x8] (S) h P := q_iconst (M := mL_law) (pc := 1735) dL_law_1735 (by decide) r
theorem tL_law_1736 {x y : Int32} (r : RQ G mL_law d 1737 [x0, x1, x2, x3, x4, x5, x6, x7, x8] (.int (x + y) :: S) (h) P) : RQ G mL_law d 1736 [x0, x1, x2, x3, x4, x5, x6, x7, x8] (.int y :: .int x :: S) h P := q_iadd (M := mL_law) (pc := 1736) dL_law_1736 r
theorem tL_law_1737 {j : Nat} {x : Int32} (hx : x = nI j) (hj : j < gN G) (hn : gN G < 2147483648) (r : RQ G mL_law d 1738 [x0, x1, x2, x3, x4, x5, x6, x7, x8] (.int (gX G j) :: S) (h) P) : RQ G mL_law d 1737 [x0, x1, x2, x3, x4, x5, x6, x7, x8] (.int x :: .ref (OLD + 999) :: S) h P := q_sld (M := mL_law) (pc := 1737) dL_law_1737 hx hj hn r
theorem tL_law_1738 {b d2 : Nat} {vs : List Value} {a0 : Int32} {Q : Int32 → AH → Prop} (hd : d2 + 1 ≤ d) (ha : At h b (.inr (10, vs))) (call : RQ G mX12_leave d2 0 [some (.ref b), some (.int a0), none] [] h (Ri Q)) (k : ∀ x h1, Q x h1 → RQ G mL_law d 1741 [x0, x1, x2, x3, x4, x5, x6, x7, x8] (.int x :: S) h1 P) (hst : (S.map fun v => v.category).sum ≤ 8 := by exact Nat.le_of_ble_eq_true rfl)  : RQ G mL_law d 1738 [x0, x1, x2, x3, x4, x5, x6, x7, x8] (.int a0 :: .ref b :: S) h P := q_callV (M := mL_law) (pc := 1738) (M2 := mX12_leave) (As := [.int a0]) (n := 1) dL_law_1738 rfl ⟨by decide, by decide, by decide, rfl⟩ rfl w1896 w1897 w1898 w120 w1899 (show CL[10]? = some (RX12, TX12, 25) from rfl) hd (by decide) (Nat.le_of_ble_eq_true rfl) rfl ha hst call (callk_i k)
theorem tL_law_1741 {v : Int32} (ho : ok1 x5 = true := by rfl) (r : RQ G mL_law d 1743 [x0, x1, x2, x3, x4, x5, some (.int v), x7, x8] (S) (h) P) : RQ G mL_law d 1741 [x0, x1, x2, x3, x4, x5, x6, x7, x8] (.int v :: S) h P := q_istore (M := mL_law) (pc := 1741) dL_law_1741 (Nat.le_of_ble_eq_true rfl) ho r
theorem tL_law_1743 {k : Nat} (r : RQ G mL_law d 1744 [x0, x1, some (.ref k), x3, x4, x5, x6, x7, x8] (.ref k :: S) (h) P) : RQ G mL_law d 1743 [x0, x1, some (.ref k), x3, x4, x5, x6, x7, x8] (S) h P := q_aload_n (M := mL_law) (pc := 1743) (r0 := some k) dL_law_1743 rfl rfl r
theorem tL_law_1744 {b d2 : Nat} {vs : List Value}  {Q : Int32 → AH → Prop} (hd : d2 + 1 ≤ d) (ha : At h b (.inr (10, vs))) (call : RQ G mX12_thrown d2 0 [some (.ref b)] [] h (Ri Q)) (k : ∀ x h1, Q x h1 → RQ G mL_law d 1747 [x0, x1, x2, x3, x4, x5, x6, x7, x8] (.int x :: S) h1 P) (hst : (S.map fun v => v.category).sum ≤ 8 := by exact Nat.le_of_ble_eq_true rfl)  : RQ G mL_law d 1744 [x0, x1, x2, x3, x4, x5, x6, x7, x8] (.ref b :: S) h P := q_callV (M := mL_law) (pc := 1744) (M2 := mX12_thrown) (As := []) (n := 0) dL_law_1744 rfl ⟨by decide, by decide, by decide, rfl⟩ rfl w1499 w1500 w1501 w120 w1502 (show CL[10]? = some (RX12, TX12, 25) from rfl) hd (by decide) (Nat.le_of_ble_eq_true rfl) rfl ha hst call (callk_i k)
theorem tL_law_1747 {v : Int32} (r : RQ G mL_law d 1749 [x0, x1, x2, x3, x4, some (.int v), x6, x7, x8] (.int v :: S) (h) P) : RQ G mL_law d 1747 [x0, x1, x2, x3, x4, some (.int v), x6, x7, x8] (S) h P := q_iload (M := mL_law) (pc := 1747) dL_law_1747 rfl r
theorem tL_law_1749 {x y : Int32} (kt : x = y → RQ G mL_law d 1754 [x0, x1, x2, x3, x4, x5, x6, x7, x8] S h P) (kf : ¬ x = y → RQ G mL_law d 1752 [x0, x1, x2, x3, x4, x5, x6, x7, x8] S h P) : RQ G mL_law d 1749 [x0, x1, x2, x3, x4, x5, x6, x7, x8] (.int y :: .int x :: S) h P := q_icmp_eq (M := mL_law) (pc := 1749) dL_law_1749 (by decide) kt kf
theorem tL_law_1752 (r : RQ G mL_law d 1753 [x0, x1, x2, x3, x4, x5, x6, x7, x8] (.int (nI 0) :: S) (h) P) : RQ G mL_law d 1752 [x0, x1, x2, x3, x4, x5, x6, x7, x8] (S) h P := q_iconst (M := mL_law) (pc := 1752) dL_law_1752 (by decide) r
theorem tL_law_1753 {x : Int32} (hb : x = nI 0 ∨ x = nI 1) (hP : P (.inl (some (.int x))) h) : RQ G mL_law d 1753 [x0, x1, x2, x3, x4, x5, x6, x7, x8] ([.int x]) h P := q_ireturn (M := mL_law) (pc := 1753) (ty := .boolean) dL_law_1753 rfl (nar_bool hb) hP
theorem tL_law_1754 {v : Int32} (r : RQ G mL_law d 1756 [x0, x1, x2, x3, x4, some (.int v), x6, x7, x8] (.int v :: S) (h) P) : RQ G mL_law d 1754 [x0, x1, x2, x3, x4, some (.int v), x6, x7, x8] (S) h P := q_iload (M := mL_law) (pc := 1754) dL_law_1754 rfl r
theorem tL_law_1756 {x : Int32} (kt : ¬ x = 0 → RQ G mL_law d 1771 [x0, x1, x2, x3, x4, x5, x6, x7, x8] S h P) (kf : x = 0 → RQ G mL_law d 1759 [x0, x1, x2, x3, x4, x5, x6, x7, x8] S h P) : RQ G mL_law d 1756 [x0, x1, x2, x3, x4, x5, x6, x7, x8] (.int x :: S) h P := q_if_ne (M := mL_law) (pc := 1756) dL_law_1756 (by decide) kt kf
theorem tL_law_1759 {k : Nat} (r : RQ G mL_law d 1760 [x0, x1, x2, some (.ref k), x4, x5, x6, x7, x8] (.ref k :: S) (h) P) : RQ G mL_law d 1759 [x0, x1, x2, some (.ref k), x4, x5, x6, x7, x8] (S) h P := q_aload_n (M := mL_law) (pc := 1759) (r0 := some k) dL_law_1759 rfl rfl r
theorem tL_law_1760 (r : RQ G mL_law d 1761 [x0, x1, x2, x3, x4, x5, x6, x7, x8] (.int (nI 0) :: S) (h) P) : RQ G mL_law d 1760 [x0, x1, x2, x3, x4, x5, x6, x7, x8] (S) h P := q_iconst (M := mL_law) (pc := 1760) dL_law_1760 (by decide) r
theorem tL_law_1761 {a n j : Nat} {x : Int32} {f : Nat → Int64} (ha : At h a (.inl (2, n, .inr (.inl f)))) (hx : x = nI j) (hj : j < n) (hn : n < 2147483648) (r : RQ G mL_law d 1762 [x0, x1, x2, x3, x4, x5, x6, x7, x8] (.long (f j) :: S) (h) P) : RQ G mL_law d 1761 [x0, x1, x2, x3, x4, x5, x6, x7, x8] (.int x :: .ref a :: S) h P := q_lald (M := mL_law) (pc := 1761) dL_law_1761 ha hx hj hn r
theorem tL_law_1762 {v : Int32} (r : RQ G mL_law d 1764 [x0, x1, x2, x3, x4, x5, some (.int v), x7, x8] (.int v :: S) (h) P) : RQ G mL_law d 1762 [x0, x1, x2, x3, x4, x5, some (.int v), x7, x8] (S) h P := q_iload (M := mL_law) (pc := 1762) dL_law_1762 rfl r
theorem tL_law_1764 {x : Int32} (r : RQ G mL_law d 1765 [x0, x1, x2, x3, x4, x5, x6, x7, x8] (.long x.toInt64 :: S) (h) P) : RQ G mL_law d 1764 [x0, x1, x2, x3, x4, x5, x6, x7, x8] (.int x :: S) h P := q_i2l (M := mL_law) (pc := 1764) dL_law_1764 r
theorem tL_law_1765 {x y : Int64} (r : RQ G mL_law d 1766 [x0, x1, x2, x3, x4, x5, x6, x7, x8] (.int (lg_cmp x y) :: S) (h) P) : RQ G mL_law d 1765 [x0, x1, x2, x3, x4, x5, x6, x7, x8] (.long y :: .long x :: S) h P := q_lcmp (M := mL_law) (pc := 1765) dL_law_1765 r
theorem tL_law_1766 {x : Int32} (kt : x = 0 → RQ G mL_law d 1771 [x0, x1, x2, x3, x4, x5, x6, x7, x8] S h P) (kf : ¬ x = 0 → RQ G mL_law d 1769 [x0, x1, x2, x3, x4, x5, x6, x7, x8] S h P) : RQ G mL_law d 1766 [x0, x1, x2, x3, x4, x5, x6, x7, x8] (.int x :: S) h P := q_if_eq (M := mL_law) (pc := 1766) dL_law_1766 (by decide) kt kf
theorem tL_law_1769 (r : RQ G mL_law d 1770 [x0, x1, x2, x3, x4, x5, x6, x7, x8] (.int (nI 0) :: S) (h) P) : RQ G mL_law d 1769 [x0, x1, x2, x3, x4, x5, x6, x7, x8] (S) h P := q_iconst (M := mL_law) (pc := 1769) dL_law_1769 (by decide) r
theorem tL_law_1770 {x : Int32} (hb : x = nI 0 ∨ x = nI 1) (hP : P (.inl (some (.int x))) h) : RQ G mL_law d 1770 [x0, x1, x2, x3, x4, x5, x6, x7, x8] ([.int x]) h P := q_ireturn (M := mL_law) (pc := 1770) (ty := .boolean) dL_law_1770 rfl (nar_bool hb) hP
theorem tL_law_1771 (r : RQ G mL_law d 2189 [x0, x1, x2, x3, x4, x5, x6, x7, x8] S h P) : RQ G mL_law d 1771 [x0, x1, x2, x3, x4, x5, x6, x7, x8] (S) h P := q_goto (M := mL_law) (pc := 1771) dL_law_1771 (by decide) r
theorem tL_law_1774 {k : Nat} (r : RQ G mL_law d 1775 [x0, some (.ref k), x2, x3, x4, x5, x6, x7, x8] (.ref k :: S) (h) P) : RQ G mL_law d 1774 [x0, some (.ref k), x2, x3, x4, x5, x6, x7, x8] (S) h P := q_aload_n (M := mL_law) (pc := 1774) (r0 := some k) dL_law_1774 rfl rfl r
theorem tL_law_1775 {k : Nat} (r : RQ G mL_law d 1776 [some (.ref k), x1, x2, x3, x4, x5, x6, x7, x8] (.ref k :: S) (h) P) : RQ G mL_law d 1775 [some (.ref k), x1, x2, x3, x4, x5, x6, x7, x8] (S) h P := q_aload_n (M := mL_law) (pc := 1775) (r0 := some k) dL_law_1775 rfl rfl r
theorem tL_law_1776 {v : Int32} (r : RQ G mL_law d 1778 [x0, x1, x2, x3, some (.int v), x5, x6, x7, x8] (.int v :: S) (h) P) : RQ G mL_law d 1776 [x0, x1, x2, x3, some (.int v), x5, x6, x7, x8] (S) h P := q_iload (M := mL_law) (pc := 1776) dL_law_1776 rfl r
theorem tL_law_1778 (r : RQ G mL_law d 1779 [x0, x1, x2, x3, x4, x5, x6, x7, x8] (.int (nI 1) :: S) (h) P) : RQ G mL_law d 1778 [x0, x1, x2, x3, x4, x5, x6, x7, x8] (S) h P := q_iconst (M := mL_law) (pc := 1778) dL_law_1778 (by decide) r
theorem tL_law_1779 {x y : Int32} (r : RQ G mL_law d 1780 [x0, x1, x2, x3, x4, x5, x6, x7, x8] (.int (x + y) :: S) (h) P) : RQ G mL_law d 1779 [x0, x1, x2, x3, x4, x5, x6, x7, x8] (.int y :: .int x :: S) h P := q_iadd (M := mL_law) (pc := 1779) dL_law_1779 r
theorem tL_law_1780 {j : Nat} {x : Int32} (hx : x = nI j) (hj : j < gN G) (hn : gN G < 2147483648) (r : RQ G mL_law d 1781 [x0, x1, x2, x3, x4, x5, x6, x7, x8] (.int (gX G j) :: S) (h) P) : RQ G mL_law d 1780 [x0, x1, x2, x3, x4, x5, x6, x7, x8] (.int x :: .ref (OLD + 999) :: S) h P := q_sld (M := mL_law) (pc := 1780) dL_law_1780 hx hj hn r
theorem tL_law_1781 {k : Nat} (r : RQ G mL_law d 1782 [x0, x1, x2, some (.ref k), x4, x5, x6, x7, x8] (.ref k :: S) (h) P) : RQ G mL_law d 1781 [x0, x1, x2, some (.ref k), x4, x5, x6, x7, x8] (S) h P := q_aload_n (M := mL_law) (pc := 1781) (r0 := some k) dL_law_1781 rfl rfl r
theorem tL_law_1782 {d2 : Nat} {a0 : Nat} {a1 : Int32} {a2 : Nat} {Q : Int32 → AH → Prop} (hd : d2 + 1 ≤ d) (call : RQ G mL_pass d2 0 [some (.ref a0), some (.int a1), some (.ref a2), none] [] h (Ri Q)) (k : ∀ x h1, Q x h1 → RQ G mL_law d 1785 [x0, x1, x2, x3, x4, x5, x6, x7, x8] (.int x :: S) h1 P) (hst : (S.map fun v => v.category).sum ≤ 8 := by exact Nat.le_of_ble_eq_true rfl)  : RQ G mL_law d 1782 [x0, x1, x2, x3, x4, x5, x6, x7, x8] (.ref a2 :: .int a1 :: .ref a0 :: S) h P := q_callSW (M := mL_law) (pc := 1782) (M2 := mL_pass) (As := [.ref a0, .int a1, .ref a2]) (n := 3) dL_law_1782 ⟨by decide, by decide, by decide, rfl⟩ w1265 w1266 w108 w1267 hd (by decide) (Nat.le_of_ble_eq_true rfl) rfl hst call (callk_i k)
theorem tL_law_1785 {v : Int32} (ho : ok1 x4 = true := by rfl) (r : RQ G mL_law d 1787 [x0, x1, x2, x3, x4, some (.int v), x6, x7, x8] (S) (h) P) : RQ G mL_law d 1785 [x0, x1, x2, x3, x4, x5, x6, x7, x8] (.int v :: S) h P := q_istore (M := mL_law) (pc := 1785) dL_law_1785 (Nat.le_of_ble_eq_true rfl) ho r
theorem tL_law_1787 {k : Nat} (r : RQ G mL_law d 1788 [x0, x1, some (.ref k), x3, x4, x5, x6, x7, x8] (.ref k :: S) (h) P) : RQ G mL_law d 1787 [x0, x1, some (.ref k), x3, x4, x5, x6, x7, x8] (S) h P := q_aload_n (M := mL_law) (pc := 1787) (r0 := some k) dL_law_1787 rfl rfl r
theorem tL_law_1788 {k : Nat} (r : RQ G mL_law d 1789 [some (.ref k), x1, x2, x3, x4, x5, x6, x7, x8] (.ref k :: S) (h) P) : RQ G mL_law d 1788 [some (.ref k), x1, x2, x3, x4, x5, x6, x7, x8] (S) h P := q_aload_n (M := mL_law) (pc := 1788) (r0 := some k) dL_law_1788 rfl rfl r
theorem tL_law_1789 {v : Int32} (r : RQ G mL_law d 1791 [x0, x1, x2, x3, some (.int v), x5, x6, x7, x8] (.int v :: S) (h) P) : RQ G mL_law d 1789 [x0, x1, x2, x3, some (.int v), x5, x6, x7, x8] (S) h P := q_iload (M := mL_law) (pc := 1789) dL_law_1789 rfl r
theorem tL_law_1791 (r : RQ G mL_law d 1792 [x0, x1, x2, x3, x4, x5, x6, x7, x8] (.int (nI 1) :: S) (h) P) : RQ G mL_law d 1791 [x0, x1, x2, x3, x4, x5, x6, x7, x8] (S) h P := q_iconst (M := mL_law) (pc := 1791) dL_law_1791 (by decide) r
theorem tL_law_1792 {x y : Int32} (r : RQ G mL_law d 1793 [x0, x1, x2, x3, x4, x5, x6, x7, x8] (.int (x + y) :: S) (h) P) : RQ G mL_law d 1792 [x0, x1, x2, x3, x4, x5, x6, x7, x8] (.int y :: .int x :: S) h P := q_iadd (M := mL_law) (pc := 1792) dL_law_1792 r
theorem tL_law_1793 {j : Nat} {x : Int32} (hx : x = nI j) (hj : j < gN G) (hn : gN G < 2147483648) (r : RQ G mL_law d 1794 [x0, x1, x2, x3, x4, x5, x6, x7, x8] (.int (gX G j) :: S) (h) P) : RQ G mL_law d 1793 [x0, x1, x2, x3, x4, x5, x6, x7, x8] (.int x :: .ref (OLD + 999) :: S) h P := q_sld (M := mL_law) (pc := 1793) dL_law_1793 hx hj hn r
theorem tL_law_1794 {b d2 : Nat} {vs : List Value} {a0 : Int32} {Q : Int32 → AH → Prop} (hd : d2 + 1 ≤ d) (ha : At h b (.inr (10, vs))) (call : RQ G mX12_pass d2 0 [some (.ref b), some (.int a0), none, none] [] h (Ri Q)) (k : ∀ x h1, Q x h1 → RQ G mL_law d 1797 [x0, x1, x2, x3, x4, x5, x6, x7, x8] (.int x :: S) h1 P) (hst : (S.map fun v => v.category).sum ≤ 8 := by exact Nat.le_of_ble_eq_true rfl)  : RQ G mL_law d 1794 [x0, x1, x2, x3, x4, x5, x6, x7, x8] (.int a0 :: .ref b :: S) h P := q_callV (M := mL_law) (pc := 1794) (M2 := mX12_pass) (As := [.int a0]) (n := 1) dL_law_1794 rfl ⟨by decide, by decide, by decide, rfl⟩ rfl w1900 w1901 w1902 w120 w1903 (show CL[10]? = some (RX12, TX12, 25) from rfl) hd (by decide) (Nat.le_of_ble_eq_true rfl) rfl ha hst call (callk_i k)
theorem tL_law_1797 {v : Int32} (ho : ok1 x5 = true := by rfl) (r : RQ G mL_law d 1799 [x0, x1, x2, x3, x4, x5, some (.int v), x7, x8] (S) (h) P) : RQ G mL_law d 1797 [x0, x1, x2, x3, x4, x5, x6, x7, x8] (.int v :: S) h P := q_istore (M := mL_law) (pc := 1797) dL_law_1797 (Nat.le_of_ble_eq_true rfl) ho r
theorem tL_law_1799 {k : Nat} (r : RQ G mL_law d 1800 [x0, x1, some (.ref k), x3, x4, x5, x6, x7, x8] (.ref k :: S) (h) P) : RQ G mL_law d 1799 [x0, x1, some (.ref k), x3, x4, x5, x6, x7, x8] (S) h P := q_aload_n (M := mL_law) (pc := 1799) (r0 := some k) dL_law_1799 rfl rfl r
theorem tL_law_1800 {b d2 : Nat} {vs : List Value}  {Q : Int32 → AH → Prop} (hd : d2 + 1 ≤ d) (ha : At h b (.inr (10, vs))) (call : RQ G mX12_thrown d2 0 [some (.ref b)] [] h (Ri Q)) (k : ∀ x h1, Q x h1 → RQ G mL_law d 1803 [x0, x1, x2, x3, x4, x5, x6, x7, x8] (.int x :: S) h1 P) (hst : (S.map fun v => v.category).sum ≤ 8 := by exact Nat.le_of_ble_eq_true rfl)  : RQ G mL_law d 1800 [x0, x1, x2, x3, x4, x5, x6, x7, x8] (.ref b :: S) h P := q_callV (M := mL_law) (pc := 1800) (M2 := mX12_thrown) (As := []) (n := 0) dL_law_1800 rfl ⟨by decide, by decide, by decide, rfl⟩ rfl w1499 w1500 w1501 w120 w1502 (show CL[10]? = some (RX12, TX12, 25) from rfl) hd (by decide) (Nat.le_of_ble_eq_true rfl) rfl ha hst call (callk_i k)
theorem tL_law_1803 {v : Int32} (r : RQ G mL_law d 1805 [x0, x1, x2, x3, x4, some (.int v), x6, x7, x8] (.int v :: S) (h) P) : RQ G mL_law d 1803 [x0, x1, x2, x3, x4, some (.int v), x6, x7, x8] (S) h P := q_iload (M := mL_law) (pc := 1803) dL_law_1803 rfl r
theorem tL_law_1805 {x y : Int32} (kt : x = y → RQ G mL_law d 1810 [x0, x1, x2, x3, x4, x5, x6, x7, x8] S h P) (kf : ¬ x = y → RQ G mL_law d 1808 [x0, x1, x2, x3, x4, x5, x6, x7, x8] S h P) : RQ G mL_law d 1805 [x0, x1, x2, x3, x4, x5, x6, x7, x8] (.int y :: .int x :: S) h P := q_icmp_eq (M := mL_law) (pc := 1805) dL_law_1805 (by decide) kt kf
theorem tL_law_1808 (r : RQ G mL_law d 1809 [x0, x1, x2, x3, x4, x5, x6, x7, x8] (.int (nI 0) :: S) (h) P) : RQ G mL_law d 1808 [x0, x1, x2, x3, x4, x5, x6, x7, x8] (S) h P := q_iconst (M := mL_law) (pc := 1808) dL_law_1808 (by decide) r
theorem tL_law_1809 {x : Int32} (hb : x = nI 0 ∨ x = nI 1) (hP : P (.inl (some (.int x))) h) : RQ G mL_law d 1809 [x0, x1, x2, x3, x4, x5, x6, x7, x8] ([.int x]) h P := q_ireturn (M := mL_law) (pc := 1809) (ty := .boolean) dL_law_1809 rfl (nar_bool hb) hP
theorem tL_law_1810 {v : Int32} (r : RQ G mL_law d 1812 [x0, x1, x2, x3, x4, some (.int v), x6, x7, x8] (.int v :: S) (h) P) : RQ G mL_law d 1810 [x0, x1, x2, x3, x4, some (.int v), x6, x7, x8] (S) h P := q_iload (M := mL_law) (pc := 1810) dL_law_1810 rfl r
theorem tL_law_1812 {x : Int32} (kt : ¬ x = 0 → RQ G mL_law d 1827 [x0, x1, x2, x3, x4, x5, x6, x7, x8] S h P) (kf : x = 0 → RQ G mL_law d 1815 [x0, x1, x2, x3, x4, x5, x6, x7, x8] S h P) : RQ G mL_law d 1812 [x0, x1, x2, x3, x4, x5, x6, x7, x8] (.int x :: S) h P := q_if_ne (M := mL_law) (pc := 1812) dL_law_1812 (by decide) kt kf
theorem tL_law_1815 {k : Nat} (r : RQ G mL_law d 1816 [x0, x1, x2, some (.ref k), x4, x5, x6, x7, x8] (.ref k :: S) (h) P) : RQ G mL_law d 1815 [x0, x1, x2, some (.ref k), x4, x5, x6, x7, x8] (S) h P := q_aload_n (M := mL_law) (pc := 1815) (r0 := some k) dL_law_1815 rfl rfl r
theorem tL_law_1816 (r : RQ G mL_law d 1817 [x0, x1, x2, x3, x4, x5, x6, x7, x8] (.int (nI 0) :: S) (h) P) : RQ G mL_law d 1816 [x0, x1, x2, x3, x4, x5, x6, x7, x8] (S) h P := q_iconst (M := mL_law) (pc := 1816) dL_law_1816 (by decide) r
theorem tL_law_1817 {a n j : Nat} {x : Int32} {f : Nat → Int64} (ha : At h a (.inl (2, n, .inr (.inl f)))) (hx : x = nI j) (hj : j < n) (hn : n < 2147483648) (r : RQ G mL_law d 1818 [x0, x1, x2, x3, x4, x5, x6, x7, x8] (.long (f j) :: S) (h) P) : RQ G mL_law d 1817 [x0, x1, x2, x3, x4, x5, x6, x7, x8] (.int x :: .ref a :: S) h P := q_lald (M := mL_law) (pc := 1817) dL_law_1817 ha hx hj hn r
theorem tL_law_1818 {v : Int32} (r : RQ G mL_law d 1820 [x0, x1, x2, x3, x4, x5, some (.int v), x7, x8] (.int v :: S) (h) P) : RQ G mL_law d 1818 [x0, x1, x2, x3, x4, x5, some (.int v), x7, x8] (S) h P := q_iload (M := mL_law) (pc := 1818) dL_law_1818 rfl r
theorem tL_law_1820 {x : Int32} (r : RQ G mL_law d 1821 [x0, x1, x2, x3, x4, x5, x6, x7, x8] (.long x.toInt64 :: S) (h) P) : RQ G mL_law d 1820 [x0, x1, x2, x3, x4, x5, x6, x7, x8] (.int x :: S) h P := q_i2l (M := mL_law) (pc := 1820) dL_law_1820 r
theorem tL_law_1821 {x y : Int64} (r : RQ G mL_law d 1822 [x0, x1, x2, x3, x4, x5, x6, x7, x8] (.int (lg_cmp x y) :: S) (h) P) : RQ G mL_law d 1821 [x0, x1, x2, x3, x4, x5, x6, x7, x8] (.long y :: .long x :: S) h P := q_lcmp (M := mL_law) (pc := 1821) dL_law_1821 r
theorem tL_law_1822 {x : Int32} (kt : x = 0 → RQ G mL_law d 1827 [x0, x1, x2, x3, x4, x5, x6, x7, x8] S h P) (kf : ¬ x = 0 → RQ G mL_law d 1825 [x0, x1, x2, x3, x4, x5, x6, x7, x8] S h P) : RQ G mL_law d 1822 [x0, x1, x2, x3, x4, x5, x6, x7, x8] (.int x :: S) h P := q_if_eq (M := mL_law) (pc := 1822) dL_law_1822 (by decide) kt kf
theorem tL_law_1825 (r : RQ G mL_law d 1826 [x0, x1, x2, x3, x4, x5, x6, x7, x8] (.int (nI 0) :: S) (h) P) : RQ G mL_law d 1825 [x0, x1, x2, x3, x4, x5, x6, x7, x8] (S) h P := q_iconst (M := mL_law) (pc := 1825) dL_law_1825 (by decide) r
theorem tL_law_1826 {x : Int32} (hb : x = nI 0 ∨ x = nI 1) (hP : P (.inl (some (.int x))) h) : RQ G mL_law d 1826 [x0, x1, x2, x3, x4, x5, x6, x7, x8] ([.int x]) h P := q_ireturn (M := mL_law) (pc := 1826) (ty := .boolean) dL_law_1826 rfl (nar_bool hb) hP
theorem tL_law_1827 (r : RQ G mL_law d 2189 [x0, x1, x2, x3, x4, x5, x6, x7, x8] S h P) : RQ G mL_law d 1827 [x0, x1, x2, x3, x4, x5, x6, x7, x8] (S) h P := q_goto (M := mL_law) (pc := 1827) dL_law_1827 (by decide) r
theorem tL_law_1830 {k : Nat} (r : RQ G mL_law d 1831 [x0, some (.ref k), x2, x3, x4, x5, x6, x7, x8] (.ref k :: S) (h) P) : RQ G mL_law d 1830 [x0, some (.ref k), x2, x3, x4, x5, x6, x7, x8] (S) h P := q_aload_n (M := mL_law) (pc := 1830) (r0 := some k) dL_law_1830 rfl rfl r
theorem tL_law_1831 {k : Nat} (r : RQ G mL_law d 1832 [some (.ref k), x1, x2, x3, x4, x5, x6, x7, x8] (.ref k :: S) (h) P) : RQ G mL_law d 1831 [some (.ref k), x1, x2, x3, x4, x5, x6, x7, x8] (S) h P := q_aload_n (M := mL_law) (pc := 1831) (r0 := some k) dL_law_1831 rfl rfl r
theorem tL_law_1832 {v : Int32} (r : RQ G mL_law d 1834 [x0, x1, x2, x3, some (.int v), x5, x6, x7, x8] (.int v :: S) (h) P) : RQ G mL_law d 1832 [x0, x1, x2, x3, some (.int v), x5, x6, x7, x8] (S) h P := q_iload (M := mL_law) (pc := 1832) dL_law_1832 rfl r
theorem tL_law_1834 (r : RQ G mL_law d 1835 [x0, x1, x2, x3, x4, x5, x6, x7, x8] (.int (nI 1) :: S) (h) P) : RQ G mL_law d 1834 [x0, x1, x2, x3, x4, x5, x6, x7, x8] (S) h P := q_iconst (M := mL_law) (pc := 1834) dL_law_1834 (by decide) r
theorem tL_law_1835 {x y : Int32} (r : RQ G mL_law d 1836 [x0, x1, x2, x3, x4, x5, x6, x7, x8] (.int (x + y) :: S) (h) P) : RQ G mL_law d 1835 [x0, x1, x2, x3, x4, x5, x6, x7, x8] (.int y :: .int x :: S) h P := q_iadd (M := mL_law) (pc := 1835) dL_law_1835 r
theorem tL_law_1836 {j : Nat} {x : Int32} (hx : x = nI j) (hj : j < gN G) (hn : gN G < 2147483648) (r : RQ G mL_law d 1837 [x0, x1, x2, x3, x4, x5, x6, x7, x8] (.int (gX G j) :: S) (h) P) : RQ G mL_law d 1836 [x0, x1, x2, x3, x4, x5, x6, x7, x8] (.int x :: .ref (OLD + 999) :: S) h P := q_sld (M := mL_law) (pc := 1836) dL_law_1836 hx hj hn r
theorem tL_law_1837 {k : Nat} (r : RQ G mL_law d 1838 [some (.ref k), x1, x2, x3, x4, x5, x6, x7, x8] (.ref k :: S) (h) P) : RQ G mL_law d 1837 [some (.ref k), x1, x2, x3, x4, x5, x6, x7, x8] (S) h P := q_aload_n (M := mL_law) (pc := 1837) (r0 := some k) dL_law_1837 rfl rfl r
theorem tL_law_1838 {v : Int32} (r : RQ G mL_law d 1840 [x0, x1, x2, x3, some (.int v), x5, x6, x7, x8] (.int v :: S) (h) P) : RQ G mL_law d 1838 [x0, x1, x2, x3, some (.int v), x5, x6, x7, x8] (S) h P := q_iload (M := mL_law) (pc := 1838) dL_law_1838 rfl r
theorem tL_law_1840 (r : RQ G mL_law d 1841 [x0, x1, x2, x3, x4, x5, x6, x7, x8] (.int (nI 2) :: S) (h) P) : RQ G mL_law d 1840 [x0, x1, x2, x3, x4, x5, x6, x7, x8] (S) h P := q_iconst (M := mL_law) (pc := 1840) dL_law_1840 (by decide) r
theorem tL_law_1841 {x y : Int32} (r : RQ G mL_law d 1842 [x0, x1, x2, x3, x4, x5, x6, x7, x8] (.int (x + y) :: S) (h) P) : RQ G mL_law d 1841 [x0, x1, x2, x3, x4, x5, x6, x7, x8] (.int y :: .int x :: S) h P := q_iadd (M := mL_law) (pc := 1841) dL_law_1841 r
theorem tL_law_1842 {j : Nat} {x : Int32} (hx : x = nI j) (hj : j < gN G) (hn : gN G < 2147483648) (r : RQ G mL_law d 1843 [x0, x1, x2, x3, x4, x5, x6, x7, x8] (.int (gX G j) :: S) (h) P) : RQ G mL_law d 1842 [x0, x1, x2, x3, x4, x5, x6, x7, x8] (.int x :: .ref (OLD + 999) :: S) h P := q_sld (M := mL_law) (pc := 1842) dL_law_1842 hx hj hn r
theorem tL_law_1843 {k : Nat} (r : RQ G mL_law d 1844 [x0, x1, x2, some (.ref k), x4, x5, x6, x7, x8] (.ref k :: S) (h) P) : RQ G mL_law d 1843 [x0, x1, x2, some (.ref k), x4, x5, x6, x7, x8] (S) h P := q_aload_n (M := mL_law) (pc := 1843) (r0 := some k) dL_law_1843 rfl rfl r
theorem tL_law_1844 {d2 : Nat} {a0 : Nat} {a1 : Int32} {a2 : Int32} {a3 : Nat} {Q : Int32 → AH → Prop} (hd : d2 + 1 ≤ d) (call : RQ G mL_seatsAfter d2 0 [some (.ref a0), some (.int a1), some (.int a2), some (.ref a3), none] [] h (Ri Q)) (k : ∀ x h1, Q x h1 → RQ G mL_law d 1847 [x0, x1, x2, x3, x4, x5, x6, x7, x8] (.int x :: S) h1 P) (hst : (S.map fun v => v.category).sum ≤ 8 := by exact Nat.le_of_ble_eq_true rfl)  : RQ G mL_law d 1844 [x0, x1, x2, x3, x4, x5, x6, x7, x8] (.ref a3 :: .int a2 :: .int a1 :: .ref a0 :: S) h P := q_callSW (M := mL_law) (pc := 1844) (M2 := mL_seatsAfter) (As := [.ref a0, .int a1, .int a2, .ref a3]) (n := 4) dL_law_1844 ⟨by decide, by decide, by decide, rfl⟩ w1281 w1282 w108 w1283 hd (by decide) (Nat.le_of_ble_eq_true rfl) rfl hst call (callk_i k)
theorem tL_law_1847 {v : Int32} (ho : ok1 x4 = true := by rfl) (r : RQ G mL_law d 1849 [x0, x1, x2, x3, x4, some (.int v), x6, x7, x8] (S) (h) P) : RQ G mL_law d 1847 [x0, x1, x2, x3, x4, x5, x6, x7, x8] (.int v :: S) h P := q_istore (M := mL_law) (pc := 1847) dL_law_1847 (Nat.le_of_ble_eq_true rfl) ho r
theorem tL_law_1849 {k : Nat} (r : RQ G mL_law d 1850 [x0, x1, some (.ref k), x3, x4, x5, x6, x7, x8] (.ref k :: S) (h) P) : RQ G mL_law d 1849 [x0, x1, some (.ref k), x3, x4, x5, x6, x7, x8] (S) h P := q_aload_n (M := mL_law) (pc := 1849) (r0 := some k) dL_law_1849 rfl rfl r
theorem tL_law_1850 {k : Nat} (r : RQ G mL_law d 1851 [some (.ref k), x1, x2, x3, x4, x5, x6, x7, x8] (.ref k :: S) (h) P) : RQ G mL_law d 1850 [some (.ref k), x1, x2, x3, x4, x5, x6, x7, x8] (S) h P := q_aload_n (M := mL_law) (pc := 1850) (r0 := some k) dL_law_1850 rfl rfl r
theorem tL_law_1851 {v : Int32} (r : RQ G mL_law d 1853 [x0, x1, x2, x3, some (.int v), x5, x6, x7, x8] (.int v :: S) (h) P) : RQ G mL_law d 1851 [x0, x1, x2, x3, some (.int v), x5, x6, x7, x8] (S) h P := q_iload (M := mL_law) (pc := 1851) dL_law_1851 rfl r
theorem tL_law_1853 (r : RQ G mL_law d 1854 [x0, x1, x2, x3, x4, x5, x6, x7, x8] (.int (nI 1) :: S) (h) P) : RQ G mL_law d 1853 [x0, x1, x2, x3, x4, x5, x6, x7, x8] (S) h P := q_iconst (M := mL_law) (pc := 1853) dL_law_1853 (by decide) r
theorem tL_law_1854 {x y : Int32} (r : RQ G mL_law d 1855 [x0, x1, x2, x3, x4, x5, x6, x7, x8] (.int (x + y) :: S) (h) P) : RQ G mL_law d 1854 [x0, x1, x2, x3, x4, x5, x6, x7, x8] (.int y :: .int x :: S) h P := q_iadd (M := mL_law) (pc := 1854) dL_law_1854 r
theorem tL_law_1855 {j : Nat} {x : Int32} (hx : x = nI j) (hj : j < gN G) (hn : gN G < 2147483648) (r : RQ G mL_law d 1856 [x0, x1, x2, x3, x4, x5, x6, x7, x8] (.int (gX G j) :: S) (h) P) : RQ G mL_law d 1855 [x0, x1, x2, x3, x4, x5, x6, x7, x8] (.int x :: .ref (OLD + 999) :: S) h P := q_sld (M := mL_law) (pc := 1855) dL_law_1855 hx hj hn r
theorem tL_law_1856 {k : Nat} (r : RQ G mL_law d 1857 [some (.ref k), x1, x2, x3, x4, x5, x6, x7, x8] (.ref k :: S) (h) P) : RQ G mL_law d 1856 [some (.ref k), x1, x2, x3, x4, x5, x6, x7, x8] (S) h P := q_aload_n (M := mL_law) (pc := 1856) (r0 := some k) dL_law_1856 rfl rfl r
theorem tL_law_1857 {v : Int32} (r : RQ G mL_law d 1859 [x0, x1, x2, x3, some (.int v), x5, x6, x7, x8] (.int v :: S) (h) P) : RQ G mL_law d 1857 [x0, x1, x2, x3, some (.int v), x5, x6, x7, x8] (S) h P := q_iload (M := mL_law) (pc := 1857) dL_law_1857 rfl r
theorem tL_law_1859 (r : RQ G mL_law d 1860 [x0, x1, x2, x3, x4, x5, x6, x7, x8] (.int (nI 2) :: S) (h) P) : RQ G mL_law d 1859 [x0, x1, x2, x3, x4, x5, x6, x7, x8] (S) h P := q_iconst (M := mL_law) (pc := 1859) dL_law_1859 (by decide) r
theorem tL_law_1860 {x y : Int32} (r : RQ G mL_law d 1861 [x0, x1, x2, x3, x4, x5, x6, x7, x8] (.int (x + y) :: S) (h) P) : RQ G mL_law d 1860 [x0, x1, x2, x3, x4, x5, x6, x7, x8] (.int y :: .int x :: S) h P := q_iadd (M := mL_law) (pc := 1860) dL_law_1860 r
theorem tL_law_1861 {j : Nat} {x : Int32} (hx : x = nI j) (hj : j < gN G) (hn : gN G < 2147483648) (r : RQ G mL_law d 1862 [x0, x1, x2, x3, x4, x5, x6, x7, x8] (.int (gX G j) :: S) (h) P) : RQ G mL_law d 1861 [x0, x1, x2, x3, x4, x5, x6, x7, x8] (.int x :: .ref (OLD + 999) :: S) h P := q_sld (M := mL_law) (pc := 1861) dL_law_1861 hx hj hn r
theorem tL_law_1862 {b d2 : Nat} {vs : List Value} {a0 : Int32} {a1 : Int32} {Q : Int32 → AH → Prop} (hd : d2 + 1 ≤ d) (ha : At h b (.inr (10, vs))) (call : RQ G mX12_seatsAfter d2 0 [some (.ref b), some (.int a0), some (.int a1), none] [] h (Ri Q)) (k : ∀ x h1, Q x h1 → RQ G mL_law d 1865 [x0, x1, x2, x3, x4, x5, x6, x7, x8] (.int x :: S) h1 P) (hst : (S.map fun v => v.category).sum ≤ 8 := by exact Nat.le_of_ble_eq_true rfl)  : RQ G mL_law d 1862 [x0, x1, x2, x3, x4, x5, x6, x7, x8] (.int a1 :: .int a0 :: .ref b :: S) h P := q_callV (M := mL_law) (pc := 1862) (M2 := mX12_seatsAfter) (As := [.int a0, .int a1]) (n := 2) dL_law_1862 rfl ⟨by decide, by decide, by decide, rfl⟩ rfl w1912 w1913 w1914 w120 w1915 (show CL[10]? = some (RX12, TX12, 25) from rfl) hd (by decide) (Nat.le_of_ble_eq_true rfl) rfl ha hst call (callk_i k)
theorem tL_law_1865 {v : Int32} (ho : ok1 x5 = true := by rfl) (r : RQ G mL_law d 1867 [x0, x1, x2, x3, x4, x5, some (.int v), x7, x8] (S) (h) P) : RQ G mL_law d 1865 [x0, x1, x2, x3, x4, x5, x6, x7, x8] (.int v :: S) h P := q_istore (M := mL_law) (pc := 1865) dL_law_1865 (Nat.le_of_ble_eq_true rfl) ho r
theorem tL_law_1867 {k : Nat} (r : RQ G mL_law d 1868 [x0, x1, some (.ref k), x3, x4, x5, x6, x7, x8] (.ref k :: S) (h) P) : RQ G mL_law d 1867 [x0, x1, some (.ref k), x3, x4, x5, x6, x7, x8] (S) h P := q_aload_n (M := mL_law) (pc := 1867) (r0 := some k) dL_law_1867 rfl rfl r
theorem tL_law_1868 {b d2 : Nat} {vs : List Value}  {Q : Int32 → AH → Prop} (hd : d2 + 1 ≤ d) (ha : At h b (.inr (10, vs))) (call : RQ G mX12_thrown d2 0 [some (.ref b)] [] h (Ri Q)) (k : ∀ x h1, Q x h1 → RQ G mL_law d 1871 [x0, x1, x2, x3, x4, x5, x6, x7, x8] (.int x :: S) h1 P) (hst : (S.map fun v => v.category).sum ≤ 8 := by exact Nat.le_of_ble_eq_true rfl)  : RQ G mL_law d 1868 [x0, x1, x2, x3, x4, x5, x6, x7, x8] (.ref b :: S) h P := q_callV (M := mL_law) (pc := 1868) (M2 := mX12_thrown) (As := []) (n := 0) dL_law_1868 rfl ⟨by decide, by decide, by decide, rfl⟩ rfl w1499 w1500 w1501 w120 w1502 (show CL[10]? = some (RX12, TX12, 25) from rfl) hd (by decide) (Nat.le_of_ble_eq_true rfl) rfl ha hst call (callk_i k)
theorem tL_law_1871 {v : Int32} (r : RQ G mL_law d 1873 [x0, x1, x2, x3, x4, some (.int v), x6, x7, x8] (.int v :: S) (h) P) : RQ G mL_law d 1871 [x0, x1, x2, x3, x4, some (.int v), x6, x7, x8] (S) h P := q_iload (M := mL_law) (pc := 1871) dL_law_1871 rfl r
theorem tL_law_1873 {x y : Int32} (kt : x = y → RQ G mL_law d 1878 [x0, x1, x2, x3, x4, x5, x6, x7, x8] S h P) (kf : ¬ x = y → RQ G mL_law d 1876 [x0, x1, x2, x3, x4, x5, x6, x7, x8] S h P) : RQ G mL_law d 1873 [x0, x1, x2, x3, x4, x5, x6, x7, x8] (.int y :: .int x :: S) h P := q_icmp_eq (M := mL_law) (pc := 1873) dL_law_1873 (by decide) kt kf
theorem tL_law_1876 (r : RQ G mL_law d 1877 [x0, x1, x2, x3, x4, x5, x6, x7, x8] (.int (nI 0) :: S) (h) P) : RQ G mL_law d 1876 [x0, x1, x2, x3, x4, x5, x6, x7, x8] (S) h P := q_iconst (M := mL_law) (pc := 1876) dL_law_1876 (by decide) r
theorem tL_law_1877 {x : Int32} (hb : x = nI 0 ∨ x = nI 1) (hP : P (.inl (some (.int x))) h) : RQ G mL_law d 1877 [x0, x1, x2, x3, x4, x5, x6, x7, x8] ([.int x]) h P := q_ireturn (M := mL_law) (pc := 1877) (ty := .boolean) dL_law_1877 rfl (nar_bool hb) hP
theorem tL_law_1878 {v : Int32} (r : RQ G mL_law d 1880 [x0, x1, x2, x3, x4, some (.int v), x6, x7, x8] (.int v :: S) (h) P) : RQ G mL_law d 1878 [x0, x1, x2, x3, x4, some (.int v), x6, x7, x8] (S) h P := q_iload (M := mL_law) (pc := 1878) dL_law_1878 rfl r
theorem tL_law_1880 {x : Int32} (kt : ¬ x = 0 → RQ G mL_law d 1895 [x0, x1, x2, x3, x4, x5, x6, x7, x8] S h P) (kf : x = 0 → RQ G mL_law d 1883 [x0, x1, x2, x3, x4, x5, x6, x7, x8] S h P) : RQ G mL_law d 1880 [x0, x1, x2, x3, x4, x5, x6, x7, x8] (.int x :: S) h P := q_if_ne (M := mL_law) (pc := 1880) dL_law_1880 (by decide) kt kf
theorem tL_law_1883 {k : Nat} (r : RQ G mL_law d 1884 [x0, x1, x2, some (.ref k), x4, x5, x6, x7, x8] (.ref k :: S) (h) P) : RQ G mL_law d 1883 [x0, x1, x2, some (.ref k), x4, x5, x6, x7, x8] (S) h P := q_aload_n (M := mL_law) (pc := 1883) (r0 := some k) dL_law_1883 rfl rfl r
theorem tL_law_1884 (r : RQ G mL_law d 1885 [x0, x1, x2, x3, x4, x5, x6, x7, x8] (.int (nI 0) :: S) (h) P) : RQ G mL_law d 1884 [x0, x1, x2, x3, x4, x5, x6, x7, x8] (S) h P := q_iconst (M := mL_law) (pc := 1884) dL_law_1884 (by decide) r
theorem tL_law_1885 {a n j : Nat} {x : Int32} {f : Nat → Int64} (ha : At h a (.inl (2, n, .inr (.inl f)))) (hx : x = nI j) (hj : j < n) (hn : n < 2147483648) (r : RQ G mL_law d 1886 [x0, x1, x2, x3, x4, x5, x6, x7, x8] (.long (f j) :: S) (h) P) : RQ G mL_law d 1885 [x0, x1, x2, x3, x4, x5, x6, x7, x8] (.int x :: .ref a :: S) h P := q_lald (M := mL_law) (pc := 1885) dL_law_1885 ha hx hj hn r
theorem tL_law_1886 {v : Int32} (r : RQ G mL_law d 1888 [x0, x1, x2, x3, x4, x5, some (.int v), x7, x8] (.int v :: S) (h) P) : RQ G mL_law d 1886 [x0, x1, x2, x3, x4, x5, some (.int v), x7, x8] (S) h P := q_iload (M := mL_law) (pc := 1886) dL_law_1886 rfl r
theorem tL_law_1888 {x : Int32} (r : RQ G mL_law d 1889 [x0, x1, x2, x3, x4, x5, x6, x7, x8] (.long x.toInt64 :: S) (h) P) : RQ G mL_law d 1888 [x0, x1, x2, x3, x4, x5, x6, x7, x8] (.int x :: S) h P := q_i2l (M := mL_law) (pc := 1888) dL_law_1888 r
theorem tL_law_1889 {x y : Int64} (r : RQ G mL_law d 1890 [x0, x1, x2, x3, x4, x5, x6, x7, x8] (.int (lg_cmp x y) :: S) (h) P) : RQ G mL_law d 1889 [x0, x1, x2, x3, x4, x5, x6, x7, x8] (.long y :: .long x :: S) h P := q_lcmp (M := mL_law) (pc := 1889) dL_law_1889 r
theorem tL_law_1890 {x : Int32} (kt : x = 0 → RQ G mL_law d 1895 [x0, x1, x2, x3, x4, x5, x6, x7, x8] S h P) (kf : ¬ x = 0 → RQ G mL_law d 1893 [x0, x1, x2, x3, x4, x5, x6, x7, x8] S h P) : RQ G mL_law d 1890 [x0, x1, x2, x3, x4, x5, x6, x7, x8] (.int x :: S) h P := q_if_eq (M := mL_law) (pc := 1890) dL_law_1890 (by decide) kt kf
theorem tL_law_1893 (r : RQ G mL_law d 1894 [x0, x1, x2, x3, x4, x5, x6, x7, x8] (.int (nI 0) :: S) (h) P) : RQ G mL_law d 1893 [x0, x1, x2, x3, x4, x5, x6, x7, x8] (S) h P := q_iconst (M := mL_law) (pc := 1893) dL_law_1893 (by decide) r
theorem tL_law_1894 {x : Int32} (hb : x = nI 0 ∨ x = nI 1) (hP : P (.inl (some (.int x))) h) : RQ G mL_law d 1894 [x0, x1, x2, x3, x4, x5, x6, x7, x8] ([.int x]) h P := q_ireturn (M := mL_law) (pc := 1894) (ty := .boolean) dL_law_1894 rfl (nar_bool hb) hP
theorem tL_law_1895 (r : RQ G mL_law d 2189 [x0, x1, x2, x3, x4, x5, x6, x7, x8] S h P) : RQ G mL_law d 1895 [x0, x1, x2, x3, x4, x5, x6, x7, x8] (S) h P := q_goto (M := mL_law) (pc := 1895) dL_law_1895 (by decide) r
theorem tL_law_1898 {k : Nat} (r : RQ G mL_law d 1899 [x0, some (.ref k), x2, x3, x4, x5, x6, x7, x8] (.ref k :: S) (h) P) : RQ G mL_law d 1898 [x0, some (.ref k), x2, x3, x4, x5, x6, x7, x8] (S) h P := q_aload_n (M := mL_law) (pc := 1898) (r0 := some k) dL_law_1898 rfl rfl r
theorem tL_law_1899 {k : Nat} (r : RQ G mL_law d 1900 [some (.ref k), x1, x2, x3, x4, x5, x6, x7, x8] (.ref k :: S) (h) P) : RQ G mL_law d 1899 [some (.ref k), x1, x2, x3, x4, x5, x6, x7, x8] (S) h P := q_aload_n (M := mL_law) (pc := 1899) (r0 := some k) dL_law_1899 rfl rfl r
theorem tL_law_1900 {v : Int32} (r : RQ G mL_law d 1902 [x0, x1, x2, x3, some (.int v), x5, x6, x7, x8] (.int v :: S) (h) P) : RQ G mL_law d 1900 [x0, x1, x2, x3, some (.int v), x5, x6, x7, x8] (S) h P := q_iload (M := mL_law) (pc := 1900) dL_law_1900 rfl r
theorem tL_law_1902 (r : RQ G mL_law d 1903 [x0, x1, x2, x3, x4, x5, x6, x7, x8] (.int (nI 1) :: S) (h) P) : RQ G mL_law d 1902 [x0, x1, x2, x3, x4, x5, x6, x7, x8] (S) h P := q_iconst (M := mL_law) (pc := 1902) dL_law_1902 (by decide) r
theorem tL_law_1903 {x y : Int32} (r : RQ G mL_law d 1904 [x0, x1, x2, x3, x4, x5, x6, x7, x8] (.int (x + y) :: S) (h) P) : RQ G mL_law d 1903 [x0, x1, x2, x3, x4, x5, x6, x7, x8] (.int y :: .int x :: S) h P := q_iadd (M := mL_law) (pc := 1903) dL_law_1903 r
theorem tL_law_1904 {j : Nat} {x : Int32} (hx : x = nI j) (hj : j < gN G) (hn : gN G < 2147483648) (r : RQ G mL_law d 1905 [x0, x1, x2, x3, x4, x5, x6, x7, x8] (.int (gX G j) :: S) (h) P) : RQ G mL_law d 1904 [x0, x1, x2, x3, x4, x5, x6, x7, x8] (.int x :: .ref (OLD + 999) :: S) h P := q_sld (M := mL_law) (pc := 1904) dL_law_1904 hx hj hn r
theorem tL_law_1905 {k : Nat} (r : RQ G mL_law d 1906 [x0, x1, x2, some (.ref k), x4, x5, x6, x7, x8] (.ref k :: S) (h) P) : RQ G mL_law d 1905 [x0, x1, x2, some (.ref k), x4, x5, x6, x7, x8] (S) h P := q_aload_n (M := mL_law) (pc := 1905) (r0 := some k) dL_law_1905 rfl rfl r
theorem tL_law_1906 {d2 : Nat} {a0 : Nat} {a1 : Int32} {a2 : Nat} {Q : Int32 → AH → Prop} (hd : d2 + 1 ≤ d) (call : RQ G mL_daysUntilMajority d2 0 [some (.ref a0), some (.int a1), some (.ref a2), none] [] h (Ri Q)) (k : ∀ x h1, Q x h1 → RQ G mL_law d 1909 [x0, x1, x2, x3, x4, x5, x6, x7, x8] (.int x :: S) h1 P) (hst : (S.map fun v => v.category).sum ≤ 8 := by exact Nat.le_of_ble_eq_true rfl)  : RQ G mL_law d 1906 [x0, x1, x2, x3, x4, x5, x6, x7, x8] (.ref a2 :: .int a1 :: .ref a0 :: S) h P := q_callSW (M := mL_law) (pc := 1906) (M2 := mL_daysUntilMajority) (As := [.ref a0, .int a1, .ref a2]) (n := 3) dL_law_1906 ⟨by decide, by decide, by decide, rfl⟩ w1288 w1289 w108 w1290 hd (by decide) (Nat.le_of_ble_eq_true rfl) rfl hst call (callk_i k)
theorem tL_law_1909 {v : Int32} (ho : ok1 x4 = true := by rfl) (r : RQ G mL_law d 1911 [x0, x1, x2, x3, x4, some (.int v), x6, x7, x8] (S) (h) P) : RQ G mL_law d 1909 [x0, x1, x2, x3, x4, x5, x6, x7, x8] (.int v :: S) h P := q_istore (M := mL_law) (pc := 1909) dL_law_1909 (Nat.le_of_ble_eq_true rfl) ho r
theorem tL_law_1911 {k : Nat} (r : RQ G mL_law d 1912 [x0, x1, some (.ref k), x3, x4, x5, x6, x7, x8] (.ref k :: S) (h) P) : RQ G mL_law d 1911 [x0, x1, some (.ref k), x3, x4, x5, x6, x7, x8] (S) h P := q_aload_n (M := mL_law) (pc := 1911) (r0 := some k) dL_law_1911 rfl rfl r
theorem tL_law_1912 {k : Nat} (r : RQ G mL_law d 1913 [some (.ref k), x1, x2, x3, x4, x5, x6, x7, x8] (.ref k :: S) (h) P) : RQ G mL_law d 1912 [some (.ref k), x1, x2, x3, x4, x5, x6, x7, x8] (S) h P := q_aload_n (M := mL_law) (pc := 1912) (r0 := some k) dL_law_1912 rfl rfl r
theorem tL_law_1913 {v : Int32} (r : RQ G mL_law d 1915 [x0, x1, x2, x3, some (.int v), x5, x6, x7, x8] (.int v :: S) (h) P) : RQ G mL_law d 1913 [x0, x1, x2, x3, some (.int v), x5, x6, x7, x8] (S) h P := q_iload (M := mL_law) (pc := 1913) dL_law_1913 rfl r
theorem tL_law_1915 (r : RQ G mL_law d 1916 [x0, x1, x2, x3, x4, x5, x6, x7, x8] (.int (nI 1) :: S) (h) P) : RQ G mL_law d 1915 [x0, x1, x2, x3, x4, x5, x6, x7, x8] (S) h P := q_iconst (M := mL_law) (pc := 1915) dL_law_1915 (by decide) r
theorem tL_law_1916 {x y : Int32} (r : RQ G mL_law d 1917 [x0, x1, x2, x3, x4, x5, x6, x7, x8] (.int (x + y) :: S) (h) P) : RQ G mL_law d 1916 [x0, x1, x2, x3, x4, x5, x6, x7, x8] (.int y :: .int x :: S) h P := q_iadd (M := mL_law) (pc := 1916) dL_law_1916 r
theorem tL_law_1917 {j : Nat} {x : Int32} (hx : x = nI j) (hj : j < gN G) (hn : gN G < 2147483648) (r : RQ G mL_law d 1918 [x0, x1, x2, x3, x4, x5, x6, x7, x8] (.int (gX G j) :: S) (h) P) : RQ G mL_law d 1917 [x0, x1, x2, x3, x4, x5, x6, x7, x8] (.int x :: .ref (OLD + 999) :: S) h P := q_sld (M := mL_law) (pc := 1917) dL_law_1917 hx hj hn r
theorem tL_law_1918 {b d2 : Nat} {vs : List Value} {a0 : Int32} {Q : Int32 → AH → Prop} (hd : d2 + 1 ≤ d) (ha : At h b (.inr (10, vs))) (call : RQ G mX12_daysUntilMajority d2 0 [some (.ref b), some (.int a0), none] [] h (Ri Q)) (k : ∀ x h1, Q x h1 → RQ G mL_law d 1921 [x0, x1, x2, x3, x4, x5, x6, x7, x8] (.int x :: S) h1 P) (hst : (S.map fun v => v.category).sum ≤ 8 := by exact Nat.le_of_ble_eq_true rfl)  : RQ G mL_law d 1918 [x0, x1, x2, x3, x4, x5, x6, x7, x8] (.int a0 :: .ref b :: S) h P := q_callV (M := mL_law) (pc := 1918) (M2 := mX12_daysUntilMajority) (As := [.int a0]) (n := 1) dL_law_1918 rfl ⟨by decide, by decide, by decide, rfl⟩ rfl w1924 w1925 w1926 w120 w1927 (show CL[10]? = some (RX12, TX12, 25) from rfl) hd (by decide) (Nat.le_of_ble_eq_true rfl) rfl ha hst call (callk_i k)
theorem tL_law_1921 {v : Int32} (ho : ok1 x5 = true := by rfl) (r : RQ G mL_law d 1923 [x0, x1, x2, x3, x4, x5, some (.int v), x7, x8] (S) (h) P) : RQ G mL_law d 1921 [x0, x1, x2, x3, x4, x5, x6, x7, x8] (.int v :: S) h P := q_istore (M := mL_law) (pc := 1921) dL_law_1921 (Nat.le_of_ble_eq_true rfl) ho r
theorem tL_law_1923 {k : Nat} (r : RQ G mL_law d 1924 [x0, x1, some (.ref k), x3, x4, x5, x6, x7, x8] (.ref k :: S) (h) P) : RQ G mL_law d 1923 [x0, x1, some (.ref k), x3, x4, x5, x6, x7, x8] (S) h P := q_aload_n (M := mL_law) (pc := 1923) (r0 := some k) dL_law_1923 rfl rfl r
theorem tL_law_1924 {b d2 : Nat} {vs : List Value}  {Q : Int32 → AH → Prop} (hd : d2 + 1 ≤ d) (ha : At h b (.inr (10, vs))) (call : RQ G mX12_thrown d2 0 [some (.ref b)] [] h (Ri Q)) (k : ∀ x h1, Q x h1 → RQ G mL_law d 1927 [x0, x1, x2, x3, x4, x5, x6, x7, x8] (.int x :: S) h1 P) (hst : (S.map fun v => v.category).sum ≤ 8 := by exact Nat.le_of_ble_eq_true rfl)  : RQ G mL_law d 1924 [x0, x1, x2, x3, x4, x5, x6, x7, x8] (.ref b :: S) h P := q_callV (M := mL_law) (pc := 1924) (M2 := mX12_thrown) (As := []) (n := 0) dL_law_1924 rfl ⟨by decide, by decide, by decide, rfl⟩ rfl w1499 w1500 w1501 w120 w1502 (show CL[10]? = some (RX12, TX12, 25) from rfl) hd (by decide) (Nat.le_of_ble_eq_true rfl) rfl ha hst call (callk_i k)
theorem tL_law_1927 {v : Int32} (r : RQ G mL_law d 1929 [x0, x1, x2, x3, x4, some (.int v), x6, x7, x8] (.int v :: S) (h) P) : RQ G mL_law d 1927 [x0, x1, x2, x3, x4, some (.int v), x6, x7, x8] (S) h P := q_iload (M := mL_law) (pc := 1927) dL_law_1927 rfl r
theorem tL_law_1929 {x y : Int32} (kt : x = y → RQ G mL_law d 1934 [x0, x1, x2, x3, x4, x5, x6, x7, x8] S h P) (kf : ¬ x = y → RQ G mL_law d 1932 [x0, x1, x2, x3, x4, x5, x6, x7, x8] S h P) : RQ G mL_law d 1929 [x0, x1, x2, x3, x4, x5, x6, x7, x8] (.int y :: .int x :: S) h P := q_icmp_eq (M := mL_law) (pc := 1929) dL_law_1929 (by decide) kt kf
theorem tL_law_1932 (r : RQ G mL_law d 1933 [x0, x1, x2, x3, x4, x5, x6, x7, x8] (.int (nI 0) :: S) (h) P) : RQ G mL_law d 1932 [x0, x1, x2, x3, x4, x5, x6, x7, x8] (S) h P := q_iconst (M := mL_law) (pc := 1932) dL_law_1932 (by decide) r
theorem tL_law_1933 {x : Int32} (hb : x = nI 0 ∨ x = nI 1) (hP : P (.inl (some (.int x))) h) : RQ G mL_law d 1933 [x0, x1, x2, x3, x4, x5, x6, x7, x8] ([.int x]) h P := q_ireturn (M := mL_law) (pc := 1933) (ty := .boolean) dL_law_1933 rfl (nar_bool hb) hP
theorem tL_law_1934 {v : Int32} (r : RQ G mL_law d 1936 [x0, x1, x2, x3, x4, some (.int v), x6, x7, x8] (.int v :: S) (h) P) : RQ G mL_law d 1934 [x0, x1, x2, x3, x4, some (.int v), x6, x7, x8] (S) h P := q_iload (M := mL_law) (pc := 1934) dL_law_1934 rfl r
theorem tL_law_1936 {x : Int32} (kt : ¬ x = 0 → RQ G mL_law d 1951 [x0, x1, x2, x3, x4, x5, x6, x7, x8] S h P) (kf : x = 0 → RQ G mL_law d 1939 [x0, x1, x2, x3, x4, x5, x6, x7, x8] S h P) : RQ G mL_law d 1936 [x0, x1, x2, x3, x4, x5, x6, x7, x8] (.int x :: S) h P := q_if_ne (M := mL_law) (pc := 1936) dL_law_1936 (by decide) kt kf
theorem tL_law_1939 {k : Nat} (r : RQ G mL_law d 1940 [x0, x1, x2, some (.ref k), x4, x5, x6, x7, x8] (.ref k :: S) (h) P) : RQ G mL_law d 1939 [x0, x1, x2, some (.ref k), x4, x5, x6, x7, x8] (S) h P := q_aload_n (M := mL_law) (pc := 1939) (r0 := some k) dL_law_1939 rfl rfl r
theorem tL_law_1940 (r : RQ G mL_law d 1941 [x0, x1, x2, x3, x4, x5, x6, x7, x8] (.int (nI 0) :: S) (h) P) : RQ G mL_law d 1940 [x0, x1, x2, x3, x4, x5, x6, x7, x8] (S) h P := q_iconst (M := mL_law) (pc := 1940) dL_law_1940 (by decide) r
theorem tL_law_1941 {a n j : Nat} {x : Int32} {f : Nat → Int64} (ha : At h a (.inl (2, n, .inr (.inl f)))) (hx : x = nI j) (hj : j < n) (hn : n < 2147483648) (r : RQ G mL_law d 1942 [x0, x1, x2, x3, x4, x5, x6, x7, x8] (.long (f j) :: S) (h) P) : RQ G mL_law d 1941 [x0, x1, x2, x3, x4, x5, x6, x7, x8] (.int x :: .ref a :: S) h P := q_lald (M := mL_law) (pc := 1941) dL_law_1941 ha hx hj hn r
theorem tL_law_1942 {v : Int32} (r : RQ G mL_law d 1944 [x0, x1, x2, x3, x4, x5, some (.int v), x7, x8] (.int v :: S) (h) P) : RQ G mL_law d 1942 [x0, x1, x2, x3, x4, x5, some (.int v), x7, x8] (S) h P := q_iload (M := mL_law) (pc := 1942) dL_law_1942 rfl r
theorem tL_law_1944 {x : Int32} (r : RQ G mL_law d 1945 [x0, x1, x2, x3, x4, x5, x6, x7, x8] (.long x.toInt64 :: S) (h) P) : RQ G mL_law d 1944 [x0, x1, x2, x3, x4, x5, x6, x7, x8] (.int x :: S) h P := q_i2l (M := mL_law) (pc := 1944) dL_law_1944 r
theorem tL_law_1945 {x y : Int64} (r : RQ G mL_law d 1946 [x0, x1, x2, x3, x4, x5, x6, x7, x8] (.int (lg_cmp x y) :: S) (h) P) : RQ G mL_law d 1945 [x0, x1, x2, x3, x4, x5, x6, x7, x8] (.long y :: .long x :: S) h P := q_lcmp (M := mL_law) (pc := 1945) dL_law_1945 r
theorem tL_law_1946 {x : Int32} (kt : x = 0 → RQ G mL_law d 1951 [x0, x1, x2, x3, x4, x5, x6, x7, x8] S h P) (kf : ¬ x = 0 → RQ G mL_law d 1949 [x0, x1, x2, x3, x4, x5, x6, x7, x8] S h P) : RQ G mL_law d 1946 [x0, x1, x2, x3, x4, x5, x6, x7, x8] (.int x :: S) h P := q_if_eq (M := mL_law) (pc := 1946) dL_law_1946 (by decide) kt kf
theorem tL_law_1949 (r : RQ G mL_law d 1950 [x0, x1, x2, x3, x4, x5, x6, x7, x8] (.int (nI 0) :: S) (h) P) : RQ G mL_law d 1949 [x0, x1, x2, x3, x4, x5, x6, x7, x8] (S) h P := q_iconst (M := mL_law) (pc := 1949) dL_law_1949 (by decide) r
theorem tL_law_1950 {x : Int32} (hb : x = nI 0 ∨ x = nI 1) (hP : P (.inl (some (.int x))) h) : RQ G mL_law d 1950 [x0, x1, x2, x3, x4, x5, x6, x7, x8] ([.int x]) h P := q_ireturn (M := mL_law) (pc := 1950) (ty := .boolean) dL_law_1950 rfl (nar_bool hb) hP
theorem tL_law_1951 (r : RQ G mL_law d 2189 [x0, x1, x2, x3, x4, x5, x6, x7, x8] S h P) : RQ G mL_law d 1951 [x0, x1, x2, x3, x4, x5, x6, x7, x8] (S) h P := q_goto (M := mL_law) (pc := 1951) dL_law_1951 (by decide) r
theorem tL_law_1954 {k : Nat} (r : RQ G mL_law d 1955 [x0, some (.ref k), x2, x3, x4, x5, x6, x7, x8] (.ref k :: S) (h) P) : RQ G mL_law d 1954 [x0, some (.ref k), x2, x3, x4, x5, x6, x7, x8] (S) h P := q_aload_n (M := mL_law) (pc := 1954) (r0 := some k) dL_law_1954 rfl rfl r
theorem tL_law_1955 {k : Nat} (r : RQ G mL_law d 1956 [some (.ref k), x1, x2, x3, x4, x5, x6, x7, x8] (.ref k :: S) (h) P) : RQ G mL_law d 1955 [some (.ref k), x1, x2, x3, x4, x5, x6, x7, x8] (S) h P := q_aload_n (M := mL_law) (pc := 1955) (r0 := some k) dL_law_1955 rfl rfl r
theorem tL_law_1956 {v : Int32} (r : RQ G mL_law d 1958 [x0, x1, x2, x3, some (.int v), x5, x6, x7, x8] (.int v :: S) (h) P) : RQ G mL_law d 1956 [x0, x1, x2, x3, some (.int v), x5, x6, x7, x8] (S) h P := q_iload (M := mL_law) (pc := 1956) dL_law_1956 rfl r
theorem tL_law_1958 (r : RQ G mL_law d 1959 [x0, x1, x2, x3, x4, x5, x6, x7, x8] (.int (nI 1) :: S) (h) P) : RQ G mL_law d 1958 [x0, x1, x2, x3, x4, x5, x6, x7, x8] (S) h P := q_iconst (M := mL_law) (pc := 1958) dL_law_1958 (by decide) r
theorem tL_law_1959 {x y : Int32} (r : RQ G mL_law d 1960 [x0, x1, x2, x3, x4, x5, x6, x7, x8] (.int (x + y) :: S) (h) P) : RQ G mL_law d 1959 [x0, x1, x2, x3, x4, x5, x6, x7, x8] (.int y :: .int x :: S) h P := q_iadd (M := mL_law) (pc := 1959) dL_law_1959 r
theorem tL_law_1960 {j : Nat} {x : Int32} (hx : x = nI j) (hj : j < gN G) (hn : gN G < 2147483648) (r : RQ G mL_law d 1961 [x0, x1, x2, x3, x4, x5, x6, x7, x8] (.int (gX G j) :: S) (h) P) : RQ G mL_law d 1960 [x0, x1, x2, x3, x4, x5, x6, x7, x8] (.int x :: .ref (OLD + 999) :: S) h P := q_sld (M := mL_law) (pc := 1960) dL_law_1960 hx hj hn r
theorem tL_law_1961 {k : Nat} (r : RQ G mL_law d 1962 [some (.ref k), x1, x2, x3, x4, x5, x6, x7, x8] (.ref k :: S) (h) P) : RQ G mL_law d 1961 [some (.ref k), x1, x2, x3, x4, x5, x6, x7, x8] (S) h P := q_aload_n (M := mL_law) (pc := 1961) (r0 := some k) dL_law_1961 rfl rfl r
theorem tL_law_1962 {v : Int32} (r : RQ G mL_law d 1964 [x0, x1, x2, x3, some (.int v), x5, x6, x7, x8] (.int v :: S) (h) P) : RQ G mL_law d 1962 [x0, x1, x2, x3, some (.int v), x5, x6, x7, x8] (S) h P := q_iload (M := mL_law) (pc := 1962) dL_law_1962 rfl r
theorem tL_law_1964 (r : RQ G mL_law d 1965 [x0, x1, x2, x3, x4, x5, x6, x7, x8] (.int (nI 2) :: S) (h) P) : RQ G mL_law d 1964 [x0, x1, x2, x3, x4, x5, x6, x7, x8] (S) h P := q_iconst (M := mL_law) (pc := 1964) dL_law_1964 (by decide) r
theorem tL_law_1965 {x y : Int32} (r : RQ G mL_law d 1966 [x0, x1, x2, x3, x4, x5, x6, x7, x8] (.int (x + y) :: S) (h) P) : RQ G mL_law d 1965 [x0, x1, x2, x3, x4, x5, x6, x7, x8] (.int y :: .int x :: S) h P := q_iadd (M := mL_law) (pc := 1965) dL_law_1965 r
theorem tL_law_1966 {j : Nat} {x : Int32} (hx : x = nI j) (hj : j < gN G) (hn : gN G < 2147483648) (r : RQ G mL_law d 1967 [x0, x1, x2, x3, x4, x5, x6, x7, x8] (.int (gX G j) :: S) (h) P) : RQ G mL_law d 1966 [x0, x1, x2, x3, x4, x5, x6, x7, x8] (.int x :: .ref (OLD + 999) :: S) h P := q_sld (M := mL_law) (pc := 1966) dL_law_1966 hx hj hn r
theorem tL_law_1967 {k : Nat} (r : RQ G mL_law d 1968 [x0, x1, x2, some (.ref k), x4, x5, x6, x7, x8] (.ref k :: S) (h) P) : RQ G mL_law d 1967 [x0, x1, x2, some (.ref k), x4, x5, x6, x7, x8] (S) h P := q_aload_n (M := mL_law) (pc := 1967) (r0 := some k) dL_law_1967 rfl rfl r
theorem tL_law_1968 {d2 : Nat} {a0 : Nat} {a1 : Int32} {a2 : Int32} {a3 : Nat} {Q : Int32 → AH → Prop} (hd : d2 + 1 ≤ d) (call : RQ G mL_beansToWin d2 0 [some (.ref a0), some (.int a1), some (.int a2), some (.ref a3), none] [] h (Ri Q)) (k : ∀ x h1, Q x h1 → RQ G mL_law d 1971 [x0, x1, x2, x3, x4, x5, x6, x7, x8] (.int x :: S) h1 P) (hst : (S.map fun v => v.category).sum ≤ 8 := by exact Nat.le_of_ble_eq_true rfl)  : RQ G mL_law d 1968 [x0, x1, x2, x3, x4, x5, x6, x7, x8] (.ref a3 :: .int a2 :: .int a1 :: .ref a0 :: S) h P := q_callSW (M := mL_law) (pc := 1968) (M2 := mL_beansToWin) (As := [.ref a0, .int a1, .int a2, .ref a3]) (n := 4) dL_law_1968 ⟨by decide, by decide, by decide, rfl⟩ w1295 w1296 w108 w1297 hd (by decide) (Nat.le_of_ble_eq_true rfl) rfl hst call (callk_i k)
theorem tL_law_1971 {v : Int32} (ho : ok1 x4 = true := by rfl) (r : RQ G mL_law d 1973 [x0, x1, x2, x3, x4, some (.int v), x6, x7, x8] (S) (h) P) : RQ G mL_law d 1971 [x0, x1, x2, x3, x4, x5, x6, x7, x8] (.int v :: S) h P := q_istore (M := mL_law) (pc := 1971) dL_law_1971 (Nat.le_of_ble_eq_true rfl) ho r
theorem tL_law_1973 {k : Nat} (r : RQ G mL_law d 1974 [x0, x1, some (.ref k), x3, x4, x5, x6, x7, x8] (.ref k :: S) (h) P) : RQ G mL_law d 1973 [x0, x1, some (.ref k), x3, x4, x5, x6, x7, x8] (S) h P := q_aload_n (M := mL_law) (pc := 1973) (r0 := some k) dL_law_1973 rfl rfl r
theorem tL_law_1974 {k : Nat} (r : RQ G mL_law d 1975 [some (.ref k), x1, x2, x3, x4, x5, x6, x7, x8] (.ref k :: S) (h) P) : RQ G mL_law d 1974 [some (.ref k), x1, x2, x3, x4, x5, x6, x7, x8] (S) h P := q_aload_n (M := mL_law) (pc := 1974) (r0 := some k) dL_law_1974 rfl rfl r
theorem tL_law_1975 {v : Int32} (r : RQ G mL_law d 1977 [x0, x1, x2, x3, some (.int v), x5, x6, x7, x8] (.int v :: S) (h) P) : RQ G mL_law d 1975 [x0, x1, x2, x3, some (.int v), x5, x6, x7, x8] (S) h P := q_iload (M := mL_law) (pc := 1975) dL_law_1975 rfl r
theorem tL_law_1977 (r : RQ G mL_law d 1978 [x0, x1, x2, x3, x4, x5, x6, x7, x8] (.int (nI 1) :: S) (h) P) : RQ G mL_law d 1977 [x0, x1, x2, x3, x4, x5, x6, x7, x8] (S) h P := q_iconst (M := mL_law) (pc := 1977) dL_law_1977 (by decide) r
theorem tL_law_1978 {x y : Int32} (r : RQ G mL_law d 1979 [x0, x1, x2, x3, x4, x5, x6, x7, x8] (.int (x + y) :: S) (h) P) : RQ G mL_law d 1978 [x0, x1, x2, x3, x4, x5, x6, x7, x8] (.int y :: .int x :: S) h P := q_iadd (M := mL_law) (pc := 1978) dL_law_1978 r
theorem tL_law_1979 {j : Nat} {x : Int32} (hx : x = nI j) (hj : j < gN G) (hn : gN G < 2147483648) (r : RQ G mL_law d 1980 [x0, x1, x2, x3, x4, x5, x6, x7, x8] (.int (gX G j) :: S) (h) P) : RQ G mL_law d 1979 [x0, x1, x2, x3, x4, x5, x6, x7, x8] (.int x :: .ref (OLD + 999) :: S) h P := q_sld (M := mL_law) (pc := 1979) dL_law_1979 hx hj hn r
theorem tL_law_1980 {k : Nat} (r : RQ G mL_law d 1981 [some (.ref k), x1, x2, x3, x4, x5, x6, x7, x8] (.ref k :: S) (h) P) : RQ G mL_law d 1980 [some (.ref k), x1, x2, x3, x4, x5, x6, x7, x8] (S) h P := q_aload_n (M := mL_law) (pc := 1980) (r0 := some k) dL_law_1980 rfl rfl r
theorem tL_law_1981 {v : Int32} (r : RQ G mL_law d 1983 [x0, x1, x2, x3, some (.int v), x5, x6, x7, x8] (.int v :: S) (h) P) : RQ G mL_law d 1981 [x0, x1, x2, x3, some (.int v), x5, x6, x7, x8] (S) h P := q_iload (M := mL_law) (pc := 1981) dL_law_1981 rfl r
theorem tL_law_1983 (r : RQ G mL_law d 1984 [x0, x1, x2, x3, x4, x5, x6, x7, x8] (.int (nI 2) :: S) (h) P) : RQ G mL_law d 1983 [x0, x1, x2, x3, x4, x5, x6, x7, x8] (S) h P := q_iconst (M := mL_law) (pc := 1983) dL_law_1983 (by decide) r
theorem tL_law_1984 {x y : Int32} (r : RQ G mL_law d 1985 [x0, x1, x2, x3, x4, x5, x6, x7, x8] (.int (x + y) :: S) (h) P) : RQ G mL_law d 1984 [x0, x1, x2, x3, x4, x5, x6, x7, x8] (.int y :: .int x :: S) h P := q_iadd (M := mL_law) (pc := 1984) dL_law_1984 r
theorem tL_law_1985 {j : Nat} {x : Int32} (hx : x = nI j) (hj : j < gN G) (hn : gN G < 2147483648) (r : RQ G mL_law d 1986 [x0, x1, x2, x3, x4, x5, x6, x7, x8] (.int (gX G j) :: S) (h) P) : RQ G mL_law d 1985 [x0, x1, x2, x3, x4, x5, x6, x7, x8] (.int x :: .ref (OLD + 999) :: S) h P := q_sld (M := mL_law) (pc := 1985) dL_law_1985 hx hj hn r
theorem tL_law_1986 {b d2 : Nat} {vs : List Value} {a0 : Int32} {a1 : Int32} {Q : Int32 → AH → Prop} (hd : d2 + 1 ≤ d) (ha : At h b (.inr (10, vs))) (call : RQ G mX12_beansToWin d2 0 [some (.ref b), some (.int a0), some (.int a1)] [] h (Ri Q)) (k : ∀ x h1, Q x h1 → RQ G mL_law d 1989 [x0, x1, x2, x3, x4, x5, x6, x7, x8] (.int x :: S) h1 P) (hst : (S.map fun v => v.category).sum ≤ 8 := by exact Nat.le_of_ble_eq_true rfl)  : RQ G mL_law d 1986 [x0, x1, x2, x3, x4, x5, x6, x7, x8] (.int a1 :: .int a0 :: .ref b :: S) h P := q_callV (M := mL_law) (pc := 1986) (M2 := mX12_beansToWin) (As := [.int a0, .int a1]) (n := 2) dL_law_1986 rfl ⟨by decide, by decide, by decide, rfl⟩ rfl w1928 w1929 w1930 w120 w1931 (show CL[10]? = some (RX12, TX12, 25) from rfl) hd (by decide) (Nat.le_of_ble_eq_true rfl) rfl ha hst call (callk_i k)
theorem tL_law_1989 {v : Int32} (ho : ok1 x5 = true := by rfl) (r : RQ G mL_law d 1991 [x0, x1, x2, x3, x4, x5, some (.int v), x7, x8] (S) (h) P) : RQ G mL_law d 1989 [x0, x1, x2, x3, x4, x5, x6, x7, x8] (.int v :: S) h P := q_istore (M := mL_law) (pc := 1989) dL_law_1989 (Nat.le_of_ble_eq_true rfl) ho r
theorem tL_law_1991 {k : Nat} (r : RQ G mL_law d 1992 [x0, x1, some (.ref k), x3, x4, x5, x6, x7, x8] (.ref k :: S) (h) P) : RQ G mL_law d 1991 [x0, x1, some (.ref k), x3, x4, x5, x6, x7, x8] (S) h P := q_aload_n (M := mL_law) (pc := 1991) (r0 := some k) dL_law_1991 rfl rfl r
theorem tL_law_1992 {b d2 : Nat} {vs : List Value}  {Q : Int32 → AH → Prop} (hd : d2 + 1 ≤ d) (ha : At h b (.inr (10, vs))) (call : RQ G mX12_thrown d2 0 [some (.ref b)] [] h (Ri Q)) (k : ∀ x h1, Q x h1 → RQ G mL_law d 1995 [x0, x1, x2, x3, x4, x5, x6, x7, x8] (.int x :: S) h1 P) (hst : (S.map fun v => v.category).sum ≤ 8 := by exact Nat.le_of_ble_eq_true rfl)  : RQ G mL_law d 1992 [x0, x1, x2, x3, x4, x5, x6, x7, x8] (.ref b :: S) h P := q_callV (M := mL_law) (pc := 1992) (M2 := mX12_thrown) (As := []) (n := 0) dL_law_1992 rfl ⟨by decide, by decide, by decide, rfl⟩ rfl w1499 w1500 w1501 w120 w1502 (show CL[10]? = some (RX12, TX12, 25) from rfl) hd (by decide) (Nat.le_of_ble_eq_true rfl) rfl ha hst call (callk_i k)
theorem tL_law_1995 {v : Int32} (r : RQ G mL_law d 1997 [x0, x1, x2, x3, x4, some (.int v), x6, x7, x8] (.int v :: S) (h) P) : RQ G mL_law d 1995 [x0, x1, x2, x3, x4, some (.int v), x6, x7, x8] (S) h P := q_iload (M := mL_law) (pc := 1995) dL_law_1995 rfl r
theorem tL_law_1997 {x y : Int32} (kt : x = y → RQ G mL_law d 2002 [x0, x1, x2, x3, x4, x5, x6, x7, x8] S h P) (kf : ¬ x = y → RQ G mL_law d 2000 [x0, x1, x2, x3, x4, x5, x6, x7, x8] S h P) : RQ G mL_law d 1997 [x0, x1, x2, x3, x4, x5, x6, x7, x8] (.int y :: .int x :: S) h P := q_icmp_eq (M := mL_law) (pc := 1997) dL_law_1997 (by decide) kt kf
theorem tL_law_2000 (r : RQ G mL_law d 2001 [x0, x1, x2, x3, x4, x5, x6, x7, x8] (.int (nI 0) :: S) (h) P) : RQ G mL_law d 2000 [x0, x1, x2, x3, x4, x5, x6, x7, x8] (S) h P := q_iconst (M := mL_law) (pc := 2000) dL_law_2000 (by decide) r
theorem tL_law_2001 {x : Int32} (hb : x = nI 0 ∨ x = nI 1) (hP : P (.inl (some (.int x))) h) : RQ G mL_law d 2001 [x0, x1, x2, x3, x4, x5, x6, x7, x8] ([.int x]) h P := q_ireturn (M := mL_law) (pc := 2001) (ty := .boolean) dL_law_2001 rfl (nar_bool hb) hP
theorem tL_law_2002 {v : Int32} (r : RQ G mL_law d 2004 [x0, x1, x2, x3, x4, some (.int v), x6, x7, x8] (.int v :: S) (h) P) : RQ G mL_law d 2002 [x0, x1, x2, x3, x4, some (.int v), x6, x7, x8] (S) h P := q_iload (M := mL_law) (pc := 2002) dL_law_2002 rfl r
theorem tL_law_2004 {x : Int32} (kt : ¬ x = 0 → RQ G mL_law d 2019 [x0, x1, x2, x3, x4, x5, x6, x7, x8] S h P) (kf : x = 0 → RQ G mL_law d 2007 [x0, x1, x2, x3, x4, x5, x6, x7, x8] S h P) : RQ G mL_law d 2004 [x0, x1, x2, x3, x4, x5, x6, x7, x8] (.int x :: S) h P := q_if_ne (M := mL_law) (pc := 2004) dL_law_2004 (by decide) kt kf
theorem tL_law_2007 {k : Nat} (r : RQ G mL_law d 2008 [x0, x1, x2, some (.ref k), x4, x5, x6, x7, x8] (.ref k :: S) (h) P) : RQ G mL_law d 2007 [x0, x1, x2, some (.ref k), x4, x5, x6, x7, x8] (S) h P := q_aload_n (M := mL_law) (pc := 2007) (r0 := some k) dL_law_2007 rfl rfl r
theorem tL_law_2008 (r : RQ G mL_law d 2009 [x0, x1, x2, x3, x4, x5, x6, x7, x8] (.int (nI 0) :: S) (h) P) : RQ G mL_law d 2008 [x0, x1, x2, x3, x4, x5, x6, x7, x8] (S) h P := q_iconst (M := mL_law) (pc := 2008) dL_law_2008 (by decide) r
theorem tL_law_2009 {a n j : Nat} {x : Int32} {f : Nat → Int64} (ha : At h a (.inl (2, n, .inr (.inl f)))) (hx : x = nI j) (hj : j < n) (hn : n < 2147483648) (r : RQ G mL_law d 2010 [x0, x1, x2, x3, x4, x5, x6, x7, x8] (.long (f j) :: S) (h) P) : RQ G mL_law d 2009 [x0, x1, x2, x3, x4, x5, x6, x7, x8] (.int x :: .ref a :: S) h P := q_lald (M := mL_law) (pc := 2009) dL_law_2009 ha hx hj hn r
theorem tL_law_2010 {v : Int32} (r : RQ G mL_law d 2012 [x0, x1, x2, x3, x4, x5, some (.int v), x7, x8] (.int v :: S) (h) P) : RQ G mL_law d 2010 [x0, x1, x2, x3, x4, x5, some (.int v), x7, x8] (S) h P := q_iload (M := mL_law) (pc := 2010) dL_law_2010 rfl r
theorem tL_law_2012 {x : Int32} (r : RQ G mL_law d 2013 [x0, x1, x2, x3, x4, x5, x6, x7, x8] (.long x.toInt64 :: S) (h) P) : RQ G mL_law d 2012 [x0, x1, x2, x3, x4, x5, x6, x7, x8] (.int x :: S) h P := q_i2l (M := mL_law) (pc := 2012) dL_law_2012 r
theorem tL_law_2013 {x y : Int64} (r : RQ G mL_law d 2014 [x0, x1, x2, x3, x4, x5, x6, x7, x8] (.int (lg_cmp x y) :: S) (h) P) : RQ G mL_law d 2013 [x0, x1, x2, x3, x4, x5, x6, x7, x8] (.long y :: .long x :: S) h P := q_lcmp (M := mL_law) (pc := 2013) dL_law_2013 r
theorem tL_law_2014 {x : Int32} (kt : x = 0 → RQ G mL_law d 2019 [x0, x1, x2, x3, x4, x5, x6, x7, x8] S h P) (kf : ¬ x = 0 → RQ G mL_law d 2017 [x0, x1, x2, x3, x4, x5, x6, x7, x8] S h P) : RQ G mL_law d 2014 [x0, x1, x2, x3, x4, x5, x6, x7, x8] (.int x :: S) h P := q_if_eq (M := mL_law) (pc := 2014) dL_law_2014 (by decide) kt kf
theorem tL_law_2017 (r : RQ G mL_law d 2018 [x0, x1, x2, x3, x4, x5, x6, x7, x8] (.int (nI 0) :: S) (h) P) : RQ G mL_law d 2017 [x0, x1, x2, x3, x4, x5, x6, x7, x8] (S) h P := q_iconst (M := mL_law) (pc := 2017) dL_law_2017 (by decide) r
theorem tL_law_2018 {x : Int32} (hb : x = nI 0 ∨ x = nI 1) (hP : P (.inl (some (.int x))) h) : RQ G mL_law d 2018 [x0, x1, x2, x3, x4, x5, x6, x7, x8] ([.int x]) h P := q_ireturn (M := mL_law) (pc := 2018) (ty := .boolean) dL_law_2018 rfl (nar_bool hb) hP
theorem tL_law_2019 (r : RQ G mL_law d 2189 [x0, x1, x2, x3, x4, x5, x6, x7, x8] S h P) : RQ G mL_law d 2019 [x0, x1, x2, x3, x4, x5, x6, x7, x8] (S) h P := q_goto (M := mL_law) (pc := 2019) dL_law_2019 (by decide) r
theorem tL_law_2022 {k : Nat} (r : RQ G mL_law d 2023 [x0, some (.ref k), x2, x3, x4, x5, x6, x7, x8] (.ref k :: S) (h) P) : RQ G mL_law d 2022 [x0, some (.ref k), x2, x3, x4, x5, x6, x7, x8] (S) h P := q_aload_n (M := mL_law) (pc := 2022) (r0 := some k) dL_law_2022 rfl rfl r
theorem tL_law_2023 {k : Nat} (r : RQ G mL_law d 2024 [some (.ref k), x1, x2, x3, x4, x5, x6, x7, x8] (.ref k :: S) (h) P) : RQ G mL_law d 2023 [some (.ref k), x1, x2, x3, x4, x5, x6, x7, x8] (S) h P := q_aload_n (M := mL_law) (pc := 2023) (r0 := some k) dL_law_2023 rfl rfl r
theorem tL_law_2024 {v : Int32} (r : RQ G mL_law d 2026 [x0, x1, x2, x3, some (.int v), x5, x6, x7, x8] (.int v :: S) (h) P) : RQ G mL_law d 2024 [x0, x1, x2, x3, some (.int v), x5, x6, x7, x8] (S) h P := q_iload (M := mL_law) (pc := 2024) dL_law_2024 rfl r
theorem tL_law_2026 (r : RQ G mL_law d 2027 [x0, x1, x2, x3, x4, x5, x6, x7, x8] (.int (nI 1) :: S) (h) P) : RQ G mL_law d 2026 [x0, x1, x2, x3, x4, x5, x6, x7, x8] (S) h P := q_iconst (M := mL_law) (pc := 2026) dL_law_2026 (by decide) r
theorem tL_law_2027 {x y : Int32} (r : RQ G mL_law d 2028 [x0, x1, x2, x3, x4, x5, x6, x7, x8] (.int (x + y) :: S) (h) P) : RQ G mL_law d 2027 [x0, x1, x2, x3, x4, x5, x6, x7, x8] (.int y :: .int x :: S) h P := q_iadd (M := mL_law) (pc := 2027) dL_law_2027 r
theorem tL_law_2028 {j : Nat} {x : Int32} (hx : x = nI j) (hj : j < gN G) (hn : gN G < 2147483648) (r : RQ G mL_law d 2029 [x0, x1, x2, x3, x4, x5, x6, x7, x8] (.int (gX G j) :: S) (h) P) : RQ G mL_law d 2028 [x0, x1, x2, x3, x4, x5, x6, x7, x8] (.int x :: .ref (OLD + 999) :: S) h P := q_sld (M := mL_law) (pc := 2028) dL_law_2028 hx hj hn r
theorem tL_law_2029 {k : Nat} (r : RQ G mL_law d 2030 [x0, x1, x2, some (.ref k), x4, x5, x6, x7, x8] (.ref k :: S) (h) P) : RQ G mL_law d 2029 [x0, x1, x2, some (.ref k), x4, x5, x6, x7, x8] (S) h P := q_aload_n (M := mL_law) (pc := 2029) (r0 := some k) dL_law_2029 rfl rfl r
theorem tL_law_2030 {d2 : Nat} {a0 : Nat} {a1 : Int32} {a2 : Nat} {Q : Int32 → AH → Prop} (hd : d2 + 1 ≤ d) (call : RQ G mL_bestJarFor d2 0 [some (.ref a0), some (.int a1), some (.ref a2), none] [] h (Ri Q)) (k : ∀ x h1, Q x h1 → RQ G mL_law d 2033 [x0, x1, x2, x3, x4, x5, x6, x7, x8] (.int x :: S) h1 P) (hst : (S.map fun v => v.category).sum ≤ 8 := by exact Nat.le_of_ble_eq_true rfl)  : RQ G mL_law d 2030 [x0, x1, x2, x3, x4, x5, x6, x7, x8] (.ref a2 :: .int a1 :: .ref a0 :: S) h P := q_callSW (M := mL_law) (pc := 2030) (M2 := mL_bestJarFor) (As := [.ref a0, .int a1, .ref a2]) (n := 3) dL_law_2030 ⟨by decide, by decide, by decide, rfl⟩ w1299 w1300 w108 w1301 hd (by decide) (Nat.le_of_ble_eq_true rfl) rfl hst call (callk_i k)
theorem tL_law_2033 {v : Int32} (ho : ok1 x4 = true := by rfl) (r : RQ G mL_law d 2035 [x0, x1, x2, x3, x4, some (.int v), x6, x7, x8] (S) (h) P) : RQ G mL_law d 2033 [x0, x1, x2, x3, x4, x5, x6, x7, x8] (.int v :: S) h P := q_istore (M := mL_law) (pc := 2033) dL_law_2033 (Nat.le_of_ble_eq_true rfl) ho r
theorem tL_law_2035 {k : Nat} (r : RQ G mL_law d 2036 [x0, x1, some (.ref k), x3, x4, x5, x6, x7, x8] (.ref k :: S) (h) P) : RQ G mL_law d 2035 [x0, x1, some (.ref k), x3, x4, x5, x6, x7, x8] (S) h P := q_aload_n (M := mL_law) (pc := 2035) (r0 := some k) dL_law_2035 rfl rfl r
theorem tL_law_2036 {k : Nat} (r : RQ G mL_law d 2037 [some (.ref k), x1, x2, x3, x4, x5, x6, x7, x8] (.ref k :: S) (h) P) : RQ G mL_law d 2036 [some (.ref k), x1, x2, x3, x4, x5, x6, x7, x8] (S) h P := q_aload_n (M := mL_law) (pc := 2036) (r0 := some k) dL_law_2036 rfl rfl r
theorem tL_law_2037 {v : Int32} (r : RQ G mL_law d 2039 [x0, x1, x2, x3, some (.int v), x5, x6, x7, x8] (.int v :: S) (h) P) : RQ G mL_law d 2037 [x0, x1, x2, x3, some (.int v), x5, x6, x7, x8] (S) h P := q_iload (M := mL_law) (pc := 2037) dL_law_2037 rfl r
theorem tL_law_2039 (r : RQ G mL_law d 2040 [x0, x1, x2, x3, x4, x5, x6, x7, x8] (.int (nI 1) :: S) (h) P) : RQ G mL_law d 2039 [x0, x1, x2, x3, x4, x5, x6, x7, x8] (S) h P := q_iconst (M := mL_law) (pc := 2039) dL_law_2039 (by decide) r
theorem tL_law_2040 {x y : Int32} (r : RQ G mL_law d 2041 [x0, x1, x2, x3, x4, x5, x6, x7, x8] (.int (x + y) :: S) (h) P) : RQ G mL_law d 2040 [x0, x1, x2, x3, x4, x5, x6, x7, x8] (.int y :: .int x :: S) h P := q_iadd (M := mL_law) (pc := 2040) dL_law_2040 r
theorem tL_law_2041 {j : Nat} {x : Int32} (hx : x = nI j) (hj : j < gN G) (hn : gN G < 2147483648) (r : RQ G mL_law d 2042 [x0, x1, x2, x3, x4, x5, x6, x7, x8] (.int (gX G j) :: S) (h) P) : RQ G mL_law d 2041 [x0, x1, x2, x3, x4, x5, x6, x7, x8] (.int x :: .ref (OLD + 999) :: S) h P := q_sld (M := mL_law) (pc := 2041) dL_law_2041 hx hj hn r
theorem tL_law_2042 {b d2 : Nat} {vs : List Value} {a0 : Int32} {Q : Int32 → AH → Prop} (hd : d2 + 1 ≤ d) (ha : At h b (.inr (10, vs))) (call : RQ G mX12_bestJarFor d2 0 [some (.ref b), some (.int a0)] [] h (Ri Q)) (k : ∀ x h1, Q x h1 → RQ G mL_law d 2045 [x0, x1, x2, x3, x4, x5, x6, x7, x8] (.int x :: S) h1 P) (hst : (S.map fun v => v.category).sum ≤ 8 := by exact Nat.le_of_ble_eq_true rfl)  : RQ G mL_law d 2042 [x0, x1, x2, x3, x4, x5, x6, x7, x8] (.int a0 :: .ref b :: S) h P := q_callV (M := mL_law) (pc := 2042) (M2 := mX12_bestJarFor) (As := [.int a0]) (n := 1) dL_law_2042 rfl ⟨by decide, by decide, by decide, rfl⟩ rfl w1936 w1937 w1938 w120 w1939 (show CL[10]? = some (RX12, TX12, 25) from rfl) hd (by decide) (Nat.le_of_ble_eq_true rfl) rfl ha hst call (callk_i k)
theorem tL_law_2045 {v : Int32} (ho : ok1 x5 = true := by rfl) (r : RQ G mL_law d 2047 [x0, x1, x2, x3, x4, x5, some (.int v), x7, x8] (S) (h) P) : RQ G mL_law d 2045 [x0, x1, x2, x3, x4, x5, x6, x7, x8] (.int v :: S) h P := q_istore (M := mL_law) (pc := 2045) dL_law_2045 (Nat.le_of_ble_eq_true rfl) ho r
theorem tL_law_2047 {k : Nat} (r : RQ G mL_law d 2048 [x0, x1, some (.ref k), x3, x4, x5, x6, x7, x8] (.ref k :: S) (h) P) : RQ G mL_law d 2047 [x0, x1, some (.ref k), x3, x4, x5, x6, x7, x8] (S) h P := q_aload_n (M := mL_law) (pc := 2047) (r0 := some k) dL_law_2047 rfl rfl r
theorem tL_law_2048 {b d2 : Nat} {vs : List Value}  {Q : Int32 → AH → Prop} (hd : d2 + 1 ≤ d) (ha : At h b (.inr (10, vs))) (call : RQ G mX12_thrown d2 0 [some (.ref b)] [] h (Ri Q)) (k : ∀ x h1, Q x h1 → RQ G mL_law d 2051 [x0, x1, x2, x3, x4, x5, x6, x7, x8] (.int x :: S) h1 P) (hst : (S.map fun v => v.category).sum ≤ 8 := by exact Nat.le_of_ble_eq_true rfl)  : RQ G mL_law d 2048 [x0, x1, x2, x3, x4, x5, x6, x7, x8] (.ref b :: S) h P := q_callV (M := mL_law) (pc := 2048) (M2 := mX12_thrown) (As := []) (n := 0) dL_law_2048 rfl ⟨by decide, by decide, by decide, rfl⟩ rfl w1499 w1500 w1501 w120 w1502 (show CL[10]? = some (RX12, TX12, 25) from rfl) hd (by decide) (Nat.le_of_ble_eq_true rfl) rfl ha hst call (callk_i k)
theorem tL_law_2051 {v : Int32} (r : RQ G mL_law d 2053 [x0, x1, x2, x3, x4, some (.int v), x6, x7, x8] (.int v :: S) (h) P) : RQ G mL_law d 2051 [x0, x1, x2, x3, x4, some (.int v), x6, x7, x8] (S) h P := q_iload (M := mL_law) (pc := 2051) dL_law_2051 rfl r
theorem tL_law_2053 {x y : Int32} (kt : x = y → RQ G mL_law d 2058 [x0, x1, x2, x3, x4, x5, x6, x7, x8] S h P) (kf : ¬ x = y → RQ G mL_law d 2056 [x0, x1, x2, x3, x4, x5, x6, x7, x8] S h P) : RQ G mL_law d 2053 [x0, x1, x2, x3, x4, x5, x6, x7, x8] (.int y :: .int x :: S) h P := q_icmp_eq (M := mL_law) (pc := 2053) dL_law_2053 (by decide) kt kf
theorem tL_law_2056 (r : RQ G mL_law d 2057 [x0, x1, x2, x3, x4, x5, x6, x7, x8] (.int (nI 0) :: S) (h) P) : RQ G mL_law d 2056 [x0, x1, x2, x3, x4, x5, x6, x7, x8] (S) h P := q_iconst (M := mL_law) (pc := 2056) dL_law_2056 (by decide) r
theorem tL_law_2057 {x : Int32} (hb : x = nI 0 ∨ x = nI 1) (hP : P (.inl (some (.int x))) h) : RQ G mL_law d 2057 [x0, x1, x2, x3, x4, x5, x6, x7, x8] ([.int x]) h P := q_ireturn (M := mL_law) (pc := 2057) (ty := .boolean) dL_law_2057 rfl (nar_bool hb) hP
theorem tL_law_2058 {v : Int32} (r : RQ G mL_law d 2060 [x0, x1, x2, x3, x4, some (.int v), x6, x7, x8] (.int v :: S) (h) P) : RQ G mL_law d 2058 [x0, x1, x2, x3, x4, some (.int v), x6, x7, x8] (S) h P := q_iload (M := mL_law) (pc := 2058) dL_law_2058 rfl r
theorem tL_law_2060 {x : Int32} (kt : ¬ x = 0 → RQ G mL_law d 2075 [x0, x1, x2, x3, x4, x5, x6, x7, x8] S h P) (kf : x = 0 → RQ G mL_law d 2063 [x0, x1, x2, x3, x4, x5, x6, x7, x8] S h P) : RQ G mL_law d 2060 [x0, x1, x2, x3, x4, x5, x6, x7, x8] (.int x :: S) h P := q_if_ne (M := mL_law) (pc := 2060) dL_law_2060 (by decide) kt kf
theorem tL_law_2063 {k : Nat} (r : RQ G mL_law d 2064 [x0, x1, x2, some (.ref k), x4, x5, x6, x7, x8] (.ref k :: S) (h) P) : RQ G mL_law d 2063 [x0, x1, x2, some (.ref k), x4, x5, x6, x7, x8] (S) h P := q_aload_n (M := mL_law) (pc := 2063) (r0 := some k) dL_law_2063 rfl rfl r
theorem tL_law_2064 (r : RQ G mL_law d 2065 [x0, x1, x2, x3, x4, x5, x6, x7, x8] (.int (nI 0) :: S) (h) P) : RQ G mL_law d 2064 [x0, x1, x2, x3, x4, x5, x6, x7, x8] (S) h P := q_iconst (M := mL_law) (pc := 2064) dL_law_2064 (by decide) r
theorem tL_law_2065 {a n j : Nat} {x : Int32} {f : Nat → Int64} (ha : At h a (.inl (2, n, .inr (.inl f)))) (hx : x = nI j) (hj : j < n) (hn : n < 2147483648) (r : RQ G mL_law d 2066 [x0, x1, x2, x3, x4, x5, x6, x7, x8] (.long (f j) :: S) (h) P) : RQ G mL_law d 2065 [x0, x1, x2, x3, x4, x5, x6, x7, x8] (.int x :: .ref a :: S) h P := q_lald (M := mL_law) (pc := 2065) dL_law_2065 ha hx hj hn r
theorem tL_law_2066 {v : Int32} (r : RQ G mL_law d 2068 [x0, x1, x2, x3, x4, x5, some (.int v), x7, x8] (.int v :: S) (h) P) : RQ G mL_law d 2066 [x0, x1, x2, x3, x4, x5, some (.int v), x7, x8] (S) h P := q_iload (M := mL_law) (pc := 2066) dL_law_2066 rfl r
theorem tL_law_2068 {x : Int32} (r : RQ G mL_law d 2069 [x0, x1, x2, x3, x4, x5, x6, x7, x8] (.long x.toInt64 :: S) (h) P) : RQ G mL_law d 2068 [x0, x1, x2, x3, x4, x5, x6, x7, x8] (.int x :: S) h P := q_i2l (M := mL_law) (pc := 2068) dL_law_2068 r
theorem tL_law_2069 {x y : Int64} (r : RQ G mL_law d 2070 [x0, x1, x2, x3, x4, x5, x6, x7, x8] (.int (lg_cmp x y) :: S) (h) P) : RQ G mL_law d 2069 [x0, x1, x2, x3, x4, x5, x6, x7, x8] (.long y :: .long x :: S) h P := q_lcmp (M := mL_law) (pc := 2069) dL_law_2069 r
theorem tL_law_2070 {x : Int32} (kt : x = 0 → RQ G mL_law d 2075 [x0, x1, x2, x3, x4, x5, x6, x7, x8] S h P) (kf : ¬ x = 0 → RQ G mL_law d 2073 [x0, x1, x2, x3, x4, x5, x6, x7, x8] S h P) : RQ G mL_law d 2070 [x0, x1, x2, x3, x4, x5, x6, x7, x8] (.int x :: S) h P := q_if_eq (M := mL_law) (pc := 2070) dL_law_2070 (by decide) kt kf
theorem tL_law_2073 (r : RQ G mL_law d 2074 [x0, x1, x2, x3, x4, x5, x6, x7, x8] (.int (nI 0) :: S) (h) P) : RQ G mL_law d 2073 [x0, x1, x2, x3, x4, x5, x6, x7, x8] (S) h P := q_iconst (M := mL_law) (pc := 2073) dL_law_2073 (by decide) r
theorem tL_law_2074 {x : Int32} (hb : x = nI 0 ∨ x = nI 1) (hP : P (.inl (some (.int x))) h) : RQ G mL_law d 2074 [x0, x1, x2, x3, x4, x5, x6, x7, x8] ([.int x]) h P := q_ireturn (M := mL_law) (pc := 2074) (ty := .boolean) dL_law_2074 rfl (nar_bool hb) hP
theorem tL_law_2075 (r : RQ G mL_law d 2189 [x0, x1, x2, x3, x4, x5, x6, x7, x8] S h P) : RQ G mL_law d 2075 [x0, x1, x2, x3, x4, x5, x6, x7, x8] (S) h P := q_goto (M := mL_law) (pc := 2075) dL_law_2075 (by decide) r
theorem tL_law_2078 {k : Nat} (r : RQ G mL_law d 2079 [x0, some (.ref k), x2, x3, x4, x5, x6, x7, x8] (.ref k :: S) (h) P) : RQ G mL_law d 2078 [x0, some (.ref k), x2, x3, x4, x5, x6, x7, x8] (S) h P := q_aload_n (M := mL_law) (pc := 2078) (r0 := some k) dL_law_2078 rfl rfl r
theorem tL_law_2079 {k : Nat} (r : RQ G mL_law d 2080 [some (.ref k), x1, x2, x3, x4, x5, x6, x7, x8] (.ref k :: S) (h) P) : RQ G mL_law d 2079 [some (.ref k), x1, x2, x3, x4, x5, x6, x7, x8] (S) h P := q_aload_n (M := mL_law) (pc := 2079) (r0 := some k) dL_law_2079 rfl rfl r
theorem tL_law_2080 {v : Int32} (r : RQ G mL_law d 2082 [x0, x1, x2, x3, some (.int v), x5, x6, x7, x8] (.int v :: S) (h) P) : RQ G mL_law d 2080 [x0, x1, x2, x3, some (.int v), x5, x6, x7, x8] (S) h P := q_iload (M := mL_law) (pc := 2080) dL_law_2080 rfl r
theorem tL_law_2082 (r : RQ G mL_law d 2083 [x0, x1, x2, x3, x4, x5, x6, x7, x8] (.int (nI 1) :: S) (h) P) : RQ G mL_law d 2082 [x0, x1, x2, x3, x4, x5, x6, x7, x8] (S) h P := q_iconst (M := mL_law) (pc := 2082) dL_law_2082 (by decide) r
theorem tL_law_2083 {x y : Int32} (r : RQ G mL_law d 2084 [x0, x1, x2, x3, x4, x5, x6, x7, x8] (.int (x + y) :: S) (h) P) : RQ G mL_law d 2083 [x0, x1, x2, x3, x4, x5, x6, x7, x8] (.int y :: .int x :: S) h P := q_iadd (M := mL_law) (pc := 2083) dL_law_2083 r
theorem tL_law_2084 {j : Nat} {x : Int32} (hx : x = nI j) (hj : j < gN G) (hn : gN G < 2147483648) (r : RQ G mL_law d 2085 [x0, x1, x2, x3, x4, x5, x6, x7, x8] (.int (gX G j) :: S) (h) P) : RQ G mL_law d 2084 [x0, x1, x2, x3, x4, x5, x6, x7, x8] (.int x :: .ref (OLD + 999) :: S) h P := q_sld (M := mL_law) (pc := 2084) dL_law_2084 hx hj hn r
theorem tL_law_2085 {k : Nat} (r : RQ G mL_law d 2086 [x0, x1, x2, some (.ref k), x4, x5, x6, x7, x8] (.ref k :: S) (h) P) : RQ G mL_law d 2085 [x0, x1, x2, some (.ref k), x4, x5, x6, x7, x8] (S) h P := q_aload_n (M := mL_law) (pc := 2085) (r0 := some k) dL_law_2085 rfl rfl r
theorem tL_law_2086 {d2 : Nat} {a0 : Nat} {a1 : Int32} {a2 : Nat} {Q : Int32 → AH → Prop} (hd : d2 + 1 ≤ d) (call : RQ G mL_firstShaken d2 0 [some (.ref a0), some (.int a1), some (.ref a2), none] [] h (Ri Q)) (k : ∀ x h1, Q x h1 → RQ G mL_law d 2089 [x0, x1, x2, x3, x4, x5, x6, x7, x8] (.int x :: S) h1 P) (hst : (S.map fun v => v.category).sum ≤ 8 := by exact Nat.le_of_ble_eq_true rfl)  : RQ G mL_law d 2086 [x0, x1, x2, x3, x4, x5, x6, x7, x8] (.ref a2 :: .int a1 :: .ref a0 :: S) h P := q_callSW (M := mL_law) (pc := 2086) (M2 := mL_firstShaken) (As := [.ref a0, .int a1, .ref a2]) (n := 3) dL_law_2086 ⟨by decide, by decide, by decide, rfl⟩ w1303 w1304 w108 w1305 hd (by decide) (Nat.le_of_ble_eq_true rfl) rfl hst call (callk_i k)
theorem tL_law_2089 {v : Int32} (ho : ok1 x4 = true := by rfl) (r : RQ G mL_law d 2091 [x0, x1, x2, x3, x4, some (.int v), x6, x7, x8] (S) (h) P) : RQ G mL_law d 2089 [x0, x1, x2, x3, x4, x5, x6, x7, x8] (.int v :: S) h P := q_istore (M := mL_law) (pc := 2089) dL_law_2089 (Nat.le_of_ble_eq_true rfl) ho r
theorem tL_law_2091 {k : Nat} (r : RQ G mL_law d 2092 [x0, x1, some (.ref k), x3, x4, x5, x6, x7, x8] (.ref k :: S) (h) P) : RQ G mL_law d 2091 [x0, x1, some (.ref k), x3, x4, x5, x6, x7, x8] (S) h P := q_aload_n (M := mL_law) (pc := 2091) (r0 := some k) dL_law_2091 rfl rfl r
theorem tL_law_2092 {k : Nat} (r : RQ G mL_law d 2093 [some (.ref k), x1, x2, x3, x4, x5, x6, x7, x8] (.ref k :: S) (h) P) : RQ G mL_law d 2092 [some (.ref k), x1, x2, x3, x4, x5, x6, x7, x8] (S) h P := q_aload_n (M := mL_law) (pc := 2092) (r0 := some k) dL_law_2092 rfl rfl r
theorem tL_law_2093 {v : Int32} (r : RQ G mL_law d 2095 [x0, x1, x2, x3, some (.int v), x5, x6, x7, x8] (.int v :: S) (h) P) : RQ G mL_law d 2093 [x0, x1, x2, x3, some (.int v), x5, x6, x7, x8] (S) h P := q_iload (M := mL_law) (pc := 2093) dL_law_2093 rfl r
theorem tL_law_2095 (r : RQ G mL_law d 2096 [x0, x1, x2, x3, x4, x5, x6, x7, x8] (.int (nI 1) :: S) (h) P) : RQ G mL_law d 2095 [x0, x1, x2, x3, x4, x5, x6, x7, x8] (S) h P := q_iconst (M := mL_law) (pc := 2095) dL_law_2095 (by decide) r
theorem tL_law_2096 {x y : Int32} (r : RQ G mL_law d 2097 [x0, x1, x2, x3, x4, x5, x6, x7, x8] (.int (x + y) :: S) (h) P) : RQ G mL_law d 2096 [x0, x1, x2, x3, x4, x5, x6, x7, x8] (.int y :: .int x :: S) h P := q_iadd (M := mL_law) (pc := 2096) dL_law_2096 r
theorem tL_law_2097 {j : Nat} {x : Int32} (hx : x = nI j) (hj : j < gN G) (hn : gN G < 2147483648) (r : RQ G mL_law d 2098 [x0, x1, x2, x3, x4, x5, x6, x7, x8] (.int (gX G j) :: S) (h) P) : RQ G mL_law d 2097 [x0, x1, x2, x3, x4, x5, x6, x7, x8] (.int x :: .ref (OLD + 999) :: S) h P := q_sld (M := mL_law) (pc := 2097) dL_law_2097 hx hj hn r
theorem tL_law_2098 {b d2 : Nat} {vs : List Value} {a0 : Int32} {Q : Int32 → AH → Prop} (hd : d2 + 1 ≤ d) (ha : At h b (.inr (10, vs))) (call : RQ G mX12_firstShaken d2 0 [some (.ref b), some (.int a0)] [] h (Ri Q)) (k : ∀ x h1, Q x h1 → RQ G mL_law d 2101 [x0, x1, x2, x3, x4, x5, x6, x7, x8] (.int x :: S) h1 P) (hst : (S.map fun v => v.category).sum ≤ 8 := by exact Nat.le_of_ble_eq_true rfl)  : RQ G mL_law d 2098 [x0, x1, x2, x3, x4, x5, x6, x7, x8] (.int a0 :: .ref b :: S) h P := q_callV (M := mL_law) (pc := 2098) (M2 := mX12_firstShaken) (As := [.int a0]) (n := 1) dL_law_2098 rfl ⟨by decide, by decide, by decide, rfl⟩ rfl w1944 w1945 w1946 w120 w1947 (show CL[10]? = some (RX12, TX12, 25) from rfl) hd (by decide) (Nat.le_of_ble_eq_true rfl) rfl ha hst call (callk_i k)
theorem tL_law_2101 {v : Int32} (ho : ok1 x5 = true := by rfl) (r : RQ G mL_law d 2103 [x0, x1, x2, x3, x4, x5, some (.int v), x7, x8] (S) (h) P) : RQ G mL_law d 2101 [x0, x1, x2, x3, x4, x5, x6, x7, x8] (.int v :: S) h P := q_istore (M := mL_law) (pc := 2101) dL_law_2101 (Nat.le_of_ble_eq_true rfl) ho r
theorem tL_law_2103 {k : Nat} (r : RQ G mL_law d 2104 [x0, x1, some (.ref k), x3, x4, x5, x6, x7, x8] (.ref k :: S) (h) P) : RQ G mL_law d 2103 [x0, x1, some (.ref k), x3, x4, x5, x6, x7, x8] (S) h P := q_aload_n (M := mL_law) (pc := 2103) (r0 := some k) dL_law_2103 rfl rfl r
theorem tL_law_2104 {b d2 : Nat} {vs : List Value}  {Q : Int32 → AH → Prop} (hd : d2 + 1 ≤ d) (ha : At h b (.inr (10, vs))) (call : RQ G mX12_thrown d2 0 [some (.ref b)] [] h (Ri Q)) (k : ∀ x h1, Q x h1 → RQ G mL_law d 2107 [x0, x1, x2, x3, x4, x5, x6, x7, x8] (.int x :: S) h1 P) (hst : (S.map fun v => v.category).sum ≤ 8 := by exact Nat.le_of_ble_eq_true rfl)  : RQ G mL_law d 2104 [x0, x1, x2, x3, x4, x5, x6, x7, x8] (.ref b :: S) h P := q_callV (M := mL_law) (pc := 2104) (M2 := mX12_thrown) (As := []) (n := 0) dL_law_2104 rfl ⟨by decide, by decide, by decide, rfl⟩ rfl w1499 w1500 w1501 w120 w1502 (show CL[10]? = some (RX12, TX12, 25) from rfl) hd (by decide) (Nat.le_of_ble_eq_true rfl) rfl ha hst call (callk_i k)
theorem tL_law_2107 {v : Int32} (r : RQ G mL_law d 2109 [x0, x1, x2, x3, x4, some (.int v), x6, x7, x8] (.int v :: S) (h) P) : RQ G mL_law d 2107 [x0, x1, x2, x3, x4, some (.int v), x6, x7, x8] (S) h P := q_iload (M := mL_law) (pc := 2107) dL_law_2107 rfl r
theorem tL_law_2109 {x y : Int32} (kt : x = y → RQ G mL_law d 2114 [x0, x1, x2, x3, x4, x5, x6, x7, x8] S h P) (kf : ¬ x = y → RQ G mL_law d 2112 [x0, x1, x2, x3, x4, x5, x6, x7, x8] S h P) : RQ G mL_law d 2109 [x0, x1, x2, x3, x4, x5, x6, x7, x8] (.int y :: .int x :: S) h P := q_icmp_eq (M := mL_law) (pc := 2109) dL_law_2109 (by decide) kt kf
theorem tL_law_2112 (r : RQ G mL_law d 2113 [x0, x1, x2, x3, x4, x5, x6, x7, x8] (.int (nI 0) :: S) (h) P) : RQ G mL_law d 2112 [x0, x1, x2, x3, x4, x5, x6, x7, x8] (S) h P := q_iconst (M := mL_law) (pc := 2112) dL_law_2112 (by decide) r
theorem tL_law_2113 {x : Int32} (hb : x = nI 0 ∨ x = nI 1) (hP : P (.inl (some (.int x))) h) : RQ G mL_law d 2113 [x0, x1, x2, x3, x4, x5, x6, x7, x8] ([.int x]) h P := q_ireturn (M := mL_law) (pc := 2113) (ty := .boolean) dL_law_2113 rfl (nar_bool hb) hP
theorem tL_law_2114 {v : Int32} (r : RQ G mL_law d 2116 [x0, x1, x2, x3, x4, some (.int v), x6, x7, x8] (.int v :: S) (h) P) : RQ G mL_law d 2114 [x0, x1, x2, x3, x4, some (.int v), x6, x7, x8] (S) h P := q_iload (M := mL_law) (pc := 2114) dL_law_2114 rfl r
theorem tL_law_2116 {x : Int32} (kt : ¬ x = 0 → RQ G mL_law d 2131 [x0, x1, x2, x3, x4, x5, x6, x7, x8] S h P) (kf : x = 0 → RQ G mL_law d 2119 [x0, x1, x2, x3, x4, x5, x6, x7, x8] S h P) : RQ G mL_law d 2116 [x0, x1, x2, x3, x4, x5, x6, x7, x8] (.int x :: S) h P := q_if_ne (M := mL_law) (pc := 2116) dL_law_2116 (by decide) kt kf
theorem tL_law_2119 {k : Nat} (r : RQ G mL_law d 2120 [x0, x1, x2, some (.ref k), x4, x5, x6, x7, x8] (.ref k :: S) (h) P) : RQ G mL_law d 2119 [x0, x1, x2, some (.ref k), x4, x5, x6, x7, x8] (S) h P := q_aload_n (M := mL_law) (pc := 2119) (r0 := some k) dL_law_2119 rfl rfl r
theorem tL_law_2120 (r : RQ G mL_law d 2121 [x0, x1, x2, x3, x4, x5, x6, x7, x8] (.int (nI 0) :: S) (h) P) : RQ G mL_law d 2120 [x0, x1, x2, x3, x4, x5, x6, x7, x8] (S) h P := q_iconst (M := mL_law) (pc := 2120) dL_law_2120 (by decide) r
theorem tL_law_2121 {a n j : Nat} {x : Int32} {f : Nat → Int64} (ha : At h a (.inl (2, n, .inr (.inl f)))) (hx : x = nI j) (hj : j < n) (hn : n < 2147483648) (r : RQ G mL_law d 2122 [x0, x1, x2, x3, x4, x5, x6, x7, x8] (.long (f j) :: S) (h) P) : RQ G mL_law d 2121 [x0, x1, x2, x3, x4, x5, x6, x7, x8] (.int x :: .ref a :: S) h P := q_lald (M := mL_law) (pc := 2121) dL_law_2121 ha hx hj hn r
theorem tL_law_2122 {v : Int32} (r : RQ G mL_law d 2124 [x0, x1, x2, x3, x4, x5, some (.int v), x7, x8] (.int v :: S) (h) P) : RQ G mL_law d 2122 [x0, x1, x2, x3, x4, x5, some (.int v), x7, x8] (S) h P := q_iload (M := mL_law) (pc := 2122) dL_law_2122 rfl r
theorem tL_law_2124 {x : Int32} (r : RQ G mL_law d 2125 [x0, x1, x2, x3, x4, x5, x6, x7, x8] (.long x.toInt64 :: S) (h) P) : RQ G mL_law d 2124 [x0, x1, x2, x3, x4, x5, x6, x7, x8] (.int x :: S) h P := q_i2l (M := mL_law) (pc := 2124) dL_law_2124 r
theorem tL_law_2125 {x y : Int64} (r : RQ G mL_law d 2126 [x0, x1, x2, x3, x4, x5, x6, x7, x8] (.int (lg_cmp x y) :: S) (h) P) : RQ G mL_law d 2125 [x0, x1, x2, x3, x4, x5, x6, x7, x8] (.long y :: .long x :: S) h P := q_lcmp (M := mL_law) (pc := 2125) dL_law_2125 r
theorem tL_law_2126 {x : Int32} (kt : x = 0 → RQ G mL_law d 2131 [x0, x1, x2, x3, x4, x5, x6, x7, x8] S h P) (kf : ¬ x = 0 → RQ G mL_law d 2129 [x0, x1, x2, x3, x4, x5, x6, x7, x8] S h P) : RQ G mL_law d 2126 [x0, x1, x2, x3, x4, x5, x6, x7, x8] (.int x :: S) h P := q_if_eq (M := mL_law) (pc := 2126) dL_law_2126 (by decide) kt kf
theorem tL_law_2129 (r : RQ G mL_law d 2130 [x0, x1, x2, x3, x4, x5, x6, x7, x8] (.int (nI 0) :: S) (h) P) : RQ G mL_law d 2129 [x0, x1, x2, x3, x4, x5, x6, x7, x8] (S) h P := q_iconst (M := mL_law) (pc := 2129) dL_law_2129 (by decide) r
theorem tL_law_2130 {x : Int32} (hb : x = nI 0 ∨ x = nI 1) (hP : P (.inl (some (.int x))) h) : RQ G mL_law d 2130 [x0, x1, x2, x3, x4, x5, x6, x7, x8] ([.int x]) h P := q_ireturn (M := mL_law) (pc := 2130) (ty := .boolean) dL_law_2130 rfl (nar_bool hb) hP
theorem tL_law_2131 (r : RQ G mL_law d 2189 [x0, x1, x2, x3, x4, x5, x6, x7, x8] S h P) : RQ G mL_law d 2131 [x0, x1, x2, x3, x4, x5, x6, x7, x8] (S) h P := q_goto (M := mL_law) (pc := 2131) dL_law_2131 (by decide) r
theorem tL_law_2134 {k : Nat} (r : RQ G mL_law d 2135 [x0, some (.ref k), x2, x3, x4, x5, x6, x7, x8] (.ref k :: S) (h) P) : RQ G mL_law d 2134 [x0, some (.ref k), x2, x3, x4, x5, x6, x7, x8] (S) h P := q_aload_n (M := mL_law) (pc := 2134) (r0 := some k) dL_law_2134 rfl rfl r
theorem tL_law_2135 {b d2 : Nat} {vs : List Value}  {Q : UInt64 → AH → Prop} (hd : d2 + 1 ≤ d) (ha : At h b (.inr (8, vs))) (call : RQ G mX10_meanMargin d2 0 [some (.ref b), none, none] [] h (Rd Q)) (k : ∀ x h1, Q x h1 → RQ G mL_law d 2138 [x0, x1, x2, x3, x4, x5, x6, x7, x8] (.double x :: S) h1 P) (hst : (S.map fun v => v.category).sum ≤ 8 := by exact Nat.le_of_ble_eq_true rfl)  : RQ G mL_law d 2135 [x0, x1, x2, x3, x4, x5, x6, x7, x8] (.ref b :: S) h P := q_callV (M := mL_law) (pc := 2135) (M2 := mX10_meanMargin) (As := []) (n := 0) dL_law_2135 rfl ⟨by decide, by decide, by decide, rfl⟩ rfl w848 w849 w850 w109 w851 (show CL[8]? = some (RX10, TX10, 7) from rfl) hd (by decide) (Nat.le_of_ble_eq_true rfl) rfl ha hst call (callk_d k)
theorem tL_law_2138 {v : UInt64} (ho : ok1 x4 = true := by rfl) (r : RQ G mL_law d 2140 [x0, x1, x2, x3, x4, some (.double v), none, x7, x8] (S) (h) P) : RQ G mL_law d 2138 [x0, x1, x2, x3, x4, x5, x6, x7, x8] (.double v :: S) h P := q_dstore (M := mL_law) (pc := 2138) dL_law_2138 (Nat.le_of_ble_eq_true rfl) ho r
theorem tL_law_2140 {k : Nat} (r : RQ G mL_law d 2141 [x0, x1, some (.ref k), x3, x4, x5, x6, x7, x8] (.ref k :: S) (h) P) : RQ G mL_law d 2140 [x0, x1, some (.ref k), x3, x4, x5, x6, x7, x8] (S) h P := q_aload_n (M := mL_law) (pc := 2140) (r0 := some k) dL_law_2140 rfl rfl r
theorem tL_law_2141 {b d2 : Nat} {vs : List Value}  {Q : UInt64 → AH → Prop} (hd : d2 + 1 ≤ d) (ha : At h b (.inr (10, vs))) (call : RQ G mX12_meanMargin d2 0 [some (.ref b), none, none] [] h (Rd Q)) (k : ∀ x h1, Q x h1 → RQ G mL_law d 2144 [x0, x1, x2, x3, x4, x5, x6, x7, x8] (.double x :: S) h1 P) (hst : (S.map fun v => v.category).sum ≤ 8 := by exact Nat.le_of_ble_eq_true rfl)  : RQ G mL_law d 2141 [x0, x1, x2, x3, x4, x5, x6, x7, x8] (.ref b :: S) h P := q_callV (M := mL_law) (pc := 2141) (M2 := mX12_meanMargin) (As := []) (n := 0) dL_law_2141 rfl ⟨by decide, by decide, by decide, rfl⟩ rfl w1952 w1953 w1954 w120 w1955 (show CL[10]? = some (RX12, TX12, 25) from rfl) hd (by decide) (Nat.le_of_ble_eq_true rfl) rfl ha hst call (callk_d k)
theorem tL_law_2144 {v : UInt64} (ho : ok1 x6 = true := by rfl) (r : RQ G mL_law d 2146 [x0, x1, x2, x3, x4, x5, x6, some (.double v), none] (S) (h) P) : RQ G mL_law d 2144 [x0, x1, x2, x3, x4, x5, x6, x7, x8] (.double v :: S) h P := q_dstore (M := mL_law) (pc := 2144) dL_law_2144 (Nat.le_of_ble_eq_true rfl) ho r
theorem tL_law_2146 {v : UInt64} (r : RQ G mL_law d 2148 [x0, x1, x2, x3, x4, some (.double v), x6, x7, x8] (.double v :: S) (h) P) : RQ G mL_law d 2146 [x0, x1, x2, x3, x4, some (.double v), x6, x7, x8] (S) h P := q_dload (M := mL_law) (pc := 2146) dL_law_2146 rfl r
theorem tL_law_2148 {v : UInt64} (r : RQ G mL_law d 2150 [x0, x1, x2, x3, x4, x5, x6, some (.double v), x8] (.double v :: S) (h) P) : RQ G mL_law d 2148 [x0, x1, x2, x3, x4, x5, x6, some (.double v), x8] (S) h P := q_dload (M := mL_law) (pc := 2148) dL_law_2148 rfl r
theorem tL_law_2150 {x y : UInt64} (r : RQ G mL_law d 2151 [x0, x1, x2, x3, x4, x5, x6, x7, x8] (.int (Op.cmpValue (FP.dcmp x y) .l) :: S) (h) P) : RQ G mL_law d 2150 [x0, x1, x2, x3, x4, x5, x6, x7, x8] (.double y :: .double x :: S) h P := q_dcmp (M := mL_law) (pc := 2150) dL_law_2150 r
theorem tL_law_2151 {x : Int32} (kt : x = 0 → RQ G mL_law d 2172 [x0, x1, x2, x3, x4, x5, x6, x7, x8] S h P) (kf : ¬ x = 0 → RQ G mL_law d 2154 [x0, x1, x2, x3, x4, x5, x6, x7, x8] S h P) : RQ G mL_law d 2151 [x0, x1, x2, x3, x4, x5, x6, x7, x8] (.int x :: S) h P := q_if_eq (M := mL_law) (pc := 2151) dL_law_2151 (by decide) kt kf
theorem tL_law_2154 {v : UInt64} (r : RQ G mL_law d 2156 [x0, x1, x2, x3, x4, some (.double v), x6, x7, x8] (.double v :: S) (h) P) : RQ G mL_law d 2154 [x0, x1, x2, x3, x4, some (.double v), x6, x7, x8] (S) h P := q_dload (M := mL_law) (pc := 2154) dL_law_2154 rfl r
theorem tL_law_2156 {v : UInt64} (r : RQ G mL_law d 2158 [x0, x1, x2, x3, x4, some (.double v), x6, x7, x8] (.double v :: S) (h) P) : RQ G mL_law d 2156 [x0, x1, x2, x3, x4, some (.double v), x6, x7, x8] (S) h P := q_dload (M := mL_law) (pc := 2156) dL_law_2156 rfl r
theorem tL_law_2158 {x y : UInt64} (r : RQ G mL_law d 2159 [x0, x1, x2, x3, x4, x5, x6, x7, x8] (.int (Op.cmpValue (FP.dcmp x y) .l) :: S) (h) P) : RQ G mL_law d 2158 [x0, x1, x2, x3, x4, x5, x6, x7, x8] (.double y :: .double x :: S) h P := q_dcmp (M := mL_law) (pc := 2158) dL_law_2158 r
theorem tL_law_2159 {x : Int32} (kt : x = 0 → RQ G mL_law d 2170 [x0, x1, x2, x3, x4, x5, x6, x7, x8] S h P) (kf : ¬ x = 0 → RQ G mL_law d 2162 [x0, x1, x2, x3, x4, x5, x6, x7, x8] S h P) : RQ G mL_law d 2159 [x0, x1, x2, x3, x4, x5, x6, x7, x8] (.int x :: S) h P := q_if_eq (M := mL_law) (pc := 2159) dL_law_2159 (by decide) kt kf
theorem tL_law_2162 {v : UInt64} (r : RQ G mL_law d 2164 [x0, x1, x2, x3, x4, x5, x6, some (.double v), x8] (.double v :: S) (h) P) : RQ G mL_law d 2162 [x0, x1, x2, x3, x4, x5, x6, some (.double v), x8] (S) h P := q_dload (M := mL_law) (pc := 2162) dL_law_2162 rfl r
theorem tL_law_2164 {v : UInt64} (r : RQ G mL_law d 2166 [x0, x1, x2, x3, x4, x5, x6, some (.double v), x8] (.double v :: S) (h) P) : RQ G mL_law d 2164 [x0, x1, x2, x3, x4, x5, x6, some (.double v), x8] (S) h P := q_dload (M := mL_law) (pc := 2164) dL_law_2164 rfl r
theorem tL_law_2166 {x y : UInt64} (r : RQ G mL_law d 2167 [x0, x1, x2, x3, x4, x5, x6, x7, x8] (.int (Op.cmpValue (FP.dcmp x y) .l) :: S) (h) P) : RQ G mL_law d 2166 [x0, x1, x2, x3, x4, x5, x6, x7, x8] (.double y :: .double x :: S) h P := q_dcmp (M := mL_law) (pc := 2166) dL_law_2166 r
theorem tL_law_2167 {x : Int32} (kt : ¬ x = 0 → RQ G mL_law d 2172 [x0, x1, x2, x3, x4, x5, x6, x7, x8] S h P) (kf : x = 0 → RQ G mL_law d 2170 [x0, x1, x2, x3, x4, x5, x6, x7, x8] S h P) : RQ G mL_law d 2167 [x0, x1, x2, x3, x4, x5, x6, x7, x8] (.int x :: S) h P := q_if_ne (M := mL_law) (pc := 2167) dL_law_2167 (by decide) kt kf
theorem tL_law_2170 (r : RQ G mL_law d 2171 [x0, x1, x2, x3, x4, x5, x6, x7, x8] (.int (nI 0) :: S) (h) P) : RQ G mL_law d 2170 [x0, x1, x2, x3, x4, x5, x6, x7, x8] (S) h P := q_iconst (M := mL_law) (pc := 2170) dL_law_2170 (by decide) r
theorem tL_law_2171 {x : Int32} (hb : x = nI 0 ∨ x = nI 1) (hP : P (.inl (some (.int x))) h) : RQ G mL_law d 2171 [x0, x1, x2, x3, x4, x5, x6, x7, x8] ([.int x]) h P := q_ireturn (M := mL_law) (pc := 2171) (ty := .boolean) dL_law_2171 rfl (nar_bool hb) hP
theorem tL_law_2172 (r : RQ G mL_law d 2189 [x0, x1, x2, x3, x4, x5, x6, x7, x8] S h P) : RQ G mL_law d 2172 [x0, x1, x2, x3, x4, x5, x6, x7, x8] (S) h P := q_goto (M := mL_law) (pc := 2172) dL_law_2172 (by decide) r
theorem tL_law_2175 {k : Nat} (r : RQ G mL_law d 2176 [x0, some (.ref k), x2, x3, x4, x5, x6, x7, x8] (.ref k :: S) (h) P) : RQ G mL_law d 2175 [x0, some (.ref k), x2, x3, x4, x5, x6, x7, x8] (S) h P := q_aload_n (M := mL_law) (pc := 2175) (r0 := some k) dL_law_2175 rfl rfl r
theorem tL_law_2176 {b d2 : Nat} {vs : List Value}  {Q : Int64 → AH → Prop} (hd : d2 + 1 ≤ d) (ha : At h b (.inr (8, vs))) (call : RQ G mX10_digest d2 0 [some (.ref b), none, none, none] [] h (Rj Q)) (k : ∀ x h1, Q x h1 → RQ G mL_law d 2179 [x0, x1, x2, x3, x4, x5, x6, x7, x8] (.long x :: S) h1 P) (hst : (S.map fun v => v.category).sum ≤ 8 := by exact Nat.le_of_ble_eq_true rfl)  : RQ G mL_law d 2176 [x0, x1, x2, x3, x4, x5, x6, x7, x8] (.ref b :: S) h P := q_callV (M := mL_law) (pc := 2176) (M2 := mX10_digest) (As := []) (n := 0) dL_law_2176 rfl ⟨by decide, by decide, by decide, rfl⟩ rfl w856 w857 w858 w109 w859 (show CL[8]? = some (RX10, TX10, 7) from rfl) hd (by decide) (Nat.le_of_ble_eq_true rfl) rfl ha hst call (callk_j k)
theorem tL_law_2179 {k : Nat} (r : RQ G mL_law d 2180 [x0, x1, some (.ref k), x3, x4, x5, x6, x7, x8] (.ref k :: S) (h) P) : RQ G mL_law d 2179 [x0, x1, some (.ref k), x3, x4, x5, x6, x7, x8] (S) h P := q_aload_n (M := mL_law) (pc := 2179) (r0 := some k) dL_law_2179 rfl rfl r
theorem tL_law_2180 {b d2 : Nat} {vs : List Value}  {Q : Int64 → AH → Prop} (hd : d2 + 1 ≤ d) (ha : At h b (.inr (10, vs))) (call : RQ G mX12_digest d2 0 [some (.ref b), none, none, none, none, none, none, none, none, none] [] h (Rj Q)) (k : ∀ x h1, Q x h1 → RQ G mL_law d 2183 [x0, x1, x2, x3, x4, x5, x6, x7, x8] (.long x :: S) h1 P) (hst : (S.map fun v => v.category).sum ≤ 8 := by exact Nat.le_of_ble_eq_true rfl)  : RQ G mL_law d 2180 [x0, x1, x2, x3, x4, x5, x6, x7, x8] (.ref b :: S) h P := q_callV (M := mL_law) (pc := 2180) (M2 := mX12_digest) (As := []) (n := 0) dL_law_2180 rfl ⟨by decide, by decide, by decide, rfl⟩ rfl w1956 w1957 w1958 w120 w1959 (show CL[10]? = some (RX12, TX12, 25) from rfl) hd (by decide) (Nat.le_of_ble_eq_true rfl) rfl ha hst call (callk_j k)
theorem tL_law_2183 {x y : Int64} (r : RQ G mL_law d 2184 [x0, x1, x2, x3, x4, x5, x6, x7, x8] (.int (lg_cmp x y) :: S) (h) P) : RQ G mL_law d 2183 [x0, x1, x2, x3, x4, x5, x6, x7, x8] (.long y :: .long x :: S) h P := q_lcmp (M := mL_law) (pc := 2183) dL_law_2183 r
theorem tL_law_2184 {x : Int32} (kt : x = 0 → RQ G mL_law d 2189 [x0, x1, x2, x3, x4, x5, x6, x7, x8] S h P) (kf : ¬ x = 0 → RQ G mL_law d 2187 [x0, x1, x2, x3, x4, x5, x6, x7, x8] S h P) : RQ G mL_law d 2184 [x0, x1, x2, x3, x4, x5, x6, x7, x8] (.int x :: S) h P := q_if_eq (M := mL_law) (pc := 2184) dL_law_2184 (by decide) kt kf
theorem tL_law_2187 (r : RQ G mL_law d 2188 [x0, x1, x2, x3, x4, x5, x6, x7, x8] (.int (nI 0) :: S) (h) P) : RQ G mL_law d 2187 [x0, x1, x2, x3, x4, x5, x6, x7, x8] (S) h P := q_iconst (M := mL_law) (pc := 2187) dL_law_2187 (by decide) r
theorem tL_law_2188 {x : Int32} (hb : x = nI 0 ∨ x = nI 1) (hP : P (.inl (some (.int x))) h) : RQ G mL_law d 2188 [x0, x1, x2, x3, x4, x5, x6, x7, x8] ([.int x]) h P := q_ireturn (M := mL_law) (pc := 2188) (ty := .boolean) dL_law_2188 rfl (nar_bool hb) hP
theorem tL_law_2189 {v : Int32} (ho : ok1 x3 = true := by rfl) (r : RQ G mL_law d 2192 [x0, x1, x2, x3, some (.int (v + (nI 6))), x5, x6, x7, x8] (S) (h) P) : RQ G mL_law d 2189 [x0, x1, x2, x3, some (.int v), x5, x6, x7, x8] (S) h P := q_iinc (M := mL_law) (pc := 2189) dL_law_2189 rfl (congrArg (v + ·) (show Int32.ofInt (6) = (nI 6) by decide)) (Nat.le_of_ble_eq_true rfl) ho r
theorem tL_law_2192 (r : RQ G mL_law d 23 [x0, x1, x2, x3, x4, x5, x6, x7, x8] S h P) : RQ G mL_law d 2192 [x0, x1, x2, x3, x4, x5, x6, x7, x8] (S) h P := q_goto (M := mL_law) (pc := 2192) dL_law_2192 (by decide) r
theorem tL_law_2195 (r : RQ G mL_law d 2196 [x0, x1, x2, x3, x4, x5, x6, x7, x8] (.int (nI 1) :: S) (h) P) : RQ G mL_law d 2195 [x0, x1, x2, x3, x4, x5, x6, x7, x8] (S) h P := q_iconst (M := mL_law) (pc := 2195) dL_law_2195 (by decide) r
theorem tL_law_2196 {x : Int32} (hb : x = nI 0 ∨ x = nI 1) (hP : P (.inl (some (.int x))) h) : RQ G mL_law d 2196 [x0, x1, x2, x3, x4, x5, x6, x7, x8] ([.int x]) h P := q_ireturn (M := mL_law) (pc := 2196) (ty := .boolean) dL_law_2196 rfl (nar_bool hb) hP
end T
