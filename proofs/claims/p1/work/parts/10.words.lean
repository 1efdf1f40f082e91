def RL : String := "LawnAheadLaw"
abbrev cL_law : ByteArray := code
abbrev cL_cell : ByteArray := method_3_code
def yL_cell : MethodName := ⟨RL, "cell", "(LLawnAhead;II[J)I"⟩
theorem dL_law_0 : decode cL_law 0 = .ok (.new 8, 3) := by decide +kernel
theorem dL_law_3 : decode cL_law 3 = .ok (.dup, 1) := by decide +kernel
theorem dL_law_4 : decode cL_law 4 = .ok (.invokespecial 15, 3) := by decide +kernel
theorem dL_law_7 : decode cL_law 7 = .ok (.astore_n 1, 1) := by decide +kernel
theorem dL_law_8 : decode cL_law 8 = .ok (.new 16, 3) := by decide +kernel
theorem dL_law_11 : decode cL_law 11 = .ok (.dup, 1) := by decide +kernel
theorem dL_law_12 : decode cL_law 12 = .ok (.invokespecial 18, 3) := by decide +kernel
theorem dL_law_15 : decode cL_law 15 = .ok (.astore_n 2, 1) := by decide +kernel
theorem dL_law_16 : decode cL_law 16 = .ok (.iconst 1, 1) := by decide +kernel
theorem dL_law_17 : decode cL_law 17 = .ok (.newarray .long, 2) := by decide +kernel
theorem dL_law_19 : decode cL_law 19 = .ok (.astore_n 3, 1) := by decide +kernel
theorem dL_law_20 : decode cL_law 20 = .ok (.iconst 0, 1) := by decide +kernel
theorem dL_law_21 : decode cL_law 21 = .ok (.istore 4, 2) := by decide +kernel
theorem dL_law_23 : decode cL_law 23 = .ok (.iload 4, 2) := by decide +kernel
theorem dL_law_25 : decode cL_law 25 = .ok (.aload_n 0, 1) := by decide +kernel
theorem dL_law_26 : decode cL_law 26 = .ok (.arraylength, 1) := by decide +kernel
theorem dL_law_27 : decode cL_law 27 = .ok (.bipush 6, 2) := by decide +kernel
theorem dL_law_29 : decode cL_law 29 = .ok (.isub, 1) := by decide +kernel
theorem dL_law_30 : decode cL_law 30 = .ok (.if_icmp .gt 1353, 3) := by decide +kernel
theorem dL_law_33 : decode cL_law 33 = .ok (.aload_n 0, 1) := by decide +kernel
theorem dL_law_34 : decode cL_law 34 = .ok (.iload 4, 2) := by decide +kernel
theorem dL_law_36 : decode cL_law 36 = .ok (.iaload, 1) := by decide +kernel
theorem dL_law_37 : decode cL_law 37 = .ok (.bipush 63, 2) := by decide +kernel
theorem dL_law_39 : decode cL_law 39 = .ok (.iand, 1) := by decide +kernel
theorem dL_law_40 : decode cL_law 40 = .ok (.tableswitch 1337 0 41 #[184, 257, 282, 307, 332, 357, 425, 450, 475, 500, 549, 562, 587, 656, 669, 706, 755, 780, 805, 854, 867, 892, 917, 942, 967, 980, 993, 1018, 1043, 1056, 1069, 1122, 1147, 1160, 1185, 1198, 1235, 1260, 1273, 1286, 1299, 1312], 184) := by decide +kernel
theorem dL_law_224 : decode cL_law 224 = .ok (.aload_n 1, 1) := by decide +kernel
theorem dL_law_225 : decode cL_law 225 = .ok (.aload_n 0, 1) := by decide +kernel
theorem dL_law_226 : decode cL_law 226 = .ok (.iload 4, 2) := by decide +kernel
theorem dL_law_228 : decode cL_law 228 = .ok (.iconst 1, 1) := by decide +kernel
theorem dL_law_229 : decode cL_law 229 = .ok (.iadd, 1) := by decide +kernel
theorem dL_law_230 : decode cL_law 230 = .ok (.iaload, 1) := by decide +kernel
theorem dL_law_231 : decode cL_law 231 = .ok (.aload_n 0, 1) := by decide +kernel
theorem dL_law_232 : decode cL_law 232 = .ok (.iload 4, 2) := by decide +kernel
theorem dL_law_234 : decode cL_law 234 = .ok (.iconst 2, 1) := by decide +kernel
theorem dL_law_235 : decode cL_law 235 = .ok (.iadd, 1) := by decide +kernel
theorem dL_law_236 : decode cL_law 236 = .ok (.iaload, 1) := by decide +kernel
theorem dL_law_237 : decode cL_law 237 = .ok (.aload_n 0, 1) := by decide +kernel
theorem dL_law_238 : decode cL_law 238 = .ok (.iload 4, 2) := by decide +kernel
theorem dL_law_240 : decode cL_law 240 = .ok (.iconst 3, 1) := by decide +kernel
theorem dL_law_241 : decode cL_law 241 = .ok (.iadd, 1) := by decide +kernel
theorem dL_law_242 : decode cL_law 242 = .ok (.iaload, 1) := by decide +kernel
theorem dL_law_243 : decode cL_law 243 = .ok (.aload_n 0, 1) := by decide +kernel
theorem dL_law_244 : decode cL_law 244 = .ok (.iload 4, 2) := by decide +kernel
theorem dL_law_246 : decode cL_law 246 = .ok (.iconst 4, 1) := by decide +kernel
theorem dL_law_247 : decode cL_law 247 = .ok (.iadd, 1) := by decide +kernel
theorem dL_law_248 : decode cL_law 248 = .ok (.iaload, 1) := by decide +kernel
theorem dL_law_249 : decode cL_law 249 = .ok (.aload_n 0, 1) := by decide +kernel
theorem dL_law_250 : decode cL_law 250 = .ok (.iload 4, 2) := by decide +kernel
theorem dL_law_252 : decode cL_law 252 = .ok (.iconst 5, 1) := by decide +kernel
theorem dL_law_253 : decode cL_law 253 = .ok (.iadd, 1) := by decide +kernel
theorem dL_law_254 : decode cL_law 254 = .ok (.iaload, 1) := by decide +kernel
theorem dL_law_255 : decode cL_law 255 = .ok (.invokevirtual 19, 3) := by decide +kernel
theorem dL_law_258 : decode cL_law 258 = .ok (.aload_n 2, 1) := by decide +kernel
theorem dL_law_259 : decode cL_law 259 = .ok (.aload_n 0, 1) := by decide +kernel
theorem dL_law_260 : decode cL_law 260 = .ok (.iload 4, 2) := by decide +kernel
theorem dL_law_262 : decode cL_law 262 = .ok (.iconst 1, 1) := by decide +kernel
theorem dL_law_263 : decode cL_law 263 = .ok (.iadd, 1) := by decide +kernel
theorem dL_law_264 : decode cL_law 264 = .ok (.iaload, 1) := by decide +kernel
theorem dL_law_265 : decode cL_law 265 = .ok (.aload_n 0, 1) := by decide +kernel
theorem dL_law_266 : decode cL_law 266 = .ok (.iload 4, 2) := by decide +kernel
theorem dL_law_268 : decode cL_law 268 = .ok (.iconst 2, 1) := by decide +kernel
theorem dL_law_269 : decode cL_law 269 = .ok (.iadd, 1) := by decide +kernel
theorem dL_law_270 : decode cL_law 270 = .ok (.iaload, 1) := by decide +kernel
theorem dL_law_271 : decode cL_law 271 = .ok (.aload_n 0, 1) := by decide +kernel
theorem dL_law_272 : decode cL_law 272 = .ok (.iload 4, 2) := by decide +kernel
theorem dL_law_274 : decode cL_law 274 = .ok (.iconst 3, 1) := by decide +kernel
theorem dL_law_275 : decode cL_law 275 = .ok (.iadd, 1) := by decide +kernel
theorem dL_law_276 : decode cL_law 276 = .ok (.iaload, 1) := by decide +kernel
theorem dL_law_277 : decode cL_law 277 = .ok (.aload_n 0, 1) := by decide +kernel
theorem dL_law_278 : decode cL_law 278 = .ok (.iload 4, 2) := by decide +kernel
theorem dL_law_280 : decode cL_law 280 = .ok (.iconst 4, 1) := by decide +kernel
theorem dL_law_281 : decode cL_law 281 = .ok (.iadd, 1) := by decide +kernel
theorem dL_law_282 : decode cL_law 282 = .ok (.iaload, 1) := by decide +kernel
theorem dL_law_283 : decode cL_law 283 = .ok (.aload_n 0, 1) := by decide +kernel
theorem dL_law_284 : decode cL_law 284 = .ok (.iload 4, 2) := by decide +kernel
theorem dL_law_286 : decode cL_law 286 = .ok (.iconst 5, 1) := by decide +kernel
theorem dL_law_287 : decode cL_law 287 = .ok (.iadd, 1) := by decide +kernel
theorem dL_law_288 : decode cL_law 288 = .ok (.iaload, 1) := by decide +kernel
theorem dL_law_289 : decode cL_law 289 = .ok (.invokevirtual 23, 3) := by decide +kernel
theorem dL_law_292 : decode cL_law 292 = .ok (.if_icmp .eq 1085, 3) := by decide +kernel
theorem dL_law_297 : decode cL_law 297 = .ok (.aload_n 1, 1) := by decide +kernel
theorem dL_law_298 : decode cL_law 298 = .ok (.aload_n 0, 1) := by decide +kernel
theorem dL_law_299 : decode cL_law 299 = .ok (.iload 4, 2) := by decide +kernel
theorem dL_law_301 : decode cL_law 301 = .ok (.iconst 1, 1) := by decide +kernel
theorem dL_law_302 : decode cL_law 302 = .ok (.iadd, 1) := by decide +kernel
theorem dL_law_303 : decode cL_law 303 = .ok (.iaload, 1) := by decide +kernel
theorem dL_law_304 : decode cL_law 304 = .ok (.invokevirtual 24, 3) := by decide +kernel
theorem dL_law_307 : decode cL_law 307 = .ok (.aload_n 2, 1) := by decide +kernel
theorem dL_law_308 : decode cL_law 308 = .ok (.aload_n 0, 1) := by decide +kernel
theorem dL_law_309 : decode cL_law 309 = .ok (.iload 4, 2) := by decide +kernel
theorem dL_law_311 : decode cL_law 311 = .ok (.iconst 1, 1) := by decide +kernel
theorem dL_law_312 : decode cL_law 312 = .ok (.iadd, 1) := by decide +kernel
theorem dL_law_313 : decode cL_law 313 = .ok (.iaload, 1) := by decide +kernel
theorem dL_law_314 : decode cL_law 314 = .ok (.invokevirtual 28, 3) := by decide +kernel
theorem dL_law_317 : decode cL_law 317 = .ok (.if_icmp .eq 1060, 3) := by decide +kernel
theorem dL_law_322 : decode cL_law 322 = .ok (.aload_n 1, 1) := by decide +kernel
theorem dL_law_323 : decode cL_law 323 = .ok (.aload_n 0, 1) := by decide +kernel
theorem dL_law_324 : decode cL_law 324 = .ok (.iload 4, 2) := by decide +kernel
theorem dL_law_326 : decode cL_law 326 = .ok (.iconst 1, 1) := by decide +kernel
theorem dL_law_327 : decode cL_law 327 = .ok (.iadd, 1) := by decide +kernel
theorem dL_law_328 : decode cL_law 328 = .ok (.iaload, 1) := by decide +kernel
theorem dL_law_329 : decode cL_law 329 = .ok (.invokevirtual 29, 3) := by decide +kernel
theorem dL_law_332 : decode cL_law 332 = .ok (.aload_n 2, 1) := by decide +kernel
theorem dL_law_333 : decode cL_law 333 = .ok (.aload_n 0, 1) := by decide +kernel
theorem dL_law_334 : decode cL_law 334 = .ok (.iload 4, 2) := by decide +kernel
theorem dL_law_336 : decode cL_law 336 = .ok (.iconst 1, 1) := by decide +kernel
theorem dL_law_337 : decode cL_law 337 = .ok (.iadd, 1) := by decide +kernel
theorem dL_law_338 : decode cL_law 338 = .ok (.iaload, 1) := by decide +kernel
theorem dL_law_339 : decode cL_law 339 = .ok (.invokevirtual 33, 3) := by decide +kernel
theorem dL_law_342 : decode cL_law 342 = .ok (.if_icmp .eq 1035, 3) := by decide +kernel
theorem dL_law_347 : decode cL_law 347 = .ok (.aload_n 1, 1) := by decide +kernel
theorem dL_law_348 : decode cL_law 348 = .ok (.aload_n 0, 1) := by decide +kernel
theorem dL_law_349 : decode cL_law 349 = .ok (.iload 4, 2) := by decide +kernel
theorem dL_law_351 : decode cL_law 351 = .ok (.iconst 1, 1) := by decide +kernel
theorem dL_law_352 : decode cL_law 352 = .ok (.iadd, 1) := by decide +kernel
theorem dL_law_353 : decode cL_law 353 = .ok (.iaload, 1) := by decide +kernel
theorem dL_law_354 : decode cL_law 354 = .ok (.invokevirtual 34, 3) := by decide +kernel
theorem dL_law_357 : decode cL_law 357 = .ok (.aload_n 2, 1) := by decide +kernel
theorem dL_law_358 : decode cL_law 358 = .ok (.aload_n 0, 1) := by decide +kernel
theorem dL_law_359 : decode cL_law 359 = .ok (.iload 4, 2) := by decide +kernel
theorem dL_law_361 : decode cL_law 361 = .ok (.iconst 1, 1) := by decide +kernel
theorem dL_law_362 : decode cL_law 362 = .ok (.iadd, 1) := by decide +kernel
theorem dL_law_363 : decode cL_law 363 = .ok (.iaload, 1) := by decide +kernel
theorem dL_law_364 : decode cL_law 364 = .ok (.invokevirtual 37, 3) := by decide +kernel
theorem dL_law_367 : decode cL_law 367 = .ok (.if_icmp .eq 1010, 3) := by decide +kernel
theorem dL_law_372 : decode cL_law 372 = .ok (.aload_n 1, 1) := by decide +kernel
theorem dL_law_373 : decode cL_law 373 = .ok (.aload_n 0, 1) := by decide +kernel
theorem dL_law_374 : decode cL_law 374 = .ok (.iload 4, 2) := by decide +kernel
theorem dL_law_376 : decode cL_law 376 = .ok (.iconst 1, 1) := by decide +kernel
theorem dL_law_377 : decode cL_law 377 = .ok (.iadd, 1) := by decide +kernel
theorem dL_law_378 : decode cL_law 378 = .ok (.iaload, 1) := by decide +kernel
theorem dL_law_379 : decode cL_law 379 = .ok (.invokevirtual 38, 3) := by decide +kernel
theorem dL_law_382 : decode cL_law 382 = .ok (.aload_n 2, 1) := by decide +kernel
theorem dL_law_383 : decode cL_law 383 = .ok (.aload_n 0, 1) := by decide +kernel
theorem dL_law_384 : decode cL_law 384 = .ok (.iload 4, 2) := by decide +kernel
theorem dL_law_386 : decode cL_law 386 = .ok (.iconst 1, 1) := by decide +kernel
theorem dL_law_387 : decode cL_law 387 = .ok (.iadd, 1) := by decide +kernel
theorem dL_law_388 : decode cL_law 388 = .ok (.iaload, 1) := by decide +kernel
theorem dL_law_389 : decode cL_law 389 = .ok (.invokevirtual 41, 3) := by decide +kernel
theorem dL_law_392 : decode cL_law 392 = .ok (.if_icmp .eq 985, 3) := by decide +kernel
theorem dL_law_465 : decode cL_law 465 = .ok (.aload_n 1, 1) := by decide +kernel
theorem dL_law_466 : decode cL_law 466 = .ok (.aload_n 0, 1) := by decide +kernel
theorem dL_law_467 : decode cL_law 467 = .ok (.iload 4, 2) := by decide +kernel
theorem dL_law_469 : decode cL_law 469 = .ok (.iconst 1, 1) := by decide +kernel
theorem dL_law_470 : decode cL_law 470 = .ok (.iadd, 1) := by decide +kernel
theorem dL_law_471 : decode cL_law 471 = .ok (.iaload, 1) := by decide +kernel
theorem dL_law_472 : decode cL_law 472 = .ok (.invokevirtual 52, 3) := by decide +kernel
theorem dL_law_475 : decode cL_law 475 = .ok (.aload_n 2, 1) := by decide +kernel
theorem dL_law_476 : decode cL_law 476 = .ok (.aload_n 0, 1) := by decide +kernel
theorem dL_law_477 : decode cL_law 477 = .ok (.iload 4, 2) := by decide +kernel
theorem dL_law_479 : decode cL_law 479 = .ok (.iconst 1, 1) := by decide +kernel
theorem dL_law_480 : decode cL_law 480 = .ok (.iadd, 1) := by decide +kernel
theorem dL_law_481 : decode cL_law 481 = .ok (.iaload, 1) := by decide +kernel
theorem dL_law_482 : decode cL_law 482 = .ok (.invokevirtual 55, 3) := by decide +kernel
theorem dL_law_485 : decode cL_law 485 = .ok (.if_icmp .eq 892, 3) := by decide +kernel
theorem dL_law_490 : decode cL_law 490 = .ok (.aload_n 1, 1) := by decide +kernel
theorem dL_law_491 : decode cL_law 491 = .ok (.aload_n 0, 1) := by decide +kernel
theorem dL_law_492 : decode cL_law 492 = .ok (.iload 4, 2) := by decide +kernel
theorem dL_law_494 : decode cL_law 494 = .ok (.iconst 1, 1) := by decide +kernel
theorem dL_law_495 : decode cL_law 495 = .ok (.iadd, 1) := by decide +kernel
theorem dL_law_496 : decode cL_law 496 = .ok (.iaload, 1) := by decide +kernel
theorem dL_law_497 : decode cL_law 497 = .ok (.invokevirtual 56, 3) := by decide +kernel
theorem dL_law_500 : decode cL_law 500 = .ok (.aload_n 2, 1) := by decide +kernel
theorem dL_law_501 : decode cL_law 501 = .ok (.aload_n 0, 1) := by decide +kernel
theorem dL_law_502 : decode cL_law 502 = .ok (.iload 4, 2) := by decide +kernel
theorem dL_law_504 : decode cL_law 504 = .ok (.iconst 1, 1) := by decide +kernel
theorem dL_law_505 : decode cL_law 505 = .ok (.iadd, 1) := by decide +kernel
theorem dL_law_506 : decode cL_law 506 = .ok (.iaload, 1) := by decide +kernel
theorem dL_law_507 : decode cL_law 507 = .ok (.invokevirtual 59, 3) := by decide +kernel
theorem dL_law_510 : decode cL_law 510 = .ok (.if_icmp .eq 867, 3) := by decide +kernel
theorem dL_law_515 : decode cL_law 515 = .ok (.aload_n 1, 1) := by decide +kernel
theorem dL_law_516 : decode cL_law 516 = .ok (.aload_n 0, 1) := by decide +kernel
theorem dL_law_517 : decode cL_law 517 = .ok (.iload 4, 2) := by decide +kernel
theorem dL_law_519 : decode cL_law 519 = .ok (.iconst 1, 1) := by decide +kernel
theorem dL_law_520 : decode cL_law 520 = .ok (.iadd, 1) := by decide +kernel
theorem dL_law_521 : decode cL_law 521 = .ok (.iaload, 1) := by decide +kernel
theorem dL_law_522 : decode cL_law 522 = .ok (.invokevirtual 60, 3) := by decide +kernel
theorem dL_law_525 : decode cL_law 525 = .ok (.aload_n 2, 1) := by decide +kernel
theorem dL_law_526 : decode cL_law 526 = .ok (.aload_n 0, 1) := by decide +kernel
theorem dL_law_527 : decode cL_law 527 = .ok (.iload 4, 2) := by decide +kernel
theorem dL_law_529 : decode cL_law 529 = .ok (.iconst 1, 1) := by decide +kernel
theorem dL_law_530 : decode cL_law 530 = .ok (.iadd, 1) := by decide +kernel
theorem dL_law_531 : decode cL_law 531 = .ok (.iaload, 1) := by decide +kernel
theorem dL_law_532 : decode cL_law 532 = .ok (.invokevirtual 63, 3) := by decide +kernel
theorem dL_law_535 : decode cL_law 535 = .ok (.if_icmp .eq 842, 3) := by decide +kernel
theorem dL_law_540 : decode cL_law 540 = .ok (.aload_n 1, 1) := by decide +kernel
theorem dL_law_541 : decode cL_law 541 = .ok (.aload_n 0, 1) := by decide +kernel
theorem dL_law_542 : decode cL_law 542 = .ok (.iload 4, 2) := by decide +kernel
theorem dL_law_544 : decode cL_law 544 = .ok (.iconst 1, 1) := by decide +kernel
theorem dL_law_545 : decode cL_law 545 = .ok (.iadd, 1) := by decide +kernel
theorem dL_law_546 : decode cL_law 546 = .ok (.iaload, 1) := by decide +kernel
theorem dL_law_547 : decode cL_law 547 = .ok (.aload_n 0, 1) := by decide +kernel
theorem dL_law_548 : decode cL_law 548 = .ok (.iload 4, 2) := by decide +kernel
theorem dL_law_550 : decode cL_law 550 = .ok (.iconst 2, 1) := by decide +kernel
theorem dL_law_551 : decode cL_law 551 = .ok (.iadd, 1) := by decide +kernel
theorem dL_law_552 : decode cL_law 552 = .ok (.iaload, 1) := by decide +kernel
theorem dL_law_553 : decode cL_law 553 = .ok (.aload_n 0, 1) := by decide +kernel
theorem dL_law_554 : decode cL_law 554 = .ok (.iload 4, 2) := by decide +kernel
theorem dL_law_556 : decode cL_law 556 = .ok (.iconst 3, 1) := by decide +kernel
theorem dL_law_557 : decode cL_law 557 = .ok (.iadd, 1) := by decide +kernel
theorem dL_law_558 : decode cL_law 558 = .ok (.iaload, 1) := by decide +kernel
theorem dL_law_559 : decode cL_law 559 = .ok (.invokevirtual 64, 3) := by decide +kernel
theorem dL_law_562 : decode cL_law 562 = .ok (.aload_n 2, 1) := by decide +kernel
theorem dL_law_563 : decode cL_law 563 = .ok (.aload_n 0, 1) := by decide +kernel
theorem dL_law_564 : decode cL_law 564 = .ok (.iload 4, 2) := by decide +kernel
theorem dL_law_566 : decode cL_law 566 = .ok (.iconst 1, 1) := by decide +kernel
theorem dL_law_567 : decode cL_law 567 = .ok (.iadd, 1) := by decide +kernel
theorem dL_law_568 : decode cL_law 568 = .ok (.iaload, 1) := by decide +kernel
theorem dL_law_569 : decode cL_law 569 = .ok (.aload_n 0, 1) := by decide +kernel
theorem dL_law_570 : decode cL_law 570 = .ok (.iload 4, 2) := by decide +kernel
theorem dL_law_572 : decode cL_law 572 = .ok (.iconst 2, 1) := by decide +kernel
theorem dL_law_573 : decode cL_law 573 = .ok (.iadd, 1) := by decide +kernel
theorem dL_law_574 : decode cL_law 574 = .ok (.iaload, 1) := by decide +kernel
theorem dL_law_575 : decode cL_law 575 = .ok (.aload_n 0, 1) := by decide +kernel
theorem dL_law_576 : decode cL_law 576 = .ok (.iload 4, 2) := by decide +kernel
theorem dL_law_578 : decode cL_law 578 = .ok (.iconst 3, 1) := by decide +kernel
theorem dL_law_579 : decode cL_law 579 = .ok (.iadd, 1) := by decide +kernel
theorem dL_law_580 : decode cL_law 580 = .ok (.iaload, 1) := by decide +kernel
theorem dL_law_581 : decode cL_law 581 = .ok (.invokevirtual 68, 3) := by decide +kernel
theorem dL_law_584 : decode cL_law 584 = .ok (.if_icmp .eq 793, 3) := by decide +kernel
theorem dL_law_589 : decode cL_law 589 = .ok (.aload_n 1, 1) := by decide +kernel
theorem dL_law_590 : decode cL_law 590 = .ok (.invokevirtual 69, 3) := by decide +kernel
theorem dL_law_593 : decode cL_law 593 = .ok (.aload_n 2, 1) := by decide +kernel
theorem dL_law_594 : decode cL_law 594 = .ok (.invokevirtual 72, 3) := by decide +kernel
theorem dL_law_597 : decode cL_law 597 = .ok (.if_icmp .eq 780, 3) := by decide +kernel
theorem dL_law_602 : decode cL_law 602 = .ok (.aload_n 1, 1) := by decide +kernel
theorem dL_law_603 : decode cL_law 603 = .ok (.aload_n 0, 1) := by decide +kernel
theorem dL_law_604 : decode cL_law 604 = .ok (.iload 4, 2) := by decide +kernel
theorem dL_law_606 : decode cL_law 606 = .ok (.iconst 1, 1) := by decide +kernel
theorem dL_law_607 : decode cL_law 607 = .ok (.iadd, 1) := by decide +kernel
theorem dL_law_608 : decode cL_law 608 = .ok (.iaload, 1) := by decide +kernel
theorem dL_law_609 : decode cL_law 609 = .ok (.invokevirtual 73, 3) := by decide +kernel
theorem dL_law_612 : decode cL_law 612 = .ok (.aload_n 2, 1) := by decide +kernel
theorem dL_law_613 : decode cL_law 613 = .ok (.aload_n 0, 1) := by decide +kernel
theorem dL_law_614 : decode cL_law 614 = .ok (.iload 4, 2) := by decide +kernel
theorem dL_law_616 : decode cL_law 616 = .ok (.iconst 1, 1) := by decide +kernel
theorem dL_law_617 : decode cL_law 617 = .ok (.iadd, 1) := by decide +kernel
theorem dL_law_618 : decode cL_law 618 = .ok (.iaload, 1) := by decide +kernel
theorem dL_law_619 : decode cL_law 619 = .ok (.invokevirtual 76, 3) := by decide +kernel
theorem dL_law_622 : decode cL_law 622 = .ok (.if_icmp .eq 755, 3) := by decide +kernel
theorem dL_law_627 : decode cL_law 627 = .ok (.aload_n 1, 1) := by decide +kernel
theorem dL_law_628 : decode cL_law 628 = .ok (.aload_n 0, 1) := by decide +kernel
theorem dL_law_629 : decode cL_law 629 = .ok (.iload 4, 2) := by decide +kernel
theorem dL_law_631 : decode cL_law 631 = .ok (.iconst 1, 1) := by decide +kernel
theorem dL_law_632 : decode cL_law 632 = .ok (.iadd, 1) := by decide +kernel
theorem dL_law_633 : decode cL_law 633 = .ok (.iaload, 1) := by decide +kernel
theorem dL_law_634 : decode cL_law 634 = .ok (.aload_n 0, 1) := by decide +kernel
theorem dL_law_635 : decode cL_law 635 = .ok (.iload 4, 2) := by decide +kernel
theorem dL_law_637 : decode cL_law 637 = .ok (.iconst 2, 1) := by decide +kernel
theorem dL_law_638 : decode cL_law 638 = .ok (.iadd, 1) := by decide +kernel
theorem dL_law_639 : decode cL_law 639 = .ok (.iaload, 1) := by decide +kernel
theorem dL_law_640 : decode cL_law 640 = .ok (.i2l, 1) := by decide +kernel
theorem dL_law_641 : decode cL_law 641 = .ok (.bipush 32, 2) := by decide +kernel
theorem dL_law_643 : decode cL_law 643 = .ok (.lshl, 1) := by decide +kernel
theorem dL_law_644 : decode cL_law 644 = .ok (.aload_n 0, 1) := by decide +kernel
theorem dL_law_645 : decode cL_law 645 = .ok (.iload 4, 2) := by decide +kernel
theorem dL_law_647 : decode cL_law 647 = .ok (.iconst 3, 1) := by decide +kernel
theorem dL_law_648 : decode cL_law 648 = .ok (.iadd, 1) := by decide +kernel
theorem dL_law_649 : decode cL_law 649 = .ok (.iaload, 1) := by decide +kernel
theorem dL_law_650 : decode cL_law 650 = .ok (.i2l, 1) := by decide +kernel
theorem dL_law_651 : decode cL_law 651 = .ok (.ldc2_w 77, 3) := by decide +kernel
theorem dL_law_654 : decode cL_law 654 = .ok (.land, 1) := by decide +kernel
theorem dL_law_655 : decode cL_law 655 = .ok (.lor, 1) := by decide +kernel
theorem dL_law_656 : decode cL_law 656 = .ok (.invokevirtual 79, 3) := by decide +kernel
theorem dL_law_659 : decode cL_law 659 = .ok (.aload_n 2, 1) := by decide +kernel
theorem dL_law_660 : decode cL_law 660 = .ok (.aload_n 0, 1) := by decide +kernel
theorem dL_law_661 : decode cL_law 661 = .ok (.iload 4, 2) := by decide +kernel
theorem dL_law_663 : decode cL_law 663 = .ok (.iconst 1, 1) := by decide +kernel
theorem dL_law_664 : decode cL_law 664 = .ok (.iadd, 1) := by decide +kernel
theorem dL_law_665 : decode cL_law 665 = .ok (.iaload, 1) := by decide +kernel
theorem dL_law_666 : decode cL_law 666 = .ok (.aload_n 0, 1) := by decide +kernel
theorem dL_law_667 : decode cL_law 667 = .ok (.iload 4, 2) := by decide +kernel
theorem dL_law_669 : decode cL_law 669 = .ok (.iconst 2, 1) := by decide +kernel
theorem dL_law_670 : decode cL_law 670 = .ok (.iadd, 1) := by decide +kernel
theorem dL_law_671 : decode cL_law 671 = .ok (.iaload, 1) := by decide +kernel
theorem dL_law_672 : decode cL_law 672 = .ok (.i2l, 1) := by decide +kernel
theorem dL_law_673 : decode cL_law 673 = .ok (.bipush 32, 2) := by decide +kernel
theorem dL_law_675 : decode cL_law 675 = .ok (.lshl, 1) := by decide +kernel
theorem dL_law_676 : decode cL_law 676 = .ok (.aload_n 0, 1) := by decide +kernel
theorem dL_law_677 : decode cL_law 677 = .ok (.iload 4, 2) := by decide +kernel
theorem dL_law_679 : decode cL_law 679 = .ok (.iconst 3, 1) := by decide +kernel
theorem dL_law_680 : decode cL_law 680 = .ok (.iadd, 1) := by decide +kernel
theorem dL_law_681 : decode cL_law 681 = .ok (.iaload, 1) := by decide +kernel
theorem dL_law_682 : decode cL_law 682 = .ok (.i2l, 1) := by decide +kernel
theorem dL_law_683 : decode cL_law 683 = .ok (.ldc2_w 77, 3) := by decide +kernel
theorem dL_law_686 : decode cL_law 686 = .ok (.land, 1) := by decide +kernel
theorem dL_law_687 : decode cL_law 687 = .ok (.lor, 1) := by decide +kernel
theorem dL_law_688 : decode cL_law 688 = .ok (.invokevirtual 83, 3) := by decide +kernel
theorem dL_law_691 : decode cL_law 691 = .ok (.if_icmp .eq 686, 3) := by decide +kernel
theorem dL_law_696 : decode cL_law 696 = .ok (.aload_n 1, 1) := by decide +kernel
theorem dL_law_697 : decode cL_law 697 = .ok (.invokevirtual 84, 3) := by decide +kernel
theorem dL_law_700 : decode cL_law 700 = .ok (.aload_n 2, 1) := by decide +kernel
theorem dL_law_701 : decode cL_law 701 = .ok (.invokevirtual 87, 3) := by decide +kernel
theorem dL_law_704 : decode cL_law 704 = .ok (.if_icmp .eq 673, 3) := by decide +kernel
theorem dL_law_709 : decode cL_law 709 = .ok (.aload_n 1, 1) := by decide +kernel
theorem dL_law_710 : decode cL_law 710 = .ok (.aload_n 0, 1) := by decide +kernel
theorem dL_law_711 : decode cL_law 711 = .ok (.iload 4, 2) := by decide +kernel
theorem dL_law_713 : decode cL_law 713 = .ok (.iconst 1, 1) := by decide +kernel
theorem dL_law_714 : decode cL_law 714 = .ok (.iadd, 1) := by decide +kernel
theorem dL_law_715 : decode cL_law 715 = .ok (.iaload, 1) := by decide +kernel
theorem dL_law_716 : decode cL_law 716 = .ok (.aload_n 0, 1) := by decide +kernel
theorem dL_law_717 : decode cL_law 717 = .ok (.iload 4, 2) := by decide +kernel
theorem dL_law_719 : decode cL_law 719 = .ok (.iconst 2, 1) := by decide +kernel
theorem dL_law_720 : decode cL_law 720 = .ok (.iadd, 1) := by decide +kernel
theorem dL_law_721 : decode cL_law 721 = .ok (.iaload, 1) := by decide +kernel
theorem dL_law_722 : decode cL_law 722 = .ok (.invokevirtual 88, 3) := by decide +kernel
theorem dL_law_725 : decode cL_law 725 = .ok (.aload_n 2, 1) := by decide +kernel
theorem dL_law_726 : decode cL_law 726 = .ok (.aload_n 0, 1) := by decide +kernel
theorem dL_law_727 : decode cL_law 727 = .ok (.iload 4, 2) := by decide +kernel
theorem dL_law_729 : decode cL_law 729 = .ok (.iconst 1, 1) := by decide +kernel
theorem dL_law_730 : decode cL_law 730 = .ok (.iadd, 1) := by decide +kernel
theorem dL_law_731 : decode cL_law 731 = .ok (.iaload, 1) := by decide +kernel
theorem dL_law_732 : decode cL_law 732 = .ok (.aload_n 0, 1) := by decide +kernel
theorem dL_law_733 : decode cL_law 733 = .ok (.iload 4, 2) := by decide +kernel
theorem dL_law_735 : decode cL_law 735 = .ok (.iconst 2, 1) := by decide +kernel
theorem dL_law_736 : decode cL_law 736 = .ok (.iadd, 1) := by decide +kernel
theorem dL_law_737 : decode cL_law 737 = .ok (.iaload, 1) := by decide +kernel
theorem dL_law_738 : decode cL_law 738 = .ok (.invokevirtual 91, 3) := by decide +kernel
theorem dL_law_741 : decode cL_law 741 = .ok (.if_icmp .eq 636, 3) := by decide +kernel
theorem dL_law_746 : decode cL_law 746 = .ok (.aload_n 1, 1) := by decide +kernel
theorem dL_law_747 : decode cL_law 747 = .ok (.aload_n 0, 1) := by decide +kernel
theorem dL_law_748 : decode cL_law 748 = .ok (.iload 4, 2) := by decide +kernel
theorem dL_law_750 : decode cL_law 750 = .ok (.iconst 1, 1) := by decide +kernel
theorem dL_law_751 : decode cL_law 751 = .ok (.iadd, 1) := by decide +kernel
theorem dL_law_752 : decode cL_law 752 = .ok (.iaload, 1) := by decide +kernel
theorem dL_law_753 : decode cL_law 753 = .ok (.aload_n 0, 1) := by decide +kernel
theorem dL_law_754 : decode cL_law 754 = .ok (.iload 4, 2) := by decide +kernel
theorem dL_law_756 : decode cL_law 756 = .ok (.iconst 2, 1) := by decide +kernel
theorem dL_law_757 : decode cL_law 757 = .ok (.iadd, 1) := by decide +kernel
theorem dL_law_758 : decode cL_law 758 = .ok (.iaload, 1) := by decide +kernel
theorem dL_law_759 : decode cL_law 759 = .ok (.aload_n 0, 1) := by decide +kernel
theorem dL_law_760 : decode cL_law 760 = .ok (.iload 4, 2) := by decide +kernel
theorem dL_law_762 : decode cL_law 762 = .ok (.iconst 3, 1) := by decide +kernel
theorem dL_law_763 : decode cL_law 763 = .ok (.iadd, 1) := by decide +kernel
theorem dL_law_764 : decode cL_law 764 = .ok (.iaload, 1) := by decide +kernel
theorem dL_law_765 : decode cL_law 765 = .ok (.invokevirtual 92, 3) := by decide +kernel
theorem dL_law_768 : decode cL_law 768 = .ok (.aload_n 2, 1) := by decide +kernel
theorem dL_law_769 : decode cL_law 769 = .ok (.aload_n 0, 1) := by decide +kernel
theorem dL_law_770 : decode cL_law 770 = .ok (.iload 4, 2) := by decide +kernel
theorem dL_law_772 : decode cL_law 772 = .ok (.iconst 1, 1) := by decide +kernel
theorem dL_law_773 : decode cL_law 773 = .ok (.iadd, 1) := by decide +kernel
theorem dL_law_774 : decode cL_law 774 = .ok (.iaload, 1) := by decide +kernel
theorem dL_law_775 : decode cL_law 775 = .ok (.aload_n 0, 1) := by decide +kernel
theorem dL_law_776 : decode cL_law 776 = .ok (.iload 4, 2) := by decide +kernel
theorem dL_law_778 : decode cL_law 778 = .ok (.iconst 2, 1) := by decide +kernel
theorem dL_law_779 : decode cL_law 779 = .ok (.iadd, 1) := by decide +kernel
theorem dL_law_780 : decode cL_law 780 = .ok (.iaload, 1) := by decide +kernel
theorem dL_law_781 : decode cL_law 781 = .ok (.aload_n 0, 1) := by decide +kernel
theorem dL_law_782 : decode cL_law 782 = .ok (.iload 4, 2) := by decide +kernel
theorem dL_law_784 : decode cL_law 784 = .ok (.iconst 3, 1) := by decide +kernel
theorem dL_law_785 : decode cL_law 785 = .ok (.iadd, 1) := by decide +kernel
theorem dL_law_786 : decode cL_law 786 = .ok (.iaload, 1) := by decide +kernel
theorem dL_law_787 : decode cL_law 787 = .ok (.invokevirtual 95, 3) := by decide +kernel
theorem dL_law_790 : decode cL_law 790 = .ok (.if_icmp .eq 587, 3) := by decide +kernel
theorem dL_law_795 : decode cL_law 795 = .ok (.aload_n 1, 1) := by decide +kernel
theorem dL_law_796 : decode cL_law 796 = .ok (.aload_n 0, 1) := by decide +kernel
theorem dL_law_797 : decode cL_law 797 = .ok (.iload 4, 2) := by decide +kernel
theorem dL_law_799 : decode cL_law 799 = .ok (.iconst 1, 1) := by decide +kernel
theorem dL_law_800 : decode cL_law 800 = .ok (.iadd, 1) := by decide +kernel
theorem dL_law_801 : decode cL_law 801 = .ok (.iaload, 1) := by decide +kernel
theorem dL_law_802 : decode cL_law 802 = .ok (.invokevirtual 96, 3) := by decide +kernel
theorem dL_law_805 : decode cL_law 805 = .ok (.aload_n 2, 1) := by decide +kernel
theorem dL_law_806 : decode cL_law 806 = .ok (.aload_n 0, 1) := by decide +kernel
theorem dL_law_807 : decode cL_law 807 = .ok (.iload 4, 2) := by decide +kernel
theorem dL_law_809 : decode cL_law 809 = .ok (.iconst 1, 1) := by decide +kernel
theorem dL_law_810 : decode cL_law 810 = .ok (.iadd, 1) := by decide +kernel
theorem dL_law_811 : decode cL_law 811 = .ok (.iaload, 1) := by decide +kernel
theorem dL_law_812 : decode cL_law 812 = .ok (.invokevirtual 99, 3) := by decide +kernel
theorem dL_law_815 : decode cL_law 815 = .ok (.if_icmp .eq 562, 3) := by decide +kernel
theorem dL_law_820 : decode cL_law 820 = .ok (.aload_n 1, 1) := by decide +kernel
theorem dL_law_821 : decode cL_law 821 = .ok (.aload_n 0, 1) := by decide +kernel
theorem dL_law_822 : decode cL_law 822 = .ok (.iload 4, 2) := by decide +kernel
theorem dL_law_824 : decode cL_law 824 = .ok (.iconst 1, 1) := by decide +kernel
theorem dL_law_825 : decode cL_law 825 = .ok (.iadd, 1) := by decide +kernel
theorem dL_law_826 : decode cL_law 826 = .ok (.iaload, 1) := by decide +kernel
theorem dL_law_827 : decode cL_law 827 = .ok (.invokevirtual 100, 3) := by decide +kernel
theorem dL_law_830 : decode cL_law 830 = .ok (.aload_n 2, 1) := by decide +kernel
theorem dL_law_831 : decode cL_law 831 = .ok (.aload_n 0, 1) := by decide +kernel
theorem dL_law_832 : decode cL_law 832 = .ok (.iload 4, 2) := by decide +kernel
theorem dL_law_834 : decode cL_law 834 = .ok (.iconst 1, 1) := by decide +kernel
theorem dL_law_835 : decode cL_law 835 = .ok (.iadd, 1) := by decide +kernel
theorem dL_law_836 : decode cL_law 836 = .ok (.iaload, 1) := by decide +kernel
theorem dL_law_837 : decode cL_law 837 = .ok (.invokevirtual 103, 3) := by decide +kernel
theorem dL_law_840 : decode cL_law 840 = .ok (.if_icmp .eq 537, 3) := by decide +kernel
theorem dL_law_845 : decode cL_law 845 = .ok (.aload_n 1, 1) := by decide +kernel
theorem dL_law_846 : decode cL_law 846 = .ok (.aload_n 0, 1) := by decide +kernel
theorem dL_law_847 : decode cL_law 847 = .ok (.iload 4, 2) := by decide +kernel
theorem dL_law_849 : decode cL_law 849 = .ok (.iconst 1, 1) := by decide +kernel
theorem dL_law_850 : decode cL_law 850 = .ok (.iadd, 1) := by decide +kernel
theorem dL_law_851 : decode cL_law 851 = .ok (.iaload, 1) := by decide +kernel
theorem dL_law_852 : decode cL_law 852 = .ok (.aload_n 0, 1) := by decide +kernel
theorem dL_law_853 : decode cL_law 853 = .ok (.iload 4, 2) := by decide +kernel
theorem dL_law_855 : decode cL_law 855 = .ok (.iconst 2, 1) := by decide +kernel
theorem dL_law_856 : decode cL_law 856 = .ok (.iadd, 1) := by decide +kernel
theorem dL_law_857 : decode cL_law 857 = .ok (.iaload, 1) := by decide +kernel
theorem dL_law_858 : decode cL_law 858 = .ok (.aload_n 0, 1) := by decide +kernel
theorem dL_law_859 : decode cL_law 859 = .ok (.iload 4, 2) := by decide +kernel
theorem dL_law_861 : decode cL_law 861 = .ok (.iconst 3, 1) := by decide +kernel
theorem dL_law_862 : decode cL_law 862 = .ok (.iadd, 1) := by decide +kernel
theorem dL_law_863 : decode cL_law 863 = .ok (.iaload, 1) := by decide +kernel
theorem dL_law_864 : decode cL_law 864 = .ok (.invokevirtual 104, 3) := by decide +kernel
theorem dL_law_867 : decode cL_law 867 = .ok (.aload_n 2, 1) := by decide +kernel
theorem dL_law_868 : decode cL_law 868 = .ok (.aload_n 0, 1) := by decide +kernel
theorem dL_law_869 : decode cL_law 869 = .ok (.iload 4, 2) := by decide +kernel
theorem dL_law_871 : decode cL_law 871 = .ok (.iconst 1, 1) := by decide +kernel
theorem dL_law_872 : decode cL_law 872 = .ok (.iadd, 1) := by decide +kernel
theorem dL_law_873 : decode cL_law 873 = .ok (.iaload, 1) := by decide +kernel
theorem dL_law_874 : decode cL_law 874 = .ok (.aload_n 0, 1) := by decide +kernel
theorem dL_law_875 : decode cL_law 875 = .ok (.iload 4, 2) := by decide +kernel
theorem dL_law_877 : decode cL_law 877 = .ok (.iconst 2, 1) := by decide +kernel
theorem dL_law_878 : decode cL_law 878 = .ok (.iadd, 1) := by decide +kernel
theorem dL_law_879 : decode cL_law 879 = .ok (.iaload, 1) := by decide +kernel
theorem dL_law_880 : decode cL_law 880 = .ok (.aload_n 0, 1) := by decide +kernel
theorem dL_law_881 : decode cL_law 881 = .ok (.iload 4, 2) := by decide +kernel
theorem dL_law_883 : decode cL_law 883 = .ok (.iconst 3, 1) := by decide +kernel
theorem dL_law_884 : decode cL_law 884 = .ok (.iadd, 1) := by decide +kernel
theorem dL_law_885 : decode cL_law 885 = .ok (.iaload, 1) := by decide +kernel
theorem dL_law_886 : decode cL_law 886 = .ok (.invokevirtual 107, 3) := by decide +kernel
theorem dL_law_889 : decode cL_law 889 = .ok (.if_icmp .eq 488, 3) := by decide +kernel
theorem dL_law_894 : decode cL_law 894 = .ok (.aload_n 1, 1) := by decide +kernel
theorem dL_law_895 : decode cL_law 895 = .ok (.invokevirtual 108, 3) := by decide +kernel
theorem dL_law_898 : decode cL_law 898 = .ok (.aload_n 2, 1) := by decide +kernel
theorem dL_law_899 : decode cL_law 899 = .ok (.invokevirtual 111, 3) := by decide +kernel
theorem dL_law_902 : decode cL_law 902 = .ok (.if_icmp .eq 475, 3) := by decide +kernel
theorem dL_law_907 : decode cL_law 907 = .ok (.aload_n 1, 1) := by decide +kernel
theorem dL_law_908 : decode cL_law 908 = .ok (.aload_n 0, 1) := by decide +kernel
theorem dL_law_909 : decode cL_law 909 = .ok (.iload 4, 2) := by decide +kernel
theorem dL_law_911 : decode cL_law 911 = .ok (.iconst 1, 1) := by decide +kernel
theorem dL_law_912 : decode cL_law 912 = .ok (.iadd, 1) := by decide +kernel
theorem dL_law_913 : decode cL_law 913 = .ok (.iaload, 1) := by decide +kernel
theorem dL_law_914 : decode cL_law 914 = .ok (.invokevirtual 112, 3) := by decide +kernel
theorem dL_law_917 : decode cL_law 917 = .ok (.aload_n 2, 1) := by decide +kernel
theorem dL_law_918 : decode cL_law 918 = .ok (.aload_n 0, 1) := by decide +kernel
theorem dL_law_919 : decode cL_law 919 = .ok (.iload 4, 2) := by decide +kernel
theorem dL_law_921 : decode cL_law 921 = .ok (.iconst 1, 1) := by decide +kernel
theorem dL_law_922 : decode cL_law 922 = .ok (.iadd, 1) := by decide +kernel
theorem dL_law_923 : decode cL_law 923 = .ok (.iaload, 1) := by decide +kernel
theorem dL_law_924 : decode cL_law 924 = .ok (.invokevirtual 115, 3) := by decide +kernel
theorem dL_law_927 : decode cL_law 927 = .ok (.if_icmp .eq 450, 3) := by decide +kernel
theorem dL_law_932 : decode cL_law 932 = .ok (.aload_n 1, 1) := by decide +kernel
theorem dL_law_933 : decode cL_law 933 = .ok (.aload_n 0, 1) := by decide +kernel
theorem dL_law_934 : decode cL_law 934 = .ok (.iload 4, 2) := by decide +kernel
theorem dL_law_936 : decode cL_law 936 = .ok (.iconst 1, 1) := by decide +kernel
theorem dL_law_937 : decode cL_law 937 = .ok (.iadd, 1) := by decide +kernel
theorem dL_law_938 : decode cL_law 938 = .ok (.iaload, 1) := by decide +kernel
theorem dL_law_939 : decode cL_law 939 = .ok (.invokevirtual 116, 3) := by decide +kernel
theorem dL_law_942 : decode cL_law 942 = .ok (.aload_n 2, 1) := by decide +kernel
theorem dL_law_943 : decode cL_law 943 = .ok (.aload_n 0, 1) := by decide +kernel
theorem dL_law_944 : decode cL_law 944 = .ok (.iload 4, 2) := by decide +kernel
theorem dL_law_946 : decode cL_law 946 = .ok (.iconst 1, 1) := by decide +kernel
theorem dL_law_947 : decode cL_law 947 = .ok (.iadd, 1) := by decide +kernel
theorem dL_law_948 : decode cL_law 948 = .ok (.iaload, 1) := by decide +kernel
theorem dL_law_949 : decode cL_law 949 = .ok (.invokevirtual 119, 3) := by decide +kernel
theorem dL_law_952 : decode cL_law 952 = .ok (.if_icmp .eq 425, 3) := by decide +kernel
theorem dL_law_957 : decode cL_law 957 = .ok (.aload_n 1, 1) := by decide +kernel
theorem dL_law_958 : decode cL_law 958 = .ok (.aload_n 0, 1) := by decide +kernel
theorem dL_law_959 : decode cL_law 959 = .ok (.iload 4, 2) := by decide +kernel
theorem dL_law_961 : decode cL_law 961 = .ok (.iconst 1, 1) := by decide +kernel
theorem dL_law_962 : decode cL_law 962 = .ok (.iadd, 1) := by decide +kernel
theorem dL_law_963 : decode cL_law 963 = .ok (.iaload, 1) := by decide +kernel
theorem dL_law_964 : decode cL_law 964 = .ok (.invokevirtual 120, 3) := by decide +kernel
theorem dL_law_967 : decode cL_law 967 = .ok (.aload_n 2, 1) := by decide +kernel
theorem dL_law_968 : decode cL_law 968 = .ok (.aload_n 0, 1) := by decide +kernel
theorem dL_law_969 : decode cL_law 969 = .ok (.iload 4, 2) := by decide +kernel
theorem dL_law_971 : decode cL_law 971 = .ok (.iconst 1, 1) := by decide +kernel
theorem dL_law_972 : decode cL_law 972 = .ok (.iadd, 1) := by decide +kernel
theorem dL_law_973 : decode cL_law 973 = .ok (.iaload, 1) := by decide +kernel
theorem dL_law_974 : decode cL_law 974 = .ok (.invokevirtual 123, 3) := by decide +kernel
theorem dL_law_977 : decode cL_law 977 = .ok (.if_icmp .eq 400, 3) := by decide +kernel
theorem dL_law_982 : decode cL_law 982 = .ok (.aload_n 1, 1) := by decide +kernel
theorem dL_law_983 : decode cL_law 983 = .ok (.aload_n 0, 1) := by decide +kernel
theorem dL_law_984 : decode cL_law 984 = .ok (.iload 4, 2) := by decide +kernel
theorem dL_law_986 : decode cL_law 986 = .ok (.iconst 1, 1) := by decide +kernel
theorem dL_law_987 : decode cL_law 987 = .ok (.iadd, 1) := by decide +kernel
theorem dL_law_988 : decode cL_law 988 = .ok (.iaload, 1) := by decide +kernel
theorem dL_law_989 : decode cL_law 989 = .ok (.invokevirtual 124, 3) := by decide +kernel
theorem dL_law_992 : decode cL_law 992 = .ok (.aload_n 2, 1) := by decide +kernel
theorem dL_law_993 : decode cL_law 993 = .ok (.aload_n 0, 1) := by decide +kernel
theorem dL_law_994 : decode cL_law 994 = .ok (.iload 4, 2) := by decide +kernel
theorem dL_law_996 : decode cL_law 996 = .ok (.iconst 1, 1) := by decide +kernel
theorem dL_law_997 : decode cL_law 997 = .ok (.iadd, 1) := by decide +kernel
theorem dL_law_998 : decode cL_law 998 = .ok (.iaload, 1) := by decide +kernel
theorem dL_law_999 : decode cL_law 999 = .ok (.invokevirtual 127, 3) := by decide +kernel
theorem dL_law_1002 : decode cL_law 1002 = .ok (.if_icmp .eq 375, 3) := by decide +kernel
theorem dL_law_1007 : decode cL_law 1007 = .ok (.aload_n 1, 1) := by decide +kernel
theorem dL_law_1008 : decode cL_law 1008 = .ok (.invokevirtual 128, 3) := by decide +kernel
theorem dL_law_1011 : decode cL_law 1011 = .ok (.aload_n 2, 1) := by decide +kernel
theorem dL_law_1012 : decode cL_law 1012 = .ok (.invokevirtual 131, 3) := by decide +kernel
theorem dL_law_1015 : decode cL_law 1015 = .ok (.if_icmp .eq 362, 3) := by decide +kernel
theorem dL_law_1020 : decode cL_law 1020 = .ok (.aload_n 1, 1) := by decide +kernel
theorem dL_law_1021 : decode cL_law 1021 = .ok (.invokevirtual 132, 3) := by decide +kernel
theorem dL_law_1024 : decode cL_law 1024 = .ok (.aload_n 2, 1) := by decide +kernel
theorem dL_law_1025 : decode cL_law 1025 = .ok (.invokevirtual 135, 3) := by decide +kernel
theorem dL_law_1028 : decode cL_law 1028 = .ok (.if_icmp .eq 349, 3) := by decide +kernel
theorem dL_law_1033 : decode cL_law 1033 = .ok (.aload_n 1, 1) := by decide +kernel
theorem dL_law_1034 : decode cL_law 1034 = .ok (.aload_n 0, 1) := by decide +kernel
theorem dL_law_1035 : decode cL_law 1035 = .ok (.iload 4, 2) := by decide +kernel
theorem dL_law_1037 : decode cL_law 1037 = .ok (.iconst 1, 1) := by decide +kernel
theorem dL_law_1038 : decode cL_law 1038 = .ok (.iadd, 1) := by decide +kernel
theorem dL_law_1039 : decode cL_law 1039 = .ok (.iaload, 1) := by decide +kernel
theorem dL_law_1040 : decode cL_law 1040 = .ok (.invokevirtual 136, 3) := by decide +kernel
theorem dL_law_1043 : decode cL_law 1043 = .ok (.aload_n 2, 1) := by decide +kernel
theorem dL_law_1044 : decode cL_law 1044 = .ok (.aload_n 0, 1) := by decide +kernel
theorem dL_law_1045 : decode cL_law 1045 = .ok (.iload 4, 2) := by decide +kernel
theorem dL_law_1047 : decode cL_law 1047 = .ok (.iconst 1, 1) := by decide +kernel
theorem dL_law_1048 : decode cL_law 1048 = .ok (.iadd, 1) := by decide +kernel
theorem dL_law_1049 : decode cL_law 1049 = .ok (.iaload, 1) := by decide +kernel
theorem dL_law_1050 : decode cL_law 1050 = .ok (.invokevirtual 139, 3) := by decide +kernel
theorem dL_law_1053 : decode cL_law 1053 = .ok (.if_icmp .eq 324, 3) := by decide +kernel
theorem dL_law_1058 : decode cL_law 1058 = .ok (.aload_n 1, 1) := by decide +kernel
theorem dL_law_1059 : decode cL_law 1059 = .ok (.aload_n 0, 1) := by decide +kernel
theorem dL_law_1060 : decode cL_law 1060 = .ok (.iload 4, 2) := by decide +kernel
theorem dL_law_1062 : decode cL_law 1062 = .ok (.iconst 1, 1) := by decide +kernel
theorem dL_law_1063 : decode cL_law 1063 = .ok (.iadd, 1) := by decide +kernel
theorem dL_law_1064 : decode cL_law 1064 = .ok (.iaload, 1) := by decide +kernel
theorem dL_law_1065 : decode cL_law 1065 = .ok (.invokevirtual 140, 3) := by decide +kernel
theorem dL_law_1068 : decode cL_law 1068 = .ok (.aload_n 2, 1) := by decide +kernel
theorem dL_law_1069 : decode cL_law 1069 = .ok (.aload_n 0, 1) := by decide +kernel
theorem dL_law_1070 : decode cL_law 1070 = .ok (.iload 4, 2) := by decide +kernel
theorem dL_law_1072 : decode cL_law 1072 = .ok (.iconst 1, 1) := by decide +kernel
theorem dL_law_1073 : decode cL_law 1073 = .ok (.iadd, 1) := by decide +kernel
theorem dL_law_1074 : decode cL_law 1074 = .ok (.iaload, 1) := by decide +kernel
theorem dL_law_1075 : decode cL_law 1075 = .ok (.invokevirtual 143, 3) := by decide +kernel
theorem dL_law_1078 : decode cL_law 1078 = .ok (.if_icmp .eq 299, 3) := by decide +kernel
theorem dL_law_1083 : decode cL_law 1083 = .ok (.aload_n 1, 1) := by decide +kernel
theorem dL_law_1084 : decode cL_law 1084 = .ok (.invokevirtual 144, 3) := by decide +kernel
theorem dL_law_1087 : decode cL_law 1087 = .ok (.aload_n 2, 1) := by decide +kernel
theorem dL_law_1088 : decode cL_law 1088 = .ok (.invokevirtual 147, 3) := by decide +kernel
theorem dL_law_1091 : decode cL_law 1091 = .ok (.if_icmp .eq 286, 3) := by decide +kernel
theorem dL_law_1096 : decode cL_law 1096 = .ok (.aload_n 1, 1) := by decide +kernel
theorem dL_law_1097 : decode cL_law 1097 = .ok (.invokevirtual 148, 3) := by decide +kernel
theorem dL_law_1100 : decode cL_law 1100 = .ok (.aload_n 2, 1) := by decide +kernel
theorem dL_law_1101 : decode cL_law 1101 = .ok (.invokevirtual 151, 3) := by decide +kernel
theorem dL_law_1104 : decode cL_law 1104 = .ok (.if_icmp .eq 273, 3) := by decide +kernel
theorem dL_law_1109 : decode cL_law 1109 = .ok (.aload_n 1, 1) := by decide +kernel
theorem dL_law_1110 : decode cL_law 1110 = .ok (.aload_n 0, 1) := by decide +kernel
theorem dL_law_1111 : decode cL_law 1111 = .ok (.iload 4, 2) := by decide +kernel
theorem dL_law_1113 : decode cL_law 1113 = .ok (.iconst 1, 1) := by decide +kernel
theorem dL_law_1114 : decode cL_law 1114 = .ok (.iadd, 1) := by decide +kernel
theorem dL_law_1115 : decode cL_law 1115 = .ok (.iaload, 1) := by decide +kernel
theorem dL_law_1116 : decode cL_law 1116 = .ok (.aload_n 0, 1) := by decide +kernel
theorem dL_law_1117 : decode cL_law 1117 = .ok (.iload 4, 2) := by decide +kernel
theorem dL_law_1119 : decode cL_law 1119 = .ok (.iconst 2, 1) := by decide +kernel
theorem dL_law_1120 : decode cL_law 1120 = .ok (.iadd, 1) := by decide +kernel
theorem dL_law_1121 : decode cL_law 1121 = .ok (.iaload, 1) := by decide +kernel
theorem dL_law_1122 : decode cL_law 1122 = .ok (.ifCond .eq 7, 3) := by decide +kernel
theorem dL_law_1125 : decode cL_law 1125 = .ok (.iconst 1, 1) := by decide +kernel
theorem dL_law_1126 : decode cL_law 1126 = .ok (.goto 4, 3) := by decide +kernel
theorem dL_law_1129 : decode cL_law 1129 = .ok (.iconst 0, 1) := by decide +kernel
theorem dL_law_1130 : decode cL_law 1130 = .ok (.invokevirtual 152, 3) := by decide +kernel
theorem dL_law_1133 : decode cL_law 1133 = .ok (.aload_n 2, 1) := by decide +kernel
theorem dL_law_1134 : decode cL_law 1134 = .ok (.aload_n 0, 1) := by decide +kernel
theorem dL_law_1135 : decode cL_law 1135 = .ok (.iload 4, 2) := by decide +kernel
theorem dL_law_1137 : decode cL_law 1137 = .ok (.iconst 1, 1) := by decide +kernel
theorem dL_law_1138 : decode cL_law 1138 = .ok (.iadd, 1) := by decide +kernel
theorem dL_law_1139 : decode cL_law 1139 = .ok (.iaload, 1) := by decide +kernel
theorem dL_law_1140 : decode cL_law 1140 = .ok (.aload_n 0, 1) := by decide +kernel
theorem dL_law_1141 : decode cL_law 1141 = .ok (.iload 4, 2) := by decide +kernel
theorem dL_law_1143 : decode cL_law 1143 = .ok (.iconst 2, 1) := by decide +kernel
theorem dL_law_1144 : decode cL_law 1144 = .ok (.iadd, 1) := by decide +kernel
theorem dL_law_1145 : decode cL_law 1145 = .ok (.iaload, 1) := by decide +kernel
theorem dL_law_1146 : decode cL_law 1146 = .ok (.ifCond .eq 7, 3) := by decide +kernel
theorem dL_law_1149 : decode cL_law 1149 = .ok (.iconst 1, 1) := by decide +kernel
theorem dL_law_1150 : decode cL_law 1150 = .ok (.goto 4, 3) := by decide +kernel
theorem dL_law_1153 : decode cL_law 1153 = .ok (.iconst 0, 1) := by decide +kernel
theorem dL_law_1154 : decode cL_law 1154 = .ok (.invokevirtual 156, 3) := by decide +kernel
theorem dL_law_1157 : decode cL_law 1157 = .ok (.if_icmp .eq 220, 3) := by decide +kernel
theorem dL_law_1162 : decode cL_law 1162 = .ok (.aload_n 1, 1) := by decide +kernel
theorem dL_law_1163 : decode cL_law 1163 = .ok (.aload_n 0, 1) := by decide +kernel
theorem dL_law_1164 : decode cL_law 1164 = .ok (.iload 4, 2) := by decide +kernel
theorem dL_law_1166 : decode cL_law 1166 = .ok (.iconst 1, 1) := by decide +kernel
theorem dL_law_1167 : decode cL_law 1167 = .ok (.iadd, 1) := by decide +kernel
theorem dL_law_1168 : decode cL_law 1168 = .ok (.iaload, 1) := by decide +kernel
theorem dL_law_1169 : decode cL_law 1169 = .ok (.invokevirtual 157, 3) := by decide +kernel
theorem dL_law_1172 : decode cL_law 1172 = .ok (.aload_n 2, 1) := by decide +kernel
theorem dL_law_1173 : decode cL_law 1173 = .ok (.aload_n 0, 1) := by decide +kernel
theorem dL_law_1174 : decode cL_law 1174 = .ok (.iload 4, 2) := by decide +kernel
theorem dL_law_1176 : decode cL_law 1176 = .ok (.iconst 1, 1) := by decide +kernel
theorem dL_law_1177 : decode cL_law 1177 = .ok (.iadd, 1) := by decide +kernel
theorem dL_law_1178 : decode cL_law 1178 = .ok (.iaload, 1) := by decide +kernel
theorem dL_law_1179 : decode cL_law 1179 = .ok (.invokevirtual 160, 3) := by decide +kernel
theorem dL_law_1182 : decode cL_law 1182 = .ok (.if_icmp .eq 195, 3) := by decide +kernel
theorem dL_law_1187 : decode cL_law 1187 = .ok (.aload_n 1, 1) := by decide +kernel
theorem dL_law_1188 : decode cL_law 1188 = .ok (.invokevirtual 161, 3) := by decide +kernel
theorem dL_law_1191 : decode cL_law 1191 = .ok (.aload_n 2, 1) := by decide +kernel
theorem dL_law_1192 : decode cL_law 1192 = .ok (.invokevirtual 164, 3) := by decide +kernel
theorem dL_law_1195 : decode cL_law 1195 = .ok (.if_icmp .eq 182, 3) := by decide +kernel
theorem dL_law_1200 : decode cL_law 1200 = .ok (.aload_n 1, 1) := by decide +kernel
theorem dL_law_1201 : decode cL_law 1201 = .ok (.aload_n 0, 1) := by decide +kernel
theorem dL_law_1202 : decode cL_law 1202 = .ok (.iload 4, 2) := by decide +kernel
theorem dL_law_1204 : decode cL_law 1204 = .ok (.iconst 1, 1) := by decide +kernel
theorem dL_law_1205 : decode cL_law 1205 = .ok (.iadd, 1) := by decide +kernel
theorem dL_law_1206 : decode cL_law 1206 = .ok (.iaload, 1) := by decide +kernel
theorem dL_law_1207 : decode cL_law 1207 = .ok (.invokevirtual 165, 3) := by decide +kernel
theorem dL_law_1210 : decode cL_law 1210 = .ok (.aload_n 2, 1) := by decide +kernel
theorem dL_law_1211 : decode cL_law 1211 = .ok (.aload_n 0, 1) := by decide +kernel
theorem dL_law_1212 : decode cL_law 1212 = .ok (.iload 4, 2) := by decide +kernel
theorem dL_law_1214 : decode cL_law 1214 = .ok (.iconst 1, 1) := by decide +kernel
theorem dL_law_1215 : decode cL_law 1215 = .ok (.iadd, 1) := by decide +kernel
theorem dL_law_1216 : decode cL_law 1216 = .ok (.iaload, 1) := by decide +kernel
theorem dL_law_1217 : decode cL_law 1217 = .ok (.invokevirtual 168, 3) := by decide +kernel
theorem dL_law_1220 : decode cL_law 1220 = .ok (.if_icmp .eq 157, 3) := by decide +kernel
theorem dL_law_1225 : decode cL_law 1225 = .ok (.aload_n 1, 1) := by decide +kernel
theorem dL_law_1226 : decode cL_law 1226 = .ok (.invokevirtual 169, 3) := by decide +kernel
theorem dL_law_1229 : decode cL_law 1229 = .ok (.aload_n 2, 1) := by decide +kernel
theorem dL_law_1230 : decode cL_law 1230 = .ok (.invokevirtual 172, 3) := by decide +kernel
theorem dL_law_1233 : decode cL_law 1233 = .ok (.if_icmp .eq 144, 3) := by decide +kernel
theorem dL_law_1238 : decode cL_law 1238 = .ok (.aload_n 1, 1) := by decide +kernel
theorem dL_law_1239 : decode cL_law 1239 = .ok (.aload_n 0, 1) := by decide +kernel
theorem dL_law_1240 : decode cL_law 1240 = .ok (.iload 4, 2) := by decide +kernel
theorem dL_law_1242 : decode cL_law 1242 = .ok (.iconst 1, 1) := by decide +kernel
theorem dL_law_1243 : decode cL_law 1243 = .ok (.iadd, 1) := by decide +kernel
theorem dL_law_1244 : decode cL_law 1244 = .ok (.iaload, 1) := by decide +kernel
theorem dL_law_1245 : decode cL_law 1245 = .ok (.aload_n 0, 1) := by decide +kernel
theorem dL_law_1246 : decode cL_law 1246 = .ok (.iload 4, 2) := by decide +kernel
theorem dL_law_1248 : decode cL_law 1248 = .ok (.iconst 2, 1) := by decide +kernel
theorem dL_law_1249 : decode cL_law 1249 = .ok (.iadd, 1) := by decide +kernel
theorem dL_law_1250 : decode cL_law 1250 = .ok (.iaload, 1) := by decide +kernel
theorem dL_law_1251 : decode cL_law 1251 = .ok (.invokevirtual 173, 3) := by decide +kernel
theorem dL_law_1254 : decode cL_law 1254 = .ok (.aload_n 2, 1) := by decide +kernel
theorem dL_law_1255 : decode cL_law 1255 = .ok (.aload_n 0, 1) := by decide +kernel
theorem dL_law_1256 : decode cL_law 1256 = .ok (.iload 4, 2) := by decide +kernel
theorem dL_law_1258 : decode cL_law 1258 = .ok (.iconst 1, 1) := by decide +kernel
theorem dL_law_1259 : decode cL_law 1259 = .ok (.iadd, 1) := by decide +kernel
theorem dL_law_1260 : decode cL_law 1260 = .ok (.iaload, 1) := by decide +kernel
theorem dL_law_1261 : decode cL_law 1261 = .ok (.aload_n 0, 1) := by decide +kernel
theorem dL_law_1262 : decode cL_law 1262 = .ok (.iload 4, 2) := by decide +kernel
theorem dL_law_1264 : decode cL_law 1264 = .ok (.iconst 2, 1) := by decide +kernel
theorem dL_law_1265 : decode cL_law 1265 = .ok (.iadd, 1) := by decide +kernel
theorem dL_law_1266 : decode cL_law 1266 = .ok (.iaload, 1) := by decide +kernel
theorem dL_law_1267 : decode cL_law 1267 = .ok (.invokevirtual 176, 3) := by decide +kernel
theorem dL_law_1270 : decode cL_law 1270 = .ok (.if_icmp .eq 107, 3) := by decide +kernel
theorem dL_law_1275 : decode cL_law 1275 = .ok (.aload_n 1, 1) := by decide +kernel
theorem dL_law_1276 : decode cL_law 1276 = .ok (.aload_n 0, 1) := by decide +kernel
theorem dL_law_1277 : decode cL_law 1277 = .ok (.iload 4, 2) := by decide +kernel
theorem dL_law_1279 : decode cL_law 1279 = .ok (.iconst 1, 1) := by decide +kernel
theorem dL_law_1280 : decode cL_law 1280 = .ok (.iadd, 1) := by decide +kernel
theorem dL_law_1281 : decode cL_law 1281 = .ok (.iaload, 1) := by decide +kernel
theorem dL_law_1282 : decode cL_law 1282 = .ok (.invokevirtual 177, 3) := by decide +kernel
theorem dL_law_1285 : decode cL_law 1285 = .ok (.aload_n 2, 1) := by decide +kernel
theorem dL_law_1286 : decode cL_law 1286 = .ok (.aload_n 0, 1) := by decide +kernel
theorem dL_law_1287 : decode cL_law 1287 = .ok (.iload 4, 2) := by decide +kernel
theorem dL_law_1289 : decode cL_law 1289 = .ok (.iconst 1, 1) := by decide +kernel
theorem dL_law_1290 : decode cL_law 1290 = .ok (.iadd, 1) := by decide +kernel
theorem dL_law_1291 : decode cL_law 1291 = .ok (.iaload, 1) := by decide +kernel
theorem dL_law_1292 : decode cL_law 1292 = .ok (.invokevirtual 180, 3) := by decide +kernel
theorem dL_law_1295 : decode cL_law 1295 = .ok (.if_icmp .eq 82, 3) := by decide +kernel
theorem dL_law_1300 : decode cL_law 1300 = .ok (.aload_n 1, 1) := by decide +kernel
theorem dL_law_1301 : decode cL_law 1301 = .ok (.invokevirtual 181, 3) := by decide +kernel
theorem dL_law_1304 : decode cL_law 1304 = .ok (.aload_n 2, 1) := by decide +kernel
theorem dL_law_1305 : decode cL_law 1305 = .ok (.invokevirtual 184, 3) := by decide +kernel
theorem dL_law_1308 : decode cL_law 1308 = .ok (.if_icmp .eq 69, 3) := by decide +kernel
theorem dL_law_1313 : decode cL_law 1313 = .ok (.aload_n 1, 1) := by decide +kernel
theorem dL_law_1314 : decode cL_law 1314 = .ok (.invokevirtual 185, 3) := by decide +kernel
theorem dL_law_1317 : decode cL_law 1317 = .ok (.aload_n 2, 1) := by decide +kernel
theorem dL_law_1318 : decode cL_law 1318 = .ok (.invokevirtual 188, 3) := by decide +kernel
theorem dL_law_1321 : decode cL_law 1321 = .ok (.if_icmp .eq 56, 3) := by decide +kernel
theorem dL_law_1326 : decode cL_law 1326 = .ok (.aload_n 1, 1) := by decide +kernel
theorem dL_law_1327 : decode cL_law 1327 = .ok (.invokevirtual 189, 3) := by decide +kernel
theorem dL_law_1330 : decode cL_law 1330 = .ok (.aload_n 2, 1) := by decide +kernel
theorem dL_law_1331 : decode cL_law 1331 = .ok (.invokevirtual 192, 3) := by decide +kernel
theorem dL_law_1334 : decode cL_law 1334 = .ok (.if_icmp .eq 43, 3) := by decide +kernel
theorem dL_law_1339 : decode cL_law 1339 = .ok (.aload_n 1, 1) := by decide +kernel
theorem dL_law_1340 : decode cL_law 1340 = .ok (.invokevirtual 193, 3) := by decide +kernel
theorem dL_law_1343 : decode cL_law 1343 = .ok (.aload_n 2, 1) := by decide +kernel
theorem dL_law_1344 : decode cL_law 1344 = .ok (.invokevirtual 196, 3) := by decide +kernel
theorem dL_law_1347 : decode cL_law 1347 = .ok (.if_icmp .eq 30, 3) := by decide +kernel
theorem dL_law_1352 : decode cL_law 1352 = .ok (.aload_n 1, 1) := by decide +kernel
theorem dL_law_1353 : decode cL_law 1353 = .ok (.aload_n 0, 1) := by decide +kernel
theorem dL_law_1354 : decode cL_law 1354 = .ok (.iload 4, 2) := by decide +kernel
theorem dL_law_1356 : decode cL_law 1356 = .ok (.iconst 1, 1) := by decide +kernel
theorem dL_law_1357 : decode cL_law 1357 = .ok (.iadd, 1) := by decide +kernel
theorem dL_law_1358 : decode cL_law 1358 = .ok (.iaload, 1) := by decide +kernel
theorem dL_law_1359 : decode cL_law 1359 = .ok (.invokevirtual 197, 3) := by decide +kernel
theorem dL_law_1362 : decode cL_law 1362 = .ok (.aload_n 2, 1) := by decide +kernel
theorem dL_law_1363 : decode cL_law 1363 = .ok (.aload_n 0, 1) := by decide +kernel
theorem dL_law_1364 : decode cL_law 1364 = .ok (.iload 4, 2) := by decide +kernel
theorem dL_law_1366 : decode cL_law 1366 = .ok (.iconst 1, 1) := by decide +kernel
theorem dL_law_1367 : decode cL_law 1367 = .ok (.iadd, 1) := by decide +kernel
theorem dL_law_1368 : decode cL_law 1368 = .ok (.iaload, 1) := by decide +kernel
theorem dL_law_1369 : decode cL_law 1369 = .ok (.invokevirtual 200, 3) := by decide +kernel
theorem dL_law_1372 : decode cL_law 1372 = .ok (.if_icmp .eq 5, 3) := by decide +kernel
theorem dL_law_1377 : decode cL_law 1377 = .ok (.iinc 4 6, 3) := by decide +kernel
theorem dL_law_1380 : decode cL_law 1380 = .ok (.goto (-1357), 3) := by decide +kernel
theorem dL_law_1383 : decode cL_law 1383 = .ok (.iconst 1, 1) := by decide +kernel
theorem dL_law_1384 : decode cL_law 1384 = .ok (.ireturn, 1) := by decide +kernel
def R_law : String := "LawnAheadLaw"
def lw_P (b : Addr) (xs : List Int32) (args : Array Value) (s : State) : Prop := args = #[.ref b] ∧ s.IntsAt b xs ∧ xs.length ≤ 6 ∧ (Jvm.Cond.and given_1 narrow_1).before args s = true
def lw_Q (_ : Array Value) (s : State) (o : Outcome) (t : State) : Prop := o = .returned (some (.int 1)) ∧ Framed s o t [] 600002 7302232
def lw_Z (below : List Frame) (a : Array Value) (s : State) : State → Prop := fun t => ∃ o, t.status = .running ∧ Ended t below o ∧ lw_Q a s o t
/-- the law's own end, with 1 on the stack, nothing written that was there before, its room as the claim has it -/
theorem lw_ret {p : Program} {l : Launch} {e : Env} {s : State} {m : MethodId} {below : List Frame} {meth : Method} {c : Code} {b : Nat} (hx : p.tables.exec = Jvm.exec) (hb : c.code = code) (hr : meth.sig.returnType = ret) (hlocks : meth.locks = false) {pc : Nat} {H : Heap} {ls : Array Slot} (hdg : decode code pc = .ok (.ireturn, 1)) : W p l e room_1 s m #[Value.ref b] below meth c H [] 600002 7302232 (lw_Z below #[Value.ref b] s) (F0 m pc ls [.int 1]) := by
  intro T hT X
  obtain ⟨fs, hret, hrun, hended, hW, hframe⟩ := X.leave (v := some (.int 1)) (hlocks := hlocks) (fun h => by rw [hr] at h; cases h)
  have hmeth' : T.vm.method? m = some meth := X.method'
  refine ⟨T.setFrames fs, ?_, .returned (some (.int 1)), hrun, hended, rfl, ⟨_, rfl⟩, hW, hframe⟩
  jvm_step X.here [X.here.top, hx, hb, hdg, hmeth', hr, ret, narrow_b1]
  (try refine ⟨rfl, ?_⟩); (try refine ⟨rfl, ?_⟩)
  first | (intro acts; rw [hret _ acts rfl rfl rfl]) | rw [hret _ _ rfl rfl rfl]
  exact Steps.refl _
/-- what holds at the law's entry: the machine, the code, the tables' words (any of lw_tbl by 'hts w (by decide +kernel)'), the script of L ints xs at the cell b, what the Statement gives of the start (any of its parts by flat_of_before) -/
def lw_At (p : Program) (s : State) (m : MethodId) (meth : Method) (c : Code) (b L : Nat) (xs : Nat → Int32) : Prop :=
  p.tables.exec = Jvm.exec ∧ c.code = code ∧ meth.sig.returnType = ret ∧ c.maxLocals = 7 ∧ s.vm.findClass R_law = some m.cls ∧ (∀ w ∈ lw_tbl, w.before #[Value.ref b] s = true) ∧ va_X b L xs s s.heap ∧ b < s.heap.size ∧ meth.locks = false ∧ (Jvm.Cond.and given_1 narrow_1).before #[Value.ref b] s = true
theorem in_at {big : List Cond} (ws : List Cond) (ps : List Nat) (hp : ws = ps.filterMap (fun i => big[i]?)) : ∀ w ∈ ws, w ∈ big := by
  intro w hw
  rw [hp] at hw
  obtain ⟨i, -, hi⟩ := List.mem_filterMap.mp hw
  exact List.mem_of_getElem? hi
def w_law_0 : List Cond := [.constantLong RL 77 (4294967295), .classLink RL 8 RX11, .instantiable RX11 17, .initialized RX11, .methodLink RL 15 yX11_init, .instanceMethod yX11_init, .classLink RL 16 RX12, .instantiable RX12 53, .initialized RX12, .methodLink RL 18 yX12_init, .instanceMethod yX12_init, .arrayClass .long, .methodLink RL 19 yX11_feed, .instanceMethod yX11_feed, .selects RX11 yX11_feed yX11_feed, .code yX11_feed cX11_feed 7 (some .int), .code yX10_fullBytes cX10_fullBytes 3 (some .int), .methodLink RX11 97 yX10_fullBytes, .static yX10_fullBytes, .initialized RX10, .fieldLink RX11 10 "LawnAhead" "tape" "LLawnAhead$Tape;", .fieldLink RX11 101 "LawnAhead$Tape" "length" "I", .fieldLink RX10 15 "LawnAhead$Tape" "length" "I", .fieldLink RX10 11 "LawnAhead$Tape" "bytes" "[I", .code yX10_append cX10_append 4 none, .methodLink RX11 104 yX10_append, .instanceMethod yX10_append, .selects RX10 yX10_append yX10_append, .methodLink RL 23 yX12_feed, .instanceMethod yX12_feed, .selects RX12 yX12_feed yX12_feed, .code yX12_feed cX12_feed 6 (some .int), .fieldLink RX12 94 "LawnAheadModel" "thrown" "I", .fieldLink RX12 107 "LawnAheadModel" "length" "I", .code yX12_bytesIn cX12_bytesIn 3 (some .int), .methodLink RX12 109 yX12_bytesIn, .static yX12_bytesIn, .fieldLink RX12 9 "LawnAheadModel" "tape" "[B", .code yX12_put cX12_put 3 none, .methodLink RX12 113 yX12_put]
set_option maxRecDepth 1000000 in
theorem w_law_in_0 : ∀ w ∈ w_law_0, w ∈ lw_tbl := in_at _ [2200, 141, 142, 115, 143, 144, 1484, 1485, 127, 1486, 1487, 1652, 601, 602, 603, 604, 607, 605, 606, 116, 549, 156, 157, 155, 611, 608, 609, 610, 1657, 1658, 1659, 1660, 1492, 1498, 1663, 1661, 1662, 1493, 1667, 1664] (by decide +kernel)
def w_law_1 : List Cond := [.instanceMethod yX12_put, .selects RX12 yX12_put yX12_put, .methodLink RL 24 yX11_end, .instanceMethod yX11_end, .selects RX11 yX11_end yX11_end, .code yX11_end cX11_end 2 (some .boolean), .methodLink RL 28 yX12_end, .instanceMethod yX12_end, .selects RX12 yX12_end yX12_end, .code yX12_end cX12_end 2 (some .boolean), .methodLink RL 29 yX11_fault, .instanceMethod yX11_fault, .selects RX11 yX11_fault yX11_fault, .code yX11_fault cX11_fault 2 (some .int), .fieldLink RX11 51 "LawnAhead" "spare" "LLawnAhead$Ground;", .fieldLink RX10 19 "LawnAhead$Tape" "wrongAt" "I", .fieldLink RX10 22 "LawnAhead$Tape" "at" "I", .code yX10_rewind cX10_rewind 1 none, .methodLink RX4 27 yX10_rewind, .instanceMethod yX10_rewind, .selects RX10 yX10_rewind yX10_rewind, .fieldLink RX4 56 "LawnAhead$Ground" "USUAL" "[I", .fieldLink RX4 11 "LawnAhead$Ground" "rules" "[I", .methodLink RX4 59 arraycopyName, .native arraycopyName, .static arraycopyName, .initialized "java/lang/System", .fieldLink RX4 65 "LawnAhead$Ground" "tufts" "I", .fieldLink RX4 69 "LawnAhead$Ground" "beds" "I", .fieldLink RX4 72 "LawnAhead$Ground" "ruled" "Z", .fieldLink RX4 76 "LawnAhead$Ground" "doubled" "Z", .fieldLink RX4 79 "LawnAhead$Ground" "tuftCount" "I", .fieldLink RX4 82 "LawnAhead$Ground" "bedCount" "I", .code yX4_clear cX4_clear 1 none, .methodLink RX4 32 yX4_clear, .instanceMethod yX4_clear, .selects RX4 yX4_clear yX4_clear, .initialized RX4, .code yX10_sign cX10_sign 1 (some .int), .methodLink RX4 39 yX10_sign]
set_option maxRecDepth 1000000 in
theorem w_law_in_1 : ∀ w ∈ w_law_1, w ∈ lw_tbl := in_at _ [1666, 48, 612, 613, 614, 615, 1668, 1669, 1670, 1671, 616, 617, 618, 619, 560, 159, 158, 627, 624, 625, 626, 632, 323, 634, 636, 635, 128, 341, 344, 348, 349, 350, 351, 631, 628, 630, 0, 121, 644, 641] (by decide +kernel)
def w_law_2 : List Cond := [.instanceMethod yX10_sign, .selects RX10 yX10_sign yX10_sign, .code yX4_mayCome cX4_mayCome 2 (some .boolean), .methodLink RX4 85 yX4_mayCome, .instanceMethod yX4_mayCome, .selects RX4 yX4_mayCome yX4_mayCome, .code yX10_wrong cX10_wrong 1 (some .boolean), .methodLink RX4 89 yX10_wrong, .instanceMethod yX10_wrong, .selects RX10 yX10_wrong yX10_wrong, .code yX4_readClause cX4_readClause 3 (some .boolean), .methodLink RX4 35 yX4_readClause, .instanceMethod yX4_readClause, .selects RX4 yX4_readClause yX4_readClause, .code yX4_read cX4_read 3 (some .boolean), .methodLink RX11 108 yX4_read, .instanceMethod yX4_read, .selects RX4 yX4_read yX4_read, .fieldLink RX11 112 "LawnAhead$Tape" "wrongAt" "I", .fieldLink RX11 18 "LawnAhead" "lawShelf" "[LLawnAhead$Law;", .fieldLink RX11 115 "LawnAhead" "lawCount" "I", .methodLink RX6 26 yX10_rewind, .fieldLink RX6 29 "LawnAhead$Law" "size" "I", .fieldLink RX6 33 "LawnAhead$Law" "usesDay" "Z", .fieldLink RX6 37 "LawnAhead$Law" "clauses" "I", .fieldLink RX6 20 "LawnAhead$Law" "conditions" "[I", .methodLink RX10 31 yX10_sign, .methodLink RX10 35 yX10_wrong, .code yX10_demand cX10_demand 2 (some .boolean), .methodLink RX6 55 yX10_demand, .instanceMethod yX10_demand, .selects RX10 yX10_demand yX10_demand, .code yX6_readClause cX6_readClause 4 (some .boolean), .methodLink RX6 40 yX6_readClause, .instanceMethod yX6_readClause, .selects RX6 yX6_readClause yX6_readClause, .initialized RX6, .code yX6_read cX6_read 3 (some .boolean), .methodLink RX11 118 yX6_read, .instanceMethod yX6_read]
set_option maxRecDepth 1000000 in
theorem w_law_in_2 : ∀ w ∈ w_law_2, w ∈ lw_tbl := in_at _ [642, 643, 648, 645, 647, 2, 652, 649, 650, 651, 640, 637, 639, 1, 623, 620, 621, 622, 160, 550, 561, 803, 184, 186, 185, 182, 765, 766, 811, 808, 809, 810, 807, 804, 806, 10, 117, 802, 799, 800] (by decide +kernel)
def w_law_3 : List Cond := [.selects RX6 yX6_read yX6_read, .fieldLink RX11 24 "LawnAhead" "gameShelf" "[LLawnAhead$Game;", .fieldLink RX11 119 "LawnAhead" "gameCount" "I", .methodLink RX3 15 yX10_rewind, .fieldLink RX3 20 "LawnAhead$Game" "leaves" "I", .fieldLink RX3 24 "LawnAhead$Game" "count" "I", .methodLink RX3 31 yX10_sign, .methodLink RX3 42 yX10_wrong, .code yX3_readMove cX3_readMove 4 (some .int), .methodLink RX3 27 yX3_readMove, .instanceMethod yX3_readMove, .selects RX3 yX3_readMove yX3_readMove, .initialized RX3, .code yX3_read cX3_read 4 (some .boolean), .methodLink RX11 122 yX3_read, .instanceMethod yX3_read, .selects RX3 yX3_read yX3_read, .methodLink RL 33 yX12_fault, .instanceMethod yX12_fault, .selects RX12 yX12_fault yX12_fault, .code yX12_fault cX12_fault 2 (some .int), .constantLong RX12 283 (2), .code yX12_isIn cX12_isIn 6 (some .boolean), .methodLink RX12 215 yX12_isIn, .static yX12_isIn, .fieldLink RX12 126 "LawnAheadModel" "fault" "I", .fieldLink RX12 23 "LawnAheadModel" "text" "[B", .fieldLink RX12 123 "LawnAheadModel" "begins" "I", .fieldLink RX12 120 "LawnAheadModel" "ends" "I", .fieldLink RX12 117 "LawnAheadModel" "at" "I", .code yX12_starts cX12_starts 4 none, .methodLink RX12 205 yX12_starts, .instanceMethod yX12_starts, .selects RX12 yX12_starts yX12_starts, .code yX12_look cX12_look 1 (some .int), .methodLink RX12 136 yX12_look, .instanceMethod yX12_look, .selects RX12 yX12_look yX12_look, .fieldLink RJ0 9 "java/lang/String" "value" "[B", .fieldLink RJ0 38 "java/lang/String" "COMPACT_STRINGS" "Z"]
set_option maxRecDepth 1000000 in
theorem w_law_in_3 : ∀ w ∈ w_law_3, w ∈ lw_tbl := in_at _ [801, 551, 562, 852, 214, 211, 857, 858, 856, 853, 855, 17, 118, 851, 848, 849, 850, 1672, 1673, 1674, 1675, 1676, 1679, 1677, 1678, 1503, 1497, 1500, 1501, 1502, 1687, 1684, 1686, 50, 1698, 1695, 1697, 52, 2219, 677] (by decide +kernel)
def w_law_4 : List Cond := [.fieldLink RJ0 15 "java/lang/String" "coder" "B", .code yJ0_coder_7d493 cJ0_coder_7d493 1 (some .byte), .methodLink RJ0 335 yJ0_coder_7d493, .instanceMethod yJ0_coder_7d493, .selects RJ0 yJ0_coder_7d493 yJ0_coder_7d493, .initialized RJ0, .code yJ0_length_8abf5 cJ0_length_8abf5 1 (some .int), .methodLink RX12 97 yJ0_length_8abf5, .instanceMethod yJ0_length_8abf5, .selects RJ0 yJ0_length_8abf5 yJ0_length_8abf5, .code yJ0_isLatin1_aae02 cJ0_isLatin1_aae02 1 (some .boolean), .methodLink RJ0 492 yJ0_isLatin1_aae02, .instanceMethod yJ0_isLatin1_aae02, .selects RJ0 yJ0_isLatin1_aae02 yJ0_isLatin1_aae02, .fieldLink RJ0 1053 "jdk/internal/util/Preconditions" "SIOOBE_FORMATTER" "Ljava/util/function/BiFunction;", .code yJ3_checkIndex_8e157 cJ3_checkIndex_8e157 3 (some .int), .methodLink RJ0 1059 yJ3_checkIndex_8e157, .static yJ3_checkIndex_8e157, .initialized RJ3, .code yJ0_checkIndex_df160 cJ0_checkIndex_df160 2 none, .methodLink RJ1 9 yJ0_checkIndex_df160, .static yJ0_checkIndex_df160, .code yJ1_charAt_3b067 cJ1_charAt_3b067 2 (some .char), .methodLink RJ0 495 yJ1_charAt_3b067, .static yJ1_charAt_3b067, .initialized RJ1, .code yJ0_charAt_5068e cJ0_charAt_5068e 2 (some .char), .methodLink RX12 103 yJ0_charAt_5068e, .instanceMethod yJ0_charAt_5068e, .selects RJ0 yJ0_charAt_5068e yJ0_charAt_5068e, .code yX12_spotOf cX12_spotOf 3 (some .int), .methodLink RX12 223 yX12_spotOf, .static yX12_spotOf, .code yX12_fails cX12_fails 1 (some .boolean), .methodLink RX12 132 yX12_fails, .instanceMethod yX12_fails, .selects RX12 yX12_fails yX12_fails, .code yX12_readMove cX12_readMove 4 none, .methodLink RX12 280 yX12_readMove, .instanceMethod yX12_readMove]
set_option maxRecDepth 1000000 in
theorem w_law_in_4 : ∀ w ∈ w_law_4, w ∈ lw_tbl := in_at _ [2218, 686, 683, 684, 685, 130, 682, 1708, 680, 681, 676, 673, 674, 675, 718, 1724, 1722, 1723, 133, 1721, 1719, 1720, 1718, 1716, 1717, 131, 1715, 1712, 1713, 1714, 1711, 1709, 1710, 1702, 1699, 1701, 53, 1832, 1829, 1831] (by decide +kernel)
def w_law_5 : List Cond := [.selects RX12 yX12_readMove yX12_readMove, .code yX12_readGame cX12_readGame 3 none, .methodLink RX12 291 yX12_readGame, .instanceMethod yX12_readGame, .selects RX12 yX12_readGame yX12_readGame, .fieldLink RX12 199 "LawnAheadModel" "label" "I", .fieldLink RX12 129 "LawnAheadModel" "deep" "I", .fieldLink RX12 195 "LawnAheadModel" "hasFound" "Z", .fieldLink RX12 202 "LawnAheadModel" "found" "I", .code yX12_isAmong cX12_isAmong 3 (some .boolean), .methodLink RX12 152 yX12_isAmong, .static yX12_isAmong, .code yX12_clause cX12_clause 5 none, .methodLink RX12 209 yX12_clause, .instanceMethod yX12_clause, .selects RX12 yX12_clause yX12_clause, .code yX12_goThrough cX12_goThrough 4 none, .methodLink RX12 288 yX12_goThrough, .instanceMethod yX12_goThrough, .selects RX12 yX12_goThrough yX12_goThrough, .fieldLink RX12 260 "LawnAheadModel" "tuftsRead" "I", .fieldLink RX12 263 "LawnAheadModel" "bedsRead" "I", .fieldLink RX12 243 "LawnAheadModel" "tuftMany" "I", .fieldLink RX12 246 "LawnAheadModel" "bedMany" "I", .fieldLink RX12 240 "LawnAheadModel" "hasRules" "Z", .fieldLink RX12 257 "LawnAheadModel" "isDoubled" "Z", .fieldLink RX12 40 "LawnAheadModel" "ruleRead" "[I", .code yX12_usual cX12_usual 2 (some .int), .methodLink RX12 219 yX12_usual, .static yX12_usual, .code yX12_readClause cX12_readClause 3 none, .methodLink RX12 266 yX12_readClause, .instanceMethod yX12_readClause, .selects RX12 yX12_readClause yX12_readClause, .code yX12_readLawn cX12_readLawn 3 none, .methodLink RX12 285 yX12_readLawn, .instanceMethod yX12_readLawn, .selects RX12 yX12_readLawn yX12_readLawn, .methodLink RL 34 yX11_text, .instanceMethod yX11_text]
set_option maxRecDepth 1000000 in
theorem w_law_in_5 : ∀ w ∈ w_law_5, w ∈ lw_tbl := in_at _ [70, 1828, 1825, 1827, 69, 1505, 1504, 1509, 1506, 1774, 1772, 1773, 1771, 1768, 1770, 59, 1767, 1764, 1766, 58, 1517, 1518, 1519, 1520, 1522, 1523, 1511, 1690, 1688, 1689, 1694, 1691, 1693, 51, 1683, 1680, 1682, 49, 869, 870] (by decide +kernel)
def w_law_6 : List Cond := [.selects RX11 yX11_text yX11_text, .code yX11_text cX11_text 2 (some .int), .code yX11_tellLawn cX11_tellLawn 2 (some .int), .methodLink RX11 123 yX11_tellLawn, .instanceMethod yX11_tellLawn, .selects RX11 yX11_tellLawn yX11_tellLawn, .methodLink RL 37 yX12_text, .instanceMethod yX12_text, .selects RX12 yX12_text yX12_text, .code yX12_text cX12_text 4 (some .int), .methodLink RX12 300 yX12_fault, .fieldLink RX12 297 "LawnAheadModel" "games" "I", .fieldLink RX12 294 "LawnAheadModel" "lawMany" "I", .methodLink RL 38 yX11_rule, .instanceMethod yX11_rule, .selects RX11 yX11_rule yX11_rule, .code yX11_rule cX11_rule 2 (some .int), .fieldLink RX11 47 "LawnAhead" "ground" "LLawnAhead$Ground;", .fieldLink RX11 148 "LawnAhead$Ground" "cells" "I", .code yX11_noLawn cX11_noLawn 1 (some .boolean), .methodLink RX11 155 yX11_noLawn, .instanceMethod yX11_noLawn, .selects RX11 yX11_noLawn yX11_noLawn, .methodLink RL 41 yX12_rule, .instanceMethod yX12_rule, .selects RX12 yX12_rule yX12_rule, .code yX12_rule cX12_rule 2 (some .int), .fieldLink RX12 302 "LawnAheadModel" "cells" "I", .methodLink RL 52 yX11_law, .instanceMethod yX11_law, .selects RX11 yX11_law yX11_law, .code yX11_law cX11_law 2 (some .boolean), .fieldLink RX11 93 "LawnAhead" "holding" "I", .fieldLink RX11 59 "LawnAhead" "sight" "LLawnAhead$Sight;", .fieldLink RX8 32 "LawnAhead$Sight" "ground" "LLawnAhead$Ground;", .fieldLink RX8 36 "LawnAhead$Sight" "law" "LLawnAhead$Law;", .fieldLink RX8 11 "LawnAhead$Sight" "pageDays" "[I", .code yJ7_fill_53178 cJ7_fill_53178 4 none, .methodLink RX8 40 yJ7_fill_53178, .static yJ7_fill_53178]
set_option maxRecDepth 1000000 in
theorem w_law_in_6 : ∀ w ∈ w_law_6, w ∈ lw_tbl := in_at _ [871, 872, 876, 873, 875, 18, 1839, 1840, 1841, 1842, 1843, 1521, 1499, 904, 905, 906, 907, 559, 334, 911, 908, 910, 20, 1844, 1845, 1846, 1847, 1515, 912, 913, 914, 915, 563, 554, 389, 393, 394, 903, 901, 902] (by decide +kernel)
def w_law_7 : List Cond := [.initialized RJ7, .fieldLink RX8 15 "LawnAhead$Sight" "reckoned" "[I", .fieldLink RX8 18 "LawnAhead$Sight" "worthy" "[I", .code yX8_face cX8_face 3 none, .methodLink RX11 151 yX8_face, .instanceMethod yX8_face, .selects RX8 yX8_face yX8_face, .initialized RX8, .code yX11_lookByLaw cX11_lookByLaw 2 none, .methodLink RX11 145 yX11_lookByLaw, .instanceMethod yX11_lookByLaw, .selects RX11 yX11_lookByLaw yX11_lookByLaw, .methodLink RL 55 yX12_law, .instanceMethod yX12_law, .selects RX12 yX12_law yX12_law, .code yX12_law cX12_law 2 (some .boolean), .fieldLink RX12 58 "LawnAheadModel" "law" "I", .methodLink RL 56 yX11_drought, .instanceMethod yX11_drought, .selects RX11 yX11_drought yX11_drought, .code yX11_drought cX11_drought 2 (some .boolean), .fieldLink RX11 187 "LawnAhead" "dryness" "I", .methodLink RL 59 yX12_drought, .instanceMethod yX12_drought, .selects RX12 yX12_drought yX12_drought, .code yX12_drought cX12_drought 2 (some .boolean), .constantLong RX12 358 (99), .fieldLink RX12 360 "LawnAheadModel" "drought" "I", .methodLink RL 60 yX11_grow, .instanceMethod yX11_grow, .selects RX11 yX11_grow yX11_grow, .code yX11_grow cX11_grow 2 (some .int), .fieldLink RX11 68 "LawnAhead" "play" "LLawnAhead$Play;", .fieldLink RX11 33 "LawnAhead" "now" "LLawnAhead$State;", .fieldLink RX7 31 "LawnAhead$Play" "sight" "LLawnAhead$Sight;", .fieldLink RX7 36 "LawnAhead$Sight" "ground" "LLawnAhead$Ground;", .fieldLink RX7 42 "LawnAhead$Ground" "cells" "I", .code yX7_allows cX7_allows 7 (some .boolean), .methodLink RX11 211 yX7_allows, .instanceMethod yX7_allows]
set_option maxRecDepth 1000000 in
theorem w_law_in_7 : ∀ w ∈ w_law_7, w ∈ lw_tbl := in_at _ [135, 395, 396, 900, 897, 898, 899, 122, 896, 893, 895, 19, 1875, 1876, 1877, 1878, 1526, 916, 917, 918, 919, 564, 1879, 1880, 1881, 1882, 1883, 1527, 920, 921, 922, 923, 555, 552, 438, 390, 331, 931, 928, 929] (by decide +kernel)
def w_law_8 : List Cond := [.selects RX7 yX7_allows yX7_allows, .initialized RX7, .code yX11_act cX11_act 6 (some .boolean), .methodLink RX11 190 yX11_act, .instanceMethod yX11_act, .selects RX11 yX11_act yX11_act, .methodLink RL 63 yX12_grow, .instanceMethod yX12_grow, .selects RX12 yX12_grow yX12_grow, .code yX12_grow cX12_grow 2 (some .int), .fieldLink RX12 52 "LawnAheadModel" "now" "[I", .code yX12_isOpen cX12_isOpen 2 (some .boolean), .methodLink RX12 363 yX12_isOpen, .instanceMethod yX12_isOpen, .selects RX12 yX12_isOpen yX12_isOpen, .code yX12_canGrow cX12_canGrow 3 (some .boolean), .methodLink RX12 375 yX12_canGrow, .instanceMethod yX12_canGrow, .selects RX12 yX12_canGrow yX12_canGrow, .methodLink RL 64 yX11_cut, .instanceMethod yX11_cut, .selects RX11 yX11_cut yX11_cut, .code yX11_cut cX11_cut 4 (some .int), .methodLink RL 68 yX12_cut, .instanceMethod yX12_cut, .selects RX12 yX12_cut yX12_cut, .code yX12_cut cX12_cut 4 (some .int), .code yX12_canCut cX12_canCut 5 (some .boolean), .methodLink RX12 390 yX12_canCut, .instanceMethod yX12_canCut, .selects RX12 yX12_canCut yX12_canCut, .methodLink RL 69 yX11_sit, .instanceMethod yX11_sit, .selects RX11 yX11_sit yX11_sit, .code yX11_sit cX11_sit 2 (some .int), .fieldLink RX11 197 "LawnAhead$State" "turn" "I", .methodLink RL 72 yX12_sit, .instanceMethod yX12_sit, .selects RX12 yX12_sit yX12_sit, .code yX12_sit cX12_sit 1 (some .int)]
set_option maxRecDepth 1000000 in
theorem w_law_in_8 : ∀ w ∈ w_law_8, w ∈ lw_tbl := in_at _ [930, 123, 927, 924, 926, 21, 1884, 1885, 1886, 1887, 1524, 1895, 1892, 1894, 77, 1891, 1888, 1890, 76, 1015, 1016, 1017, 1018, 1911, 1912, 1913, 1914, 1918, 1915, 1917, 81, 1019, 1020, 1021, 1022, 240, 1927, 1928, 1929, 1930] (by decide +kernel)
def w_law_9 : List Cond := [.methodLink RL 73 yX11_mole, .instanceMethod yX11_mole, .selects RX11 yX11_mole yX11_mole, .code yX11_mole cX11_mole 2 (some .int), .methodLink RL 76 yX12_mole, .instanceMethod yX12_mole, .selects RX12 yX12_mole yX12_mole, .code yX12_mole cX12_mole 2 (some .int), .code yX12_canDig cX12_canDig 3 (some .boolean), .methodLink RX12 402 yX12_canDig, .instanceMethod yX12_canDig, .selects RX12 yX12_canDig yX12_canDig, .methodLink RL 79 yX11_games, .instanceMethod yX11_games, .selects RX11 yX11_games yX11_games, .code yX11_games cX11_games 5 (some .int), .methodLink RL 83 yX12_games, .instanceMethod yX12_games, .selects RX12 yX12_games yX12_games, .code yX12_games cX12_games 5 (some .int), .methodLink RL 84 yX11_undo, .instanceMethod yX11_undo, .selects RX11 yX11_undo yX11_undo, .code yX11_undo cX11_undo 1 (some .int), .fieldLink RX11 40 "LawnAhead" "history" "LLawnAhead$History;", .fieldLink RX5 27 "LawnAhead$History" "undoable" "I", .code yX5_takeBack cX5_takeBack 2 (some .boolean), .methodLink RX11 262 yX5_takeBack, .instanceMethod yX5_takeBack, .selects RX5 yX5_takeBack yX5_takeBack, .initialized RX5, .methodLink RL 87 yX12_undo, .instanceMethod yX12_undo, .selects RX12 yX12_undo yX12_undo, .code yX12_undo cX12_undo 2 (some .int), .fieldLink RX12 311 "LawnAheadModel" "acts" "I", .methodLink RL 88 yX11_log, .instanceMethod yX11_log, .selects RX11 yX11_log yX11_log, .code yX11_log cX11_log 3 (some .int)]
set_option maxRecDepth 1000000 in
theorem w_law_in_9 : ∀ w ∈ w_law_9, w ∈ lw_tbl := in_at _ [1023, 1024, 1025, 1026, 1934, 1935, 1936, 1937, 1941, 1938, 1940, 84, 1028, 1029, 1030, 1031, 1945, 1946, 1947, 1948, 1067, 1068, 1069, 1070, 553, 286, 1074, 1071, 1072, 1073, 120, 1979, 1980, 1981, 1982, 1531, 1075, 1076, 1077, 1078] (by decide +kernel)
def w_law_10 : List Cond := [.constant RX11 271 (-1000000), .fieldLink RX5 31 "LawnAhead$History" "kept" "I", .methodLink RX5 38 Lib.Math.min.name, .static Lib.Math.min.name, .initialized "java/lang/Math", .code Lib.Math.min.name Lib.Math.min.code 2 (some .int), .code yX5_shown cX5_shown 1 (some .int), .methodLink RX11 268 yX5_shown, .instanceMethod yX5_shown, .selects RX5 yX5_shown yX5_shown, .methodLink RL 91 yX12_log, .instanceMethod yX12_log, .selects RX12 yX12_log yX12_log, .code yX12_log cX12_log 3 (some .int), .constant RX12 439 (-1000000), .methodLink RL 92 yX11_move, .instanceMethod yX11_move, .selects RX11 yX11_move yX11_move, .code yX11_move cX11_move 4 (some .int), .code yX11_isGame cX11_isGame 2 (some .boolean), .methodLink RX11 278 yX11_isGame, .instanceMethod yX11_isGame, .selects RX11 yX11_isGame yX11_isGame, .methodLink RL 95 yX12_move, .instanceMethod yX12_move, .selects RX12 yX12_move yX12_move, .code yX12_move cX12_move 4 (some .int), .code yX12_isGame cX12_isGame 2 (some .boolean), .methodLink RX12 440 yX12_isGame, .instanceMethod yX12_isGame, .selects RX12 yX12_isGame yX12_isGame, .methodLink RL 96 yX11_run, .instanceMethod yX11_run, .selects RX11 yX11_run yX11_run, .code yX11_run cX11_run 3 (some .int), .methodLink RL 99 yX12_run, .instanceMethod yX12_run, .selects RX12 yX12_run yX12_run, .code yX12_run cX12_run 5 (some .int), .methodLink RL 100 yX11_perform]
set_option maxRecDepth 1000000 in
theorem w_law_in_10 : ∀ w ∈ w_law_10, w ∈ lw_tbl := in_at _ [1083, 289, 1002, 658, 129, 659, 1082, 1079, 1080, 1081, 1983, 1984, 1985, 1986, 1988, 1091, 1092, 1093, 1094, 1098, 1095, 1097, 28, 1989, 1990, 1991, 1992, 1996, 1993, 1995, 91, 1099, 1100, 1101, 1102, 1997, 1998, 1999, 2000, 1126] (by decide +kernel)
def w_law_11 : List Cond := [.instanceMethod yX11_perform, .selects RX11 yX11_perform yX11_perform, .code yX11_perform cX11_perform 6 (some .int), .methodLink RL 103 yX12_perform, .instanceMethod yX12_perform, .selects RX12 yX12_perform yX12_perform, .code yX12_perform cX12_perform 5 (some .int), .methodLink RL 104 yX11_missing, .instanceMethod yX11_missing, .selects RX11 yX11_missing yX11_missing, .code yX11_missing cX11_missing 4 (some .int), .methodLink RL 107 yX12_missing, .instanceMethod yX12_missing, .selects RX12 yX12_missing yX12_missing, .code yX12_missing cX12_missing 11 (some .int), .methodLink RL 108 yX11_threats, .instanceMethod yX11_threats, .selects RX11 yX11_threats yX11_threats, .code yX11_threats cX11_threats 1 (some .int), .methodLink RL 111 yX12_threats, .instanceMethod yX12_threats, .selects RX12 yX12_threats yX12_threats, .code yX12_threats cX12_threats 1 (some .int), .methodLink RL 112 yX11_cuts, .instanceMethod yX11_cuts, .selects RX11 yX11_cuts yX11_cuts, .code yX11_cuts cX11_cuts 2 (some .int), .methodLink RL 115 yX12_cuts, .instanceMethod yX12_cuts, .selects RX12 yX12_cuts yX12_cuts, .code yX12_cuts cX12_cuts 2 (some .int), .methodLink RL 116 yX11_answers, .instanceMethod yX11_answers, .selects RX11 yX11_answers yX11_answers, .code yX11_answers cX11_answers 2 (some .int), .methodLink RL 119 yX12_answers, .instanceMethod yX12_answers, .selects RX12 yX12_answers yX12_answers, .code yX12_answers cX12_answers 2 (some .int), .methodLink RL 120 yX11_advice]
set_option maxRecDepth 1000000 in
theorem w_law_in_11 : ∀ w ∈ w_law_11, w ∈ lw_tbl := in_at _ [1127, 1128, 1129, 2021, 2022, 2023, 2024, 1131, 1132, 1133, 1134, 2025, 2026, 2027, 2028, 1156, 1157, 1158, 1159, 2033, 2034, 2035, 2036, 1161, 1162, 1163, 1164, 2037, 2038, 2039, 2040, 1166, 1167, 1168, 1169, 2045, 2046, 2047, 2048, 1175] (by decide +kernel)
def w_law_12 : List Cond := [.instanceMethod yX11_advice, .selects RX11 yX11_advice yX11_advice, .code yX11_advice cX11_advice 2 (some .int), .methodLink RL 123 yX12_advice, .instanceMethod yX12_advice, .selects RX12 yX12_advice yX12_advice, .code yX12_advice cX12_advice 2 (some .int), .methodLink RL 124 yX11_holds, .instanceMethod yX11_holds, .selects RX11 yX11_holds yX11_holds, .code yX11_holds cX11_holds 3 (some .int), .code yX11_openNight cX11_openNight 1 (some .boolean), .methodLink RX11 329 yX11_openNight, .instanceMethod yX11_openNight, .selects RX11 yX11_openNight yX11_openNight, .methodLink RL 127 yX12_holds, .instanceMethod yX12_holds, .selects RX12 yX12_holds yX12_holds, .code yX12_holds cX12_holds 4 (some .int), .code yX12_isNight cX12_isNight 1 (some .boolean), .methodLink RX12 484 yX12_isNight, .instanceMethod yX12_isNight, .selects RX12 yX12_isNight yX12_isNight, .methodLink RL 128 yX11_forced, .instanceMethod yX11_forced, .selects RX11 yX11_forced yX11_forced, .code yX11_forced cX11_forced 1 (some .int), .methodLink RL 131 yX12_forced, .instanceMethod yX12_forced, .selects RX12 yX12_forced yX12_forced, .code yX12_forced cX12_forced 3 (some .int), .methodLink RL 132 yX11_meant, .instanceMethod yX11_meant, .selects RX11 yX11_meant yX11_meant, .code yX11_meant cX11_meant 1 (some .int), .methodLink RL 135 yX12_meant, .instanceMethod yX12_meant, .selects RX12 yX12_meant yX12_meant, .code yX12_meant cX12_meant 1 (some .int), .methodLink RL 136 yX11_parts]
set_option maxRecDepth 1000000 in
theorem w_law_in_12 : ∀ w ∈ w_law_12, w ∈ lw_tbl := in_at _ [1176, 1177, 1178, 2049, 2050, 2051, 2052, 1179, 1180, 1181, 1182, 1186, 1183, 1185, 34, 2053, 2054, 2055, 2056, 2060, 2057, 2059, 98, 1198, 1199, 1200, 1201, 2069, 2070, 2071, 2072, 1202, 1203, 1204, 1205, 2073, 2074, 2075, 2076, 1206] (by decide +kernel)
def w_law_13 : List Cond := [.instanceMethod yX11_parts, .selects RX11 yX11_parts yX11_parts, .code yX11_parts cX11_parts 2 (some .int), .methodLink RL 139 yX12_parts, .instanceMethod yX12_parts, .selects RX12 yX12_parts yX12_parts, .code yX12_parts cX12_parts 2 (some .int), .methodLink RL 140 yX11_sumOf, .instanceMethod yX11_sumOf, .selects RX11 yX11_sumOf yX11_sumOf, .code yX11_sumOf cX11_sumOf 2 (some .int), .methodLink RL 143 yX12_sumOf, .instanceMethod yX12_sumOf, .selects RX12 yX12_sumOf yX12_sumOf, .code yX12_sumOf cX12_sumOf 2 (some .int), .methodLink RL 144 yX11_winning, .instanceMethod yX11_winning, .selects RX11 yX11_winning yX11_winning, .code yX11_winning cX11_winning 1 (some .int), .methodLink RL 147 yX12_winning, .instanceMethod yX12_winning, .selects RX12 yX12_winning yX12_winning, .code yX12_winning cX12_winning 10 (some .int), .methodLink RL 148 yX11_fewest, .instanceMethod yX11_fewest, .selects RX11 yX11_fewest yX11_fewest, .code yX11_fewest cX11_fewest 1 (some .int), .methodLink RL 151 yX12_fewest, .instanceMethod yX12_fewest, .selects RX12 yX12_fewest yX12_fewest, .code yX12_fewest cX12_fewest 3 (some .int), .methodLink RL 152 yX11_book, .instanceMethod yX11_book, .selects RX11 yX11_book yX11_book, .code yX11_book cX11_book 3 (some .int), .code yX11_isCell cX11_isCell 2 (some .boolean), .methodLink RX11 159 yX11_isCell, .instanceMethod yX11_isCell, .selects RX11 yX11_isCell yX11_isCell, .methodLink RL 156 yX12_book]
set_option maxRecDepth 1000000 in
theorem w_law_in_13 : ∀ w ∈ w_law_13, w ∈ lw_tbl := in_at _ [1207, 1208, 1209, 2077, 2078, 2079, 2080, 1222, 1223, 1224, 1225, 2089, 2090, 2091, 2092, 1257, 1258, 1259, 1260, 2110, 2111, 2112, 2113, 1274, 1275, 1276, 1277, 2118, 2119, 2120, 2121, 1287, 1288, 1289, 1290, 1294, 1291, 1293, 41, 2122] (by decide +kernel)
def w_law_14 : List Cond := [.instanceMethod yX12_book, .selects RX12 yX12_book yX12_book, .code yX12_book cX12_book 3 (some .int), .code yX12_isCell cX12_isCell 2 (some .boolean), .methodLink RX12 355 yX12_isCell, .instanceMethod yX12_isCell, .selects RX12 yX12_isCell yX12_isCell, .code yX12_isGrass cX12_isGrass 2 (some .boolean), .methodLink RX12 516 yX12_isGrass, .instanceMethod yX12_isGrass, .selects RX12 yX12_isGrass yX12_isGrass, .methodLink RL 157 yX11_fit, .instanceMethod yX11_fit, .selects RX11 yX11_fit yX11_fit, .code yX11_fit cX11_fit 2 (some .int), .methodLink RL 160 yX12_fit, .instanceMethod yX12_fit, .selects RX12 yX12_fit yX12_fit, .code yX12_fit cX12_fit 5 (some .int), .methodLink RL 161 yX11_tells, .instanceMethod yX11_tells, .selects RX11 yX11_tells yX11_tells, .code yX11_tells cX11_tells 5 (some .int), .methodLink RL 164 yX12_tells, .instanceMethod yX12_tells, .selects RX12 yX12_tells yX12_tells, .code yX12_tells cX12_tells 8 (some .int), .methodLink RL 165 yX11_alike, .instanceMethod yX11_alike, .selects RX11 yX11_alike yX11_alike, .code yX11_alike cX11_alike 6 (some .int), .methodLink RL 168 yX12_alike, .instanceMethod yX12_alike, .selects RX12 yX12_alike yX12_alike, .code yX12_alike cX12_alike 6 (some .int), .methodLink RL 169 yX11_openings, .instanceMethod yX11_openings, .selects RX11 yX11_openings yX11_openings, .code yX11_openings cX11_openings 4 (some .int), .methodLink RL 172 yX12_openings]
set_option maxRecDepth 1000000 in
theorem w_law_in_14 : ∀ w ∈ w_law_14, w ∈ lw_tbl := in_at _ [2123, 2124, 2125, 1856, 1853, 1855, 72, 2129, 2126, 2128, 108, 1304, 1305, 1306, 1307, 2130, 2131, 2132, 2133, 1316, 1317, 1318, 1319, 2138, 2139, 2140, 2141, 1327, 1328, 1329, 1330, 2142, 2143, 2144, 2145, 1344, 1345, 1346, 1347, 2158] (by decide +kernel)
def w_law_15 : List Cond := [.instanceMethod yX12_openings, .selects RX12 yX12_openings yX12_openings, .code yX12_openings cX12_openings 7 (some .int), .methodLink RL 173 yX11_odds, .instanceMethod yX11_odds, .selects RX11 yX11_odds yX11_odds, .code yX11_odds cX11_odds 3 (some .int), .methodLink RL 176 yX12_odds, .instanceMethod yX12_odds, .selects RX12 yX12_odds yX12_odds, .code yX12_odds cX12_odds 3 (some .int), .methodLink RL 177 yX11_where, .instanceMethod yX11_where, .selects RX11 yX11_where yX11_where, .code yX11_where cX11_where 2 (some .int), .methodLink RL 180 yX12_where, .instanceMethod yX12_where, .selects RX12 yX12_where yX12_where, .code yX12_where cX12_where 6 (some .int), .methodLink RL 181 yX11_room, .instanceMethod yX11_room, .selects RX11 yX11_room yX11_room, .code yX11_room cX11_room 1 (some .int), .methodLink RL 184 yX12_room, .instanceMethod yX12_room, .selects RX12 yX12_room yX12_room, .code yX12_room cX12_room 1 (some .int), .methodLink RL 185 yX11_longest, .instanceMethod yX11_longest, .selects RX11 yX11_longest yX11_longest, .code yX11_longest cX11_longest 1 (some .int), .methodLink RL 188 yX12_longest, .instanceMethod yX12_longest, .selects RX12 yX12_longest yX12_longest, .code yX12_longest cX12_longest 1 (some .int), .methodLink RL 189 yX11_image, .instanceMethod yX11_image, .selects RX11 yX11_image yX11_image, .code yX11_image cX11_image 1 (some .int), .methodLink RL 192 yX12_image]
set_option maxRecDepth 1000000 in
theorem w_law_in_15 : ∀ w ∈ w_law_15, w ∈ lw_tbl := in_at _ [2159, 2160, 2161, 1356, 1357, 1358, 1359, 2162, 2163, 2164, 2165, 1372, 1373, 1374, 1375, 2176, 2177, 2178, 2179, 1380, 1381, 1382, 1383, 2180, 2181, 2182, 2183, 1384, 1385, 1386, 1387, 2184, 2185, 2186, 2187, 1393, 1394, 1395, 1396, 2188] (by decide +kernel)
def w_law_16 : List Cond := [.instanceMethod yX12_image, .selects RX12 yX12_image yX12_image, .code yX12_image cX12_image 1 (some .int), .methodLink RL 193 yX11_back, .instanceMethod yX11_back, .selects RX11 yX11_back yX11_back, .code yX11_back cX11_back 1 (some .int), .fieldLink RX5 34 "LawnAhead$History" "hasImage" "Z", .code yX5_bringBack cX5_bringBack 2 (some .boolean), .methodLink RX11 408 yX5_bringBack, .instanceMethod yX5_bringBack, .selects RX5 yX5_bringBack yX5_bringBack, .methodLink RL 196 yX12_back, .instanceMethod yX12_back, .selects RX12 yX12_back yX12_back, .code yX12_back cX12_back 1 (some .int), .fieldLink RX12 314 "LawnAheadModel" "hasImage" "Z", .methodLink RL 197 yX11_count, .instanceMethod yX11_count, .selects RX11 yX11_count yX11_count, .code yX11_count cX11_count 2 (some .int), .fieldLink RX11 169 "LawnAhead$State" "tufts" "I", .constant RJ6 265 (1431655765), .constant RJ6 266 (858993459), .constant RJ6 267 (252645135), .code yJ6_bitCount_0f7a4 cJ6_bitCount_0f7a4 1 (some .int), .methodLink RX11 206 yJ6_bitCount_0f7a4, .static yJ6_bitCount_0f7a4, .initialized RJ6, .fieldLink RX11 177 "LawnAhead$State" "day" "I", .fieldLink RX11 193 "LawnAhead$State" "won" "Z", .fieldLink RX11 200 "LawnAhead$State" "lawnThistles" "I", .fieldLink RX11 203 "LawnAhead$State" "houseThistles" "I", .fieldLink RX11 89 "LawnAhead" "books" "LLawnAhead$Books;", .fieldLink RX11 411 "LawnAhead$Books" "count" "I", .fieldLink RX11 265 "LawnAhead$History" "undoable" "I", .methodLink RL 200 yX12_count, .instanceMethod yX12_count, .selects RX12 yX12_count yX12_count, .code yX12_count cX12_count 2 (some .int)]
set_option maxRecDepth 1000000 in
theorem w_law_in_16 : ∀ w ∈ w_law_16, w ∈ lw_tbl := in_at _ [2189, 2190, 2191, 1402, 1403, 1404, 1405, 291, 1409, 1406, 1407, 1408, 2192, 2193, 2194, 2195, 1544, 1410, 1411, 1412, 1413, 232, 939, 940, 941, 938, 1027, 937, 140, 244, 255, 247, 250, 558, 540, 287, 2196, 2197, 2198, 2199] (by decide +kernel)
def w_law_17 : List Cond := [.methodLink RX12 333 yJ6_bitCount_0f7a4, .fieldLink RX12 308 "LawnAheadModel" "books" "I", .code yX11_init cX11_init 2 none, .methodLink RX11 1 objectInit, .instanceMethod objectInit, .code objectInit ⟨#[0xb1]⟩ 1 none, .classLink RX11 7 RX10, .instantiable RX10 4, .methodLink RX10 3 objectInit, .arrayClass .int, .code yX10_init cX10_init 1 none, .instanceMethod yX10_init, .classLink RX11 16 RX6, .classLink RX11 22 RX3, .instantiable RX6 7, .methodLink RX6 3 objectInit, .fieldLink RX6 11 "LawnAhead$Law" "code" "[I", .fieldLink RX6 17 "LawnAhead$Law" "stack" "[I", .fieldLink RX6 23 "LawnAhead$Law" "sums" "[I", .code yX6_init cX6_init 1 none, .instanceMethod yX6_init, .instantiable RX3 3, .methodLink RX3 3 objectInit, .fieldLink RX3 11 "LawnAhead$Game" "moves" "[I", .code yX3_init cX3_init 1 none, .instanceMethod yX3_init, .classLink RX11 30 RX9, .instantiable RX9 8, .initialized RX9, .methodLink RX9 1 objectInit, .code yX9_init cX9_init 1 none, .instanceMethod yX9_init, .classLink RX11 37 RX5, .instantiable RX5 11, .methodLink RX5 3 objectInit, .classLink RX5 9 RX9, .fieldLink RX5 11 "LawnAhead$History" "states" "[LLawnAhead$State;", .fieldLink RX5 15 "LawnAhead$History" "deeds" "[I", .fieldLink RX5 20 "LawnAhead$History" "imageState" "LLawnAhead$State;", .fieldLink RX5 24 "LawnAhead$History" "imageDeeds" "[I"]
set_option maxRecDepth 1000000 in
theorem w_law_in_17 : ∀ w ∈ w_law_17, w ∈ lw_tbl := in_at _ [1866, 1542, 145, 146, 147, 148, 149, 150, 154, 170, 153, 152, 171, 173, 175, 179, 180, 181, 183, 178, 177, 203, 207, 208, 206, 205, 223, 224, 119, 228, 227, 226, 273, 274, 278, 279, 282, 283, 284, 285] (by decide +kernel)
def w_law_18 : List Cond := [.code yX5_init cX5_init 2 none, .instanceMethod yX5_init, .methodLink RX11 39 yX5_init, .classLink RX11 44 RX4, .instantiable RX4 15, .methodLink RX4 3 objectInit, .fieldLink RX4 15 "LawnAhead$Ground" "near" "[I", .fieldLink RX4 18 "LawnAhead$Ground" "strides" "[I", .fieldLink RX4 21 "LawnAhead$Ground" "open" "[I", .fieldLink RX4 24 "LawnAhead$Ground" "lineStarts" "[I", .code yX4_init cX4_init 1 none, .instanceMethod yX4_init, .classLink RX11 54 RX8, .instantiable RX8 9, .methodLink RX8 5 objectInit, .fieldLink RX8 23 "LawnAhead$Sight" "letters" "[I", .fieldLink RX8 26 "LawnAhead$Sight" "codes" "[I", .fieldLink RX8 29 "LawnAhead$Sight" "taken" "[I", .code yX8_init cX8_init 2 none, .instanceMethod yX8_init, .methodLink RX11 56 yX8_init, .classLink RX11 63 RX7, .instantiable RX7 9, .methodLink RX7 3 objectInit, .classLink RX7 11 RX9, .fieldLink RX7 13 "LawnAhead$Play" "levels" "[LLawnAhead$State;", .fieldLink RX7 19 "LawnAhead$Play" "taken" "[I", .fieldLink RX7 23 "LawnAhead$Play" "grown" "[I", .classLink RX7 17 RX3, .fieldLink RX7 27 "LawnAhead$Play" "game" "LLawnAhead$Game;", .code yX7_init cX7_init 3 none, .instanceMethod yX7_init, .methodLink RX11 65 yX7_init, .classLink RX11 72 RX0, .instantiable RX0 5, .initialized RX0, .methodLink RX0 3 objectInit, .fieldLink RX0 9 "LawnAhead$Ahead" "sight" "LLawnAhead$Sight;", .code yX0_init cX0_init 2 none, .instanceMethod yX0_init]
set_option maxRecDepth 1000000 in
theorem w_law_in_18 : ∀ w ∈ w_law_18, w ∈ lw_tbl := in_at _ [277, 276, 275, 317, 318, 322, 326, 328, 329, 330, 321, 320, 383, 384, 388, 397, 398, 402, 387, 386, 385, 428, 429, 433, 434, 439, 440, 441, 435, 442, 432, 431, 430, 468, 469, 124, 473, 474, 472, 471] (by decide +kernel)
def w_law_19 : List Cond := [.methodLink RX11 74 yX0_init, .fieldLink RX11 75 "LawnAhead" "ahead" "LLawnAhead$Ahead;", .classLink RX11 79 RX2, .instantiable RX2 10, .initialized RX2, .methodLink RX2 3 objectInit, .fieldLink RX2 9 "LawnAhead$Ends" "parts" "[I", .fieldLink RX2 15 "LawnAhead$Ends" "places" "[I", .fieldLink RX2 20 "LawnAhead$Ends" "localCuts" "[I", .fieldLink RX2 23 "LawnAhead$Ends" "sight" "LLawnAhead$Sight;", .code yX2_init cX2_init 2 none, .instanceMethod yX2_init, .methodLink RX11 81 yX2_init, .fieldLink RX11 82 "LawnAhead" "ends" "LLawnAhead$Ends;", .classLink RX11 86 RX1, .instantiable RX1 3, .initialized RX1, .methodLink RX1 3 objectInit, .fieldLink RX1 11 "LawnAhead$Books" "around" "[I", .arrayClass .boolean, .fieldLink RX1 15 "LawnAhead$Books" "grew" "[Z", .code yX1_init cX1_init 1 none, .instanceMethod yX1_init, .code yX12_init cX12_init 1 none, .methodLink RX12 3 objectInit, .arrayClass .byte, .fieldLink RX12 13 "LawnAheadModel" "texts" "[B", .fieldLink RX12 16 "LawnAheadModel" "textLong" "[I", .fieldLink RX12 20 "LawnAheadModel" "letters" "[I", .fieldLink RX12 28 "LawnAheadModel" "labels" "Ljava/lang/String;", .fieldLink RX12 34 "LawnAheadModel" "allowed" "Ljava/lang/String;", .fieldLink RX12 37 "LawnAheadModel" "rule" "[I", .fieldLink RX12 43 "LawnAheadModel" "one" "[I", .fieldLink RX12 46 "LawnAheadModel" "game" "[I", .fieldLink RX12 49 "LawnAheadModel" "gameLong" "[I", .fieldLink RX12 55 "LawnAheadModel" "trial" "[I", .fieldLink RX12 62 "LawnAheadModel" "memoKey" "[J", .fieldLink RX12 66 "LawnAheadModel" "memoWorth" "[I", .fieldLink RX12 69 "LawnAheadModel" "undoRow" "[I", .fieldLink RX12 72 "LawnAheadModel" "leaves" "[I"]
set_option maxRecDepth 1000000 in
theorem w_law_in_19 : ∀ w ∈ w_law_19, w ∈ lw_tbl := in_at _ [470, 556, 492, 493, 125, 497, 499, 501, 502, 498, 496, 495, 494, 557, 531, 532, 126, 536, 537, 548, 538, 535, 534, 1488, 1489, 868, 1494, 1495, 1496, 1507, 1508, 1510, 1512, 1513, 1514, 1525, 1528, 1529, 1530, 1533] (by decide +kernel)
def w_law_20 : List Cond := [.fieldLink RX12 75 "LawnAheadModel" "cellRow" "[I", .fieldLink RX12 78 "LawnAheadModel" "sums" "[I", .fieldLink RX12 81 "LawnAheadModel" "cutMany" "[I", .fieldLink RX12 84 "LawnAheadModel" "bookAround" "[I", .fieldLink RX12 87 "LawnAheadModel" "bookMay" "[Z", .fieldLink RX12 91 "LawnAheadModel" "imageRow" "[I"]
set_option maxRecDepth 1000000 in
theorem w_law_in_20 : ∀ w ∈ w_law_20, w ∈ lw_tbl := in_at _ [1536, 1537, 1538, 1540, 1541, 1543] (by decide +kernel)
set_option maxRecDepth 1000000 in
theorem inT_X0 : ∀ w ∈ wsX00, w ∈ lw_tbl := in_at _ [481, 483, 485, 487, 489] (by decide +kernel)
set_option maxRecDepth 1000000 in
theorem inT_X1 : ∀ w ∈ wsX10, w ∈ lw_tbl := in_at _ [541, 543, 545] (by decide +kernel)
set_option maxRecDepth 1000000 in
theorem inT_X2 : ∀ w ∈ wsX20, w ∈ lw_tbl := in_at _ [510, 512, 514, 516, 518, 520, 522, 524, 526, 528] (by decide +kernel)
set_option maxRecDepth 1000000 in
theorem inT_X3 : ∀ w ∈ wsX30, w ∈ lw_tbl := in_at _ [216, 218, 220] (by decide +kernel)
set_option maxRecDepth 1000000 in
theorem inT_X4 : ∀ w ∈ wsX40, w ∈ lw_tbl := in_at _ [352, 354, 356, 358, 360, 362, 364, 366, 368, 370, 372, 374, 376, 378, 380] (by decide +kernel)
set_option maxRecDepth 1000000 in
theorem inT_X5 : ∀ w ∈ wsX50, w ∈ lw_tbl := in_at _ [294, 296, 298, 300, 302, 304, 306, 308, 310, 312, 314] (by decide +kernel)
set_option maxRecDepth 1000000 in
theorem inT_X6 : ∀ w ∈ wsX60, w ∈ lw_tbl := in_at _ [188, 190, 192, 194, 196, 198, 200] (by decide +kernel)
set_option maxRecDepth 1000000 in
theorem inT_X7 : ∀ w ∈ wsX70, w ∈ lw_tbl := in_at _ [449, 451, 453, 455, 457, 459, 461, 463, 465] (by decide +kernel)
set_option maxRecDepth 1000000 in
theorem inT_X8 : ∀ w ∈ wsX80, w ∈ lw_tbl := in_at _ [409, 411, 413, 415, 417, 419, 421, 423, 425] (by decide +kernel)
set_option maxRecDepth 1000000 in
theorem inT_X9 : ∀ w ∈ wsX90, w ∈ lw_tbl := in_at _ [256, 258, 260, 262, 264, 266, 268, 270] (by decide +kernel)
set_option maxRecDepth 1000000 in
theorem inT_X10 : ∀ w ∈ wsX100, w ∈ lw_tbl := in_at _ [161, 163, 165, 167] (by decide +kernel)
set_option maxRecDepth 1000000 in
theorem inT_X11 : ∀ w ∈ wsX110, w ∈ lw_tbl := in_at _ [566, 568, 570, 572, 574, 576, 578, 580, 582, 584, 586, 588, 590, 592, 594, 596, 598] (by decide +kernel)
set_option maxRecDepth 1000000 in
theorem inT_X12 : ∀ w ∈ wsX120, w ∈ lw_tbl := in_at _ [1545, 1547, 1549, 1551, 1553, 1555, 1557, 1559, 1561, 1563, 1565, 1567, 1569, 1571, 1573, 1575, 1577, 1579, 1581, 1583, 1585, 1587, 1589, 1591, 1593, 1595, 1597, 1599, 1601, 1603, 1605, 1607, 1609, 1611, 1613, 1615, 1617, 1619, 1621, 1623, 1625, 1627, 1629, 1631, 1633, 1635, 1637, 1639, 1641, 1643, 1645, 1647, 1649] (by decide +kernel)
def w_law : List Cond := w_law_0 ++ (w_law_1 ++ (w_law_2 ++ (w_law_3 ++ (w_law_4 ++ (w_law_5 ++ (w_law_6 ++ (w_law_7 ++ (w_law_8 ++ (w_law_9 ++ (w_law_10 ++ (w_law_11 ++ (w_law_12 ++ (w_law_13 ++ (w_law_14 ++ (w_law_15 ++ (w_law_16 ++ (w_law_17 ++ (w_law_18 ++ (w_law_19 ++ (w_law_20 ++ (wsX00 ++ (wsX10 ++ (wsX20 ++ (wsX30 ++ (wsX40 ++ (wsX50 ++ (wsX60 ++ (wsX70 ++ (wsX80 ++ (wsX90 ++ (wsX100 ++ (wsX110 ++ (wsX120)))))))))))))))))))))))))))))))))
theorem w_law_in : ∀ w ∈ w_law, w ∈ lw_tbl := fun w h => (List.mem_append.mp h).elim (fun h => w_law_in_0 w h) (fun h => (fun w h => (List.mem_append.mp h).elim (fun h => w_law_in_1 w h) (fun h => (fun w h => (List.mem_append.mp h).elim (fun h => w_law_in_2 w h) (fun h => (fun w h => (List.mem_append.mp h).elim (fun h => w_law_in_3 w h) (fun h => (fun w h => (List.mem_append.mp h).elim (fun h => w_law_in_4 w h) (fun h => (fun w h => (List.mem_append.mp h).elim (fun h => w_law_in_5 w h) (fun h => (fun w h => (List.mem_append.mp h).elim (fun h => w_law_in_6 w h) (fun h => (fun w h => (List.mem_append.mp h).elim (fun h => w_law_in_7 w h) (fun h => (fun w h => (List.mem_append.mp h).elim (fun h => w_law_in_8 w h) (fun h => (fun w h => (List.mem_append.mp h).elim (fun h => w_law_in_9 w h) (fun h => (fun w h => (List.mem_append.mp h).elim (fun h => w_law_in_10 w h) (fun h => (fun w h => (List.mem_append.mp h).elim (fun h => w_law_in_11 w h) (fun h => (fun w h => (List.mem_append.mp h).elim (fun h => w_law_in_12 w h) (fun h => (fun w h => (List.mem_append.mp h).elim (fun h => w_law_in_13 w h) (fun h => (fun w h => (List.mem_append.mp h).elim (fun h => w_law_in_14 w h) (fun h => (fun w h => (List.mem_append.mp h).elim (fun h => w_law_in_15 w h) (fun h => (fun w h => (List.mem_append.mp h).elim (fun h => w_law_in_16 w h) (fun h => (fun w h => (List.mem_append.mp h).elim (fun h => w_law_in_17 w h) (fun h => (fun w h => (List.mem_append.mp h).elim (fun h => w_law_in_18 w h) (fun h => (fun w h => (List.mem_append.mp h).elim (fun h => w_law_in_19 w h) (fun h => (fun w h => (List.mem_append.mp h).elim (fun h => w_law_in_20 w h) (fun h => (fun w h => (List.mem_append.mp h).elim (fun h => inT_X0 w h) (fun h => (fun w h => (List.mem_append.mp h).elim (fun h => inT_X1 w h) (fun h => (fun w h => (List.mem_append.mp h).elim (fun h => inT_X2 w h) (fun h => (fun w h => (List.mem_append.mp h).elim (fun h => inT_X3 w h) (fun h => (fun w h => (List.mem_append.mp h).elim (fun h => inT_X4 w h) (fun h => (fun w h => (List.mem_append.mp h).elim (fun h => inT_X5 w h) (fun h => (fun w h => (List.mem_append.mp h).elim (fun h => inT_X6 w h) (fun h => (fun w h => (List.mem_append.mp h).elim (fun h => inT_X7 w h) (fun h => (fun w h => (List.mem_append.mp h).elim (fun h => inT_X8 w h) (fun h => (fun w h => (List.mem_append.mp h).elim (fun h => inT_X9 w h) (fun h => (fun w h => (List.mem_append.mp h).elim (fun h => inT_X10 w h) (fun h => (fun w h => (List.mem_append.mp h).elim (fun h => inT_X11 w h) (fun h => (fun w h => inT_X12 w h) w h)) w h)) w h)) w h)) w h)) w h)) w h)) w h)) w h)) w h)) w h)) w h)) w h)) w h)) w h)) w h)) w h)) w h)) w h)) w h)) w h)) w h)) w h)) w h)) w h)) w h)) w h)) w h)) w h)) w h)) w h)) w h)) w h)
theorem wl_0 : .constantLong RL 77 (4294967295) ∈ w_law := List.mem_of_getElem? (i := 0) (by decide +kernel)
theorem wl_1 : .classLink RL 8 RX11 ∈ w_law := List.mem_of_getElem? (i := 1) (by decide +kernel)
theorem wl_2 : .instantiable RX11 17 ∈ w_law := List.mem_of_getElem? (i := 2) (by decide +kernel)
theorem wl_3 : .initialized RX11 ∈ w_law := List.mem_of_getElem? (i := 3) (by decide +kernel)
theorem wl_4 : .methodLink RL 15 yX11_init ∈ w_law := List.mem_of_getElem? (i := 4) (by decide +kernel)
theorem wl_5 : .instanceMethod yX11_init ∈ w_law := List.mem_of_getElem? (i := 5) (by decide +kernel)
theorem wl_6 : .classLink RL 16 RX12 ∈ w_law := List.mem_of_getElem? (i := 6) (by decide +kernel)
theorem wl_7 : .instantiable RX12 53 ∈ w_law := List.mem_of_getElem? (i := 7) (by decide +kernel)
theorem wl_8 : .initialized RX12 ∈ w_law := List.mem_of_getElem? (i := 8) (by decide +kernel)
theorem wl_9 : .methodLink RL 18 yX12_init ∈ w_law := List.mem_of_getElem? (i := 9) (by decide +kernel)
theorem wl_10 : .instanceMethod yX12_init ∈ w_law := List.mem_of_getElem? (i := 10) (by decide +kernel)
theorem wl_11 : .arrayClass .long ∈ w_law := List.mem_of_getElem? (i := 11) (by decide +kernel)
theorem inW_X0 : ∀ w ∈ wsX00, w ∈ w_law := fun w h => (List.mem_append_right _ (List.mem_append_right _ (List.mem_append_right _ (List.mem_append_right _ (List.mem_append_right _ (List.mem_append_right _ (List.mem_append_right _ (List.mem_append_right _ (List.mem_append_right _ (List.mem_append_right _ (List.mem_append_right _ (List.mem_append_right _ (List.mem_append_right _ (List.mem_append_right _ (List.mem_append_right _ (List.mem_append_right _ (List.mem_append_right _ (List.mem_append_right _ (List.mem_append_right _ (List.mem_append_right _ (List.mem_append_right _ (List.mem_append_left _ h))))))))))))))))))))))
theorem inW_X1 : ∀ w ∈ wsX10, w ∈ w_law := fun w h => (List.mem_append_right _ (List.mem_append_right _ (List.mem_append_right _ (List.mem_append_right _ (List.mem_append_right _ (List.mem_append_right _ (List.mem_append_right _ (List.mem_append_right _ (List.mem_append_right _ (List.mem_append_right _ (List.mem_append_right _ (List.mem_append_right _ (List.mem_append_right _ (List.mem_append_right _ (List.mem_append_right _ (List.mem_append_right _ (List.mem_append_right _ (List.mem_append_right _ (List.mem_append_right _ (List.mem_append_right _ (List.mem_append_right _ (List.mem_append_right _ (List.mem_append_left _ h)))))))))))))))))))))))
theorem inW_X2 : ∀ w ∈ wsX20, w ∈ w_law := fun w h => (List.mem_append_right _ (List.mem_append_right _ (List.mem_append_right _ (List.mem_append_right _ (List.mem_append_right _ (List.mem_append_right _ (List.mem_append_right _ (List.mem_append_right _ (List.mem_append_right _ (List.mem_append_right _ (List.mem_append_right _ (List.mem_append_right _ (List.mem_append_right _ (List.mem_append_right _ (List.mem_append_right _ (List.mem_append_right _ (List.mem_append_right _ (List.mem_append_right _ (List.mem_append_right _ (List.mem_append_right _ (List.mem_append_right _ (List.mem_append_right _ (List.mem_append_right _ (List.mem_append_left _ h))))))))))))))))))))))))
theorem inW_X3 : ∀ w ∈ wsX30, w ∈ w_law := fun w h => (List.mem_append_right _ (List.mem_append_right _ (List.mem_append_right _ (List.mem_append_right _ (List.mem_append_right _ (List.mem_append_right _ (List.mem_append_right _ (List.mem_append_right _ (List.mem_append_right _ (List.mem_append_right _ (List.mem_append_right _ (List.mem_append_right _ (List.mem_append_right _ (List.mem_append_right _ (List.mem_append_right _ (List.mem_append_right _ (List.mem_append_right _ (List.mem_append_right _ (List.mem_append_right _ (List.mem_append_right _ (List.mem_append_right _ (List.mem_append_right _ (List.mem_append_right _ (List.mem_append_right _ (List.mem_append_left _ h)))))))))))))))))))))))))
theorem inW_X4 : ∀ w ∈ wsX40, w ∈ w_law := fun w h => (List.mem_append_right _ (List.mem_append_right _ (List.mem_append_right _ (List.mem_append_right _ (List.mem_append_right _ (List.mem_append_right _ (List.mem_append_right _ (List.mem_append_right _ (List.mem_append_right _ (List.mem_append_right _ (List.mem_append_right _ (List.mem_append_right _ (List.mem_append_right _ (List.mem_append_right _ (List.mem_append_right _ (List.mem_append_right _ (List.mem_append_right _ (List.mem_append_right _ (List.mem_append_right _ (List.mem_append_right _ (List.mem_append_right _ (List.mem_append_right _ (List.mem_append_right _ (List.mem_append_right _ (List.mem_append_right _ (List.mem_append_left _ h))))))))))))))))))))))))))
theorem inW_X5 : ∀ w ∈ wsX50, w ∈ w_law := fun w h => (List.mem_append_right _ (List.mem_append_right _ (List.mem_append_right _ (List.mem_append_right _ (List.mem_append_right _ (List.mem_append_right _ (List.mem_append_right _ (List.mem_append_right _ (List.mem_append_right _ (List.mem_append_right _ (List.mem_append_right _ (List.mem_append_right _ (List.mem_append_right _ (List.mem_append_right _ (List.mem_append_right _ (List.mem_append_right _ (List.mem_append_right _ (List.mem_append_right _ (List.mem_append_right _ (List.mem_append_right _ (List.mem_append_right _ (List.mem_append_right _ (List.mem_append_right _ (List.mem_append_right _ (List.mem_append_right _ (List.mem_append_right _ (List.mem_append_left _ h)))))))))))))))))))))))))))
theorem inW_X6 : ∀ w ∈ wsX60, w ∈ w_law := fun w h => (List.mem_append_right _ (List.mem_append_right _ (List.mem_append_right _ (List.mem_append_right _ (List.mem_append_right _ (List.mem_append_right _ (List.mem_append_right _ (List.mem_append_right _ (List.mem_append_right _ (List.mem_append_right _ (List.mem_append_right _ (List.mem_append_right _ (List.mem_append_right _ (List.mem_append_right _ (List.mem_append_right _ (List.mem_append_right _ (List.mem_append_right _ (List.mem_append_right _ (List.mem_append_right _ (List.mem_append_right _ (List.mem_append_right _ (List.mem_append_right _ (List.mem_append_right _ (List.mem_append_right _ (List.mem_append_right _ (List.mem_append_right _ (List.mem_append_right _ (List.mem_append_left _ h))))))))))))))))))))))))))))
theorem inW_X7 : ∀ w ∈ wsX70, w ∈ w_law := fun w h => (List.mem_append_right _ (List.mem_append_right _ (List.mem_append_right _ (List.mem_append_right _ (List.mem_append_right _ (List.mem_append_right _ (List.mem_append_right _ (List.mem_append_right _ (List.mem_append_right _ (List.mem_append_right _ (List.mem_append_right _ (List.mem_append_right _ (List.mem_append_right _ (List.mem_append_right _ (List.mem_append_right _ (List.mem_append_right _ (List.mem_append_right _ (List.mem_append_right _ (List.mem_append_right _ (List.mem_append_right _ (List.mem_append_right _ (List.mem_append_right _ (List.mem_append_right _ (List.mem_append_right _ (List.mem_append_right _ (List.mem_append_right _ (List.mem_append_right _ (List.mem_append_right _ (List.mem_append_left _ h)))))))))))))))))))))))))))))
theorem inW_X8 : ∀ w ∈ wsX80, w ∈ w_law := fun w h => (List.mem_append_right _ (List.mem_append_right _ (List.mem_append_right _ (List.mem_append_right _ (List.mem_append_right _ (List.mem_append_right _ (List.mem_append_right _ (List.mem_append_right _ (List.mem_append_right _ (List.mem_append_right _ (List.mem_append_right _ (List.mem_append_right _ (List.mem_append_right _ (List.mem_append_right _ (List.mem_append_right _ (List.mem_append_right _ (List.mem_append_right _ (List.mem_append_right _ (List.mem_append_right _ (List.mem_append_right _ (List.mem_append_right _ (List.mem_append_right _ (List.mem_append_right _ (List.mem_append_right _ (List.mem_append_right _ (List.mem_append_right _ (List.mem_append_right _ (List.mem_append_right _ (List.mem_append_right _ (List.mem_append_left _ h))))))))))))))))))))))))))))))
theorem inW_X9 : ∀ w ∈ wsX90, w ∈ w_law := fun w h => (List.mem_append_right _ (List.mem_append_right _ (List.mem_append_right _ (List.mem_append_right _ (List.mem_append_right _ (List.mem_append_right _ (List.mem_append_right _ (List.mem_append_right _ (List.mem_append_right _ (List.mem_append_right _ (List.mem_append_right _ (List.mem_append_right _ (List.mem_append_right _ (List.mem_append_right _ (List.mem_append_right _ (List.mem_append_right _ (List.mem_append_right _ (List.mem_append_right _ (List.mem_append_right _ (List.mem_append_right _ (List.mem_append_right _ (List.mem_append_right _ (List.mem_append_right _ (List.mem_append_right _ (List.mem_append_right _ (List.mem_append_right _ (List.mem_append_right _ (List.mem_append_right _ (List.mem_append_right _ (List.mem_append_right _ (List.mem_append_left _ h)))))))))))))))))))))))))))))))
theorem inW_X10 : ∀ w ∈ wsX100, w ∈ w_law := fun w h => (List.mem_append_right _ (List.mem_append_right _ (List.mem_append_right _ (List.mem_append_right _ (List.mem_append_right _ (List.mem_append_right _ (List.mem_append_right _ (List.mem_append_right _ (List.mem_append_right _ (List.mem_append_right _ (List.mem_append_right _ (List.mem_append_right _ (List.mem_append_right _ (List.mem_append_right _ (List.mem_append_right _ (List.mem_append_right _ (List.mem_append_right _ (List.mem_append_right _ (List.mem_append_right _ (List.mem_append_right _ (List.mem_append_right _ (List.mem_append_right _ (List.mem_append_right _ (List.mem_append_right _ (List.mem_append_right _ (List.mem_append_right _ (List.mem_append_right _ (List.mem_append_right _ (List.mem_append_right _ (List.mem_append_right _ (List.mem_append_right _ (List.mem_append_left _ h))))))))))))))))))))))))))))))))
theorem inW_X11 : ∀ w ∈ wsX110, w ∈ w_law := fun w h => (List.mem_append_right _ (List.mem_append_right _ (List.mem_append_right _ (List.mem_append_right _ (List.mem_append_right _ (List.mem_append_right _ (List.mem_append_right _ (List.mem_append_right _ (List.mem_append_right _ (List.mem_append_right _ (List.mem_append_right _ (List.mem_append_right _ (List.mem_append_right _ (List.mem_append_right _ (List.mem_append_right _ (List.mem_append_right _ (List.mem_append_right _ (List.mem_append_right _ (List.mem_append_right _ (List.mem_append_right _ (List.mem_append_right _ (List.mem_append_right _ (List.mem_append_right _ (List.mem_append_right _ (List.mem_append_right _ (List.mem_append_right _ (List.mem_append_right _ (List.mem_append_right _ (List.mem_append_right _ (List.mem_append_right _ (List.mem_append_right _ (List.mem_append_right _ (List.mem_append_left _ h)))))))))))))))))))))))))))))))))
theorem inW_X12 : ∀ w ∈ wsX120, w ∈ w_law := fun w h => (List.mem_append_right _ (List.mem_append_right _ (List.mem_append_right _ (List.mem_append_right _ (List.mem_append_right _ (List.mem_append_right _ (List.mem_append_right _ (List.mem_append_right _ (List.mem_append_right _ (List.mem_append_right _ (List.mem_append_right _ (List.mem_append_right _ (List.mem_append_right _ (List.mem_append_right _ (List.mem_append_right _ (List.mem_append_right _ (List.mem_append_right _ (List.mem_append_right _ (List.mem_append_right _ (List.mem_append_right _ (List.mem_append_right _ (List.mem_append_right _ (List.mem_append_right _ (List.mem_append_right _ (List.mem_append_right _ (List.mem_append_right _ (List.mem_append_right _ (List.mem_append_right _ (List.mem_append_right _ (List.mem_append_right _ (List.mem_append_right _ (List.mem_append_right _ (List.mem_append_right _ h)))))))))))))))))))))))))))))))))
