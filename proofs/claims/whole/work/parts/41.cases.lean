theorem dL_law_236 : decode cL_law 236 = .ok (.aload_n 1, 1) := by decide +kernel
theorem dL_law_237 : decode cL_law 237 = .ok (.aload_n 0, 1) := by decide +kernel
theorem dL_law_238 : decode cL_law 238 = .ok (.iload 4, 2) := by decide +kernel
theorem dL_law_240 : decode cL_law 240 = .ok (.iconst 1, 1) := by decide +kernel
theorem dL_law_241 : decode cL_law 241 = .ok (.iadd, 1) := by decide +kernel
theorem dL_law_242 : decode cL_law 242 = .ok (.iaload, 1) := by decide +kernel
theorem dL_law_243 : decode cL_law 243 = .ok (.aload_n 0, 1) := by decide +kernel
theorem dL_law_244 : decode cL_law 244 = .ok (.iload 4, 2) := by decide +kernel
theorem dL_law_246 : decode cL_law 246 = .ok (.iconst 2, 1) := by decide +kernel
theorem dL_law_247 : decode cL_law 247 = .ok (.iadd, 1) := by decide +kernel
theorem dL_law_248 : decode cL_law 248 = .ok (.iaload, 1) := by decide +kernel
theorem dL_law_249 : decode cL_law 249 = .ok (.aload_n 0, 1) := by decide +kernel
theorem dL_law_250 : decode cL_law 250 = .ok (.iload 4, 2) := by decide +kernel
theorem dL_law_252 : decode cL_law 252 = .ok (.iconst 3, 1) := by decide +kernel
theorem dL_law_253 : decode cL_law 253 = .ok (.iadd, 1) := by decide +kernel
theorem dL_law_254 : decode cL_law 254 = .ok (.iaload, 1) := by decide +kernel
theorem dL_law_255 : decode cL_law 255 = .ok (.aload_n 0, 1) := by decide +kernel
theorem dL_law_256 : decode cL_law 256 = .ok (.iload 4, 2) := by decide +kernel
theorem dL_law_258 : decode cL_law 258 = .ok (.iconst 4, 1) := by decide +kernel
theorem dL_law_259 : decode cL_law 259 = .ok (.iadd, 1) := by decide +kernel
theorem dL_law_260 : decode cL_law 260 = .ok (.iaload, 1) := by decide +kernel
theorem dL_law_261 : decode cL_law 261 = .ok (.aload_n 0, 1) := by decide +kernel
theorem dL_law_262 : decode cL_law 262 = .ok (.iload 4, 2) := by decide +kernel
theorem dL_law_264 : decode cL_law 264 = .ok (.iconst 5, 1) := by decide +kernel
theorem dL_law_265 : decode cL_law 265 = .ok (.iadd, 1) := by decide +kernel
theorem dL_law_266 : decode cL_law 266 = .ok (.iaload, 1) := by decide +kernel
theorem dL_law_267 : decode cL_law 267 = .ok (.invokevirtual 22, 3) := by decide +kernel
theorem dL_law_270 : decode cL_law 270 = .ok (.aload_n 2, 1) := by decide +kernel
theorem dL_law_271 : decode cL_law 271 = .ok (.aload_n 0, 1) := by decide +kernel
theorem dL_law_272 : decode cL_law 272 = .ok (.iload 4, 2) := by decide +kernel
theorem dL_law_274 : decode cL_law 274 = .ok (.iconst 1, 1) := by decide +kernel
theorem dL_law_275 : decode cL_law 275 = .ok (.iadd, 1) := by decide +kernel
theorem dL_law_276 : decode cL_law 276 = .ok (.iaload, 1) := by decide +kernel
theorem dL_law_277 : decode cL_law 277 = .ok (.aload_n 0, 1) := by decide +kernel
theorem dL_law_278 : decode cL_law 278 = .ok (.iload 4, 2) := by decide +kernel
theorem dL_law_280 : decode cL_law 280 = .ok (.iconst 2, 1) := by decide +kernel
theorem dL_law_281 : decode cL_law 281 = .ok (.iadd, 1) := by decide +kernel
theorem dL_law_282 : decode cL_law 282 = .ok (.iaload, 1) := by decide +kernel
theorem dL_law_283 : decode cL_law 283 = .ok (.aload_n 0, 1) := by decide +kernel
theorem dL_law_284 : decode cL_law 284 = .ok (.iload 4, 2) := by decide +kernel
theorem dL_law_286 : decode cL_law 286 = .ok (.iconst 3, 1) := by decide +kernel
theorem dL_law_287 : decode cL_law 287 = .ok (.iadd, 1) := by decide +kernel
theorem dL_law_288 : decode cL_law 288 = .ok (.iaload, 1) := by decide +kernel
theorem dL_law_289 : decode cL_law 289 = .ok (.aload_n 0, 1) := by decide +kernel
theorem dL_law_290 : decode cL_law 290 = .ok (.iload 4, 2) := by decide +kernel
theorem dL_law_292 : decode cL_law 292 = .ok (.iconst 4, 1) := by decide +kernel
theorem dL_law_293 : decode cL_law 293 = .ok (.iadd, 1) := by decide +kernel
theorem dL_law_294 : decode cL_law 294 = .ok (.iaload, 1) := by decide +kernel
theorem dL_law_295 : decode cL_law 295 = .ok (.aload_n 0, 1) := by decide +kernel
theorem dL_law_296 : decode cL_law 296 = .ok (.iload 4, 2) := by decide +kernel
theorem dL_law_298 : decode cL_law 298 = .ok (.iconst 5, 1) := by decide +kernel
theorem dL_law_299 : decode cL_law 299 = .ok (.iadd, 1) := by decide +kernel
theorem dL_law_300 : decode cL_law 300 = .ok (.iaload, 1) := by decide +kernel
theorem dL_law_301 : decode cL_law 301 = .ok (.invokevirtual 26, 3) := by decide +kernel
theorem dL_law_304 : decode cL_law 304 = .ok (.if_icmp .eq 1311, 3) := by decide +kernel
theorem dL_law_309 : decode cL_law 309 = .ok (.aload_n 1, 1) := by decide +kernel
theorem dL_law_310 : decode cL_law 310 = .ok (.aload_n 0, 1) := by decide +kernel
theorem dL_law_311 : decode cL_law 311 = .ok (.iload 4, 2) := by decide +kernel
theorem dL_law_313 : decode cL_law 313 = .ok (.iconst 1, 1) := by decide +kernel
theorem dL_law_314 : decode cL_law 314 = .ok (.iadd, 1) := by decide +kernel
theorem dL_law_315 : decode cL_law 315 = .ok (.iaload, 1) := by decide +kernel
theorem dL_law_316 : decode cL_law 316 = .ok (.invokevirtual 27, 3) := by decide +kernel
theorem dL_law_319 : decode cL_law 319 = .ok (.aload_n 2, 1) := by decide +kernel
theorem dL_law_320 : decode cL_law 320 = .ok (.aload_n 0, 1) := by decide +kernel
theorem dL_law_321 : decode cL_law 321 = .ok (.iload 4, 2) := by decide +kernel
theorem dL_law_323 : decode cL_law 323 = .ok (.iconst 1, 1) := by decide +kernel
theorem dL_law_324 : decode cL_law 324 = .ok (.iadd, 1) := by decide +kernel
theorem dL_law_325 : decode cL_law 325 = .ok (.iaload, 1) := by decide +kernel
theorem dL_law_326 : decode cL_law 326 = .ok (.invokevirtual 31, 3) := by decide +kernel
theorem dL_law_329 : decode cL_law 329 = .ok (.if_icmp .eq 1286, 3) := by decide +kernel
theorem dL_law_334 : decode cL_law 334 = .ok (.aload_n 1, 1) := by decide +kernel
theorem dL_law_335 : decode cL_law 335 = .ok (.invokevirtual 32, 3) := by decide +kernel
theorem dL_law_338 : decode cL_law 338 = .ok (.aload_n 2, 1) := by decide +kernel
theorem dL_law_339 : decode cL_law 339 = .ok (.invokevirtual 36, 3) := by decide +kernel
theorem dL_law_342 : decode cL_law 342 = .ok (.if_icmp .eq 1273, 3) := by decide +kernel
theorem dL_law_347 : decode cL_law 347 = .ok (.aload_n 1, 1) := by decide +kernel
theorem dL_law_348 : decode cL_law 348 = .ok (.invokevirtual 37, 3) := by decide +kernel
theorem dL_law_351 : decode cL_law 351 = .ok (.aload_n 2, 1) := by decide +kernel
theorem dL_law_352 : decode cL_law 352 = .ok (.invokevirtual 40, 3) := by decide +kernel
theorem dL_law_355 : decode cL_law 355 = .ok (.if_icmp .eq 1260, 3) := by decide +kernel
theorem dL_law_428 : decode cL_law 428 = .ok (.aload_n 1, 1) := by decide +kernel
theorem dL_law_429 : decode cL_law 429 = .ok (.aload_n 0, 1) := by decide +kernel
theorem dL_law_430 : decode cL_law 430 = .ok (.iload 4, 2) := by decide +kernel
theorem dL_law_432 : decode cL_law 432 = .ok (.iconst 1, 1) := by decide +kernel
theorem dL_law_433 : decode cL_law 433 = .ok (.iadd, 1) := by decide +kernel
theorem dL_law_434 : decode cL_law 434 = .ok (.iaload, 1) := by decide +kernel
theorem dL_law_435 : decode cL_law 435 = .ok (.aload_n 0, 1) := by decide +kernel
theorem dL_law_436 : decode cL_law 436 = .ok (.iload 4, 2) := by decide +kernel
theorem dL_law_438 : decode cL_law 438 = .ok (.iconst 2, 1) := by decide +kernel
theorem dL_law_439 : decode cL_law 439 = .ok (.iadd, 1) := by decide +kernel
theorem dL_law_440 : decode cL_law 440 = .ok (.iaload, 1) := by decide +kernel
theorem dL_law_441 : decode cL_law 441 = .ok (.aload_n 0, 1) := by decide +kernel
theorem dL_law_442 : decode cL_law 442 = .ok (.iload 4, 2) := by decide +kernel
theorem dL_law_444 : decode cL_law 444 = .ok (.iconst 3, 1) := by decide +kernel
theorem dL_law_445 : decode cL_law 445 = .ok (.iadd, 1) := by decide +kernel
theorem dL_law_446 : decode cL_law 446 = .ok (.iaload, 1) := by decide +kernel
theorem dL_law_447 : decode cL_law 447 = .ok (.invokevirtual 50, 3) := by decide +kernel
theorem dL_law_450 : decode cL_law 450 = .ok (.aload_n 2, 1) := by decide +kernel
theorem dL_law_451 : decode cL_law 451 = .ok (.aload_n 0, 1) := by decide +kernel
theorem dL_law_452 : decode cL_law 452 = .ok (.iload 4, 2) := by decide +kernel
theorem dL_law_454 : decode cL_law 454 = .ok (.iconst 1, 1) := by decide +kernel
theorem dL_law_455 : decode cL_law 455 = .ok (.iadd, 1) := by decide +kernel
theorem dL_law_456 : decode cL_law 456 = .ok (.iaload, 1) := by decide +kernel
theorem dL_law_457 : decode cL_law 457 = .ok (.aload_n 0, 1) := by decide +kernel
theorem dL_law_458 : decode cL_law 458 = .ok (.iload 4, 2) := by decide +kernel
theorem dL_law_460 : decode cL_law 460 = .ok (.iconst 2, 1) := by decide +kernel
theorem dL_law_461 : decode cL_law 461 = .ok (.iadd, 1) := by decide +kernel
theorem dL_law_462 : decode cL_law 462 = .ok (.iaload, 1) := by decide +kernel
theorem dL_law_463 : decode cL_law 463 = .ok (.aload_n 0, 1) := by decide +kernel
theorem dL_law_464 : decode cL_law 464 = .ok (.iload 4, 2) := by decide +kernel
theorem dL_law_466 : decode cL_law 466 = .ok (.iconst 3, 1) := by decide +kernel
theorem dL_law_467 : decode cL_law 467 = .ok (.iadd, 1) := by decide +kernel
theorem dL_law_468 : decode cL_law 468 = .ok (.iaload, 1) := by decide +kernel
theorem dL_law_469 : decode cL_law 469 = .ok (.invokevirtual 54, 3) := by decide +kernel
theorem dL_law_472 : decode cL_law 472 = .ok (.if_icmp .eq 1143, 3) := by decide +kernel
theorem dL_law_477 : decode cL_law 477 = .ok (.aload_n 1, 1) := by decide +kernel
theorem dL_law_478 : decode cL_law 478 = .ok (.aload_n 0, 1) := by decide +kernel
theorem dL_law_479 : decode cL_law 479 = .ok (.iload 4, 2) := by decide +kernel
theorem dL_law_481 : decode cL_law 481 = .ok (.iconst 1, 1) := by decide +kernel
theorem dL_law_482 : decode cL_law 482 = .ok (.iadd, 1) := by decide +kernel
theorem dL_law_483 : decode cL_law 483 = .ok (.iaload, 1) := by decide +kernel
theorem dL_law_484 : decode cL_law 484 = .ok (.aload_n 0, 1) := by decide +kernel
theorem dL_law_485 : decode cL_law 485 = .ok (.iload 4, 2) := by decide +kernel
theorem dL_law_487 : decode cL_law 487 = .ok (.iconst 2, 1) := by decide +kernel
theorem dL_law_488 : decode cL_law 488 = .ok (.iadd, 1) := by decide +kernel
theorem dL_law_489 : decode cL_law 489 = .ok (.iaload, 1) := by decide +kernel
theorem dL_law_490 : decode cL_law 490 = .ok (.aload_n 0, 1) := by decide +kernel
theorem dL_law_491 : decode cL_law 491 = .ok (.iload 4, 2) := by decide +kernel
theorem dL_law_493 : decode cL_law 493 = .ok (.iconst 3, 1) := by decide +kernel
theorem dL_law_494 : decode cL_law 494 = .ok (.iadd, 1) := by decide +kernel
theorem dL_law_495 : decode cL_law 495 = .ok (.iaload, 1) := by decide +kernel
theorem dL_law_496 : decode cL_law 496 = .ok (.aload_n 0, 1) := by decide +kernel
theorem dL_law_497 : decode cL_law 497 = .ok (.iload 4, 2) := by decide +kernel
theorem dL_law_499 : decode cL_law 499 = .ok (.iconst 4, 1) := by decide +kernel
theorem dL_law_500 : decode cL_law 500 = .ok (.iadd, 1) := by decide +kernel
theorem dL_law_501 : decode cL_law 501 = .ok (.iaload, 1) := by decide +kernel
theorem dL_law_502 : decode cL_law 502 = .ok (.invokevirtual 55, 3) := by decide +kernel
theorem dL_law_505 : decode cL_law 505 = .ok (.aload_n 2, 1) := by decide +kernel
theorem dL_law_506 : decode cL_law 506 = .ok (.aload_n 0, 1) := by decide +kernel
theorem dL_law_507 : decode cL_law 507 = .ok (.iload 4, 2) := by decide +kernel
theorem dL_law_509 : decode cL_law 509 = .ok (.iconst 1, 1) := by decide +kernel
theorem dL_law_510 : decode cL_law 510 = .ok (.iadd, 1) := by decide +kernel
theorem dL_law_511 : decode cL_law 511 = .ok (.iaload, 1) := by decide +kernel
theorem dL_law_512 : decode cL_law 512 = .ok (.aload_n 0, 1) := by decide +kernel
theorem dL_law_513 : decode cL_law 513 = .ok (.iload 4, 2) := by decide +kernel
theorem dL_law_515 : decode cL_law 515 = .ok (.iconst 2, 1) := by decide +kernel
theorem dL_law_516 : decode cL_law 516 = .ok (.iadd, 1) := by decide +kernel
theorem dL_law_517 : decode cL_law 517 = .ok (.iaload, 1) := by decide +kernel
theorem dL_law_518 : decode cL_law 518 = .ok (.aload_n 0, 1) := by decide +kernel
theorem dL_law_519 : decode cL_law 519 = .ok (.iload 4, 2) := by decide +kernel
theorem dL_law_521 : decode cL_law 521 = .ok (.iconst 3, 1) := by decide +kernel
theorem dL_law_522 : decode cL_law 522 = .ok (.iadd, 1) := by decide +kernel
theorem dL_law_523 : decode cL_law 523 = .ok (.iaload, 1) := by decide +kernel
theorem dL_law_524 : decode cL_law 524 = .ok (.aload_n 0, 1) := by decide +kernel
theorem dL_law_525 : decode cL_law 525 = .ok (.iload 4, 2) := by decide +kernel
theorem dL_law_527 : decode cL_law 527 = .ok (.iconst 4, 1) := by decide +kernel
theorem dL_law_528 : decode cL_law 528 = .ok (.iadd, 1) := by decide +kernel
theorem dL_law_529 : decode cL_law 529 = .ok (.iaload, 1) := by decide +kernel
theorem dL_law_530 : decode cL_law 530 = .ok (.invokevirtual 59, 3) := by decide +kernel
theorem dL_law_533 : decode cL_law 533 = .ok (.if_icmp .eq 1082, 3) := by decide +kernel
theorem dL_law_538 : decode cL_law 538 = .ok (.aload_n 1, 1) := by decide +kernel
theorem dL_law_539 : decode cL_law 539 = .ok (.aload_n 0, 1) := by decide +kernel
theorem dL_law_540 : decode cL_law 540 = .ok (.iload 4, 2) := by decide +kernel
theorem dL_law_542 : decode cL_law 542 = .ok (.iconst 1, 1) := by decide +kernel
theorem dL_law_543 : decode cL_law 543 = .ok (.iadd, 1) := by decide +kernel
theorem dL_law_544 : decode cL_law 544 = .ok (.iaload, 1) := by decide +kernel
theorem dL_law_545 : decode cL_law 545 = .ok (.aload_n 0, 1) := by decide +kernel
theorem dL_law_546 : decode cL_law 546 = .ok (.iload 4, 2) := by decide +kernel
theorem dL_law_548 : decode cL_law 548 = .ok (.iconst 2, 1) := by decide +kernel
theorem dL_law_549 : decode cL_law 549 = .ok (.iadd, 1) := by decide +kernel
theorem dL_law_550 : decode cL_law 550 = .ok (.iaload, 1) := by decide +kernel
theorem dL_law_551 : decode cL_law 551 = .ok (.invokevirtual 60, 3) := by decide +kernel
theorem dL_law_554 : decode cL_law 554 = .ok (.aload_n 2, 1) := by decide +kernel
theorem dL_law_555 : decode cL_law 555 = .ok (.aload_n 0, 1) := by decide +kernel
theorem dL_law_556 : decode cL_law 556 = .ok (.iload 4, 2) := by decide +kernel
theorem dL_law_558 : decode cL_law 558 = .ok (.iconst 1, 1) := by decide +kernel
theorem dL_law_559 : decode cL_law 559 = .ok (.iadd, 1) := by decide +kernel
theorem dL_law_560 : decode cL_law 560 = .ok (.iaload, 1) := by decide +kernel
theorem dL_law_561 : decode cL_law 561 = .ok (.aload_n 0, 1) := by decide +kernel
theorem dL_law_562 : decode cL_law 562 = .ok (.iload 4, 2) := by decide +kernel
theorem dL_law_564 : decode cL_law 564 = .ok (.iconst 2, 1) := by decide +kernel
theorem dL_law_565 : decode cL_law 565 = .ok (.iadd, 1) := by decide +kernel
theorem dL_law_566 : decode cL_law 566 = .ok (.iaload, 1) := by decide +kernel
theorem dL_law_567 : decode cL_law 567 = .ok (.invokevirtual 63, 3) := by decide +kernel
theorem dL_law_570 : decode cL_law 570 = .ok (.if_icmp .eq 1045, 3) := by decide +kernel
theorem dL_law_575 : decode cL_law 575 = .ok (.aload_n 1, 1) := by decide +kernel
theorem dL_law_576 : decode cL_law 576 = .ok (.aload_n 0, 1) := by decide +kernel
theorem dL_law_577 : decode cL_law 577 = .ok (.iload 4, 2) := by decide +kernel
theorem dL_law_579 : decode cL_law 579 = .ok (.iconst 1, 1) := by decide +kernel
theorem dL_law_580 : decode cL_law 580 = .ok (.iadd, 1) := by decide +kernel
theorem dL_law_581 : decode cL_law 581 = .ok (.iaload, 1) := by decide +kernel
theorem dL_law_582 : decode cL_law 582 = .ok (.invokevirtual 64, 3) := by decide +kernel
theorem dL_law_585 : decode cL_law 585 = .ok (.aload_n 2, 1) := by decide +kernel
theorem dL_law_586 : decode cL_law 586 = .ok (.aload_n 0, 1) := by decide +kernel
theorem dL_law_587 : decode cL_law 587 = .ok (.iload 4, 2) := by decide +kernel
theorem dL_law_589 : decode cL_law 589 = .ok (.iconst 1, 1) := by decide +kernel
theorem dL_law_590 : decode cL_law 590 = .ok (.iadd, 1) := by decide +kernel
theorem dL_law_591 : decode cL_law 591 = .ok (.iaload, 1) := by decide +kernel
theorem dL_law_592 : decode cL_law 592 = .ok (.invokevirtual 68, 3) := by decide +kernel
theorem dL_law_595 : decode cL_law 595 = .ok (.if_icmp .eq 1020, 3) := by decide +kernel
theorem dL_law_600 : decode cL_law 600 = .ok (.aload_n 1, 1) := by decide +kernel
theorem dL_law_601 : decode cL_law 601 = .ok (.aload_n 0, 1) := by decide +kernel
theorem dL_law_602 : decode cL_law 602 = .ok (.iload 4, 2) := by decide +kernel
theorem dL_law_604 : decode cL_law 604 = .ok (.iconst 1, 1) := by decide +kernel
theorem dL_law_605 : decode cL_law 605 = .ok (.iadd, 1) := by decide +kernel
theorem dL_law_606 : decode cL_law 606 = .ok (.iaload, 1) := by decide +kernel
theorem dL_law_607 : decode cL_law 607 = .ok (.invokevirtual 69, 3) := by decide +kernel
theorem dL_law_610 : decode cL_law 610 = .ok (.aload_n 2, 1) := by decide +kernel
theorem dL_law_611 : decode cL_law 611 = .ok (.aload_n 0, 1) := by decide +kernel
theorem dL_law_612 : decode cL_law 612 = .ok (.iload 4, 2) := by decide +kernel
theorem dL_law_614 : decode cL_law 614 = .ok (.iconst 1, 1) := by decide +kernel
theorem dL_law_615 : decode cL_law 615 = .ok (.iadd, 1) := by decide +kernel
theorem dL_law_616 : decode cL_law 616 = .ok (.iaload, 1) := by decide +kernel
theorem dL_law_617 : decode cL_law 617 = .ok (.invokevirtual 72, 3) := by decide +kernel
theorem dL_law_620 : decode cL_law 620 = .ok (.if_icmp .eq 995, 3) := by decide +kernel
theorem law_feed {z : Mx} {ad : Nat → Nat} {o : Option Value × St} {b u L i : Nat} {xs : Nat → Int32} {Inv : St → Prop} (X : CxOk z ad RL cL_law 7 (some .boolean) 1200) (hX : SX z b L xs) (hi : i + 6 ≤ L) (hp : pr_feed Inv) (S : St) (hInv : Inv S) (hgo : ∀ S2, Inv S2 → GW z ad o S2 1615 [(0, .ref b), (1, .ref (ad 0)), (2, .ref (ad 140)), (3, .ref u), (4, .int (nI i))] []) : GW z ad o S 236 [(0, .ref b), (1, .ref (ad 0)), (2, .ref (ad 140)), (3, .ref u), (4, .int (nI i))] [] := by
  obtain ⟨r, S1, S2, e1, e2, hI2⟩ := hp S hInv (xs (i + 1)) (xs (i + 2)) (xs (i + 3)) (xs (i + 4)) (xs (i + 5))
  refine g_aload_n X dL_law_236 1 rfl rfl ?_
  refine g_aload_n X dL_law_237 0 rfl rfl ?_
  refine g_iload X dL_law_238 4 rfl ?_
  refine g_iconst (v := 1) X dL_law_240 (by decide) ?_
  refine g_iadd X dL_law_241 ?_
  refine g_sld (j := i + 1) X hX dL_law_242 (nI_add i 1) (by omega) ?_
  refine g_aload_n X dL_law_243 0 rfl rfl ?_
  refine g_iload X dL_law_244 4 rfl ?_
  refine g_iconst (v := 2) X dL_law_246 (by decide) ?_
  refine g_iadd X dL_law_247 ?_
  refine g_sld (j := i + 2) X hX dL_law_248 (nI_add i 2) (by omega) ?_
  refine g_aload_n X dL_law_249 0 rfl rfl ?_
  refine g_iload X dL_law_250 4 rfl ?_
  refine g_iconst (v := 3) X dL_law_252 (by decide) ?_
  refine g_iadd X dL_law_253 ?_
  refine g_sld (j := i + 3) X hX dL_law_254 (nI_add i 3) (by omega) ?_
  refine g_aload_n X dL_law_255 0 rfl rfl ?_
  refine g_iload X dL_law_256 4 rfl ?_
  refine g_iconst (v := 4) X dL_law_258 (by decide) ?_
  refine g_iadd X dL_law_259 ?_
  refine g_sld (j := i + 4) X hX dL_law_260 (nI_add i 4) (by omega) ?_
  refine g_aload_n X dL_law_261 0 rfl rfl ?_
  refine g_iload X dL_law_262 4 rfl ?_
  refine g_iconst (v := 5) X dL_law_264 (by decide) ?_
  refine g_iadd X dL_law_265 ?_
  refine g_sld (j := i + 5) X hX dL_law_266 (nI_add i 5) (by omega) ?_
  refine g_callVi (As := [.int (xs (i + 1)), .int (xs (i + 2)), .int (xs (i + 3)), .int (xs (i + 4)), .int (xs (i + 5))]) (v := r) (S' := S1) X dL_law_267 mlL_22 (fun l D cyy => tX10_feed (cx_inj X) l D cyy 0 (xs (i + 1)) (xs (i + 2)) (xs (i + 3)) (xs (i + 4)) (xs (i + 5)) (by decide +kernel) S (r, S1) e1) (by decide +kernel) (by decide) rfl rfl (Nat.le_of_ble_eq_true rfl) ?_
  refine g_aload_n X dL_law_270 2 rfl rfl ?_
  refine g_aload_n X dL_law_271 0 rfl rfl ?_
  refine g_iload X dL_law_272 4 rfl ?_
  refine g_iconst (v := 1) X dL_law_274 (by decide) ?_
  refine g_iadd X dL_law_275 ?_
  refine g_sld (j := i + 1) X hX dL_law_276 (nI_add i 1) (by omega) ?_
  refine g_aload_n X dL_law_277 0 rfl rfl ?_
  refine g_iload X dL_law_278 4 rfl ?_
  refine g_iconst (v := 2) X dL_law_280 (by decide) ?_
  refine g_iadd X dL_law_281 ?_
  refine g_sld (j := i + 2) X hX dL_law_282 (nI_add i 2) (by omega) ?_
  refine g_aload_n X dL_law_283 0 rfl rfl ?_
  refine g_iload X dL_law_284 4 rfl ?_
  refine g_iconst (v := 3) X dL_law_286 (by decide) ?_
  refine g_iadd X dL_law_287 ?_
  refine g_sld (j := i + 3) X hX dL_law_288 (nI_add i 3) (by omega) ?_
  refine g_aload_n X dL_law_289 0 rfl rfl ?_
  refine g_iload X dL_law_290 4 rfl ?_
  refine g_iconst (v := 4) X dL_law_292 (by decide) ?_
  refine g_iadd X dL_law_293 ?_
  refine g_sld (j := i + 4) X hX dL_law_294 (nI_add i 4) (by omega) ?_
  refine g_aload_n X dL_law_295 0 rfl rfl ?_
  refine g_iload X dL_law_296 4 rfl ?_
  refine g_iconst (v := 5) X dL_law_298 (by decide) ?_
  refine g_iadd X dL_law_299 ?_
  refine g_sld (j := i + 5) X hX dL_law_300 (nI_add i 5) (by omega) ?_
  refine g_callVi (As := [.int (xs (i + 1)), .int (xs (i + 2)), .int (xs (i + 3)), .int (xs (i + 4)), .int (xs (i + 5))]) (v := r) (S' := S2) X dL_law_301 mlL_26 (fun l D cyy => tX11_feed (cx_inj X) l D cyy 140 (xs (i + 1)) (xs (i + 2)) (xs (i + 3)) (xs (i + 4)) (xs (i + 5)) (by decide +kernel) S1 (r, S2) e2) (by decide +kernel) (by decide) rfl rfl (Nat.le_of_ble_eq_true rfl) ?_
  exact g_icmp_eq (tgt := 1615) X dL_law_304 (by decide) (fun _ => hgo S2 hI2) (fun c0 => absurd rfl c0)
theorem law_end {z : Mx} {ad : Nat → Nat} {o : Option Value × St} {b u L i : Nat} {xs : Nat → Int32} {Inv : St → Prop} (X : CxOk z ad RL cL_law 7 (some .boolean) 1200) (hX : SX z b L xs) (hi : i + 6 ≤ L) (hp : pr_end Inv) (S : St) (hInv : Inv S) (hgo : ∀ S2, Inv S2 → GW z ad o S2 1615 [(0, .ref b), (1, .ref (ad 0)), (2, .ref (ad 140)), (3, .ref u), (4, .int (nI i))] []) : GW z ad o S 309 [(0, .ref b), (1, .ref (ad 0)), (2, .ref (ad 140)), (3, .ref u), (4, .int (nI i))] [] := by
  obtain ⟨r, S1, S2, e1, e2, hI2⟩ := hp S hInv (xs (i + 1))
  refine g_aload_n X dL_law_309 1 rfl rfl ?_
  refine g_aload_n X dL_law_310 0 rfl rfl ?_
  refine g_iload X dL_law_311 4 rfl ?_
  refine g_iconst (v := 1) X dL_law_313 (by decide) ?_
  refine g_iadd X dL_law_314 ?_
  refine g_sld (j := i + 1) X hX dL_law_315 (nI_add i 1) (by omega) ?_
  refine g_callVi (As := [.int (xs (i + 1))]) (v := r) (S' := S1) X dL_law_316 mlL_27 (fun l D cyy => (by have h9 := tX10_end (cx_inj X) l D cyy 0 (xs (i + 1)) (by decide +kernel) S; rw [e1] at h9; exact h9)) (by decide +kernel) (by decide) rfl rfl (Nat.le_of_ble_eq_true rfl) ?_
  refine g_aload_n X dL_law_319 2 rfl rfl ?_
  refine g_aload_n X dL_law_320 0 rfl rfl ?_
  refine g_iload X dL_law_321 4 rfl ?_
  refine g_iconst (v := 1) X dL_law_323 (by decide) ?_
  refine g_iadd X dL_law_324 ?_
  refine g_sld (j := i + 1) X hX dL_law_325 (nI_add i 1) (by omega) ?_
  refine g_callVi (As := [.int (xs (i + 1))]) (v := r) (S' := S2) X dL_law_326 mlL_31 (fun l D cyy => (by have h9 := tX11_end (cx_inj X) l D cyy 140 (xs (i + 1)) (by decide +kernel) S1; rw [e2] at h9; exact h9)) (by decide +kernel) (by decide) rfl rfl (Nat.le_of_ble_eq_true rfl) ?_
  exact g_icmp_eq (tgt := 1615) X dL_law_329 (by decide) (fun _ => hgo S2 hI2) (fun c0 => absurd rfl c0)
theorem law_valley {z : Mx} {ad : Nat → Nat} {o : Option Value × St} {b u L i : Nat} {xs : Nat → Int32} {Inv : St → Prop} (X : CxOk z ad RL cL_law 7 (some .boolean) 1200) (hX : SX z b L xs) (hi : i + 6 ≤ L) (hp : pr_valley Inv) (S : St) (hInv : Inv S) (hgo : ∀ S2, Inv S2 → GW z ad o S2 1615 [(0, .ref b), (1, .ref (ad 0)), (2, .ref (ad 140)), (3, .ref u), (4, .int (nI i))] []) : GW z ad o S 334 [(0, .ref b), (1, .ref (ad 0)), (2, .ref (ad 140)), (3, .ref u), (4, .int (nI i))] [] := by
  obtain ⟨r, S1, S2, e1, e2, hI2⟩ := hp S hInv 
  refine g_aload_n X dL_law_334 1 rfl rfl ?_
  refine g_callVi (As := []) (v := r) (S' := S1) X dL_law_335 mlL_32 (fun l D cyy => tX10_valley (cx_inj X) l D cyy 0 (by decide +kernel) S (r, S1) e1) (by decide +kernel) (by decide) rfl rfl (Nat.le_of_ble_eq_true rfl) ?_
  refine g_aload_n X dL_law_338 2 rfl rfl ?_
  refine g_callVi (As := []) (v := r) (S' := S2) X dL_law_339 mlL_36 (fun l D cyy => tX11_valley (cx_inj X) l D cyy 140 (by decide +kernel) S1 (r, S2) e2) (by decide +kernel) (by decide) rfl rfl (Nat.le_of_ble_eq_true rfl) ?_
  exact g_icmp_eq (tgt := 1615) X dL_law_342 (by decide) (fun _ => hgo S2 hI2) (fun c0 => absurd rfl c0)
theorem law_fault {z : Mx} {ad : Nat → Nat} {o : Option Value × St} {b u L i : Nat} {xs : Nat → Int32} {Inv : St → Prop} (X : CxOk z ad RL cL_law 7 (some .boolean) 1200) (hX : SX z b L xs) (hi : i + 6 ≤ L) (hp : pr_fault Inv) (S : St) (hInv : Inv S) (hgo : ∀ S2, Inv S2 → GW z ad o S2 1615 [(0, .ref b), (1, .ref (ad 0)), (2, .ref (ad 140)), (3, .ref u), (4, .int (nI i))] []) : GW z ad o S 347 [(0, .ref b), (1, .ref (ad 0)), (2, .ref (ad 140)), (3, .ref u), (4, .int (nI i))] [] := by
  obtain ⟨r, S2, e1, e2, hI2⟩ := hp S hInv 
  refine g_aload_n X dL_law_347 1 rfl rfl ?_
  refine g_callVi (As := []) (v := r) (S' := S) X dL_law_348 mlL_37 (fun l D cyy => (by have h9 := tX10_fault (cx_inj X) l D cyy 0 (by decide +kernel) S; rw [e1] at h9; exact h9)) (by decide +kernel) (by decide) rfl rfl (Nat.le_of_ble_eq_true rfl) ?_
  refine g_aload_n X dL_law_351 2 rfl rfl ?_
  refine g_callVi (As := []) (v := r) (S' := S2) X dL_law_352 mlL_40 (fun l D cyy => (by have h9 := tX11_fault (cx_inj X) l D cyy 140 (by decide +kernel) S; rw [e2] at h9; exact h9)) (by decide +kernel) (by decide) rfl rfl (Nat.le_of_ble_eq_true rfl) ?_
  exact g_icmp_eq (tgt := 1615) X dL_law_355 (by decide) (fun _ => hgo S2 hI2) (fun c0 => absurd rfl c0)
theorem law_at {z : Mx} {ad : Nat → Nat} {o : Option Value × St} {b u L i : Nat} {xs : Nat → Int32} {Inv : St → Prop} (X : CxOk z ad RL cL_law 7 (some .boolean) 1200) (hX : SX z b L xs) (hi : i + 6 ≤ L) (hp : pr_at Inv) (S : St) (hInv : Inv S) (hgo : ∀ S2, Inv S2 → GW z ad o S2 1615 [(0, .ref b), (1, .ref (ad 0)), (2, .ref (ad 140)), (3, .ref u), (4, .int (nI i))] []) : GW z ad o S 428 [(0, .ref b), (1, .ref (ad 0)), (2, .ref (ad 140)), (3, .ref u), (4, .int (nI i))] [] := by
  obtain ⟨r, S2, e1, e2, hI2⟩ := hp S hInv (xs (i + 1)) (xs (i + 2)) (xs (i + 3))
  refine g_aload_n X dL_law_428 1 rfl rfl ?_
  refine g_aload_n X dL_law_429 0 rfl rfl ?_
  refine g_iload X dL_law_430 4 rfl ?_
  refine g_iconst (v := 1) X dL_law_432 (by decide) ?_
  refine g_iadd X dL_law_433 ?_
  refine g_sld (j := i + 1) X hX dL_law_434 (nI_add i 1) (by omega) ?_
  refine g_aload_n X dL_law_435 0 rfl rfl ?_
  refine g_iload X dL_law_436 4 rfl ?_
  refine g_iconst (v := 2) X dL_law_438 (by decide) ?_
  refine g_iadd X dL_law_439 ?_
  refine g_sld (j := i + 2) X hX dL_law_440 (nI_add i 2) (by omega) ?_
  refine g_aload_n X dL_law_441 0 rfl rfl ?_
  refine g_iload X dL_law_442 4 rfl ?_
  refine g_iconst (v := 3) X dL_law_444 (by decide) ?_
  refine g_iadd X dL_law_445 ?_
  refine g_sld (j := i + 3) X hX dL_law_446 (nI_add i 3) (by omega) ?_
  refine g_callVi (As := [.int (xs (i + 1)), .int (xs (i + 2)), .int (xs (i + 3))]) (v := r) (S' := S) X dL_law_447 mlL_50 (fun l D cyy => tX10_at (cx_inj X) l D cyy 0 (xs (i + 1)) (xs (i + 2)) (xs (i + 3)) (by decide +kernel) S r e1) (by decide +kernel) (by decide) rfl rfl (Nat.le_of_ble_eq_true rfl) ?_
  refine g_aload_n X dL_law_450 2 rfl rfl ?_
  refine g_aload_n X dL_law_451 0 rfl rfl ?_
  refine g_iload X dL_law_452 4 rfl ?_
  refine g_iconst (v := 1) X dL_law_454 (by decide) ?_
  refine g_iadd X dL_law_455 ?_
  refine g_sld (j := i + 1) X hX dL_law_456 (nI_add i 1) (by omega) ?_
  refine g_aload_n X dL_law_457 0 rfl rfl ?_
  refine g_iload X dL_law_458 4 rfl ?_
  refine g_iconst (v := 2) X dL_law_460 (by decide) ?_
  refine g_iadd X dL_law_461 ?_
  refine g_sld (j := i + 2) X hX dL_law_462 (nI_add i 2) (by omega) ?_
  refine g_aload_n X dL_law_463 0 rfl rfl ?_
  refine g_iload X dL_law_464 4 rfl ?_
  refine g_iconst (v := 3) X dL_law_466 (by decide) ?_
  refine g_iadd X dL_law_467 ?_
  refine g_sld (j := i + 3) X hX dL_law_468 (nI_add i 3) (by omega) ?_
  refine g_callVi (As := [.int (xs (i + 1)), .int (xs (i + 2)), .int (xs (i + 3))]) (v := r) (S' := S2) X dL_law_469 mlL_54 (fun l D cyy => tX11_at (cx_inj X) l D cyy 140 (xs (i + 1)) (xs (i + 2)) (xs (i + 3)) (by decide +kernel) S (r, S2) e2) (by decide +kernel) (by decide) rfl rfl (Nat.le_of_ble_eq_true rfl) ?_
  exact g_icmp_eq (tgt := 1615) X dL_law_472 (by decide) (fun _ => hgo S2 hI2) (fun c0 => absurd rfl c0)
theorem law_countOf {z : Mx} {ad : Nat → Nat} {o : Option Value × St} {b u L i : Nat} {xs : Nat → Int32} {Inv : St → Prop} (X : CxOk z ad RL cL_law 7 (some .boolean) 1200) (hX : SX z b L xs) (hi : i + 6 ≤ L) (hp : pr_countOf Inv) (S : St) (hInv : Inv S) (hgo : ∀ S2, Inv S2 → GW z ad o S2 1615 [(0, .ref b), (1, .ref (ad 0)), (2, .ref (ad 140)), (3, .ref u), (4, .int (nI i))] []) : GW z ad o S 477 [(0, .ref b), (1, .ref (ad 0)), (2, .ref (ad 140)), (3, .ref u), (4, .int (nI i))] [] := by
  obtain ⟨r, S2, e1, e2, hI2⟩ := hp S hInv (xs (i + 1)) (xs (i + 2)) (xs (i + 3)) (xs (i + 4))
  refine g_aload_n X dL_law_477 1 rfl rfl ?_
  refine g_aload_n X dL_law_478 0 rfl rfl ?_
  refine g_iload X dL_law_479 4 rfl ?_
  refine g_iconst (v := 1) X dL_law_481 (by decide) ?_
  refine g_iadd X dL_law_482 ?_
  refine g_sld (j := i + 1) X hX dL_law_483 (nI_add i 1) (by omega) ?_
  refine g_aload_n X dL_law_484 0 rfl rfl ?_
  refine g_iload X dL_law_485 4 rfl ?_
  refine g_iconst (v := 2) X dL_law_487 (by decide) ?_
  refine g_iadd X dL_law_488 ?_
  refine g_sld (j := i + 2) X hX dL_law_489 (nI_add i 2) (by omega) ?_
  refine g_aload_n X dL_law_490 0 rfl rfl ?_
  refine g_iload X dL_law_491 4 rfl ?_
  refine g_iconst (v := 3) X dL_law_493 (by decide) ?_
  refine g_iadd X dL_law_494 ?_
  refine g_sld (j := i + 3) X hX dL_law_495 (nI_add i 3) (by omega) ?_
  refine g_aload_n X dL_law_496 0 rfl rfl ?_
  refine g_iload X dL_law_497 4 rfl ?_
  refine g_iconst (v := 4) X dL_law_499 (by decide) ?_
  refine g_iadd X dL_law_500 ?_
  refine g_sld (j := i + 4) X hX dL_law_501 (nI_add i 4) (by omega) ?_
  refine g_callVi (As := [.int (xs (i + 1)), .int (xs (i + 2)), .int (xs (i + 3)), .int (xs (i + 4))]) (v := r) (S' := S) X dL_law_502 mlL_55 (fun l D cyy => tX10_countOf (cx_inj X) l D cyy 0 (xs (i + 1)) (xs (i + 2)) (xs (i + 3)) (xs (i + 4)) (by decide +kernel) S r e1) (by decide +kernel) (by decide) rfl rfl (Nat.le_of_ble_eq_true rfl) ?_
  refine g_aload_n X dL_law_505 2 rfl rfl ?_
  refine g_aload_n X dL_law_506 0 rfl rfl ?_
  refine g_iload X dL_law_507 4 rfl ?_
  refine g_iconst (v := 1) X dL_law_509 (by decide) ?_
  refine g_iadd X dL_law_510 ?_
  refine g_sld (j := i + 1) X hX dL_law_511 (nI_add i 1) (by omega) ?_
  refine g_aload_n X dL_law_512 0 rfl rfl ?_
  refine g_iload X dL_law_513 4 rfl ?_
  refine g_iconst (v := 2) X dL_law_515 (by decide) ?_
  refine g_iadd X dL_law_516 ?_
  refine g_sld (j := i + 2) X hX dL_law_517 (nI_add i 2) (by omega) ?_
  refine g_aload_n X dL_law_518 0 rfl rfl ?_
  refine g_iload X dL_law_519 4 rfl ?_
  refine g_iconst (v := 3) X dL_law_521 (by decide) ?_
  refine g_iadd X dL_law_522 ?_
  refine g_sld (j := i + 3) X hX dL_law_523 (nI_add i 3) (by omega) ?_
  refine g_aload_n X dL_law_524 0 rfl rfl ?_
  refine g_iload X dL_law_525 4 rfl ?_
  refine g_iconst (v := 4) X dL_law_527 (by decide) ?_
  refine g_iadd X dL_law_528 ?_
  refine g_sld (j := i + 4) X hX dL_law_529 (nI_add i 4) (by omega) ?_
  refine g_callVi (As := [.int (xs (i + 1)), .int (xs (i + 2)), .int (xs (i + 3)), .int (xs (i + 4))]) (v := r) (S' := S2) X dL_law_530 mlL_59 (fun l D cyy => tX11_countOf (cx_inj X) l D cyy 140 (xs (i + 1)) (xs (i + 2)) (xs (i + 3)) (xs (i + 4)) (by decide +kernel) S (r, S2) e2) (by decide +kernel) (by decide) rfl rfl (Nat.le_of_ble_eq_true rfl) ?_
  exact g_icmp_eq (tgt := 1615) X dL_law_533 (by decide) (fun _ => hgo S2 hI2) (fun c0 => absurd rfl c0)
theorem law_feast {z : Mx} {ad : Nat → Nat} {o : Option Value × St} {b u L i : Nat} {xs : Nat → Int32} {Inv : St → Prop} (X : CxOk z ad RL cL_law 7 (some .boolean) 1200) (hX : SX z b L xs) (hi : i + 6 ≤ L) (hp : pr_feast Inv) (S : St) (hInv : Inv S) (hgo : ∀ S2, Inv S2 → GW z ad o S2 1615 [(0, .ref b), (1, .ref (ad 0)), (2, .ref (ad 140)), (3, .ref u), (4, .int (nI i))] []) : GW z ad o S 538 [(0, .ref b), (1, .ref (ad 0)), (2, .ref (ad 140)), (3, .ref u), (4, .int (nI i))] [] := by
  obtain ⟨r, S2, e1, e2, hI2⟩ := hp S hInv (xs (i + 1)) (xs (i + 2))
  refine g_aload_n X dL_law_538 1 rfl rfl ?_
  refine g_aload_n X dL_law_539 0 rfl rfl ?_
  refine g_iload X dL_law_540 4 rfl ?_
  refine g_iconst (v := 1) X dL_law_542 (by decide) ?_
  refine g_iadd X dL_law_543 ?_
  refine g_sld (j := i + 1) X hX dL_law_544 (nI_add i 1) (by omega) ?_
  refine g_aload_n X dL_law_545 0 rfl rfl ?_
  refine g_iload X dL_law_546 4 rfl ?_
  refine g_iconst (v := 2) X dL_law_548 (by decide) ?_
  refine g_iadd X dL_law_549 ?_
  refine g_sld (j := i + 2) X hX dL_law_550 (nI_add i 2) (by omega) ?_
  refine g_callVi (As := [.int (xs (i + 1)), .int (xs (i + 2))]) (v := r) (S' := S) X dL_law_551 mlL_60 (fun l D cyy => tX10_feast (cx_inj X) l D cyy 0 (xs (i + 1)) (xs (i + 2)) (by decide +kernel) S r e1) (by decide +kernel) (by decide) rfl rfl (Nat.le_of_ble_eq_true rfl) ?_
  refine g_aload_n X dL_law_554 2 rfl rfl ?_
  refine g_aload_n X dL_law_555 0 rfl rfl ?_
  refine g_iload X dL_law_556 4 rfl ?_
  refine g_iconst (v := 1) X dL_law_558 (by decide) ?_
  refine g_iadd X dL_law_559 ?_
  refine g_sld (j := i + 1) X hX dL_law_560 (nI_add i 1) (by omega) ?_
  refine g_aload_n X dL_law_561 0 rfl rfl ?_
  refine g_iload X dL_law_562 4 rfl ?_
  refine g_iconst (v := 2) X dL_law_564 (by decide) ?_
  refine g_iadd X dL_law_565 ?_
  refine g_sld (j := i + 2) X hX dL_law_566 (nI_add i 2) (by omega) ?_
  refine g_callVi (As := [.int (xs (i + 1)), .int (xs (i + 2))]) (v := r) (S' := S2) X dL_law_567 mlL_63 (fun l D cyy => tX11_feast (cx_inj X) l D cyy 140 (xs (i + 1)) (xs (i + 2)) (by decide +kernel) S (r, S2) e2) (by decide +kernel) (by decide) rfl rfl (Nat.le_of_ble_eq_true rfl) ?_
  exact g_icmp_eq (tgt := 1615) X dL_law_570 (by decide) (fun _ => hgo S2 hI2) (fun c0 => absurd rfl c0)
theorem law_now {z : Mx} {ad : Nat → Nat} {o : Option Value × St} {b u L i : Nat} {xs : Nat → Int32} {Inv : St → Prop} (X : CxOk z ad RL cL_law 7 (some .boolean) 1200) (hX : SX z b L xs) (hi : i + 6 ≤ L) (hp : pr_now Inv) (S : St) (hInv : Inv S) (hgo : ∀ S2, Inv S2 → GW z ad o S2 1615 [(0, .ref b), (1, .ref (ad 0)), (2, .ref (ad 140)), (3, .ref u), (4, .int (nI i))] []) : GW z ad o S 575 [(0, .ref b), (1, .ref (ad 0)), (2, .ref (ad 140)), (3, .ref u), (4, .int (nI i))] [] := by
  obtain ⟨r, S2, e1, e2, hI2⟩ := hp S hInv (xs (i + 1))
  refine g_aload_n X dL_law_575 1 rfl rfl ?_
  refine g_aload_n X dL_law_576 0 rfl rfl ?_
  refine g_iload X dL_law_577 4 rfl ?_
  refine g_iconst (v := 1) X dL_law_579 (by decide) ?_
  refine g_iadd X dL_law_580 ?_
  refine g_sld (j := i + 1) X hX dL_law_581 (nI_add i 1) (by omega) ?_
  refine g_callVi (As := [.int (xs (i + 1))]) (v := r) (S' := S) X dL_law_582 mlL_64 (fun l D cyy => tX10_now (cx_inj X) l D cyy 0 (xs (i + 1)) (by decide +kernel) S r e1) (by decide +kernel) (by decide) rfl rfl (Nat.le_of_ble_eq_true rfl) ?_
  refine g_aload_n X dL_law_585 2 rfl rfl ?_
  refine g_aload_n X dL_law_586 0 rfl rfl ?_
  refine g_iload X dL_law_587 4 rfl ?_
  refine g_iconst (v := 1) X dL_law_589 (by decide) ?_
  refine g_iadd X dL_law_590 ?_
  refine g_sld (j := i + 1) X hX dL_law_591 (nI_add i 1) (by omega) ?_
  refine g_callVi (As := [.int (xs (i + 1))]) (v := r) (S' := S2) X dL_law_592 mlL_68 (fun l D cyy => tX11_now (cx_inj X) l D cyy 140 (xs (i + 1)) (by decide +kernel) S (r, S2) e2) (by decide +kernel) (by decide) rfl rfl (Nat.le_of_ble_eq_true rfl) ?_
  exact g_icmp_eq (tgt := 1615) X dL_law_595 (by decide) (fun _ => hgo S2 hI2) (fun c0 => absurd rfl c0)
theorem law_hold {z : Mx} {ad : Nat → Nat} {o : Option Value × St} {b u L i : Nat} {xs : Nat → Int32} {Inv : St → Prop} (X : CxOk z ad RL cL_law 7 (some .boolean) 1200) (hX : SX z b L xs) (hi : i + 6 ≤ L) (hp : pr_hold Inv) (S : St) (hInv : Inv S) (hgo : ∀ S2, Inv S2 → GW z ad o S2 1615 [(0, .ref b), (1, .ref (ad 0)), (2, .ref (ad 140)), (3, .ref u), (4, .int (nI i))] []) : GW z ad o S 600 [(0, .ref b), (1, .ref (ad 0)), (2, .ref (ad 140)), (3, .ref u), (4, .int (nI i))] [] := by
  obtain ⟨r, S1, S2, e1, e2, hI2⟩ := hp S hInv (xs (i + 1))
  refine g_aload_n X dL_law_600 1 rfl rfl ?_
  refine g_aload_n X dL_law_601 0 rfl rfl ?_
  refine g_iload X dL_law_602 4 rfl ?_
  refine g_iconst (v := 1) X dL_law_604 (by decide) ?_
  refine g_iadd X dL_law_605 ?_
  refine g_sld (j := i + 1) X hX dL_law_606 (nI_add i 1) (by omega) ?_
  refine g_callVi (As := [.int (xs (i + 1))]) (v := r) (S' := S1) X dL_law_607 mlL_69 (fun l D cyy => tX10_hold (cx_inj X) l D cyy 0 (xs (i + 1)) (by decide +kernel) S (r, S1) e1) (by decide +kernel) (by decide) rfl rfl (Nat.le_of_ble_eq_true rfl) ?_
  refine g_aload_n X dL_law_610 2 rfl rfl ?_
  refine g_aload_n X dL_law_611 0 rfl rfl ?_
  refine g_iload X dL_law_612 4 rfl ?_
  refine g_iconst (v := 1) X dL_law_614 (by decide) ?_
  refine g_iadd X dL_law_615 ?_
  refine g_sld (j := i + 1) X hX dL_law_616 (nI_add i 1) (by omega) ?_
  refine g_callVi (As := [.int (xs (i + 1))]) (v := r) (S' := S2) X dL_law_617 mlL_72 (fun l D cyy => tX11_hold (cx_inj X) l D cyy 140 (xs (i + 1)) (by decide +kernel) S1 (r, S2) e2) (by decide +kernel) (by decide) rfl rfl (Nat.le_of_ble_eq_true rfl) ?_
  exact g_icmp_eq (tgt := 1615) X dL_law_620 (by decide) (fun _ => hgo S2 hI2) (fun c0 => absurd rfl c0)
