/-! decode rows of the law, by program: 1 -/
theorem dW_law_0 : decode (zby mW_law) 0 = .ok (.new 8, 3) := by decide +kernel
theorem dW_law_3 : decode (zby mW_law) 3 = .ok (.dup, 1) := by decide +kernel
theorem dW_law_4 : decode (zby mW_law) 4 = .ok (.invokespecial 173, 3) := by decide +kernel
theorem dW_law_7 : decode (zby mW_law) 7 = .ok (.astore_n 1, 1) := by decide +kernel
theorem dW_law_8 : decode (zby mW_law) 8 = .ok (.new 174, 3) := by decide +kernel
theorem dW_law_11 : decode (zby mW_law) 11 = .ok (.dup, 1) := by decide +kernel
theorem dW_law_12 : decode (zby mW_law) 12 = .ok (.invokespecial 176, 3) := by decide +kernel
theorem dW_law_15 : decode (zby mW_law) 15 = .ok (.astore_n 2, 1) := by decide +kernel
theorem dW_law_16 : decode (zby mW_law) 16 = .ok (.iconst 1, 1) := by decide +kernel
theorem dW_law_17 : decode (zby mW_law) 17 = .ok (.newarray .long, 2) := by decide +kernel
theorem dW_law_19 : decode (zby mW_law) 19 = .ok (.astore_n 3, 1) := by decide +kernel
theorem dW_law_20 : decode (zby mW_law) 20 = .ok (.iconst 1, 1) := by decide +kernel
theorem dW_law_21 : decode (zby mW_law) 21 = .ok (.newarray .double, 2) := by decide +kernel
theorem dW_law_23 : decode (zby mW_law) 23 = .ok (.astore 4, 2) := by decide +kernel
theorem dW_law_25 : decode (zby mW_law) 25 = .ok (.iconst 0, 1) := by decide +kernel
theorem dW_law_26 : decode (zby mW_law) 26 = .ok (.istore 5, 2) := by decide +kernel
theorem dW_law_28 : decode (zby mW_law) 28 = .ok (.iload 5, 2) := by decide +kernel
theorem dW_law_30 : decode (zby mW_law) 30 = .ok (.aload_n 0, 1) := by decide +kernel
theorem dW_law_31 : decode (zby mW_law) 31 = .ok (.arraylength, 1) := by decide +kernel
theorem dW_law_32 : decode (zby mW_law) 32 = .ok (.iconst 4, 1) := by decide +kernel
theorem dW_law_33 : decode (zby mW_law) 33 = .ok (.isub, 1) := by decide +kernel
theorem dW_law_34 : decode (zby mW_law) 34 = .ok (.if_icmp .gt 3232, 3) := by decide +kernel
theorem dW_law_37 : decode (zby mW_law) 37 = .ok (.aload_n 0, 1) := by decide +kernel
theorem dW_law_38 : decode (zby mW_law) 38 = .ok (.iload 5, 2) := by decide +kernel
theorem dW_law_40 : decode (zby mW_law) 40 = .ok (.iaload, 1) := by decide +kernel
theorem dW_law_41 : decode (zby mW_law) 41 = .ok (.bipush 63, 2) := by decide +kernel
theorem dW_law_43 : decode (zby mW_law) 43 = .ok (.iand, 1) := by decide +kernel
theorem dW_law_44 : decode (zby mW_law) 44 = .ok (.tableswitch 3216 0 56 #[244, 300, 368, 436, 492, 548, 616, 660, 716, 784, 840, 853, 909, 965, 1021, 1077, 1133, 1189, 1245, 1313, 1388, 1475, 1488, 1544, 1612, 1680, 1760, 1840, 1908, 1976, 2032, 2088, 2144, 2200, 2244, 2312, 2368, 2424, 2480, 2536, 2549, 2562, 2575, 2588, 2653, 2719, 2732, 2788, 2856, 2912, 2970, 3014, 3058, 3102, 3115, 3159, 3172], 244) := by decide +kernel
theorem dW_law_288 : decode (zby mW_law) 288 = .ok (.aload_n 1, 1) := by decide +kernel
theorem dW_law_289 : decode (zby mW_law) 289 = .ok (.aload_n 0, 1) := by decide +kernel
theorem dW_law_290 : decode (zby mW_law) 290 = .ok (.iload 5, 2) := by decide +kernel
theorem dW_law_292 : decode (zby mW_law) 292 = .ok (.iconst 1, 1) := by decide +kernel
theorem dW_law_293 : decode (zby mW_law) 293 = .ok (.iadd, 1) := by decide +kernel
theorem dW_law_294 : decode (zby mW_law) 294 = .ok (.iaload, 1) := by decide +kernel
theorem dW_law_295 : decode (zby mW_law) 295 = .ok (.aload_n 3, 1) := by decide +kernel
theorem dW_law_296 : decode (zby mW_law) 296 = .ok (.invokestatic 177, 3) := by decide +kernel
theorem dW_law_299 : decode (zby mW_law) 299 = .ok (.istore 6, 2) := by decide +kernel
theorem dW_law_301 : decode (zby mW_law) 301 = .ok (.aload_n 2, 1) := by decide +kernel
theorem dW_law_302 : decode (zby mW_law) 302 = .ok (.aload_n 0, 1) := by decide +kernel
theorem dW_law_303 : decode (zby mW_law) 303 = .ok (.iload 5, 2) := by decide +kernel
theorem dW_law_305 : decode (zby mW_law) 305 = .ok (.iconst 1, 1) := by decide +kernel
theorem dW_law_306 : decode (zby mW_law) 306 = .ok (.iadd, 1) := by decide +kernel
theorem dW_law_307 : decode (zby mW_law) 307 = .ok (.iaload, 1) := by decide +kernel
theorem dW_law_308 : decode (zby mW_law) 308 = .ok (.invokevirtual 182, 3) := by decide +kernel
theorem dW_law_311 : decode (zby mW_law) 311 = .ok (.istore 7, 2) := by decide +kernel
theorem dW_law_313 : decode (zby mW_law) 313 = .ok (.aload_n 2, 1) := by decide +kernel
theorem dW_law_314 : decode (zby mW_law) 314 = .ok (.invokevirtual 183, 3) := by decide +kernel
theorem dW_law_317 : decode (zby mW_law) 317 = .ok (.iload 6, 2) := by decide +kernel
theorem dW_law_319 : decode (zby mW_law) 319 = .ok (.if_icmp .eq 5, 3) := by decide +kernel
theorem dW_law_324 : decode (zby mW_law) 324 = .ok (.iload 6, 2) := by decide +kernel
theorem dW_law_326 : decode (zby mW_law) 326 = .ok (.ifCond .ne 15, 3) := by decide +kernel
theorem dW_law_329 : decode (zby mW_law) 329 = .ok (.aload_n 3, 1) := by decide +kernel
theorem dW_law_330 : decode (zby mW_law) 330 = .ok (.iconst 0, 1) := by decide +kernel
theorem dW_law_331 : decode (zby mW_law) 331 = .ok (.laload, 1) := by decide +kernel
theorem dW_law_332 : decode (zby mW_law) 332 = .ok (.iload 7, 2) := by decide +kernel
theorem dW_law_334 : decode (zby mW_law) 334 = .ok (.i2l, 1) := by decide +kernel
theorem dW_law_335 : decode (zby mW_law) 335 = .ok (.lcmp, 1) := by decide +kernel
theorem dW_law_336 : decode (zby mW_law) 336 = .ok (.ifCond .eq 5, 3) := by decide +kernel
theorem dW_law_341 : decode (zby mW_law) 341 = .ok (.goto 2919, 3) := by decide +kernel
theorem dW_law_344 : decode (zby mW_law) 344 = .ok (.aload_n 1, 1) := by decide +kernel
theorem dW_law_345 : decode (zby mW_law) 345 = .ok (.aload_n 0, 1) := by decide +kernel
theorem dW_law_346 : decode (zby mW_law) 346 = .ok (.iload 5, 2) := by decide +kernel
theorem dW_law_348 : decode (zby mW_law) 348 = .ok (.iconst 1, 1) := by decide +kernel
theorem dW_law_349 : decode (zby mW_law) 349 = .ok (.iadd, 1) := by decide +kernel
theorem dW_law_350 : decode (zby mW_law) 350 = .ok (.iaload, 1) := by decide +kernel
theorem dW_law_351 : decode (zby mW_law) 351 = .ok (.aload_n 0, 1) := by decide +kernel
theorem dW_law_352 : decode (zby mW_law) 352 = .ok (.iload 5, 2) := by decide +kernel
theorem dW_law_354 : decode (zby mW_law) 354 = .ok (.iconst 2, 1) := by decide +kernel
theorem dW_law_355 : decode (zby mW_law) 355 = .ok (.iadd, 1) := by decide +kernel
theorem dW_law_356 : decode (zby mW_law) 356 = .ok (.iaload, 1) := by decide +kernel
theorem dW_law_357 : decode (zby mW_law) 357 = .ok (.aload_n 3, 1) := by decide +kernel
theorem dW_law_358 : decode (zby mW_law) 358 = .ok (.invokestatic 186, 3) := by decide +kernel
theorem dW_law_361 : decode (zby mW_law) 361 = .ok (.istore 6, 2) := by decide +kernel
theorem dW_law_363 : decode (zby mW_law) 363 = .ok (.aload_n 2, 1) := by decide +kernel
theorem dW_law_364 : decode (zby mW_law) 364 = .ok (.aload_n 0, 1) := by decide +kernel
theorem dW_law_365 : decode (zby mW_law) 365 = .ok (.iload 5, 2) := by decide +kernel
theorem dW_law_367 : decode (zby mW_law) 367 = .ok (.iconst 1, 1) := by decide +kernel
theorem dW_law_368 : decode (zby mW_law) 368 = .ok (.iadd, 1) := by decide +kernel
theorem dW_law_369 : decode (zby mW_law) 369 = .ok (.iaload, 1) := by decide +kernel
theorem dW_law_370 : decode (zby mW_law) 370 = .ok (.aload_n 0, 1) := by decide +kernel
theorem dW_law_371 : decode (zby mW_law) 371 = .ok (.iload 5, 2) := by decide +kernel
theorem dW_law_373 : decode (zby mW_law) 373 = .ok (.iconst 2, 1) := by decide +kernel
theorem dW_law_374 : decode (zby mW_law) 374 = .ok (.iadd, 1) := by decide +kernel
theorem dW_law_375 : decode (zby mW_law) 375 = .ok (.iaload, 1) := by decide +kernel
theorem dW_law_376 : decode (zby mW_law) 376 = .ok (.invokevirtual 189, 3) := by decide +kernel
theorem dW_law_379 : decode (zby mW_law) 379 = .ok (.istore 7, 2) := by decide +kernel
theorem dW_law_381 : decode (zby mW_law) 381 = .ok (.aload_n 2, 1) := by decide +kernel
theorem dW_law_382 : decode (zby mW_law) 382 = .ok (.invokevirtual 183, 3) := by decide +kernel
theorem dW_law_385 : decode (zby mW_law) 385 = .ok (.iload 6, 2) := by decide +kernel
theorem dW_law_387 : decode (zby mW_law) 387 = .ok (.if_icmp .eq 5, 3) := by decide +kernel
theorem dW_law_392 : decode (zby mW_law) 392 = .ok (.iload 6, 2) := by decide +kernel
theorem dW_law_394 : decode (zby mW_law) 394 = .ok (.ifCond .ne 15, 3) := by decide +kernel
theorem dW_law_397 : decode (zby mW_law) 397 = .ok (.aload_n 3, 1) := by decide +kernel
theorem dW_law_398 : decode (zby mW_law) 398 = .ok (.iconst 0, 1) := by decide +kernel
theorem dW_law_399 : decode (zby mW_law) 399 = .ok (.laload, 1) := by decide +kernel
theorem dW_law_400 : decode (zby mW_law) 400 = .ok (.iload 7, 2) := by decide +kernel
theorem dW_law_402 : decode (zby mW_law) 402 = .ok (.i2l, 1) := by decide +kernel
theorem dW_law_403 : decode (zby mW_law) 403 = .ok (.lcmp, 1) := by decide +kernel
theorem dW_law_404 : decode (zby mW_law) 404 = .ok (.ifCond .eq 5, 3) := by decide +kernel
theorem dW_law_409 : decode (zby mW_law) 409 = .ok (.goto 2851, 3) := by decide +kernel
theorem dW_law_412 : decode (zby mW_law) 412 = .ok (.aload_n 1, 1) := by decide +kernel
theorem dW_law_413 : decode (zby mW_law) 413 = .ok (.aload_n 0, 1) := by decide +kernel
theorem dW_law_414 : decode (zby mW_law) 414 = .ok (.iload 5, 2) := by decide +kernel
theorem dW_law_416 : decode (zby mW_law) 416 = .ok (.iconst 1, 1) := by decide +kernel
theorem dW_law_417 : decode (zby mW_law) 417 = .ok (.iadd, 1) := by decide +kernel
theorem dW_law_418 : decode (zby mW_law) 418 = .ok (.iaload, 1) := by decide +kernel
theorem dW_law_419 : decode (zby mW_law) 419 = .ok (.aload_n 0, 1) := by decide +kernel
theorem dW_law_420 : decode (zby mW_law) 420 = .ok (.iload 5, 2) := by decide +kernel
theorem dW_law_422 : decode (zby mW_law) 422 = .ok (.iconst 2, 1) := by decide +kernel
theorem dW_law_423 : decode (zby mW_law) 423 = .ok (.iadd, 1) := by decide +kernel
theorem dW_law_424 : decode (zby mW_law) 424 = .ok (.iaload, 1) := by decide +kernel
theorem dW_law_425 : decode (zby mW_law) 425 = .ok (.aload_n 3, 1) := by decide +kernel
theorem dW_law_426 : decode (zby mW_law) 426 = .ok (.invokestatic 190, 3) := by decide +kernel
theorem dW_law_429 : decode (zby mW_law) 429 = .ok (.istore 6, 2) := by decide +kernel
theorem dW_law_431 : decode (zby mW_law) 431 = .ok (.aload_n 2, 1) := by decide +kernel
theorem dW_law_432 : decode (zby mW_law) 432 = .ok (.aload_n 0, 1) := by decide +kernel
theorem dW_law_433 : decode (zby mW_law) 433 = .ok (.iload 5, 2) := by decide +kernel
theorem dW_law_435 : decode (zby mW_law) 435 = .ok (.iconst 1, 1) := by decide +kernel
theorem dW_law_436 : decode (zby mW_law) 436 = .ok (.iadd, 1) := by decide +kernel
theorem dW_law_437 : decode (zby mW_law) 437 = .ok (.iaload, 1) := by decide +kernel
theorem dW_law_438 : decode (zby mW_law) 438 = .ok (.aload_n 0, 1) := by decide +kernel
theorem dW_law_439 : decode (zby mW_law) 439 = .ok (.iload 5, 2) := by decide +kernel
theorem dW_law_441 : decode (zby mW_law) 441 = .ok (.iconst 2, 1) := by decide +kernel
theorem dW_law_442 : decode (zby mW_law) 442 = .ok (.iadd, 1) := by decide +kernel
theorem dW_law_443 : decode (zby mW_law) 443 = .ok (.iaload, 1) := by decide +kernel
theorem dW_law_444 : decode (zby mW_law) 444 = .ok (.invokevirtual 192, 3) := by decide +kernel
theorem dW_law_447 : decode (zby mW_law) 447 = .ok (.istore 7, 2) := by decide +kernel
theorem dW_law_449 : decode (zby mW_law) 449 = .ok (.aload_n 2, 1) := by decide +kernel
theorem dW_law_450 : decode (zby mW_law) 450 = .ok (.invokevirtual 183, 3) := by decide +kernel
theorem dW_law_453 : decode (zby mW_law) 453 = .ok (.iload 6, 2) := by decide +kernel
theorem dW_law_455 : decode (zby mW_law) 455 = .ok (.if_icmp .eq 5, 3) := by decide +kernel
theorem dW_law_460 : decode (zby mW_law) 460 = .ok (.iload 6, 2) := by decide +kernel
theorem dW_law_462 : decode (zby mW_law) 462 = .ok (.ifCond .ne 15, 3) := by decide +kernel
theorem dW_law_465 : decode (zby mW_law) 465 = .ok (.aload_n 3, 1) := by decide +kernel
theorem dW_law_466 : decode (zby mW_law) 466 = .ok (.iconst 0, 1) := by decide +kernel
theorem dW_law_467 : decode (zby mW_law) 467 = .ok (.laload, 1) := by decide +kernel
theorem dW_law_468 : decode (zby mW_law) 468 = .ok (.iload 7, 2) := by decide +kernel
theorem dW_law_470 : decode (zby mW_law) 470 = .ok (.i2l, 1) := by decide +kernel
theorem dW_law_471 : decode (zby mW_law) 471 = .ok (.lcmp, 1) := by decide +kernel
theorem dW_law_472 : decode (zby mW_law) 472 = .ok (.ifCond .eq 5, 3) := by decide +kernel
theorem dW_law_477 : decode (zby mW_law) 477 = .ok (.goto 2783, 3) := by decide +kernel
theorem dW_law_480 : decode (zby mW_law) 480 = .ok (.aload_n 1, 1) := by decide +kernel
theorem dW_law_481 : decode (zby mW_law) 481 = .ok (.aload_n 0, 1) := by decide +kernel
theorem dW_law_482 : decode (zby mW_law) 482 = .ok (.iload 5, 2) := by decide +kernel
theorem dW_law_484 : decode (zby mW_law) 484 = .ok (.iconst 1, 1) := by decide +kernel
theorem dW_law_485 : decode (zby mW_law) 485 = .ok (.iadd, 1) := by decide +kernel
theorem dW_law_486 : decode (zby mW_law) 486 = .ok (.iaload, 1) := by decide +kernel
theorem dW_law_487 : decode (zby mW_law) 487 = .ok (.aload_n 3, 1) := by decide +kernel
theorem dW_law_488 : decode (zby mW_law) 488 = .ok (.invokestatic 193, 3) := by decide +kernel
theorem dW_law_491 : decode (zby mW_law) 491 = .ok (.istore 6, 2) := by decide +kernel
theorem dW_law_493 : decode (zby mW_law) 493 = .ok (.aload_n 2, 1) := by decide +kernel
theorem dW_law_494 : decode (zby mW_law) 494 = .ok (.aload_n 0, 1) := by decide +kernel
theorem dW_law_495 : decode (zby mW_law) 495 = .ok (.iload 5, 2) := by decide +kernel
theorem dW_law_497 : decode (zby mW_law) 497 = .ok (.iconst 1, 1) := by decide +kernel
theorem dW_law_498 : decode (zby mW_law) 498 = .ok (.iadd, 1) := by decide +kernel
theorem dW_law_499 : decode (zby mW_law) 499 = .ok (.iaload, 1) := by decide +kernel
theorem dW_law_500 : decode (zby mW_law) 500 = .ok (.invokevirtual 195, 3) := by decide +kernel
theorem dW_law_503 : decode (zby mW_law) 503 = .ok (.istore 7, 2) := by decide +kernel
theorem dW_law_505 : decode (zby mW_law) 505 = .ok (.aload_n 2, 1) := by decide +kernel
theorem dW_law_506 : decode (zby mW_law) 506 = .ok (.invokevirtual 183, 3) := by decide +kernel
theorem dW_law_509 : decode (zby mW_law) 509 = .ok (.iload 6, 2) := by decide +kernel
theorem dW_law_511 : decode (zby mW_law) 511 = .ok (.if_icmp .eq 5, 3) := by decide +kernel
theorem dW_law_516 : decode (zby mW_law) 516 = .ok (.iload 6, 2) := by decide +kernel
theorem dW_law_518 : decode (zby mW_law) 518 = .ok (.ifCond .ne 15, 3) := by decide +kernel
theorem dW_law_521 : decode (zby mW_law) 521 = .ok (.aload_n 3, 1) := by decide +kernel
theorem dW_law_522 : decode (zby mW_law) 522 = .ok (.iconst 0, 1) := by decide +kernel
theorem dW_law_523 : decode (zby mW_law) 523 = .ok (.laload, 1) := by decide +kernel
theorem dW_law_524 : decode (zby mW_law) 524 = .ok (.iload 7, 2) := by decide +kernel
theorem dW_law_526 : decode (zby mW_law) 526 = .ok (.i2l, 1) := by decide +kernel
theorem dW_law_527 : decode (zby mW_law) 527 = .ok (.lcmp, 1) := by decide +kernel
theorem dW_law_528 : decode (zby mW_law) 528 = .ok (.ifCond .eq 5, 3) := by decide +kernel
theorem dW_law_533 : decode (zby mW_law) 533 = .ok (.goto 2727, 3) := by decide +kernel
theorem dW_law_536 : decode (zby mW_law) 536 = .ok (.aload_n 1, 1) := by decide +kernel
theorem dW_law_537 : decode (zby mW_law) 537 = .ok (.aload_n 0, 1) := by decide +kernel
theorem dW_law_538 : decode (zby mW_law) 538 = .ok (.iload 5, 2) := by decide +kernel
theorem dW_law_540 : decode (zby mW_law) 540 = .ok (.iconst 1, 1) := by decide +kernel
theorem dW_law_541 : decode (zby mW_law) 541 = .ok (.iadd, 1) := by decide +kernel
theorem dW_law_542 : decode (zby mW_law) 542 = .ok (.iaload, 1) := by decide +kernel
theorem dW_law_543 : decode (zby mW_law) 543 = .ok (.aload_n 3, 1) := by decide +kernel
theorem dW_law_544 : decode (zby mW_law) 544 = .ok (.invokestatic 196, 3) := by decide +kernel
theorem dW_law_547 : decode (zby mW_law) 547 = .ok (.istore 6, 2) := by decide +kernel
theorem dW_law_549 : decode (zby mW_law) 549 = .ok (.aload_n 2, 1) := by decide +kernel
theorem dW_law_550 : decode (zby mW_law) 550 = .ok (.aload_n 0, 1) := by decide +kernel
theorem dW_law_551 : decode (zby mW_law) 551 = .ok (.iload 5, 2) := by decide +kernel
theorem dW_law_553 : decode (zby mW_law) 553 = .ok (.iconst 1, 1) := by decide +kernel
theorem dW_law_554 : decode (zby mW_law) 554 = .ok (.iadd, 1) := by decide +kernel
theorem dW_law_555 : decode (zby mW_law) 555 = .ok (.iaload, 1) := by decide +kernel
theorem dW_law_556 : decode (zby mW_law) 556 = .ok (.invokevirtual 198, 3) := by decide +kernel
theorem dW_law_559 : decode (zby mW_law) 559 = .ok (.istore 7, 2) := by decide +kernel
theorem dW_law_561 : decode (zby mW_law) 561 = .ok (.aload_n 2, 1) := by decide +kernel
theorem dW_law_562 : decode (zby mW_law) 562 = .ok (.invokevirtual 183, 3) := by decide +kernel
theorem dW_law_565 : decode (zby mW_law) 565 = .ok (.iload 6, 2) := by decide +kernel
theorem dW_law_567 : decode (zby mW_law) 567 = .ok (.if_icmp .eq 5, 3) := by decide +kernel
theorem dW_law_572 : decode (zby mW_law) 572 = .ok (.iload 6, 2) := by decide +kernel
theorem dW_law_574 : decode (zby mW_law) 574 = .ok (.ifCond .ne 15, 3) := by decide +kernel
theorem dW_law_577 : decode (zby mW_law) 577 = .ok (.aload_n 3, 1) := by decide +kernel
theorem dW_law_578 : decode (zby mW_law) 578 = .ok (.iconst 0, 1) := by decide +kernel
theorem dW_law_579 : decode (zby mW_law) 579 = .ok (.laload, 1) := by decide +kernel
theorem dW_law_580 : decode (zby mW_law) 580 = .ok (.iload 7, 2) := by decide +kernel
theorem dW_law_582 : decode (zby mW_law) 582 = .ok (.i2l, 1) := by decide +kernel
theorem dW_law_583 : decode (zby mW_law) 583 = .ok (.lcmp, 1) := by decide +kernel
theorem dW_law_584 : decode (zby mW_law) 584 = .ok (.ifCond .eq 5, 3) := by decide +kernel
theorem dW_law_589 : decode (zby mW_law) 589 = .ok (.goto 2671, 3) := by decide +kernel
theorem dW_law_592 : decode (zby mW_law) 592 = .ok (.aload_n 1, 1) := by decide +kernel
theorem dW_law_593 : decode (zby mW_law) 593 = .ok (.aload_n 0, 1) := by decide +kernel
theorem dW_law_594 : decode (zby mW_law) 594 = .ok (.iload 5, 2) := by decide +kernel
theorem dW_law_596 : decode (zby mW_law) 596 = .ok (.iconst 1, 1) := by decide +kernel
theorem dW_law_597 : decode (zby mW_law) 597 = .ok (.iadd, 1) := by decide +kernel
theorem dW_law_598 : decode (zby mW_law) 598 = .ok (.iaload, 1) := by decide +kernel
theorem dW_law_599 : decode (zby mW_law) 599 = .ok (.aload_n 0, 1) := by decide +kernel
theorem dW_law_600 : decode (zby mW_law) 600 = .ok (.iload 5, 2) := by decide +kernel
theorem dW_law_602 : decode (zby mW_law) 602 = .ok (.iconst 2, 1) := by decide +kernel
theorem dW_law_603 : decode (zby mW_law) 603 = .ok (.iadd, 1) := by decide +kernel
theorem dW_law_604 : decode (zby mW_law) 604 = .ok (.iaload, 1) := by decide +kernel
theorem dW_law_605 : decode (zby mW_law) 605 = .ok (.aload_n 3, 1) := by decide +kernel
theorem dW_law_606 : decode (zby mW_law) 606 = .ok (.invokestatic 199, 3) := by decide +kernel
theorem dW_law_609 : decode (zby mW_law) 609 = .ok (.istore 6, 2) := by decide +kernel
theorem dW_law_611 : decode (zby mW_law) 611 = .ok (.aload_n 2, 1) := by decide +kernel
theorem dW_law_612 : decode (zby mW_law) 612 = .ok (.aload_n 0, 1) := by decide +kernel
theorem dW_law_613 : decode (zby mW_law) 613 = .ok (.iload 5, 2) := by decide +kernel
theorem dW_law_615 : decode (zby mW_law) 615 = .ok (.iconst 1, 1) := by decide +kernel
theorem dW_law_616 : decode (zby mW_law) 616 = .ok (.iadd, 1) := by decide +kernel
theorem dW_law_617 : decode (zby mW_law) 617 = .ok (.iaload, 1) := by decide +kernel
theorem dW_law_618 : decode (zby mW_law) 618 = .ok (.aload_n 0, 1) := by decide +kernel
theorem dW_law_619 : decode (zby mW_law) 619 = .ok (.iload 5, 2) := by decide +kernel
theorem dW_law_621 : decode (zby mW_law) 621 = .ok (.iconst 2, 1) := by decide +kernel
theorem dW_law_622 : decode (zby mW_law) 622 = .ok (.iadd, 1) := by decide +kernel
theorem dW_law_623 : decode (zby mW_law) 623 = .ok (.iaload, 1) := by decide +kernel
theorem dW_law_624 : decode (zby mW_law) 624 = .ok (.invokevirtual 201, 3) := by decide +kernel
theorem dW_law_627 : decode (zby mW_law) 627 = .ok (.istore 7, 2) := by decide +kernel
theorem dW_law_629 : decode (zby mW_law) 629 = .ok (.aload_n 2, 1) := by decide +kernel
theorem dW_law_630 : decode (zby mW_law) 630 = .ok (.invokevirtual 183, 3) := by decide +kernel
theorem dW_law_633 : decode (zby mW_law) 633 = .ok (.iload 6, 2) := by decide +kernel
theorem dW_law_635 : decode (zby mW_law) 635 = .ok (.if_icmp .eq 5, 3) := by decide +kernel
theorem dW_law_640 : decode (zby mW_law) 640 = .ok (.iload 6, 2) := by decide +kernel
theorem dW_law_642 : decode (zby mW_law) 642 = .ok (.ifCond .ne 15, 3) := by decide +kernel
theorem dW_law_645 : decode (zby mW_law) 645 = .ok (.aload_n 3, 1) := by decide +kernel
theorem dW_law_646 : decode (zby mW_law) 646 = .ok (.iconst 0, 1) := by decide +kernel
theorem dW_law_647 : decode (zby mW_law) 647 = .ok (.laload, 1) := by decide +kernel
theorem dW_law_648 : decode (zby mW_law) 648 = .ok (.iload 7, 2) := by decide +kernel
theorem dW_law_650 : decode (zby mW_law) 650 = .ok (.i2l, 1) := by decide +kernel
theorem dW_law_651 : decode (zby mW_law) 651 = .ok (.lcmp, 1) := by decide +kernel
theorem dW_law_652 : decode (zby mW_law) 652 = .ok (.ifCond .eq 5, 3) := by decide +kernel
theorem dW_law_657 : decode (zby mW_law) 657 = .ok (.goto 2603, 3) := by decide +kernel
theorem dW_law_660 : decode (zby mW_law) 660 = .ok (.aload_n 1, 1) := by decide +kernel
theorem dW_law_661 : decode (zby mW_law) 661 = .ok (.aload_n 3, 1) := by decide +kernel
theorem dW_law_662 : decode (zby mW_law) 662 = .ok (.invokestatic 202, 3) := by decide +kernel
theorem dW_law_665 : decode (zby mW_law) 665 = .ok (.istore 6, 2) := by decide +kernel
theorem dW_law_667 : decode (zby mW_law) 667 = .ok (.aload_n 2, 1) := by decide +kernel
theorem dW_law_668 : decode (zby mW_law) 668 = .ok (.invokevirtual 205, 3) := by decide +kernel
theorem dW_law_671 : decode (zby mW_law) 671 = .ok (.istore 7, 2) := by decide +kernel
theorem dW_law_673 : decode (zby mW_law) 673 = .ok (.aload_n 2, 1) := by decide +kernel
theorem dW_law_674 : decode (zby mW_law) 674 = .ok (.invokevirtual 183, 3) := by decide +kernel
theorem dW_law_677 : decode (zby mW_law) 677 = .ok (.iload 6, 2) := by decide +kernel
theorem dW_law_679 : decode (zby mW_law) 679 = .ok (.if_icmp .eq 5, 3) := by decide +kernel
theorem dW_law_684 : decode (zby mW_law) 684 = .ok (.iload 6, 2) := by decide +kernel
theorem dW_law_686 : decode (zby mW_law) 686 = .ok (.ifCond .ne 15, 3) := by decide +kernel
theorem dW_law_689 : decode (zby mW_law) 689 = .ok (.aload_n 3, 1) := by decide +kernel
theorem dW_law_690 : decode (zby mW_law) 690 = .ok (.iconst 0, 1) := by decide +kernel
theorem dW_law_691 : decode (zby mW_law) 691 = .ok (.laload, 1) := by decide +kernel
theorem dW_law_692 : decode (zby mW_law) 692 = .ok (.iload 7, 2) := by decide +kernel
theorem dW_law_694 : decode (zby mW_law) 694 = .ok (.i2l, 1) := by decide +kernel
theorem dW_law_695 : decode (zby mW_law) 695 = .ok (.lcmp, 1) := by decide +kernel
theorem dW_law_696 : decode (zby mW_law) 696 = .ok (.ifCond .eq 5, 3) := by decide +kernel
theorem dW_law_701 : decode (zby mW_law) 701 = .ok (.goto 2559, 3) := by decide +kernel
theorem dW_law_704 : decode (zby mW_law) 704 = .ok (.aload_n 1, 1) := by decide +kernel
theorem dW_law_705 : decode (zby mW_law) 705 = .ok (.aload_n 0, 1) := by decide +kernel
theorem dW_law_706 : decode (zby mW_law) 706 = .ok (.iload 5, 2) := by decide +kernel
theorem dW_law_708 : decode (zby mW_law) 708 = .ok (.iconst 1, 1) := by decide +kernel
theorem dW_law_709 : decode (zby mW_law) 709 = .ok (.iadd, 1) := by decide +kernel
theorem dW_law_710 : decode (zby mW_law) 710 = .ok (.iaload, 1) := by decide +kernel
theorem dW_law_711 : decode (zby mW_law) 711 = .ok (.aload_n 3, 1) := by decide +kernel
theorem dW_law_712 : decode (zby mW_law) 712 = .ok (.invokestatic 206, 3) := by decide +kernel
theorem dW_law_715 : decode (zby mW_law) 715 = .ok (.istore 6, 2) := by decide +kernel
theorem dW_law_717 : decode (zby mW_law) 717 = .ok (.aload_n 2, 1) := by decide +kernel
theorem dW_law_718 : decode (zby mW_law) 718 = .ok (.aload_n 0, 1) := by decide +kernel
theorem dW_law_719 : decode (zby mW_law) 719 = .ok (.iload 5, 2) := by decide +kernel
theorem dW_law_721 : decode (zby mW_law) 721 = .ok (.iconst 1, 1) := by decide +kernel
theorem dW_law_722 : decode (zby mW_law) 722 = .ok (.iadd, 1) := by decide +kernel
theorem dW_law_723 : decode (zby mW_law) 723 = .ok (.iaload, 1) := by decide +kernel
theorem dW_law_724 : decode (zby mW_law) 724 = .ok (.invokevirtual 208, 3) := by decide +kernel
