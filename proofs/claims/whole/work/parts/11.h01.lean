/-! ===== functions of methods, by program (wip/whole/tools/gen11.py) ===== -/
theorem dL_law_0 : decode cL_law 0 = .ok (.new 8, 3) := zd_dec hw0 (q := 0) rfl (by decide +kernel)
theorem dL_law_3 : decode cL_law 3 = .ok (.dup, 1) := zd_dec hw0 (q := 3) rfl (by decide +kernel)
theorem dL_law_4 : decode cL_law 4 = .ok (.invokespecial 271, 3) := zd_dec hw0 (q := 4) rfl (by decide +kernel)
theorem dL_law_7 : decode cL_law 7 = .ok (.astore_n 1, 1) := zd_dec hw0 (q := 7) rfl (by decide +kernel)
theorem dL_law_8 : decode cL_law 8 = .ok (.new 272, 3) := zd_dec hw0 (q := 8) rfl (by decide +kernel)
theorem dL_law_11 : decode cL_law 11 = .ok (.dup, 1) := zd_dec hw0 (q := 11) rfl (by decide +kernel)
theorem dL_law_12 : decode cL_law 12 = .ok (.invokespecial 274, 3) := zd_dec hw0 (q := 12) rfl (by decide +kernel)
theorem dL_law_15 : decode cL_law 15 = .ok (.astore_n 2, 1) := zd_dec hw0 (q := 15) rfl (by decide +kernel)
theorem dL_law_16 : decode cL_law 16 = .ok (.iconst 1, 1) := zd_dec hw0 (q := 16) rfl (by decide +kernel)
theorem dL_law_17 : decode cL_law 17 = .ok (.newarray .long, 2) := zd_dec hw0 (q := 17) rfl (by decide +kernel)
theorem dL_law_19 : decode cL_law 19 = .ok (.astore_n 3, 1) := zd_dec hw0 (q := 19) rfl (by decide +kernel)
theorem dL_law_20 : decode cL_law 20 = .ok (.iconst 0, 1) := zd_dec hw0 (q := 20) rfl (by decide +kernel)
theorem dL_law_21 : decode cL_law 21 = .ok (.istore 4, 2) := zd_dec hw0 (q := 21) rfl (by decide +kernel)
theorem dL_law_23 : decode cL_law 23 = .ok (.iload 4, 2) := zd_dec hw0 (q := 23) rfl (by decide +kernel)
theorem dL_law_25 : decode cL_law 25 = .ok (.aload_n 0, 1) := zd_dec hw0 (q := 25) rfl (by decide +kernel)
theorem dL_law_26 : decode cL_law 26 = .ok (.arraylength, 1) := zd_dec hw0 (q := 26) rfl (by decide +kernel)
theorem dL_law_27 : decode cL_law 27 = .ok (.bipush 7, 2) := zd_dec hw0 (q := 27) rfl (by decide +kernel)
theorem dL_law_29 : decode cL_law 29 = .ok (.isub, 1) := zd_dec hw0 (q := 29) rfl (by decide +kernel)
theorem dL_law_30 : decode cL_law 30 = .ok (.if_icmp .gt 5978, 3) := zd_dec hw0 (q := 30) rfl (by decide +kernel)
theorem dL_law_33 : decode cL_law 33 = .ok (.aload_n 0, 1) := zd_dec hw0 (q := 33) rfl (by decide +kernel)
theorem dL_law_34 : decode cL_law 34 = .ok (.iload 4, 2) := zd_dec hw0 (q := 34) rfl (by decide +kernel)
theorem dL_law_36 : decode cL_law 36 = .ok (.iaload, 1) := zd_dec hw0 (q := 36) rfl (by decide +kernel)
theorem dL_law_37 : decode cL_law 37 = .ok (.bipush 127, 2) := zd_dec hw0 (q := 37) rfl (by decide +kernel)
theorem dL_law_39 : decode cL_law 39 = .ok (.iand, 1) := zd_dec hw0 (q := 39) rfl (by decide +kernel)
theorem dL_law_40 : decode cL_law 40 = .ok (.tableswitch 5962 0 79 #[336, 428, 515, 607, 651, 707, 775, 867, 935, 1003, 1071, 1139, 1207, 1263, 1351, 1407, 1420, 1519, 1631, 1687, 1754, 1810, 1878, 1946, 2014, 2118, 2186, 2254, 2345, 2448, 2532, 2616, 2696, 2788, 2856, 2912, 2980, 3036, 3140, 3196, 3240, 3308, 3399, 3467, 3523, 3567, 3635, 3703, 3771, 3827, 3907, 3967, 4047, 4115, 4218, 4286, 4354, 4410, 4454, 4522, 4578, 4646, 4749, 4840, 4974, 5037, 5105, 5161, 5217, 5285, 5345, 5405, 5473, 5548, 5584, 5627, 5695, 5770, 5850, 5906], 336) := by decide +kernel
theorem dL_law_6002 : decode cL_law 6002 = .ok (.iinc 4 7, 3) := zd_dec hw93 (q := 50) rfl (by decide +kernel)
theorem dL_law_6005 : decode cL_law 6005 = .ok (.goto (-5982), 3) := zd_dec hw93 (q := 53) rfl (by decide +kernel)
theorem dL_law_376 : decode cL_law 376 = .ok (.aload_n 1, 1) := zd_dec hw5 (q := 56) rfl (by decide +kernel)
theorem dL_law_377 : decode cL_law 377 = .ok (.aload_n 0, 1) := zd_dec hw5 (q := 57) rfl (by decide +kernel)
theorem dL_law_378 : decode cL_law 378 = .ok (.iload 4, 2) := zd_dec hw5 (q := 58) rfl (by decide +kernel)
theorem dL_law_380 : decode cL_law 380 = .ok (.iconst 1, 1) := zd_dec hw5 (q := 60) rfl (by decide +kernel)
theorem dL_law_381 : decode cL_law 381 = .ok (.iadd, 1) := zd_dec hw5 (q := 61) rfl (by decide +kernel)
theorem dL_law_382 : decode cL_law 382 = .ok (.iaload, 1) := zd_dec hw5 (q := 62) rfl (by decide +kernel)
theorem dL_law_383 : decode cL_law 383 = .ok (.aload_n 0, 1) := zd_dec hw5 (q := 63) rfl (by decide +kernel)
theorem dL_law_384 : decode cL_law 384 = .ok (.iload 4, 2) := zd_dec hw6 (q := 0) rfl (by decide +kernel)
theorem dL_law_386 : decode cL_law 386 = .ok (.iconst 2, 1) := zd_dec hw6 (q := 2) rfl (by decide +kernel)
theorem dL_law_387 : decode cL_law 387 = .ok (.iadd, 1) := zd_dec hw6 (q := 3) rfl (by decide +kernel)
theorem dL_law_388 : decode cL_law 388 = .ok (.iaload, 1) := zd_dec hw6 (q := 4) rfl (by decide +kernel)
theorem dL_law_389 : decode cL_law 389 = .ok (.aload_n 0, 1) := zd_dec hw6 (q := 5) rfl (by decide +kernel)
theorem dL_law_390 : decode cL_law 390 = .ok (.iload 4, 2) := zd_dec hw6 (q := 6) rfl (by decide +kernel)
theorem dL_law_392 : decode cL_law 392 = .ok (.iconst 3, 1) := zd_dec hw6 (q := 8) rfl (by decide +kernel)
theorem dL_law_393 : decode cL_law 393 = .ok (.iadd, 1) := zd_dec hw6 (q := 9) rfl (by decide +kernel)
theorem dL_law_394 : decode cL_law 394 = .ok (.iaload, 1) := zd_dec hw6 (q := 10) rfl (by decide +kernel)
theorem dL_law_395 : decode cL_law 395 = .ok (.aload_n 0, 1) := zd_dec hw6 (q := 11) rfl (by decide +kernel)
theorem dL_law_396 : decode cL_law 396 = .ok (.iload 4, 2) := zd_dec hw6 (q := 12) rfl (by decide +kernel)
theorem dL_law_398 : decode cL_law 398 = .ok (.iconst 4, 1) := zd_dec hw6 (q := 14) rfl (by decide +kernel)
theorem dL_law_399 : decode cL_law 399 = .ok (.iadd, 1) := zd_dec hw6 (q := 15) rfl (by decide +kernel)
theorem dL_law_400 : decode cL_law 400 = .ok (.iaload, 1) := zd_dec hw6 (q := 16) rfl (by decide +kernel)
theorem dL_law_401 : decode cL_law 401 = .ok (.aload_n 3, 1) := zd_dec hw6 (q := 17) rfl (by decide +kernel)
theorem dL_law_402 : decode cL_law 402 = .ok (.invokestatic 275, 3) := zd_dec hw6 (q := 18) rfl (by decide +kernel)
theorem dL_law_405 : decode cL_law 405 = .ok (.istore 5, 2) := zd_dec hw6 (q := 21) rfl (by decide +kernel)
theorem dL_law_407 : decode cL_law 407 = .ok (.aload_n 2, 1) := zd_dec hw6 (q := 23) rfl (by decide +kernel)
theorem dL_law_408 : decode cL_law 408 = .ok (.aload_n 0, 1) := zd_dec hw6 (q := 24) rfl (by decide +kernel)
theorem dL_law_409 : decode cL_law 409 = .ok (.iload 4, 2) := zd_dec hw6 (q := 25) rfl (by decide +kernel)
theorem dL_law_411 : decode cL_law 411 = .ok (.iconst 1, 1) := zd_dec hw6 (q := 27) rfl (by decide +kernel)
theorem dL_law_412 : decode cL_law 412 = .ok (.iadd, 1) := zd_dec hw6 (q := 28) rfl (by decide +kernel)
theorem dL_law_413 : decode cL_law 413 = .ok (.iaload, 1) := zd_dec hw6 (q := 29) rfl (by decide +kernel)
theorem dL_law_414 : decode cL_law 414 = .ok (.aload_n 0, 1) := zd_dec hw6 (q := 30) rfl (by decide +kernel)
theorem dL_law_415 : decode cL_law 415 = .ok (.iload 4, 2) := zd_dec hw6 (q := 31) rfl (by decide +kernel)
theorem dL_law_417 : decode cL_law 417 = .ok (.iconst 2, 1) := zd_dec hw6 (q := 33) rfl (by decide +kernel)
theorem dL_law_418 : decode cL_law 418 = .ok (.iadd, 1) := zd_dec hw6 (q := 34) rfl (by decide +kernel)
theorem dL_law_419 : decode cL_law 419 = .ok (.iaload, 1) := zd_dec hw6 (q := 35) rfl (by decide +kernel)
theorem dL_law_420 : decode cL_law 420 = .ok (.aload_n 0, 1) := zd_dec hw6 (q := 36) rfl (by decide +kernel)
theorem dL_law_421 : decode cL_law 421 = .ok (.iload 4, 2) := zd_dec hw6 (q := 37) rfl (by decide +kernel)
theorem dL_law_423 : decode cL_law 423 = .ok (.iconst 3, 1) := zd_dec hw6 (q := 39) rfl (by decide +kernel)
theorem dL_law_424 : decode cL_law 424 = .ok (.iadd, 1) := zd_dec hw6 (q := 40) rfl (by decide +kernel)
theorem dL_law_425 : decode cL_law 425 = .ok (.iaload, 1) := zd_dec hw6 (q := 41) rfl (by decide +kernel)
theorem dL_law_426 : decode cL_law 426 = .ok (.aload_n 0, 1) := zd_dec hw6 (q := 42) rfl (by decide +kernel)
theorem dL_law_427 : decode cL_law 427 = .ok (.iload 4, 2) := zd_dec hw6 (q := 43) rfl (by decide +kernel)
theorem dL_law_429 : decode cL_law 429 = .ok (.iconst 4, 1) := zd_dec hw6 (q := 45) rfl (by decide +kernel)
theorem dL_law_430 : decode cL_law 430 = .ok (.iadd, 1) := zd_dec hw6 (q := 46) rfl (by decide +kernel)
theorem dL_law_431 : decode cL_law 431 = .ok (.iaload, 1) := zd_dec hw6 (q := 47) rfl (by decide +kernel)
theorem dL_law_432 : decode cL_law 432 = .ok (.invokevirtual 280, 3) := zd_dec hw6 (q := 48) rfl (by decide +kernel)
theorem dL_law_435 : decode cL_law 435 = .ok (.istore 6, 2) := zd_dec hw6 (q := 51) rfl (by decide +kernel)
theorem dL_law_437 : decode cL_law 437 = .ok (.aload_n 2, 1) := zd_dec hw6 (q := 53) rfl (by decide +kernel)
theorem dL_law_438 : decode cL_law 438 = .ok (.invokevirtual 281, 3) := zd_dec hw6 (q := 54) rfl (by decide +kernel)
theorem dL_law_441 : decode cL_law 441 = .ok (.iload 5, 2) := zd_dec hw6 (q := 57) rfl (by decide +kernel)
theorem dL_law_443 : decode cL_law 443 = .ok (.if_icmp .eq 5, 3) := zd_dec hw6 (q := 59) rfl (by decide +kernel)
theorem dL_law_448 : decode cL_law 448 = .ok (.iload 5, 2) := zd_dec hw7 (q := 0) rfl (by decide +kernel)
theorem dL_law_450 : decode cL_law 450 = .ok (.ifCond .ne 15, 3) := zd_dec hw7 (q := 2) rfl (by decide +kernel)
theorem dL_law_465 : decode cL_law 465 = .ok (.goto 5537, 3) := zd_dec hw7 (q := 17) rfl (by decide +kernel)
theorem dL_law_453 : decode cL_law 453 = .ok (.aload_n 3, 1) := zd_dec hw7 (q := 5) rfl (by decide +kernel)
theorem dL_law_454 : decode cL_law 454 = .ok (.iconst 0, 1) := zd_dec hw7 (q := 6) rfl (by decide +kernel)
theorem dL_law_455 : decode cL_law 455 = .ok (.laload, 1) := zd_dec hw7 (q := 7) rfl (by decide +kernel)
theorem dL_law_456 : decode cL_law 456 = .ok (.iload 6, 2) := zd_dec hw7 (q := 8) rfl (by decide +kernel)
theorem dL_law_458 : decode cL_law 458 = .ok (.i2l, 1) := zd_dec hw7 (q := 10) rfl (by decide +kernel)
theorem dL_law_459 : decode cL_law 459 = .ok (.lcmp, 1) := zd_dec hw7 (q := 11) rfl (by decide +kernel)
theorem dL_law_460 : decode cL_law 460 = .ok (.ifCond .eq 5, 3) := zd_dec hw7 (q := 12) rfl (by decide +kernel)
theorem dL_law_463 : decode cL_law 463 = .ok (.iconst 0, 1) := zd_dec hw7 (q := 15) rfl (by decide +kernel)
theorem dL_law_464 : decode cL_law 464 = .ok (.ireturn, 1) := zd_dec hw7 (q := 16) rfl (by decide +kernel)
theorem dL_law_446 : decode cL_law 446 = .ok (.iconst 0, 1) := zd_dec hw6 (q := 62) rfl (by decide +kernel)
theorem dL_law_447 : decode cL_law 447 = .ok (.ireturn, 1) := zd_dec hw6 (q := 63) rfl (by decide +kernel)
theorem dL_law_468 : decode cL_law 468 = .ok (.aload_n 1, 1) := zd_dec hw7 (q := 20) rfl (by decide +kernel)
theorem dL_law_469 : decode cL_law 469 = .ok (.aload_n 0, 1) := zd_dec hw7 (q := 21) rfl (by decide +kernel)
theorem dL_law_470 : decode cL_law 470 = .ok (.iload 4, 2) := zd_dec hw7 (q := 22) rfl (by decide +kernel)
theorem dL_law_472 : decode cL_law 472 = .ok (.iconst 1, 1) := zd_dec hw7 (q := 24) rfl (by decide +kernel)
theorem dL_law_473 : decode cL_law 473 = .ok (.iadd, 1) := zd_dec hw7 (q := 25) rfl (by decide +kernel)
theorem dL_law_474 : decode cL_law 474 = .ok (.iaload, 1) := zd_dec hw7 (q := 26) rfl (by decide +kernel)
theorem dL_law_475 : decode cL_law 475 = .ok (.aload_n 0, 1) := zd_dec hw7 (q := 27) rfl (by decide +kernel)
theorem dL_law_476 : decode cL_law 476 = .ok (.iload 4, 2) := zd_dec hw7 (q := 28) rfl (by decide +kernel)
theorem dL_law_478 : decode cL_law 478 = .ok (.iconst 2, 1) := zd_dec hw7 (q := 30) rfl (by decide +kernel)
theorem dL_law_479 : decode cL_law 479 = .ok (.iadd, 1) := zd_dec hw7 (q := 31) rfl (by decide +kernel)
theorem dL_law_480 : decode cL_law 480 = .ok (.iaload, 1) := zd_dec hw7 (q := 32) rfl (by decide +kernel)
theorem dL_law_481 : decode cL_law 481 = .ok (.aload_n 0, 1) := zd_dec hw7 (q := 33) rfl (by decide +kernel)
theorem dL_law_482 : decode cL_law 482 = .ok (.iload 4, 2) := zd_dec hw7 (q := 34) rfl (by decide +kernel)
theorem dL_law_484 : decode cL_law 484 = .ok (.iconst 3, 1) := zd_dec hw7 (q := 36) rfl (by decide +kernel)
theorem dL_law_485 : decode cL_law 485 = .ok (.iadd, 1) := zd_dec hw7 (q := 37) rfl (by decide +kernel)
theorem dL_law_486 : decode cL_law 486 = .ok (.iaload, 1) := zd_dec hw7 (q := 38) rfl (by decide +kernel)
theorem dL_law_487 : decode cL_law 487 = .ok (.aload_n 3, 1) := zd_dec hw7 (q := 39) rfl (by decide +kernel)
theorem dL_law_488 : decode cL_law 488 = .ok (.invokestatic 284, 3) := zd_dec hw7 (q := 40) rfl (by decide +kernel)
theorem dL_law_491 : decode cL_law 491 = .ok (.istore 5, 2) := zd_dec hw7 (q := 43) rfl (by decide +kernel)
theorem dL_law_493 : decode cL_law 493 = .ok (.aload_n 2, 1) := zd_dec hw7 (q := 45) rfl (by decide +kernel)
theorem dL_law_494 : decode cL_law 494 = .ok (.aload_n 0, 1) := zd_dec hw7 (q := 46) rfl (by decide +kernel)
theorem dL_law_495 : decode cL_law 495 = .ok (.iload 4, 2) := zd_dec hw7 (q := 47) rfl (by decide +kernel)
theorem dL_law_497 : decode cL_law 497 = .ok (.iconst 1, 1) := zd_dec hw7 (q := 49) rfl (by decide +kernel)
theorem dL_law_498 : decode cL_law 498 = .ok (.iadd, 1) := zd_dec hw7 (q := 50) rfl (by decide +kernel)
theorem dL_law_499 : decode cL_law 499 = .ok (.iaload, 1) := zd_dec hw7 (q := 51) rfl (by decide +kernel)
theorem dL_law_500 : decode cL_law 500 = .ok (.aload_n 0, 1) := zd_dec hw7 (q := 52) rfl (by decide +kernel)
theorem dL_law_501 : decode cL_law 501 = .ok (.iload 4, 2) := zd_dec hw7 (q := 53) rfl (by decide +kernel)
theorem dL_law_503 : decode cL_law 503 = .ok (.iconst 2, 1) := zd_dec hw7 (q := 55) rfl (by decide +kernel)
theorem dL_law_504 : decode cL_law 504 = .ok (.iadd, 1) := zd_dec hw7 (q := 56) rfl (by decide +kernel)
theorem dL_law_505 : decode cL_law 505 = .ok (.iaload, 1) := zd_dec hw7 (q := 57) rfl (by decide +kernel)
theorem dL_law_506 : decode cL_law 506 = .ok (.aload_n 0, 1) := zd_dec hw7 (q := 58) rfl (by decide +kernel)
theorem dL_law_507 : decode cL_law 507 = .ok (.iload 4, 2) := zd_dec hw7 (q := 59) rfl (by decide +kernel)
theorem dL_law_509 : decode cL_law 509 = .ok (.iconst 3, 1) := zd_dec hw7 (q := 61) rfl (by decide +kernel)
theorem dL_law_510 : decode cL_law 510 = .ok (.iadd, 1) := zd_dec hw7 (q := 62) rfl (by decide +kernel)
theorem dL_law_511 : decode cL_law 511 = .ok (.iaload, 1) := zd_dec hw7 (q := 63) rfl (by decide +kernel)
theorem dL_law_512 : decode cL_law 512 = .ok (.invokevirtual 287, 3) := zd_dec hw8 (q := 0) rfl (by decide +kernel)
theorem dL_law_515 : decode cL_law 515 = .ok (.istore 6, 2) := zd_dec hw8 (q := 3) rfl (by decide +kernel)
theorem dL_law_517 : decode cL_law 517 = .ok (.aload_n 2, 1) := zd_dec hw8 (q := 5) rfl (by decide +kernel)
theorem dL_law_518 : decode cL_law 518 = .ok (.invokevirtual 281, 3) := zd_dec hw8 (q := 6) rfl (by decide +kernel)
theorem dL_law_521 : decode cL_law 521 = .ok (.iload 5, 2) := zd_dec hw8 (q := 9) rfl (by decide +kernel)
theorem dL_law_523 : decode cL_law 523 = .ok (.if_icmp .eq 5, 3) := zd_dec hw8 (q := 11) rfl (by decide +kernel)
theorem dL_law_528 : decode cL_law 528 = .ok (.iload 5, 2) := zd_dec hw8 (q := 16) rfl (by decide +kernel)
theorem dL_law_530 : decode cL_law 530 = .ok (.ifCond .ne 22, 3) := zd_dec hw8 (q := 18) rfl (by decide +kernel)
theorem dL_law_552 : decode cL_law 552 = .ok (.goto 5450, 3) := zd_dec hw8 (q := 40) rfl (by decide +kernel)
theorem dL_law_533 : decode cL_law 533 = .ok (.aload_n 3, 1) := zd_dec hw8 (q := 21) rfl (by decide +kernel)
theorem dL_law_534 : decode cL_law 534 = .ok (.iconst 0, 1) := zd_dec hw8 (q := 22) rfl (by decide +kernel)
theorem dL_law_535 : decode cL_law 535 = .ok (.laload, 1) := zd_dec hw8 (q := 23) rfl (by decide +kernel)
theorem dL_law_536 : decode cL_law 536 = .ok (.iload 6, 2) := zd_dec hw8 (q := 24) rfl (by decide +kernel)
theorem dL_law_538 : decode cL_law 538 = .ok (.ifCond .eq 7, 3) := zd_dec hw8 (q := 26) rfl (by decide +kernel)
theorem dL_law_545 : decode cL_law 545 = .ok (.lconst 0, 1) := zd_dec hw8 (q := 33) rfl (by decide +kernel)
theorem dL_law_546 : decode cL_law 546 = .ok (.lcmp, 1) := zd_dec hw8 (q := 34) rfl (by decide +kernel)
theorem dL_law_547 : decode cL_law 547 = .ok (.ifCond .eq 5, 3) := zd_dec hw8 (q := 35) rfl (by decide +kernel)
theorem dL_law_550 : decode cL_law 550 = .ok (.iconst 0, 1) := zd_dec hw8 (q := 38) rfl (by decide +kernel)
theorem dL_law_551 : decode cL_law 551 = .ok (.ireturn, 1) := zd_dec hw8 (q := 39) rfl (by decide +kernel)
theorem dL_law_541 : decode cL_law 541 = .ok (.lconst 1, 1) := zd_dec hw8 (q := 29) rfl (by decide +kernel)
theorem dL_law_542 : decode cL_law 542 = .ok (.goto 4, 3) := zd_dec hw8 (q := 30) rfl (by decide +kernel)
theorem dL_law_526 : decode cL_law 526 = .ok (.iconst 0, 1) := zd_dec hw8 (q := 14) rfl (by decide +kernel)
theorem dL_law_527 : decode cL_law 527 = .ok (.ireturn, 1) := zd_dec hw8 (q := 15) rfl (by decide +kernel)
theorem dL_law_555 : decode cL_law 555 = .ok (.aload_n 1, 1) := zd_dec hw8 (q := 43) rfl (by decide +kernel)
theorem dL_law_556 : decode cL_law 556 = .ok (.aload_n 0, 1) := zd_dec hw8 (q := 44) rfl (by decide +kernel)
theorem dL_law_557 : decode cL_law 557 = .ok (.iload 4, 2) := zd_dec hw8 (q := 45) rfl (by decide +kernel)
theorem dL_law_559 : decode cL_law 559 = .ok (.iconst 1, 1) := zd_dec hw8 (q := 47) rfl (by decide +kernel)
theorem dL_law_560 : decode cL_law 560 = .ok (.iadd, 1) := zd_dec hw8 (q := 48) rfl (by decide +kernel)
theorem dL_law_561 : decode cL_law 561 = .ok (.iaload, 1) := zd_dec hw8 (q := 49) rfl (by decide +kernel)
theorem dL_law_562 : decode cL_law 562 = .ok (.aload_n 0, 1) := zd_dec hw8 (q := 50) rfl (by decide +kernel)
theorem dL_law_563 : decode cL_law 563 = .ok (.iload 4, 2) := zd_dec hw8 (q := 51) rfl (by decide +kernel)
theorem dL_law_565 : decode cL_law 565 = .ok (.iconst 2, 1) := zd_dec hw8 (q := 53) rfl (by decide +kernel)
theorem dL_law_566 : decode cL_law 566 = .ok (.iadd, 1) := zd_dec hw8 (q := 54) rfl (by decide +kernel)
theorem dL_law_567 : decode cL_law 567 = .ok (.iaload, 1) := zd_dec hw8 (q := 55) rfl (by decide +kernel)
theorem dL_law_568 : decode cL_law 568 = .ok (.aload_n 0, 1) := zd_dec hw8 (q := 56) rfl (by decide +kernel)
theorem dL_law_569 : decode cL_law 569 = .ok (.iload 4, 2) := zd_dec hw8 (q := 57) rfl (by decide +kernel)
theorem dL_law_571 : decode cL_law 571 = .ok (.iconst 3, 1) := zd_dec hw8 (q := 59) rfl (by decide +kernel)
theorem dL_law_572 : decode cL_law 572 = .ok (.iadd, 1) := zd_dec hw8 (q := 60) rfl (by decide +kernel)
theorem dL_law_573 : decode cL_law 573 = .ok (.iaload, 1) := zd_dec hw8 (q := 61) rfl (by decide +kernel)
theorem dL_law_574 : decode cL_law 574 = .ok (.aload_n 0, 1) := zd_dec hw8 (q := 62) rfl (by decide +kernel)
theorem dL_law_575 : decode cL_law 575 = .ok (.iload 4, 2) := zd_dec hw8 (q := 63) rfl (by decide +kernel)
theorem dL_law_577 : decode cL_law 577 = .ok (.iconst 4, 1) := zd_dec hw9 (q := 1) rfl (by decide +kernel)
theorem dL_law_578 : decode cL_law 578 = .ok (.iadd, 1) := zd_dec hw9 (q := 2) rfl (by decide +kernel)
theorem dL_law_579 : decode cL_law 579 = .ok (.iaload, 1) := zd_dec hw9 (q := 3) rfl (by decide +kernel)
theorem dL_law_580 : decode cL_law 580 = .ok (.aload_n 3, 1) := zd_dec hw9 (q := 4) rfl (by decide +kernel)
theorem dL_law_581 : decode cL_law 581 = .ok (.invokestatic 288, 3) := zd_dec hw9 (q := 5) rfl (by decide +kernel)
theorem dL_law_584 : decode cL_law 584 = .ok (.istore 5, 2) := zd_dec hw9 (q := 8) rfl (by decide +kernel)
theorem dL_law_586 : decode cL_law 586 = .ok (.aload_n 2, 1) := zd_dec hw9 (q := 10) rfl (by decide +kernel)
theorem dL_law_587 : decode cL_law 587 = .ok (.aload_n 0, 1) := zd_dec hw9 (q := 11) rfl (by decide +kernel)
theorem dL_law_588 : decode cL_law 588 = .ok (.iload 4, 2) := zd_dec hw9 (q := 12) rfl (by decide +kernel)
theorem dL_law_590 : decode cL_law 590 = .ok (.iconst 1, 1) := zd_dec hw9 (q := 14) rfl (by decide +kernel)
theorem dL_law_591 : decode cL_law 591 = .ok (.iadd, 1) := zd_dec hw9 (q := 15) rfl (by decide +kernel)
theorem dL_law_592 : decode cL_law 592 = .ok (.iaload, 1) := zd_dec hw9 (q := 16) rfl (by decide +kernel)
theorem dL_law_593 : decode cL_law 593 = .ok (.aload_n 0, 1) := zd_dec hw9 (q := 17) rfl (by decide +kernel)
theorem dL_law_594 : decode cL_law 594 = .ok (.iload 4, 2) := zd_dec hw9 (q := 18) rfl (by decide +kernel)
theorem dL_law_596 : decode cL_law 596 = .ok (.iconst 2, 1) := zd_dec hw9 (q := 20) rfl (by decide +kernel)
theorem dL_law_597 : decode cL_law 597 = .ok (.iadd, 1) := zd_dec hw9 (q := 21) rfl (by decide +kernel)
theorem dL_law_598 : decode cL_law 598 = .ok (.iaload, 1) := zd_dec hw9 (q := 22) rfl (by decide +kernel)
theorem dL_law_599 : decode cL_law 599 = .ok (.aload_n 0, 1) := zd_dec hw9 (q := 23) rfl (by decide +kernel)
theorem dL_law_600 : decode cL_law 600 = .ok (.iload 4, 2) := zd_dec hw9 (q := 24) rfl (by decide +kernel)
theorem dL_law_602 : decode cL_law 602 = .ok (.iconst 3, 1) := zd_dec hw9 (q := 26) rfl (by decide +kernel)
theorem dL_law_603 : decode cL_law 603 = .ok (.iadd, 1) := zd_dec hw9 (q := 27) rfl (by decide +kernel)
theorem dL_law_604 : decode cL_law 604 = .ok (.iaload, 1) := zd_dec hw9 (q := 28) rfl (by decide +kernel)
theorem dL_law_605 : decode cL_law 605 = .ok (.aload_n 0, 1) := zd_dec hw9 (q := 29) rfl (by decide +kernel)
theorem dL_law_606 : decode cL_law 606 = .ok (.iload 4, 2) := zd_dec hw9 (q := 30) rfl (by decide +kernel)
theorem dL_law_608 : decode cL_law 608 = .ok (.iconst 4, 1) := zd_dec hw9 (q := 32) rfl (by decide +kernel)
theorem dL_law_609 : decode cL_law 609 = .ok (.iadd, 1) := zd_dec hw9 (q := 33) rfl (by decide +kernel)
theorem dL_law_610 : decode cL_law 610 = .ok (.iaload, 1) := zd_dec hw9 (q := 34) rfl (by decide +kernel)
theorem dL_law_611 : decode cL_law 611 = .ok (.invokevirtual 290, 3) := zd_dec hw9 (q := 35) rfl (by decide +kernel)
theorem dL_law_614 : decode cL_law 614 = .ok (.istore 6, 2) := zd_dec hw9 (q := 38) rfl (by decide +kernel)
theorem dL_law_616 : decode cL_law 616 = .ok (.aload_n 2, 1) := zd_dec hw9 (q := 40) rfl (by decide +kernel)
theorem dL_law_617 : decode cL_law 617 = .ok (.invokevirtual 281, 3) := zd_dec hw9 (q := 41) rfl (by decide +kernel)
theorem dL_law_620 : decode cL_law 620 = .ok (.iload 5, 2) := zd_dec hw9 (q := 44) rfl (by decide +kernel)
theorem dL_law_622 : decode cL_law 622 = .ok (.if_icmp .eq 5, 3) := zd_dec hw9 (q := 46) rfl (by decide +kernel)
theorem dL_law_627 : decode cL_law 627 = .ok (.iload 5, 2) := zd_dec hw9 (q := 51) rfl (by decide +kernel)
theorem dL_law_629 : decode cL_law 629 = .ok (.ifCond .ne 15, 3) := zd_dec hw9 (q := 53) rfl (by decide +kernel)
theorem dL_law_644 : decode cL_law 644 = .ok (.goto 5358, 3) := zd_dec hw10 (q := 4) rfl (by decide +kernel)
theorem dL_law_632 : decode cL_law 632 = .ok (.aload_n 3, 1) := zd_dec hw9 (q := 56) rfl (by decide +kernel)
theorem dL_law_633 : decode cL_law 633 = .ok (.iconst 0, 1) := zd_dec hw9 (q := 57) rfl (by decide +kernel)
theorem dL_law_634 : decode cL_law 634 = .ok (.laload, 1) := zd_dec hw9 (q := 58) rfl (by decide +kernel)
theorem dL_law_635 : decode cL_law 635 = .ok (.iload 6, 2) := zd_dec hw9 (q := 59) rfl (by decide +kernel)
theorem dL_law_637 : decode cL_law 637 = .ok (.i2l, 1) := zd_dec hw9 (q := 61) rfl (by decide +kernel)
theorem dL_law_638 : decode cL_law 638 = .ok (.lcmp, 1) := zd_dec hw9 (q := 62) rfl (by decide +kernel)
theorem dL_law_639 : decode cL_law 639 = .ok (.ifCond .eq 5, 3) := zd_dec hw9 (q := 63) rfl (by decide +kernel)
theorem dL_law_642 : decode cL_law 642 = .ok (.iconst 0, 1) := zd_dec hw10 (q := 2) rfl (by decide +kernel)
theorem dL_law_643 : decode cL_law 643 = .ok (.ireturn, 1) := zd_dec hw10 (q := 3) rfl (by decide +kernel)
theorem dL_law_625 : decode cL_law 625 = .ok (.iconst 0, 1) := zd_dec hw9 (q := 49) rfl (by decide +kernel)
theorem dL_law_626 : decode cL_law 626 = .ok (.ireturn, 1) := zd_dec hw9 (q := 50) rfl (by decide +kernel)
theorem dL_law_647 : decode cL_law 647 = .ok (.aload_n 1, 1) := zd_dec hw10 (q := 7) rfl (by decide +kernel)
theorem dL_law_648 : decode cL_law 648 = .ok (.aload_n 3, 1) := zd_dec hw10 (q := 8) rfl (by decide +kernel)
theorem dL_law_649 : decode cL_law 649 = .ok (.invokestatic 291, 3) := zd_dec hw10 (q := 9) rfl (by decide +kernel)
theorem dL_law_652 : decode cL_law 652 = .ok (.istore 5, 2) := zd_dec hw10 (q := 12) rfl (by decide +kernel)
theorem dL_law_654 : decode cL_law 654 = .ok (.aload_n 2, 1) := zd_dec hw10 (q := 14) rfl (by decide +kernel)
theorem dL_law_655 : decode cL_law 655 = .ok (.invokevirtual 294, 3) := zd_dec hw10 (q := 15) rfl (by decide +kernel)
theorem dL_law_658 : decode cL_law 658 = .ok (.istore 6, 2) := zd_dec hw10 (q := 18) rfl (by decide +kernel)
theorem dL_law_660 : decode cL_law 660 = .ok (.aload_n 2, 1) := zd_dec hw10 (q := 20) rfl (by decide +kernel)
theorem dL_law_661 : decode cL_law 661 = .ok (.invokevirtual 281, 3) := zd_dec hw10 (q := 21) rfl (by decide +kernel)
theorem dL_law_664 : decode cL_law 664 = .ok (.iload 5, 2) := zd_dec hw10 (q := 24) rfl (by decide +kernel)
theorem dL_law_666 : decode cL_law 666 = .ok (.if_icmp .eq 5, 3) := zd_dec hw10 (q := 26) rfl (by decide +kernel)
theorem dL_law_671 : decode cL_law 671 = .ok (.iload 5, 2) := zd_dec hw10 (q := 31) rfl (by decide +kernel)
theorem dL_law_673 : decode cL_law 673 = .ok (.ifCond .ne 15, 3) := zd_dec hw10 (q := 33) rfl (by decide +kernel)
theorem dL_law_688 : decode cL_law 688 = .ok (.goto 5314, 3) := zd_dec hw10 (q := 48) rfl (by decide +kernel)
theorem dL_law_676 : decode cL_law 676 = .ok (.aload_n 3, 1) := zd_dec hw10 (q := 36) rfl (by decide +kernel)
theorem dL_law_677 : decode cL_law 677 = .ok (.iconst 0, 1) := zd_dec hw10 (q := 37) rfl (by decide +kernel)
theorem dL_law_678 : decode cL_law 678 = .ok (.laload, 1) := zd_dec hw10 (q := 38) rfl (by decide +kernel)
theorem dL_law_679 : decode cL_law 679 = .ok (.iload 6, 2) := zd_dec hw10 (q := 39) rfl (by decide +kernel)
theorem dL_law_681 : decode cL_law 681 = .ok (.i2l, 1) := zd_dec hw10 (q := 41) rfl (by decide +kernel)
theorem dL_law_682 : decode cL_law 682 = .ok (.lcmp, 1) := zd_dec hw10 (q := 42) rfl (by decide +kernel)
theorem dL_law_683 : decode cL_law 683 = .ok (.ifCond .eq 5, 3) := zd_dec hw10 (q := 43) rfl (by decide +kernel)
theorem dL_law_686 : decode cL_law 686 = .ok (.iconst 0, 1) := zd_dec hw10 (q := 46) rfl (by decide +kernel)
theorem dL_law_687 : decode cL_law 687 = .ok (.ireturn, 1) := zd_dec hw10 (q := 47) rfl (by decide +kernel)
theorem dL_law_669 : decode cL_law 669 = .ok (.iconst 0, 1) := zd_dec hw10 (q := 29) rfl (by decide +kernel)
theorem dL_law_670 : decode cL_law 670 = .ok (.ireturn, 1) := zd_dec hw10 (q := 30) rfl (by decide +kernel)
theorem dL_law_691 : decode cL_law 691 = .ok (.aload_n 1, 1) := zd_dec hw10 (q := 51) rfl (by decide +kernel)
theorem dL_law_692 : decode cL_law 692 = .ok (.aload_n 0, 1) := zd_dec hw10 (q := 52) rfl (by decide +kernel)
theorem dL_law_693 : decode cL_law 693 = .ok (.iload 4, 2) := zd_dec hw10 (q := 53) rfl (by decide +kernel)
theorem dL_law_695 : decode cL_law 695 = .ok (.iconst 1, 1) := zd_dec hw10 (q := 55) rfl (by decide +kernel)
theorem dL_law_696 : decode cL_law 696 = .ok (.iadd, 1) := zd_dec hw10 (q := 56) rfl (by decide +kernel)
theorem dL_law_697 : decode cL_law 697 = .ok (.iaload, 1) := zd_dec hw10 (q := 57) rfl (by decide +kernel)
theorem dL_law_698 : decode cL_law 698 = .ok (.aload_n 3, 1) := zd_dec hw10 (q := 58) rfl (by decide +kernel)
theorem dL_law_699 : decode cL_law 699 = .ok (.invokestatic 295, 3) := zd_dec hw10 (q := 59) rfl (by decide +kernel)
theorem dL_law_702 : decode cL_law 702 = .ok (.istore 5, 2) := zd_dec hw10 (q := 62) rfl (by decide +kernel)
theorem dL_law_704 : decode cL_law 704 = .ok (.aload_n 2, 1) := zd_dec hw11 (q := 0) rfl (by decide +kernel)
theorem dL_law_705 : decode cL_law 705 = .ok (.aload_n 0, 1) := zd_dec hw11 (q := 1) rfl (by decide +kernel)
theorem dL_law_706 : decode cL_law 706 = .ok (.iload 4, 2) := zd_dec hw11 (q := 2) rfl (by decide +kernel)
theorem dL_law_708 : decode cL_law 708 = .ok (.iconst 1, 1) := zd_dec hw11 (q := 4) rfl (by decide +kernel)
theorem dL_law_709 : decode cL_law 709 = .ok (.iadd, 1) := zd_dec hw11 (q := 5) rfl (by decide +kernel)
theorem dL_law_710 : decode cL_law 710 = .ok (.iaload, 1) := zd_dec hw11 (q := 6) rfl (by decide +kernel)
theorem dL_law_711 : decode cL_law 711 = .ok (.invokevirtual 298, 3) := zd_dec hw11 (q := 7) rfl (by decide +kernel)
theorem dL_law_714 : decode cL_law 714 = .ok (.istore 6, 2) := zd_dec hw11 (q := 10) rfl (by decide +kernel)
theorem dL_law_716 : decode cL_law 716 = .ok (.aload_n 2, 1) := zd_dec hw11 (q := 12) rfl (by decide +kernel)
theorem dL_law_717 : decode cL_law 717 = .ok (.invokevirtual 281, 3) := zd_dec hw11 (q := 13) rfl (by decide +kernel)
theorem dL_law_720 : decode cL_law 720 = .ok (.iload 5, 2) := zd_dec hw11 (q := 16) rfl (by decide +kernel)
theorem dL_law_722 : decode cL_law 722 = .ok (.if_icmp .eq 5, 3) := zd_dec hw11 (q := 18) rfl (by decide +kernel)
theorem dL_law_727 : decode cL_law 727 = .ok (.iload 5, 2) := zd_dec hw11 (q := 23) rfl (by decide +kernel)
theorem dL_law_729 : decode cL_law 729 = .ok (.ifCond .ne 15, 3) := zd_dec hw11 (q := 25) rfl (by decide +kernel)
theorem dL_law_744 : decode cL_law 744 = .ok (.goto 5258, 3) := zd_dec hw11 (q := 40) rfl (by decide +kernel)
theorem dL_law_732 : decode cL_law 732 = .ok (.aload_n 3, 1) := zd_dec hw11 (q := 28) rfl (by decide +kernel)
theorem dL_law_733 : decode cL_law 733 = .ok (.iconst 0, 1) := zd_dec hw11 (q := 29) rfl (by decide +kernel)
theorem dL_law_734 : decode cL_law 734 = .ok (.laload, 1) := zd_dec hw11 (q := 30) rfl (by decide +kernel)
theorem dL_law_735 : decode cL_law 735 = .ok (.iload 6, 2) := zd_dec hw11 (q := 31) rfl (by decide +kernel)
theorem dL_law_737 : decode cL_law 737 = .ok (.i2l, 1) := zd_dec hw11 (q := 33) rfl (by decide +kernel)
theorem dL_law_738 : decode cL_law 738 = .ok (.lcmp, 1) := zd_dec hw11 (q := 34) rfl (by decide +kernel)
theorem dL_law_739 : decode cL_law 739 = .ok (.ifCond .eq 5, 3) := zd_dec hw11 (q := 35) rfl (by decide +kernel)
theorem dL_law_742 : decode cL_law 742 = .ok (.iconst 0, 1) := zd_dec hw11 (q := 38) rfl (by decide +kernel)
theorem dL_law_743 : decode cL_law 743 = .ok (.ireturn, 1) := zd_dec hw11 (q := 39) rfl (by decide +kernel)
theorem dL_law_725 : decode cL_law 725 = .ok (.iconst 0, 1) := zd_dec hw11 (q := 21) rfl (by decide +kernel)
theorem dL_law_726 : decode cL_law 726 = .ok (.ireturn, 1) := zd_dec hw11 (q := 22) rfl (by decide +kernel)
theorem dL_law_747 : decode cL_law 747 = .ok (.aload_n 1, 1) := zd_dec hw11 (q := 43) rfl (by decide +kernel)
theorem dL_law_748 : decode cL_law 748 = .ok (.aload_n 0, 1) := zd_dec hw11 (q := 44) rfl (by decide +kernel)
theorem dL_law_749 : decode cL_law 749 = .ok (.iload 4, 2) := zd_dec hw11 (q := 45) rfl (by decide +kernel)
theorem dL_law_751 : decode cL_law 751 = .ok (.iconst 1, 1) := zd_dec hw11 (q := 47) rfl (by decide +kernel)
theorem dL_law_752 : decode cL_law 752 = .ok (.iadd, 1) := zd_dec hw11 (q := 48) rfl (by decide +kernel)
theorem dL_law_753 : decode cL_law 753 = .ok (.iaload, 1) := zd_dec hw11 (q := 49) rfl (by decide +kernel)
theorem dL_law_754 : decode cL_law 754 = .ok (.aload_n 0, 1) := zd_dec hw11 (q := 50) rfl (by decide +kernel)
theorem dL_law_755 : decode cL_law 755 = .ok (.iload 4, 2) := zd_dec hw11 (q := 51) rfl (by decide +kernel)
theorem dL_law_757 : decode cL_law 757 = .ok (.iconst 2, 1) := zd_dec hw11 (q := 53) rfl (by decide +kernel)
theorem dL_law_758 : decode cL_law 758 = .ok (.iadd, 1) := zd_dec hw11 (q := 54) rfl (by decide +kernel)
theorem dL_law_759 : decode cL_law 759 = .ok (.iaload, 1) := zd_dec hw11 (q := 55) rfl (by decide +kernel)
theorem dL_law_760 : decode cL_law 760 = .ok (.aload_n 3, 1) := zd_dec hw11 (q := 56) rfl (by decide +kernel)
theorem dL_law_761 : decode cL_law 761 = .ok (.invokestatic 299, 3) := zd_dec hw11 (q := 57) rfl (by decide +kernel)
theorem dL_law_764 : decode cL_law 764 = .ok (.istore 5, 2) := zd_dec hw11 (q := 60) rfl (by decide +kernel)
theorem dL_law_766 : decode cL_law 766 = .ok (.aload_n 2, 1) := zd_dec hw11 (q := 62) rfl (by decide +kernel)
theorem dL_law_767 : decode cL_law 767 = .ok (.aload_n 0, 1) := zd_dec hw11 (q := 63) rfl (by decide +kernel)
theorem dL_law_768 : decode cL_law 768 = .ok (.iload 4, 2) := zd_dec hw12 (q := 0) rfl (by decide +kernel)
theorem dL_law_770 : decode cL_law 770 = .ok (.iconst 1, 1) := zd_dec hw12 (q := 2) rfl (by decide +kernel)
theorem dL_law_771 : decode cL_law 771 = .ok (.iadd, 1) := zd_dec hw12 (q := 3) rfl (by decide +kernel)
theorem dL_law_772 : decode cL_law 772 = .ok (.iaload, 1) := zd_dec hw12 (q := 4) rfl (by decide +kernel)
theorem dL_law_773 : decode cL_law 773 = .ok (.aload_n 0, 1) := zd_dec hw12 (q := 5) rfl (by decide +kernel)
theorem dL_law_774 : decode cL_law 774 = .ok (.iload 4, 2) := zd_dec hw12 (q := 6) rfl (by decide +kernel)
theorem dL_law_776 : decode cL_law 776 = .ok (.iconst 2, 1) := zd_dec hw12 (q := 8) rfl (by decide +kernel)
theorem dL_law_777 : decode cL_law 777 = .ok (.iadd, 1) := zd_dec hw12 (q := 9) rfl (by decide +kernel)
theorem dL_law_778 : decode cL_law 778 = .ok (.iaload, 1) := zd_dec hw12 (q := 10) rfl (by decide +kernel)
theorem dL_law_779 : decode cL_law 779 = .ok (.invokevirtual 302, 3) := zd_dec hw12 (q := 11) rfl (by decide +kernel)
theorem dL_law_782 : decode cL_law 782 = .ok (.istore 6, 2) := zd_dec hw12 (q := 14) rfl (by decide +kernel)
theorem dL_law_784 : decode cL_law 784 = .ok (.aload_n 2, 1) := zd_dec hw12 (q := 16) rfl (by decide +kernel)
theorem dL_law_785 : decode cL_law 785 = .ok (.invokevirtual 281, 3) := zd_dec hw12 (q := 17) rfl (by decide +kernel)
theorem dL_law_788 : decode cL_law 788 = .ok (.iload 5, 2) := zd_dec hw12 (q := 20) rfl (by decide +kernel)
theorem dL_law_790 : decode cL_law 790 = .ok (.if_icmp .eq 5, 3) := zd_dec hw12 (q := 22) rfl (by decide +kernel)
theorem dL_law_795 : decode cL_law 795 = .ok (.iload 5, 2) := zd_dec hw12 (q := 27) rfl (by decide +kernel)
theorem dL_law_797 : decode cL_law 797 = .ok (.ifCond .ne 15, 3) := zd_dec hw12 (q := 29) rfl (by decide +kernel)
theorem dL_law_812 : decode cL_law 812 = .ok (.goto 5190, 3) := zd_dec hw12 (q := 44) rfl (by decide +kernel)
theorem dL_law_800 : decode cL_law 800 = .ok (.aload_n 3, 1) := zd_dec hw12 (q := 32) rfl (by decide +kernel)
theorem dL_law_801 : decode cL_law 801 = .ok (.iconst 0, 1) := zd_dec hw12 (q := 33) rfl (by decide +kernel)
theorem dL_law_802 : decode cL_law 802 = .ok (.laload, 1) := zd_dec hw12 (q := 34) rfl (by decide +kernel)
theorem dL_law_803 : decode cL_law 803 = .ok (.iload 6, 2) := zd_dec hw12 (q := 35) rfl (by decide +kernel)
theorem dL_law_805 : decode cL_law 805 = .ok (.i2l, 1) := zd_dec hw12 (q := 37) rfl (by decide +kernel)
theorem dL_law_806 : decode cL_law 806 = .ok (.lcmp, 1) := zd_dec hw12 (q := 38) rfl (by decide +kernel)
theorem dL_law_807 : decode cL_law 807 = .ok (.ifCond .eq 5, 3) := zd_dec hw12 (q := 39) rfl (by decide +kernel)
theorem dL_law_810 : decode cL_law 810 = .ok (.iconst 0, 1) := zd_dec hw12 (q := 42) rfl (by decide +kernel)
theorem dL_law_811 : decode cL_law 811 = .ok (.ireturn, 1) := zd_dec hw12 (q := 43) rfl (by decide +kernel)
theorem dL_law_793 : decode cL_law 793 = .ok (.iconst 0, 1) := zd_dec hw12 (q := 25) rfl (by decide +kernel)
theorem dL_law_794 : decode cL_law 794 = .ok (.ireturn, 1) := zd_dec hw12 (q := 26) rfl (by decide +kernel)
theorem dL_law_815 : decode cL_law 815 = .ok (.aload_n 1, 1) := zd_dec hw12 (q := 47) rfl (by decide +kernel)
theorem dL_law_816 : decode cL_law 816 = .ok (.aload_n 0, 1) := zd_dec hw12 (q := 48) rfl (by decide +kernel)
theorem dL_law_817 : decode cL_law 817 = .ok (.iload 4, 2) := zd_dec hw12 (q := 49) rfl (by decide +kernel)
theorem dL_law_819 : decode cL_law 819 = .ok (.iconst 1, 1) := zd_dec hw12 (q := 51) rfl (by decide +kernel)
theorem dL_law_820 : decode cL_law 820 = .ok (.iadd, 1) := zd_dec hw12 (q := 52) rfl (by decide +kernel)
theorem dL_law_821 : decode cL_law 821 = .ok (.iaload, 1) := zd_dec hw12 (q := 53) rfl (by decide +kernel)
theorem dL_law_822 : decode cL_law 822 = .ok (.aload_n 0, 1) := zd_dec hw12 (q := 54) rfl (by decide +kernel)
theorem dL_law_823 : decode cL_law 823 = .ok (.iload 4, 2) := zd_dec hw12 (q := 55) rfl (by decide +kernel)
theorem dL_law_825 : decode cL_law 825 = .ok (.iconst 2, 1) := zd_dec hw12 (q := 57) rfl (by decide +kernel)
theorem dL_law_826 : decode cL_law 826 = .ok (.iadd, 1) := zd_dec hw12 (q := 58) rfl (by decide +kernel)
theorem dL_law_827 : decode cL_law 827 = .ok (.iaload, 1) := zd_dec hw12 (q := 59) rfl (by decide +kernel)
theorem dL_law_828 : decode cL_law 828 = .ok (.aload_n 0, 1) := zd_dec hw12 (q := 60) rfl (by decide +kernel)
theorem dL_law_829 : decode cL_law 829 = .ok (.iload 4, 2) := zd_dec hw12 (q := 61) rfl (by decide +kernel)
theorem dL_law_831 : decode cL_law 831 = .ok (.iconst 3, 1) := zd_dec hw12 (q := 63) rfl (by decide +kernel)
theorem dL_law_832 : decode cL_law 832 = .ok (.iadd, 1) := zd_dec hw13 (q := 0) rfl (by decide +kernel)
theorem dL_law_833 : decode cL_law 833 = .ok (.iaload, 1) := zd_dec hw13 (q := 1) rfl (by decide +kernel)
theorem dL_law_834 : decode cL_law 834 = .ok (.aload_n 0, 1) := zd_dec hw13 (q := 2) rfl (by decide +kernel)
theorem dL_law_835 : decode cL_law 835 = .ok (.iload 4, 2) := zd_dec hw13 (q := 3) rfl (by decide +kernel)
theorem dL_law_837 : decode cL_law 837 = .ok (.iconst 4, 1) := zd_dec hw13 (q := 5) rfl (by decide +kernel)
theorem dL_law_838 : decode cL_law 838 = .ok (.iadd, 1) := zd_dec hw13 (q := 6) rfl (by decide +kernel)
theorem dL_law_839 : decode cL_law 839 = .ok (.iaload, 1) := zd_dec hw13 (q := 7) rfl (by decide +kernel)
theorem dL_law_840 : decode cL_law 840 = .ok (.aload_n 3, 1) := zd_dec hw13 (q := 8) rfl (by decide +kernel)
theorem dL_law_841 : decode cL_law 841 = .ok (.invokestatic 303, 3) := zd_dec hw13 (q := 9) rfl (by decide +kernel)
theorem dL_law_844 : decode cL_law 844 = .ok (.istore 5, 2) := zd_dec hw13 (q := 12) rfl (by decide +kernel)
theorem dL_law_846 : decode cL_law 846 = .ok (.aload_n 2, 1) := zd_dec hw13 (q := 14) rfl (by decide +kernel)
theorem dL_law_847 : decode cL_law 847 = .ok (.aload_n 0, 1) := zd_dec hw13 (q := 15) rfl (by decide +kernel)
theorem dL_law_848 : decode cL_law 848 = .ok (.iload 4, 2) := zd_dec hw13 (q := 16) rfl (by decide +kernel)
theorem dL_law_850 : decode cL_law 850 = .ok (.iconst 1, 1) := zd_dec hw13 (q := 18) rfl (by decide +kernel)
theorem dL_law_851 : decode cL_law 851 = .ok (.iadd, 1) := zd_dec hw13 (q := 19) rfl (by decide +kernel)
theorem dL_law_852 : decode cL_law 852 = .ok (.iaload, 1) := zd_dec hw13 (q := 20) rfl (by decide +kernel)
theorem dL_law_853 : decode cL_law 853 = .ok (.aload_n 0, 1) := zd_dec hw13 (q := 21) rfl (by decide +kernel)
theorem dL_law_854 : decode cL_law 854 = .ok (.iload 4, 2) := zd_dec hw13 (q := 22) rfl (by decide +kernel)
theorem dL_law_856 : decode cL_law 856 = .ok (.iconst 2, 1) := zd_dec hw13 (q := 24) rfl (by decide +kernel)
theorem dL_law_857 : decode cL_law 857 = .ok (.iadd, 1) := zd_dec hw13 (q := 25) rfl (by decide +kernel)
theorem dL_law_858 : decode cL_law 858 = .ok (.iaload, 1) := zd_dec hw13 (q := 26) rfl (by decide +kernel)
theorem dL_law_859 : decode cL_law 859 = .ok (.aload_n 0, 1) := zd_dec hw13 (q := 27) rfl (by decide +kernel)
theorem dL_law_860 : decode cL_law 860 = .ok (.iload 4, 2) := zd_dec hw13 (q := 28) rfl (by decide +kernel)
theorem dL_law_862 : decode cL_law 862 = .ok (.iconst 3, 1) := zd_dec hw13 (q := 30) rfl (by decide +kernel)
theorem dL_law_863 : decode cL_law 863 = .ok (.iadd, 1) := zd_dec hw13 (q := 31) rfl (by decide +kernel)
theorem dL_law_864 : decode cL_law 864 = .ok (.iaload, 1) := zd_dec hw13 (q := 32) rfl (by decide +kernel)
theorem dL_law_865 : decode cL_law 865 = .ok (.aload_n 0, 1) := zd_dec hw13 (q := 33) rfl (by decide +kernel)
theorem dL_law_866 : decode cL_law 866 = .ok (.iload 4, 2) := zd_dec hw13 (q := 34) rfl (by decide +kernel)
theorem dL_law_868 : decode cL_law 868 = .ok (.iconst 4, 1) := zd_dec hw13 (q := 36) rfl (by decide +kernel)
theorem dL_law_869 : decode cL_law 869 = .ok (.iadd, 1) := zd_dec hw13 (q := 37) rfl (by decide +kernel)
theorem dL_law_870 : decode cL_law 870 = .ok (.iaload, 1) := zd_dec hw13 (q := 38) rfl (by decide +kernel)
theorem dL_law_871 : decode cL_law 871 = .ok (.invokevirtual 305, 3) := zd_dec hw13 (q := 39) rfl (by decide +kernel)
theorem dL_law_874 : decode cL_law 874 = .ok (.istore 6, 2) := zd_dec hw13 (q := 42) rfl (by decide +kernel)
theorem dL_law_876 : decode cL_law 876 = .ok (.aload_n 2, 1) := zd_dec hw13 (q := 44) rfl (by decide +kernel)
theorem dL_law_877 : decode cL_law 877 = .ok (.invokevirtual 281, 3) := zd_dec hw13 (q := 45) rfl (by decide +kernel)
theorem dL_law_880 : decode cL_law 880 = .ok (.iload 5, 2) := zd_dec hw13 (q := 48) rfl (by decide +kernel)
theorem dL_law_882 : decode cL_law 882 = .ok (.if_icmp .eq 5, 3) := zd_dec hw13 (q := 50) rfl (by decide +kernel)
theorem dL_law_887 : decode cL_law 887 = .ok (.iload 5, 2) := zd_dec hw13 (q := 55) rfl (by decide +kernel)
theorem dL_law_889 : decode cL_law 889 = .ok (.ifCond .ne 15, 3) := zd_dec hw13 (q := 57) rfl (by decide +kernel)
theorem dL_law_904 : decode cL_law 904 = .ok (.goto 5098, 3) := zd_dec hw14 (q := 8) rfl (by decide +kernel)
theorem dL_law_892 : decode cL_law 892 = .ok (.aload_n 3, 1) := zd_dec hw13 (q := 60) rfl (by decide +kernel)
theorem dL_law_893 : decode cL_law 893 = .ok (.iconst 0, 1) := zd_dec hw13 (q := 61) rfl (by decide +kernel)
theorem dL_law_894 : decode cL_law 894 = .ok (.laload, 1) := zd_dec hw13 (q := 62) rfl (by decide +kernel)
theorem dL_law_895 : decode cL_law 895 = .ok (.iload 6, 2) := zd_dec hw13 (q := 63) rfl (by decide +kernel)
theorem dL_law_897 : decode cL_law 897 = .ok (.i2l, 1) := zd_dec hw14 (q := 1) rfl (by decide +kernel)
theorem dL_law_898 : decode cL_law 898 = .ok (.lcmp, 1) := zd_dec hw14 (q := 2) rfl (by decide +kernel)
theorem dL_law_899 : decode cL_law 899 = .ok (.ifCond .eq 5, 3) := zd_dec hw14 (q := 3) rfl (by decide +kernel)
theorem dL_law_902 : decode cL_law 902 = .ok (.iconst 0, 1) := zd_dec hw14 (q := 6) rfl (by decide +kernel)
theorem dL_law_903 : decode cL_law 903 = .ok (.ireturn, 1) := zd_dec hw14 (q := 7) rfl (by decide +kernel)
theorem dL_law_885 : decode cL_law 885 = .ok (.iconst 0, 1) := zd_dec hw13 (q := 53) rfl (by decide +kernel)
theorem dL_law_886 : decode cL_law 886 = .ok (.ireturn, 1) := zd_dec hw13 (q := 54) rfl (by decide +kernel)
theorem dL_law_907 : decode cL_law 907 = .ok (.aload_n 1, 1) := zd_dec hw14 (q := 11) rfl (by decide +kernel)
theorem dL_law_908 : decode cL_law 908 = .ok (.aload_n 0, 1) := zd_dec hw14 (q := 12) rfl (by decide +kernel)
theorem dL_law_909 : decode cL_law 909 = .ok (.iload 4, 2) := zd_dec hw14 (q := 13) rfl (by decide +kernel)
theorem dL_law_911 : decode cL_law 911 = .ok (.iconst 1, 1) := zd_dec hw14 (q := 15) rfl (by decide +kernel)
theorem dL_law_912 : decode cL_law 912 = .ok (.iadd, 1) := zd_dec hw14 (q := 16) rfl (by decide +kernel)
theorem dL_law_913 : decode cL_law 913 = .ok (.iaload, 1) := zd_dec hw14 (q := 17) rfl (by decide +kernel)
theorem dL_law_914 : decode cL_law 914 = .ok (.aload_n 0, 1) := zd_dec hw14 (q := 18) rfl (by decide +kernel)
theorem dL_law_915 : decode cL_law 915 = .ok (.iload 4, 2) := zd_dec hw14 (q := 19) rfl (by decide +kernel)
theorem dL_law_917 : decode cL_law 917 = .ok (.iconst 2, 1) := zd_dec hw14 (q := 21) rfl (by decide +kernel)
theorem dL_law_918 : decode cL_law 918 = .ok (.iadd, 1) := zd_dec hw14 (q := 22) rfl (by decide +kernel)
theorem dL_law_919 : decode cL_law 919 = .ok (.iaload, 1) := zd_dec hw14 (q := 23) rfl (by decide +kernel)
theorem dL_law_920 : decode cL_law 920 = .ok (.aload_n 3, 1) := zd_dec hw14 (q := 24) rfl (by decide +kernel)
theorem dL_law_921 : decode cL_law 921 = .ok (.invokestatic 306, 3) := zd_dec hw14 (q := 25) rfl (by decide +kernel)
theorem dL_law_924 : decode cL_law 924 = .ok (.istore 5, 2) := zd_dec hw14 (q := 28) rfl (by decide +kernel)
theorem dL_law_926 : decode cL_law 926 = .ok (.aload_n 2, 1) := zd_dec hw14 (q := 30) rfl (by decide +kernel)
theorem dL_law_927 : decode cL_law 927 = .ok (.aload_n 0, 1) := zd_dec hw14 (q := 31) rfl (by decide +kernel)
theorem dL_law_928 : decode cL_law 928 = .ok (.iload 4, 2) := zd_dec hw14 (q := 32) rfl (by decide +kernel)
theorem dL_law_930 : decode cL_law 930 = .ok (.iconst 1, 1) := zd_dec hw14 (q := 34) rfl (by decide +kernel)
theorem dL_law_931 : decode cL_law 931 = .ok (.iadd, 1) := zd_dec hw14 (q := 35) rfl (by decide +kernel)
theorem dL_law_932 : decode cL_law 932 = .ok (.iaload, 1) := zd_dec hw14 (q := 36) rfl (by decide +kernel)
theorem dL_law_933 : decode cL_law 933 = .ok (.aload_n 0, 1) := zd_dec hw14 (q := 37) rfl (by decide +kernel)
theorem dL_law_934 : decode cL_law 934 = .ok (.iload 4, 2) := zd_dec hw14 (q := 38) rfl (by decide +kernel)
theorem dL_law_936 : decode cL_law 936 = .ok (.iconst 2, 1) := zd_dec hw14 (q := 40) rfl (by decide +kernel)
theorem dL_law_937 : decode cL_law 937 = .ok (.iadd, 1) := zd_dec hw14 (q := 41) rfl (by decide +kernel)
theorem dL_law_938 : decode cL_law 938 = .ok (.iaload, 1) := zd_dec hw14 (q := 42) rfl (by decide +kernel)
theorem dL_law_939 : decode cL_law 939 = .ok (.invokevirtual 308, 3) := zd_dec hw14 (q := 43) rfl (by decide +kernel)
theorem dL_law_942 : decode cL_law 942 = .ok (.istore 6, 2) := zd_dec hw14 (q := 46) rfl (by decide +kernel)
theorem dL_law_944 : decode cL_law 944 = .ok (.aload_n 2, 1) := zd_dec hw14 (q := 48) rfl (by decide +kernel)
theorem dL_law_945 : decode cL_law 945 = .ok (.invokevirtual 281, 3) := zd_dec hw14 (q := 49) rfl (by decide +kernel)
theorem dL_law_948 : decode cL_law 948 = .ok (.iload 5, 2) := zd_dec hw14 (q := 52) rfl (by decide +kernel)
theorem dL_law_950 : decode cL_law 950 = .ok (.if_icmp .eq 5, 3) := zd_dec hw14 (q := 54) rfl (by decide +kernel)
theorem dL_law_955 : decode cL_law 955 = .ok (.iload 5, 2) := zd_dec hw14 (q := 59) rfl (by decide +kernel)
theorem dL_law_957 : decode cL_law 957 = .ok (.ifCond .ne 15, 3) := zd_dec hw14 (q := 61) rfl (by decide +kernel)
theorem dL_law_972 : decode cL_law 972 = .ok (.goto 5030, 3) := zd_dec hw15 (q := 12) rfl (by decide +kernel)
theorem dL_law_960 : decode cL_law 960 = .ok (.aload_n 3, 1) := zd_dec hw15 (q := 0) rfl (by decide +kernel)
theorem dL_law_961 : decode cL_law 961 = .ok (.iconst 0, 1) := zd_dec hw15 (q := 1) rfl (by decide +kernel)
theorem dL_law_962 : decode cL_law 962 = .ok (.laload, 1) := zd_dec hw15 (q := 2) rfl (by decide +kernel)
theorem dL_law_963 : decode cL_law 963 = .ok (.iload 6, 2) := zd_dec hw15 (q := 3) rfl (by decide +kernel)
theorem dL_law_965 : decode cL_law 965 = .ok (.i2l, 1) := zd_dec hw15 (q := 5) rfl (by decide +kernel)
theorem dL_law_966 : decode cL_law 966 = .ok (.lcmp, 1) := zd_dec hw15 (q := 6) rfl (by decide +kernel)
theorem dL_law_967 : decode cL_law 967 = .ok (.ifCond .eq 5, 3) := zd_dec hw15 (q := 7) rfl (by decide +kernel)
theorem dL_law_970 : decode cL_law 970 = .ok (.iconst 0, 1) := zd_dec hw15 (q := 10) rfl (by decide +kernel)
theorem dL_law_971 : decode cL_law 971 = .ok (.ireturn, 1) := zd_dec hw15 (q := 11) rfl (by decide +kernel)
theorem dL_law_953 : decode cL_law 953 = .ok (.iconst 0, 1) := zd_dec hw14 (q := 57) rfl (by decide +kernel)
theorem dL_law_954 : decode cL_law 954 = .ok (.ireturn, 1) := zd_dec hw14 (q := 58) rfl (by decide +kernel)
theorem dL_law_975 : decode cL_law 975 = .ok (.aload_n 1, 1) := zd_dec hw15 (q := 15) rfl (by decide +kernel)
theorem dL_law_976 : decode cL_law 976 = .ok (.aload_n 0, 1) := zd_dec hw15 (q := 16) rfl (by decide +kernel)
theorem dL_law_977 : decode cL_law 977 = .ok (.iload 4, 2) := zd_dec hw15 (q := 17) rfl (by decide +kernel)
theorem dL_law_979 : decode cL_law 979 = .ok (.iconst 1, 1) := zd_dec hw15 (q := 19) rfl (by decide +kernel)
theorem dL_law_980 : decode cL_law 980 = .ok (.iadd, 1) := zd_dec hw15 (q := 20) rfl (by decide +kernel)
theorem dL_law_981 : decode cL_law 981 = .ok (.iaload, 1) := zd_dec hw15 (q := 21) rfl (by decide +kernel)
theorem dL_law_982 : decode cL_law 982 = .ok (.aload_n 0, 1) := zd_dec hw15 (q := 22) rfl (by decide +kernel)
theorem dL_law_983 : decode cL_law 983 = .ok (.iload 4, 2) := zd_dec hw15 (q := 23) rfl (by decide +kernel)
theorem dL_law_985 : decode cL_law 985 = .ok (.iconst 2, 1) := zd_dec hw15 (q := 25) rfl (by decide +kernel)
theorem dL_law_986 : decode cL_law 986 = .ok (.iadd, 1) := zd_dec hw15 (q := 26) rfl (by decide +kernel)
theorem dL_law_987 : decode cL_law 987 = .ok (.iaload, 1) := zd_dec hw15 (q := 27) rfl (by decide +kernel)
theorem dL_law_988 : decode cL_law 988 = .ok (.aload_n 3, 1) := zd_dec hw15 (q := 28) rfl (by decide +kernel)
theorem dL_law_989 : decode cL_law 989 = .ok (.invokestatic 309, 3) := zd_dec hw15 (q := 29) rfl (by decide +kernel)
theorem dL_law_992 : decode cL_law 992 = .ok (.istore 5, 2) := zd_dec hw15 (q := 32) rfl (by decide +kernel)
theorem dL_law_994 : decode cL_law 994 = .ok (.aload_n 2, 1) := zd_dec hw15 (q := 34) rfl (by decide +kernel)
theorem dL_law_995 : decode cL_law 995 = .ok (.aload_n 0, 1) := zd_dec hw15 (q := 35) rfl (by decide +kernel)
theorem dL_law_996 : decode cL_law 996 = .ok (.iload 4, 2) := zd_dec hw15 (q := 36) rfl (by decide +kernel)
theorem dL_law_998 : decode cL_law 998 = .ok (.iconst 1, 1) := zd_dec hw15 (q := 38) rfl (by decide +kernel)
theorem dL_law_999 : decode cL_law 999 = .ok (.iadd, 1) := zd_dec hw15 (q := 39) rfl (by decide +kernel)
theorem dL_law_1000 : decode cL_law 1000 = .ok (.iaload, 1) := zd_dec hw15 (q := 40) rfl (by decide +kernel)
theorem dL_law_1001 : decode cL_law 1001 = .ok (.aload_n 0, 1) := zd_dec hw15 (q := 41) rfl (by decide +kernel)
theorem dL_law_1002 : decode cL_law 1002 = .ok (.iload 4, 2) := zd_dec hw15 (q := 42) rfl (by decide +kernel)
theorem dL_law_1004 : decode cL_law 1004 = .ok (.iconst 2, 1) := zd_dec hw15 (q := 44) rfl (by decide +kernel)
theorem dL_law_1005 : decode cL_law 1005 = .ok (.iadd, 1) := zd_dec hw15 (q := 45) rfl (by decide +kernel)
theorem dL_law_1006 : decode cL_law 1006 = .ok (.iaload, 1) := zd_dec hw15 (q := 46) rfl (by decide +kernel)
theorem dL_law_1007 : decode cL_law 1007 = .ok (.invokevirtual 311, 3) := zd_dec hw15 (q := 47) rfl (by decide +kernel)
theorem dL_law_1010 : decode cL_law 1010 = .ok (.istore 6, 2) := zd_dec hw15 (q := 50) rfl (by decide +kernel)
theorem dL_law_1012 : decode cL_law 1012 = .ok (.aload_n 2, 1) := zd_dec hw15 (q := 52) rfl (by decide +kernel)
theorem dL_law_1013 : decode cL_law 1013 = .ok (.invokevirtual 281, 3) := zd_dec hw15 (q := 53) rfl (by decide +kernel)
theorem dL_law_1016 : decode cL_law 1016 = .ok (.iload 5, 2) := zd_dec hw15 (q := 56) rfl (by decide +kernel)
theorem dL_law_1018 : decode cL_law 1018 = .ok (.if_icmp .eq 5, 3) := zd_dec hw15 (q := 58) rfl (by decide +kernel)
theorem dL_law_1023 : decode cL_law 1023 = .ok (.iload 5, 2) := zd_dec hw15 (q := 63) rfl (by decide +kernel)
theorem dL_law_1025 : decode cL_law 1025 = .ok (.ifCond .ne 15, 3) := zd_dec hw16 (q := 1) rfl (by decide +kernel)
theorem dL_law_1040 : decode cL_law 1040 = .ok (.goto 4962, 3) := zd_dec hw16 (q := 16) rfl (by decide +kernel)
theorem dL_law_1028 : decode cL_law 1028 = .ok (.aload_n 3, 1) := zd_dec hw16 (q := 4) rfl (by decide +kernel)
theorem dL_law_1029 : decode cL_law 1029 = .ok (.iconst 0, 1) := zd_dec hw16 (q := 5) rfl (by decide +kernel)
theorem dL_law_1030 : decode cL_law 1030 = .ok (.laload, 1) := zd_dec hw16 (q := 6) rfl (by decide +kernel)
theorem dL_law_1031 : decode cL_law 1031 = .ok (.iload 6, 2) := zd_dec hw16 (q := 7) rfl (by decide +kernel)
theorem dL_law_1033 : decode cL_law 1033 = .ok (.i2l, 1) := zd_dec hw16 (q := 9) rfl (by decide +kernel)
theorem dL_law_1034 : decode cL_law 1034 = .ok (.lcmp, 1) := zd_dec hw16 (q := 10) rfl (by decide +kernel)
theorem dL_law_1035 : decode cL_law 1035 = .ok (.ifCond .eq 5, 3) := zd_dec hw16 (q := 11) rfl (by decide +kernel)
theorem dL_law_1038 : decode cL_law 1038 = .ok (.iconst 0, 1) := zd_dec hw16 (q := 14) rfl (by decide +kernel)
theorem dL_law_1039 : decode cL_law 1039 = .ok (.ireturn, 1) := zd_dec hw16 (q := 15) rfl (by decide +kernel)
theorem dL_law_1021 : decode cL_law 1021 = .ok (.iconst 0, 1) := zd_dec hw15 (q := 61) rfl (by decide +kernel)
theorem dL_law_1022 : decode cL_law 1022 = .ok (.ireturn, 1) := zd_dec hw15 (q := 62) rfl (by decide +kernel)
theorem dL_law_1043 : decode cL_law 1043 = .ok (.aload_n 1, 1) := zd_dec hw16 (q := 19) rfl (by decide +kernel)
theorem dL_law_1044 : decode cL_law 1044 = .ok (.aload_n 0, 1) := zd_dec hw16 (q := 20) rfl (by decide +kernel)
theorem dL_law_1045 : decode cL_law 1045 = .ok (.iload 4, 2) := zd_dec hw16 (q := 21) rfl (by decide +kernel)
theorem dL_law_1047 : decode cL_law 1047 = .ok (.iconst 1, 1) := zd_dec hw16 (q := 23) rfl (by decide +kernel)
theorem dL_law_1048 : decode cL_law 1048 = .ok (.iadd, 1) := zd_dec hw16 (q := 24) rfl (by decide +kernel)
theorem dL_law_1049 : decode cL_law 1049 = .ok (.iaload, 1) := zd_dec hw16 (q := 25) rfl (by decide +kernel)
theorem dL_law_1050 : decode cL_law 1050 = .ok (.aload_n 0, 1) := zd_dec hw16 (q := 26) rfl (by decide +kernel)
theorem dL_law_1051 : decode cL_law 1051 = .ok (.iload 4, 2) := zd_dec hw16 (q := 27) rfl (by decide +kernel)
theorem dL_law_1053 : decode cL_law 1053 = .ok (.iconst 2, 1) := zd_dec hw16 (q := 29) rfl (by decide +kernel)
theorem dL_law_1054 : decode cL_law 1054 = .ok (.iadd, 1) := zd_dec hw16 (q := 30) rfl (by decide +kernel)
theorem dL_law_1055 : decode cL_law 1055 = .ok (.iaload, 1) := zd_dec hw16 (q := 31) rfl (by decide +kernel)
theorem dL_law_1056 : decode cL_law 1056 = .ok (.aload_n 3, 1) := zd_dec hw16 (q := 32) rfl (by decide +kernel)
theorem dL_law_1057 : decode cL_law 1057 = .ok (.invokestatic 312, 3) := zd_dec hw16 (q := 33) rfl (by decide +kernel)
theorem dL_law_1060 : decode cL_law 1060 = .ok (.istore 5, 2) := zd_dec hw16 (q := 36) rfl (by decide +kernel)
theorem dL_law_1062 : decode cL_law 1062 = .ok (.aload_n 2, 1) := zd_dec hw16 (q := 38) rfl (by decide +kernel)
theorem dL_law_1063 : decode cL_law 1063 = .ok (.aload_n 0, 1) := zd_dec hw16 (q := 39) rfl (by decide +kernel)
theorem dL_law_1064 : decode cL_law 1064 = .ok (.iload 4, 2) := zd_dec hw16 (q := 40) rfl (by decide +kernel)
theorem dL_law_1066 : decode cL_law 1066 = .ok (.iconst 1, 1) := zd_dec hw16 (q := 42) rfl (by decide +kernel)
theorem dL_law_1067 : decode cL_law 1067 = .ok (.iadd, 1) := zd_dec hw16 (q := 43) rfl (by decide +kernel)
theorem dL_law_1068 : decode cL_law 1068 = .ok (.iaload, 1) := zd_dec hw16 (q := 44) rfl (by decide +kernel)
theorem dL_law_1069 : decode cL_law 1069 = .ok (.aload_n 0, 1) := zd_dec hw16 (q := 45) rfl (by decide +kernel)
theorem dL_law_1070 : decode cL_law 1070 = .ok (.iload 4, 2) := zd_dec hw16 (q := 46) rfl (by decide +kernel)
theorem dL_law_1072 : decode cL_law 1072 = .ok (.iconst 2, 1) := zd_dec hw16 (q := 48) rfl (by decide +kernel)
theorem dL_law_1073 : decode cL_law 1073 = .ok (.iadd, 1) := zd_dec hw16 (q := 49) rfl (by decide +kernel)
theorem dL_law_1074 : decode cL_law 1074 = .ok (.iaload, 1) := zd_dec hw16 (q := 50) rfl (by decide +kernel)
theorem dL_law_1075 : decode cL_law 1075 = .ok (.invokevirtual 314, 3) := zd_dec hw16 (q := 51) rfl (by decide +kernel)
theorem dL_law_1078 : decode cL_law 1078 = .ok (.istore 6, 2) := zd_dec hw16 (q := 54) rfl (by decide +kernel)
theorem dL_law_1080 : decode cL_law 1080 = .ok (.aload_n 2, 1) := zd_dec hw16 (q := 56) rfl (by decide +kernel)
theorem dL_law_1081 : decode cL_law 1081 = .ok (.invokevirtual 281, 3) := zd_dec hw16 (q := 57) rfl (by decide +kernel)
theorem dL_law_1084 : decode cL_law 1084 = .ok (.iload 5, 2) := zd_dec hw16 (q := 60) rfl (by decide +kernel)
theorem dL_law_1086 : decode cL_law 1086 = .ok (.if_icmp .eq 5, 3) := zd_dec hw16 (q := 62) rfl (by decide +kernel)
theorem dL_law_1091 : decode cL_law 1091 = .ok (.iload 5, 2) := zd_dec hw17 (q := 3) rfl (by decide +kernel)
theorem dL_law_1093 : decode cL_law 1093 = .ok (.ifCond .ne 15, 3) := zd_dec hw17 (q := 5) rfl (by decide +kernel)
theorem dL_law_1108 : decode cL_law 1108 = .ok (.goto 4894, 3) := zd_dec hw17 (q := 20) rfl (by decide +kernel)
theorem dL_law_1096 : decode cL_law 1096 = .ok (.aload_n 3, 1) := zd_dec hw17 (q := 8) rfl (by decide +kernel)
theorem dL_law_1097 : decode cL_law 1097 = .ok (.iconst 0, 1) := zd_dec hw17 (q := 9) rfl (by decide +kernel)
theorem dL_law_1098 : decode cL_law 1098 = .ok (.laload, 1) := zd_dec hw17 (q := 10) rfl (by decide +kernel)
theorem dL_law_1099 : decode cL_law 1099 = .ok (.iload 6, 2) := zd_dec hw17 (q := 11) rfl (by decide +kernel)
theorem dL_law_1101 : decode cL_law 1101 = .ok (.i2l, 1) := zd_dec hw17 (q := 13) rfl (by decide +kernel)
theorem dL_law_1102 : decode cL_law 1102 = .ok (.lcmp, 1) := zd_dec hw17 (q := 14) rfl (by decide +kernel)
theorem dL_law_1103 : decode cL_law 1103 = .ok (.ifCond .eq 5, 3) := zd_dec hw17 (q := 15) rfl (by decide +kernel)
theorem dL_law_1106 : decode cL_law 1106 = .ok (.iconst 0, 1) := zd_dec hw17 (q := 18) rfl (by decide +kernel)
theorem dL_law_1107 : decode cL_law 1107 = .ok (.ireturn, 1) := zd_dec hw17 (q := 19) rfl (by decide +kernel)
theorem dL_law_1089 : decode cL_law 1089 = .ok (.iconst 0, 1) := zd_dec hw17 (q := 1) rfl (by decide +kernel)
theorem dL_law_1090 : decode cL_law 1090 = .ok (.ireturn, 1) := zd_dec hw17 (q := 2) rfl (by decide +kernel)
theorem dL_law_1111 : decode cL_law 1111 = .ok (.aload_n 1, 1) := zd_dec hw17 (q := 23) rfl (by decide +kernel)
theorem dL_law_1112 : decode cL_law 1112 = .ok (.aload_n 0, 1) := zd_dec hw17 (q := 24) rfl (by decide +kernel)
theorem dL_law_1113 : decode cL_law 1113 = .ok (.iload 4, 2) := zd_dec hw17 (q := 25) rfl (by decide +kernel)
theorem dL_law_1115 : decode cL_law 1115 = .ok (.iconst 1, 1) := zd_dec hw17 (q := 27) rfl (by decide +kernel)
theorem dL_law_1116 : decode cL_law 1116 = .ok (.iadd, 1) := zd_dec hw17 (q := 28) rfl (by decide +kernel)
theorem dL_law_1117 : decode cL_law 1117 = .ok (.iaload, 1) := zd_dec hw17 (q := 29) rfl (by decide +kernel)
theorem dL_law_1118 : decode cL_law 1118 = .ok (.aload_n 0, 1) := zd_dec hw17 (q := 30) rfl (by decide +kernel)
theorem dL_law_1119 : decode cL_law 1119 = .ok (.iload 4, 2) := zd_dec hw17 (q := 31) rfl (by decide +kernel)
theorem dL_law_1121 : decode cL_law 1121 = .ok (.iconst 2, 1) := zd_dec hw17 (q := 33) rfl (by decide +kernel)
theorem dL_law_1122 : decode cL_law 1122 = .ok (.iadd, 1) := zd_dec hw17 (q := 34) rfl (by decide +kernel)
theorem dL_law_1123 : decode cL_law 1123 = .ok (.iaload, 1) := zd_dec hw17 (q := 35) rfl (by decide +kernel)
theorem dL_law_1124 : decode cL_law 1124 = .ok (.aload_n 3, 1) := zd_dec hw17 (q := 36) rfl (by decide +kernel)
theorem dL_law_1125 : decode cL_law 1125 = .ok (.invokestatic 315, 3) := zd_dec hw17 (q := 37) rfl (by decide +kernel)
theorem dL_law_1128 : decode cL_law 1128 = .ok (.istore 5, 2) := zd_dec hw17 (q := 40) rfl (by decide +kernel)
theorem dL_law_1130 : decode cL_law 1130 = .ok (.aload_n 2, 1) := zd_dec hw17 (q := 42) rfl (by decide +kernel)
theorem dL_law_1131 : decode cL_law 1131 = .ok (.aload_n 0, 1) := zd_dec hw17 (q := 43) rfl (by decide +kernel)
theorem dL_law_1132 : decode cL_law 1132 = .ok (.iload 4, 2) := zd_dec hw17 (q := 44) rfl (by decide +kernel)
theorem dL_law_1134 : decode cL_law 1134 = .ok (.iconst 1, 1) := zd_dec hw17 (q := 46) rfl (by decide +kernel)
theorem dL_law_1135 : decode cL_law 1135 = .ok (.iadd, 1) := zd_dec hw17 (q := 47) rfl (by decide +kernel)
theorem dL_law_1136 : decode cL_law 1136 = .ok (.iaload, 1) := zd_dec hw17 (q := 48) rfl (by decide +kernel)
theorem dL_law_1137 : decode cL_law 1137 = .ok (.aload_n 0, 1) := zd_dec hw17 (q := 49) rfl (by decide +kernel)
theorem dL_law_1138 : decode cL_law 1138 = .ok (.iload 4, 2) := zd_dec hw17 (q := 50) rfl (by decide +kernel)
theorem dL_law_1140 : decode cL_law 1140 = .ok (.iconst 2, 1) := zd_dec hw17 (q := 52) rfl (by decide +kernel)
theorem dL_law_1141 : decode cL_law 1141 = .ok (.iadd, 1) := zd_dec hw17 (q := 53) rfl (by decide +kernel)
theorem dL_law_1142 : decode cL_law 1142 = .ok (.iaload, 1) := zd_dec hw17 (q := 54) rfl (by decide +kernel)
theorem dL_law_1143 : decode cL_law 1143 = .ok (.invokevirtual 317, 3) := zd_dec hw17 (q := 55) rfl (by decide +kernel)
theorem dL_law_1146 : decode cL_law 1146 = .ok (.istore 6, 2) := zd_dec hw17 (q := 58) rfl (by decide +kernel)
theorem dL_law_1148 : decode cL_law 1148 = .ok (.aload_n 2, 1) := zd_dec hw17 (q := 60) rfl (by decide +kernel)
theorem dL_law_1149 : decode cL_law 1149 = .ok (.invokevirtual 281, 3) := zd_dec hw17 (q := 61) rfl (by decide +kernel)
theorem dL_law_1152 : decode cL_law 1152 = .ok (.iload 5, 2) := zd_dec hw18 (q := 0) rfl (by decide +kernel)
theorem dL_law_1154 : decode cL_law 1154 = .ok (.if_icmp .eq 5, 3) := zd_dec hw18 (q := 2) rfl (by decide +kernel)
theorem dL_law_1159 : decode cL_law 1159 = .ok (.iload 5, 2) := zd_dec hw18 (q := 7) rfl (by decide +kernel)
theorem dL_law_1161 : decode cL_law 1161 = .ok (.ifCond .ne 15, 3) := zd_dec hw18 (q := 9) rfl (by decide +kernel)
theorem dL_law_1176 : decode cL_law 1176 = .ok (.goto 4826, 3) := zd_dec hw18 (q := 24) rfl (by decide +kernel)
theorem dL_law_1164 : decode cL_law 1164 = .ok (.aload_n 3, 1) := zd_dec hw18 (q := 12) rfl (by decide +kernel)
theorem dL_law_1165 : decode cL_law 1165 = .ok (.iconst 0, 1) := zd_dec hw18 (q := 13) rfl (by decide +kernel)
theorem dL_law_1166 : decode cL_law 1166 = .ok (.laload, 1) := zd_dec hw18 (q := 14) rfl (by decide +kernel)
theorem dL_law_1167 : decode cL_law 1167 = .ok (.iload 6, 2) := zd_dec hw18 (q := 15) rfl (by decide +kernel)
theorem dL_law_1169 : decode cL_law 1169 = .ok (.i2l, 1) := zd_dec hw18 (q := 17) rfl (by decide +kernel)
theorem dL_law_1170 : decode cL_law 1170 = .ok (.lcmp, 1) := zd_dec hw18 (q := 18) rfl (by decide +kernel)
theorem dL_law_1171 : decode cL_law 1171 = .ok (.ifCond .eq 5, 3) := zd_dec hw18 (q := 19) rfl (by decide +kernel)
theorem dL_law_1174 : decode cL_law 1174 = .ok (.iconst 0, 1) := zd_dec hw18 (q := 22) rfl (by decide +kernel)
theorem dL_law_1175 : decode cL_law 1175 = .ok (.ireturn, 1) := zd_dec hw18 (q := 23) rfl (by decide +kernel)
theorem dL_law_1157 : decode cL_law 1157 = .ok (.iconst 0, 1) := zd_dec hw18 (q := 5) rfl (by decide +kernel)
theorem dL_law_1158 : decode cL_law 1158 = .ok (.ireturn, 1) := zd_dec hw18 (q := 6) rfl (by decide +kernel)
theorem dL_law_1179 : decode cL_law 1179 = .ok (.aload_n 1, 1) := zd_dec hw18 (q := 27) rfl (by decide +kernel)
theorem dL_law_1180 : decode cL_law 1180 = .ok (.aload_n 0, 1) := zd_dec hw18 (q := 28) rfl (by decide +kernel)
theorem dL_law_1181 : decode cL_law 1181 = .ok (.iload 4, 2) := zd_dec hw18 (q := 29) rfl (by decide +kernel)
theorem dL_law_1183 : decode cL_law 1183 = .ok (.iconst 1, 1) := zd_dec hw18 (q := 31) rfl (by decide +kernel)
theorem dL_law_1184 : decode cL_law 1184 = .ok (.iadd, 1) := zd_dec hw18 (q := 32) rfl (by decide +kernel)
theorem dL_law_1185 : decode cL_law 1185 = .ok (.iaload, 1) := zd_dec hw18 (q := 33) rfl (by decide +kernel)
theorem dL_law_1186 : decode cL_law 1186 = .ok (.aload_n 0, 1) := zd_dec hw18 (q := 34) rfl (by decide +kernel)
theorem dL_law_1187 : decode cL_law 1187 = .ok (.iload 4, 2) := zd_dec hw18 (q := 35) rfl (by decide +kernel)
theorem dL_law_1189 : decode cL_law 1189 = .ok (.iconst 2, 1) := zd_dec hw18 (q := 37) rfl (by decide +kernel)
theorem dL_law_1190 : decode cL_law 1190 = .ok (.iadd, 1) := zd_dec hw18 (q := 38) rfl (by decide +kernel)
theorem dL_law_1191 : decode cL_law 1191 = .ok (.iaload, 1) := zd_dec hw18 (q := 39) rfl (by decide +kernel)
theorem dL_law_1192 : decode cL_law 1192 = .ok (.aload_n 3, 1) := zd_dec hw18 (q := 40) rfl (by decide +kernel)
theorem dL_law_1193 : decode cL_law 1193 = .ok (.invokestatic 318, 3) := zd_dec hw18 (q := 41) rfl (by decide +kernel)
theorem dL_law_1196 : decode cL_law 1196 = .ok (.istore 5, 2) := zd_dec hw18 (q := 44) rfl (by decide +kernel)
theorem dL_law_1198 : decode cL_law 1198 = .ok (.aload_n 2, 1) := zd_dec hw18 (q := 46) rfl (by decide +kernel)
theorem dL_law_1199 : decode cL_law 1199 = .ok (.aload_n 0, 1) := zd_dec hw18 (q := 47) rfl (by decide +kernel)
theorem dL_law_1200 : decode cL_law 1200 = .ok (.iload 4, 2) := zd_dec hw18 (q := 48) rfl (by decide +kernel)
theorem dL_law_1202 : decode cL_law 1202 = .ok (.iconst 1, 1) := zd_dec hw18 (q := 50) rfl (by decide +kernel)
theorem dL_law_1203 : decode cL_law 1203 = .ok (.iadd, 1) := zd_dec hw18 (q := 51) rfl (by decide +kernel)
theorem dL_law_1204 : decode cL_law 1204 = .ok (.iaload, 1) := zd_dec hw18 (q := 52) rfl (by decide +kernel)
theorem dL_law_1205 : decode cL_law 1205 = .ok (.aload_n 0, 1) := zd_dec hw18 (q := 53) rfl (by decide +kernel)
theorem dL_law_1206 : decode cL_law 1206 = .ok (.iload 4, 2) := zd_dec hw18 (q := 54) rfl (by decide +kernel)
theorem dL_law_1208 : decode cL_law 1208 = .ok (.iconst 2, 1) := zd_dec hw18 (q := 56) rfl (by decide +kernel)
theorem dL_law_1209 : decode cL_law 1209 = .ok (.iadd, 1) := zd_dec hw18 (q := 57) rfl (by decide +kernel)
theorem dL_law_1210 : decode cL_law 1210 = .ok (.iaload, 1) := zd_dec hw18 (q := 58) rfl (by decide +kernel)
theorem dL_law_1211 : decode cL_law 1211 = .ok (.invokevirtual 320, 3) := zd_dec hw18 (q := 59) rfl (by decide +kernel)
theorem dL_law_1214 : decode cL_law 1214 = .ok (.istore 6, 2) := zd_dec hw18 (q := 62) rfl (by decide +kernel)
theorem dL_law_1216 : decode cL_law 1216 = .ok (.aload_n 2, 1) := zd_dec hw19 (q := 0) rfl (by decide +kernel)
theorem dL_law_1217 : decode cL_law 1217 = .ok (.invokevirtual 281, 3) := zd_dec hw19 (q := 1) rfl (by decide +kernel)
theorem dL_law_1220 : decode cL_law 1220 = .ok (.iload 5, 2) := zd_dec hw19 (q := 4) rfl (by decide +kernel)
theorem dL_law_1222 : decode cL_law 1222 = .ok (.if_icmp .eq 5, 3) := zd_dec hw19 (q := 6) rfl (by decide +kernel)
theorem dL_law_1227 : decode cL_law 1227 = .ok (.iload 5, 2) := zd_dec hw19 (q := 11) rfl (by decide +kernel)
theorem dL_law_1229 : decode cL_law 1229 = .ok (.ifCond .ne 15, 3) := zd_dec hw19 (q := 13) rfl (by decide +kernel)
theorem dL_law_1244 : decode cL_law 1244 = .ok (.goto 4758, 3) := zd_dec hw19 (q := 28) rfl (by decide +kernel)
theorem dL_law_1232 : decode cL_law 1232 = .ok (.aload_n 3, 1) := zd_dec hw19 (q := 16) rfl (by decide +kernel)
theorem dL_law_1233 : decode cL_law 1233 = .ok (.iconst 0, 1) := zd_dec hw19 (q := 17) rfl (by decide +kernel)
theorem dL_law_1234 : decode cL_law 1234 = .ok (.laload, 1) := zd_dec hw19 (q := 18) rfl (by decide +kernel)
theorem dL_law_1235 : decode cL_law 1235 = .ok (.iload 6, 2) := zd_dec hw19 (q := 19) rfl (by decide +kernel)
theorem dL_law_1237 : decode cL_law 1237 = .ok (.i2l, 1) := zd_dec hw19 (q := 21) rfl (by decide +kernel)
theorem dL_law_1238 : decode cL_law 1238 = .ok (.lcmp, 1) := zd_dec hw19 (q := 22) rfl (by decide +kernel)
theorem dL_law_1239 : decode cL_law 1239 = .ok (.ifCond .eq 5, 3) := zd_dec hw19 (q := 23) rfl (by decide +kernel)
theorem dL_law_1242 : decode cL_law 1242 = .ok (.iconst 0, 1) := zd_dec hw19 (q := 26) rfl (by decide +kernel)
theorem dL_law_1243 : decode cL_law 1243 = .ok (.ireturn, 1) := zd_dec hw19 (q := 27) rfl (by decide +kernel)
theorem dL_law_1225 : decode cL_law 1225 = .ok (.iconst 0, 1) := zd_dec hw19 (q := 9) rfl (by decide +kernel)
theorem dL_law_1226 : decode cL_law 1226 = .ok (.ireturn, 1) := zd_dec hw19 (q := 10) rfl (by decide +kernel)
theorem dL_law_1247 : decode cL_law 1247 = .ok (.aload_n 1, 1) := zd_dec hw19 (q := 31) rfl (by decide +kernel)
theorem dL_law_1248 : decode cL_law 1248 = .ok (.aload_n 0, 1) := zd_dec hw19 (q := 32) rfl (by decide +kernel)
theorem dL_law_1249 : decode cL_law 1249 = .ok (.iload 4, 2) := zd_dec hw19 (q := 33) rfl (by decide +kernel)
theorem dL_law_1251 : decode cL_law 1251 = .ok (.iconst 1, 1) := zd_dec hw19 (q := 35) rfl (by decide +kernel)
theorem dL_law_1252 : decode cL_law 1252 = .ok (.iadd, 1) := zd_dec hw19 (q := 36) rfl (by decide +kernel)
theorem dL_law_1253 : decode cL_law 1253 = .ok (.iaload, 1) := zd_dec hw19 (q := 37) rfl (by decide +kernel)
theorem dL_law_1254 : decode cL_law 1254 = .ok (.aload_n 3, 1) := zd_dec hw19 (q := 38) rfl (by decide +kernel)
theorem dL_law_1255 : decode cL_law 1255 = .ok (.invokestatic 321, 3) := zd_dec hw19 (q := 39) rfl (by decide +kernel)
theorem dL_law_1258 : decode cL_law 1258 = .ok (.istore 5, 2) := zd_dec hw19 (q := 42) rfl (by decide +kernel)
theorem dL_law_1260 : decode cL_law 1260 = .ok (.aload_n 2, 1) := zd_dec hw19 (q := 44) rfl (by decide +kernel)
theorem dL_law_1261 : decode cL_law 1261 = .ok (.aload_n 0, 1) := zd_dec hw19 (q := 45) rfl (by decide +kernel)
theorem dL_law_1262 : decode cL_law 1262 = .ok (.iload 4, 2) := zd_dec hw19 (q := 46) rfl (by decide +kernel)
theorem dL_law_1264 : decode cL_law 1264 = .ok (.iconst 1, 1) := zd_dec hw19 (q := 48) rfl (by decide +kernel)
theorem dL_law_1265 : decode cL_law 1265 = .ok (.iadd, 1) := zd_dec hw19 (q := 49) rfl (by decide +kernel)
theorem dL_law_1266 : decode cL_law 1266 = .ok (.iaload, 1) := zd_dec hw19 (q := 50) rfl (by decide +kernel)
theorem dL_law_1267 : decode cL_law 1267 = .ok (.invokevirtual 323, 3) := zd_dec hw19 (q := 51) rfl (by decide +kernel)
theorem dL_law_1270 : decode cL_law 1270 = .ok (.istore 6, 2) := zd_dec hw19 (q := 54) rfl (by decide +kernel)
theorem dL_law_1272 : decode cL_law 1272 = .ok (.aload_n 2, 1) := zd_dec hw19 (q := 56) rfl (by decide +kernel)
theorem dL_law_1273 : decode cL_law 1273 = .ok (.invokevirtual 281, 3) := zd_dec hw19 (q := 57) rfl (by decide +kernel)
theorem dL_law_1276 : decode cL_law 1276 = .ok (.iload 5, 2) := zd_dec hw19 (q := 60) rfl (by decide +kernel)
theorem dL_law_1278 : decode cL_law 1278 = .ok (.if_icmp .eq 5, 3) := zd_dec hw19 (q := 62) rfl (by decide +kernel)
theorem dL_law_1283 : decode cL_law 1283 = .ok (.iload 5, 2) := zd_dec hw20 (q := 3) rfl (by decide +kernel)
theorem dL_law_1285 : decode cL_law 1285 = .ok (.ifCond .ne 15, 3) := zd_dec hw20 (q := 5) rfl (by decide +kernel)
theorem dL_law_1300 : decode cL_law 1300 = .ok (.goto 4702, 3) := zd_dec hw20 (q := 20) rfl (by decide +kernel)
theorem dL_law_1288 : decode cL_law 1288 = .ok (.aload_n 3, 1) := zd_dec hw20 (q := 8) rfl (by decide +kernel)
theorem dL_law_1289 : decode cL_law 1289 = .ok (.iconst 0, 1) := zd_dec hw20 (q := 9) rfl (by decide +kernel)
theorem dL_law_1290 : decode cL_law 1290 = .ok (.laload, 1) := zd_dec hw20 (q := 10) rfl (by decide +kernel)
theorem dL_law_1291 : decode cL_law 1291 = .ok (.iload 6, 2) := zd_dec hw20 (q := 11) rfl (by decide +kernel)
theorem dL_law_1293 : decode cL_law 1293 = .ok (.i2l, 1) := zd_dec hw20 (q := 13) rfl (by decide +kernel)
theorem dL_law_1294 : decode cL_law 1294 = .ok (.lcmp, 1) := zd_dec hw20 (q := 14) rfl (by decide +kernel)
theorem dL_law_1295 : decode cL_law 1295 = .ok (.ifCond .eq 5, 3) := zd_dec hw20 (q := 15) rfl (by decide +kernel)
theorem dL_law_1298 : decode cL_law 1298 = .ok (.iconst 0, 1) := zd_dec hw20 (q := 18) rfl (by decide +kernel)
theorem dL_law_1299 : decode cL_law 1299 = .ok (.ireturn, 1) := zd_dec hw20 (q := 19) rfl (by decide +kernel)
theorem dL_law_1281 : decode cL_law 1281 = .ok (.iconst 0, 1) := zd_dec hw20 (q := 1) rfl (by decide +kernel)
theorem dL_law_1282 : decode cL_law 1282 = .ok (.ireturn, 1) := zd_dec hw20 (q := 2) rfl (by decide +kernel)
theorem dL_law_1303 : decode cL_law 1303 = .ok (.aload_n 1, 1) := zd_dec hw20 (q := 23) rfl (by decide +kernel)
theorem dL_law_1304 : decode cL_law 1304 = .ok (.aload_n 0, 1) := zd_dec hw20 (q := 24) rfl (by decide +kernel)
theorem dL_law_1305 : decode cL_law 1305 = .ok (.iload 4, 2) := zd_dec hw20 (q := 25) rfl (by decide +kernel)
theorem dL_law_1307 : decode cL_law 1307 = .ok (.iconst 1, 1) := zd_dec hw20 (q := 27) rfl (by decide +kernel)
theorem dL_law_1308 : decode cL_law 1308 = .ok (.iadd, 1) := zd_dec hw20 (q := 28) rfl (by decide +kernel)
theorem dL_law_1309 : decode cL_law 1309 = .ok (.iaload, 1) := zd_dec hw20 (q := 29) rfl (by decide +kernel)
theorem dL_law_1310 : decode cL_law 1310 = .ok (.i2l, 1) := zd_dec hw20 (q := 30) rfl (by decide +kernel)
theorem dL_law_1311 : decode cL_law 1311 = .ok (.bipush 32, 2) := zd_dec hw20 (q := 31) rfl (by decide +kernel)
theorem dL_law_1313 : decode cL_law 1313 = .ok (.lshl, 1) := zd_dec hw20 (q := 33) rfl (by decide +kernel)
theorem dL_law_1314 : decode cL_law 1314 = .ok (.aload_n 0, 1) := zd_dec hw20 (q := 34) rfl (by decide +kernel)
theorem dL_law_1315 : decode cL_law 1315 = .ok (.iload 4, 2) := zd_dec hw20 (q := 35) rfl (by decide +kernel)
theorem dL_law_1317 : decode cL_law 1317 = .ok (.iconst 2, 1) := zd_dec hw20 (q := 37) rfl (by decide +kernel)
theorem dL_law_1318 : decode cL_law 1318 = .ok (.iadd, 1) := zd_dec hw20 (q := 38) rfl (by decide +kernel)
theorem dL_law_1319 : decode cL_law 1319 = .ok (.iaload, 1) := zd_dec hw20 (q := 39) rfl (by decide +kernel)
theorem dL_law_1320 : decode cL_law 1320 = .ok (.i2l, 1) := zd_dec hw20 (q := 40) rfl (by decide +kernel)
theorem dL_law_1321 : decode cL_law 1321 = .ok (.ldc2_w 324, 3) := zd_dec hw20 (q := 41) rfl (by decide +kernel)
theorem dL_law_1324 : decode cL_law 1324 = .ok (.land, 1) := zd_dec hw20 (q := 44) rfl (by decide +kernel)
theorem dL_law_1325 : decode cL_law 1325 = .ok (.lor, 1) := zd_dec hw20 (q := 45) rfl (by decide +kernel)
theorem dL_law_1326 : decode cL_law 1326 = .ok (.aload_n 3, 1) := zd_dec hw20 (q := 46) rfl (by decide +kernel)
theorem dL_law_1327 : decode cL_law 1327 = .ok (.invokestatic 326, 3) := zd_dec hw20 (q := 47) rfl (by decide +kernel)
theorem dL_law_1330 : decode cL_law 1330 = .ok (.istore 5, 2) := zd_dec hw20 (q := 50) rfl (by decide +kernel)
theorem dL_law_1332 : decode cL_law 1332 = .ok (.aload_n 2, 1) := zd_dec hw20 (q := 52) rfl (by decide +kernel)
theorem dL_law_1333 : decode cL_law 1333 = .ok (.aload_n 0, 1) := zd_dec hw20 (q := 53) rfl (by decide +kernel)
theorem dL_law_1334 : decode cL_law 1334 = .ok (.iload 4, 2) := zd_dec hw20 (q := 54) rfl (by decide +kernel)
theorem dL_law_1336 : decode cL_law 1336 = .ok (.iconst 1, 1) := zd_dec hw20 (q := 56) rfl (by decide +kernel)
theorem dL_law_1337 : decode cL_law 1337 = .ok (.iadd, 1) := zd_dec hw20 (q := 57) rfl (by decide +kernel)
theorem dL_law_1338 : decode cL_law 1338 = .ok (.iaload, 1) := zd_dec hw20 (q := 58) rfl (by decide +kernel)
theorem dL_law_1339 : decode cL_law 1339 = .ok (.i2l, 1) := zd_dec hw20 (q := 59) rfl (by decide +kernel)
theorem dL_law_1340 : decode cL_law 1340 = .ok (.bipush 32, 2) := zd_dec hw20 (q := 60) rfl (by decide +kernel)
theorem dL_law_1342 : decode cL_law 1342 = .ok (.lshl, 1) := zd_dec hw20 (q := 62) rfl (by decide +kernel)
theorem dL_law_1343 : decode cL_law 1343 = .ok (.aload_n 0, 1) := zd_dec hw20 (q := 63) rfl (by decide +kernel)
theorem dL_law_1344 : decode cL_law 1344 = .ok (.iload 4, 2) := zd_dec hw21 (q := 0) rfl (by decide +kernel)
theorem dL_law_1346 : decode cL_law 1346 = .ok (.iconst 2, 1) := zd_dec hw21 (q := 2) rfl (by decide +kernel)
theorem dL_law_1347 : decode cL_law 1347 = .ok (.iadd, 1) := zd_dec hw21 (q := 3) rfl (by decide +kernel)
theorem dL_law_1348 : decode cL_law 1348 = .ok (.iaload, 1) := zd_dec hw21 (q := 4) rfl (by decide +kernel)
theorem dL_law_1349 : decode cL_law 1349 = .ok (.i2l, 1) := zd_dec hw21 (q := 5) rfl (by decide +kernel)
theorem dL_law_1350 : decode cL_law 1350 = .ok (.ldc2_w 324, 3) := zd_dec hw21 (q := 6) rfl (by decide +kernel)
theorem dL_law_1353 : decode cL_law 1353 = .ok (.land, 1) := zd_dec hw21 (q := 9) rfl (by decide +kernel)
theorem dL_law_1354 : decode cL_law 1354 = .ok (.lor, 1) := zd_dec hw21 (q := 10) rfl (by decide +kernel)
theorem dL_law_1355 : decode cL_law 1355 = .ok (.invokevirtual 329, 3) := zd_dec hw21 (q := 11) rfl (by decide +kernel)
theorem dL_law_1358 : decode cL_law 1358 = .ok (.istore 6, 2) := zd_dec hw21 (q := 14) rfl (by decide +kernel)
theorem dL_law_1360 : decode cL_law 1360 = .ok (.aload_n 2, 1) := zd_dec hw21 (q := 16) rfl (by decide +kernel)
theorem dL_law_1361 : decode cL_law 1361 = .ok (.invokevirtual 281, 3) := zd_dec hw21 (q := 17) rfl (by decide +kernel)
theorem dL_law_1364 : decode cL_law 1364 = .ok (.iload 5, 2) := zd_dec hw21 (q := 20) rfl (by decide +kernel)
theorem dL_law_1366 : decode cL_law 1366 = .ok (.if_icmp .eq 5, 3) := zd_dec hw21 (q := 22) rfl (by decide +kernel)
theorem dL_law_1371 : decode cL_law 1371 = .ok (.iload 5, 2) := zd_dec hw21 (q := 27) rfl (by decide +kernel)
theorem dL_law_1373 : decode cL_law 1373 = .ok (.ifCond .ne 15, 3) := zd_dec hw21 (q := 29) rfl (by decide +kernel)
theorem dL_law_1388 : decode cL_law 1388 = .ok (.goto 4614, 3) := zd_dec hw21 (q := 44) rfl (by decide +kernel)
theorem dL_law_1376 : decode cL_law 1376 = .ok (.aload_n 3, 1) := zd_dec hw21 (q := 32) rfl (by decide +kernel)
theorem dL_law_1377 : decode cL_law 1377 = .ok (.iconst 0, 1) := zd_dec hw21 (q := 33) rfl (by decide +kernel)
theorem dL_law_1378 : decode cL_law 1378 = .ok (.laload, 1) := zd_dec hw21 (q := 34) rfl (by decide +kernel)
theorem dL_law_1379 : decode cL_law 1379 = .ok (.iload 6, 2) := zd_dec hw21 (q := 35) rfl (by decide +kernel)
theorem dL_law_1381 : decode cL_law 1381 = .ok (.i2l, 1) := zd_dec hw21 (q := 37) rfl (by decide +kernel)
theorem dL_law_1382 : decode cL_law 1382 = .ok (.lcmp, 1) := zd_dec hw21 (q := 38) rfl (by decide +kernel)
theorem dL_law_1383 : decode cL_law 1383 = .ok (.ifCond .eq 5, 3) := zd_dec hw21 (q := 39) rfl (by decide +kernel)
theorem dL_law_1386 : decode cL_law 1386 = .ok (.iconst 0, 1) := zd_dec hw21 (q := 42) rfl (by decide +kernel)
theorem dL_law_1387 : decode cL_law 1387 = .ok (.ireturn, 1) := zd_dec hw21 (q := 43) rfl (by decide +kernel)
theorem dL_law_1369 : decode cL_law 1369 = .ok (.iconst 0, 1) := zd_dec hw21 (q := 25) rfl (by decide +kernel)
theorem dL_law_1370 : decode cL_law 1370 = .ok (.ireturn, 1) := zd_dec hw21 (q := 26) rfl (by decide +kernel)
theorem dL_law_1391 : decode cL_law 1391 = .ok (.aload_n 1, 1) := zd_dec hw21 (q := 47) rfl (by decide +kernel)
theorem dL_law_1392 : decode cL_law 1392 = .ok (.aload_n 0, 1) := zd_dec hw21 (q := 48) rfl (by decide +kernel)
theorem dL_law_1393 : decode cL_law 1393 = .ok (.iload 4, 2) := zd_dec hw21 (q := 49) rfl (by decide +kernel)
theorem dL_law_1395 : decode cL_law 1395 = .ok (.iconst 1, 1) := zd_dec hw21 (q := 51) rfl (by decide +kernel)
theorem dL_law_1396 : decode cL_law 1396 = .ok (.iadd, 1) := zd_dec hw21 (q := 52) rfl (by decide +kernel)
theorem dL_law_1397 : decode cL_law 1397 = .ok (.iaload, 1) := zd_dec hw21 (q := 53) rfl (by decide +kernel)
theorem dL_law_1398 : decode cL_law 1398 = .ok (.aload_n 3, 1) := zd_dec hw21 (q := 54) rfl (by decide +kernel)
theorem dL_law_1399 : decode cL_law 1399 = .ok (.invokestatic 330, 3) := zd_dec hw21 (q := 55) rfl (by decide +kernel)
theorem dL_law_1402 : decode cL_law 1402 = .ok (.istore 5, 2) := zd_dec hw21 (q := 58) rfl (by decide +kernel)
theorem dL_law_1404 : decode cL_law 1404 = .ok (.aload_n 2, 1) := zd_dec hw21 (q := 60) rfl (by decide +kernel)
theorem dL_law_1405 : decode cL_law 1405 = .ok (.aload_n 0, 1) := zd_dec hw21 (q := 61) rfl (by decide +kernel)
theorem dL_law_1406 : decode cL_law 1406 = .ok (.iload 4, 2) := zd_dec hw21 (q := 62) rfl (by decide +kernel)
theorem dL_law_1408 : decode cL_law 1408 = .ok (.iconst 1, 1) := zd_dec hw22 (q := 0) rfl (by decide +kernel)
theorem dL_law_1409 : decode cL_law 1409 = .ok (.iadd, 1) := zd_dec hw22 (q := 1) rfl (by decide +kernel)
theorem dL_law_1410 : decode cL_law 1410 = .ok (.iaload, 1) := zd_dec hw22 (q := 2) rfl (by decide +kernel)
theorem dL_law_1411 : decode cL_law 1411 = .ok (.invokevirtual 332, 3) := zd_dec hw22 (q := 3) rfl (by decide +kernel)
theorem dL_law_1414 : decode cL_law 1414 = .ok (.istore 6, 2) := zd_dec hw22 (q := 6) rfl (by decide +kernel)
theorem dL_law_1416 : decode cL_law 1416 = .ok (.aload_n 2, 1) := zd_dec hw22 (q := 8) rfl (by decide +kernel)
theorem dL_law_1417 : decode cL_law 1417 = .ok (.invokevirtual 281, 3) := zd_dec hw22 (q := 9) rfl (by decide +kernel)
theorem dL_law_1420 : decode cL_law 1420 = .ok (.iload 5, 2) := zd_dec hw22 (q := 12) rfl (by decide +kernel)
theorem dL_law_1422 : decode cL_law 1422 = .ok (.if_icmp .eq 5, 3) := zd_dec hw22 (q := 14) rfl (by decide +kernel)
theorem dL_law_1427 : decode cL_law 1427 = .ok (.iload 5, 2) := zd_dec hw22 (q := 19) rfl (by decide +kernel)
theorem dL_law_1429 : decode cL_law 1429 = .ok (.ifCond .ne 15, 3) := zd_dec hw22 (q := 21) rfl (by decide +kernel)
theorem dL_law_1444 : decode cL_law 1444 = .ok (.goto 4558, 3) := zd_dec hw22 (q := 36) rfl (by decide +kernel)
theorem dL_law_1432 : decode cL_law 1432 = .ok (.aload_n 3, 1) := zd_dec hw22 (q := 24) rfl (by decide +kernel)
theorem dL_law_1433 : decode cL_law 1433 = .ok (.iconst 0, 1) := zd_dec hw22 (q := 25) rfl (by decide +kernel)
theorem dL_law_1434 : decode cL_law 1434 = .ok (.laload, 1) := zd_dec hw22 (q := 26) rfl (by decide +kernel)
theorem dL_law_1435 : decode cL_law 1435 = .ok (.iload 6, 2) := zd_dec hw22 (q := 27) rfl (by decide +kernel)
theorem dL_law_1437 : decode cL_law 1437 = .ok (.i2l, 1) := zd_dec hw22 (q := 29) rfl (by decide +kernel)
theorem dL_law_1438 : decode cL_law 1438 = .ok (.lcmp, 1) := zd_dec hw22 (q := 30) rfl (by decide +kernel)
theorem dL_law_1439 : decode cL_law 1439 = .ok (.ifCond .eq 5, 3) := zd_dec hw22 (q := 31) rfl (by decide +kernel)
theorem dL_law_1442 : decode cL_law 1442 = .ok (.iconst 0, 1) := zd_dec hw22 (q := 34) rfl (by decide +kernel)
theorem dL_law_1443 : decode cL_law 1443 = .ok (.ireturn, 1) := zd_dec hw22 (q := 35) rfl (by decide +kernel)
theorem dL_law_1425 : decode cL_law 1425 = .ok (.iconst 0, 1) := zd_dec hw22 (q := 17) rfl (by decide +kernel)
theorem dL_law_1426 : decode cL_law 1426 = .ok (.ireturn, 1) := zd_dec hw22 (q := 18) rfl (by decide +kernel)
theorem dL_law_1447 : decode cL_law 1447 = .ok (.aload_n 1, 1) := zd_dec hw22 (q := 39) rfl (by decide +kernel)
theorem dL_law_1448 : decode cL_law 1448 = .ok (.invokevirtual 333, 3) := zd_dec hw22 (q := 40) rfl (by decide +kernel)
theorem dL_law_1451 : decode cL_law 1451 = .ok (.aload_n 2, 1) := zd_dec hw22 (q := 43) rfl (by decide +kernel)
theorem dL_law_1452 : decode cL_law 1452 = .ok (.invokevirtual 336, 3) := zd_dec hw22 (q := 44) rfl (by decide +kernel)
theorem dL_law_1455 : decode cL_law 1455 = .ok (.if_icmp .eq 4547, 3) := zd_dec hw22 (q := 47) rfl (by decide +kernel)
theorem dL_law_1458 : decode cL_law 1458 = .ok (.iconst 0, 1) := zd_dec hw22 (q := 50) rfl (by decide +kernel)
theorem dL_law_1459 : decode cL_law 1459 = .ok (.ireturn, 1) := zd_dec hw22 (q := 51) rfl (by decide +kernel)
theorem dL_law_1460 : decode cL_law 1460 = .ok (.aload_n 1, 1) := zd_dec hw22 (q := 52) rfl (by decide +kernel)
theorem dL_law_1461 : decode cL_law 1461 = .ok (.aload_n 0, 1) := zd_dec hw22 (q := 53) rfl (by decide +kernel)
theorem dL_law_1462 : decode cL_law 1462 = .ok (.iload 4, 2) := zd_dec hw22 (q := 54) rfl (by decide +kernel)
theorem dL_law_1464 : decode cL_law 1464 = .ok (.iconst 1, 1) := zd_dec hw22 (q := 56) rfl (by decide +kernel)
theorem dL_law_1465 : decode cL_law 1465 = .ok (.iadd, 1) := zd_dec hw22 (q := 57) rfl (by decide +kernel)
theorem dL_law_1466 : decode cL_law 1466 = .ok (.iaload, 1) := zd_dec hw22 (q := 58) rfl (by decide +kernel)
theorem dL_law_1467 : decode cL_law 1467 = .ok (.i2l, 1) := zd_dec hw22 (q := 59) rfl (by decide +kernel)
theorem dL_law_1468 : decode cL_law 1468 = .ok (.bipush 32, 2) := zd_dec hw22 (q := 60) rfl (by decide +kernel)
theorem dL_law_1470 : decode cL_law 1470 = .ok (.lshl, 1) := zd_dec hw22 (q := 62) rfl (by decide +kernel)
theorem dL_law_1471 : decode cL_law 1471 = .ok (.aload_n 0, 1) := zd_dec hw22 (q := 63) rfl (by decide +kernel)
theorem dL_law_1472 : decode cL_law 1472 = .ok (.iload 4, 2) := zd_dec hw23 (q := 0) rfl (by decide +kernel)
theorem dL_law_1474 : decode cL_law 1474 = .ok (.iconst 2, 1) := zd_dec hw23 (q := 2) rfl (by decide +kernel)
theorem dL_law_1475 : decode cL_law 1475 = .ok (.iadd, 1) := zd_dec hw23 (q := 3) rfl (by decide +kernel)
theorem dL_law_1476 : decode cL_law 1476 = .ok (.iaload, 1) := zd_dec hw23 (q := 4) rfl (by decide +kernel)
theorem dL_law_1477 : decode cL_law 1477 = .ok (.i2l, 1) := zd_dec hw23 (q := 5) rfl (by decide +kernel)
theorem dL_law_1478 : decode cL_law 1478 = .ok (.ldc2_w 324, 3) := zd_dec hw23 (q := 6) rfl (by decide +kernel)
theorem dL_law_1481 : decode cL_law 1481 = .ok (.land, 1) := zd_dec hw23 (q := 9) rfl (by decide +kernel)
theorem dL_law_1482 : decode cL_law 1482 = .ok (.lor, 1) := zd_dec hw23 (q := 10) rfl (by decide +kernel)
theorem dL_law_1483 : decode cL_law 1483 = .ok (.aload_n 0, 1) := zd_dec hw23 (q := 11) rfl (by decide +kernel)
theorem dL_law_1484 : decode cL_law 1484 = .ok (.iload 4, 2) := zd_dec hw23 (q := 12) rfl (by decide +kernel)
theorem dL_law_1486 : decode cL_law 1486 = .ok (.iconst 3, 1) := zd_dec hw23 (q := 14) rfl (by decide +kernel)
theorem dL_law_1487 : decode cL_law 1487 = .ok (.iadd, 1) := zd_dec hw23 (q := 15) rfl (by decide +kernel)
theorem dL_law_1488 : decode cL_law 1488 = .ok (.iaload, 1) := zd_dec hw23 (q := 16) rfl (by decide +kernel)
theorem dL_law_1489 : decode cL_law 1489 = .ok (.aload_n 3, 1) := zd_dec hw23 (q := 17) rfl (by decide +kernel)
theorem dL_law_1490 : decode cL_law 1490 = .ok (.invokestatic 337, 3) := zd_dec hw23 (q := 18) rfl (by decide +kernel)
theorem dL_law_1493 : decode cL_law 1493 = .ok (.istore 5, 2) := zd_dec hw23 (q := 21) rfl (by decide +kernel)
theorem dL_law_1495 : decode cL_law 1495 = .ok (.aload_n 2, 1) := zd_dec hw23 (q := 23) rfl (by decide +kernel)
theorem dL_law_1496 : decode cL_law 1496 = .ok (.aload_n 0, 1) := zd_dec hw23 (q := 24) rfl (by decide +kernel)
theorem dL_law_1497 : decode cL_law 1497 = .ok (.iload 4, 2) := zd_dec hw23 (q := 25) rfl (by decide +kernel)
theorem dL_law_1499 : decode cL_law 1499 = .ok (.iconst 1, 1) := zd_dec hw23 (q := 27) rfl (by decide +kernel)
theorem dL_law_1500 : decode cL_law 1500 = .ok (.iadd, 1) := zd_dec hw23 (q := 28) rfl (by decide +kernel)
theorem dL_law_1501 : decode cL_law 1501 = .ok (.iaload, 1) := zd_dec hw23 (q := 29) rfl (by decide +kernel)
theorem dL_law_1502 : decode cL_law 1502 = .ok (.i2l, 1) := zd_dec hw23 (q := 30) rfl (by decide +kernel)
theorem dL_law_1503 : decode cL_law 1503 = .ok (.bipush 32, 2) := zd_dec hw23 (q := 31) rfl (by decide +kernel)
theorem dL_law_1505 : decode cL_law 1505 = .ok (.lshl, 1) := zd_dec hw23 (q := 33) rfl (by decide +kernel)
theorem dL_law_1506 : decode cL_law 1506 = .ok (.aload_n 0, 1) := zd_dec hw23 (q := 34) rfl (by decide +kernel)
theorem dL_law_1507 : decode cL_law 1507 = .ok (.iload 4, 2) := zd_dec hw23 (q := 35) rfl (by decide +kernel)
theorem dL_law_1509 : decode cL_law 1509 = .ok (.iconst 2, 1) := zd_dec hw23 (q := 37) rfl (by decide +kernel)
theorem dL_law_1510 : decode cL_law 1510 = .ok (.iadd, 1) := zd_dec hw23 (q := 38) rfl (by decide +kernel)
theorem dL_law_1511 : decode cL_law 1511 = .ok (.iaload, 1) := zd_dec hw23 (q := 39) rfl (by decide +kernel)
theorem dL_law_1512 : decode cL_law 1512 = .ok (.i2l, 1) := zd_dec hw23 (q := 40) rfl (by decide +kernel)
theorem dL_law_1513 : decode cL_law 1513 = .ok (.ldc2_w 324, 3) := zd_dec hw23 (q := 41) rfl (by decide +kernel)
theorem dL_law_1516 : decode cL_law 1516 = .ok (.land, 1) := zd_dec hw23 (q := 44) rfl (by decide +kernel)
theorem dL_law_1517 : decode cL_law 1517 = .ok (.lor, 1) := zd_dec hw23 (q := 45) rfl (by decide +kernel)
theorem dL_law_1518 : decode cL_law 1518 = .ok (.aload_n 0, 1) := zd_dec hw23 (q := 46) rfl (by decide +kernel)
theorem dL_law_1519 : decode cL_law 1519 = .ok (.iload 4, 2) := zd_dec hw23 (q := 47) rfl (by decide +kernel)
theorem dL_law_1521 : decode cL_law 1521 = .ok (.iconst 3, 1) := zd_dec hw23 (q := 49) rfl (by decide +kernel)
theorem dL_law_1522 : decode cL_law 1522 = .ok (.iadd, 1) := zd_dec hw23 (q := 50) rfl (by decide +kernel)
theorem dL_law_1523 : decode cL_law 1523 = .ok (.iaload, 1) := zd_dec hw23 (q := 51) rfl (by decide +kernel)
theorem dL_law_1524 : decode cL_law 1524 = .ok (.invokevirtual 340, 3) := zd_dec hw23 (q := 52) rfl (by decide +kernel)
theorem dL_law_1527 : decode cL_law 1527 = .ok (.lstore 6, 2) := zd_dec hw23 (q := 55) rfl (by decide +kernel)
theorem dL_law_1529 : decode cL_law 1529 = .ok (.aload_n 2, 1) := zd_dec hw23 (q := 57) rfl (by decide +kernel)
theorem dL_law_1530 : decode cL_law 1530 = .ok (.invokevirtual 281, 3) := zd_dec hw23 (q := 58) rfl (by decide +kernel)
theorem dL_law_1533 : decode cL_law 1533 = .ok (.iload 5, 2) := zd_dec hw23 (q := 61) rfl (by decide +kernel)
theorem dL_law_1535 : decode cL_law 1535 = .ok (.if_icmp .eq 5, 3) := zd_dec hw23 (q := 63) rfl (by decide +kernel)
theorem dL_law_1540 : decode cL_law 1540 = .ok (.iload 5, 2) := zd_dec hw24 (q := 4) rfl (by decide +kernel)
theorem dL_law_1542 : decode cL_law 1542 = .ok (.ifCond .ne 14, 3) := zd_dec hw24 (q := 6) rfl (by decide +kernel)
theorem dL_law_1556 : decode cL_law 1556 = .ok (.goto 4446, 3) := zd_dec hw24 (q := 20) rfl (by decide +kernel)
theorem dL_law_1545 : decode cL_law 1545 = .ok (.aload_n 3, 1) := zd_dec hw24 (q := 9) rfl (by decide +kernel)
theorem dL_law_1546 : decode cL_law 1546 = .ok (.iconst 0, 1) := zd_dec hw24 (q := 10) rfl (by decide +kernel)
theorem dL_law_1547 : decode cL_law 1547 = .ok (.laload, 1) := zd_dec hw24 (q := 11) rfl (by decide +kernel)
theorem dL_law_1548 : decode cL_law 1548 = .ok (.lload 6, 2) := zd_dec hw24 (q := 12) rfl (by decide +kernel)
theorem dL_law_1550 : decode cL_law 1550 = .ok (.lcmp, 1) := zd_dec hw24 (q := 14) rfl (by decide +kernel)
theorem dL_law_1551 : decode cL_law 1551 = .ok (.ifCond .eq 5, 3) := zd_dec hw24 (q := 15) rfl (by decide +kernel)
theorem dL_law_1554 : decode cL_law 1554 = .ok (.iconst 0, 1) := zd_dec hw24 (q := 18) rfl (by decide +kernel)
theorem dL_law_1555 : decode cL_law 1555 = .ok (.ireturn, 1) := zd_dec hw24 (q := 19) rfl (by decide +kernel)
theorem dL_law_1538 : decode cL_law 1538 = .ok (.iconst 0, 1) := zd_dec hw24 (q := 2) rfl (by decide +kernel)
theorem dL_law_1539 : decode cL_law 1539 = .ok (.ireturn, 1) := zd_dec hw24 (q := 3) rfl (by decide +kernel)
theorem dL_law_1559 : decode cL_law 1559 = .ok (.aload_n 1, 1) := zd_dec hw24 (q := 23) rfl (by decide +kernel)
theorem dL_law_1560 : decode cL_law 1560 = .ok (.aload_n 0, 1) := zd_dec hw24 (q := 24) rfl (by decide +kernel)
theorem dL_law_1561 : decode cL_law 1561 = .ok (.iload 4, 2) := zd_dec hw24 (q := 25) rfl (by decide +kernel)
theorem dL_law_1563 : decode cL_law 1563 = .ok (.iconst 1, 1) := zd_dec hw24 (q := 27) rfl (by decide +kernel)
theorem dL_law_1564 : decode cL_law 1564 = .ok (.iadd, 1) := zd_dec hw24 (q := 28) rfl (by decide +kernel)
theorem dL_law_1565 : decode cL_law 1565 = .ok (.iaload, 1) := zd_dec hw24 (q := 29) rfl (by decide +kernel)
theorem dL_law_1566 : decode cL_law 1566 = .ok (.aload_n 0, 1) := zd_dec hw24 (q := 30) rfl (by decide +kernel)
theorem dL_law_1567 : decode cL_law 1567 = .ok (.iload 4, 2) := zd_dec hw24 (q := 31) rfl (by decide +kernel)
theorem dL_law_1569 : decode cL_law 1569 = .ok (.iconst 2, 1) := zd_dec hw24 (q := 33) rfl (by decide +kernel)
theorem dL_law_1570 : decode cL_law 1570 = .ok (.iadd, 1) := zd_dec hw24 (q := 34) rfl (by decide +kernel)
theorem dL_law_1571 : decode cL_law 1571 = .ok (.iaload, 1) := zd_dec hw24 (q := 35) rfl (by decide +kernel)
theorem dL_law_1572 : decode cL_law 1572 = .ok (.aload_n 0, 1) := zd_dec hw24 (q := 36) rfl (by decide +kernel)
theorem dL_law_1573 : decode cL_law 1573 = .ok (.iload 4, 2) := zd_dec hw24 (q := 37) rfl (by decide +kernel)
theorem dL_law_1575 : decode cL_law 1575 = .ok (.iconst 3, 1) := zd_dec hw24 (q := 39) rfl (by decide +kernel)
theorem dL_law_1576 : decode cL_law 1576 = .ok (.iadd, 1) := zd_dec hw24 (q := 40) rfl (by decide +kernel)
theorem dL_law_1577 : decode cL_law 1577 = .ok (.iaload, 1) := zd_dec hw24 (q := 41) rfl (by decide +kernel)
theorem dL_law_1578 : decode cL_law 1578 = .ok (.i2l, 1) := zd_dec hw24 (q := 42) rfl (by decide +kernel)
theorem dL_law_1579 : decode cL_law 1579 = .ok (.bipush 32, 2) := zd_dec hw24 (q := 43) rfl (by decide +kernel)
theorem dL_law_1581 : decode cL_law 1581 = .ok (.lshl, 1) := zd_dec hw24 (q := 45) rfl (by decide +kernel)
theorem dL_law_1582 : decode cL_law 1582 = .ok (.aload_n 0, 1) := zd_dec hw24 (q := 46) rfl (by decide +kernel)
theorem dL_law_1583 : decode cL_law 1583 = .ok (.iload 4, 2) := zd_dec hw24 (q := 47) rfl (by decide +kernel)
theorem dL_law_1585 : decode cL_law 1585 = .ok (.iconst 4, 1) := zd_dec hw24 (q := 49) rfl (by decide +kernel)
theorem dL_law_1586 : decode cL_law 1586 = .ok (.iadd, 1) := zd_dec hw24 (q := 50) rfl (by decide +kernel)
theorem dL_law_1587 : decode cL_law 1587 = .ok (.iaload, 1) := zd_dec hw24 (q := 51) rfl (by decide +kernel)
theorem dL_law_1588 : decode cL_law 1588 = .ok (.i2l, 1) := zd_dec hw24 (q := 52) rfl (by decide +kernel)
theorem dL_law_1589 : decode cL_law 1589 = .ok (.ldc2_w 324, 3) := zd_dec hw24 (q := 53) rfl (by decide +kernel)
theorem dL_law_1592 : decode cL_law 1592 = .ok (.land, 1) := zd_dec hw24 (q := 56) rfl (by decide +kernel)
theorem dL_law_1593 : decode cL_law 1593 = .ok (.lor, 1) := zd_dec hw24 (q := 57) rfl (by decide +kernel)
theorem dL_law_1594 : decode cL_law 1594 = .ok (.aload_n 3, 1) := zd_dec hw24 (q := 58) rfl (by decide +kernel)
theorem dL_law_1595 : decode cL_law 1595 = .ok (.invokestatic 341, 3) := zd_dec hw24 (q := 59) rfl (by decide +kernel)
theorem dL_law_1598 : decode cL_law 1598 = .ok (.istore 5, 2) := zd_dec hw24 (q := 62) rfl (by decide +kernel)
theorem dL_law_1600 : decode cL_law 1600 = .ok (.aload_n 2, 1) := zd_dec hw25 (q := 0) rfl (by decide +kernel)
theorem dL_law_1601 : decode cL_law 1601 = .ok (.aload_n 0, 1) := zd_dec hw25 (q := 1) rfl (by decide +kernel)
theorem dL_law_1602 : decode cL_law 1602 = .ok (.iload 4, 2) := zd_dec hw25 (q := 2) rfl (by decide +kernel)
theorem dL_law_1604 : decode cL_law 1604 = .ok (.iconst 1, 1) := zd_dec hw25 (q := 4) rfl (by decide +kernel)
theorem dL_law_1605 : decode cL_law 1605 = .ok (.iadd, 1) := zd_dec hw25 (q := 5) rfl (by decide +kernel)
theorem dL_law_1606 : decode cL_law 1606 = .ok (.iaload, 1) := zd_dec hw25 (q := 6) rfl (by decide +kernel)
theorem dL_law_1607 : decode cL_law 1607 = .ok (.aload_n 0, 1) := zd_dec hw25 (q := 7) rfl (by decide +kernel)
theorem dL_law_1608 : decode cL_law 1608 = .ok (.iload 4, 2) := zd_dec hw25 (q := 8) rfl (by decide +kernel)
theorem dL_law_1610 : decode cL_law 1610 = .ok (.iconst 2, 1) := zd_dec hw25 (q := 10) rfl (by decide +kernel)
theorem dL_law_1611 : decode cL_law 1611 = .ok (.iadd, 1) := zd_dec hw25 (q := 11) rfl (by decide +kernel)
theorem dL_law_1612 : decode cL_law 1612 = .ok (.iaload, 1) := zd_dec hw25 (q := 12) rfl (by decide +kernel)
theorem dL_law_1613 : decode cL_law 1613 = .ok (.aload_n 0, 1) := zd_dec hw25 (q := 13) rfl (by decide +kernel)
theorem dL_law_1614 : decode cL_law 1614 = .ok (.iload 4, 2) := zd_dec hw25 (q := 14) rfl (by decide +kernel)
theorem dL_law_1616 : decode cL_law 1616 = .ok (.iconst 3, 1) := zd_dec hw25 (q := 16) rfl (by decide +kernel)
theorem dL_law_1617 : decode cL_law 1617 = .ok (.iadd, 1) := zd_dec hw25 (q := 17) rfl (by decide +kernel)
theorem dL_law_1618 : decode cL_law 1618 = .ok (.iaload, 1) := zd_dec hw25 (q := 18) rfl (by decide +kernel)
theorem dL_law_1619 : decode cL_law 1619 = .ok (.i2l, 1) := zd_dec hw25 (q := 19) rfl (by decide +kernel)
theorem dL_law_1620 : decode cL_law 1620 = .ok (.bipush 32, 2) := zd_dec hw25 (q := 20) rfl (by decide +kernel)
theorem dL_law_1622 : decode cL_law 1622 = .ok (.lshl, 1) := zd_dec hw25 (q := 22) rfl (by decide +kernel)
theorem dL_law_1623 : decode cL_law 1623 = .ok (.aload_n 0, 1) := zd_dec hw25 (q := 23) rfl (by decide +kernel)
theorem dL_law_1624 : decode cL_law 1624 = .ok (.iload 4, 2) := zd_dec hw25 (q := 24) rfl (by decide +kernel)
theorem dL_law_1626 : decode cL_law 1626 = .ok (.iconst 4, 1) := zd_dec hw25 (q := 26) rfl (by decide +kernel)
theorem dL_law_1627 : decode cL_law 1627 = .ok (.iadd, 1) := zd_dec hw25 (q := 27) rfl (by decide +kernel)
theorem dL_law_1628 : decode cL_law 1628 = .ok (.iaload, 1) := zd_dec hw25 (q := 28) rfl (by decide +kernel)
theorem dL_law_1629 : decode cL_law 1629 = .ok (.i2l, 1) := zd_dec hw25 (q := 29) rfl (by decide +kernel)
theorem dL_law_1630 : decode cL_law 1630 = .ok (.ldc2_w 324, 3) := zd_dec hw25 (q := 30) rfl (by decide +kernel)
theorem dL_law_1633 : decode cL_law 1633 = .ok (.land, 1) := zd_dec hw25 (q := 33) rfl (by decide +kernel)
theorem dL_law_1634 : decode cL_law 1634 = .ok (.lor, 1) := zd_dec hw25 (q := 34) rfl (by decide +kernel)
theorem dL_law_1635 : decode cL_law 1635 = .ok (.invokevirtual 344, 3) := zd_dec hw25 (q := 35) rfl (by decide +kernel)
theorem dL_law_1638 : decode cL_law 1638 = .ok (.istore 6, 2) := zd_dec hw25 (q := 38) rfl (by decide +kernel)
theorem dL_law_1640 : decode cL_law 1640 = .ok (.aload_n 2, 1) := zd_dec hw25 (q := 40) rfl (by decide +kernel)
theorem dL_law_1641 : decode cL_law 1641 = .ok (.invokevirtual 281, 3) := zd_dec hw25 (q := 41) rfl (by decide +kernel)
theorem dL_law_1644 : decode cL_law 1644 = .ok (.iload 5, 2) := zd_dec hw25 (q := 44) rfl (by decide +kernel)
theorem dL_law_1646 : decode cL_law 1646 = .ok (.if_icmp .eq 5, 3) := zd_dec hw25 (q := 46) rfl (by decide +kernel)
theorem dL_law_1651 : decode cL_law 1651 = .ok (.iload 5, 2) := zd_dec hw25 (q := 51) rfl (by decide +kernel)
theorem dL_law_1653 : decode cL_law 1653 = .ok (.ifCond .ne 15, 3) := zd_dec hw25 (q := 53) rfl (by decide +kernel)
theorem dL_law_1668 : decode cL_law 1668 = .ok (.goto 4334, 3) := zd_dec hw26 (q := 4) rfl (by decide +kernel)
theorem dL_law_1656 : decode cL_law 1656 = .ok (.aload_n 3, 1) := zd_dec hw25 (q := 56) rfl (by decide +kernel)
theorem dL_law_1657 : decode cL_law 1657 = .ok (.iconst 0, 1) := zd_dec hw25 (q := 57) rfl (by decide +kernel)
theorem dL_law_1658 : decode cL_law 1658 = .ok (.laload, 1) := zd_dec hw25 (q := 58) rfl (by decide +kernel)
theorem dL_law_1659 : decode cL_law 1659 = .ok (.iload 6, 2) := zd_dec hw25 (q := 59) rfl (by decide +kernel)
theorem dL_law_1661 : decode cL_law 1661 = .ok (.i2l, 1) := zd_dec hw25 (q := 61) rfl (by decide +kernel)
theorem dL_law_1662 : decode cL_law 1662 = .ok (.lcmp, 1) := zd_dec hw25 (q := 62) rfl (by decide +kernel)
theorem dL_law_1663 : decode cL_law 1663 = .ok (.ifCond .eq 5, 3) := zd_dec hw25 (q := 63) rfl (by decide +kernel)
theorem dL_law_1666 : decode cL_law 1666 = .ok (.iconst 0, 1) := zd_dec hw26 (q := 2) rfl (by decide +kernel)
theorem dL_law_1667 : decode cL_law 1667 = .ok (.ireturn, 1) := zd_dec hw26 (q := 3) rfl (by decide +kernel)
theorem dL_law_1649 : decode cL_law 1649 = .ok (.iconst 0, 1) := zd_dec hw25 (q := 49) rfl (by decide +kernel)
theorem dL_law_1650 : decode cL_law 1650 = .ok (.ireturn, 1) := zd_dec hw25 (q := 50) rfl (by decide +kernel)
theorem dL_law_1671 : decode cL_law 1671 = .ok (.aload_n 1, 1) := zd_dec hw26 (q := 7) rfl (by decide +kernel)
theorem dL_law_1672 : decode cL_law 1672 = .ok (.aload_n 0, 1) := zd_dec hw26 (q := 8) rfl (by decide +kernel)
theorem dL_law_1673 : decode cL_law 1673 = .ok (.iload 4, 2) := zd_dec hw26 (q := 9) rfl (by decide +kernel)
theorem dL_law_1675 : decode cL_law 1675 = .ok (.iconst 1, 1) := zd_dec hw26 (q := 11) rfl (by decide +kernel)
theorem dL_law_1676 : decode cL_law 1676 = .ok (.iadd, 1) := zd_dec hw26 (q := 12) rfl (by decide +kernel)
theorem dL_law_1677 : decode cL_law 1677 = .ok (.iaload, 1) := zd_dec hw26 (q := 13) rfl (by decide +kernel)
theorem dL_law_1678 : decode cL_law 1678 = .ok (.aload_n 3, 1) := zd_dec hw26 (q := 14) rfl (by decide +kernel)
theorem dL_law_1679 : decode cL_law 1679 = .ok (.invokestatic 345, 3) := zd_dec hw26 (q := 15) rfl (by decide +kernel)
theorem dL_law_1682 : decode cL_law 1682 = .ok (.istore 5, 2) := zd_dec hw26 (q := 18) rfl (by decide +kernel)
theorem dL_law_1684 : decode cL_law 1684 = .ok (.aload_n 2, 1) := zd_dec hw26 (q := 20) rfl (by decide +kernel)
theorem dL_law_1685 : decode cL_law 1685 = .ok (.aload_n 0, 1) := zd_dec hw26 (q := 21) rfl (by decide +kernel)
theorem dL_law_1686 : decode cL_law 1686 = .ok (.iload 4, 2) := zd_dec hw26 (q := 22) rfl (by decide +kernel)
theorem dL_law_1688 : decode cL_law 1688 = .ok (.iconst 1, 1) := zd_dec hw26 (q := 24) rfl (by decide +kernel)
theorem dL_law_1689 : decode cL_law 1689 = .ok (.iadd, 1) := zd_dec hw26 (q := 25) rfl (by decide +kernel)
theorem dL_law_1690 : decode cL_law 1690 = .ok (.iaload, 1) := zd_dec hw26 (q := 26) rfl (by decide +kernel)
theorem dL_law_1691 : decode cL_law 1691 = .ok (.invokevirtual 347, 3) := zd_dec hw26 (q := 27) rfl (by decide +kernel)
theorem dL_law_1694 : decode cL_law 1694 = .ok (.istore 6, 2) := zd_dec hw26 (q := 30) rfl (by decide +kernel)
theorem dL_law_1696 : decode cL_law 1696 = .ok (.aload_n 2, 1) := zd_dec hw26 (q := 32) rfl (by decide +kernel)
theorem dL_law_1697 : decode cL_law 1697 = .ok (.invokevirtual 281, 3) := zd_dec hw26 (q := 33) rfl (by decide +kernel)
theorem dL_law_1700 : decode cL_law 1700 = .ok (.iload 5, 2) := zd_dec hw26 (q := 36) rfl (by decide +kernel)
theorem dL_law_1702 : decode cL_law 1702 = .ok (.if_icmp .eq 5, 3) := zd_dec hw26 (q := 38) rfl (by decide +kernel)
theorem dL_law_1707 : decode cL_law 1707 = .ok (.iload 5, 2) := zd_dec hw26 (q := 43) rfl (by decide +kernel)
theorem dL_law_1709 : decode cL_law 1709 = .ok (.ifCond .ne 15, 3) := zd_dec hw26 (q := 45) rfl (by decide +kernel)
theorem dL_law_1724 : decode cL_law 1724 = .ok (.goto 4278, 3) := zd_dec hw26 (q := 60) rfl (by decide +kernel)
theorem dL_law_1712 : decode cL_law 1712 = .ok (.aload_n 3, 1) := zd_dec hw26 (q := 48) rfl (by decide +kernel)
theorem dL_law_1713 : decode cL_law 1713 = .ok (.iconst 0, 1) := zd_dec hw26 (q := 49) rfl (by decide +kernel)
theorem dL_law_1714 : decode cL_law 1714 = .ok (.laload, 1) := zd_dec hw26 (q := 50) rfl (by decide +kernel)
theorem dL_law_1715 : decode cL_law 1715 = .ok (.iload 6, 2) := zd_dec hw26 (q := 51) rfl (by decide +kernel)
theorem dL_law_1717 : decode cL_law 1717 = .ok (.i2l, 1) := zd_dec hw26 (q := 53) rfl (by decide +kernel)
theorem dL_law_1718 : decode cL_law 1718 = .ok (.lcmp, 1) := zd_dec hw26 (q := 54) rfl (by decide +kernel)
theorem dL_law_1719 : decode cL_law 1719 = .ok (.ifCond .eq 5, 3) := zd_dec hw26 (q := 55) rfl (by decide +kernel)
theorem dL_law_1722 : decode cL_law 1722 = .ok (.iconst 0, 1) := zd_dec hw26 (q := 58) rfl (by decide +kernel)
theorem dL_law_1723 : decode cL_law 1723 = .ok (.ireturn, 1) := zd_dec hw26 (q := 59) rfl (by decide +kernel)
theorem dL_law_1705 : decode cL_law 1705 = .ok (.iconst 0, 1) := zd_dec hw26 (q := 41) rfl (by decide +kernel)
theorem dL_law_1706 : decode cL_law 1706 = .ok (.ireturn, 1) := zd_dec hw26 (q := 42) rfl (by decide +kernel)
theorem dL_law_1727 : decode cL_law 1727 = .ok (.aload_n 1, 1) := zd_dec hw26 (q := 63) rfl (by decide +kernel)
theorem dL_law_1728 : decode cL_law 1728 = .ok (.aload_n 0, 1) := zd_dec hw27 (q := 0) rfl (by decide +kernel)
theorem dL_law_1729 : decode cL_law 1729 = .ok (.iload 4, 2) := zd_dec hw27 (q := 1) rfl (by decide +kernel)
theorem dL_law_1731 : decode cL_law 1731 = .ok (.iconst 1, 1) := zd_dec hw27 (q := 3) rfl (by decide +kernel)
theorem dL_law_1732 : decode cL_law 1732 = .ok (.iadd, 1) := zd_dec hw27 (q := 4) rfl (by decide +kernel)
theorem dL_law_1733 : decode cL_law 1733 = .ok (.iaload, 1) := zd_dec hw27 (q := 5) rfl (by decide +kernel)
theorem dL_law_1734 : decode cL_law 1734 = .ok (.aload_n 0, 1) := zd_dec hw27 (q := 6) rfl (by decide +kernel)
theorem dL_law_1735 : decode cL_law 1735 = .ok (.iload 4, 2) := zd_dec hw27 (q := 7) rfl (by decide +kernel)
theorem dL_law_1737 : decode cL_law 1737 = .ok (.iconst 2, 1) := zd_dec hw27 (q := 9) rfl (by decide +kernel)
theorem dL_law_1738 : decode cL_law 1738 = .ok (.iadd, 1) := zd_dec hw27 (q := 10) rfl (by decide +kernel)
theorem dL_law_1739 : decode cL_law 1739 = .ok (.iaload, 1) := zd_dec hw27 (q := 11) rfl (by decide +kernel)
theorem dL_law_1740 : decode cL_law 1740 = .ok (.aload_n 3, 1) := zd_dec hw27 (q := 12) rfl (by decide +kernel)
theorem dL_law_1741 : decode cL_law 1741 = .ok (.invokestatic 348, 3) := zd_dec hw27 (q := 13) rfl (by decide +kernel)
theorem dL_law_1744 : decode cL_law 1744 = .ok (.istore 5, 2) := zd_dec hw27 (q := 16) rfl (by decide +kernel)
theorem dL_law_1746 : decode cL_law 1746 = .ok (.aload_n 2, 1) := zd_dec hw27 (q := 18) rfl (by decide +kernel)
theorem dL_law_1747 : decode cL_law 1747 = .ok (.aload_n 0, 1) := zd_dec hw27 (q := 19) rfl (by decide +kernel)
theorem dL_law_1748 : decode cL_law 1748 = .ok (.iload 4, 2) := zd_dec hw27 (q := 20) rfl (by decide +kernel)
theorem dL_law_1750 : decode cL_law 1750 = .ok (.iconst 1, 1) := zd_dec hw27 (q := 22) rfl (by decide +kernel)
theorem dL_law_1751 : decode cL_law 1751 = .ok (.iadd, 1) := zd_dec hw27 (q := 23) rfl (by decide +kernel)
theorem dL_law_1752 : decode cL_law 1752 = .ok (.iaload, 1) := zd_dec hw27 (q := 24) rfl (by decide +kernel)
theorem dL_law_1753 : decode cL_law 1753 = .ok (.aload_n 0, 1) := zd_dec hw27 (q := 25) rfl (by decide +kernel)
theorem dL_law_1754 : decode cL_law 1754 = .ok (.iload 4, 2) := zd_dec hw27 (q := 26) rfl (by decide +kernel)
theorem dL_law_1756 : decode cL_law 1756 = .ok (.iconst 2, 1) := zd_dec hw27 (q := 28) rfl (by decide +kernel)
theorem dL_law_1757 : decode cL_law 1757 = .ok (.iadd, 1) := zd_dec hw27 (q := 29) rfl (by decide +kernel)
theorem dL_law_1758 : decode cL_law 1758 = .ok (.iaload, 1) := zd_dec hw27 (q := 30) rfl (by decide +kernel)
theorem dL_law_1759 : decode cL_law 1759 = .ok (.invokevirtual 350, 3) := zd_dec hw27 (q := 31) rfl (by decide +kernel)
theorem dL_law_1762 : decode cL_law 1762 = .ok (.lstore 6, 2) := zd_dec hw27 (q := 34) rfl (by decide +kernel)
theorem dL_law_1764 : decode cL_law 1764 = .ok (.aload_n 2, 1) := zd_dec hw27 (q := 36) rfl (by decide +kernel)
theorem dL_law_1765 : decode cL_law 1765 = .ok (.invokevirtual 281, 3) := zd_dec hw27 (q := 37) rfl (by decide +kernel)
theorem dL_law_1768 : decode cL_law 1768 = .ok (.iload 5, 2) := zd_dec hw27 (q := 40) rfl (by decide +kernel)
theorem dL_law_1770 : decode cL_law 1770 = .ok (.if_icmp .eq 5, 3) := zd_dec hw27 (q := 42) rfl (by decide +kernel)
theorem dL_law_1775 : decode cL_law 1775 = .ok (.iload 5, 2) := zd_dec hw27 (q := 47) rfl (by decide +kernel)
theorem dL_law_1777 : decode cL_law 1777 = .ok (.ifCond .ne 14, 3) := zd_dec hw27 (q := 49) rfl (by decide +kernel)
theorem dL_law_1791 : decode cL_law 1791 = .ok (.goto 4211, 3) := zd_dec hw27 (q := 63) rfl (by decide +kernel)
theorem dL_law_1780 : decode cL_law 1780 = .ok (.aload_n 3, 1) := zd_dec hw27 (q := 52) rfl (by decide +kernel)
theorem dL_law_1781 : decode cL_law 1781 = .ok (.iconst 0, 1) := zd_dec hw27 (q := 53) rfl (by decide +kernel)
theorem dL_law_1782 : decode cL_law 1782 = .ok (.laload, 1) := zd_dec hw27 (q := 54) rfl (by decide +kernel)
theorem dL_law_1783 : decode cL_law 1783 = .ok (.lload 6, 2) := zd_dec hw27 (q := 55) rfl (by decide +kernel)
theorem dL_law_1785 : decode cL_law 1785 = .ok (.lcmp, 1) := zd_dec hw27 (q := 57) rfl (by decide +kernel)
theorem dL_law_1786 : decode cL_law 1786 = .ok (.ifCond .eq 5, 3) := zd_dec hw27 (q := 58) rfl (by decide +kernel)
theorem dL_law_1789 : decode cL_law 1789 = .ok (.iconst 0, 1) := zd_dec hw27 (q := 61) rfl (by decide +kernel)
theorem dL_law_1790 : decode cL_law 1790 = .ok (.ireturn, 1) := zd_dec hw27 (q := 62) rfl (by decide +kernel)
theorem dL_law_1773 : decode cL_law 1773 = .ok (.iconst 0, 1) := zd_dec hw27 (q := 45) rfl (by decide +kernel)
theorem dL_law_1774 : decode cL_law 1774 = .ok (.ireturn, 1) := zd_dec hw27 (q := 46) rfl (by decide +kernel)
theorem dL_law_1794 : decode cL_law 1794 = .ok (.aload_n 1, 1) := zd_dec hw28 (q := 2) rfl (by decide +kernel)
theorem dL_law_1795 : decode cL_law 1795 = .ok (.aload_n 0, 1) := zd_dec hw28 (q := 3) rfl (by decide +kernel)
theorem dL_law_1796 : decode cL_law 1796 = .ok (.iload 4, 2) := zd_dec hw28 (q := 4) rfl (by decide +kernel)
theorem dL_law_1798 : decode cL_law 1798 = .ok (.iconst 1, 1) := zd_dec hw28 (q := 6) rfl (by decide +kernel)
theorem dL_law_1799 : decode cL_law 1799 = .ok (.iadd, 1) := zd_dec hw28 (q := 7) rfl (by decide +kernel)
theorem dL_law_1800 : decode cL_law 1800 = .ok (.iaload, 1) := zd_dec hw28 (q := 8) rfl (by decide +kernel)
theorem dL_law_1801 : decode cL_law 1801 = .ok (.aload_n 3, 1) := zd_dec hw28 (q := 9) rfl (by decide +kernel)
theorem dL_law_1802 : decode cL_law 1802 = .ok (.invokestatic 351, 3) := zd_dec hw28 (q := 10) rfl (by decide +kernel)
theorem dL_law_1805 : decode cL_law 1805 = .ok (.istore 5, 2) := zd_dec hw28 (q := 13) rfl (by decide +kernel)
theorem dL_law_1807 : decode cL_law 1807 = .ok (.aload_n 2, 1) := zd_dec hw28 (q := 15) rfl (by decide +kernel)
theorem dL_law_1808 : decode cL_law 1808 = .ok (.aload_n 0, 1) := zd_dec hw28 (q := 16) rfl (by decide +kernel)
theorem dL_law_1809 : decode cL_law 1809 = .ok (.iload 4, 2) := zd_dec hw28 (q := 17) rfl (by decide +kernel)
theorem dL_law_1811 : decode cL_law 1811 = .ok (.iconst 1, 1) := zd_dec hw28 (q := 19) rfl (by decide +kernel)
theorem dL_law_1812 : decode cL_law 1812 = .ok (.iadd, 1) := zd_dec hw28 (q := 20) rfl (by decide +kernel)
theorem dL_law_1813 : decode cL_law 1813 = .ok (.iaload, 1) := zd_dec hw28 (q := 21) rfl (by decide +kernel)
theorem dL_law_1814 : decode cL_law 1814 = .ok (.invokevirtual 353, 3) := zd_dec hw28 (q := 22) rfl (by decide +kernel)
theorem dL_law_1817 : decode cL_law 1817 = .ok (.istore 6, 2) := zd_dec hw28 (q := 25) rfl (by decide +kernel)
theorem dL_law_1819 : decode cL_law 1819 = .ok (.aload_n 2, 1) := zd_dec hw28 (q := 27) rfl (by decide +kernel)
theorem dL_law_1820 : decode cL_law 1820 = .ok (.invokevirtual 281, 3) := zd_dec hw28 (q := 28) rfl (by decide +kernel)
theorem dL_law_1823 : decode cL_law 1823 = .ok (.iload 5, 2) := zd_dec hw28 (q := 31) rfl (by decide +kernel)
theorem dL_law_1825 : decode cL_law 1825 = .ok (.if_icmp .eq 5, 3) := zd_dec hw28 (q := 33) rfl (by decide +kernel)
theorem dL_law_1830 : decode cL_law 1830 = .ok (.iload 5, 2) := zd_dec hw28 (q := 38) rfl (by decide +kernel)
theorem dL_law_1832 : decode cL_law 1832 = .ok (.ifCond .ne 15, 3) := zd_dec hw28 (q := 40) rfl (by decide +kernel)
theorem dL_law_1847 : decode cL_law 1847 = .ok (.goto 4155, 3) := zd_dec hw28 (q := 55) rfl (by decide +kernel)
theorem dL_law_1835 : decode cL_law 1835 = .ok (.aload_n 3, 1) := zd_dec hw28 (q := 43) rfl (by decide +kernel)
theorem dL_law_1836 : decode cL_law 1836 = .ok (.iconst 0, 1) := zd_dec hw28 (q := 44) rfl (by decide +kernel)
theorem dL_law_1837 : decode cL_law 1837 = .ok (.laload, 1) := zd_dec hw28 (q := 45) rfl (by decide +kernel)
theorem dL_law_1838 : decode cL_law 1838 = .ok (.iload 6, 2) := zd_dec hw28 (q := 46) rfl (by decide +kernel)
theorem dL_law_1840 : decode cL_law 1840 = .ok (.i2l, 1) := zd_dec hw28 (q := 48) rfl (by decide +kernel)
theorem dL_law_1841 : decode cL_law 1841 = .ok (.lcmp, 1) := zd_dec hw28 (q := 49) rfl (by decide +kernel)
theorem dL_law_1842 : decode cL_law 1842 = .ok (.ifCond .eq 5, 3) := zd_dec hw28 (q := 50) rfl (by decide +kernel)
theorem dL_law_1845 : decode cL_law 1845 = .ok (.iconst 0, 1) := zd_dec hw28 (q := 53) rfl (by decide +kernel)
theorem dL_law_1846 : decode cL_law 1846 = .ok (.ireturn, 1) := zd_dec hw28 (q := 54) rfl (by decide +kernel)
theorem dL_law_1828 : decode cL_law 1828 = .ok (.iconst 0, 1) := zd_dec hw28 (q := 36) rfl (by decide +kernel)
theorem dL_law_1829 : decode cL_law 1829 = .ok (.ireturn, 1) := zd_dec hw28 (q := 37) rfl (by decide +kernel)
theorem dL_law_1850 : decode cL_law 1850 = .ok (.aload_n 1, 1) := zd_dec hw28 (q := 58) rfl (by decide +kernel)
theorem dL_law_1851 : decode cL_law 1851 = .ok (.aload_n 0, 1) := zd_dec hw28 (q := 59) rfl (by decide +kernel)
theorem dL_law_1852 : decode cL_law 1852 = .ok (.iload 4, 2) := zd_dec hw28 (q := 60) rfl (by decide +kernel)
theorem dL_law_1854 : decode cL_law 1854 = .ok (.iconst 1, 1) := zd_dec hw28 (q := 62) rfl (by decide +kernel)
theorem dL_law_1855 : decode cL_law 1855 = .ok (.iadd, 1) := zd_dec hw28 (q := 63) rfl (by decide +kernel)
theorem dL_law_1856 : decode cL_law 1856 = .ok (.iaload, 1) := zd_dec hw29 (q := 0) rfl (by decide +kernel)
theorem dL_law_1857 : decode cL_law 1857 = .ok (.aload_n 0, 1) := zd_dec hw29 (q := 1) rfl (by decide +kernel)
theorem dL_law_1858 : decode cL_law 1858 = .ok (.iload 4, 2) := zd_dec hw29 (q := 2) rfl (by decide +kernel)
theorem dL_law_1860 : decode cL_law 1860 = .ok (.iconst 2, 1) := zd_dec hw29 (q := 4) rfl (by decide +kernel)
theorem dL_law_1861 : decode cL_law 1861 = .ok (.iadd, 1) := zd_dec hw29 (q := 5) rfl (by decide +kernel)
theorem dL_law_1862 : decode cL_law 1862 = .ok (.iaload, 1) := zd_dec hw29 (q := 6) rfl (by decide +kernel)
theorem dL_law_1863 : decode cL_law 1863 = .ok (.aload_n 3, 1) := zd_dec hw29 (q := 7) rfl (by decide +kernel)
theorem dL_law_1864 : decode cL_law 1864 = .ok (.invokestatic 354, 3) := zd_dec hw29 (q := 8) rfl (by decide +kernel)
theorem dL_law_1867 : decode cL_law 1867 = .ok (.istore 5, 2) := zd_dec hw29 (q := 11) rfl (by decide +kernel)
theorem dL_law_1869 : decode cL_law 1869 = .ok (.aload_n 2, 1) := zd_dec hw29 (q := 13) rfl (by decide +kernel)
theorem dL_law_1870 : decode cL_law 1870 = .ok (.aload_n 0, 1) := zd_dec hw29 (q := 14) rfl (by decide +kernel)
theorem dL_law_1871 : decode cL_law 1871 = .ok (.iload 4, 2) := zd_dec hw29 (q := 15) rfl (by decide +kernel)
theorem dL_law_1873 : decode cL_law 1873 = .ok (.iconst 1, 1) := zd_dec hw29 (q := 17) rfl (by decide +kernel)
theorem dL_law_1874 : decode cL_law 1874 = .ok (.iadd, 1) := zd_dec hw29 (q := 18) rfl (by decide +kernel)
theorem dL_law_1875 : decode cL_law 1875 = .ok (.iaload, 1) := zd_dec hw29 (q := 19) rfl (by decide +kernel)
theorem dL_law_1876 : decode cL_law 1876 = .ok (.aload_n 0, 1) := zd_dec hw29 (q := 20) rfl (by decide +kernel)
theorem dL_law_1877 : decode cL_law 1877 = .ok (.iload 4, 2) := zd_dec hw29 (q := 21) rfl (by decide +kernel)
theorem dL_law_1879 : decode cL_law 1879 = .ok (.iconst 2, 1) := zd_dec hw29 (q := 23) rfl (by decide +kernel)
theorem dL_law_1880 : decode cL_law 1880 = .ok (.iadd, 1) := zd_dec hw29 (q := 24) rfl (by decide +kernel)
theorem dL_law_1881 : decode cL_law 1881 = .ok (.iaload, 1) := zd_dec hw29 (q := 25) rfl (by decide +kernel)
theorem dL_law_1882 : decode cL_law 1882 = .ok (.invokevirtual 356, 3) := zd_dec hw29 (q := 26) rfl (by decide +kernel)
theorem dL_law_1885 : decode cL_law 1885 = .ok (.istore 6, 2) := zd_dec hw29 (q := 29) rfl (by decide +kernel)
theorem dL_law_1887 : decode cL_law 1887 = .ok (.aload_n 2, 1) := zd_dec hw29 (q := 31) rfl (by decide +kernel)
theorem dL_law_1888 : decode cL_law 1888 = .ok (.invokevirtual 281, 3) := zd_dec hw29 (q := 32) rfl (by decide +kernel)
theorem dL_law_1891 : decode cL_law 1891 = .ok (.iload 5, 2) := zd_dec hw29 (q := 35) rfl (by decide +kernel)
theorem dL_law_1893 : decode cL_law 1893 = .ok (.if_icmp .eq 5, 3) := zd_dec hw29 (q := 37) rfl (by decide +kernel)
theorem dL_law_1898 : decode cL_law 1898 = .ok (.iload 5, 2) := zd_dec hw29 (q := 42) rfl (by decide +kernel)
theorem dL_law_1900 : decode cL_law 1900 = .ok (.ifCond .ne 15, 3) := zd_dec hw29 (q := 44) rfl (by decide +kernel)
theorem dL_law_1915 : decode cL_law 1915 = .ok (.goto 4087, 3) := zd_dec hw29 (q := 59) rfl (by decide +kernel)
theorem dL_law_1903 : decode cL_law 1903 = .ok (.aload_n 3, 1) := zd_dec hw29 (q := 47) rfl (by decide +kernel)
theorem dL_law_1904 : decode cL_law 1904 = .ok (.iconst 0, 1) := zd_dec hw29 (q := 48) rfl (by decide +kernel)
theorem dL_law_1905 : decode cL_law 1905 = .ok (.laload, 1) := zd_dec hw29 (q := 49) rfl (by decide +kernel)
theorem dL_law_1906 : decode cL_law 1906 = .ok (.iload 6, 2) := zd_dec hw29 (q := 50) rfl (by decide +kernel)
theorem dL_law_1908 : decode cL_law 1908 = .ok (.i2l, 1) := zd_dec hw29 (q := 52) rfl (by decide +kernel)
theorem dL_law_1909 : decode cL_law 1909 = .ok (.lcmp, 1) := zd_dec hw29 (q := 53) rfl (by decide +kernel)
theorem dL_law_1910 : decode cL_law 1910 = .ok (.ifCond .eq 5, 3) := zd_dec hw29 (q := 54) rfl (by decide +kernel)
theorem dL_law_1913 : decode cL_law 1913 = .ok (.iconst 0, 1) := zd_dec hw29 (q := 57) rfl (by decide +kernel)
theorem dL_law_1914 : decode cL_law 1914 = .ok (.ireturn, 1) := zd_dec hw29 (q := 58) rfl (by decide +kernel)
theorem dL_law_1896 : decode cL_law 1896 = .ok (.iconst 0, 1) := zd_dec hw29 (q := 40) rfl (by decide +kernel)
theorem dL_law_1897 : decode cL_law 1897 = .ok (.ireturn, 1) := zd_dec hw29 (q := 41) rfl (by decide +kernel)
theorem dL_law_1918 : decode cL_law 1918 = .ok (.aload_n 1, 1) := zd_dec hw29 (q := 62) rfl (by decide +kernel)
theorem dL_law_1919 : decode cL_law 1919 = .ok (.aload_n 0, 1) := zd_dec hw29 (q := 63) rfl (by decide +kernel)
theorem dL_law_1920 : decode cL_law 1920 = .ok (.iload 4, 2) := zd_dec hw30 (q := 0) rfl (by decide +kernel)
theorem dL_law_1922 : decode cL_law 1922 = .ok (.iconst 1, 1) := zd_dec hw30 (q := 2) rfl (by decide +kernel)
theorem dL_law_1923 : decode cL_law 1923 = .ok (.iadd, 1) := zd_dec hw30 (q := 3) rfl (by decide +kernel)
theorem dL_law_1924 : decode cL_law 1924 = .ok (.iaload, 1) := zd_dec hw30 (q := 4) rfl (by decide +kernel)
theorem dL_law_1925 : decode cL_law 1925 = .ok (.aload_n 0, 1) := zd_dec hw30 (q := 5) rfl (by decide +kernel)
theorem dL_law_1926 : decode cL_law 1926 = .ok (.iload 4, 2) := zd_dec hw30 (q := 6) rfl (by decide +kernel)
theorem dL_law_1928 : decode cL_law 1928 = .ok (.iconst 2, 1) := zd_dec hw30 (q := 8) rfl (by decide +kernel)
theorem dL_law_1929 : decode cL_law 1929 = .ok (.iadd, 1) := zd_dec hw30 (q := 9) rfl (by decide +kernel)
theorem dL_law_1930 : decode cL_law 1930 = .ok (.iaload, 1) := zd_dec hw30 (q := 10) rfl (by decide +kernel)
theorem dL_law_1931 : decode cL_law 1931 = .ok (.aload_n 3, 1) := zd_dec hw30 (q := 11) rfl (by decide +kernel)
theorem dL_law_1932 : decode cL_law 1932 = .ok (.invokestatic 357, 3) := zd_dec hw30 (q := 12) rfl (by decide +kernel)
theorem dL_law_1935 : decode cL_law 1935 = .ok (.istore 5, 2) := zd_dec hw30 (q := 15) rfl (by decide +kernel)
theorem dL_law_1937 : decode cL_law 1937 = .ok (.aload_n 2, 1) := zd_dec hw30 (q := 17) rfl (by decide +kernel)
theorem dL_law_1938 : decode cL_law 1938 = .ok (.aload_n 0, 1) := zd_dec hw30 (q := 18) rfl (by decide +kernel)
theorem dL_law_1939 : decode cL_law 1939 = .ok (.iload 4, 2) := zd_dec hw30 (q := 19) rfl (by decide +kernel)
theorem dL_law_1941 : decode cL_law 1941 = .ok (.iconst 1, 1) := zd_dec hw30 (q := 21) rfl (by decide +kernel)
theorem dL_law_1942 : decode cL_law 1942 = .ok (.iadd, 1) := zd_dec hw30 (q := 22) rfl (by decide +kernel)
theorem dL_law_1943 : decode cL_law 1943 = .ok (.iaload, 1) := zd_dec hw30 (q := 23) rfl (by decide +kernel)
theorem dL_law_1944 : decode cL_law 1944 = .ok (.aload_n 0, 1) := zd_dec hw30 (q := 24) rfl (by decide +kernel)
theorem dL_law_1945 : decode cL_law 1945 = .ok (.iload 4, 2) := zd_dec hw30 (q := 25) rfl (by decide +kernel)
theorem dL_law_1947 : decode cL_law 1947 = .ok (.iconst 2, 1) := zd_dec hw30 (q := 27) rfl (by decide +kernel)
theorem dL_law_1948 : decode cL_law 1948 = .ok (.iadd, 1) := zd_dec hw30 (q := 28) rfl (by decide +kernel)
theorem dL_law_1949 : decode cL_law 1949 = .ok (.iaload, 1) := zd_dec hw30 (q := 29) rfl (by decide +kernel)
theorem dL_law_1950 : decode cL_law 1950 = .ok (.invokevirtual 359, 3) := zd_dec hw30 (q := 30) rfl (by decide +kernel)
theorem dL_law_1953 : decode cL_law 1953 = .ok (.istore 6, 2) := zd_dec hw30 (q := 33) rfl (by decide +kernel)
theorem dL_law_1955 : decode cL_law 1955 = .ok (.aload_n 2, 1) := zd_dec hw30 (q := 35) rfl (by decide +kernel)
theorem dL_law_1956 : decode cL_law 1956 = .ok (.invokevirtual 281, 3) := zd_dec hw30 (q := 36) rfl (by decide +kernel)
theorem dL_law_1959 : decode cL_law 1959 = .ok (.iload 5, 2) := zd_dec hw30 (q := 39) rfl (by decide +kernel)
theorem dL_law_1961 : decode cL_law 1961 = .ok (.if_icmp .eq 5, 3) := zd_dec hw30 (q := 41) rfl (by decide +kernel)
theorem dL_law_1966 : decode cL_law 1966 = .ok (.iload 5, 2) := zd_dec hw30 (q := 46) rfl (by decide +kernel)
theorem dL_law_1968 : decode cL_law 1968 = .ok (.ifCond .ne 15, 3) := zd_dec hw30 (q := 48) rfl (by decide +kernel)
theorem dL_law_1983 : decode cL_law 1983 = .ok (.goto 4019, 3) := zd_dec hw30 (q := 63) rfl (by decide +kernel)
theorem dL_law_1971 : decode cL_law 1971 = .ok (.aload_n 3, 1) := zd_dec hw30 (q := 51) rfl (by decide +kernel)
theorem dL_law_1972 : decode cL_law 1972 = .ok (.iconst 0, 1) := zd_dec hw30 (q := 52) rfl (by decide +kernel)
theorem dL_law_1973 : decode cL_law 1973 = .ok (.laload, 1) := zd_dec hw30 (q := 53) rfl (by decide +kernel)
theorem dL_law_1974 : decode cL_law 1974 = .ok (.iload 6, 2) := zd_dec hw30 (q := 54) rfl (by decide +kernel)
theorem dL_law_1976 : decode cL_law 1976 = .ok (.i2l, 1) := zd_dec hw30 (q := 56) rfl (by decide +kernel)
theorem dL_law_1977 : decode cL_law 1977 = .ok (.lcmp, 1) := zd_dec hw30 (q := 57) rfl (by decide +kernel)
theorem dL_law_1978 : decode cL_law 1978 = .ok (.ifCond .eq 5, 3) := zd_dec hw30 (q := 58) rfl (by decide +kernel)
theorem dL_law_1981 : decode cL_law 1981 = .ok (.iconst 0, 1) := zd_dec hw30 (q := 61) rfl (by decide +kernel)
theorem dL_law_1982 : decode cL_law 1982 = .ok (.ireturn, 1) := zd_dec hw30 (q := 62) rfl (by decide +kernel)
theorem dL_law_1964 : decode cL_law 1964 = .ok (.iconst 0, 1) := zd_dec hw30 (q := 44) rfl (by decide +kernel)
theorem dL_law_1965 : decode cL_law 1965 = .ok (.ireturn, 1) := zd_dec hw30 (q := 45) rfl (by decide +kernel)
theorem dL_law_1986 : decode cL_law 1986 = .ok (.aload_n 1, 1) := zd_dec hw31 (q := 2) rfl (by decide +kernel)
theorem dL_law_1987 : decode cL_law 1987 = .ok (.aload_n 0, 1) := zd_dec hw31 (q := 3) rfl (by decide +kernel)
theorem dL_law_1988 : decode cL_law 1988 = .ok (.iload 4, 2) := zd_dec hw31 (q := 4) rfl (by decide +kernel)
theorem dL_law_1990 : decode cL_law 1990 = .ok (.iconst 1, 1) := zd_dec hw31 (q := 6) rfl (by decide +kernel)
theorem dL_law_1991 : decode cL_law 1991 = .ok (.iadd, 1) := zd_dec hw31 (q := 7) rfl (by decide +kernel)
theorem dL_law_1992 : decode cL_law 1992 = .ok (.iaload, 1) := zd_dec hw31 (q := 8) rfl (by decide +kernel)
theorem dL_law_1993 : decode cL_law 1993 = .ok (.aload_n 0, 1) := zd_dec hw31 (q := 9) rfl (by decide +kernel)
theorem dL_law_1994 : decode cL_law 1994 = .ok (.iload 4, 2) := zd_dec hw31 (q := 10) rfl (by decide +kernel)
theorem dL_law_1996 : decode cL_law 1996 = .ok (.iconst 2, 1) := zd_dec hw31 (q := 12) rfl (by decide +kernel)
theorem dL_law_1997 : decode cL_law 1997 = .ok (.iadd, 1) := zd_dec hw31 (q := 13) rfl (by decide +kernel)
theorem dL_law_1998 : decode cL_law 1998 = .ok (.iaload, 1) := zd_dec hw31 (q := 14) rfl (by decide +kernel)
theorem dL_law_1999 : decode cL_law 1999 = .ok (.aload_n 3, 1) := zd_dec hw31 (q := 15) rfl (by decide +kernel)
theorem dL_law_2000 : decode cL_law 2000 = .ok (.invokestatic 360, 3) := zd_dec hw31 (q := 16) rfl (by decide +kernel)
theorem dL_law_2003 : decode cL_law 2003 = .ok (.istore 5, 2) := zd_dec hw31 (q := 19) rfl (by decide +kernel)
theorem dL_law_2005 : decode cL_law 2005 = .ok (.aload_n 2, 1) := zd_dec hw31 (q := 21) rfl (by decide +kernel)
theorem dL_law_2006 : decode cL_law 2006 = .ok (.aload_n 0, 1) := zd_dec hw31 (q := 22) rfl (by decide +kernel)
theorem dL_law_2007 : decode cL_law 2007 = .ok (.iload 4, 2) := zd_dec hw31 (q := 23) rfl (by decide +kernel)
theorem dL_law_2009 : decode cL_law 2009 = .ok (.iconst 1, 1) := zd_dec hw31 (q := 25) rfl (by decide +kernel)
theorem dL_law_2010 : decode cL_law 2010 = .ok (.iadd, 1) := zd_dec hw31 (q := 26) rfl (by decide +kernel)
theorem dL_law_2011 : decode cL_law 2011 = .ok (.iaload, 1) := zd_dec hw31 (q := 27) rfl (by decide +kernel)
theorem dL_law_2012 : decode cL_law 2012 = .ok (.aload_n 0, 1) := zd_dec hw31 (q := 28) rfl (by decide +kernel)
theorem dL_law_2013 : decode cL_law 2013 = .ok (.iload 4, 2) := zd_dec hw31 (q := 29) rfl (by decide +kernel)
theorem dL_law_2015 : decode cL_law 2015 = .ok (.iconst 2, 1) := zd_dec hw31 (q := 31) rfl (by decide +kernel)
theorem dL_law_2016 : decode cL_law 2016 = .ok (.iadd, 1) := zd_dec hw31 (q := 32) rfl (by decide +kernel)
theorem dL_law_2017 : decode cL_law 2017 = .ok (.iaload, 1) := zd_dec hw31 (q := 33) rfl (by decide +kernel)
theorem dL_law_2018 : decode cL_law 2018 = .ok (.invokevirtual 362, 3) := zd_dec hw31 (q := 34) rfl (by decide +kernel)
theorem dL_law_2021 : decode cL_law 2021 = .ok (.istore 6, 2) := zd_dec hw31 (q := 37) rfl (by decide +kernel)
theorem dL_law_2023 : decode cL_law 2023 = .ok (.aload_n 2, 1) := zd_dec hw31 (q := 39) rfl (by decide +kernel)
theorem dL_law_2024 : decode cL_law 2024 = .ok (.invokevirtual 281, 3) := zd_dec hw31 (q := 40) rfl (by decide +kernel)
theorem dL_law_2027 : decode cL_law 2027 = .ok (.iload 5, 2) := zd_dec hw31 (q := 43) rfl (by decide +kernel)
theorem dL_law_2029 : decode cL_law 2029 = .ok (.if_icmp .eq 5, 3) := zd_dec hw31 (q := 45) rfl (by decide +kernel)
theorem dL_law_2034 : decode cL_law 2034 = .ok (.iload 5, 2) := zd_dec hw31 (q := 50) rfl (by decide +kernel)
theorem dL_law_2036 : decode cL_law 2036 = .ok (.ifCond .ne 15, 3) := zd_dec hw31 (q := 52) rfl (by decide +kernel)
theorem dL_law_2051 : decode cL_law 2051 = .ok (.goto 3951, 3) := zd_dec hw32 (q := 3) rfl (by decide +kernel)
theorem dL_law_2039 : decode cL_law 2039 = .ok (.aload_n 3, 1) := zd_dec hw31 (q := 55) rfl (by decide +kernel)
theorem dL_law_2040 : decode cL_law 2040 = .ok (.iconst 0, 1) := zd_dec hw31 (q := 56) rfl (by decide +kernel)
theorem dL_law_2041 : decode cL_law 2041 = .ok (.laload, 1) := zd_dec hw31 (q := 57) rfl (by decide +kernel)
theorem dL_law_2042 : decode cL_law 2042 = .ok (.iload 6, 2) := zd_dec hw31 (q := 58) rfl (by decide +kernel)
theorem dL_law_2044 : decode cL_law 2044 = .ok (.i2l, 1) := zd_dec hw31 (q := 60) rfl (by decide +kernel)
theorem dL_law_2045 : decode cL_law 2045 = .ok (.lcmp, 1) := zd_dec hw31 (q := 61) rfl (by decide +kernel)
theorem dL_law_2046 : decode cL_law 2046 = .ok (.ifCond .eq 5, 3) := zd_dec hw31 (q := 62) rfl (by decide +kernel)
theorem dL_law_2049 : decode cL_law 2049 = .ok (.iconst 0, 1) := zd_dec hw32 (q := 1) rfl (by decide +kernel)
theorem dL_law_2050 : decode cL_law 2050 = .ok (.ireturn, 1) := zd_dec hw32 (q := 2) rfl (by decide +kernel)
theorem dL_law_2032 : decode cL_law 2032 = .ok (.iconst 0, 1) := zd_dec hw31 (q := 48) rfl (by decide +kernel)
theorem dL_law_2033 : decode cL_law 2033 = .ok (.ireturn, 1) := zd_dec hw31 (q := 49) rfl (by decide +kernel)
theorem dL_law_2054 : decode cL_law 2054 = .ok (.aload_n 1, 1) := zd_dec hw32 (q := 6) rfl (by decide +kernel)
theorem dL_law_2055 : decode cL_law 2055 = .ok (.aload_n 0, 1) := zd_dec hw32 (q := 7) rfl (by decide +kernel)
theorem dL_law_2056 : decode cL_law 2056 = .ok (.iload 4, 2) := zd_dec hw32 (q := 8) rfl (by decide +kernel)
theorem dL_law_2058 : decode cL_law 2058 = .ok (.iconst 1, 1) := zd_dec hw32 (q := 10) rfl (by decide +kernel)
theorem dL_law_2059 : decode cL_law 2059 = .ok (.iadd, 1) := zd_dec hw32 (q := 11) rfl (by decide +kernel)
theorem dL_law_2060 : decode cL_law 2060 = .ok (.iaload, 1) := zd_dec hw32 (q := 12) rfl (by decide +kernel)
theorem dL_law_2061 : decode cL_law 2061 = .ok (.aload_n 0, 1) := zd_dec hw32 (q := 13) rfl (by decide +kernel)
theorem dL_law_2062 : decode cL_law 2062 = .ok (.iload 4, 2) := zd_dec hw32 (q := 14) rfl (by decide +kernel)
theorem dL_law_2064 : decode cL_law 2064 = .ok (.iconst 2, 1) := zd_dec hw32 (q := 16) rfl (by decide +kernel)
theorem dL_law_2065 : decode cL_law 2065 = .ok (.iadd, 1) := zd_dec hw32 (q := 17) rfl (by decide +kernel)
theorem dL_law_2066 : decode cL_law 2066 = .ok (.iaload, 1) := zd_dec hw32 (q := 18) rfl (by decide +kernel)
theorem dL_law_2067 : decode cL_law 2067 = .ok (.aload_n 0, 1) := zd_dec hw32 (q := 19) rfl (by decide +kernel)
theorem dL_law_2068 : decode cL_law 2068 = .ok (.iload 4, 2) := zd_dec hw32 (q := 20) rfl (by decide +kernel)
theorem dL_law_2070 : decode cL_law 2070 = .ok (.iconst 3, 1) := zd_dec hw32 (q := 22) rfl (by decide +kernel)
theorem dL_law_2071 : decode cL_law 2071 = .ok (.iadd, 1) := zd_dec hw32 (q := 23) rfl (by decide +kernel)
theorem dL_law_2072 : decode cL_law 2072 = .ok (.iaload, 1) := zd_dec hw32 (q := 24) rfl (by decide +kernel)
theorem dL_law_2073 : decode cL_law 2073 = .ok (.aload_n 0, 1) := zd_dec hw32 (q := 25) rfl (by decide +kernel)
theorem dL_law_2074 : decode cL_law 2074 = .ok (.iload 4, 2) := zd_dec hw32 (q := 26) rfl (by decide +kernel)
theorem dL_law_2076 : decode cL_law 2076 = .ok (.iconst 4, 1) := zd_dec hw32 (q := 28) rfl (by decide +kernel)
theorem dL_law_2077 : decode cL_law 2077 = .ok (.iadd, 1) := zd_dec hw32 (q := 29) rfl (by decide +kernel)
theorem dL_law_2078 : decode cL_law 2078 = .ok (.iaload, 1) := zd_dec hw32 (q := 30) rfl (by decide +kernel)
theorem dL_law_2079 : decode cL_law 2079 = .ok (.aload_n 0, 1) := zd_dec hw32 (q := 31) rfl (by decide +kernel)
theorem dL_law_2080 : decode cL_law 2080 = .ok (.iload 4, 2) := zd_dec hw32 (q := 32) rfl (by decide +kernel)
theorem dL_law_2082 : decode cL_law 2082 = .ok (.iconst 5, 1) := zd_dec hw32 (q := 34) rfl (by decide +kernel)
theorem dL_law_2083 : decode cL_law 2083 = .ok (.iadd, 1) := zd_dec hw32 (q := 35) rfl (by decide +kernel)
theorem dL_law_2084 : decode cL_law 2084 = .ok (.iaload, 1) := zd_dec hw32 (q := 36) rfl (by decide +kernel)
theorem dL_law_2085 : decode cL_law 2085 = .ok (.aload_n 3, 1) := zd_dec hw32 (q := 37) rfl (by decide +kernel)
theorem dL_law_2086 : decode cL_law 2086 = .ok (.invokestatic 363, 3) := zd_dec hw32 (q := 38) rfl (by decide +kernel)
theorem dL_law_2089 : decode cL_law 2089 = .ok (.istore 5, 2) := zd_dec hw32 (q := 41) rfl (by decide +kernel)
theorem dL_law_2091 : decode cL_law 2091 = .ok (.aload_n 2, 1) := zd_dec hw32 (q := 43) rfl (by decide +kernel)
theorem dL_law_2092 : decode cL_law 2092 = .ok (.aload_n 0, 1) := zd_dec hw32 (q := 44) rfl (by decide +kernel)
theorem dL_law_2093 : decode cL_law 2093 = .ok (.iload 4, 2) := zd_dec hw32 (q := 45) rfl (by decide +kernel)
theorem dL_law_2095 : decode cL_law 2095 = .ok (.iconst 1, 1) := zd_dec hw32 (q := 47) rfl (by decide +kernel)
theorem dL_law_2096 : decode cL_law 2096 = .ok (.iadd, 1) := zd_dec hw32 (q := 48) rfl (by decide +kernel)
theorem dL_law_2097 : decode cL_law 2097 = .ok (.iaload, 1) := zd_dec hw32 (q := 49) rfl (by decide +kernel)
theorem dL_law_2098 : decode cL_law 2098 = .ok (.aload_n 0, 1) := zd_dec hw32 (q := 50) rfl (by decide +kernel)
theorem dL_law_2099 : decode cL_law 2099 = .ok (.iload 4, 2) := zd_dec hw32 (q := 51) rfl (by decide +kernel)
theorem dL_law_2101 : decode cL_law 2101 = .ok (.iconst 2, 1) := zd_dec hw32 (q := 53) rfl (by decide +kernel)
theorem dL_law_2102 : decode cL_law 2102 = .ok (.iadd, 1) := zd_dec hw32 (q := 54) rfl (by decide +kernel)
theorem dL_law_2103 : decode cL_law 2103 = .ok (.iaload, 1) := zd_dec hw32 (q := 55) rfl (by decide +kernel)
theorem dL_law_2104 : decode cL_law 2104 = .ok (.aload_n 0, 1) := zd_dec hw32 (q := 56) rfl (by decide +kernel)
theorem dL_law_2105 : decode cL_law 2105 = .ok (.iload 4, 2) := zd_dec hw32 (q := 57) rfl (by decide +kernel)
theorem dL_law_2107 : decode cL_law 2107 = .ok (.iconst 3, 1) := zd_dec hw32 (q := 59) rfl (by decide +kernel)
theorem dL_law_2108 : decode cL_law 2108 = .ok (.iadd, 1) := zd_dec hw32 (q := 60) rfl (by decide +kernel)
theorem dL_law_2109 : decode cL_law 2109 = .ok (.iaload, 1) := zd_dec hw32 (q := 61) rfl (by decide +kernel)
theorem dL_law_2110 : decode cL_law 2110 = .ok (.aload_n 0, 1) := zd_dec hw32 (q := 62) rfl (by decide +kernel)
theorem dL_law_2111 : decode cL_law 2111 = .ok (.iload 4, 2) := zd_dec hw32 (q := 63) rfl (by decide +kernel)
theorem dL_law_2113 : decode cL_law 2113 = .ok (.iconst 4, 1) := zd_dec hw33 (q := 1) rfl (by decide +kernel)
theorem dL_law_2114 : decode cL_law 2114 = .ok (.iadd, 1) := zd_dec hw33 (q := 2) rfl (by decide +kernel)
theorem dL_law_2115 : decode cL_law 2115 = .ok (.iaload, 1) := zd_dec hw33 (q := 3) rfl (by decide +kernel)
theorem dL_law_2116 : decode cL_law 2116 = .ok (.aload_n 0, 1) := zd_dec hw33 (q := 4) rfl (by decide +kernel)
theorem dL_law_2117 : decode cL_law 2117 = .ok (.iload 4, 2) := zd_dec hw33 (q := 5) rfl (by decide +kernel)
theorem dL_law_2119 : decode cL_law 2119 = .ok (.iconst 5, 1) := zd_dec hw33 (q := 7) rfl (by decide +kernel)
theorem dL_law_2120 : decode cL_law 2120 = .ok (.iadd, 1) := zd_dec hw33 (q := 8) rfl (by decide +kernel)
theorem dL_law_2121 : decode cL_law 2121 = .ok (.iaload, 1) := zd_dec hw33 (q := 9) rfl (by decide +kernel)
theorem dL_law_2122 : decode cL_law 2122 = .ok (.invokevirtual 366, 3) := zd_dec hw33 (q := 10) rfl (by decide +kernel)
theorem dL_law_2125 : decode cL_law 2125 = .ok (.istore 6, 2) := zd_dec hw33 (q := 13) rfl (by decide +kernel)
theorem dL_law_2127 : decode cL_law 2127 = .ok (.aload_n 2, 1) := zd_dec hw33 (q := 15) rfl (by decide +kernel)
theorem dL_law_2128 : decode cL_law 2128 = .ok (.invokevirtual 281, 3) := zd_dec hw33 (q := 16) rfl (by decide +kernel)
theorem dL_law_2131 : decode cL_law 2131 = .ok (.iload 5, 2) := zd_dec hw33 (q := 19) rfl (by decide +kernel)
theorem dL_law_2133 : decode cL_law 2133 = .ok (.if_icmp .eq 5, 3) := zd_dec hw33 (q := 21) rfl (by decide +kernel)
theorem dL_law_2138 : decode cL_law 2138 = .ok (.iload 5, 2) := zd_dec hw33 (q := 26) rfl (by decide +kernel)
theorem dL_law_2140 : decode cL_law 2140 = .ok (.ifCond .ne 15, 3) := zd_dec hw33 (q := 28) rfl (by decide +kernel)
theorem dL_law_2155 : decode cL_law 2155 = .ok (.goto 3847, 3) := zd_dec hw33 (q := 43) rfl (by decide +kernel)
theorem dL_law_2143 : decode cL_law 2143 = .ok (.aload_n 3, 1) := zd_dec hw33 (q := 31) rfl (by decide +kernel)
theorem dL_law_2144 : decode cL_law 2144 = .ok (.iconst 0, 1) := zd_dec hw33 (q := 32) rfl (by decide +kernel)
theorem dL_law_2145 : decode cL_law 2145 = .ok (.laload, 1) := zd_dec hw33 (q := 33) rfl (by decide +kernel)
theorem dL_law_2146 : decode cL_law 2146 = .ok (.iload 6, 2) := zd_dec hw33 (q := 34) rfl (by decide +kernel)
theorem dL_law_2148 : decode cL_law 2148 = .ok (.i2l, 1) := zd_dec hw33 (q := 36) rfl (by decide +kernel)
theorem dL_law_2149 : decode cL_law 2149 = .ok (.lcmp, 1) := zd_dec hw33 (q := 37) rfl (by decide +kernel)
theorem dL_law_2150 : decode cL_law 2150 = .ok (.ifCond .eq 5, 3) := zd_dec hw33 (q := 38) rfl (by decide +kernel)
theorem dL_law_2153 : decode cL_law 2153 = .ok (.iconst 0, 1) := zd_dec hw33 (q := 41) rfl (by decide +kernel)
theorem dL_law_2154 : decode cL_law 2154 = .ok (.ireturn, 1) := zd_dec hw33 (q := 42) rfl (by decide +kernel)
theorem dL_law_2136 : decode cL_law 2136 = .ok (.iconst 0, 1) := zd_dec hw33 (q := 24) rfl (by decide +kernel)
theorem dL_law_2137 : decode cL_law 2137 = .ok (.ireturn, 1) := zd_dec hw33 (q := 25) rfl (by decide +kernel)
theorem dL_law_2158 : decode cL_law 2158 = .ok (.aload_n 1, 1) := zd_dec hw33 (q := 46) rfl (by decide +kernel)
theorem dL_law_2159 : decode cL_law 2159 = .ok (.aload_n 0, 1) := zd_dec hw33 (q := 47) rfl (by decide +kernel)
theorem dL_law_2160 : decode cL_law 2160 = .ok (.iload 4, 2) := zd_dec hw33 (q := 48) rfl (by decide +kernel)
theorem dL_law_2162 : decode cL_law 2162 = .ok (.iconst 1, 1) := zd_dec hw33 (q := 50) rfl (by decide +kernel)
theorem dL_law_2163 : decode cL_law 2163 = .ok (.iadd, 1) := zd_dec hw33 (q := 51) rfl (by decide +kernel)
theorem dL_law_2164 : decode cL_law 2164 = .ok (.iaload, 1) := zd_dec hw33 (q := 52) rfl (by decide +kernel)
theorem dL_law_2165 : decode cL_law 2165 = .ok (.aload_n 0, 1) := zd_dec hw33 (q := 53) rfl (by decide +kernel)
theorem dL_law_2166 : decode cL_law 2166 = .ok (.iload 4, 2) := zd_dec hw33 (q := 54) rfl (by decide +kernel)
theorem dL_law_2168 : decode cL_law 2168 = .ok (.iconst 2, 1) := zd_dec hw33 (q := 56) rfl (by decide +kernel)
theorem dL_law_2169 : decode cL_law 2169 = .ok (.iadd, 1) := zd_dec hw33 (q := 57) rfl (by decide +kernel)
theorem dL_law_2170 : decode cL_law 2170 = .ok (.iaload, 1) := zd_dec hw33 (q := 58) rfl (by decide +kernel)
theorem dL_law_2171 : decode cL_law 2171 = .ok (.aload_n 3, 1) := zd_dec hw33 (q := 59) rfl (by decide +kernel)
theorem dL_law_2172 : decode cL_law 2172 = .ok (.invokestatic 367, 3) := zd_dec hw33 (q := 60) rfl (by decide +kernel)
theorem dL_law_2175 : decode cL_law 2175 = .ok (.istore 5, 2) := zd_dec hw33 (q := 63) rfl (by decide +kernel)
theorem dL_law_2177 : decode cL_law 2177 = .ok (.aload_n 2, 1) := zd_dec hw34 (q := 1) rfl (by decide +kernel)
theorem dL_law_2178 : decode cL_law 2178 = .ok (.aload_n 0, 1) := zd_dec hw34 (q := 2) rfl (by decide +kernel)
theorem dL_law_2179 : decode cL_law 2179 = .ok (.iload 4, 2) := zd_dec hw34 (q := 3) rfl (by decide +kernel)
theorem dL_law_2181 : decode cL_law 2181 = .ok (.iconst 1, 1) := zd_dec hw34 (q := 5) rfl (by decide +kernel)
theorem dL_law_2182 : decode cL_law 2182 = .ok (.iadd, 1) := zd_dec hw34 (q := 6) rfl (by decide +kernel)
theorem dL_law_2183 : decode cL_law 2183 = .ok (.iaload, 1) := zd_dec hw34 (q := 7) rfl (by decide +kernel)
theorem dL_law_2184 : decode cL_law 2184 = .ok (.aload_n 0, 1) := zd_dec hw34 (q := 8) rfl (by decide +kernel)
theorem dL_law_2185 : decode cL_law 2185 = .ok (.iload 4, 2) := zd_dec hw34 (q := 9) rfl (by decide +kernel)
theorem dL_law_2187 : decode cL_law 2187 = .ok (.iconst 2, 1) := zd_dec hw34 (q := 11) rfl (by decide +kernel)
theorem dL_law_2188 : decode cL_law 2188 = .ok (.iadd, 1) := zd_dec hw34 (q := 12) rfl (by decide +kernel)
theorem dL_law_2189 : decode cL_law 2189 = .ok (.iaload, 1) := zd_dec hw34 (q := 13) rfl (by decide +kernel)
theorem dL_law_2190 : decode cL_law 2190 = .ok (.invokevirtual 369, 3) := zd_dec hw34 (q := 14) rfl (by decide +kernel)
theorem dL_law_2193 : decode cL_law 2193 = .ok (.istore 6, 2) := zd_dec hw34 (q := 17) rfl (by decide +kernel)
theorem dL_law_2195 : decode cL_law 2195 = .ok (.aload_n 2, 1) := zd_dec hw34 (q := 19) rfl (by decide +kernel)
theorem dL_law_2196 : decode cL_law 2196 = .ok (.invokevirtual 281, 3) := zd_dec hw34 (q := 20) rfl (by decide +kernel)
theorem dL_law_2199 : decode cL_law 2199 = .ok (.iload 5, 2) := zd_dec hw34 (q := 23) rfl (by decide +kernel)
theorem dL_law_2201 : decode cL_law 2201 = .ok (.if_icmp .eq 5, 3) := zd_dec hw34 (q := 25) rfl (by decide +kernel)
theorem dL_law_2206 : decode cL_law 2206 = .ok (.iload 5, 2) := zd_dec hw34 (q := 30) rfl (by decide +kernel)
theorem dL_law_2208 : decode cL_law 2208 = .ok (.ifCond .ne 15, 3) := zd_dec hw34 (q := 32) rfl (by decide +kernel)
theorem dL_law_2223 : decode cL_law 2223 = .ok (.goto 3779, 3) := zd_dec hw34 (q := 47) rfl (by decide +kernel)
theorem dL_law_2211 : decode cL_law 2211 = .ok (.aload_n 3, 1) := zd_dec hw34 (q := 35) rfl (by decide +kernel)
theorem dL_law_2212 : decode cL_law 2212 = .ok (.iconst 0, 1) := zd_dec hw34 (q := 36) rfl (by decide +kernel)
theorem dL_law_2213 : decode cL_law 2213 = .ok (.laload, 1) := zd_dec hw34 (q := 37) rfl (by decide +kernel)
theorem dL_law_2214 : decode cL_law 2214 = .ok (.iload 6, 2) := zd_dec hw34 (q := 38) rfl (by decide +kernel)
theorem dL_law_2216 : decode cL_law 2216 = .ok (.i2l, 1) := zd_dec hw34 (q := 40) rfl (by decide +kernel)
theorem dL_law_2217 : decode cL_law 2217 = .ok (.lcmp, 1) := zd_dec hw34 (q := 41) rfl (by decide +kernel)
theorem dL_law_2218 : decode cL_law 2218 = .ok (.ifCond .eq 5, 3) := zd_dec hw34 (q := 42) rfl (by decide +kernel)
theorem dL_law_2221 : decode cL_law 2221 = .ok (.iconst 0, 1) := zd_dec hw34 (q := 45) rfl (by decide +kernel)
theorem dL_law_2222 : decode cL_law 2222 = .ok (.ireturn, 1) := zd_dec hw34 (q := 46) rfl (by decide +kernel)
theorem dL_law_2204 : decode cL_law 2204 = .ok (.iconst 0, 1) := zd_dec hw34 (q := 28) rfl (by decide +kernel)
theorem dL_law_2205 : decode cL_law 2205 = .ok (.ireturn, 1) := zd_dec hw34 (q := 29) rfl (by decide +kernel)
theorem dL_law_2226 : decode cL_law 2226 = .ok (.aload_n 1, 1) := zd_dec hw34 (q := 50) rfl (by decide +kernel)
theorem dL_law_2227 : decode cL_law 2227 = .ok (.aload_n 0, 1) := zd_dec hw34 (q := 51) rfl (by decide +kernel)
theorem dL_law_2228 : decode cL_law 2228 = .ok (.iload 4, 2) := zd_dec hw34 (q := 52) rfl (by decide +kernel)
theorem dL_law_2230 : decode cL_law 2230 = .ok (.iconst 1, 1) := zd_dec hw34 (q := 54) rfl (by decide +kernel)
theorem dL_law_2231 : decode cL_law 2231 = .ok (.iadd, 1) := zd_dec hw34 (q := 55) rfl (by decide +kernel)
theorem dL_law_2232 : decode cL_law 2232 = .ok (.iaload, 1) := zd_dec hw34 (q := 56) rfl (by decide +kernel)
theorem dL_law_2233 : decode cL_law 2233 = .ok (.aload_n 0, 1) := zd_dec hw34 (q := 57) rfl (by decide +kernel)
theorem dL_law_2234 : decode cL_law 2234 = .ok (.iload 4, 2) := zd_dec hw34 (q := 58) rfl (by decide +kernel)
theorem dL_law_2236 : decode cL_law 2236 = .ok (.iconst 2, 1) := zd_dec hw34 (q := 60) rfl (by decide +kernel)
theorem dL_law_2237 : decode cL_law 2237 = .ok (.iadd, 1) := zd_dec hw34 (q := 61) rfl (by decide +kernel)
theorem dL_law_2238 : decode cL_law 2238 = .ok (.iaload, 1) := zd_dec hw34 (q := 62) rfl (by decide +kernel)
theorem dL_law_2239 : decode cL_law 2239 = .ok (.aload_n 3, 1) := zd_dec hw34 (q := 63) rfl (by decide +kernel)
theorem dL_law_2240 : decode cL_law 2240 = .ok (.invokestatic 370, 3) := zd_dec hw35 (q := 0) rfl (by decide +kernel)
theorem dL_law_2243 : decode cL_law 2243 = .ok (.istore 5, 2) := zd_dec hw35 (q := 3) rfl (by decide +kernel)
theorem dL_law_2245 : decode cL_law 2245 = .ok (.aload_n 2, 1) := zd_dec hw35 (q := 5) rfl (by decide +kernel)
theorem dL_law_2246 : decode cL_law 2246 = .ok (.aload_n 0, 1) := zd_dec hw35 (q := 6) rfl (by decide +kernel)
theorem dL_law_2247 : decode cL_law 2247 = .ok (.iload 4, 2) := zd_dec hw35 (q := 7) rfl (by decide +kernel)
theorem dL_law_2249 : decode cL_law 2249 = .ok (.iconst 1, 1) := zd_dec hw35 (q := 9) rfl (by decide +kernel)
theorem dL_law_2250 : decode cL_law 2250 = .ok (.iadd, 1) := zd_dec hw35 (q := 10) rfl (by decide +kernel)
theorem dL_law_2251 : decode cL_law 2251 = .ok (.iaload, 1) := zd_dec hw35 (q := 11) rfl (by decide +kernel)
theorem dL_law_2252 : decode cL_law 2252 = .ok (.aload_n 0, 1) := zd_dec hw35 (q := 12) rfl (by decide +kernel)
theorem dL_law_2253 : decode cL_law 2253 = .ok (.iload 4, 2) := zd_dec hw35 (q := 13) rfl (by decide +kernel)
theorem dL_law_2255 : decode cL_law 2255 = .ok (.iconst 2, 1) := zd_dec hw35 (q := 15) rfl (by decide +kernel)
theorem dL_law_2256 : decode cL_law 2256 = .ok (.iadd, 1) := zd_dec hw35 (q := 16) rfl (by decide +kernel)
theorem dL_law_2257 : decode cL_law 2257 = .ok (.iaload, 1) := zd_dec hw35 (q := 17) rfl (by decide +kernel)
theorem dL_law_2258 : decode cL_law 2258 = .ok (.invokevirtual 372, 3) := zd_dec hw35 (q := 18) rfl (by decide +kernel)
theorem dL_law_2261 : decode cL_law 2261 = .ok (.istore 6, 2) := zd_dec hw35 (q := 21) rfl (by decide +kernel)
theorem dL_law_2263 : decode cL_law 2263 = .ok (.aload_n 2, 1) := zd_dec hw35 (q := 23) rfl (by decide +kernel)
theorem dL_law_2264 : decode cL_law 2264 = .ok (.invokevirtual 281, 3) := zd_dec hw35 (q := 24) rfl (by decide +kernel)
theorem dL_law_2267 : decode cL_law 2267 = .ok (.iload 5, 2) := zd_dec hw35 (q := 27) rfl (by decide +kernel)
theorem dL_law_2269 : decode cL_law 2269 = .ok (.if_icmp .eq 5, 3) := zd_dec hw35 (q := 29) rfl (by decide +kernel)
theorem dL_law_2274 : decode cL_law 2274 = .ok (.iload 5, 2) := zd_dec hw35 (q := 34) rfl (by decide +kernel)
theorem dL_law_2276 : decode cL_law 2276 = .ok (.ifCond .ne 15, 3) := zd_dec hw35 (q := 36) rfl (by decide +kernel)
theorem dL_law_2291 : decode cL_law 2291 = .ok (.goto 3711, 3) := zd_dec hw35 (q := 51) rfl (by decide +kernel)
theorem dL_law_2279 : decode cL_law 2279 = .ok (.aload_n 3, 1) := zd_dec hw35 (q := 39) rfl (by decide +kernel)
theorem dL_law_2280 : decode cL_law 2280 = .ok (.iconst 0, 1) := zd_dec hw35 (q := 40) rfl (by decide +kernel)
theorem dL_law_2281 : decode cL_law 2281 = .ok (.laload, 1) := zd_dec hw35 (q := 41) rfl (by decide +kernel)
theorem dL_law_2282 : decode cL_law 2282 = .ok (.iload 6, 2) := zd_dec hw35 (q := 42) rfl (by decide +kernel)
theorem dL_law_2284 : decode cL_law 2284 = .ok (.i2l, 1) := zd_dec hw35 (q := 44) rfl (by decide +kernel)
theorem dL_law_2285 : decode cL_law 2285 = .ok (.lcmp, 1) := zd_dec hw35 (q := 45) rfl (by decide +kernel)
theorem dL_law_2286 : decode cL_law 2286 = .ok (.ifCond .eq 5, 3) := zd_dec hw35 (q := 46) rfl (by decide +kernel)
theorem dL_law_2289 : decode cL_law 2289 = .ok (.iconst 0, 1) := zd_dec hw35 (q := 49) rfl (by decide +kernel)
theorem dL_law_2290 : decode cL_law 2290 = .ok (.ireturn, 1) := zd_dec hw35 (q := 50) rfl (by decide +kernel)
theorem dL_law_2272 : decode cL_law 2272 = .ok (.iconst 0, 1) := zd_dec hw35 (q := 32) rfl (by decide +kernel)
theorem dL_law_2273 : decode cL_law 2273 = .ok (.ireturn, 1) := zd_dec hw35 (q := 33) rfl (by decide +kernel)
theorem dL_law_2294 : decode cL_law 2294 = .ok (.aload_n 1, 1) := zd_dec hw35 (q := 54) rfl (by decide +kernel)
theorem dL_law_2295 : decode cL_law 2295 = .ok (.aload_n 0, 1) := zd_dec hw35 (q := 55) rfl (by decide +kernel)
theorem dL_law_2296 : decode cL_law 2296 = .ok (.iload 4, 2) := zd_dec hw35 (q := 56) rfl (by decide +kernel)
theorem dL_law_2298 : decode cL_law 2298 = .ok (.iconst 1, 1) := zd_dec hw35 (q := 58) rfl (by decide +kernel)
theorem dL_law_2299 : decode cL_law 2299 = .ok (.iadd, 1) := zd_dec hw35 (q := 59) rfl (by decide +kernel)
theorem dL_law_2300 : decode cL_law 2300 = .ok (.iaload, 1) := zd_dec hw35 (q := 60) rfl (by decide +kernel)
theorem dL_law_2301 : decode cL_law 2301 = .ok (.aload_n 0, 1) := zd_dec hw35 (q := 61) rfl (by decide +kernel)
theorem dL_law_2302 : decode cL_law 2302 = .ok (.iload 4, 2) := zd_dec hw35 (q := 62) rfl (by decide +kernel)
theorem dL_law_2304 : decode cL_law 2304 = .ok (.iconst 2, 1) := zd_dec hw36 (q := 0) rfl (by decide +kernel)
theorem dL_law_2305 : decode cL_law 2305 = .ok (.iadd, 1) := zd_dec hw36 (q := 1) rfl (by decide +kernel)
theorem dL_law_2306 : decode cL_law 2306 = .ok (.iaload, 1) := zd_dec hw36 (q := 2) rfl (by decide +kernel)
theorem dL_law_2307 : decode cL_law 2307 = .ok (.ifCond .eq 7, 3) := zd_dec hw36 (q := 3) rfl (by decide +kernel)
theorem dL_law_2314 : decode cL_law 2314 = .ok (.iconst 0, 1) := zd_dec hw36 (q := 10) rfl (by decide +kernel)
theorem dL_law_2315 : decode cL_law 2315 = .ok (.aload_n 3, 1) := zd_dec hw36 (q := 11) rfl (by decide +kernel)
theorem dL_law_2316 : decode cL_law 2316 = .ok (.invokestatic 373, 3) := zd_dec hw36 (q := 12) rfl (by decide +kernel)
theorem dL_law_2319 : decode cL_law 2319 = .ok (.istore 5, 2) := zd_dec hw36 (q := 15) rfl (by decide +kernel)
theorem dL_law_2321 : decode cL_law 2321 = .ok (.aload_n 2, 1) := zd_dec hw36 (q := 17) rfl (by decide +kernel)
theorem dL_law_2322 : decode cL_law 2322 = .ok (.aload_n 0, 1) := zd_dec hw36 (q := 18) rfl (by decide +kernel)
theorem dL_law_2323 : decode cL_law 2323 = .ok (.iload 4, 2) := zd_dec hw36 (q := 19) rfl (by decide +kernel)
theorem dL_law_2325 : decode cL_law 2325 = .ok (.iconst 1, 1) := zd_dec hw36 (q := 21) rfl (by decide +kernel)
theorem dL_law_2326 : decode cL_law 2326 = .ok (.iadd, 1) := zd_dec hw36 (q := 22) rfl (by decide +kernel)
theorem dL_law_2327 : decode cL_law 2327 = .ok (.iaload, 1) := zd_dec hw36 (q := 23) rfl (by decide +kernel)
theorem dL_law_2328 : decode cL_law 2328 = .ok (.aload_n 0, 1) := zd_dec hw36 (q := 24) rfl (by decide +kernel)
theorem dL_law_2329 : decode cL_law 2329 = .ok (.iload 4, 2) := zd_dec hw36 (q := 25) rfl (by decide +kernel)
theorem dL_law_2331 : decode cL_law 2331 = .ok (.iconst 2, 1) := zd_dec hw36 (q := 27) rfl (by decide +kernel)
theorem dL_law_2332 : decode cL_law 2332 = .ok (.iadd, 1) := zd_dec hw36 (q := 28) rfl (by decide +kernel)
theorem dL_law_2333 : decode cL_law 2333 = .ok (.iaload, 1) := zd_dec hw36 (q := 29) rfl (by decide +kernel)
theorem dL_law_2334 : decode cL_law 2334 = .ok (.ifCond .eq 7, 3) := zd_dec hw36 (q := 30) rfl (by decide +kernel)
theorem dL_law_2341 : decode cL_law 2341 = .ok (.iconst 0, 1) := zd_dec hw36 (q := 37) rfl (by decide +kernel)
theorem dL_law_2342 : decode cL_law 2342 = .ok (.invokevirtual 376, 3) := zd_dec hw36 (q := 38) rfl (by decide +kernel)
theorem dL_law_2345 : decode cL_law 2345 = .ok (.istore 6, 2) := zd_dec hw36 (q := 41) rfl (by decide +kernel)
theorem dL_law_2347 : decode cL_law 2347 = .ok (.aload_n 2, 1) := zd_dec hw36 (q := 43) rfl (by decide +kernel)
theorem dL_law_2348 : decode cL_law 2348 = .ok (.invokevirtual 281, 3) := zd_dec hw36 (q := 44) rfl (by decide +kernel)
theorem dL_law_2351 : decode cL_law 2351 = .ok (.iload 5, 2) := zd_dec hw36 (q := 47) rfl (by decide +kernel)
theorem dL_law_2353 : decode cL_law 2353 = .ok (.if_icmp .eq 5, 3) := zd_dec hw36 (q := 49) rfl (by decide +kernel)
theorem dL_law_2358 : decode cL_law 2358 = .ok (.iload 5, 2) := zd_dec hw36 (q := 54) rfl (by decide +kernel)
theorem dL_law_2360 : decode cL_law 2360 = .ok (.ifCond .ne 22, 3) := zd_dec hw36 (q := 56) rfl (by decide +kernel)
theorem dL_law_2382 : decode cL_law 2382 = .ok (.goto 3620, 3) := zd_dec hw37 (q := 14) rfl (by decide +kernel)
theorem dL_law_2363 : decode cL_law 2363 = .ok (.aload_n 3, 1) := zd_dec hw36 (q := 59) rfl (by decide +kernel)
theorem dL_law_2364 : decode cL_law 2364 = .ok (.iconst 0, 1) := zd_dec hw36 (q := 60) rfl (by decide +kernel)
theorem dL_law_2365 : decode cL_law 2365 = .ok (.laload, 1) := zd_dec hw36 (q := 61) rfl (by decide +kernel)
theorem dL_law_2366 : decode cL_law 2366 = .ok (.iload 6, 2) := zd_dec hw36 (q := 62) rfl (by decide +kernel)
theorem dL_law_2368 : decode cL_law 2368 = .ok (.ifCond .eq 7, 3) := zd_dec hw37 (q := 0) rfl (by decide +kernel)
theorem dL_law_2375 : decode cL_law 2375 = .ok (.lconst 0, 1) := zd_dec hw37 (q := 7) rfl (by decide +kernel)
theorem dL_law_2376 : decode cL_law 2376 = .ok (.lcmp, 1) := zd_dec hw37 (q := 8) rfl (by decide +kernel)
theorem dL_law_2377 : decode cL_law 2377 = .ok (.ifCond .eq 5, 3) := zd_dec hw37 (q := 9) rfl (by decide +kernel)
theorem dL_law_2380 : decode cL_law 2380 = .ok (.iconst 0, 1) := zd_dec hw37 (q := 12) rfl (by decide +kernel)
theorem dL_law_2381 : decode cL_law 2381 = .ok (.ireturn, 1) := zd_dec hw37 (q := 13) rfl (by decide +kernel)
theorem dL_law_2371 : decode cL_law 2371 = .ok (.lconst 1, 1) := zd_dec hw37 (q := 3) rfl (by decide +kernel)
theorem dL_law_2372 : decode cL_law 2372 = .ok (.goto 4, 3) := zd_dec hw37 (q := 4) rfl (by decide +kernel)
theorem dL_law_2356 : decode cL_law 2356 = .ok (.iconst 0, 1) := zd_dec hw36 (q := 52) rfl (by decide +kernel)
theorem dL_law_2357 : decode cL_law 2357 = .ok (.ireturn, 1) := zd_dec hw36 (q := 53) rfl (by decide +kernel)
theorem dL_law_2337 : decode cL_law 2337 = .ok (.iconst 1, 1) := zd_dec hw36 (q := 33) rfl (by decide +kernel)
theorem dL_law_2338 : decode cL_law 2338 = .ok (.goto 4, 3) := zd_dec hw36 (q := 34) rfl (by decide +kernel)
theorem dL_law_2310 : decode cL_law 2310 = .ok (.iconst 1, 1) := zd_dec hw36 (q := 6) rfl (by decide +kernel)
theorem dL_law_2311 : decode cL_law 2311 = .ok (.goto 4, 3) := zd_dec hw36 (q := 7) rfl (by decide +kernel)
theorem dL_law_2385 : decode cL_law 2385 = .ok (.aload_n 1, 1) := zd_dec hw37 (q := 17) rfl (by decide +kernel)
theorem dL_law_2386 : decode cL_law 2386 = .ok (.aload_n 0, 1) := zd_dec hw37 (q := 18) rfl (by decide +kernel)
theorem dL_law_2387 : decode cL_law 2387 = .ok (.iload 4, 2) := zd_dec hw37 (q := 19) rfl (by decide +kernel)
theorem dL_law_2389 : decode cL_law 2389 = .ok (.iconst 1, 1) := zd_dec hw37 (q := 21) rfl (by decide +kernel)
theorem dL_law_2390 : decode cL_law 2390 = .ok (.iadd, 1) := zd_dec hw37 (q := 22) rfl (by decide +kernel)
theorem dL_law_2391 : decode cL_law 2391 = .ok (.iaload, 1) := zd_dec hw37 (q := 23) rfl (by decide +kernel)
theorem dL_law_2392 : decode cL_law 2392 = .ok (.aload_n 0, 1) := zd_dec hw37 (q := 24) rfl (by decide +kernel)
theorem dL_law_2393 : decode cL_law 2393 = .ok (.iload 4, 2) := zd_dec hw37 (q := 25) rfl (by decide +kernel)
theorem dL_law_2395 : decode cL_law 2395 = .ok (.iconst 2, 1) := zd_dec hw37 (q := 27) rfl (by decide +kernel)
theorem dL_law_2396 : decode cL_law 2396 = .ok (.iadd, 1) := zd_dec hw37 (q := 28) rfl (by decide +kernel)
theorem dL_law_2397 : decode cL_law 2397 = .ok (.iaload, 1) := zd_dec hw37 (q := 29) rfl (by decide +kernel)
theorem dL_law_2398 : decode cL_law 2398 = .ok (.aload_n 0, 1) := zd_dec hw37 (q := 30) rfl (by decide +kernel)
theorem dL_law_2399 : decode cL_law 2399 = .ok (.iload 4, 2) := zd_dec hw37 (q := 31) rfl (by decide +kernel)
theorem dL_law_2401 : decode cL_law 2401 = .ok (.iconst 3, 1) := zd_dec hw37 (q := 33) rfl (by decide +kernel)
theorem dL_law_2402 : decode cL_law 2402 = .ok (.iadd, 1) := zd_dec hw37 (q := 34) rfl (by decide +kernel)
theorem dL_law_2403 : decode cL_law 2403 = .ok (.iaload, 1) := zd_dec hw37 (q := 35) rfl (by decide +kernel)
theorem dL_law_2404 : decode cL_law 2404 = .ok (.ifCond .eq 7, 3) := zd_dec hw37 (q := 36) rfl (by decide +kernel)
theorem dL_law_2411 : decode cL_law 2411 = .ok (.iconst 0, 1) := zd_dec hw37 (q := 43) rfl (by decide +kernel)
theorem dL_law_2412 : decode cL_law 2412 = .ok (.aload_n 3, 1) := zd_dec hw37 (q := 44) rfl (by decide +kernel)
theorem dL_law_2413 : decode cL_law 2413 = .ok (.invokestatic 377, 3) := zd_dec hw37 (q := 45) rfl (by decide +kernel)
theorem dL_law_2416 : decode cL_law 2416 = .ok (.istore 5, 2) := zd_dec hw37 (q := 48) rfl (by decide +kernel)
theorem dL_law_2418 : decode cL_law 2418 = .ok (.aload_n 2, 1) := zd_dec hw37 (q := 50) rfl (by decide +kernel)
theorem dL_law_2419 : decode cL_law 2419 = .ok (.aload_n 0, 1) := zd_dec hw37 (q := 51) rfl (by decide +kernel)
theorem dL_law_2420 : decode cL_law 2420 = .ok (.iload 4, 2) := zd_dec hw37 (q := 52) rfl (by decide +kernel)
theorem dL_law_2422 : decode cL_law 2422 = .ok (.iconst 1, 1) := zd_dec hw37 (q := 54) rfl (by decide +kernel)
theorem dL_law_2423 : decode cL_law 2423 = .ok (.iadd, 1) := zd_dec hw37 (q := 55) rfl (by decide +kernel)
theorem dL_law_2424 : decode cL_law 2424 = .ok (.iaload, 1) := zd_dec hw37 (q := 56) rfl (by decide +kernel)
theorem dL_law_2425 : decode cL_law 2425 = .ok (.aload_n 0, 1) := zd_dec hw37 (q := 57) rfl (by decide +kernel)
theorem dL_law_2426 : decode cL_law 2426 = .ok (.iload 4, 2) := zd_dec hw37 (q := 58) rfl (by decide +kernel)
theorem dL_law_2428 : decode cL_law 2428 = .ok (.iconst 2, 1) := zd_dec hw37 (q := 60) rfl (by decide +kernel)
theorem dL_law_2429 : decode cL_law 2429 = .ok (.iadd, 1) := zd_dec hw37 (q := 61) rfl (by decide +kernel)
theorem dL_law_2430 : decode cL_law 2430 = .ok (.iaload, 1) := zd_dec hw37 (q := 62) rfl (by decide +kernel)
theorem dL_law_2431 : decode cL_law 2431 = .ok (.aload_n 0, 1) := zd_dec hw37 (q := 63) rfl (by decide +kernel)
theorem dL_law_2432 : decode cL_law 2432 = .ok (.iload 4, 2) := zd_dec hw38 (q := 0) rfl (by decide +kernel)
theorem dL_law_2434 : decode cL_law 2434 = .ok (.iconst 3, 1) := zd_dec hw38 (q := 2) rfl (by decide +kernel)
theorem dL_law_2435 : decode cL_law 2435 = .ok (.iadd, 1) := zd_dec hw38 (q := 3) rfl (by decide +kernel)
theorem dL_law_2436 : decode cL_law 2436 = .ok (.iaload, 1) := zd_dec hw38 (q := 4) rfl (by decide +kernel)
theorem dL_law_2437 : decode cL_law 2437 = .ok (.ifCond .eq 7, 3) := zd_dec hw38 (q := 5) rfl (by decide +kernel)
theorem dL_law_2444 : decode cL_law 2444 = .ok (.iconst 0, 1) := zd_dec hw38 (q := 12) rfl (by decide +kernel)
theorem dL_law_2445 : decode cL_law 2445 = .ok (.invokevirtual 380, 3) := zd_dec hw38 (q := 13) rfl (by decide +kernel)
theorem dL_law_2448 : decode cL_law 2448 = .ok (.istore 6, 2) := zd_dec hw38 (q := 16) rfl (by decide +kernel)
theorem dL_law_2450 : decode cL_law 2450 = .ok (.aload_n 2, 1) := zd_dec hw38 (q := 18) rfl (by decide +kernel)
theorem dL_law_2451 : decode cL_law 2451 = .ok (.invokevirtual 281, 3) := zd_dec hw38 (q := 19) rfl (by decide +kernel)
theorem dL_law_2454 : decode cL_law 2454 = .ok (.iload 5, 2) := zd_dec hw38 (q := 22) rfl (by decide +kernel)
theorem dL_law_2456 : decode cL_law 2456 = .ok (.if_icmp .eq 5, 3) := zd_dec hw38 (q := 24) rfl (by decide +kernel)
theorem dL_law_2461 : decode cL_law 2461 = .ok (.iload 5, 2) := zd_dec hw38 (q := 29) rfl (by decide +kernel)
theorem dL_law_2463 : decode cL_law 2463 = .ok (.ifCond .ne 22, 3) := zd_dec hw38 (q := 31) rfl (by decide +kernel)
theorem dL_law_2485 : decode cL_law 2485 = .ok (.goto 3517, 3) := zd_dec hw38 (q := 53) rfl (by decide +kernel)
theorem dL_law_2466 : decode cL_law 2466 = .ok (.aload_n 3, 1) := zd_dec hw38 (q := 34) rfl (by decide +kernel)
theorem dL_law_2467 : decode cL_law 2467 = .ok (.iconst 0, 1) := zd_dec hw38 (q := 35) rfl (by decide +kernel)
theorem dL_law_2468 : decode cL_law 2468 = .ok (.laload, 1) := zd_dec hw38 (q := 36) rfl (by decide +kernel)
theorem dL_law_2469 : decode cL_law 2469 = .ok (.iload 6, 2) := zd_dec hw38 (q := 37) rfl (by decide +kernel)
theorem dL_law_2471 : decode cL_law 2471 = .ok (.ifCond .eq 7, 3) := zd_dec hw38 (q := 39) rfl (by decide +kernel)
theorem dL_law_2478 : decode cL_law 2478 = .ok (.lconst 0, 1) := zd_dec hw38 (q := 46) rfl (by decide +kernel)
theorem dL_law_2479 : decode cL_law 2479 = .ok (.lcmp, 1) := zd_dec hw38 (q := 47) rfl (by decide +kernel)
theorem dL_law_2480 : decode cL_law 2480 = .ok (.ifCond .eq 5, 3) := zd_dec hw38 (q := 48) rfl (by decide +kernel)
theorem dL_law_2483 : decode cL_law 2483 = .ok (.iconst 0, 1) := zd_dec hw38 (q := 51) rfl (by decide +kernel)
theorem dL_law_2484 : decode cL_law 2484 = .ok (.ireturn, 1) := zd_dec hw38 (q := 52) rfl (by decide +kernel)
theorem dL_law_2474 : decode cL_law 2474 = .ok (.lconst 1, 1) := zd_dec hw38 (q := 42) rfl (by decide +kernel)
theorem dL_law_2475 : decode cL_law 2475 = .ok (.goto 4, 3) := zd_dec hw38 (q := 43) rfl (by decide +kernel)
theorem dL_law_2459 : decode cL_law 2459 = .ok (.iconst 0, 1) := zd_dec hw38 (q := 27) rfl (by decide +kernel)
theorem dL_law_2460 : decode cL_law 2460 = .ok (.ireturn, 1) := zd_dec hw38 (q := 28) rfl (by decide +kernel)
theorem dL_law_2440 : decode cL_law 2440 = .ok (.iconst 1, 1) := zd_dec hw38 (q := 8) rfl (by decide +kernel)
theorem dL_law_2441 : decode cL_law 2441 = .ok (.goto 4, 3) := zd_dec hw38 (q := 9) rfl (by decide +kernel)
theorem dL_law_2407 : decode cL_law 2407 = .ok (.iconst 1, 1) := zd_dec hw37 (q := 39) rfl (by decide +kernel)
theorem dL_law_2408 : decode cL_law 2408 = .ok (.goto 4, 3) := zd_dec hw37 (q := 40) rfl (by decide +kernel)
theorem dL_law_2488 : decode cL_law 2488 = .ok (.aload_n 1, 1) := zd_dec hw38 (q := 56) rfl (by decide +kernel)
theorem dL_law_2489 : decode cL_law 2489 = .ok (.aload_n 0, 1) := zd_dec hw38 (q := 57) rfl (by decide +kernel)
theorem dL_law_2490 : decode cL_law 2490 = .ok (.iload 4, 2) := zd_dec hw38 (q := 58) rfl (by decide +kernel)
theorem dL_law_2492 : decode cL_law 2492 = .ok (.iconst 1, 1) := zd_dec hw38 (q := 60) rfl (by decide +kernel)
theorem dL_law_2493 : decode cL_law 2493 = .ok (.iadd, 1) := zd_dec hw38 (q := 61) rfl (by decide +kernel)
theorem dL_law_2494 : decode cL_law 2494 = .ok (.iaload, 1) := zd_dec hw38 (q := 62) rfl (by decide +kernel)
theorem dL_law_2495 : decode cL_law 2495 = .ok (.aload_n 0, 1) := zd_dec hw38 (q := 63) rfl (by decide +kernel)
theorem dL_law_2496 : decode cL_law 2496 = .ok (.iload 4, 2) := zd_dec hw39 (q := 0) rfl (by decide +kernel)
theorem dL_law_2498 : decode cL_law 2498 = .ok (.iconst 2, 1) := zd_dec hw39 (q := 2) rfl (by decide +kernel)
theorem dL_law_2499 : decode cL_law 2499 = .ok (.iadd, 1) := zd_dec hw39 (q := 3) rfl (by decide +kernel)
theorem dL_law_2500 : decode cL_law 2500 = .ok (.iaload, 1) := zd_dec hw39 (q := 4) rfl (by decide +kernel)
theorem dL_law_2501 : decode cL_law 2501 = .ok (.ifCond .eq 7, 3) := zd_dec hw39 (q := 5) rfl (by decide +kernel)
theorem dL_law_2508 : decode cL_law 2508 = .ok (.iconst 0, 1) := zd_dec hw39 (q := 12) rfl (by decide +kernel)
theorem dL_law_2509 : decode cL_law 2509 = .ok (.aload_n 3, 1) := zd_dec hw39 (q := 13) rfl (by decide +kernel)
theorem dL_law_2510 : decode cL_law 2510 = .ok (.invokestatic 381, 3) := zd_dec hw39 (q := 14) rfl (by decide +kernel)
theorem dL_law_2513 : decode cL_law 2513 = .ok (.istore 5, 2) := zd_dec hw39 (q := 17) rfl (by decide +kernel)
theorem dL_law_2515 : decode cL_law 2515 = .ok (.aload_n 2, 1) := zd_dec hw39 (q := 19) rfl (by decide +kernel)
theorem dL_law_2516 : decode cL_law 2516 = .ok (.aload_n 0, 1) := zd_dec hw39 (q := 20) rfl (by decide +kernel)
theorem dL_law_2517 : decode cL_law 2517 = .ok (.iload 4, 2) := zd_dec hw39 (q := 21) rfl (by decide +kernel)
theorem dL_law_2519 : decode cL_law 2519 = .ok (.iconst 1, 1) := zd_dec hw39 (q := 23) rfl (by decide +kernel)
theorem dL_law_2520 : decode cL_law 2520 = .ok (.iadd, 1) := zd_dec hw39 (q := 24) rfl (by decide +kernel)
theorem dL_law_2521 : decode cL_law 2521 = .ok (.iaload, 1) := zd_dec hw39 (q := 25) rfl (by decide +kernel)
theorem dL_law_2522 : decode cL_law 2522 = .ok (.aload_n 0, 1) := zd_dec hw39 (q := 26) rfl (by decide +kernel)
theorem dL_law_2523 : decode cL_law 2523 = .ok (.iload 4, 2) := zd_dec hw39 (q := 27) rfl (by decide +kernel)
theorem dL_law_2525 : decode cL_law 2525 = .ok (.iconst 2, 1) := zd_dec hw39 (q := 29) rfl (by decide +kernel)
theorem dL_law_2526 : decode cL_law 2526 = .ok (.iadd, 1) := zd_dec hw39 (q := 30) rfl (by decide +kernel)
theorem dL_law_2527 : decode cL_law 2527 = .ok (.iaload, 1) := zd_dec hw39 (q := 31) rfl (by decide +kernel)
theorem dL_law_2528 : decode cL_law 2528 = .ok (.ifCond .eq 7, 3) := zd_dec hw39 (q := 32) rfl (by decide +kernel)
theorem dL_law_2535 : decode cL_law 2535 = .ok (.iconst 0, 1) := zd_dec hw39 (q := 39) rfl (by decide +kernel)
theorem dL_law_2536 : decode cL_law 2536 = .ok (.invokevirtual 383, 3) := zd_dec hw39 (q := 40) rfl (by decide +kernel)
theorem dL_law_2539 : decode cL_law 2539 = .ok (.istore 6, 2) := zd_dec hw39 (q := 43) rfl (by decide +kernel)
theorem dL_law_2541 : decode cL_law 2541 = .ok (.aload_n 2, 1) := zd_dec hw39 (q := 45) rfl (by decide +kernel)
theorem dL_law_2542 : decode cL_law 2542 = .ok (.invokevirtual 281, 3) := zd_dec hw39 (q := 46) rfl (by decide +kernel)
theorem dL_law_2545 : decode cL_law 2545 = .ok (.iload 5, 2) := zd_dec hw39 (q := 49) rfl (by decide +kernel)
theorem dL_law_2547 : decode cL_law 2547 = .ok (.if_icmp .eq 5, 3) := zd_dec hw39 (q := 51) rfl (by decide +kernel)
theorem dL_law_2552 : decode cL_law 2552 = .ok (.iload 5, 2) := zd_dec hw39 (q := 56) rfl (by decide +kernel)
theorem dL_law_2554 : decode cL_law 2554 = .ok (.ifCond .ne 15, 3) := zd_dec hw39 (q := 58) rfl (by decide +kernel)
theorem dL_law_2569 : decode cL_law 2569 = .ok (.goto 3433, 3) := zd_dec hw40 (q := 9) rfl (by decide +kernel)
theorem dL_law_2557 : decode cL_law 2557 = .ok (.aload_n 3, 1) := zd_dec hw39 (q := 61) rfl (by decide +kernel)
theorem dL_law_2558 : decode cL_law 2558 = .ok (.iconst 0, 1) := zd_dec hw39 (q := 62) rfl (by decide +kernel)
theorem dL_law_2559 : decode cL_law 2559 = .ok (.laload, 1) := zd_dec hw39 (q := 63) rfl (by decide +kernel)
theorem dL_law_2560 : decode cL_law 2560 = .ok (.iload 6, 2) := zd_dec hw40 (q := 0) rfl (by decide +kernel)
theorem dL_law_2562 : decode cL_law 2562 = .ok (.i2l, 1) := zd_dec hw40 (q := 2) rfl (by decide +kernel)
theorem dL_law_2563 : decode cL_law 2563 = .ok (.lcmp, 1) := zd_dec hw40 (q := 3) rfl (by decide +kernel)
theorem dL_law_2564 : decode cL_law 2564 = .ok (.ifCond .eq 5, 3) := zd_dec hw40 (q := 4) rfl (by decide +kernel)
theorem dL_law_2567 : decode cL_law 2567 = .ok (.iconst 0, 1) := zd_dec hw40 (q := 7) rfl (by decide +kernel)
theorem dL_law_2568 : decode cL_law 2568 = .ok (.ireturn, 1) := zd_dec hw40 (q := 8) rfl (by decide +kernel)
theorem dL_law_2550 : decode cL_law 2550 = .ok (.iconst 0, 1) := zd_dec hw39 (q := 54) rfl (by decide +kernel)
theorem dL_law_2551 : decode cL_law 2551 = .ok (.ireturn, 1) := zd_dec hw39 (q := 55) rfl (by decide +kernel)
theorem dL_law_2531 : decode cL_law 2531 = .ok (.iconst 1, 1) := zd_dec hw39 (q := 35) rfl (by decide +kernel)
theorem dL_law_2532 : decode cL_law 2532 = .ok (.goto 4, 3) := zd_dec hw39 (q := 36) rfl (by decide +kernel)
theorem dL_law_2504 : decode cL_law 2504 = .ok (.iconst 1, 1) := zd_dec hw39 (q := 8) rfl (by decide +kernel)
theorem dL_law_2505 : decode cL_law 2505 = .ok (.goto 4, 3) := zd_dec hw39 (q := 9) rfl (by decide +kernel)
theorem dL_law_2572 : decode cL_law 2572 = .ok (.aload_n 1, 1) := zd_dec hw40 (q := 12) rfl (by decide +kernel)
theorem dL_law_2573 : decode cL_law 2573 = .ok (.aload_n 0, 1) := zd_dec hw40 (q := 13) rfl (by decide +kernel)
theorem dL_law_2574 : decode cL_law 2574 = .ok (.iload 4, 2) := zd_dec hw40 (q := 14) rfl (by decide +kernel)
theorem dL_law_2576 : decode cL_law 2576 = .ok (.iconst 1, 1) := zd_dec hw40 (q := 16) rfl (by decide +kernel)
theorem dL_law_2577 : decode cL_law 2577 = .ok (.iadd, 1) := zd_dec hw40 (q := 17) rfl (by decide +kernel)
theorem dL_law_2578 : decode cL_law 2578 = .ok (.iaload, 1) := zd_dec hw40 (q := 18) rfl (by decide +kernel)
theorem dL_law_2579 : decode cL_law 2579 = .ok (.aload_n 0, 1) := zd_dec hw40 (q := 19) rfl (by decide +kernel)
theorem dL_law_2580 : decode cL_law 2580 = .ok (.iload 4, 2) := zd_dec hw40 (q := 20) rfl (by decide +kernel)
theorem dL_law_2582 : decode cL_law 2582 = .ok (.iconst 2, 1) := zd_dec hw40 (q := 22) rfl (by decide +kernel)
theorem dL_law_2583 : decode cL_law 2583 = .ok (.iadd, 1) := zd_dec hw40 (q := 23) rfl (by decide +kernel)
theorem dL_law_2584 : decode cL_law 2584 = .ok (.iaload, 1) := zd_dec hw40 (q := 24) rfl (by decide +kernel)
theorem dL_law_2585 : decode cL_law 2585 = .ok (.ifCond .eq 7, 3) := zd_dec hw40 (q := 25) rfl (by decide +kernel)
theorem dL_law_2592 : decode cL_law 2592 = .ok (.iconst 0, 1) := zd_dec hw40 (q := 32) rfl (by decide +kernel)
theorem dL_law_2593 : decode cL_law 2593 = .ok (.aload_n 3, 1) := zd_dec hw40 (q := 33) rfl (by decide +kernel)
theorem dL_law_2594 : decode cL_law 2594 = .ok (.invokestatic 384, 3) := zd_dec hw40 (q := 34) rfl (by decide +kernel)
theorem dL_law_2597 : decode cL_law 2597 = .ok (.istore 5, 2) := zd_dec hw40 (q := 37) rfl (by decide +kernel)
theorem dL_law_2599 : decode cL_law 2599 = .ok (.aload_n 2, 1) := zd_dec hw40 (q := 39) rfl (by decide +kernel)
theorem dL_law_2600 : decode cL_law 2600 = .ok (.aload_n 0, 1) := zd_dec hw40 (q := 40) rfl (by decide +kernel)
theorem dL_law_2601 : decode cL_law 2601 = .ok (.iload 4, 2) := zd_dec hw40 (q := 41) rfl (by decide +kernel)
theorem dL_law_2603 : decode cL_law 2603 = .ok (.iconst 1, 1) := zd_dec hw40 (q := 43) rfl (by decide +kernel)
theorem dL_law_2604 : decode cL_law 2604 = .ok (.iadd, 1) := zd_dec hw40 (q := 44) rfl (by decide +kernel)
theorem dL_law_2605 : decode cL_law 2605 = .ok (.iaload, 1) := zd_dec hw40 (q := 45) rfl (by decide +kernel)
theorem dL_law_2606 : decode cL_law 2606 = .ok (.aload_n 0, 1) := zd_dec hw40 (q := 46) rfl (by decide +kernel)
theorem dL_law_2607 : decode cL_law 2607 = .ok (.iload 4, 2) := zd_dec hw40 (q := 47) rfl (by decide +kernel)
theorem dL_law_2609 : decode cL_law 2609 = .ok (.iconst 2, 1) := zd_dec hw40 (q := 49) rfl (by decide +kernel)
theorem dL_law_2610 : decode cL_law 2610 = .ok (.iadd, 1) := zd_dec hw40 (q := 50) rfl (by decide +kernel)
theorem dL_law_2611 : decode cL_law 2611 = .ok (.iaload, 1) := zd_dec hw40 (q := 51) rfl (by decide +kernel)
theorem dL_law_2612 : decode cL_law 2612 = .ok (.ifCond .eq 7, 3) := zd_dec hw40 (q := 52) rfl (by decide +kernel)
theorem dL_law_2619 : decode cL_law 2619 = .ok (.iconst 0, 1) := zd_dec hw40 (q := 59) rfl (by decide +kernel)
theorem dL_law_2620 : decode cL_law 2620 = .ok (.invokevirtual 386, 3) := zd_dec hw40 (q := 60) rfl (by decide +kernel)
theorem dL_law_2623 : decode cL_law 2623 = .ok (.istore 6, 2) := zd_dec hw40 (q := 63) rfl (by decide +kernel)
theorem dL_law_2625 : decode cL_law 2625 = .ok (.aload_n 2, 1) := zd_dec hw41 (q := 1) rfl (by decide +kernel)
theorem dL_law_2626 : decode cL_law 2626 = .ok (.invokevirtual 281, 3) := zd_dec hw41 (q := 2) rfl (by decide +kernel)
theorem dL_law_2629 : decode cL_law 2629 = .ok (.iload 5, 2) := zd_dec hw41 (q := 5) rfl (by decide +kernel)
theorem dL_law_2631 : decode cL_law 2631 = .ok (.if_icmp .eq 5, 3) := zd_dec hw41 (q := 7) rfl (by decide +kernel)
theorem dL_law_2636 : decode cL_law 2636 = .ok (.iload 5, 2) := zd_dec hw41 (q := 12) rfl (by decide +kernel)
theorem dL_law_2638 : decode cL_law 2638 = .ok (.ifCond .ne 15, 3) := zd_dec hw41 (q := 14) rfl (by decide +kernel)
theorem dL_law_2653 : decode cL_law 2653 = .ok (.goto 3349, 3) := zd_dec hw41 (q := 29) rfl (by decide +kernel)
theorem dL_law_2641 : decode cL_law 2641 = .ok (.aload_n 3, 1) := zd_dec hw41 (q := 17) rfl (by decide +kernel)
theorem dL_law_2642 : decode cL_law 2642 = .ok (.iconst 0, 1) := zd_dec hw41 (q := 18) rfl (by decide +kernel)
theorem dL_law_2643 : decode cL_law 2643 = .ok (.laload, 1) := zd_dec hw41 (q := 19) rfl (by decide +kernel)
theorem dL_law_2644 : decode cL_law 2644 = .ok (.iload 6, 2) := zd_dec hw41 (q := 20) rfl (by decide +kernel)
theorem dL_law_2646 : decode cL_law 2646 = .ok (.i2l, 1) := zd_dec hw41 (q := 22) rfl (by decide +kernel)
theorem dL_law_2647 : decode cL_law 2647 = .ok (.lcmp, 1) := zd_dec hw41 (q := 23) rfl (by decide +kernel)
theorem dL_law_2648 : decode cL_law 2648 = .ok (.ifCond .eq 5, 3) := zd_dec hw41 (q := 24) rfl (by decide +kernel)
theorem dL_law_2651 : decode cL_law 2651 = .ok (.iconst 0, 1) := zd_dec hw41 (q := 27) rfl (by decide +kernel)
theorem dL_law_2652 : decode cL_law 2652 = .ok (.ireturn, 1) := zd_dec hw41 (q := 28) rfl (by decide +kernel)
theorem dL_law_2634 : decode cL_law 2634 = .ok (.iconst 0, 1) := zd_dec hw41 (q := 10) rfl (by decide +kernel)
theorem dL_law_2635 : decode cL_law 2635 = .ok (.ireturn, 1) := zd_dec hw41 (q := 11) rfl (by decide +kernel)
theorem dL_law_2615 : decode cL_law 2615 = .ok (.iconst 1, 1) := zd_dec hw40 (q := 55) rfl (by decide +kernel)
theorem dL_law_2616 : decode cL_law 2616 = .ok (.goto 4, 3) := zd_dec hw40 (q := 56) rfl (by decide +kernel)
theorem dL_law_2588 : decode cL_law 2588 = .ok (.iconst 1, 1) := zd_dec hw40 (q := 28) rfl (by decide +kernel)
theorem dL_law_2589 : decode cL_law 2589 = .ok (.goto 4, 3) := zd_dec hw40 (q := 29) rfl (by decide +kernel)
theorem dL_law_2656 : decode cL_law 2656 = .ok (.aload_n 1, 1) := zd_dec hw41 (q := 32) rfl (by decide +kernel)
theorem dL_law_2657 : decode cL_law 2657 = .ok (.aload_n 0, 1) := zd_dec hw41 (q := 33) rfl (by decide +kernel)
theorem dL_law_2658 : decode cL_law 2658 = .ok (.iload 4, 2) := zd_dec hw41 (q := 34) rfl (by decide +kernel)
theorem dL_law_2660 : decode cL_law 2660 = .ok (.iconst 1, 1) := zd_dec hw41 (q := 36) rfl (by decide +kernel)
theorem dL_law_2661 : decode cL_law 2661 = .ok (.iadd, 1) := zd_dec hw41 (q := 37) rfl (by decide +kernel)
theorem dL_law_2662 : decode cL_law 2662 = .ok (.iaload, 1) := zd_dec hw41 (q := 38) rfl (by decide +kernel)
theorem dL_law_2663 : decode cL_law 2663 = .ok (.aload_n 0, 1) := zd_dec hw41 (q := 39) rfl (by decide +kernel)
theorem dL_law_2664 : decode cL_law 2664 = .ok (.iload 4, 2) := zd_dec hw41 (q := 40) rfl (by decide +kernel)
theorem dL_law_2666 : decode cL_law 2666 = .ok (.iconst 2, 1) := zd_dec hw41 (q := 42) rfl (by decide +kernel)
theorem dL_law_2667 : decode cL_law 2667 = .ok (.iadd, 1) := zd_dec hw41 (q := 43) rfl (by decide +kernel)
theorem dL_law_2668 : decode cL_law 2668 = .ok (.iaload, 1) := zd_dec hw41 (q := 44) rfl (by decide +kernel)
theorem dL_law_2669 : decode cL_law 2669 = .ok (.aload_n 0, 1) := zd_dec hw41 (q := 45) rfl (by decide +kernel)
theorem dL_law_2670 : decode cL_law 2670 = .ok (.iload 4, 2) := zd_dec hw41 (q := 46) rfl (by decide +kernel)
theorem dL_law_2672 : decode cL_law 2672 = .ok (.iconst 3, 1) := zd_dec hw41 (q := 48) rfl (by decide +kernel)
theorem dL_law_2673 : decode cL_law 2673 = .ok (.iadd, 1) := zd_dec hw41 (q := 49) rfl (by decide +kernel)
theorem dL_law_2674 : decode cL_law 2674 = .ok (.iaload, 1) := zd_dec hw41 (q := 50) rfl (by decide +kernel)
theorem dL_law_2675 : decode cL_law 2675 = .ok (.aload_n 3, 1) := zd_dec hw41 (q := 51) rfl (by decide +kernel)
theorem dL_law_2676 : decode cL_law 2676 = .ok (.invokestatic 387, 3) := zd_dec hw41 (q := 52) rfl (by decide +kernel)
theorem dL_law_2679 : decode cL_law 2679 = .ok (.istore 5, 2) := zd_dec hw41 (q := 55) rfl (by decide +kernel)
theorem dL_law_2681 : decode cL_law 2681 = .ok (.aload_n 2, 1) := zd_dec hw41 (q := 57) rfl (by decide +kernel)
theorem dL_law_2682 : decode cL_law 2682 = .ok (.aload_n 0, 1) := zd_dec hw41 (q := 58) rfl (by decide +kernel)
theorem dL_law_2683 : decode cL_law 2683 = .ok (.iload 4, 2) := zd_dec hw41 (q := 59) rfl (by decide +kernel)
theorem dL_law_2685 : decode cL_law 2685 = .ok (.iconst 1, 1) := zd_dec hw41 (q := 61) rfl (by decide +kernel)
theorem dL_law_2686 : decode cL_law 2686 = .ok (.iadd, 1) := zd_dec hw41 (q := 62) rfl (by decide +kernel)
theorem dL_law_2687 : decode cL_law 2687 = .ok (.iaload, 1) := zd_dec hw41 (q := 63) rfl (by decide +kernel)
theorem dL_law_2688 : decode cL_law 2688 = .ok (.aload_n 0, 1) := zd_dec hw42 (q := 0) rfl (by decide +kernel)
theorem dL_law_2689 : decode cL_law 2689 = .ok (.iload 4, 2) := zd_dec hw42 (q := 1) rfl (by decide +kernel)
theorem dL_law_2691 : decode cL_law 2691 = .ok (.iconst 2, 1) := zd_dec hw42 (q := 3) rfl (by decide +kernel)
theorem dL_law_2692 : decode cL_law 2692 = .ok (.iadd, 1) := zd_dec hw42 (q := 4) rfl (by decide +kernel)
theorem dL_law_2693 : decode cL_law 2693 = .ok (.iaload, 1) := zd_dec hw42 (q := 5) rfl (by decide +kernel)
theorem dL_law_2694 : decode cL_law 2694 = .ok (.aload_n 0, 1) := zd_dec hw42 (q := 6) rfl (by decide +kernel)
theorem dL_law_2695 : decode cL_law 2695 = .ok (.iload 4, 2) := zd_dec hw42 (q := 7) rfl (by decide +kernel)
theorem dL_law_2697 : decode cL_law 2697 = .ok (.iconst 3, 1) := zd_dec hw42 (q := 9) rfl (by decide +kernel)
theorem dL_law_2698 : decode cL_law 2698 = .ok (.iadd, 1) := zd_dec hw42 (q := 10) rfl (by decide +kernel)
theorem dL_law_2699 : decode cL_law 2699 = .ok (.iaload, 1) := zd_dec hw42 (q := 11) rfl (by decide +kernel)
theorem dL_law_2700 : decode cL_law 2700 = .ok (.invokevirtual 389, 3) := zd_dec hw42 (q := 12) rfl (by decide +kernel)
theorem dL_law_2703 : decode cL_law 2703 = .ok (.istore 6, 2) := zd_dec hw42 (q := 15) rfl (by decide +kernel)
theorem dL_law_2705 : decode cL_law 2705 = .ok (.aload_n 2, 1) := zd_dec hw42 (q := 17) rfl (by decide +kernel)
theorem dL_law_2706 : decode cL_law 2706 = .ok (.invokevirtual 281, 3) := zd_dec hw42 (q := 18) rfl (by decide +kernel)
theorem dL_law_2709 : decode cL_law 2709 = .ok (.iload 5, 2) := zd_dec hw42 (q := 21) rfl (by decide +kernel)
theorem dL_law_2711 : decode cL_law 2711 = .ok (.if_icmp .eq 5, 3) := zd_dec hw42 (q := 23) rfl (by decide +kernel)
theorem dL_law_2716 : decode cL_law 2716 = .ok (.iload 5, 2) := zd_dec hw42 (q := 28) rfl (by decide +kernel)
theorem dL_law_2718 : decode cL_law 2718 = .ok (.ifCond .ne 15, 3) := zd_dec hw42 (q := 30) rfl (by decide +kernel)
theorem dL_law_2733 : decode cL_law 2733 = .ok (.goto 3269, 3) := zd_dec hw42 (q := 45) rfl (by decide +kernel)
theorem dL_law_2721 : decode cL_law 2721 = .ok (.aload_n 3, 1) := zd_dec hw42 (q := 33) rfl (by decide +kernel)
theorem dL_law_2722 : decode cL_law 2722 = .ok (.iconst 0, 1) := zd_dec hw42 (q := 34) rfl (by decide +kernel)
theorem dL_law_2723 : decode cL_law 2723 = .ok (.laload, 1) := zd_dec hw42 (q := 35) rfl (by decide +kernel)
theorem dL_law_2724 : decode cL_law 2724 = .ok (.iload 6, 2) := zd_dec hw42 (q := 36) rfl (by decide +kernel)
theorem dL_law_2726 : decode cL_law 2726 = .ok (.i2l, 1) := zd_dec hw42 (q := 38) rfl (by decide +kernel)
theorem dL_law_2727 : decode cL_law 2727 = .ok (.lcmp, 1) := zd_dec hw42 (q := 39) rfl (by decide +kernel)
theorem dL_law_2728 : decode cL_law 2728 = .ok (.ifCond .eq 5, 3) := zd_dec hw42 (q := 40) rfl (by decide +kernel)
theorem dL_law_2731 : decode cL_law 2731 = .ok (.iconst 0, 1) := zd_dec hw42 (q := 43) rfl (by decide +kernel)
theorem dL_law_2732 : decode cL_law 2732 = .ok (.ireturn, 1) := zd_dec hw42 (q := 44) rfl (by decide +kernel)
theorem dL_law_2714 : decode cL_law 2714 = .ok (.iconst 0, 1) := zd_dec hw42 (q := 26) rfl (by decide +kernel)
theorem dL_law_2715 : decode cL_law 2715 = .ok (.ireturn, 1) := zd_dec hw42 (q := 27) rfl (by decide +kernel)
theorem dL_law_2736 : decode cL_law 2736 = .ok (.aload_n 1, 1) := zd_dec hw42 (q := 48) rfl (by decide +kernel)
theorem dL_law_2737 : decode cL_law 2737 = .ok (.aload_n 0, 1) := zd_dec hw42 (q := 49) rfl (by decide +kernel)
theorem dL_law_2738 : decode cL_law 2738 = .ok (.iload 4, 2) := zd_dec hw42 (q := 50) rfl (by decide +kernel)
theorem dL_law_2740 : decode cL_law 2740 = .ok (.iconst 1, 1) := zd_dec hw42 (q := 52) rfl (by decide +kernel)
theorem dL_law_2741 : decode cL_law 2741 = .ok (.iadd, 1) := zd_dec hw42 (q := 53) rfl (by decide +kernel)
theorem dL_law_2742 : decode cL_law 2742 = .ok (.iaload, 1) := zd_dec hw42 (q := 54) rfl (by decide +kernel)
theorem dL_law_2743 : decode cL_law 2743 = .ok (.aload_n 0, 1) := zd_dec hw42 (q := 55) rfl (by decide +kernel)
theorem dL_law_2744 : decode cL_law 2744 = .ok (.iload 4, 2) := zd_dec hw42 (q := 56) rfl (by decide +kernel)
theorem dL_law_2746 : decode cL_law 2746 = .ok (.iconst 2, 1) := zd_dec hw42 (q := 58) rfl (by decide +kernel)
theorem dL_law_2747 : decode cL_law 2747 = .ok (.iadd, 1) := zd_dec hw42 (q := 59) rfl (by decide +kernel)
theorem dL_law_2748 : decode cL_law 2748 = .ok (.iaload, 1) := zd_dec hw42 (q := 60) rfl (by decide +kernel)
theorem dL_law_2749 : decode cL_law 2749 = .ok (.aload_n 0, 1) := zd_dec hw42 (q := 61) rfl (by decide +kernel)
theorem dL_law_2750 : decode cL_law 2750 = .ok (.iload 4, 2) := zd_dec hw42 (q := 62) rfl (by decide +kernel)
theorem dL_law_2752 : decode cL_law 2752 = .ok (.iconst 3, 1) := zd_dec hw43 (q := 0) rfl (by decide +kernel)
theorem dL_law_2753 : decode cL_law 2753 = .ok (.iadd, 1) := zd_dec hw43 (q := 1) rfl (by decide +kernel)
theorem dL_law_2754 : decode cL_law 2754 = .ok (.iaload, 1) := zd_dec hw43 (q := 2) rfl (by decide +kernel)
theorem dL_law_2755 : decode cL_law 2755 = .ok (.aload_n 0, 1) := zd_dec hw43 (q := 3) rfl (by decide +kernel)
theorem dL_law_2756 : decode cL_law 2756 = .ok (.iload 4, 2) := zd_dec hw43 (q := 4) rfl (by decide +kernel)
theorem dL_law_2758 : decode cL_law 2758 = .ok (.iconst 4, 1) := zd_dec hw43 (q := 6) rfl (by decide +kernel)
theorem dL_law_2759 : decode cL_law 2759 = .ok (.iadd, 1) := zd_dec hw43 (q := 7) rfl (by decide +kernel)
theorem dL_law_2760 : decode cL_law 2760 = .ok (.iaload, 1) := zd_dec hw43 (q := 8) rfl (by decide +kernel)
theorem dL_law_2761 : decode cL_law 2761 = .ok (.aload_n 3, 1) := zd_dec hw43 (q := 9) rfl (by decide +kernel)
theorem dL_law_2762 : decode cL_law 2762 = .ok (.invokestatic 390, 3) := zd_dec hw43 (q := 10) rfl (by decide +kernel)
theorem dL_law_2765 : decode cL_law 2765 = .ok (.istore 5, 2) := zd_dec hw43 (q := 13) rfl (by decide +kernel)
theorem dL_law_2767 : decode cL_law 2767 = .ok (.aload_n 2, 1) := zd_dec hw43 (q := 15) rfl (by decide +kernel)
theorem dL_law_2768 : decode cL_law 2768 = .ok (.aload_n 0, 1) := zd_dec hw43 (q := 16) rfl (by decide +kernel)
theorem dL_law_2769 : decode cL_law 2769 = .ok (.iload 4, 2) := zd_dec hw43 (q := 17) rfl (by decide +kernel)
theorem dL_law_2771 : decode cL_law 2771 = .ok (.iconst 1, 1) := zd_dec hw43 (q := 19) rfl (by decide +kernel)
theorem dL_law_2772 : decode cL_law 2772 = .ok (.iadd, 1) := zd_dec hw43 (q := 20) rfl (by decide +kernel)
theorem dL_law_2773 : decode cL_law 2773 = .ok (.iaload, 1) := zd_dec hw43 (q := 21) rfl (by decide +kernel)
theorem dL_law_2774 : decode cL_law 2774 = .ok (.aload_n 0, 1) := zd_dec hw43 (q := 22) rfl (by decide +kernel)
theorem dL_law_2775 : decode cL_law 2775 = .ok (.iload 4, 2) := zd_dec hw43 (q := 23) rfl (by decide +kernel)
theorem dL_law_2777 : decode cL_law 2777 = .ok (.iconst 2, 1) := zd_dec hw43 (q := 25) rfl (by decide +kernel)
theorem dL_law_2778 : decode cL_law 2778 = .ok (.iadd, 1) := zd_dec hw43 (q := 26) rfl (by decide +kernel)
theorem dL_law_2779 : decode cL_law 2779 = .ok (.iaload, 1) := zd_dec hw43 (q := 27) rfl (by decide +kernel)
theorem dL_law_2780 : decode cL_law 2780 = .ok (.aload_n 0, 1) := zd_dec hw43 (q := 28) rfl (by decide +kernel)
theorem dL_law_2781 : decode cL_law 2781 = .ok (.iload 4, 2) := zd_dec hw43 (q := 29) rfl (by decide +kernel)
theorem dL_law_2783 : decode cL_law 2783 = .ok (.iconst 3, 1) := zd_dec hw43 (q := 31) rfl (by decide +kernel)
theorem dL_law_2784 : decode cL_law 2784 = .ok (.iadd, 1) := zd_dec hw43 (q := 32) rfl (by decide +kernel)
theorem dL_law_2785 : decode cL_law 2785 = .ok (.iaload, 1) := zd_dec hw43 (q := 33) rfl (by decide +kernel)
theorem dL_law_2786 : decode cL_law 2786 = .ok (.aload_n 0, 1) := zd_dec hw43 (q := 34) rfl (by decide +kernel)
theorem dL_law_2787 : decode cL_law 2787 = .ok (.iload 4, 2) := zd_dec hw43 (q := 35) rfl (by decide +kernel)
theorem dL_law_2789 : decode cL_law 2789 = .ok (.iconst 4, 1) := zd_dec hw43 (q := 37) rfl (by decide +kernel)
theorem dL_law_2790 : decode cL_law 2790 = .ok (.iadd, 1) := zd_dec hw43 (q := 38) rfl (by decide +kernel)
theorem dL_law_2791 : decode cL_law 2791 = .ok (.iaload, 1) := zd_dec hw43 (q := 39) rfl (by decide +kernel)
theorem dL_law_2792 : decode cL_law 2792 = .ok (.invokevirtual 392, 3) := zd_dec hw43 (q := 40) rfl (by decide +kernel)
theorem dL_law_2795 : decode cL_law 2795 = .ok (.istore 6, 2) := zd_dec hw43 (q := 43) rfl (by decide +kernel)
theorem dL_law_2797 : decode cL_law 2797 = .ok (.aload_n 2, 1) := zd_dec hw43 (q := 45) rfl (by decide +kernel)
theorem dL_law_2798 : decode cL_law 2798 = .ok (.invokevirtual 281, 3) := zd_dec hw43 (q := 46) rfl (by decide +kernel)
theorem dL_law_2801 : decode cL_law 2801 = .ok (.iload 5, 2) := zd_dec hw43 (q := 49) rfl (by decide +kernel)
theorem dL_law_2803 : decode cL_law 2803 = .ok (.if_icmp .eq 5, 3) := zd_dec hw43 (q := 51) rfl (by decide +kernel)
theorem dL_law_2808 : decode cL_law 2808 = .ok (.iload 5, 2) := zd_dec hw43 (q := 56) rfl (by decide +kernel)
theorem dL_law_2810 : decode cL_law 2810 = .ok (.ifCond .ne 15, 3) := zd_dec hw43 (q := 58) rfl (by decide +kernel)
theorem dL_law_2825 : decode cL_law 2825 = .ok (.goto 3177, 3) := zd_dec hw44 (q := 9) rfl (by decide +kernel)
theorem dL_law_2813 : decode cL_law 2813 = .ok (.aload_n 3, 1) := zd_dec hw43 (q := 61) rfl (by decide +kernel)
theorem dL_law_2814 : decode cL_law 2814 = .ok (.iconst 0, 1) := zd_dec hw43 (q := 62) rfl (by decide +kernel)
theorem dL_law_2815 : decode cL_law 2815 = .ok (.laload, 1) := zd_dec hw43 (q := 63) rfl (by decide +kernel)
theorem dL_law_2816 : decode cL_law 2816 = .ok (.iload 6, 2) := zd_dec hw44 (q := 0) rfl (by decide +kernel)
theorem dL_law_2818 : decode cL_law 2818 = .ok (.i2l, 1) := zd_dec hw44 (q := 2) rfl (by decide +kernel)
theorem dL_law_2819 : decode cL_law 2819 = .ok (.lcmp, 1) := zd_dec hw44 (q := 3) rfl (by decide +kernel)
theorem dL_law_2820 : decode cL_law 2820 = .ok (.ifCond .eq 5, 3) := zd_dec hw44 (q := 4) rfl (by decide +kernel)
theorem dL_law_2823 : decode cL_law 2823 = .ok (.iconst 0, 1) := zd_dec hw44 (q := 7) rfl (by decide +kernel)
theorem dL_law_2824 : decode cL_law 2824 = .ok (.ireturn, 1) := zd_dec hw44 (q := 8) rfl (by decide +kernel)
theorem dL_law_2806 : decode cL_law 2806 = .ok (.iconst 0, 1) := zd_dec hw43 (q := 54) rfl (by decide +kernel)
theorem dL_law_2807 : decode cL_law 2807 = .ok (.ireturn, 1) := zd_dec hw43 (q := 55) rfl (by decide +kernel)
theorem dL_law_2828 : decode cL_law 2828 = .ok (.aload_n 1, 1) := zd_dec hw44 (q := 12) rfl (by decide +kernel)
theorem dL_law_2829 : decode cL_law 2829 = .ok (.aload_n 0, 1) := zd_dec hw44 (q := 13) rfl (by decide +kernel)
theorem dL_law_2830 : decode cL_law 2830 = .ok (.iload 4, 2) := zd_dec hw44 (q := 14) rfl (by decide +kernel)
theorem dL_law_2832 : decode cL_law 2832 = .ok (.iconst 1, 1) := zd_dec hw44 (q := 16) rfl (by decide +kernel)
theorem dL_law_2833 : decode cL_law 2833 = .ok (.iadd, 1) := zd_dec hw44 (q := 17) rfl (by decide +kernel)
theorem dL_law_2834 : decode cL_law 2834 = .ok (.iaload, 1) := zd_dec hw44 (q := 18) rfl (by decide +kernel)
theorem dL_law_2835 : decode cL_law 2835 = .ok (.aload_n 0, 1) := zd_dec hw44 (q := 19) rfl (by decide +kernel)
theorem dL_law_2836 : decode cL_law 2836 = .ok (.iload 4, 2) := zd_dec hw44 (q := 20) rfl (by decide +kernel)
theorem dL_law_2838 : decode cL_law 2838 = .ok (.iconst 2, 1) := zd_dec hw44 (q := 22) rfl (by decide +kernel)
theorem dL_law_2839 : decode cL_law 2839 = .ok (.iadd, 1) := zd_dec hw44 (q := 23) rfl (by decide +kernel)
theorem dL_law_2840 : decode cL_law 2840 = .ok (.iaload, 1) := zd_dec hw44 (q := 24) rfl (by decide +kernel)
theorem dL_law_2841 : decode cL_law 2841 = .ok (.aload_n 3, 1) := zd_dec hw44 (q := 25) rfl (by decide +kernel)
theorem dL_law_2842 : decode cL_law 2842 = .ok (.invokestatic 393, 3) := zd_dec hw44 (q := 26) rfl (by decide +kernel)
theorem dL_law_2845 : decode cL_law 2845 = .ok (.istore 5, 2) := zd_dec hw44 (q := 29) rfl (by decide +kernel)
theorem dL_law_2847 : decode cL_law 2847 = .ok (.aload_n 2, 1) := zd_dec hw44 (q := 31) rfl (by decide +kernel)
theorem dL_law_2848 : decode cL_law 2848 = .ok (.aload_n 0, 1) := zd_dec hw44 (q := 32) rfl (by decide +kernel)
theorem dL_law_2849 : decode cL_law 2849 = .ok (.iload 4, 2) := zd_dec hw44 (q := 33) rfl (by decide +kernel)
theorem dL_law_2851 : decode cL_law 2851 = .ok (.iconst 1, 1) := zd_dec hw44 (q := 35) rfl (by decide +kernel)
theorem dL_law_2852 : decode cL_law 2852 = .ok (.iadd, 1) := zd_dec hw44 (q := 36) rfl (by decide +kernel)
theorem dL_law_2853 : decode cL_law 2853 = .ok (.iaload, 1) := zd_dec hw44 (q := 37) rfl (by decide +kernel)
theorem dL_law_2854 : decode cL_law 2854 = .ok (.aload_n 0, 1) := zd_dec hw44 (q := 38) rfl (by decide +kernel)
theorem dL_law_2855 : decode cL_law 2855 = .ok (.iload 4, 2) := zd_dec hw44 (q := 39) rfl (by decide +kernel)
theorem dL_law_2857 : decode cL_law 2857 = .ok (.iconst 2, 1) := zd_dec hw44 (q := 41) rfl (by decide +kernel)
theorem dL_law_2858 : decode cL_law 2858 = .ok (.iadd, 1) := zd_dec hw44 (q := 42) rfl (by decide +kernel)
theorem dL_law_2859 : decode cL_law 2859 = .ok (.iaload, 1) := zd_dec hw44 (q := 43) rfl (by decide +kernel)
theorem dL_law_2860 : decode cL_law 2860 = .ok (.invokevirtual 395, 3) := zd_dec hw44 (q := 44) rfl (by decide +kernel)
theorem dL_law_2863 : decode cL_law 2863 = .ok (.istore 6, 2) := zd_dec hw44 (q := 47) rfl (by decide +kernel)
theorem dL_law_2865 : decode cL_law 2865 = .ok (.aload_n 2, 1) := zd_dec hw44 (q := 49) rfl (by decide +kernel)
theorem dL_law_2866 : decode cL_law 2866 = .ok (.invokevirtual 281, 3) := zd_dec hw44 (q := 50) rfl (by decide +kernel)
theorem dL_law_2869 : decode cL_law 2869 = .ok (.iload 5, 2) := zd_dec hw44 (q := 53) rfl (by decide +kernel)
theorem dL_law_2871 : decode cL_law 2871 = .ok (.if_icmp .eq 5, 3) := zd_dec hw44 (q := 55) rfl (by decide +kernel)
theorem dL_law_2876 : decode cL_law 2876 = .ok (.iload 5, 2) := zd_dec hw44 (q := 60) rfl (by decide +kernel)
theorem dL_law_2878 : decode cL_law 2878 = .ok (.ifCond .ne 15, 3) := zd_dec hw44 (q := 62) rfl (by decide +kernel)
theorem dL_law_2893 : decode cL_law 2893 = .ok (.goto 3109, 3) := zd_dec hw45 (q := 13) rfl (by decide +kernel)
theorem dL_law_2881 : decode cL_law 2881 = .ok (.aload_n 3, 1) := zd_dec hw45 (q := 1) rfl (by decide +kernel)
theorem dL_law_2882 : decode cL_law 2882 = .ok (.iconst 0, 1) := zd_dec hw45 (q := 2) rfl (by decide +kernel)
theorem dL_law_2883 : decode cL_law 2883 = .ok (.laload, 1) := zd_dec hw45 (q := 3) rfl (by decide +kernel)
theorem dL_law_2884 : decode cL_law 2884 = .ok (.iload 6, 2) := zd_dec hw45 (q := 4) rfl (by decide +kernel)
theorem dL_law_2886 : decode cL_law 2886 = .ok (.i2l, 1) := zd_dec hw45 (q := 6) rfl (by decide +kernel)
theorem dL_law_2887 : decode cL_law 2887 = .ok (.lcmp, 1) := zd_dec hw45 (q := 7) rfl (by decide +kernel)
theorem dL_law_2888 : decode cL_law 2888 = .ok (.ifCond .eq 5, 3) := zd_dec hw45 (q := 8) rfl (by decide +kernel)
theorem dL_law_2891 : decode cL_law 2891 = .ok (.iconst 0, 1) := zd_dec hw45 (q := 11) rfl (by decide +kernel)
theorem dL_law_2892 : decode cL_law 2892 = .ok (.ireturn, 1) := zd_dec hw45 (q := 12) rfl (by decide +kernel)
theorem dL_law_2874 : decode cL_law 2874 = .ok (.iconst 0, 1) := zd_dec hw44 (q := 58) rfl (by decide +kernel)
theorem dL_law_2875 : decode cL_law 2875 = .ok (.ireturn, 1) := zd_dec hw44 (q := 59) rfl (by decide +kernel)
theorem dL_law_2896 : decode cL_law 2896 = .ok (.aload_n 1, 1) := zd_dec hw45 (q := 16) rfl (by decide +kernel)
theorem dL_law_2897 : decode cL_law 2897 = .ok (.aload_n 0, 1) := zd_dec hw45 (q := 17) rfl (by decide +kernel)
theorem dL_law_2898 : decode cL_law 2898 = .ok (.iload 4, 2) := zd_dec hw45 (q := 18) rfl (by decide +kernel)
theorem dL_law_2900 : decode cL_law 2900 = .ok (.iconst 1, 1) := zd_dec hw45 (q := 20) rfl (by decide +kernel)
theorem dL_law_2901 : decode cL_law 2901 = .ok (.iadd, 1) := zd_dec hw45 (q := 21) rfl (by decide +kernel)
theorem dL_law_2902 : decode cL_law 2902 = .ok (.iaload, 1) := zd_dec hw45 (q := 22) rfl (by decide +kernel)
theorem dL_law_2903 : decode cL_law 2903 = .ok (.aload_n 3, 1) := zd_dec hw45 (q := 23) rfl (by decide +kernel)
theorem dL_law_2904 : decode cL_law 2904 = .ok (.invokestatic 396, 3) := zd_dec hw45 (q := 24) rfl (by decide +kernel)
theorem dL_law_2907 : decode cL_law 2907 = .ok (.istore 5, 2) := zd_dec hw45 (q := 27) rfl (by decide +kernel)
theorem dL_law_2909 : decode cL_law 2909 = .ok (.aload_n 2, 1) := zd_dec hw45 (q := 29) rfl (by decide +kernel)
theorem dL_law_2910 : decode cL_law 2910 = .ok (.aload_n 0, 1) := zd_dec hw45 (q := 30) rfl (by decide +kernel)
theorem dL_law_2911 : decode cL_law 2911 = .ok (.iload 4, 2) := zd_dec hw45 (q := 31) rfl (by decide +kernel)
theorem dL_law_2913 : decode cL_law 2913 = .ok (.iconst 1, 1) := zd_dec hw45 (q := 33) rfl (by decide +kernel)
theorem dL_law_2914 : decode cL_law 2914 = .ok (.iadd, 1) := zd_dec hw45 (q := 34) rfl (by decide +kernel)
theorem dL_law_2915 : decode cL_law 2915 = .ok (.iaload, 1) := zd_dec hw45 (q := 35) rfl (by decide +kernel)
theorem dL_law_2916 : decode cL_law 2916 = .ok (.invokevirtual 398, 3) := zd_dec hw45 (q := 36) rfl (by decide +kernel)
theorem dL_law_2919 : decode cL_law 2919 = .ok (.istore 6, 2) := zd_dec hw45 (q := 39) rfl (by decide +kernel)
theorem dL_law_2921 : decode cL_law 2921 = .ok (.aload_n 2, 1) := zd_dec hw45 (q := 41) rfl (by decide +kernel)
theorem dL_law_2922 : decode cL_law 2922 = .ok (.invokevirtual 281, 3) := zd_dec hw45 (q := 42) rfl (by decide +kernel)
theorem dL_law_2925 : decode cL_law 2925 = .ok (.iload 5, 2) := zd_dec hw45 (q := 45) rfl (by decide +kernel)
theorem dL_law_2927 : decode cL_law 2927 = .ok (.if_icmp .eq 5, 3) := zd_dec hw45 (q := 47) rfl (by decide +kernel)
theorem dL_law_2932 : decode cL_law 2932 = .ok (.iload 5, 2) := zd_dec hw45 (q := 52) rfl (by decide +kernel)
theorem dL_law_2934 : decode cL_law 2934 = .ok (.ifCond .ne 15, 3) := zd_dec hw45 (q := 54) rfl (by decide +kernel)
theorem dL_law_2949 : decode cL_law 2949 = .ok (.goto 3053, 3) := zd_dec hw46 (q := 5) rfl (by decide +kernel)
theorem dL_law_2937 : decode cL_law 2937 = .ok (.aload_n 3, 1) := zd_dec hw45 (q := 57) rfl (by decide +kernel)
theorem dL_law_2938 : decode cL_law 2938 = .ok (.iconst 0, 1) := zd_dec hw45 (q := 58) rfl (by decide +kernel)
theorem dL_law_2939 : decode cL_law 2939 = .ok (.laload, 1) := zd_dec hw45 (q := 59) rfl (by decide +kernel)
theorem dL_law_2940 : decode cL_law 2940 = .ok (.iload 6, 2) := zd_dec hw45 (q := 60) rfl (by decide +kernel)
theorem dL_law_2942 : decode cL_law 2942 = .ok (.i2l, 1) := zd_dec hw45 (q := 62) rfl (by decide +kernel)
theorem dL_law_2943 : decode cL_law 2943 = .ok (.lcmp, 1) := zd_dec hw45 (q := 63) rfl (by decide +kernel)
theorem dL_law_2944 : decode cL_law 2944 = .ok (.ifCond .eq 5, 3) := zd_dec hw46 (q := 0) rfl (by decide +kernel)
theorem dL_law_2947 : decode cL_law 2947 = .ok (.iconst 0, 1) := zd_dec hw46 (q := 3) rfl (by decide +kernel)
theorem dL_law_2948 : decode cL_law 2948 = .ok (.ireturn, 1) := zd_dec hw46 (q := 4) rfl (by decide +kernel)
theorem dL_law_2930 : decode cL_law 2930 = .ok (.iconst 0, 1) := zd_dec hw45 (q := 50) rfl (by decide +kernel)
theorem dL_law_2931 : decode cL_law 2931 = .ok (.ireturn, 1) := zd_dec hw45 (q := 51) rfl (by decide +kernel)
theorem dL_law_2952 : decode cL_law 2952 = .ok (.aload_n 1, 1) := zd_dec hw46 (q := 8) rfl (by decide +kernel)
theorem dL_law_2953 : decode cL_law 2953 = .ok (.aload_n 0, 1) := zd_dec hw46 (q := 9) rfl (by decide +kernel)
theorem dL_law_2954 : decode cL_law 2954 = .ok (.iload 4, 2) := zd_dec hw46 (q := 10) rfl (by decide +kernel)
theorem dL_law_2956 : decode cL_law 2956 = .ok (.iconst 1, 1) := zd_dec hw46 (q := 12) rfl (by decide +kernel)
theorem dL_law_2957 : decode cL_law 2957 = .ok (.iadd, 1) := zd_dec hw46 (q := 13) rfl (by decide +kernel)
theorem dL_law_2958 : decode cL_law 2958 = .ok (.iaload, 1) := zd_dec hw46 (q := 14) rfl (by decide +kernel)
theorem dL_law_2959 : decode cL_law 2959 = .ok (.aload_n 0, 1) := zd_dec hw46 (q := 15) rfl (by decide +kernel)
theorem dL_law_2960 : decode cL_law 2960 = .ok (.iload 4, 2) := zd_dec hw46 (q := 16) rfl (by decide +kernel)
theorem dL_law_2962 : decode cL_law 2962 = .ok (.iconst 2, 1) := zd_dec hw46 (q := 18) rfl (by decide +kernel)
theorem dL_law_2963 : decode cL_law 2963 = .ok (.iadd, 1) := zd_dec hw46 (q := 19) rfl (by decide +kernel)
theorem dL_law_2964 : decode cL_law 2964 = .ok (.iaload, 1) := zd_dec hw46 (q := 20) rfl (by decide +kernel)
theorem dL_law_2965 : decode cL_law 2965 = .ok (.aload_n 3, 1) := zd_dec hw46 (q := 21) rfl (by decide +kernel)
theorem dL_law_2966 : decode cL_law 2966 = .ok (.invokestatic 399, 3) := zd_dec hw46 (q := 22) rfl (by decide +kernel)
theorem dL_law_2969 : decode cL_law 2969 = .ok (.istore 5, 2) := zd_dec hw46 (q := 25) rfl (by decide +kernel)
theorem dL_law_2971 : decode cL_law 2971 = .ok (.aload_n 2, 1) := zd_dec hw46 (q := 27) rfl (by decide +kernel)
theorem dL_law_2972 : decode cL_law 2972 = .ok (.aload_n 0, 1) := zd_dec hw46 (q := 28) rfl (by decide +kernel)
theorem dL_law_2973 : decode cL_law 2973 = .ok (.iload 4, 2) := zd_dec hw46 (q := 29) rfl (by decide +kernel)
theorem dL_law_2975 : decode cL_law 2975 = .ok (.iconst 1, 1) := zd_dec hw46 (q := 31) rfl (by decide +kernel)
theorem dL_law_2976 : decode cL_law 2976 = .ok (.iadd, 1) := zd_dec hw46 (q := 32) rfl (by decide +kernel)
theorem dL_law_2977 : decode cL_law 2977 = .ok (.iaload, 1) := zd_dec hw46 (q := 33) rfl (by decide +kernel)
theorem dL_law_2978 : decode cL_law 2978 = .ok (.aload_n 0, 1) := zd_dec hw46 (q := 34) rfl (by decide +kernel)
theorem dL_law_2979 : decode cL_law 2979 = .ok (.iload 4, 2) := zd_dec hw46 (q := 35) rfl (by decide +kernel)
theorem dL_law_2981 : decode cL_law 2981 = .ok (.iconst 2, 1) := zd_dec hw46 (q := 37) rfl (by decide +kernel)
theorem dL_law_2982 : decode cL_law 2982 = .ok (.iadd, 1) := zd_dec hw46 (q := 38) rfl (by decide +kernel)
theorem dL_law_2983 : decode cL_law 2983 = .ok (.iaload, 1) := zd_dec hw46 (q := 39) rfl (by decide +kernel)
theorem dL_law_2984 : decode cL_law 2984 = .ok (.invokevirtual 401, 3) := zd_dec hw46 (q := 40) rfl (by decide +kernel)
theorem dL_law_2987 : decode cL_law 2987 = .ok (.istore 6, 2) := zd_dec hw46 (q := 43) rfl (by decide +kernel)
theorem dL_law_2989 : decode cL_law 2989 = .ok (.aload_n 2, 1) := zd_dec hw46 (q := 45) rfl (by decide +kernel)
theorem dL_law_2990 : decode cL_law 2990 = .ok (.invokevirtual 281, 3) := zd_dec hw46 (q := 46) rfl (by decide +kernel)
theorem dL_law_2993 : decode cL_law 2993 = .ok (.iload 5, 2) := zd_dec hw46 (q := 49) rfl (by decide +kernel)
theorem dL_law_2995 : decode cL_law 2995 = .ok (.if_icmp .eq 5, 3) := zd_dec hw46 (q := 51) rfl (by decide +kernel)
theorem dL_law_3000 : decode cL_law 3000 = .ok (.iload 5, 2) := zd_dec hw46 (q := 56) rfl (by decide +kernel)
theorem dL_law_3002 : decode cL_law 3002 = .ok (.ifCond .ne 15, 3) := zd_dec hw46 (q := 58) rfl (by decide +kernel)
theorem dL_law_3017 : decode cL_law 3017 = .ok (.goto 2985, 3) := zd_dec hw47 (q := 9) rfl (by decide +kernel)
theorem dL_law_3005 : decode cL_law 3005 = .ok (.aload_n 3, 1) := zd_dec hw46 (q := 61) rfl (by decide +kernel)
theorem dL_law_3006 : decode cL_law 3006 = .ok (.iconst 0, 1) := zd_dec hw46 (q := 62) rfl (by decide +kernel)
theorem dL_law_3007 : decode cL_law 3007 = .ok (.laload, 1) := zd_dec hw46 (q := 63) rfl (by decide +kernel)
theorem dL_law_3008 : decode cL_law 3008 = .ok (.iload 6, 2) := zd_dec hw47 (q := 0) rfl (by decide +kernel)
theorem dL_law_3010 : decode cL_law 3010 = .ok (.i2l, 1) := zd_dec hw47 (q := 2) rfl (by decide +kernel)
theorem dL_law_3011 : decode cL_law 3011 = .ok (.lcmp, 1) := zd_dec hw47 (q := 3) rfl (by decide +kernel)
theorem dL_law_3012 : decode cL_law 3012 = .ok (.ifCond .eq 5, 3) := zd_dec hw47 (q := 4) rfl (by decide +kernel)
theorem dL_law_3015 : decode cL_law 3015 = .ok (.iconst 0, 1) := zd_dec hw47 (q := 7) rfl (by decide +kernel)
theorem dL_law_3016 : decode cL_law 3016 = .ok (.ireturn, 1) := zd_dec hw47 (q := 8) rfl (by decide +kernel)
theorem dL_law_2998 : decode cL_law 2998 = .ok (.iconst 0, 1) := zd_dec hw46 (q := 54) rfl (by decide +kernel)
theorem dL_law_2999 : decode cL_law 2999 = .ok (.ireturn, 1) := zd_dec hw46 (q := 55) rfl (by decide +kernel)
theorem dL_law_3020 : decode cL_law 3020 = .ok (.aload_n 1, 1) := zd_dec hw47 (q := 12) rfl (by decide +kernel)
theorem dL_law_3021 : decode cL_law 3021 = .ok (.aload_n 0, 1) := zd_dec hw47 (q := 13) rfl (by decide +kernel)
theorem dL_law_3022 : decode cL_law 3022 = .ok (.iload 4, 2) := zd_dec hw47 (q := 14) rfl (by decide +kernel)
theorem dL_law_3024 : decode cL_law 3024 = .ok (.iconst 1, 1) := zd_dec hw47 (q := 16) rfl (by decide +kernel)
theorem dL_law_3025 : decode cL_law 3025 = .ok (.iadd, 1) := zd_dec hw47 (q := 17) rfl (by decide +kernel)
theorem dL_law_3026 : decode cL_law 3026 = .ok (.iaload, 1) := zd_dec hw47 (q := 18) rfl (by decide +kernel)
theorem dL_law_3027 : decode cL_law 3027 = .ok (.aload_n 3, 1) := zd_dec hw47 (q := 19) rfl (by decide +kernel)
theorem dL_law_3028 : decode cL_law 3028 = .ok (.invokestatic 402, 3) := zd_dec hw47 (q := 20) rfl (by decide +kernel)
theorem dL_law_3031 : decode cL_law 3031 = .ok (.istore 5, 2) := zd_dec hw47 (q := 23) rfl (by decide +kernel)
theorem dL_law_3033 : decode cL_law 3033 = .ok (.aload_n 2, 1) := zd_dec hw47 (q := 25) rfl (by decide +kernel)
theorem dL_law_3034 : decode cL_law 3034 = .ok (.aload_n 0, 1) := zd_dec hw47 (q := 26) rfl (by decide +kernel)
theorem dL_law_3035 : decode cL_law 3035 = .ok (.iload 4, 2) := zd_dec hw47 (q := 27) rfl (by decide +kernel)
theorem dL_law_3037 : decode cL_law 3037 = .ok (.iconst 1, 1) := zd_dec hw47 (q := 29) rfl (by decide +kernel)
theorem dL_law_3038 : decode cL_law 3038 = .ok (.iadd, 1) := zd_dec hw47 (q := 30) rfl (by decide +kernel)
theorem dL_law_3039 : decode cL_law 3039 = .ok (.iaload, 1) := zd_dec hw47 (q := 31) rfl (by decide +kernel)
theorem dL_law_3040 : decode cL_law 3040 = .ok (.invokevirtual 404, 3) := zd_dec hw47 (q := 32) rfl (by decide +kernel)
theorem dL_law_3043 : decode cL_law 3043 = .ok (.istore 6, 2) := zd_dec hw47 (q := 35) rfl (by decide +kernel)
theorem dL_law_3045 : decode cL_law 3045 = .ok (.aload_n 2, 1) := zd_dec hw47 (q := 37) rfl (by decide +kernel)
theorem dL_law_3046 : decode cL_law 3046 = .ok (.invokevirtual 281, 3) := zd_dec hw47 (q := 38) rfl (by decide +kernel)
theorem dL_law_3049 : decode cL_law 3049 = .ok (.iload 5, 2) := zd_dec hw47 (q := 41) rfl (by decide +kernel)
theorem dL_law_3051 : decode cL_law 3051 = .ok (.if_icmp .eq 5, 3) := zd_dec hw47 (q := 43) rfl (by decide +kernel)
theorem dL_law_3056 : decode cL_law 3056 = .ok (.iload 5, 2) := zd_dec hw47 (q := 48) rfl (by decide +kernel)
theorem dL_law_3058 : decode cL_law 3058 = .ok (.ifCond .ne 15, 3) := zd_dec hw47 (q := 50) rfl (by decide +kernel)
theorem dL_law_3073 : decode cL_law 3073 = .ok (.goto 2929, 3) := zd_dec hw48 (q := 1) rfl (by decide +kernel)
theorem dL_law_3061 : decode cL_law 3061 = .ok (.aload_n 3, 1) := zd_dec hw47 (q := 53) rfl (by decide +kernel)
theorem dL_law_3062 : decode cL_law 3062 = .ok (.iconst 0, 1) := zd_dec hw47 (q := 54) rfl (by decide +kernel)
theorem dL_law_3063 : decode cL_law 3063 = .ok (.laload, 1) := zd_dec hw47 (q := 55) rfl (by decide +kernel)
theorem dL_law_3064 : decode cL_law 3064 = .ok (.iload 6, 2) := zd_dec hw47 (q := 56) rfl (by decide +kernel)
theorem dL_law_3066 : decode cL_law 3066 = .ok (.i2l, 1) := zd_dec hw47 (q := 58) rfl (by decide +kernel)
theorem dL_law_3067 : decode cL_law 3067 = .ok (.lcmp, 1) := zd_dec hw47 (q := 59) rfl (by decide +kernel)
theorem dL_law_3068 : decode cL_law 3068 = .ok (.ifCond .eq 5, 3) := zd_dec hw47 (q := 60) rfl (by decide +kernel)
theorem dL_law_3071 : decode cL_law 3071 = .ok (.iconst 0, 1) := zd_dec hw47 (q := 63) rfl (by decide +kernel)
theorem dL_law_3072 : decode cL_law 3072 = .ok (.ireturn, 1) := zd_dec hw48 (q := 0) rfl (by decide +kernel)
theorem dL_law_3054 : decode cL_law 3054 = .ok (.iconst 0, 1) := zd_dec hw47 (q := 46) rfl (by decide +kernel)
theorem dL_law_3055 : decode cL_law 3055 = .ok (.ireturn, 1) := zd_dec hw47 (q := 47) rfl (by decide +kernel)
theorem dL_law_3076 : decode cL_law 3076 = .ok (.aload_n 1, 1) := zd_dec hw48 (q := 4) rfl (by decide +kernel)
theorem dL_law_3077 : decode cL_law 3077 = .ok (.aload_n 0, 1) := zd_dec hw48 (q := 5) rfl (by decide +kernel)
theorem dL_law_3078 : decode cL_law 3078 = .ok (.iload 4, 2) := zd_dec hw48 (q := 6) rfl (by decide +kernel)
theorem dL_law_3080 : decode cL_law 3080 = .ok (.iconst 1, 1) := zd_dec hw48 (q := 8) rfl (by decide +kernel)
theorem dL_law_3081 : decode cL_law 3081 = .ok (.iadd, 1) := zd_dec hw48 (q := 9) rfl (by decide +kernel)
theorem dL_law_3082 : decode cL_law 3082 = .ok (.iaload, 1) := zd_dec hw48 (q := 10) rfl (by decide +kernel)
theorem dL_law_3083 : decode cL_law 3083 = .ok (.aload_n 0, 1) := zd_dec hw48 (q := 11) rfl (by decide +kernel)
theorem dL_law_3084 : decode cL_law 3084 = .ok (.iload 4, 2) := zd_dec hw48 (q := 12) rfl (by decide +kernel)
theorem dL_law_3086 : decode cL_law 3086 = .ok (.iconst 2, 1) := zd_dec hw48 (q := 14) rfl (by decide +kernel)
theorem dL_law_3087 : decode cL_law 3087 = .ok (.iadd, 1) := zd_dec hw48 (q := 15) rfl (by decide +kernel)
theorem dL_law_3088 : decode cL_law 3088 = .ok (.iaload, 1) := zd_dec hw48 (q := 16) rfl (by decide +kernel)
theorem dL_law_3089 : decode cL_law 3089 = .ok (.aload_n 0, 1) := zd_dec hw48 (q := 17) rfl (by decide +kernel)
theorem dL_law_3090 : decode cL_law 3090 = .ok (.iload 4, 2) := zd_dec hw48 (q := 18) rfl (by decide +kernel)
theorem dL_law_3092 : decode cL_law 3092 = .ok (.iconst 3, 1) := zd_dec hw48 (q := 20) rfl (by decide +kernel)
theorem dL_law_3093 : decode cL_law 3093 = .ok (.iadd, 1) := zd_dec hw48 (q := 21) rfl (by decide +kernel)
theorem dL_law_3094 : decode cL_law 3094 = .ok (.iaload, 1) := zd_dec hw48 (q := 22) rfl (by decide +kernel)
theorem dL_law_3095 : decode cL_law 3095 = .ok (.aload_n 0, 1) := zd_dec hw48 (q := 23) rfl (by decide +kernel)
theorem dL_law_3096 : decode cL_law 3096 = .ok (.iload 4, 2) := zd_dec hw48 (q := 24) rfl (by decide +kernel)
theorem dL_law_3098 : decode cL_law 3098 = .ok (.iconst 4, 1) := zd_dec hw48 (q := 26) rfl (by decide +kernel)
theorem dL_law_3099 : decode cL_law 3099 = .ok (.iadd, 1) := zd_dec hw48 (q := 27) rfl (by decide +kernel)
theorem dL_law_3100 : decode cL_law 3100 = .ok (.iaload, 1) := zd_dec hw48 (q := 28) rfl (by decide +kernel)
theorem dL_law_3101 : decode cL_law 3101 = .ok (.aload_n 0, 1) := zd_dec hw48 (q := 29) rfl (by decide +kernel)
theorem dL_law_3102 : decode cL_law 3102 = .ok (.iload 4, 2) := zd_dec hw48 (q := 30) rfl (by decide +kernel)
theorem dL_law_3104 : decode cL_law 3104 = .ok (.iconst 5, 1) := zd_dec hw48 (q := 32) rfl (by decide +kernel)
theorem dL_law_3105 : decode cL_law 3105 = .ok (.iadd, 1) := zd_dec hw48 (q := 33) rfl (by decide +kernel)
theorem dL_law_3106 : decode cL_law 3106 = .ok (.iaload, 1) := zd_dec hw48 (q := 34) rfl (by decide +kernel)
theorem dL_law_3107 : decode cL_law 3107 = .ok (.aload_n 3, 1) := zd_dec hw48 (q := 35) rfl (by decide +kernel)
theorem dL_law_3108 : decode cL_law 3108 = .ok (.invokestatic 405, 3) := zd_dec hw48 (q := 36) rfl (by decide +kernel)
theorem dL_law_3111 : decode cL_law 3111 = .ok (.istore 5, 2) := zd_dec hw48 (q := 39) rfl (by decide +kernel)
theorem dL_law_3113 : decode cL_law 3113 = .ok (.aload_n 2, 1) := zd_dec hw48 (q := 41) rfl (by decide +kernel)
theorem dL_law_3114 : decode cL_law 3114 = .ok (.aload_n 0, 1) := zd_dec hw48 (q := 42) rfl (by decide +kernel)
theorem dL_law_3115 : decode cL_law 3115 = .ok (.iload 4, 2) := zd_dec hw48 (q := 43) rfl (by decide +kernel)
theorem dL_law_3117 : decode cL_law 3117 = .ok (.iconst 1, 1) := zd_dec hw48 (q := 45) rfl (by decide +kernel)
theorem dL_law_3118 : decode cL_law 3118 = .ok (.iadd, 1) := zd_dec hw48 (q := 46) rfl (by decide +kernel)
theorem dL_law_3119 : decode cL_law 3119 = .ok (.iaload, 1) := zd_dec hw48 (q := 47) rfl (by decide +kernel)
theorem dL_law_3120 : decode cL_law 3120 = .ok (.aload_n 0, 1) := zd_dec hw48 (q := 48) rfl (by decide +kernel)
theorem dL_law_3121 : decode cL_law 3121 = .ok (.iload 4, 2) := zd_dec hw48 (q := 49) rfl (by decide +kernel)
theorem dL_law_3123 : decode cL_law 3123 = .ok (.iconst 2, 1) := zd_dec hw48 (q := 51) rfl (by decide +kernel)
theorem dL_law_3124 : decode cL_law 3124 = .ok (.iadd, 1) := zd_dec hw48 (q := 52) rfl (by decide +kernel)
theorem dL_law_3125 : decode cL_law 3125 = .ok (.iaload, 1) := zd_dec hw48 (q := 53) rfl (by decide +kernel)
theorem dL_law_3126 : decode cL_law 3126 = .ok (.aload_n 0, 1) := zd_dec hw48 (q := 54) rfl (by decide +kernel)
theorem dL_law_3127 : decode cL_law 3127 = .ok (.iload 4, 2) := zd_dec hw48 (q := 55) rfl (by decide +kernel)
theorem dL_law_3129 : decode cL_law 3129 = .ok (.iconst 3, 1) := zd_dec hw48 (q := 57) rfl (by decide +kernel)
theorem dL_law_3130 : decode cL_law 3130 = .ok (.iadd, 1) := zd_dec hw48 (q := 58) rfl (by decide +kernel)
theorem dL_law_3131 : decode cL_law 3131 = .ok (.iaload, 1) := zd_dec hw48 (q := 59) rfl (by decide +kernel)
theorem dL_law_3132 : decode cL_law 3132 = .ok (.aload_n 0, 1) := zd_dec hw48 (q := 60) rfl (by decide +kernel)
theorem dL_law_3133 : decode cL_law 3133 = .ok (.iload 4, 2) := zd_dec hw48 (q := 61) rfl (by decide +kernel)
theorem dL_law_3135 : decode cL_law 3135 = .ok (.iconst 4, 1) := zd_dec hw48 (q := 63) rfl (by decide +kernel)
theorem dL_law_3136 : decode cL_law 3136 = .ok (.iadd, 1) := zd_dec hw49 (q := 0) rfl (by decide +kernel)
theorem dL_law_3137 : decode cL_law 3137 = .ok (.iaload, 1) := zd_dec hw49 (q := 1) rfl (by decide +kernel)
theorem dL_law_3138 : decode cL_law 3138 = .ok (.aload_n 0, 1) := zd_dec hw49 (q := 2) rfl (by decide +kernel)
theorem dL_law_3139 : decode cL_law 3139 = .ok (.iload 4, 2) := zd_dec hw49 (q := 3) rfl (by decide +kernel)
theorem dL_law_3141 : decode cL_law 3141 = .ok (.iconst 5, 1) := zd_dec hw49 (q := 5) rfl (by decide +kernel)
theorem dL_law_3142 : decode cL_law 3142 = .ok (.iadd, 1) := zd_dec hw49 (q := 6) rfl (by decide +kernel)
theorem dL_law_3143 : decode cL_law 3143 = .ok (.iaload, 1) := zd_dec hw49 (q := 7) rfl (by decide +kernel)
theorem dL_law_3144 : decode cL_law 3144 = .ok (.invokevirtual 407, 3) := zd_dec hw49 (q := 8) rfl (by decide +kernel)
theorem dL_law_3147 : decode cL_law 3147 = .ok (.istore 6, 2) := zd_dec hw49 (q := 11) rfl (by decide +kernel)
theorem dL_law_3149 : decode cL_law 3149 = .ok (.aload_n 2, 1) := zd_dec hw49 (q := 13) rfl (by decide +kernel)
theorem dL_law_3150 : decode cL_law 3150 = .ok (.invokevirtual 281, 3) := zd_dec hw49 (q := 14) rfl (by decide +kernel)
theorem dL_law_3153 : decode cL_law 3153 = .ok (.iload 5, 2) := zd_dec hw49 (q := 17) rfl (by decide +kernel)
theorem dL_law_3155 : decode cL_law 3155 = .ok (.if_icmp .eq 5, 3) := zd_dec hw49 (q := 19) rfl (by decide +kernel)
theorem dL_law_3160 : decode cL_law 3160 = .ok (.iload 5, 2) := zd_dec hw49 (q := 24) rfl (by decide +kernel)
theorem dL_law_3162 : decode cL_law 3162 = .ok (.ifCond .ne 15, 3) := zd_dec hw49 (q := 26) rfl (by decide +kernel)
theorem dL_law_3177 : decode cL_law 3177 = .ok (.goto 2825, 3) := zd_dec hw49 (q := 41) rfl (by decide +kernel)
theorem dL_law_3165 : decode cL_law 3165 = .ok (.aload_n 3, 1) := zd_dec hw49 (q := 29) rfl (by decide +kernel)
theorem dL_law_3166 : decode cL_law 3166 = .ok (.iconst 0, 1) := zd_dec hw49 (q := 30) rfl (by decide +kernel)
theorem dL_law_3167 : decode cL_law 3167 = .ok (.laload, 1) := zd_dec hw49 (q := 31) rfl (by decide +kernel)
theorem dL_law_3168 : decode cL_law 3168 = .ok (.iload 6, 2) := zd_dec hw49 (q := 32) rfl (by decide +kernel)
theorem dL_law_3170 : decode cL_law 3170 = .ok (.i2l, 1) := zd_dec hw49 (q := 34) rfl (by decide +kernel)
theorem dL_law_3171 : decode cL_law 3171 = .ok (.lcmp, 1) := zd_dec hw49 (q := 35) rfl (by decide +kernel)
theorem dL_law_3172 : decode cL_law 3172 = .ok (.ifCond .eq 5, 3) := zd_dec hw49 (q := 36) rfl (by decide +kernel)
theorem dL_law_3175 : decode cL_law 3175 = .ok (.iconst 0, 1) := zd_dec hw49 (q := 39) rfl (by decide +kernel)
theorem dL_law_3176 : decode cL_law 3176 = .ok (.ireturn, 1) := zd_dec hw49 (q := 40) rfl (by decide +kernel)
theorem dL_law_3158 : decode cL_law 3158 = .ok (.iconst 0, 1) := zd_dec hw49 (q := 22) rfl (by decide +kernel)
theorem dL_law_3159 : decode cL_law 3159 = .ok (.ireturn, 1) := zd_dec hw49 (q := 23) rfl (by decide +kernel)
theorem dL_law_3180 : decode cL_law 3180 = .ok (.aload_n 1, 1) := zd_dec hw49 (q := 44) rfl (by decide +kernel)
theorem dL_law_3181 : decode cL_law 3181 = .ok (.aload_n 0, 1) := zd_dec hw49 (q := 45) rfl (by decide +kernel)
theorem dL_law_3182 : decode cL_law 3182 = .ok (.iload 4, 2) := zd_dec hw49 (q := 46) rfl (by decide +kernel)
theorem dL_law_3184 : decode cL_law 3184 = .ok (.iconst 1, 1) := zd_dec hw49 (q := 48) rfl (by decide +kernel)
theorem dL_law_3185 : decode cL_law 3185 = .ok (.iadd, 1) := zd_dec hw49 (q := 49) rfl (by decide +kernel)
theorem dL_law_3186 : decode cL_law 3186 = .ok (.iaload, 1) := zd_dec hw49 (q := 50) rfl (by decide +kernel)
theorem dL_law_3187 : decode cL_law 3187 = .ok (.aload_n 3, 1) := zd_dec hw49 (q := 51) rfl (by decide +kernel)
theorem dL_law_3188 : decode cL_law 3188 = .ok (.invokestatic 408, 3) := zd_dec hw49 (q := 52) rfl (by decide +kernel)
theorem dL_law_3191 : decode cL_law 3191 = .ok (.istore 5, 2) := zd_dec hw49 (q := 55) rfl (by decide +kernel)
theorem dL_law_3193 : decode cL_law 3193 = .ok (.aload_n 2, 1) := zd_dec hw49 (q := 57) rfl (by decide +kernel)
theorem dL_law_3194 : decode cL_law 3194 = .ok (.aload_n 0, 1) := zd_dec hw49 (q := 58) rfl (by decide +kernel)
theorem dL_law_3195 : decode cL_law 3195 = .ok (.iload 4, 2) := zd_dec hw49 (q := 59) rfl (by decide +kernel)
theorem dL_law_3197 : decode cL_law 3197 = .ok (.iconst 1, 1) := zd_dec hw49 (q := 61) rfl (by decide +kernel)
theorem dL_law_3198 : decode cL_law 3198 = .ok (.iadd, 1) := zd_dec hw49 (q := 62) rfl (by decide +kernel)
theorem dL_law_3199 : decode cL_law 3199 = .ok (.iaload, 1) := zd_dec hw49 (q := 63) rfl (by decide +kernel)
theorem dL_law_3200 : decode cL_law 3200 = .ok (.invokevirtual 410, 3) := zd_dec hw50 (q := 0) rfl (by decide +kernel)
theorem dL_law_3203 : decode cL_law 3203 = .ok (.istore 6, 2) := zd_dec hw50 (q := 3) rfl (by decide +kernel)
theorem dL_law_3205 : decode cL_law 3205 = .ok (.aload_n 2, 1) := zd_dec hw50 (q := 5) rfl (by decide +kernel)
theorem dL_law_3206 : decode cL_law 3206 = .ok (.invokevirtual 281, 3) := zd_dec hw50 (q := 6) rfl (by decide +kernel)
theorem dL_law_3209 : decode cL_law 3209 = .ok (.iload 5, 2) := zd_dec hw50 (q := 9) rfl (by decide +kernel)
theorem dL_law_3211 : decode cL_law 3211 = .ok (.if_icmp .eq 5, 3) := zd_dec hw50 (q := 11) rfl (by decide +kernel)
theorem dL_law_3216 : decode cL_law 3216 = .ok (.iload 5, 2) := zd_dec hw50 (q := 16) rfl (by decide +kernel)
theorem dL_law_3218 : decode cL_law 3218 = .ok (.ifCond .ne 15, 3) := zd_dec hw50 (q := 18) rfl (by decide +kernel)
theorem dL_law_3233 : decode cL_law 3233 = .ok (.goto 2769, 3) := zd_dec hw50 (q := 33) rfl (by decide +kernel)
theorem dL_law_3221 : decode cL_law 3221 = .ok (.aload_n 3, 1) := zd_dec hw50 (q := 21) rfl (by decide +kernel)
theorem dL_law_3222 : decode cL_law 3222 = .ok (.iconst 0, 1) := zd_dec hw50 (q := 22) rfl (by decide +kernel)
theorem dL_law_3223 : decode cL_law 3223 = .ok (.laload, 1) := zd_dec hw50 (q := 23) rfl (by decide +kernel)
theorem dL_law_3224 : decode cL_law 3224 = .ok (.iload 6, 2) := zd_dec hw50 (q := 24) rfl (by decide +kernel)
theorem dL_law_3226 : decode cL_law 3226 = .ok (.i2l, 1) := zd_dec hw50 (q := 26) rfl (by decide +kernel)
theorem dL_law_3227 : decode cL_law 3227 = .ok (.lcmp, 1) := zd_dec hw50 (q := 27) rfl (by decide +kernel)
theorem dL_law_3228 : decode cL_law 3228 = .ok (.ifCond .eq 5, 3) := zd_dec hw50 (q := 28) rfl (by decide +kernel)
theorem dL_law_3231 : decode cL_law 3231 = .ok (.iconst 0, 1) := zd_dec hw50 (q := 31) rfl (by decide +kernel)
theorem dL_law_3232 : decode cL_law 3232 = .ok (.ireturn, 1) := zd_dec hw50 (q := 32) rfl (by decide +kernel)
theorem dL_law_3214 : decode cL_law 3214 = .ok (.iconst 0, 1) := zd_dec hw50 (q := 14) rfl (by decide +kernel)
theorem dL_law_3215 : decode cL_law 3215 = .ok (.ireturn, 1) := zd_dec hw50 (q := 15) rfl (by decide +kernel)
theorem dL_law_3236 : decode cL_law 3236 = .ok (.aload_n 1, 1) := zd_dec hw50 (q := 36) rfl (by decide +kernel)
theorem dL_law_3237 : decode cL_law 3237 = .ok (.aload_n 3, 1) := zd_dec hw50 (q := 37) rfl (by decide +kernel)
theorem dL_law_3238 : decode cL_law 3238 = .ok (.invokestatic 411, 3) := zd_dec hw50 (q := 38) rfl (by decide +kernel)
theorem dL_law_3241 : decode cL_law 3241 = .ok (.istore 5, 2) := zd_dec hw50 (q := 41) rfl (by decide +kernel)
theorem dL_law_3243 : decode cL_law 3243 = .ok (.aload_n 2, 1) := zd_dec hw50 (q := 43) rfl (by decide +kernel)
theorem dL_law_3244 : decode cL_law 3244 = .ok (.invokevirtual 413, 3) := zd_dec hw50 (q := 44) rfl (by decide +kernel)
theorem dL_law_3247 : decode cL_law 3247 = .ok (.istore 6, 2) := zd_dec hw50 (q := 47) rfl (by decide +kernel)
theorem dL_law_3249 : decode cL_law 3249 = .ok (.aload_n 2, 1) := zd_dec hw50 (q := 49) rfl (by decide +kernel)
theorem dL_law_3250 : decode cL_law 3250 = .ok (.invokevirtual 281, 3) := zd_dec hw50 (q := 50) rfl (by decide +kernel)
theorem dL_law_3253 : decode cL_law 3253 = .ok (.iload 5, 2) := zd_dec hw50 (q := 53) rfl (by decide +kernel)
theorem dL_law_3255 : decode cL_law 3255 = .ok (.if_icmp .eq 5, 3) := zd_dec hw50 (q := 55) rfl (by decide +kernel)
theorem dL_law_3260 : decode cL_law 3260 = .ok (.iload 5, 2) := zd_dec hw50 (q := 60) rfl (by decide +kernel)
theorem dL_law_3262 : decode cL_law 3262 = .ok (.ifCond .ne 15, 3) := zd_dec hw50 (q := 62) rfl (by decide +kernel)
theorem dL_law_3277 : decode cL_law 3277 = .ok (.goto 2725, 3) := zd_dec hw51 (q := 13) rfl (by decide +kernel)
theorem dL_law_3265 : decode cL_law 3265 = .ok (.aload_n 3, 1) := zd_dec hw51 (q := 1) rfl (by decide +kernel)
theorem dL_law_3266 : decode cL_law 3266 = .ok (.iconst 0, 1) := zd_dec hw51 (q := 2) rfl (by decide +kernel)
theorem dL_law_3267 : decode cL_law 3267 = .ok (.laload, 1) := zd_dec hw51 (q := 3) rfl (by decide +kernel)
theorem dL_law_3268 : decode cL_law 3268 = .ok (.iload 6, 2) := zd_dec hw51 (q := 4) rfl (by decide +kernel)
theorem dL_law_3270 : decode cL_law 3270 = .ok (.i2l, 1) := zd_dec hw51 (q := 6) rfl (by decide +kernel)
theorem dL_law_3271 : decode cL_law 3271 = .ok (.lcmp, 1) := zd_dec hw51 (q := 7) rfl (by decide +kernel)
theorem dL_law_3272 : decode cL_law 3272 = .ok (.ifCond .eq 5, 3) := zd_dec hw51 (q := 8) rfl (by decide +kernel)
theorem dL_law_3275 : decode cL_law 3275 = .ok (.iconst 0, 1) := zd_dec hw51 (q := 11) rfl (by decide +kernel)
theorem dL_law_3276 : decode cL_law 3276 = .ok (.ireturn, 1) := zd_dec hw51 (q := 12) rfl (by decide +kernel)
theorem dL_law_3258 : decode cL_law 3258 = .ok (.iconst 0, 1) := zd_dec hw50 (q := 58) rfl (by decide +kernel)
theorem dL_law_3259 : decode cL_law 3259 = .ok (.ireturn, 1) := zd_dec hw50 (q := 59) rfl (by decide +kernel)
theorem dL_law_3280 : decode cL_law 3280 = .ok (.aload_n 1, 1) := zd_dec hw51 (q := 16) rfl (by decide +kernel)
theorem dL_law_3281 : decode cL_law 3281 = .ok (.aload_n 0, 1) := zd_dec hw51 (q := 17) rfl (by decide +kernel)
theorem dL_law_3282 : decode cL_law 3282 = .ok (.iload 4, 2) := zd_dec hw51 (q := 18) rfl (by decide +kernel)
theorem dL_law_3284 : decode cL_law 3284 = .ok (.iconst 1, 1) := zd_dec hw51 (q := 20) rfl (by decide +kernel)
theorem dL_law_3285 : decode cL_law 3285 = .ok (.iadd, 1) := zd_dec hw51 (q := 21) rfl (by decide +kernel)
theorem dL_law_3286 : decode cL_law 3286 = .ok (.iaload, 1) := zd_dec hw51 (q := 22) rfl (by decide +kernel)
theorem dL_law_3287 : decode cL_law 3287 = .ok (.aload_n 0, 1) := zd_dec hw51 (q := 23) rfl (by decide +kernel)
theorem dL_law_3288 : decode cL_law 3288 = .ok (.iload 4, 2) := zd_dec hw51 (q := 24) rfl (by decide +kernel)
theorem dL_law_3290 : decode cL_law 3290 = .ok (.iconst 2, 1) := zd_dec hw51 (q := 26) rfl (by decide +kernel)
theorem dL_law_3291 : decode cL_law 3291 = .ok (.iadd, 1) := zd_dec hw51 (q := 27) rfl (by decide +kernel)
theorem dL_law_3292 : decode cL_law 3292 = .ok (.iaload, 1) := zd_dec hw51 (q := 28) rfl (by decide +kernel)
theorem dL_law_3293 : decode cL_law 3293 = .ok (.aload_n 3, 1) := zd_dec hw51 (q := 29) rfl (by decide +kernel)
theorem dL_law_3294 : decode cL_law 3294 = .ok (.invokestatic 414, 3) := zd_dec hw51 (q := 30) rfl (by decide +kernel)
theorem dL_law_3297 : decode cL_law 3297 = .ok (.istore 5, 2) := zd_dec hw51 (q := 33) rfl (by decide +kernel)
theorem dL_law_3299 : decode cL_law 3299 = .ok (.aload_n 2, 1) := zd_dec hw51 (q := 35) rfl (by decide +kernel)
theorem dL_law_3300 : decode cL_law 3300 = .ok (.aload_n 0, 1) := zd_dec hw51 (q := 36) rfl (by decide +kernel)
theorem dL_law_3301 : decode cL_law 3301 = .ok (.iload 4, 2) := zd_dec hw51 (q := 37) rfl (by decide +kernel)
theorem dL_law_3303 : decode cL_law 3303 = .ok (.iconst 1, 1) := zd_dec hw51 (q := 39) rfl (by decide +kernel)
theorem dL_law_3304 : decode cL_law 3304 = .ok (.iadd, 1) := zd_dec hw51 (q := 40) rfl (by decide +kernel)
theorem dL_law_3305 : decode cL_law 3305 = .ok (.iaload, 1) := zd_dec hw51 (q := 41) rfl (by decide +kernel)
theorem dL_law_3306 : decode cL_law 3306 = .ok (.aload_n 0, 1) := zd_dec hw51 (q := 42) rfl (by decide +kernel)
theorem dL_law_3307 : decode cL_law 3307 = .ok (.iload 4, 2) := zd_dec hw51 (q := 43) rfl (by decide +kernel)
theorem dL_law_3309 : decode cL_law 3309 = .ok (.iconst 2, 1) := zd_dec hw51 (q := 45) rfl (by decide +kernel)
theorem dL_law_3310 : decode cL_law 3310 = .ok (.iadd, 1) := zd_dec hw51 (q := 46) rfl (by decide +kernel)
theorem dL_law_3311 : decode cL_law 3311 = .ok (.iaload, 1) := zd_dec hw51 (q := 47) rfl (by decide +kernel)
theorem dL_law_3312 : decode cL_law 3312 = .ok (.invokevirtual 416, 3) := zd_dec hw51 (q := 48) rfl (by decide +kernel)
theorem dL_law_3315 : decode cL_law 3315 = .ok (.istore 6, 2) := zd_dec hw51 (q := 51) rfl (by decide +kernel)
theorem dL_law_3317 : decode cL_law 3317 = .ok (.aload_n 2, 1) := zd_dec hw51 (q := 53) rfl (by decide +kernel)
theorem dL_law_3318 : decode cL_law 3318 = .ok (.invokevirtual 281, 3) := zd_dec hw51 (q := 54) rfl (by decide +kernel)
theorem dL_law_3321 : decode cL_law 3321 = .ok (.iload 5, 2) := zd_dec hw51 (q := 57) rfl (by decide +kernel)
theorem dL_law_3323 : decode cL_law 3323 = .ok (.if_icmp .eq 5, 3) := zd_dec hw51 (q := 59) rfl (by decide +kernel)
theorem dL_law_3328 : decode cL_law 3328 = .ok (.iload 5, 2) := zd_dec hw52 (q := 0) rfl (by decide +kernel)
theorem dL_law_3330 : decode cL_law 3330 = .ok (.ifCond .ne 15, 3) := zd_dec hw52 (q := 2) rfl (by decide +kernel)
theorem dL_law_3345 : decode cL_law 3345 = .ok (.goto 2657, 3) := zd_dec hw52 (q := 17) rfl (by decide +kernel)
theorem dL_law_3333 : decode cL_law 3333 = .ok (.aload_n 3, 1) := zd_dec hw52 (q := 5) rfl (by decide +kernel)
theorem dL_law_3334 : decode cL_law 3334 = .ok (.iconst 0, 1) := zd_dec hw52 (q := 6) rfl (by decide +kernel)
theorem dL_law_3335 : decode cL_law 3335 = .ok (.laload, 1) := zd_dec hw52 (q := 7) rfl (by decide +kernel)
theorem dL_law_3336 : decode cL_law 3336 = .ok (.iload 6, 2) := zd_dec hw52 (q := 8) rfl (by decide +kernel)
theorem dL_law_3338 : decode cL_law 3338 = .ok (.i2l, 1) := zd_dec hw52 (q := 10) rfl (by decide +kernel)
theorem dL_law_3339 : decode cL_law 3339 = .ok (.lcmp, 1) := zd_dec hw52 (q := 11) rfl (by decide +kernel)
theorem dL_law_3340 : decode cL_law 3340 = .ok (.ifCond .eq 5, 3) := zd_dec hw52 (q := 12) rfl (by decide +kernel)
theorem dL_law_3343 : decode cL_law 3343 = .ok (.iconst 0, 1) := zd_dec hw52 (q := 15) rfl (by decide +kernel)
theorem dL_law_3344 : decode cL_law 3344 = .ok (.ireturn, 1) := zd_dec hw52 (q := 16) rfl (by decide +kernel)
theorem dL_law_3326 : decode cL_law 3326 = .ok (.iconst 0, 1) := zd_dec hw51 (q := 62) rfl (by decide +kernel)
theorem dL_law_3327 : decode cL_law 3327 = .ok (.ireturn, 1) := zd_dec hw51 (q := 63) rfl (by decide +kernel)
theorem dL_law_3348 : decode cL_law 3348 = .ok (.aload_n 1, 1) := zd_dec hw52 (q := 20) rfl (by decide +kernel)
theorem dL_law_3349 : decode cL_law 3349 = .ok (.aload_n 0, 1) := zd_dec hw52 (q := 21) rfl (by decide +kernel)
theorem dL_law_3350 : decode cL_law 3350 = .ok (.iload 4, 2) := zd_dec hw52 (q := 22) rfl (by decide +kernel)
theorem dL_law_3352 : decode cL_law 3352 = .ok (.iconst 1, 1) := zd_dec hw52 (q := 24) rfl (by decide +kernel)
theorem dL_law_3353 : decode cL_law 3353 = .ok (.iadd, 1) := zd_dec hw52 (q := 25) rfl (by decide +kernel)
theorem dL_law_3354 : decode cL_law 3354 = .ok (.iaload, 1) := zd_dec hw52 (q := 26) rfl (by decide +kernel)
theorem dL_law_3355 : decode cL_law 3355 = .ok (.aload_n 0, 1) := zd_dec hw52 (q := 27) rfl (by decide +kernel)
theorem dL_law_3356 : decode cL_law 3356 = .ok (.iload 4, 2) := zd_dec hw52 (q := 28) rfl (by decide +kernel)
theorem dL_law_3358 : decode cL_law 3358 = .ok (.iconst 2, 1) := zd_dec hw52 (q := 30) rfl (by decide +kernel)
theorem dL_law_3359 : decode cL_law 3359 = .ok (.iadd, 1) := zd_dec hw52 (q := 31) rfl (by decide +kernel)
theorem dL_law_3360 : decode cL_law 3360 = .ok (.iaload, 1) := zd_dec hw52 (q := 32) rfl (by decide +kernel)
theorem dL_law_3361 : decode cL_law 3361 = .ok (.ifCond .eq 7, 3) := zd_dec hw52 (q := 33) rfl (by decide +kernel)
theorem dL_law_3368 : decode cL_law 3368 = .ok (.iconst 0, 1) := zd_dec hw52 (q := 40) rfl (by decide +kernel)
theorem dL_law_3369 : decode cL_law 3369 = .ok (.aload_n 3, 1) := zd_dec hw52 (q := 41) rfl (by decide +kernel)
theorem dL_law_3370 : decode cL_law 3370 = .ok (.invokestatic 417, 3) := zd_dec hw52 (q := 42) rfl (by decide +kernel)
theorem dL_law_3373 : decode cL_law 3373 = .ok (.istore 5, 2) := zd_dec hw52 (q := 45) rfl (by decide +kernel)
theorem dL_law_3375 : decode cL_law 3375 = .ok (.aload_n 2, 1) := zd_dec hw52 (q := 47) rfl (by decide +kernel)
theorem dL_law_3376 : decode cL_law 3376 = .ok (.aload_n 0, 1) := zd_dec hw52 (q := 48) rfl (by decide +kernel)
theorem dL_law_3377 : decode cL_law 3377 = .ok (.iload 4, 2) := zd_dec hw52 (q := 49) rfl (by decide +kernel)
theorem dL_law_3379 : decode cL_law 3379 = .ok (.iconst 1, 1) := zd_dec hw52 (q := 51) rfl (by decide +kernel)
theorem dL_law_3380 : decode cL_law 3380 = .ok (.iadd, 1) := zd_dec hw52 (q := 52) rfl (by decide +kernel)
theorem dL_law_3381 : decode cL_law 3381 = .ok (.iaload, 1) := zd_dec hw52 (q := 53) rfl (by decide +kernel)
theorem dL_law_3382 : decode cL_law 3382 = .ok (.aload_n 0, 1) := zd_dec hw52 (q := 54) rfl (by decide +kernel)
theorem dL_law_3383 : decode cL_law 3383 = .ok (.iload 4, 2) := zd_dec hw52 (q := 55) rfl (by decide +kernel)
theorem dL_law_3385 : decode cL_law 3385 = .ok (.iconst 2, 1) := zd_dec hw52 (q := 57) rfl (by decide +kernel)
theorem dL_law_3386 : decode cL_law 3386 = .ok (.iadd, 1) := zd_dec hw52 (q := 58) rfl (by decide +kernel)
theorem dL_law_3387 : decode cL_law 3387 = .ok (.iaload, 1) := zd_dec hw52 (q := 59) rfl (by decide +kernel)
theorem dL_law_3388 : decode cL_law 3388 = .ok (.ifCond .eq 7, 3) := zd_dec hw52 (q := 60) rfl (by decide +kernel)
theorem dL_law_3395 : decode cL_law 3395 = .ok (.iconst 0, 1) := zd_dec hw53 (q := 3) rfl (by decide +kernel)
theorem dL_law_3396 : decode cL_law 3396 = .ok (.invokevirtual 419, 3) := zd_dec hw53 (q := 4) rfl (by decide +kernel)
theorem dL_law_3399 : decode cL_law 3399 = .ok (.istore 6, 2) := zd_dec hw53 (q := 7) rfl (by decide +kernel)
theorem dL_law_3401 : decode cL_law 3401 = .ok (.aload_n 2, 1) := zd_dec hw53 (q := 9) rfl (by decide +kernel)
theorem dL_law_3402 : decode cL_law 3402 = .ok (.invokevirtual 281, 3) := zd_dec hw53 (q := 10) rfl (by decide +kernel)
theorem dL_law_3405 : decode cL_law 3405 = .ok (.iload 5, 2) := zd_dec hw53 (q := 13) rfl (by decide +kernel)
theorem dL_law_3407 : decode cL_law 3407 = .ok (.if_icmp .eq 5, 3) := zd_dec hw53 (q := 15) rfl (by decide +kernel)
theorem dL_law_3412 : decode cL_law 3412 = .ok (.iload 5, 2) := zd_dec hw53 (q := 20) rfl (by decide +kernel)
theorem dL_law_3414 : decode cL_law 3414 = .ok (.ifCond .ne 22, 3) := zd_dec hw53 (q := 22) rfl (by decide +kernel)
theorem dL_law_3436 : decode cL_law 3436 = .ok (.goto 2566, 3) := zd_dec hw53 (q := 44) rfl (by decide +kernel)
theorem dL_law_3417 : decode cL_law 3417 = .ok (.aload_n 3, 1) := zd_dec hw53 (q := 25) rfl (by decide +kernel)
theorem dL_law_3418 : decode cL_law 3418 = .ok (.iconst 0, 1) := zd_dec hw53 (q := 26) rfl (by decide +kernel)
theorem dL_law_3419 : decode cL_law 3419 = .ok (.laload, 1) := zd_dec hw53 (q := 27) rfl (by decide +kernel)
theorem dL_law_3420 : decode cL_law 3420 = .ok (.iload 6, 2) := zd_dec hw53 (q := 28) rfl (by decide +kernel)
theorem dL_law_3422 : decode cL_law 3422 = .ok (.ifCond .eq 7, 3) := zd_dec hw53 (q := 30) rfl (by decide +kernel)
theorem dL_law_3429 : decode cL_law 3429 = .ok (.lconst 0, 1) := zd_dec hw53 (q := 37) rfl (by decide +kernel)
theorem dL_law_3430 : decode cL_law 3430 = .ok (.lcmp, 1) := zd_dec hw53 (q := 38) rfl (by decide +kernel)
theorem dL_law_3431 : decode cL_law 3431 = .ok (.ifCond .eq 5, 3) := zd_dec hw53 (q := 39) rfl (by decide +kernel)
theorem dL_law_3434 : decode cL_law 3434 = .ok (.iconst 0, 1) := zd_dec hw53 (q := 42) rfl (by decide +kernel)
theorem dL_law_3435 : decode cL_law 3435 = .ok (.ireturn, 1) := zd_dec hw53 (q := 43) rfl (by decide +kernel)
theorem dL_law_3425 : decode cL_law 3425 = .ok (.lconst 1, 1) := zd_dec hw53 (q := 33) rfl (by decide +kernel)
theorem dL_law_3426 : decode cL_law 3426 = .ok (.goto 4, 3) := zd_dec hw53 (q := 34) rfl (by decide +kernel)
theorem dL_law_3410 : decode cL_law 3410 = .ok (.iconst 0, 1) := zd_dec hw53 (q := 18) rfl (by decide +kernel)
theorem dL_law_3411 : decode cL_law 3411 = .ok (.ireturn, 1) := zd_dec hw53 (q := 19) rfl (by decide +kernel)
theorem dL_law_3391 : decode cL_law 3391 = .ok (.iconst 1, 1) := zd_dec hw52 (q := 63) rfl (by decide +kernel)
theorem dL_law_3392 : decode cL_law 3392 = .ok (.goto 4, 3) := zd_dec hw53 (q := 0) rfl (by decide +kernel)
theorem dL_law_3364 : decode cL_law 3364 = .ok (.iconst 1, 1) := zd_dec hw52 (q := 36) rfl (by decide +kernel)
theorem dL_law_3365 : decode cL_law 3365 = .ok (.goto 4, 3) := zd_dec hw52 (q := 37) rfl (by decide +kernel)
theorem dL_law_3439 : decode cL_law 3439 = .ok (.aload_n 1, 1) := zd_dec hw53 (q := 47) rfl (by decide +kernel)
theorem dL_law_3440 : decode cL_law 3440 = .ok (.aload_n 0, 1) := zd_dec hw53 (q := 48) rfl (by decide +kernel)
theorem dL_law_3441 : decode cL_law 3441 = .ok (.iload 4, 2) := zd_dec hw53 (q := 49) rfl (by decide +kernel)
theorem dL_law_3443 : decode cL_law 3443 = .ok (.iconst 1, 1) := zd_dec hw53 (q := 51) rfl (by decide +kernel)
theorem dL_law_3444 : decode cL_law 3444 = .ok (.iadd, 1) := zd_dec hw53 (q := 52) rfl (by decide +kernel)
theorem dL_law_3445 : decode cL_law 3445 = .ok (.iaload, 1) := zd_dec hw53 (q := 53) rfl (by decide +kernel)
theorem dL_law_3446 : decode cL_law 3446 = .ok (.aload_n 0, 1) := zd_dec hw53 (q := 54) rfl (by decide +kernel)
theorem dL_law_3447 : decode cL_law 3447 = .ok (.iload 4, 2) := zd_dec hw53 (q := 55) rfl (by decide +kernel)
theorem dL_law_3449 : decode cL_law 3449 = .ok (.iconst 2, 1) := zd_dec hw53 (q := 57) rfl (by decide +kernel)
theorem dL_law_3450 : decode cL_law 3450 = .ok (.iadd, 1) := zd_dec hw53 (q := 58) rfl (by decide +kernel)
theorem dL_law_3451 : decode cL_law 3451 = .ok (.iaload, 1) := zd_dec hw53 (q := 59) rfl (by decide +kernel)
theorem dL_law_3452 : decode cL_law 3452 = .ok (.aload_n 3, 1) := zd_dec hw53 (q := 60) rfl (by decide +kernel)
theorem dL_law_3453 : decode cL_law 3453 = .ok (.invokestatic 420, 3) := zd_dec hw53 (q := 61) rfl (by decide +kernel)
theorem dL_law_3456 : decode cL_law 3456 = .ok (.istore 5, 2) := zd_dec hw54 (q := 0) rfl (by decide +kernel)
theorem dL_law_3458 : decode cL_law 3458 = .ok (.aload_n 2, 1) := zd_dec hw54 (q := 2) rfl (by decide +kernel)
theorem dL_law_3459 : decode cL_law 3459 = .ok (.aload_n 0, 1) := zd_dec hw54 (q := 3) rfl (by decide +kernel)
theorem dL_law_3460 : decode cL_law 3460 = .ok (.iload 4, 2) := zd_dec hw54 (q := 4) rfl (by decide +kernel)
theorem dL_law_3462 : decode cL_law 3462 = .ok (.iconst 1, 1) := zd_dec hw54 (q := 6) rfl (by decide +kernel)
theorem dL_law_3463 : decode cL_law 3463 = .ok (.iadd, 1) := zd_dec hw54 (q := 7) rfl (by decide +kernel)
theorem dL_law_3464 : decode cL_law 3464 = .ok (.iaload, 1) := zd_dec hw54 (q := 8) rfl (by decide +kernel)
theorem dL_law_3465 : decode cL_law 3465 = .ok (.aload_n 0, 1) := zd_dec hw54 (q := 9) rfl (by decide +kernel)
theorem dL_law_3466 : decode cL_law 3466 = .ok (.iload 4, 2) := zd_dec hw54 (q := 10) rfl (by decide +kernel)
theorem dL_law_3468 : decode cL_law 3468 = .ok (.iconst 2, 1) := zd_dec hw54 (q := 12) rfl (by decide +kernel)
theorem dL_law_3469 : decode cL_law 3469 = .ok (.iadd, 1) := zd_dec hw54 (q := 13) rfl (by decide +kernel)
theorem dL_law_3470 : decode cL_law 3470 = .ok (.iaload, 1) := zd_dec hw54 (q := 14) rfl (by decide +kernel)
theorem dL_law_3471 : decode cL_law 3471 = .ok (.invokevirtual 422, 3) := zd_dec hw54 (q := 15) rfl (by decide +kernel)
theorem dL_law_3474 : decode cL_law 3474 = .ok (.istore 6, 2) := zd_dec hw54 (q := 18) rfl (by decide +kernel)
theorem dL_law_3476 : decode cL_law 3476 = .ok (.aload_n 2, 1) := zd_dec hw54 (q := 20) rfl (by decide +kernel)
theorem dL_law_3477 : decode cL_law 3477 = .ok (.invokevirtual 281, 3) := zd_dec hw54 (q := 21) rfl (by decide +kernel)
theorem dL_law_3480 : decode cL_law 3480 = .ok (.iload 5, 2) := zd_dec hw54 (q := 24) rfl (by decide +kernel)
theorem dL_law_3482 : decode cL_law 3482 = .ok (.if_icmp .eq 5, 3) := zd_dec hw54 (q := 26) rfl (by decide +kernel)
theorem dL_law_3487 : decode cL_law 3487 = .ok (.iload 5, 2) := zd_dec hw54 (q := 31) rfl (by decide +kernel)
theorem dL_law_3489 : decode cL_law 3489 = .ok (.ifCond .ne 15, 3) := zd_dec hw54 (q := 33) rfl (by decide +kernel)
theorem dL_law_3504 : decode cL_law 3504 = .ok (.goto 2498, 3) := zd_dec hw54 (q := 48) rfl (by decide +kernel)
theorem dL_law_3492 : decode cL_law 3492 = .ok (.aload_n 3, 1) := zd_dec hw54 (q := 36) rfl (by decide +kernel)
theorem dL_law_3493 : decode cL_law 3493 = .ok (.iconst 0, 1) := zd_dec hw54 (q := 37) rfl (by decide +kernel)
theorem dL_law_3494 : decode cL_law 3494 = .ok (.laload, 1) := zd_dec hw54 (q := 38) rfl (by decide +kernel)
theorem dL_law_3495 : decode cL_law 3495 = .ok (.iload 6, 2) := zd_dec hw54 (q := 39) rfl (by decide +kernel)
theorem dL_law_3497 : decode cL_law 3497 = .ok (.i2l, 1) := zd_dec hw54 (q := 41) rfl (by decide +kernel)
theorem dL_law_3498 : decode cL_law 3498 = .ok (.lcmp, 1) := zd_dec hw54 (q := 42) rfl (by decide +kernel)
theorem dL_law_3499 : decode cL_law 3499 = .ok (.ifCond .eq 5, 3) := zd_dec hw54 (q := 43) rfl (by decide +kernel)
theorem dL_law_3502 : decode cL_law 3502 = .ok (.iconst 0, 1) := zd_dec hw54 (q := 46) rfl (by decide +kernel)
theorem dL_law_3503 : decode cL_law 3503 = .ok (.ireturn, 1) := zd_dec hw54 (q := 47) rfl (by decide +kernel)
theorem dL_law_3485 : decode cL_law 3485 = .ok (.iconst 0, 1) := zd_dec hw54 (q := 29) rfl (by decide +kernel)
theorem dL_law_3486 : decode cL_law 3486 = .ok (.ireturn, 1) := zd_dec hw54 (q := 30) rfl (by decide +kernel)
theorem dL_law_3507 : decode cL_law 3507 = .ok (.aload_n 1, 1) := zd_dec hw54 (q := 51) rfl (by decide +kernel)
theorem dL_law_3508 : decode cL_law 3508 = .ok (.aload_n 0, 1) := zd_dec hw54 (q := 52) rfl (by decide +kernel)
theorem dL_law_3509 : decode cL_law 3509 = .ok (.iload 4, 2) := zd_dec hw54 (q := 53) rfl (by decide +kernel)
theorem dL_law_3511 : decode cL_law 3511 = .ok (.iconst 1, 1) := zd_dec hw54 (q := 55) rfl (by decide +kernel)
theorem dL_law_3512 : decode cL_law 3512 = .ok (.iadd, 1) := zd_dec hw54 (q := 56) rfl (by decide +kernel)
theorem dL_law_3513 : decode cL_law 3513 = .ok (.iaload, 1) := zd_dec hw54 (q := 57) rfl (by decide +kernel)
theorem dL_law_3514 : decode cL_law 3514 = .ok (.aload_n 3, 1) := zd_dec hw54 (q := 58) rfl (by decide +kernel)
theorem dL_law_3515 : decode cL_law 3515 = .ok (.invokestatic 423, 3) := zd_dec hw54 (q := 59) rfl (by decide +kernel)
theorem dL_law_3518 : decode cL_law 3518 = .ok (.istore 5, 2) := zd_dec hw54 (q := 62) rfl (by decide +kernel)
theorem dL_law_3520 : decode cL_law 3520 = .ok (.aload_n 2, 1) := zd_dec hw55 (q := 0) rfl (by decide +kernel)
theorem dL_law_3521 : decode cL_law 3521 = .ok (.aload_n 0, 1) := zd_dec hw55 (q := 1) rfl (by decide +kernel)
theorem dL_law_3522 : decode cL_law 3522 = .ok (.iload 4, 2) := zd_dec hw55 (q := 2) rfl (by decide +kernel)
theorem dL_law_3524 : decode cL_law 3524 = .ok (.iconst 1, 1) := zd_dec hw55 (q := 4) rfl (by decide +kernel)
theorem dL_law_3525 : decode cL_law 3525 = .ok (.iadd, 1) := zd_dec hw55 (q := 5) rfl (by decide +kernel)
theorem dL_law_3526 : decode cL_law 3526 = .ok (.iaload, 1) := zd_dec hw55 (q := 6) rfl (by decide +kernel)
theorem dL_law_3527 : decode cL_law 3527 = .ok (.invokevirtual 425, 3) := zd_dec hw55 (q := 7) rfl (by decide +kernel)
theorem dL_law_3530 : decode cL_law 3530 = .ok (.istore 6, 2) := zd_dec hw55 (q := 10) rfl (by decide +kernel)
theorem dL_law_3532 : decode cL_law 3532 = .ok (.aload_n 2, 1) := zd_dec hw55 (q := 12) rfl (by decide +kernel)
theorem dL_law_3533 : decode cL_law 3533 = .ok (.invokevirtual 281, 3) := zd_dec hw55 (q := 13) rfl (by decide +kernel)
theorem dL_law_3536 : decode cL_law 3536 = .ok (.iload 5, 2) := zd_dec hw55 (q := 16) rfl (by decide +kernel)
theorem dL_law_3538 : decode cL_law 3538 = .ok (.if_icmp .eq 5, 3) := zd_dec hw55 (q := 18) rfl (by decide +kernel)
theorem dL_law_3543 : decode cL_law 3543 = .ok (.iload 5, 2) := zd_dec hw55 (q := 23) rfl (by decide +kernel)
theorem dL_law_3545 : decode cL_law 3545 = .ok (.ifCond .ne 15, 3) := zd_dec hw55 (q := 25) rfl (by decide +kernel)
theorem dL_law_3560 : decode cL_law 3560 = .ok (.goto 2442, 3) := zd_dec hw55 (q := 40) rfl (by decide +kernel)
theorem dL_law_3548 : decode cL_law 3548 = .ok (.aload_n 3, 1) := zd_dec hw55 (q := 28) rfl (by decide +kernel)
theorem dL_law_3549 : decode cL_law 3549 = .ok (.iconst 0, 1) := zd_dec hw55 (q := 29) rfl (by decide +kernel)
theorem dL_law_3550 : decode cL_law 3550 = .ok (.laload, 1) := zd_dec hw55 (q := 30) rfl (by decide +kernel)
theorem dL_law_3551 : decode cL_law 3551 = .ok (.iload 6, 2) := zd_dec hw55 (q := 31) rfl (by decide +kernel)
theorem dL_law_3553 : decode cL_law 3553 = .ok (.i2l, 1) := zd_dec hw55 (q := 33) rfl (by decide +kernel)
theorem dL_law_3554 : decode cL_law 3554 = .ok (.lcmp, 1) := zd_dec hw55 (q := 34) rfl (by decide +kernel)
theorem dL_law_3555 : decode cL_law 3555 = .ok (.ifCond .eq 5, 3) := zd_dec hw55 (q := 35) rfl (by decide +kernel)
theorem dL_law_3558 : decode cL_law 3558 = .ok (.iconst 0, 1) := zd_dec hw55 (q := 38) rfl (by decide +kernel)
theorem dL_law_3559 : decode cL_law 3559 = .ok (.ireturn, 1) := zd_dec hw55 (q := 39) rfl (by decide +kernel)
theorem dL_law_3541 : decode cL_law 3541 = .ok (.iconst 0, 1) := zd_dec hw55 (q := 21) rfl (by decide +kernel)
theorem dL_law_3542 : decode cL_law 3542 = .ok (.ireturn, 1) := zd_dec hw55 (q := 22) rfl (by decide +kernel)
theorem dL_law_3563 : decode cL_law 3563 = .ok (.aload_n 1, 1) := zd_dec hw55 (q := 43) rfl (by decide +kernel)
theorem dL_law_3564 : decode cL_law 3564 = .ok (.aload_n 3, 1) := zd_dec hw55 (q := 44) rfl (by decide +kernel)
theorem dL_law_3565 : decode cL_law 3565 = .ok (.invokestatic 426, 3) := zd_dec hw55 (q := 45) rfl (by decide +kernel)
theorem dL_law_3568 : decode cL_law 3568 = .ok (.istore 5, 2) := zd_dec hw55 (q := 48) rfl (by decide +kernel)
theorem dL_law_3570 : decode cL_law 3570 = .ok (.aload_n 2, 1) := zd_dec hw55 (q := 50) rfl (by decide +kernel)
theorem dL_law_3571 : decode cL_law 3571 = .ok (.invokevirtual 428, 3) := zd_dec hw55 (q := 51) rfl (by decide +kernel)
theorem dL_law_3574 : decode cL_law 3574 = .ok (.istore 6, 2) := zd_dec hw55 (q := 54) rfl (by decide +kernel)
theorem dL_law_3576 : decode cL_law 3576 = .ok (.aload_n 2, 1) := zd_dec hw55 (q := 56) rfl (by decide +kernel)
theorem dL_law_3577 : decode cL_law 3577 = .ok (.invokevirtual 281, 3) := zd_dec hw55 (q := 57) rfl (by decide +kernel)
theorem dL_law_3580 : decode cL_law 3580 = .ok (.iload 5, 2) := zd_dec hw55 (q := 60) rfl (by decide +kernel)
theorem dL_law_3582 : decode cL_law 3582 = .ok (.if_icmp .eq 5, 3) := zd_dec hw55 (q := 62) rfl (by decide +kernel)
theorem dL_law_3587 : decode cL_law 3587 = .ok (.iload 5, 2) := zd_dec hw56 (q := 3) rfl (by decide +kernel)
theorem dL_law_3589 : decode cL_law 3589 = .ok (.ifCond .ne 15, 3) := zd_dec hw56 (q := 5) rfl (by decide +kernel)
theorem dL_law_3604 : decode cL_law 3604 = .ok (.goto 2398, 3) := zd_dec hw56 (q := 20) rfl (by decide +kernel)
theorem dL_law_3592 : decode cL_law 3592 = .ok (.aload_n 3, 1) := zd_dec hw56 (q := 8) rfl (by decide +kernel)
theorem dL_law_3593 : decode cL_law 3593 = .ok (.iconst 0, 1) := zd_dec hw56 (q := 9) rfl (by decide +kernel)
theorem dL_law_3594 : decode cL_law 3594 = .ok (.laload, 1) := zd_dec hw56 (q := 10) rfl (by decide +kernel)
theorem dL_law_3595 : decode cL_law 3595 = .ok (.iload 6, 2) := zd_dec hw56 (q := 11) rfl (by decide +kernel)
theorem dL_law_3597 : decode cL_law 3597 = .ok (.i2l, 1) := zd_dec hw56 (q := 13) rfl (by decide +kernel)
theorem dL_law_3598 : decode cL_law 3598 = .ok (.lcmp, 1) := zd_dec hw56 (q := 14) rfl (by decide +kernel)
theorem dL_law_3599 : decode cL_law 3599 = .ok (.ifCond .eq 5, 3) := zd_dec hw56 (q := 15) rfl (by decide +kernel)
theorem dL_law_3602 : decode cL_law 3602 = .ok (.iconst 0, 1) := zd_dec hw56 (q := 18) rfl (by decide +kernel)
theorem dL_law_3603 : decode cL_law 3603 = .ok (.ireturn, 1) := zd_dec hw56 (q := 19) rfl (by decide +kernel)
theorem dL_law_3585 : decode cL_law 3585 = .ok (.iconst 0, 1) := zd_dec hw56 (q := 1) rfl (by decide +kernel)
theorem dL_law_3586 : decode cL_law 3586 = .ok (.ireturn, 1) := zd_dec hw56 (q := 2) rfl (by decide +kernel)
theorem dL_law_3607 : decode cL_law 3607 = .ok (.aload_n 1, 1) := zd_dec hw56 (q := 23) rfl (by decide +kernel)
theorem dL_law_3608 : decode cL_law 3608 = .ok (.aload_n 0, 1) := zd_dec hw56 (q := 24) rfl (by decide +kernel)
theorem dL_law_3609 : decode cL_law 3609 = .ok (.iload 4, 2) := zd_dec hw56 (q := 25) rfl (by decide +kernel)
theorem dL_law_3611 : decode cL_law 3611 = .ok (.iconst 1, 1) := zd_dec hw56 (q := 27) rfl (by decide +kernel)
theorem dL_law_3612 : decode cL_law 3612 = .ok (.iadd, 1) := zd_dec hw56 (q := 28) rfl (by decide +kernel)
theorem dL_law_3613 : decode cL_law 3613 = .ok (.iaload, 1) := zd_dec hw56 (q := 29) rfl (by decide +kernel)
theorem dL_law_3614 : decode cL_law 3614 = .ok (.aload_n 0, 1) := zd_dec hw56 (q := 30) rfl (by decide +kernel)
theorem dL_law_3615 : decode cL_law 3615 = .ok (.iload 4, 2) := zd_dec hw56 (q := 31) rfl (by decide +kernel)
theorem dL_law_3617 : decode cL_law 3617 = .ok (.iconst 2, 1) := zd_dec hw56 (q := 33) rfl (by decide +kernel)
theorem dL_law_3618 : decode cL_law 3618 = .ok (.iadd, 1) := zd_dec hw56 (q := 34) rfl (by decide +kernel)
theorem dL_law_3619 : decode cL_law 3619 = .ok (.iaload, 1) := zd_dec hw56 (q := 35) rfl (by decide +kernel)
theorem dL_law_3620 : decode cL_law 3620 = .ok (.aload_n 3, 1) := zd_dec hw56 (q := 36) rfl (by decide +kernel)
theorem dL_law_3621 : decode cL_law 3621 = .ok (.invokestatic 429, 3) := zd_dec hw56 (q := 37) rfl (by decide +kernel)
theorem dL_law_3624 : decode cL_law 3624 = .ok (.istore 5, 2) := zd_dec hw56 (q := 40) rfl (by decide +kernel)
theorem dL_law_3626 : decode cL_law 3626 = .ok (.aload_n 2, 1) := zd_dec hw56 (q := 42) rfl (by decide +kernel)
theorem dL_law_3627 : decode cL_law 3627 = .ok (.aload_n 0, 1) := zd_dec hw56 (q := 43) rfl (by decide +kernel)
theorem dL_law_3628 : decode cL_law 3628 = .ok (.iload 4, 2) := zd_dec hw56 (q := 44) rfl (by decide +kernel)
theorem dL_law_3630 : decode cL_law 3630 = .ok (.iconst 1, 1) := zd_dec hw56 (q := 46) rfl (by decide +kernel)
theorem dL_law_3631 : decode cL_law 3631 = .ok (.iadd, 1) := zd_dec hw56 (q := 47) rfl (by decide +kernel)
theorem dL_law_3632 : decode cL_law 3632 = .ok (.iaload, 1) := zd_dec hw56 (q := 48) rfl (by decide +kernel)
theorem dL_law_3633 : decode cL_law 3633 = .ok (.aload_n 0, 1) := zd_dec hw56 (q := 49) rfl (by decide +kernel)
theorem dL_law_3634 : decode cL_law 3634 = .ok (.iload 4, 2) := zd_dec hw56 (q := 50) rfl (by decide +kernel)
theorem dL_law_3636 : decode cL_law 3636 = .ok (.iconst 2, 1) := zd_dec hw56 (q := 52) rfl (by decide +kernel)
theorem dL_law_3637 : decode cL_law 3637 = .ok (.iadd, 1) := zd_dec hw56 (q := 53) rfl (by decide +kernel)
theorem dL_law_3638 : decode cL_law 3638 = .ok (.iaload, 1) := zd_dec hw56 (q := 54) rfl (by decide +kernel)
theorem dL_law_3639 : decode cL_law 3639 = .ok (.invokevirtual 431, 3) := zd_dec hw56 (q := 55) rfl (by decide +kernel)
theorem dL_law_3642 : decode cL_law 3642 = .ok (.istore 6, 2) := zd_dec hw56 (q := 58) rfl (by decide +kernel)
theorem dL_law_3644 : decode cL_law 3644 = .ok (.aload_n 2, 1) := zd_dec hw56 (q := 60) rfl (by decide +kernel)
theorem dL_law_3645 : decode cL_law 3645 = .ok (.invokevirtual 281, 3) := zd_dec hw56 (q := 61) rfl (by decide +kernel)
theorem dL_law_3648 : decode cL_law 3648 = .ok (.iload 5, 2) := zd_dec hw57 (q := 0) rfl (by decide +kernel)
theorem dL_law_3650 : decode cL_law 3650 = .ok (.if_icmp .eq 5, 3) := zd_dec hw57 (q := 2) rfl (by decide +kernel)
theorem dL_law_3655 : decode cL_law 3655 = .ok (.iload 5, 2) := zd_dec hw57 (q := 7) rfl (by decide +kernel)
theorem dL_law_3657 : decode cL_law 3657 = .ok (.ifCond .ne 15, 3) := zd_dec hw57 (q := 9) rfl (by decide +kernel)
theorem dL_law_3672 : decode cL_law 3672 = .ok (.goto 2330, 3) := zd_dec hw57 (q := 24) rfl (by decide +kernel)
theorem dL_law_3660 : decode cL_law 3660 = .ok (.aload_n 3, 1) := zd_dec hw57 (q := 12) rfl (by decide +kernel)
theorem dL_law_3661 : decode cL_law 3661 = .ok (.iconst 0, 1) := zd_dec hw57 (q := 13) rfl (by decide +kernel)
theorem dL_law_3662 : decode cL_law 3662 = .ok (.laload, 1) := zd_dec hw57 (q := 14) rfl (by decide +kernel)
theorem dL_law_3663 : decode cL_law 3663 = .ok (.iload 6, 2) := zd_dec hw57 (q := 15) rfl (by decide +kernel)
theorem dL_law_3665 : decode cL_law 3665 = .ok (.i2l, 1) := zd_dec hw57 (q := 17) rfl (by decide +kernel)
theorem dL_law_3666 : decode cL_law 3666 = .ok (.lcmp, 1) := zd_dec hw57 (q := 18) rfl (by decide +kernel)
theorem dL_law_3667 : decode cL_law 3667 = .ok (.ifCond .eq 5, 3) := zd_dec hw57 (q := 19) rfl (by decide +kernel)
theorem dL_law_3670 : decode cL_law 3670 = .ok (.iconst 0, 1) := zd_dec hw57 (q := 22) rfl (by decide +kernel)
theorem dL_law_3671 : decode cL_law 3671 = .ok (.ireturn, 1) := zd_dec hw57 (q := 23) rfl (by decide +kernel)
theorem dL_law_3653 : decode cL_law 3653 = .ok (.iconst 0, 1) := zd_dec hw57 (q := 5) rfl (by decide +kernel)
theorem dL_law_3654 : decode cL_law 3654 = .ok (.ireturn, 1) := zd_dec hw57 (q := 6) rfl (by decide +kernel)
theorem dL_law_3675 : decode cL_law 3675 = .ok (.aload_n 1, 1) := zd_dec hw57 (q := 27) rfl (by decide +kernel)
theorem dL_law_3676 : decode cL_law 3676 = .ok (.aload_n 0, 1) := zd_dec hw57 (q := 28) rfl (by decide +kernel)
theorem dL_law_3677 : decode cL_law 3677 = .ok (.iload 4, 2) := zd_dec hw57 (q := 29) rfl (by decide +kernel)
theorem dL_law_3679 : decode cL_law 3679 = .ok (.iconst 1, 1) := zd_dec hw57 (q := 31) rfl (by decide +kernel)
theorem dL_law_3680 : decode cL_law 3680 = .ok (.iadd, 1) := zd_dec hw57 (q := 32) rfl (by decide +kernel)
theorem dL_law_3681 : decode cL_law 3681 = .ok (.iaload, 1) := zd_dec hw57 (q := 33) rfl (by decide +kernel)
theorem dL_law_3682 : decode cL_law 3682 = .ok (.aload_n 0, 1) := zd_dec hw57 (q := 34) rfl (by decide +kernel)
theorem dL_law_3683 : decode cL_law 3683 = .ok (.iload 4, 2) := zd_dec hw57 (q := 35) rfl (by decide +kernel)
theorem dL_law_3685 : decode cL_law 3685 = .ok (.iconst 2, 1) := zd_dec hw57 (q := 37) rfl (by decide +kernel)
theorem dL_law_3686 : decode cL_law 3686 = .ok (.iadd, 1) := zd_dec hw57 (q := 38) rfl (by decide +kernel)
theorem dL_law_3687 : decode cL_law 3687 = .ok (.iaload, 1) := zd_dec hw57 (q := 39) rfl (by decide +kernel)
theorem dL_law_3688 : decode cL_law 3688 = .ok (.aload_n 3, 1) := zd_dec hw57 (q := 40) rfl (by decide +kernel)
theorem dL_law_3689 : decode cL_law 3689 = .ok (.invokestatic 432, 3) := zd_dec hw57 (q := 41) rfl (by decide +kernel)
theorem dL_law_3692 : decode cL_law 3692 = .ok (.istore 5, 2) := zd_dec hw57 (q := 44) rfl (by decide +kernel)
theorem dL_law_3694 : decode cL_law 3694 = .ok (.aload_n 2, 1) := zd_dec hw57 (q := 46) rfl (by decide +kernel)
theorem dL_law_3695 : decode cL_law 3695 = .ok (.aload_n 0, 1) := zd_dec hw57 (q := 47) rfl (by decide +kernel)
theorem dL_law_3696 : decode cL_law 3696 = .ok (.iload 4, 2) := zd_dec hw57 (q := 48) rfl (by decide +kernel)
theorem dL_law_3698 : decode cL_law 3698 = .ok (.iconst 1, 1) := zd_dec hw57 (q := 50) rfl (by decide +kernel)
theorem dL_law_3699 : decode cL_law 3699 = .ok (.iadd, 1) := zd_dec hw57 (q := 51) rfl (by decide +kernel)
theorem dL_law_3700 : decode cL_law 3700 = .ok (.iaload, 1) := zd_dec hw57 (q := 52) rfl (by decide +kernel)
theorem dL_law_3701 : decode cL_law 3701 = .ok (.aload_n 0, 1) := zd_dec hw57 (q := 53) rfl (by decide +kernel)
theorem dL_law_3702 : decode cL_law 3702 = .ok (.iload 4, 2) := zd_dec hw57 (q := 54) rfl (by decide +kernel)
theorem dL_law_3704 : decode cL_law 3704 = .ok (.iconst 2, 1) := zd_dec hw57 (q := 56) rfl (by decide +kernel)
theorem dL_law_3705 : decode cL_law 3705 = .ok (.iadd, 1) := zd_dec hw57 (q := 57) rfl (by decide +kernel)
theorem dL_law_3706 : decode cL_law 3706 = .ok (.iaload, 1) := zd_dec hw57 (q := 58) rfl (by decide +kernel)
theorem dL_law_3707 : decode cL_law 3707 = .ok (.invokevirtual 434, 3) := zd_dec hw57 (q := 59) rfl (by decide +kernel)
theorem dL_law_3710 : decode cL_law 3710 = .ok (.istore 6, 2) := zd_dec hw57 (q := 62) rfl (by decide +kernel)
theorem dL_law_3712 : decode cL_law 3712 = .ok (.aload_n 2, 1) := zd_dec hw58 (q := 0) rfl (by decide +kernel)
theorem dL_law_3713 : decode cL_law 3713 = .ok (.invokevirtual 281, 3) := zd_dec hw58 (q := 1) rfl (by decide +kernel)
theorem dL_law_3716 : decode cL_law 3716 = .ok (.iload 5, 2) := zd_dec hw58 (q := 4) rfl (by decide +kernel)
theorem dL_law_3718 : decode cL_law 3718 = .ok (.if_icmp .eq 5, 3) := zd_dec hw58 (q := 6) rfl (by decide +kernel)
theorem dL_law_3723 : decode cL_law 3723 = .ok (.iload 5, 2) := zd_dec hw58 (q := 11) rfl (by decide +kernel)
theorem dL_law_3725 : decode cL_law 3725 = .ok (.ifCond .ne 15, 3) := zd_dec hw58 (q := 13) rfl (by decide +kernel)
theorem dL_law_3740 : decode cL_law 3740 = .ok (.goto 2262, 3) := zd_dec hw58 (q := 28) rfl (by decide +kernel)
theorem dL_law_3728 : decode cL_law 3728 = .ok (.aload_n 3, 1) := zd_dec hw58 (q := 16) rfl (by decide +kernel)
theorem dL_law_3729 : decode cL_law 3729 = .ok (.iconst 0, 1) := zd_dec hw58 (q := 17) rfl (by decide +kernel)
theorem dL_law_3730 : decode cL_law 3730 = .ok (.laload, 1) := zd_dec hw58 (q := 18) rfl (by decide +kernel)
theorem dL_law_3731 : decode cL_law 3731 = .ok (.iload 6, 2) := zd_dec hw58 (q := 19) rfl (by decide +kernel)
theorem dL_law_3733 : decode cL_law 3733 = .ok (.i2l, 1) := zd_dec hw58 (q := 21) rfl (by decide +kernel)
theorem dL_law_3734 : decode cL_law 3734 = .ok (.lcmp, 1) := zd_dec hw58 (q := 22) rfl (by decide +kernel)
theorem dL_law_3735 : decode cL_law 3735 = .ok (.ifCond .eq 5, 3) := zd_dec hw58 (q := 23) rfl (by decide +kernel)
theorem dL_law_3738 : decode cL_law 3738 = .ok (.iconst 0, 1) := zd_dec hw58 (q := 26) rfl (by decide +kernel)
theorem dL_law_3739 : decode cL_law 3739 = .ok (.ireturn, 1) := zd_dec hw58 (q := 27) rfl (by decide +kernel)
theorem dL_law_3721 : decode cL_law 3721 = .ok (.iconst 0, 1) := zd_dec hw58 (q := 9) rfl (by decide +kernel)
theorem dL_law_3722 : decode cL_law 3722 = .ok (.ireturn, 1) := zd_dec hw58 (q := 10) rfl (by decide +kernel)
theorem dL_law_3743 : decode cL_law 3743 = .ok (.aload_n 1, 1) := zd_dec hw58 (q := 31) rfl (by decide +kernel)
theorem dL_law_3744 : decode cL_law 3744 = .ok (.aload_n 0, 1) := zd_dec hw58 (q := 32) rfl (by decide +kernel)
theorem dL_law_3745 : decode cL_law 3745 = .ok (.iload 4, 2) := zd_dec hw58 (q := 33) rfl (by decide +kernel)
theorem dL_law_3747 : decode cL_law 3747 = .ok (.iconst 1, 1) := zd_dec hw58 (q := 35) rfl (by decide +kernel)
theorem dL_law_3748 : decode cL_law 3748 = .ok (.iadd, 1) := zd_dec hw58 (q := 36) rfl (by decide +kernel)
theorem dL_law_3749 : decode cL_law 3749 = .ok (.iaload, 1) := zd_dec hw58 (q := 37) rfl (by decide +kernel)
theorem dL_law_3750 : decode cL_law 3750 = .ok (.aload_n 0, 1) := zd_dec hw58 (q := 38) rfl (by decide +kernel)
theorem dL_law_3751 : decode cL_law 3751 = .ok (.iload 4, 2) := zd_dec hw58 (q := 39) rfl (by decide +kernel)
theorem dL_law_3753 : decode cL_law 3753 = .ok (.iconst 2, 1) := zd_dec hw58 (q := 41) rfl (by decide +kernel)
theorem dL_law_3754 : decode cL_law 3754 = .ok (.iadd, 1) := zd_dec hw58 (q := 42) rfl (by decide +kernel)
theorem dL_law_3755 : decode cL_law 3755 = .ok (.iaload, 1) := zd_dec hw58 (q := 43) rfl (by decide +kernel)
theorem dL_law_3756 : decode cL_law 3756 = .ok (.aload_n 3, 1) := zd_dec hw58 (q := 44) rfl (by decide +kernel)
theorem dL_law_3757 : decode cL_law 3757 = .ok (.invokestatic 435, 3) := zd_dec hw58 (q := 45) rfl (by decide +kernel)
theorem dL_law_3760 : decode cL_law 3760 = .ok (.istore 5, 2) := zd_dec hw58 (q := 48) rfl (by decide +kernel)
theorem dL_law_3762 : decode cL_law 3762 = .ok (.aload_n 2, 1) := zd_dec hw58 (q := 50) rfl (by decide +kernel)
theorem dL_law_3763 : decode cL_law 3763 = .ok (.aload_n 0, 1) := zd_dec hw58 (q := 51) rfl (by decide +kernel)
theorem dL_law_3764 : decode cL_law 3764 = .ok (.iload 4, 2) := zd_dec hw58 (q := 52) rfl (by decide +kernel)
theorem dL_law_3766 : decode cL_law 3766 = .ok (.iconst 1, 1) := zd_dec hw58 (q := 54) rfl (by decide +kernel)
theorem dL_law_3767 : decode cL_law 3767 = .ok (.iadd, 1) := zd_dec hw58 (q := 55) rfl (by decide +kernel)
theorem dL_law_3768 : decode cL_law 3768 = .ok (.iaload, 1) := zd_dec hw58 (q := 56) rfl (by decide +kernel)
theorem dL_law_3769 : decode cL_law 3769 = .ok (.aload_n 0, 1) := zd_dec hw58 (q := 57) rfl (by decide +kernel)
theorem dL_law_3770 : decode cL_law 3770 = .ok (.iload 4, 2) := zd_dec hw58 (q := 58) rfl (by decide +kernel)
theorem dL_law_3772 : decode cL_law 3772 = .ok (.iconst 2, 1) := zd_dec hw58 (q := 60) rfl (by decide +kernel)
theorem dL_law_3773 : decode cL_law 3773 = .ok (.iadd, 1) := zd_dec hw58 (q := 61) rfl (by decide +kernel)
theorem dL_law_3774 : decode cL_law 3774 = .ok (.iaload, 1) := zd_dec hw58 (q := 62) rfl (by decide +kernel)
theorem dL_law_3775 : decode cL_law 3775 = .ok (.invokevirtual 437, 3) := zd_dec hw58 (q := 63) rfl (by decide +kernel)
theorem dL_law_3778 : decode cL_law 3778 = .ok (.istore 6, 2) := zd_dec hw59 (q := 2) rfl (by decide +kernel)
theorem dL_law_3780 : decode cL_law 3780 = .ok (.aload_n 2, 1) := zd_dec hw59 (q := 4) rfl (by decide +kernel)
theorem dL_law_3781 : decode cL_law 3781 = .ok (.invokevirtual 281, 3) := zd_dec hw59 (q := 5) rfl (by decide +kernel)
theorem dL_law_3784 : decode cL_law 3784 = .ok (.iload 5, 2) := zd_dec hw59 (q := 8) rfl (by decide +kernel)
theorem dL_law_3786 : decode cL_law 3786 = .ok (.if_icmp .eq 5, 3) := zd_dec hw59 (q := 10) rfl (by decide +kernel)
theorem dL_law_3791 : decode cL_law 3791 = .ok (.iload 5, 2) := zd_dec hw59 (q := 15) rfl (by decide +kernel)
theorem dL_law_3793 : decode cL_law 3793 = .ok (.ifCond .ne 15, 3) := zd_dec hw59 (q := 17) rfl (by decide +kernel)
theorem dL_law_3808 : decode cL_law 3808 = .ok (.goto 2194, 3) := zd_dec hw59 (q := 32) rfl (by decide +kernel)
theorem dL_law_3796 : decode cL_law 3796 = .ok (.aload_n 3, 1) := zd_dec hw59 (q := 20) rfl (by decide +kernel)
theorem dL_law_3797 : decode cL_law 3797 = .ok (.iconst 0, 1) := zd_dec hw59 (q := 21) rfl (by decide +kernel)
theorem dL_law_3798 : decode cL_law 3798 = .ok (.laload, 1) := zd_dec hw59 (q := 22) rfl (by decide +kernel)
theorem dL_law_3799 : decode cL_law 3799 = .ok (.iload 6, 2) := zd_dec hw59 (q := 23) rfl (by decide +kernel)
theorem dL_law_3801 : decode cL_law 3801 = .ok (.i2l, 1) := zd_dec hw59 (q := 25) rfl (by decide +kernel)
theorem dL_law_3802 : decode cL_law 3802 = .ok (.lcmp, 1) := zd_dec hw59 (q := 26) rfl (by decide +kernel)
theorem dL_law_3803 : decode cL_law 3803 = .ok (.ifCond .eq 5, 3) := zd_dec hw59 (q := 27) rfl (by decide +kernel)
theorem dL_law_3806 : decode cL_law 3806 = .ok (.iconst 0, 1) := zd_dec hw59 (q := 30) rfl (by decide +kernel)
theorem dL_law_3807 : decode cL_law 3807 = .ok (.ireturn, 1) := zd_dec hw59 (q := 31) rfl (by decide +kernel)
theorem dL_law_3789 : decode cL_law 3789 = .ok (.iconst 0, 1) := zd_dec hw59 (q := 13) rfl (by decide +kernel)
theorem dL_law_3790 : decode cL_law 3790 = .ok (.ireturn, 1) := zd_dec hw59 (q := 14) rfl (by decide +kernel)
theorem dL_law_3811 : decode cL_law 3811 = .ok (.aload_n 1, 1) := zd_dec hw59 (q := 35) rfl (by decide +kernel)
theorem dL_law_3812 : decode cL_law 3812 = .ok (.aload_n 0, 1) := zd_dec hw59 (q := 36) rfl (by decide +kernel)
theorem dL_law_3813 : decode cL_law 3813 = .ok (.iload 4, 2) := zd_dec hw59 (q := 37) rfl (by decide +kernel)
theorem dL_law_3815 : decode cL_law 3815 = .ok (.iconst 1, 1) := zd_dec hw59 (q := 39) rfl (by decide +kernel)
theorem dL_law_3816 : decode cL_law 3816 = .ok (.iadd, 1) := zd_dec hw59 (q := 40) rfl (by decide +kernel)
theorem dL_law_3817 : decode cL_law 3817 = .ok (.iaload, 1) := zd_dec hw59 (q := 41) rfl (by decide +kernel)
theorem dL_law_3818 : decode cL_law 3818 = .ok (.aload_n 3, 1) := zd_dec hw59 (q := 42) rfl (by decide +kernel)
theorem dL_law_3819 : decode cL_law 3819 = .ok (.invokestatic 438, 3) := zd_dec hw59 (q := 43) rfl (by decide +kernel)
theorem dL_law_3822 : decode cL_law 3822 = .ok (.istore 5, 2) := zd_dec hw59 (q := 46) rfl (by decide +kernel)
theorem dL_law_3824 : decode cL_law 3824 = .ok (.aload_n 2, 1) := zd_dec hw59 (q := 48) rfl (by decide +kernel)
theorem dL_law_3825 : decode cL_law 3825 = .ok (.aload_n 0, 1) := zd_dec hw59 (q := 49) rfl (by decide +kernel)
theorem dL_law_3826 : decode cL_law 3826 = .ok (.iload 4, 2) := zd_dec hw59 (q := 50) rfl (by decide +kernel)
theorem dL_law_3828 : decode cL_law 3828 = .ok (.iconst 1, 1) := zd_dec hw59 (q := 52) rfl (by decide +kernel)
theorem dL_law_3829 : decode cL_law 3829 = .ok (.iadd, 1) := zd_dec hw59 (q := 53) rfl (by decide +kernel)
theorem dL_law_3830 : decode cL_law 3830 = .ok (.iaload, 1) := zd_dec hw59 (q := 54) rfl (by decide +kernel)
theorem dL_law_3831 : decode cL_law 3831 = .ok (.invokevirtual 440, 3) := zd_dec hw59 (q := 55) rfl (by decide +kernel)
theorem dL_law_3834 : decode cL_law 3834 = .ok (.istore 6, 2) := zd_dec hw59 (q := 58) rfl (by decide +kernel)
theorem dL_law_3836 : decode cL_law 3836 = .ok (.aload_n 2, 1) := zd_dec hw59 (q := 60) rfl (by decide +kernel)
theorem dL_law_3837 : decode cL_law 3837 = .ok (.invokevirtual 281, 3) := zd_dec hw59 (q := 61) rfl (by decide +kernel)
theorem dL_law_3840 : decode cL_law 3840 = .ok (.iload 5, 2) := zd_dec hw60 (q := 0) rfl (by decide +kernel)
theorem dL_law_3842 : decode cL_law 3842 = .ok (.if_icmp .eq 5, 3) := zd_dec hw60 (q := 2) rfl (by decide +kernel)
theorem dL_law_3847 : decode cL_law 3847 = .ok (.iload 5, 2) := zd_dec hw60 (q := 7) rfl (by decide +kernel)
theorem dL_law_3849 : decode cL_law 3849 = .ok (.ifCond .ne 15, 3) := zd_dec hw60 (q := 9) rfl (by decide +kernel)
theorem dL_law_3864 : decode cL_law 3864 = .ok (.goto 2138, 3) := zd_dec hw60 (q := 24) rfl (by decide +kernel)
theorem dL_law_3852 : decode cL_law 3852 = .ok (.aload_n 3, 1) := zd_dec hw60 (q := 12) rfl (by decide +kernel)
theorem dL_law_3853 : decode cL_law 3853 = .ok (.iconst 0, 1) := zd_dec hw60 (q := 13) rfl (by decide +kernel)
theorem dL_law_3854 : decode cL_law 3854 = .ok (.laload, 1) := zd_dec hw60 (q := 14) rfl (by decide +kernel)
theorem dL_law_3855 : decode cL_law 3855 = .ok (.iload 6, 2) := zd_dec hw60 (q := 15) rfl (by decide +kernel)
theorem dL_law_3857 : decode cL_law 3857 = .ok (.i2l, 1) := zd_dec hw60 (q := 17) rfl (by decide +kernel)
theorem dL_law_3858 : decode cL_law 3858 = .ok (.lcmp, 1) := zd_dec hw60 (q := 18) rfl (by decide +kernel)
theorem dL_law_3859 : decode cL_law 3859 = .ok (.ifCond .eq 5, 3) := zd_dec hw60 (q := 19) rfl (by decide +kernel)
theorem dL_law_3862 : decode cL_law 3862 = .ok (.iconst 0, 1) := zd_dec hw60 (q := 22) rfl (by decide +kernel)
theorem dL_law_3863 : decode cL_law 3863 = .ok (.ireturn, 1) := zd_dec hw60 (q := 23) rfl (by decide +kernel)
theorem dL_law_3845 : decode cL_law 3845 = .ok (.iconst 0, 1) := zd_dec hw60 (q := 5) rfl (by decide +kernel)
theorem dL_law_3846 : decode cL_law 3846 = .ok (.ireturn, 1) := zd_dec hw60 (q := 6) rfl (by decide +kernel)
theorem dL_law_3867 : decode cL_law 3867 = .ok (.aload_n 1, 1) := zd_dec hw60 (q := 27) rfl (by decide +kernel)
theorem dL_law_3868 : decode cL_law 3868 = .ok (.aload_n 0, 1) := zd_dec hw60 (q := 28) rfl (by decide +kernel)
theorem dL_law_3869 : decode cL_law 3869 = .ok (.iload 4, 2) := zd_dec hw60 (q := 29) rfl (by decide +kernel)
theorem dL_law_3871 : decode cL_law 3871 = .ok (.iconst 1, 1) := zd_dec hw60 (q := 31) rfl (by decide +kernel)
theorem dL_law_3872 : decode cL_law 3872 = .ok (.iadd, 1) := zd_dec hw60 (q := 32) rfl (by decide +kernel)
theorem dL_law_3873 : decode cL_law 3873 = .ok (.iaload, 1) := zd_dec hw60 (q := 33) rfl (by decide +kernel)
theorem dL_law_3874 : decode cL_law 3874 = .ok (.aload_n 0, 1) := zd_dec hw60 (q := 34) rfl (by decide +kernel)
theorem dL_law_3875 : decode cL_law 3875 = .ok (.iload 4, 2) := zd_dec hw60 (q := 35) rfl (by decide +kernel)
theorem dL_law_3877 : decode cL_law 3877 = .ok (.iconst 2, 1) := zd_dec hw60 (q := 37) rfl (by decide +kernel)
theorem dL_law_3878 : decode cL_law 3878 = .ok (.iadd, 1) := zd_dec hw60 (q := 38) rfl (by decide +kernel)
theorem dL_law_3879 : decode cL_law 3879 = .ok (.iaload, 1) := zd_dec hw60 (q := 39) rfl (by decide +kernel)
theorem dL_law_3880 : decode cL_law 3880 = .ok (.aload_n 0, 1) := zd_dec hw60 (q := 40) rfl (by decide +kernel)
theorem dL_law_3881 : decode cL_law 3881 = .ok (.iload 4, 2) := zd_dec hw60 (q := 41) rfl (by decide +kernel)
theorem dL_law_3883 : decode cL_law 3883 = .ok (.iconst 3, 1) := zd_dec hw60 (q := 43) rfl (by decide +kernel)
theorem dL_law_3884 : decode cL_law 3884 = .ok (.iadd, 1) := zd_dec hw60 (q := 44) rfl (by decide +kernel)
theorem dL_law_3885 : decode cL_law 3885 = .ok (.iaload, 1) := zd_dec hw60 (q := 45) rfl (by decide +kernel)
theorem dL_law_3886 : decode cL_law 3886 = .ok (.aload_n 3, 1) := zd_dec hw60 (q := 46) rfl (by decide +kernel)
theorem dL_law_3887 : decode cL_law 3887 = .ok (.invokestatic 441, 3) := zd_dec hw60 (q := 47) rfl (by decide +kernel)
theorem dL_law_3890 : decode cL_law 3890 = .ok (.istore 5, 2) := zd_dec hw60 (q := 50) rfl (by decide +kernel)
theorem dL_law_3892 : decode cL_law 3892 = .ok (.aload_n 2, 1) := zd_dec hw60 (q := 52) rfl (by decide +kernel)
theorem dL_law_3893 : decode cL_law 3893 = .ok (.aload_n 0, 1) := zd_dec hw60 (q := 53) rfl (by decide +kernel)
theorem dL_law_3894 : decode cL_law 3894 = .ok (.iload 4, 2) := zd_dec hw60 (q := 54) rfl (by decide +kernel)
theorem dL_law_3896 : decode cL_law 3896 = .ok (.iconst 1, 1) := zd_dec hw60 (q := 56) rfl (by decide +kernel)
theorem dL_law_3897 : decode cL_law 3897 = .ok (.iadd, 1) := zd_dec hw60 (q := 57) rfl (by decide +kernel)
theorem dL_law_3898 : decode cL_law 3898 = .ok (.iaload, 1) := zd_dec hw60 (q := 58) rfl (by decide +kernel)
theorem dL_law_3899 : decode cL_law 3899 = .ok (.aload_n 0, 1) := zd_dec hw60 (q := 59) rfl (by decide +kernel)
theorem dL_law_3900 : decode cL_law 3900 = .ok (.iload 4, 2) := zd_dec hw60 (q := 60) rfl (by decide +kernel)
theorem dL_law_3902 : decode cL_law 3902 = .ok (.iconst 2, 1) := zd_dec hw60 (q := 62) rfl (by decide +kernel)
theorem dL_law_3903 : decode cL_law 3903 = .ok (.iadd, 1) := zd_dec hw60 (q := 63) rfl (by decide +kernel)
theorem dL_law_3904 : decode cL_law 3904 = .ok (.iaload, 1) := zd_dec hw61 (q := 0) rfl (by decide +kernel)
theorem dL_law_3905 : decode cL_law 3905 = .ok (.aload_n 0, 1) := zd_dec hw61 (q := 1) rfl (by decide +kernel)
theorem dL_law_3906 : decode cL_law 3906 = .ok (.iload 4, 2) := zd_dec hw61 (q := 2) rfl (by decide +kernel)
theorem dL_law_3908 : decode cL_law 3908 = .ok (.iconst 3, 1) := zd_dec hw61 (q := 4) rfl (by decide +kernel)
theorem dL_law_3909 : decode cL_law 3909 = .ok (.iadd, 1) := zd_dec hw61 (q := 5) rfl (by decide +kernel)
theorem dL_law_3910 : decode cL_law 3910 = .ok (.iaload, 1) := zd_dec hw61 (q := 6) rfl (by decide +kernel)
theorem dL_law_3911 : decode cL_law 3911 = .ok (.invokevirtual 443, 3) := zd_dec hw61 (q := 7) rfl (by decide +kernel)
theorem dL_law_3914 : decode cL_law 3914 = .ok (.istore 6, 2) := zd_dec hw61 (q := 10) rfl (by decide +kernel)
theorem dL_law_3916 : decode cL_law 3916 = .ok (.aload_n 2, 1) := zd_dec hw61 (q := 12) rfl (by decide +kernel)
theorem dL_law_3917 : decode cL_law 3917 = .ok (.invokevirtual 281, 3) := zd_dec hw61 (q := 13) rfl (by decide +kernel)
theorem dL_law_3920 : decode cL_law 3920 = .ok (.iload 5, 2) := zd_dec hw61 (q := 16) rfl (by decide +kernel)
theorem dL_law_3922 : decode cL_law 3922 = .ok (.if_icmp .eq 5, 3) := zd_dec hw61 (q := 18) rfl (by decide +kernel)
theorem dL_law_3927 : decode cL_law 3927 = .ok (.iload 5, 2) := zd_dec hw61 (q := 23) rfl (by decide +kernel)
theorem dL_law_3929 : decode cL_law 3929 = .ok (.ifCond .ne 15, 3) := zd_dec hw61 (q := 25) rfl (by decide +kernel)
theorem dL_law_3944 : decode cL_law 3944 = .ok (.goto 2058, 3) := zd_dec hw61 (q := 40) rfl (by decide +kernel)
theorem dL_law_3932 : decode cL_law 3932 = .ok (.aload_n 3, 1) := zd_dec hw61 (q := 28) rfl (by decide +kernel)
theorem dL_law_3933 : decode cL_law 3933 = .ok (.iconst 0, 1) := zd_dec hw61 (q := 29) rfl (by decide +kernel)
theorem dL_law_3934 : decode cL_law 3934 = .ok (.laload, 1) := zd_dec hw61 (q := 30) rfl (by decide +kernel)
theorem dL_law_3935 : decode cL_law 3935 = .ok (.iload 6, 2) := zd_dec hw61 (q := 31) rfl (by decide +kernel)
theorem dL_law_3937 : decode cL_law 3937 = .ok (.i2l, 1) := zd_dec hw61 (q := 33) rfl (by decide +kernel)
theorem dL_law_3938 : decode cL_law 3938 = .ok (.lcmp, 1) := zd_dec hw61 (q := 34) rfl (by decide +kernel)
theorem dL_law_3939 : decode cL_law 3939 = .ok (.ifCond .eq 5, 3) := zd_dec hw61 (q := 35) rfl (by decide +kernel)
theorem dL_law_3942 : decode cL_law 3942 = .ok (.iconst 0, 1) := zd_dec hw61 (q := 38) rfl (by decide +kernel)
theorem dL_law_3943 : decode cL_law 3943 = .ok (.ireturn, 1) := zd_dec hw61 (q := 39) rfl (by decide +kernel)
theorem dL_law_3925 : decode cL_law 3925 = .ok (.iconst 0, 1) := zd_dec hw61 (q := 21) rfl (by decide +kernel)
theorem dL_law_3926 : decode cL_law 3926 = .ok (.ireturn, 1) := zd_dec hw61 (q := 22) rfl (by decide +kernel)
theorem dL_law_3947 : decode cL_law 3947 = .ok (.aload_n 1, 1) := zd_dec hw61 (q := 43) rfl (by decide +kernel)
theorem dL_law_3948 : decode cL_law 3948 = .ok (.aload_n 0, 1) := zd_dec hw61 (q := 44) rfl (by decide +kernel)
theorem dL_law_3949 : decode cL_law 3949 = .ok (.iload 4, 2) := zd_dec hw61 (q := 45) rfl (by decide +kernel)
theorem dL_law_3951 : decode cL_law 3951 = .ok (.iconst 1, 1) := zd_dec hw61 (q := 47) rfl (by decide +kernel)
theorem dL_law_3952 : decode cL_law 3952 = .ok (.iadd, 1) := zd_dec hw61 (q := 48) rfl (by decide +kernel)
theorem dL_law_3953 : decode cL_law 3953 = .ok (.iaload, 1) := zd_dec hw61 (q := 49) rfl (by decide +kernel)
theorem dL_law_3954 : decode cL_law 3954 = .ok (.aload_n 0, 1) := zd_dec hw61 (q := 50) rfl (by decide +kernel)
theorem dL_law_3955 : decode cL_law 3955 = .ok (.iload 4, 2) := zd_dec hw61 (q := 51) rfl (by decide +kernel)
theorem dL_law_3957 : decode cL_law 3957 = .ok (.iconst 2, 1) := zd_dec hw61 (q := 53) rfl (by decide +kernel)
theorem dL_law_3958 : decode cL_law 3958 = .ok (.iadd, 1) := zd_dec hw61 (q := 54) rfl (by decide +kernel)
theorem dL_law_3959 : decode cL_law 3959 = .ok (.iaload, 1) := zd_dec hw61 (q := 55) rfl (by decide +kernel)
theorem dL_law_3960 : decode cL_law 3960 = .ok (.aload_n 0, 1) := zd_dec hw61 (q := 56) rfl (by decide +kernel)
theorem dL_law_3961 : decode cL_law 3961 = .ok (.iload 4, 2) := zd_dec hw61 (q := 57) rfl (by decide +kernel)
theorem dL_law_3963 : decode cL_law 3963 = .ok (.iconst 3, 1) := zd_dec hw61 (q := 59) rfl (by decide +kernel)
theorem dL_law_3964 : decode cL_law 3964 = .ok (.iadd, 1) := zd_dec hw61 (q := 60) rfl (by decide +kernel)
theorem dL_law_3965 : decode cL_law 3965 = .ok (.iaload, 1) := zd_dec hw61 (q := 61) rfl (by decide +kernel)
theorem dL_law_3966 : decode cL_law 3966 = .ok (.invokestatic 444, 3) := zd_dec hw61 (q := 62) rfl (by decide +kernel)
theorem dL_law_3969 : decode cL_law 3969 = .ok (.istore 5, 2) := zd_dec hw62 (q := 1) rfl (by decide +kernel)
theorem dL_law_3971 : decode cL_law 3971 = .ok (.aload_n 2, 1) := zd_dec hw62 (q := 3) rfl (by decide +kernel)
theorem dL_law_3972 : decode cL_law 3972 = .ok (.aload_n 0, 1) := zd_dec hw62 (q := 4) rfl (by decide +kernel)
theorem dL_law_3973 : decode cL_law 3973 = .ok (.iload 4, 2) := zd_dec hw62 (q := 5) rfl (by decide +kernel)
theorem dL_law_3975 : decode cL_law 3975 = .ok (.iconst 1, 1) := zd_dec hw62 (q := 7) rfl (by decide +kernel)
theorem dL_law_3976 : decode cL_law 3976 = .ok (.iadd, 1) := zd_dec hw62 (q := 8) rfl (by decide +kernel)
theorem dL_law_3977 : decode cL_law 3977 = .ok (.iaload, 1) := zd_dec hw62 (q := 9) rfl (by decide +kernel)
theorem dL_law_3978 : decode cL_law 3978 = .ok (.aload_n 0, 1) := zd_dec hw62 (q := 10) rfl (by decide +kernel)
theorem dL_law_3979 : decode cL_law 3979 = .ok (.iload 4, 2) := zd_dec hw62 (q := 11) rfl (by decide +kernel)
theorem dL_law_3981 : decode cL_law 3981 = .ok (.iconst 2, 1) := zd_dec hw62 (q := 13) rfl (by decide +kernel)
theorem dL_law_3982 : decode cL_law 3982 = .ok (.iadd, 1) := zd_dec hw62 (q := 14) rfl (by decide +kernel)
theorem dL_law_3983 : decode cL_law 3983 = .ok (.iaload, 1) := zd_dec hw62 (q := 15) rfl (by decide +kernel)
theorem dL_law_3984 : decode cL_law 3984 = .ok (.aload_n 0, 1) := zd_dec hw62 (q := 16) rfl (by decide +kernel)
theorem dL_law_3985 : decode cL_law 3985 = .ok (.iload 4, 2) := zd_dec hw62 (q := 17) rfl (by decide +kernel)
theorem dL_law_3987 : decode cL_law 3987 = .ok (.iconst 3, 1) := zd_dec hw62 (q := 19) rfl (by decide +kernel)
theorem dL_law_3988 : decode cL_law 3988 = .ok (.iadd, 1) := zd_dec hw62 (q := 20) rfl (by decide +kernel)
theorem dL_law_3989 : decode cL_law 3989 = .ok (.iaload, 1) := zd_dec hw62 (q := 21) rfl (by decide +kernel)
theorem dL_law_3990 : decode cL_law 3990 = .ok (.invokevirtual 447, 3) := zd_dec hw62 (q := 22) rfl (by decide +kernel)
theorem dL_law_3993 : decode cL_law 3993 = .ok (.aload_n 2, 1) := zd_dec hw62 (q := 25) rfl (by decide +kernel)
theorem dL_law_3994 : decode cL_law 3994 = .ok (.invokevirtual 281, 3) := zd_dec hw62 (q := 26) rfl (by decide +kernel)
theorem dL_law_3997 : decode cL_law 3997 = .ok (.iload 5, 2) := zd_dec hw62 (q := 29) rfl (by decide +kernel)
theorem dL_law_3999 : decode cL_law 3999 = .ok (.if_icmp .eq 5, 3) := zd_dec hw62 (q := 31) rfl (by decide +kernel)
theorem dL_law_4004 : decode cL_law 4004 = .ok (.goto 1998, 3) := zd_dec hw62 (q := 36) rfl (by decide +kernel)
theorem dL_law_4002 : decode cL_law 4002 = .ok (.iconst 0, 1) := zd_dec hw62 (q := 34) rfl (by decide +kernel)
theorem dL_law_4003 : decode cL_law 4003 = .ok (.ireturn, 1) := zd_dec hw62 (q := 35) rfl (by decide +kernel)
theorem dL_law_4007 : decode cL_law 4007 = .ok (.aload_n 1, 1) := zd_dec hw62 (q := 39) rfl (by decide +kernel)
theorem dL_law_4008 : decode cL_law 4008 = .ok (.aload_n 0, 1) := zd_dec hw62 (q := 40) rfl (by decide +kernel)
theorem dL_law_4009 : decode cL_law 4009 = .ok (.iload 4, 2) := zd_dec hw62 (q := 41) rfl (by decide +kernel)
theorem dL_law_4011 : decode cL_law 4011 = .ok (.iconst 1, 1) := zd_dec hw62 (q := 43) rfl (by decide +kernel)
theorem dL_law_4012 : decode cL_law 4012 = .ok (.iadd, 1) := zd_dec hw62 (q := 44) rfl (by decide +kernel)
theorem dL_law_4013 : decode cL_law 4013 = .ok (.iaload, 1) := zd_dec hw62 (q := 45) rfl (by decide +kernel)
theorem dL_law_4014 : decode cL_law 4014 = .ok (.aload_n 0, 1) := zd_dec hw62 (q := 46) rfl (by decide +kernel)
theorem dL_law_4015 : decode cL_law 4015 = .ok (.iload 4, 2) := zd_dec hw62 (q := 47) rfl (by decide +kernel)
theorem dL_law_4017 : decode cL_law 4017 = .ok (.iconst 2, 1) := zd_dec hw62 (q := 49) rfl (by decide +kernel)
theorem dL_law_4018 : decode cL_law 4018 = .ok (.iadd, 1) := zd_dec hw62 (q := 50) rfl (by decide +kernel)
theorem dL_law_4019 : decode cL_law 4019 = .ok (.iaload, 1) := zd_dec hw62 (q := 51) rfl (by decide +kernel)
theorem dL_law_4020 : decode cL_law 4020 = .ok (.aload_n 0, 1) := zd_dec hw62 (q := 52) rfl (by decide +kernel)
theorem dL_law_4021 : decode cL_law 4021 = .ok (.iload 4, 2) := zd_dec hw62 (q := 53) rfl (by decide +kernel)
theorem dL_law_4023 : decode cL_law 4023 = .ok (.iconst 3, 1) := zd_dec hw62 (q := 55) rfl (by decide +kernel)
theorem dL_law_4024 : decode cL_law 4024 = .ok (.iadd, 1) := zd_dec hw62 (q := 56) rfl (by decide +kernel)
theorem dL_law_4025 : decode cL_law 4025 = .ok (.iaload, 1) := zd_dec hw62 (q := 57) rfl (by decide +kernel)
theorem dL_law_4026 : decode cL_law 4026 = .ok (.aload_n 3, 1) := zd_dec hw62 (q := 58) rfl (by decide +kernel)
theorem dL_law_4027 : decode cL_law 4027 = .ok (.invokestatic 448, 3) := zd_dec hw62 (q := 59) rfl (by decide +kernel)
theorem dL_law_4030 : decode cL_law 4030 = .ok (.istore 5, 2) := zd_dec hw62 (q := 62) rfl (by decide +kernel)
theorem dL_law_4032 : decode cL_law 4032 = .ok (.aload_n 2, 1) := zd_dec hw63 (q := 0) rfl (by decide +kernel)
theorem dL_law_4033 : decode cL_law 4033 = .ok (.aload_n 0, 1) := zd_dec hw63 (q := 1) rfl (by decide +kernel)
theorem dL_law_4034 : decode cL_law 4034 = .ok (.iload 4, 2) := zd_dec hw63 (q := 2) rfl (by decide +kernel)
theorem dL_law_4036 : decode cL_law 4036 = .ok (.iconst 1, 1) := zd_dec hw63 (q := 4) rfl (by decide +kernel)
theorem dL_law_4037 : decode cL_law 4037 = .ok (.iadd, 1) := zd_dec hw63 (q := 5) rfl (by decide +kernel)
theorem dL_law_4038 : decode cL_law 4038 = .ok (.iaload, 1) := zd_dec hw63 (q := 6) rfl (by decide +kernel)
theorem dL_law_4039 : decode cL_law 4039 = .ok (.aload_n 0, 1) := zd_dec hw63 (q := 7) rfl (by decide +kernel)
theorem dL_law_4040 : decode cL_law 4040 = .ok (.iload 4, 2) := zd_dec hw63 (q := 8) rfl (by decide +kernel)
theorem dL_law_4042 : decode cL_law 4042 = .ok (.iconst 2, 1) := zd_dec hw63 (q := 10) rfl (by decide +kernel)
theorem dL_law_4043 : decode cL_law 4043 = .ok (.iadd, 1) := zd_dec hw63 (q := 11) rfl (by decide +kernel)
theorem dL_law_4044 : decode cL_law 4044 = .ok (.iaload, 1) := zd_dec hw63 (q := 12) rfl (by decide +kernel)
theorem dL_law_4045 : decode cL_law 4045 = .ok (.aload_n 0, 1) := zd_dec hw63 (q := 13) rfl (by decide +kernel)
theorem dL_law_4046 : decode cL_law 4046 = .ok (.iload 4, 2) := zd_dec hw63 (q := 14) rfl (by decide +kernel)
theorem dL_law_4048 : decode cL_law 4048 = .ok (.iconst 3, 1) := zd_dec hw63 (q := 16) rfl (by decide +kernel)
theorem dL_law_4049 : decode cL_law 4049 = .ok (.iadd, 1) := zd_dec hw63 (q := 17) rfl (by decide +kernel)
theorem dL_law_4050 : decode cL_law 4050 = .ok (.iaload, 1) := zd_dec hw63 (q := 18) rfl (by decide +kernel)
theorem dL_law_4051 : decode cL_law 4051 = .ok (.invokevirtual 450, 3) := zd_dec hw63 (q := 19) rfl (by decide +kernel)
theorem dL_law_4054 : decode cL_law 4054 = .ok (.istore 6, 2) := zd_dec hw63 (q := 22) rfl (by decide +kernel)
theorem dL_law_4056 : decode cL_law 4056 = .ok (.aload_n 2, 1) := zd_dec hw63 (q := 24) rfl (by decide +kernel)
theorem dL_law_4057 : decode cL_law 4057 = .ok (.invokevirtual 281, 3) := zd_dec hw63 (q := 25) rfl (by decide +kernel)
theorem dL_law_4060 : decode cL_law 4060 = .ok (.iload 5, 2) := zd_dec hw63 (q := 28) rfl (by decide +kernel)
theorem dL_law_4062 : decode cL_law 4062 = .ok (.if_icmp .eq 5, 3) := zd_dec hw63 (q := 30) rfl (by decide +kernel)
theorem dL_law_4067 : decode cL_law 4067 = .ok (.iload 5, 2) := zd_dec hw63 (q := 35) rfl (by decide +kernel)
theorem dL_law_4069 : decode cL_law 4069 = .ok (.ifCond .ne 15, 3) := zd_dec hw63 (q := 37) rfl (by decide +kernel)
theorem dL_law_4084 : decode cL_law 4084 = .ok (.goto 1918, 3) := zd_dec hw63 (q := 52) rfl (by decide +kernel)
theorem dL_law_4072 : decode cL_law 4072 = .ok (.aload_n 3, 1) := zd_dec hw63 (q := 40) rfl (by decide +kernel)
theorem dL_law_4073 : decode cL_law 4073 = .ok (.iconst 0, 1) := zd_dec hw63 (q := 41) rfl (by decide +kernel)
theorem dL_law_4074 : decode cL_law 4074 = .ok (.laload, 1) := zd_dec hw63 (q := 42) rfl (by decide +kernel)
theorem dL_law_4075 : decode cL_law 4075 = .ok (.iload 6, 2) := zd_dec hw63 (q := 43) rfl (by decide +kernel)
theorem dL_law_4077 : decode cL_law 4077 = .ok (.i2l, 1) := zd_dec hw63 (q := 45) rfl (by decide +kernel)
theorem dL_law_4078 : decode cL_law 4078 = .ok (.lcmp, 1) := zd_dec hw63 (q := 46) rfl (by decide +kernel)
theorem dL_law_4079 : decode cL_law 4079 = .ok (.ifCond .eq 5, 3) := zd_dec hw63 (q := 47) rfl (by decide +kernel)
theorem dL_law_4082 : decode cL_law 4082 = .ok (.iconst 0, 1) := zd_dec hw63 (q := 50) rfl (by decide +kernel)
theorem dL_law_4083 : decode cL_law 4083 = .ok (.ireturn, 1) := zd_dec hw63 (q := 51) rfl (by decide +kernel)
theorem dL_law_4065 : decode cL_law 4065 = .ok (.iconst 0, 1) := zd_dec hw63 (q := 33) rfl (by decide +kernel)
theorem dL_law_4066 : decode cL_law 4066 = .ok (.ireturn, 1) := zd_dec hw63 (q := 34) rfl (by decide +kernel)
theorem dL_law_4087 : decode cL_law 4087 = .ok (.aload_n 1, 1) := zd_dec hw63 (q := 55) rfl (by decide +kernel)
theorem dL_law_4088 : decode cL_law 4088 = .ok (.aload_n 0, 1) := zd_dec hw63 (q := 56) rfl (by decide +kernel)
theorem dL_law_4089 : decode cL_law 4089 = .ok (.iload 4, 2) := zd_dec hw63 (q := 57) rfl (by decide +kernel)
theorem dL_law_4091 : decode cL_law 4091 = .ok (.iconst 1, 1) := zd_dec hw63 (q := 59) rfl (by decide +kernel)
theorem dL_law_4092 : decode cL_law 4092 = .ok (.iadd, 1) := zd_dec hw63 (q := 60) rfl (by decide +kernel)
theorem dL_law_4093 : decode cL_law 4093 = .ok (.iaload, 1) := zd_dec hw63 (q := 61) rfl (by decide +kernel)
theorem dL_law_4094 : decode cL_law 4094 = .ok (.aload_n 0, 1) := zd_dec hw63 (q := 62) rfl (by decide +kernel)
theorem dL_law_4095 : decode cL_law 4095 = .ok (.iload 4, 2) := zd_dec hw63 (q := 63) rfl (by decide +kernel)
theorem dL_law_4097 : decode cL_law 4097 = .ok (.iconst 2, 1) := zd_dec hw64 (q := 1) rfl (by decide +kernel)
theorem dL_law_4098 : decode cL_law 4098 = .ok (.iadd, 1) := zd_dec hw64 (q := 2) rfl (by decide +kernel)
theorem dL_law_4099 : decode cL_law 4099 = .ok (.iaload, 1) := zd_dec hw64 (q := 3) rfl (by decide +kernel)
theorem dL_law_4100 : decode cL_law 4100 = .ok (.aload_n 3, 1) := zd_dec hw64 (q := 4) rfl (by decide +kernel)
theorem dL_law_4101 : decode cL_law 4101 = .ok (.invokestatic 451, 3) := zd_dec hw64 (q := 5) rfl (by decide +kernel)
theorem dL_law_4104 : decode cL_law 4104 = .ok (.istore 5, 2) := zd_dec hw64 (q := 8) rfl (by decide +kernel)
theorem dL_law_4106 : decode cL_law 4106 = .ok (.aload_n 2, 1) := zd_dec hw64 (q := 10) rfl (by decide +kernel)
theorem dL_law_4107 : decode cL_law 4107 = .ok (.aload_n 0, 1) := zd_dec hw64 (q := 11) rfl (by decide +kernel)
theorem dL_law_4108 : decode cL_law 4108 = .ok (.iload 4, 2) := zd_dec hw64 (q := 12) rfl (by decide +kernel)
theorem dL_law_4110 : decode cL_law 4110 = .ok (.iconst 1, 1) := zd_dec hw64 (q := 14) rfl (by decide +kernel)
theorem dL_law_4111 : decode cL_law 4111 = .ok (.iadd, 1) := zd_dec hw64 (q := 15) rfl (by decide +kernel)
theorem dL_law_4112 : decode cL_law 4112 = .ok (.iaload, 1) := zd_dec hw64 (q := 16) rfl (by decide +kernel)
theorem dL_law_4113 : decode cL_law 4113 = .ok (.aload_n 0, 1) := zd_dec hw64 (q := 17) rfl (by decide +kernel)
theorem dL_law_4114 : decode cL_law 4114 = .ok (.iload 4, 2) := zd_dec hw64 (q := 18) rfl (by decide +kernel)
theorem dL_law_4116 : decode cL_law 4116 = .ok (.iconst 2, 1) := zd_dec hw64 (q := 20) rfl (by decide +kernel)
theorem dL_law_4117 : decode cL_law 4117 = .ok (.iadd, 1) := zd_dec hw64 (q := 21) rfl (by decide +kernel)
theorem dL_law_4118 : decode cL_law 4118 = .ok (.iaload, 1) := zd_dec hw64 (q := 22) rfl (by decide +kernel)
theorem dL_law_4119 : decode cL_law 4119 = .ok (.invokevirtual 453, 3) := zd_dec hw64 (q := 23) rfl (by decide +kernel)
theorem dL_law_4122 : decode cL_law 4122 = .ok (.istore 6, 2) := zd_dec hw64 (q := 26) rfl (by decide +kernel)
theorem dL_law_4124 : decode cL_law 4124 = .ok (.aload_n 2, 1) := zd_dec hw64 (q := 28) rfl (by decide +kernel)
theorem dL_law_4125 : decode cL_law 4125 = .ok (.invokevirtual 281, 3) := zd_dec hw64 (q := 29) rfl (by decide +kernel)
theorem dL_law_4128 : decode cL_law 4128 = .ok (.iload 5, 2) := zd_dec hw64 (q := 32) rfl (by decide +kernel)
theorem dL_law_4130 : decode cL_law 4130 = .ok (.if_icmp .eq 5, 3) := zd_dec hw64 (q := 34) rfl (by decide +kernel)
theorem dL_law_4135 : decode cL_law 4135 = .ok (.iload 5, 2) := zd_dec hw64 (q := 39) rfl (by decide +kernel)
theorem dL_law_4137 : decode cL_law 4137 = .ok (.ifCond .ne 15, 3) := zd_dec hw64 (q := 41) rfl (by decide +kernel)
theorem dL_law_4152 : decode cL_law 4152 = .ok (.goto 1850, 3) := zd_dec hw64 (q := 56) rfl (by decide +kernel)
theorem dL_law_4140 : decode cL_law 4140 = .ok (.aload_n 3, 1) := zd_dec hw64 (q := 44) rfl (by decide +kernel)
theorem dL_law_4141 : decode cL_law 4141 = .ok (.iconst 0, 1) := zd_dec hw64 (q := 45) rfl (by decide +kernel)
theorem dL_law_4142 : decode cL_law 4142 = .ok (.laload, 1) := zd_dec hw64 (q := 46) rfl (by decide +kernel)
theorem dL_law_4143 : decode cL_law 4143 = .ok (.iload 6, 2) := zd_dec hw64 (q := 47) rfl (by decide +kernel)
theorem dL_law_4145 : decode cL_law 4145 = .ok (.i2l, 1) := zd_dec hw64 (q := 49) rfl (by decide +kernel)
theorem dL_law_4146 : decode cL_law 4146 = .ok (.lcmp, 1) := zd_dec hw64 (q := 50) rfl (by decide +kernel)
theorem dL_law_4147 : decode cL_law 4147 = .ok (.ifCond .eq 5, 3) := zd_dec hw64 (q := 51) rfl (by decide +kernel)
theorem dL_law_4150 : decode cL_law 4150 = .ok (.iconst 0, 1) := zd_dec hw64 (q := 54) rfl (by decide +kernel)
theorem dL_law_4151 : decode cL_law 4151 = .ok (.ireturn, 1) := zd_dec hw64 (q := 55) rfl (by decide +kernel)
theorem dL_law_4133 : decode cL_law 4133 = .ok (.iconst 0, 1) := zd_dec hw64 (q := 37) rfl (by decide +kernel)
theorem dL_law_4134 : decode cL_law 4134 = .ok (.ireturn, 1) := zd_dec hw64 (q := 38) rfl (by decide +kernel)
theorem dL_law_4155 : decode cL_law 4155 = .ok (.aload_n 1, 1) := zd_dec hw64 (q := 59) rfl (by decide +kernel)
theorem dL_law_4156 : decode cL_law 4156 = .ok (.aload_n 0, 1) := zd_dec hw64 (q := 60) rfl (by decide +kernel)
theorem dL_law_4157 : decode cL_law 4157 = .ok (.iload 4, 2) := zd_dec hw64 (q := 61) rfl (by decide +kernel)
theorem dL_law_4159 : decode cL_law 4159 = .ok (.iconst 1, 1) := zd_dec hw64 (q := 63) rfl (by decide +kernel)
theorem dL_law_4160 : decode cL_law 4160 = .ok (.iadd, 1) := zd_dec hw65 (q := 0) rfl (by decide +kernel)
theorem dL_law_4161 : decode cL_law 4161 = .ok (.iaload, 1) := zd_dec hw65 (q := 1) rfl (by decide +kernel)
theorem dL_law_4162 : decode cL_law 4162 = .ok (.aload_n 0, 1) := zd_dec hw65 (q := 2) rfl (by decide +kernel)
theorem dL_law_4163 : decode cL_law 4163 = .ok (.iload 4, 2) := zd_dec hw65 (q := 3) rfl (by decide +kernel)
theorem dL_law_4165 : decode cL_law 4165 = .ok (.iconst 2, 1) := zd_dec hw65 (q := 5) rfl (by decide +kernel)
theorem dL_law_4166 : decode cL_law 4166 = .ok (.iadd, 1) := zd_dec hw65 (q := 6) rfl (by decide +kernel)
theorem dL_law_4167 : decode cL_law 4167 = .ok (.iaload, 1) := zd_dec hw65 (q := 7) rfl (by decide +kernel)
theorem dL_law_4168 : decode cL_law 4168 = .ok (.ifCond .eq 7, 3) := zd_dec hw65 (q := 8) rfl (by decide +kernel)
theorem dL_law_4175 : decode cL_law 4175 = .ok (.iconst 0, 1) := zd_dec hw65 (q := 15) rfl (by decide +kernel)
theorem dL_law_4176 : decode cL_law 4176 = .ok (.aload_n 0, 1) := zd_dec hw65 (q := 16) rfl (by decide +kernel)
theorem dL_law_4177 : decode cL_law 4177 = .ok (.iload 4, 2) := zd_dec hw65 (q := 17) rfl (by decide +kernel)
theorem dL_law_4179 : decode cL_law 4179 = .ok (.iconst 3, 1) := zd_dec hw65 (q := 19) rfl (by decide +kernel)
theorem dL_law_4180 : decode cL_law 4180 = .ok (.iadd, 1) := zd_dec hw65 (q := 20) rfl (by decide +kernel)
theorem dL_law_4181 : decode cL_law 4181 = .ok (.iaload, 1) := zd_dec hw65 (q := 21) rfl (by decide +kernel)
theorem dL_law_4182 : decode cL_law 4182 = .ok (.aload_n 3, 1) := zd_dec hw65 (q := 22) rfl (by decide +kernel)
theorem dL_law_4183 : decode cL_law 4183 = .ok (.invokestatic 454, 3) := zd_dec hw65 (q := 23) rfl (by decide +kernel)
theorem dL_law_4186 : decode cL_law 4186 = .ok (.istore 5, 2) := zd_dec hw65 (q := 26) rfl (by decide +kernel)
theorem dL_law_4188 : decode cL_law 4188 = .ok (.aload_n 2, 1) := zd_dec hw65 (q := 28) rfl (by decide +kernel)
theorem dL_law_4189 : decode cL_law 4189 = .ok (.aload_n 0, 1) := zd_dec hw65 (q := 29) rfl (by decide +kernel)
theorem dL_law_4190 : decode cL_law 4190 = .ok (.iload 4, 2) := zd_dec hw65 (q := 30) rfl (by decide +kernel)
theorem dL_law_4192 : decode cL_law 4192 = .ok (.iconst 1, 1) := zd_dec hw65 (q := 32) rfl (by decide +kernel)
theorem dL_law_4193 : decode cL_law 4193 = .ok (.iadd, 1) := zd_dec hw65 (q := 33) rfl (by decide +kernel)
theorem dL_law_4194 : decode cL_law 4194 = .ok (.iaload, 1) := zd_dec hw65 (q := 34) rfl (by decide +kernel)
theorem dL_law_4195 : decode cL_law 4195 = .ok (.aload_n 0, 1) := zd_dec hw65 (q := 35) rfl (by decide +kernel)
theorem dL_law_4196 : decode cL_law 4196 = .ok (.iload 4, 2) := zd_dec hw65 (q := 36) rfl (by decide +kernel)
theorem dL_law_4198 : decode cL_law 4198 = .ok (.iconst 2, 1) := zd_dec hw65 (q := 38) rfl (by decide +kernel)
theorem dL_law_4199 : decode cL_law 4199 = .ok (.iadd, 1) := zd_dec hw65 (q := 39) rfl (by decide +kernel)
theorem dL_law_4200 : decode cL_law 4200 = .ok (.iaload, 1) := zd_dec hw65 (q := 40) rfl (by decide +kernel)
theorem dL_law_4201 : decode cL_law 4201 = .ok (.ifCond .eq 7, 3) := zd_dec hw65 (q := 41) rfl (by decide +kernel)
theorem dL_law_4208 : decode cL_law 4208 = .ok (.iconst 0, 1) := zd_dec hw65 (q := 48) rfl (by decide +kernel)
theorem dL_law_4209 : decode cL_law 4209 = .ok (.aload_n 0, 1) := zd_dec hw65 (q := 49) rfl (by decide +kernel)
theorem dL_law_4210 : decode cL_law 4210 = .ok (.iload 4, 2) := zd_dec hw65 (q := 50) rfl (by decide +kernel)
theorem dL_law_4212 : decode cL_law 4212 = .ok (.iconst 3, 1) := zd_dec hw65 (q := 52) rfl (by decide +kernel)
theorem dL_law_4213 : decode cL_law 4213 = .ok (.iadd, 1) := zd_dec hw65 (q := 53) rfl (by decide +kernel)
theorem dL_law_4214 : decode cL_law 4214 = .ok (.iaload, 1) := zd_dec hw65 (q := 54) rfl (by decide +kernel)
theorem dL_law_4215 : decode cL_law 4215 = .ok (.invokevirtual 457, 3) := zd_dec hw65 (q := 55) rfl (by decide +kernel)
theorem dL_law_4218 : decode cL_law 4218 = .ok (.istore 6, 2) := zd_dec hw65 (q := 58) rfl (by decide +kernel)
theorem dL_law_4220 : decode cL_law 4220 = .ok (.aload_n 2, 1) := zd_dec hw65 (q := 60) rfl (by decide +kernel)
theorem dL_law_4221 : decode cL_law 4221 = .ok (.invokevirtual 281, 3) := zd_dec hw65 (q := 61) rfl (by decide +kernel)
theorem dL_law_4224 : decode cL_law 4224 = .ok (.iload 5, 2) := zd_dec hw66 (q := 0) rfl (by decide +kernel)
theorem dL_law_4226 : decode cL_law 4226 = .ok (.if_icmp .eq 5, 3) := zd_dec hw66 (q := 2) rfl (by decide +kernel)
theorem dL_law_4231 : decode cL_law 4231 = .ok (.iload 5, 2) := zd_dec hw66 (q := 7) rfl (by decide +kernel)
theorem dL_law_4233 : decode cL_law 4233 = .ok (.ifCond .ne 22, 3) := zd_dec hw66 (q := 9) rfl (by decide +kernel)
theorem dL_law_4255 : decode cL_law 4255 = .ok (.goto 1747, 3) := zd_dec hw66 (q := 31) rfl (by decide +kernel)
theorem dL_law_4236 : decode cL_law 4236 = .ok (.aload_n 3, 1) := zd_dec hw66 (q := 12) rfl (by decide +kernel)
theorem dL_law_4237 : decode cL_law 4237 = .ok (.iconst 0, 1) := zd_dec hw66 (q := 13) rfl (by decide +kernel)
theorem dL_law_4238 : decode cL_law 4238 = .ok (.laload, 1) := zd_dec hw66 (q := 14) rfl (by decide +kernel)
theorem dL_law_4239 : decode cL_law 4239 = .ok (.iload 6, 2) := zd_dec hw66 (q := 15) rfl (by decide +kernel)
theorem dL_law_4241 : decode cL_law 4241 = .ok (.ifCond .eq 7, 3) := zd_dec hw66 (q := 17) rfl (by decide +kernel)
theorem dL_law_4248 : decode cL_law 4248 = .ok (.lconst 0, 1) := zd_dec hw66 (q := 24) rfl (by decide +kernel)
theorem dL_law_4249 : decode cL_law 4249 = .ok (.lcmp, 1) := zd_dec hw66 (q := 25) rfl (by decide +kernel)
theorem dL_law_4250 : decode cL_law 4250 = .ok (.ifCond .eq 5, 3) := zd_dec hw66 (q := 26) rfl (by decide +kernel)
theorem dL_law_4253 : decode cL_law 4253 = .ok (.iconst 0, 1) := zd_dec hw66 (q := 29) rfl (by decide +kernel)
theorem dL_law_4254 : decode cL_law 4254 = .ok (.ireturn, 1) := zd_dec hw66 (q := 30) rfl (by decide +kernel)
theorem dL_law_4244 : decode cL_law 4244 = .ok (.lconst 1, 1) := zd_dec hw66 (q := 20) rfl (by decide +kernel)
theorem dL_law_4245 : decode cL_law 4245 = .ok (.goto 4, 3) := zd_dec hw66 (q := 21) rfl (by decide +kernel)
theorem dL_law_4229 : decode cL_law 4229 = .ok (.iconst 0, 1) := zd_dec hw66 (q := 5) rfl (by decide +kernel)
theorem dL_law_4230 : decode cL_law 4230 = .ok (.ireturn, 1) := zd_dec hw66 (q := 6) rfl (by decide +kernel)
theorem dL_law_4204 : decode cL_law 4204 = .ok (.iconst 1, 1) := zd_dec hw65 (q := 44) rfl (by decide +kernel)
theorem dL_law_4205 : decode cL_law 4205 = .ok (.goto 4, 3) := zd_dec hw65 (q := 45) rfl (by decide +kernel)
theorem dL_law_4171 : decode cL_law 4171 = .ok (.iconst 1, 1) := zd_dec hw65 (q := 11) rfl (by decide +kernel)
theorem dL_law_4172 : decode cL_law 4172 = .ok (.goto 4, 3) := zd_dec hw65 (q := 12) rfl (by decide +kernel)
theorem dL_law_4258 : decode cL_law 4258 = .ok (.aload_n 1, 1) := zd_dec hw66 (q := 34) rfl (by decide +kernel)
theorem dL_law_4259 : decode cL_law 4259 = .ok (.aload_n 0, 1) := zd_dec hw66 (q := 35) rfl (by decide +kernel)
theorem dL_law_4260 : decode cL_law 4260 = .ok (.iload 4, 2) := zd_dec hw66 (q := 36) rfl (by decide +kernel)
theorem dL_law_4262 : decode cL_law 4262 = .ok (.iconst 1, 1) := zd_dec hw66 (q := 38) rfl (by decide +kernel)
theorem dL_law_4263 : decode cL_law 4263 = .ok (.iadd, 1) := zd_dec hw66 (q := 39) rfl (by decide +kernel)
theorem dL_law_4264 : decode cL_law 4264 = .ok (.iaload, 1) := zd_dec hw66 (q := 40) rfl (by decide +kernel)
theorem dL_law_4265 : decode cL_law 4265 = .ok (.aload_n 0, 1) := zd_dec hw66 (q := 41) rfl (by decide +kernel)
theorem dL_law_4266 : decode cL_law 4266 = .ok (.iload 4, 2) := zd_dec hw66 (q := 42) rfl (by decide +kernel)
theorem dL_law_4268 : decode cL_law 4268 = .ok (.iconst 2, 1) := zd_dec hw66 (q := 44) rfl (by decide +kernel)
theorem dL_law_4269 : decode cL_law 4269 = .ok (.iadd, 1) := zd_dec hw66 (q := 45) rfl (by decide +kernel)
theorem dL_law_4270 : decode cL_law 4270 = .ok (.iaload, 1) := zd_dec hw66 (q := 46) rfl (by decide +kernel)
theorem dL_law_4271 : decode cL_law 4271 = .ok (.aload_n 3, 1) := zd_dec hw66 (q := 47) rfl (by decide +kernel)
theorem dL_law_4272 : decode cL_law 4272 = .ok (.invokestatic 458, 3) := zd_dec hw66 (q := 48) rfl (by decide +kernel)
theorem dL_law_4275 : decode cL_law 4275 = .ok (.istore 5, 2) := zd_dec hw66 (q := 51) rfl (by decide +kernel)
theorem dL_law_4277 : decode cL_law 4277 = .ok (.aload_n 2, 1) := zd_dec hw66 (q := 53) rfl (by decide +kernel)
theorem dL_law_4278 : decode cL_law 4278 = .ok (.aload_n 0, 1) := zd_dec hw66 (q := 54) rfl (by decide +kernel)
theorem dL_law_4279 : decode cL_law 4279 = .ok (.iload 4, 2) := zd_dec hw66 (q := 55) rfl (by decide +kernel)
theorem dL_law_4281 : decode cL_law 4281 = .ok (.iconst 1, 1) := zd_dec hw66 (q := 57) rfl (by decide +kernel)
theorem dL_law_4282 : decode cL_law 4282 = .ok (.iadd, 1) := zd_dec hw66 (q := 58) rfl (by decide +kernel)
theorem dL_law_4283 : decode cL_law 4283 = .ok (.iaload, 1) := zd_dec hw66 (q := 59) rfl (by decide +kernel)
theorem dL_law_4284 : decode cL_law 4284 = .ok (.aload_n 0, 1) := zd_dec hw66 (q := 60) rfl (by decide +kernel)
theorem dL_law_4285 : decode cL_law 4285 = .ok (.iload 4, 2) := zd_dec hw66 (q := 61) rfl (by decide +kernel)
theorem dL_law_4287 : decode cL_law 4287 = .ok (.iconst 2, 1) := zd_dec hw66 (q := 63) rfl (by decide +kernel)
theorem dL_law_4288 : decode cL_law 4288 = .ok (.iadd, 1) := zd_dec hw67 (q := 0) rfl (by decide +kernel)
theorem dL_law_4289 : decode cL_law 4289 = .ok (.iaload, 1) := zd_dec hw67 (q := 1) rfl (by decide +kernel)
theorem dL_law_4290 : decode cL_law 4290 = .ok (.invokevirtual 460, 3) := zd_dec hw67 (q := 2) rfl (by decide +kernel)
theorem dL_law_4293 : decode cL_law 4293 = .ok (.istore 6, 2) := zd_dec hw67 (q := 5) rfl (by decide +kernel)
theorem dL_law_4295 : decode cL_law 4295 = .ok (.aload_n 2, 1) := zd_dec hw67 (q := 7) rfl (by decide +kernel)
theorem dL_law_4296 : decode cL_law 4296 = .ok (.invokevirtual 281, 3) := zd_dec hw67 (q := 8) rfl (by decide +kernel)
theorem dL_law_4299 : decode cL_law 4299 = .ok (.iload 5, 2) := zd_dec hw67 (q := 11) rfl (by decide +kernel)
theorem dL_law_4301 : decode cL_law 4301 = .ok (.if_icmp .eq 5, 3) := zd_dec hw67 (q := 13) rfl (by decide +kernel)
theorem dL_law_4306 : decode cL_law 4306 = .ok (.iload 5, 2) := zd_dec hw67 (q := 18) rfl (by decide +kernel)
theorem dL_law_4308 : decode cL_law 4308 = .ok (.ifCond .ne 15, 3) := zd_dec hw67 (q := 20) rfl (by decide +kernel)
theorem dL_law_4323 : decode cL_law 4323 = .ok (.goto 1679, 3) := zd_dec hw67 (q := 35) rfl (by decide +kernel)
theorem dL_law_4311 : decode cL_law 4311 = .ok (.aload_n 3, 1) := zd_dec hw67 (q := 23) rfl (by decide +kernel)
theorem dL_law_4312 : decode cL_law 4312 = .ok (.iconst 0, 1) := zd_dec hw67 (q := 24) rfl (by decide +kernel)
theorem dL_law_4313 : decode cL_law 4313 = .ok (.laload, 1) := zd_dec hw67 (q := 25) rfl (by decide +kernel)
theorem dL_law_4314 : decode cL_law 4314 = .ok (.iload 6, 2) := zd_dec hw67 (q := 26) rfl (by decide +kernel)
theorem dL_law_4316 : decode cL_law 4316 = .ok (.i2l, 1) := zd_dec hw67 (q := 28) rfl (by decide +kernel)
theorem dL_law_4317 : decode cL_law 4317 = .ok (.lcmp, 1) := zd_dec hw67 (q := 29) rfl (by decide +kernel)
theorem dL_law_4318 : decode cL_law 4318 = .ok (.ifCond .eq 5, 3) := zd_dec hw67 (q := 30) rfl (by decide +kernel)
theorem dL_law_4321 : decode cL_law 4321 = .ok (.iconst 0, 1) := zd_dec hw67 (q := 33) rfl (by decide +kernel)
theorem dL_law_4322 : decode cL_law 4322 = .ok (.ireturn, 1) := zd_dec hw67 (q := 34) rfl (by decide +kernel)
theorem dL_law_4304 : decode cL_law 4304 = .ok (.iconst 0, 1) := zd_dec hw67 (q := 16) rfl (by decide +kernel)
theorem dL_law_4305 : decode cL_law 4305 = .ok (.ireturn, 1) := zd_dec hw67 (q := 17) rfl (by decide +kernel)
theorem dL_law_4326 : decode cL_law 4326 = .ok (.aload_n 1, 1) := zd_dec hw67 (q := 38) rfl (by decide +kernel)
theorem dL_law_4327 : decode cL_law 4327 = .ok (.aload_n 0, 1) := zd_dec hw67 (q := 39) rfl (by decide +kernel)
theorem dL_law_4328 : decode cL_law 4328 = .ok (.iload 4, 2) := zd_dec hw67 (q := 40) rfl (by decide +kernel)
theorem dL_law_4330 : decode cL_law 4330 = .ok (.iconst 1, 1) := zd_dec hw67 (q := 42) rfl (by decide +kernel)
theorem dL_law_4331 : decode cL_law 4331 = .ok (.iadd, 1) := zd_dec hw67 (q := 43) rfl (by decide +kernel)
theorem dL_law_4332 : decode cL_law 4332 = .ok (.iaload, 1) := zd_dec hw67 (q := 44) rfl (by decide +kernel)
theorem dL_law_4333 : decode cL_law 4333 = .ok (.aload_n 0, 1) := zd_dec hw67 (q := 45) rfl (by decide +kernel)
theorem dL_law_4334 : decode cL_law 4334 = .ok (.iload 4, 2) := zd_dec hw67 (q := 46) rfl (by decide +kernel)
theorem dL_law_4336 : decode cL_law 4336 = .ok (.iconst 2, 1) := zd_dec hw67 (q := 48) rfl (by decide +kernel)
theorem dL_law_4337 : decode cL_law 4337 = .ok (.iadd, 1) := zd_dec hw67 (q := 49) rfl (by decide +kernel)
theorem dL_law_4338 : decode cL_law 4338 = .ok (.iaload, 1) := zd_dec hw67 (q := 50) rfl (by decide +kernel)
theorem dL_law_4339 : decode cL_law 4339 = .ok (.aload_n 3, 1) := zd_dec hw67 (q := 51) rfl (by decide +kernel)
theorem dL_law_4340 : decode cL_law 4340 = .ok (.invokestatic 461, 3) := zd_dec hw67 (q := 52) rfl (by decide +kernel)
theorem dL_law_4343 : decode cL_law 4343 = .ok (.istore 5, 2) := zd_dec hw67 (q := 55) rfl (by decide +kernel)
theorem dL_law_4345 : decode cL_law 4345 = .ok (.aload_n 2, 1) := zd_dec hw67 (q := 57) rfl (by decide +kernel)
theorem dL_law_4346 : decode cL_law 4346 = .ok (.aload_n 0, 1) := zd_dec hw67 (q := 58) rfl (by decide +kernel)
theorem dL_law_4347 : decode cL_law 4347 = .ok (.iload 4, 2) := zd_dec hw67 (q := 59) rfl (by decide +kernel)
theorem dL_law_4349 : decode cL_law 4349 = .ok (.iconst 1, 1) := zd_dec hw67 (q := 61) rfl (by decide +kernel)
theorem dL_law_4350 : decode cL_law 4350 = .ok (.iadd, 1) := zd_dec hw67 (q := 62) rfl (by decide +kernel)
theorem dL_law_4351 : decode cL_law 4351 = .ok (.iaload, 1) := zd_dec hw67 (q := 63) rfl (by decide +kernel)
theorem dL_law_4352 : decode cL_law 4352 = .ok (.aload_n 0, 1) := zd_dec hw68 (q := 0) rfl (by decide +kernel)
theorem dL_law_4353 : decode cL_law 4353 = .ok (.iload 4, 2) := zd_dec hw68 (q := 1) rfl (by decide +kernel)
theorem dL_law_4355 : decode cL_law 4355 = .ok (.iconst 2, 1) := zd_dec hw68 (q := 3) rfl (by decide +kernel)
theorem dL_law_4356 : decode cL_law 4356 = .ok (.iadd, 1) := zd_dec hw68 (q := 4) rfl (by decide +kernel)
theorem dL_law_4357 : decode cL_law 4357 = .ok (.iaload, 1) := zd_dec hw68 (q := 5) rfl (by decide +kernel)
theorem dL_law_4358 : decode cL_law 4358 = .ok (.invokevirtual 463, 3) := zd_dec hw68 (q := 6) rfl (by decide +kernel)
theorem dL_law_4361 : decode cL_law 4361 = .ok (.istore 6, 2) := zd_dec hw68 (q := 9) rfl (by decide +kernel)
theorem dL_law_4363 : decode cL_law 4363 = .ok (.aload_n 2, 1) := zd_dec hw68 (q := 11) rfl (by decide +kernel)
theorem dL_law_4364 : decode cL_law 4364 = .ok (.invokevirtual 281, 3) := zd_dec hw68 (q := 12) rfl (by decide +kernel)
theorem dL_law_4367 : decode cL_law 4367 = .ok (.iload 5, 2) := zd_dec hw68 (q := 15) rfl (by decide +kernel)
theorem dL_law_4369 : decode cL_law 4369 = .ok (.if_icmp .eq 5, 3) := zd_dec hw68 (q := 17) rfl (by decide +kernel)
theorem dL_law_4374 : decode cL_law 4374 = .ok (.iload 5, 2) := zd_dec hw68 (q := 22) rfl (by decide +kernel)
theorem dL_law_4376 : decode cL_law 4376 = .ok (.ifCond .ne 15, 3) := zd_dec hw68 (q := 24) rfl (by decide +kernel)
theorem dL_law_4391 : decode cL_law 4391 = .ok (.goto 1611, 3) := zd_dec hw68 (q := 39) rfl (by decide +kernel)
theorem dL_law_4379 : decode cL_law 4379 = .ok (.aload_n 3, 1) := zd_dec hw68 (q := 27) rfl (by decide +kernel)
theorem dL_law_4380 : decode cL_law 4380 = .ok (.iconst 0, 1) := zd_dec hw68 (q := 28) rfl (by decide +kernel)
theorem dL_law_4381 : decode cL_law 4381 = .ok (.laload, 1) := zd_dec hw68 (q := 29) rfl (by decide +kernel)
theorem dL_law_4382 : decode cL_law 4382 = .ok (.iload 6, 2) := zd_dec hw68 (q := 30) rfl (by decide +kernel)
theorem dL_law_4384 : decode cL_law 4384 = .ok (.i2l, 1) := zd_dec hw68 (q := 32) rfl (by decide +kernel)
theorem dL_law_4385 : decode cL_law 4385 = .ok (.lcmp, 1) := zd_dec hw68 (q := 33) rfl (by decide +kernel)
theorem dL_law_4386 : decode cL_law 4386 = .ok (.ifCond .eq 5, 3) := zd_dec hw68 (q := 34) rfl (by decide +kernel)
theorem dL_law_4389 : decode cL_law 4389 = .ok (.iconst 0, 1) := zd_dec hw68 (q := 37) rfl (by decide +kernel)
theorem dL_law_4390 : decode cL_law 4390 = .ok (.ireturn, 1) := zd_dec hw68 (q := 38) rfl (by decide +kernel)
theorem dL_law_4372 : decode cL_law 4372 = .ok (.iconst 0, 1) := zd_dec hw68 (q := 20) rfl (by decide +kernel)
theorem dL_law_4373 : decode cL_law 4373 = .ok (.ireturn, 1) := zd_dec hw68 (q := 21) rfl (by decide +kernel)
theorem dL_law_4394 : decode cL_law 4394 = .ok (.aload_n 1, 1) := zd_dec hw68 (q := 42) rfl (by decide +kernel)
theorem dL_law_4395 : decode cL_law 4395 = .ok (.aload_n 0, 1) := zd_dec hw68 (q := 43) rfl (by decide +kernel)
theorem dL_law_4396 : decode cL_law 4396 = .ok (.iload 4, 2) := zd_dec hw68 (q := 44) rfl (by decide +kernel)
theorem dL_law_4398 : decode cL_law 4398 = .ok (.iconst 1, 1) := zd_dec hw68 (q := 46) rfl (by decide +kernel)
theorem dL_law_4399 : decode cL_law 4399 = .ok (.iadd, 1) := zd_dec hw68 (q := 47) rfl (by decide +kernel)
theorem dL_law_4400 : decode cL_law 4400 = .ok (.iaload, 1) := zd_dec hw68 (q := 48) rfl (by decide +kernel)
theorem dL_law_4401 : decode cL_law 4401 = .ok (.aload_n 3, 1) := zd_dec hw68 (q := 49) rfl (by decide +kernel)
theorem dL_law_4402 : decode cL_law 4402 = .ok (.invokestatic 464, 3) := zd_dec hw68 (q := 50) rfl (by decide +kernel)
theorem dL_law_4405 : decode cL_law 4405 = .ok (.istore 5, 2) := zd_dec hw68 (q := 53) rfl (by decide +kernel)
theorem dL_law_4407 : decode cL_law 4407 = .ok (.aload_n 2, 1) := zd_dec hw68 (q := 55) rfl (by decide +kernel)
theorem dL_law_4408 : decode cL_law 4408 = .ok (.aload_n 0, 1) := zd_dec hw68 (q := 56) rfl (by decide +kernel)
theorem dL_law_4409 : decode cL_law 4409 = .ok (.iload 4, 2) := zd_dec hw68 (q := 57) rfl (by decide +kernel)
theorem dL_law_4411 : decode cL_law 4411 = .ok (.iconst 1, 1) := zd_dec hw68 (q := 59) rfl (by decide +kernel)
theorem dL_law_4412 : decode cL_law 4412 = .ok (.iadd, 1) := zd_dec hw68 (q := 60) rfl (by decide +kernel)
theorem dL_law_4413 : decode cL_law 4413 = .ok (.iaload, 1) := zd_dec hw68 (q := 61) rfl (by decide +kernel)
theorem dL_law_4414 : decode cL_law 4414 = .ok (.invokevirtual 466, 3) := zd_dec hw68 (q := 62) rfl (by decide +kernel)
theorem dL_law_4417 : decode cL_law 4417 = .ok (.istore 6, 2) := zd_dec hw69 (q := 1) rfl (by decide +kernel)
theorem dL_law_4419 : decode cL_law 4419 = .ok (.aload_n 2, 1) := zd_dec hw69 (q := 3) rfl (by decide +kernel)
theorem dL_law_4420 : decode cL_law 4420 = .ok (.invokevirtual 281, 3) := zd_dec hw69 (q := 4) rfl (by decide +kernel)
theorem dL_law_4423 : decode cL_law 4423 = .ok (.iload 5, 2) := zd_dec hw69 (q := 7) rfl (by decide +kernel)
theorem dL_law_4425 : decode cL_law 4425 = .ok (.if_icmp .eq 5, 3) := zd_dec hw69 (q := 9) rfl (by decide +kernel)
theorem dL_law_4430 : decode cL_law 4430 = .ok (.iload 5, 2) := zd_dec hw69 (q := 14) rfl (by decide +kernel)
theorem dL_law_4432 : decode cL_law 4432 = .ok (.ifCond .ne 15, 3) := zd_dec hw69 (q := 16) rfl (by decide +kernel)
theorem dL_law_4447 : decode cL_law 4447 = .ok (.goto 1555, 3) := zd_dec hw69 (q := 31) rfl (by decide +kernel)
theorem dL_law_4435 : decode cL_law 4435 = .ok (.aload_n 3, 1) := zd_dec hw69 (q := 19) rfl (by decide +kernel)
theorem dL_law_4436 : decode cL_law 4436 = .ok (.iconst 0, 1) := zd_dec hw69 (q := 20) rfl (by decide +kernel)
theorem dL_law_4437 : decode cL_law 4437 = .ok (.laload, 1) := zd_dec hw69 (q := 21) rfl (by decide +kernel)
theorem dL_law_4438 : decode cL_law 4438 = .ok (.iload 6, 2) := zd_dec hw69 (q := 22) rfl (by decide +kernel)
theorem dL_law_4440 : decode cL_law 4440 = .ok (.i2l, 1) := zd_dec hw69 (q := 24) rfl (by decide +kernel)
theorem dL_law_4441 : decode cL_law 4441 = .ok (.lcmp, 1) := zd_dec hw69 (q := 25) rfl (by decide +kernel)
theorem dL_law_4442 : decode cL_law 4442 = .ok (.ifCond .eq 5, 3) := zd_dec hw69 (q := 26) rfl (by decide +kernel)
theorem dL_law_4445 : decode cL_law 4445 = .ok (.iconst 0, 1) := zd_dec hw69 (q := 29) rfl (by decide +kernel)
theorem dL_law_4446 : decode cL_law 4446 = .ok (.ireturn, 1) := zd_dec hw69 (q := 30) rfl (by decide +kernel)
theorem dL_law_4428 : decode cL_law 4428 = .ok (.iconst 0, 1) := zd_dec hw69 (q := 12) rfl (by decide +kernel)
theorem dL_law_4429 : decode cL_law 4429 = .ok (.ireturn, 1) := zd_dec hw69 (q := 13) rfl (by decide +kernel)
theorem dL_law_4450 : decode cL_law 4450 = .ok (.aload_n 1, 1) := zd_dec hw69 (q := 34) rfl (by decide +kernel)
theorem dL_law_4451 : decode cL_law 4451 = .ok (.aload_n 3, 1) := zd_dec hw69 (q := 35) rfl (by decide +kernel)
theorem dL_law_4452 : decode cL_law 4452 = .ok (.invokestatic 467, 3) := zd_dec hw69 (q := 36) rfl (by decide +kernel)
theorem dL_law_4455 : decode cL_law 4455 = .ok (.istore 5, 2) := zd_dec hw69 (q := 39) rfl (by decide +kernel)
theorem dL_law_4457 : decode cL_law 4457 = .ok (.aload_n 2, 1) := zd_dec hw69 (q := 41) rfl (by decide +kernel)
theorem dL_law_4458 : decode cL_law 4458 = .ok (.invokevirtual 469, 3) := zd_dec hw69 (q := 42) rfl (by decide +kernel)
theorem dL_law_4461 : decode cL_law 4461 = .ok (.istore 6, 2) := zd_dec hw69 (q := 45) rfl (by decide +kernel)
theorem dL_law_4463 : decode cL_law 4463 = .ok (.aload_n 2, 1) := zd_dec hw69 (q := 47) rfl (by decide +kernel)
theorem dL_law_4464 : decode cL_law 4464 = .ok (.invokevirtual 281, 3) := zd_dec hw69 (q := 48) rfl (by decide +kernel)
theorem dL_law_4467 : decode cL_law 4467 = .ok (.iload 5, 2) := zd_dec hw69 (q := 51) rfl (by decide +kernel)
theorem dL_law_4469 : decode cL_law 4469 = .ok (.if_icmp .eq 5, 3) := zd_dec hw69 (q := 53) rfl (by decide +kernel)
theorem dL_law_4474 : decode cL_law 4474 = .ok (.iload 5, 2) := zd_dec hw69 (q := 58) rfl (by decide +kernel)
theorem dL_law_4476 : decode cL_law 4476 = .ok (.ifCond .ne 15, 3) := zd_dec hw69 (q := 60) rfl (by decide +kernel)
theorem dL_law_4491 : decode cL_law 4491 = .ok (.goto 1511, 3) := zd_dec hw70 (q := 11) rfl (by decide +kernel)
theorem dL_law_4479 : decode cL_law 4479 = .ok (.aload_n 3, 1) := zd_dec hw69 (q := 63) rfl (by decide +kernel)
theorem dL_law_4480 : decode cL_law 4480 = .ok (.iconst 0, 1) := zd_dec hw70 (q := 0) rfl (by decide +kernel)
theorem dL_law_4481 : decode cL_law 4481 = .ok (.laload, 1) := zd_dec hw70 (q := 1) rfl (by decide +kernel)
theorem dL_law_4482 : decode cL_law 4482 = .ok (.iload 6, 2) := zd_dec hw70 (q := 2) rfl (by decide +kernel)
theorem dL_law_4484 : decode cL_law 4484 = .ok (.i2l, 1) := zd_dec hw70 (q := 4) rfl (by decide +kernel)
theorem dL_law_4485 : decode cL_law 4485 = .ok (.lcmp, 1) := zd_dec hw70 (q := 5) rfl (by decide +kernel)
theorem dL_law_4486 : decode cL_law 4486 = .ok (.ifCond .eq 5, 3) := zd_dec hw70 (q := 6) rfl (by decide +kernel)
theorem dL_law_4489 : decode cL_law 4489 = .ok (.iconst 0, 1) := zd_dec hw70 (q := 9) rfl (by decide +kernel)
theorem dL_law_4490 : decode cL_law 4490 = .ok (.ireturn, 1) := zd_dec hw70 (q := 10) rfl (by decide +kernel)
theorem dL_law_4472 : decode cL_law 4472 = .ok (.iconst 0, 1) := zd_dec hw69 (q := 56) rfl (by decide +kernel)
theorem dL_law_4473 : decode cL_law 4473 = .ok (.ireturn, 1) := zd_dec hw69 (q := 57) rfl (by decide +kernel)
theorem dL_law_4494 : decode cL_law 4494 = .ok (.aload_n 1, 1) := zd_dec hw70 (q := 14) rfl (by decide +kernel)
theorem dL_law_4495 : decode cL_law 4495 = .ok (.aload_n 0, 1) := zd_dec hw70 (q := 15) rfl (by decide +kernel)
theorem dL_law_4496 : decode cL_law 4496 = .ok (.iload 4, 2) := zd_dec hw70 (q := 16) rfl (by decide +kernel)
theorem dL_law_4498 : decode cL_law 4498 = .ok (.iconst 1, 1) := zd_dec hw70 (q := 18) rfl (by decide +kernel)
theorem dL_law_4499 : decode cL_law 4499 = .ok (.iadd, 1) := zd_dec hw70 (q := 19) rfl (by decide +kernel)
theorem dL_law_4500 : decode cL_law 4500 = .ok (.iaload, 1) := zd_dec hw70 (q := 20) rfl (by decide +kernel)
theorem dL_law_4501 : decode cL_law 4501 = .ok (.aload_n 0, 1) := zd_dec hw70 (q := 21) rfl (by decide +kernel)
theorem dL_law_4502 : decode cL_law 4502 = .ok (.iload 4, 2) := zd_dec hw70 (q := 22) rfl (by decide +kernel)
theorem dL_law_4504 : decode cL_law 4504 = .ok (.iconst 2, 1) := zd_dec hw70 (q := 24) rfl (by decide +kernel)
theorem dL_law_4505 : decode cL_law 4505 = .ok (.iadd, 1) := zd_dec hw70 (q := 25) rfl (by decide +kernel)
theorem dL_law_4506 : decode cL_law 4506 = .ok (.iaload, 1) := zd_dec hw70 (q := 26) rfl (by decide +kernel)
theorem dL_law_4507 : decode cL_law 4507 = .ok (.aload_n 3, 1) := zd_dec hw70 (q := 27) rfl (by decide +kernel)
theorem dL_law_4508 : decode cL_law 4508 = .ok (.invokestatic 470, 3) := zd_dec hw70 (q := 28) rfl (by decide +kernel)
theorem dL_law_4511 : decode cL_law 4511 = .ok (.istore 5, 2) := zd_dec hw70 (q := 31) rfl (by decide +kernel)
theorem dL_law_4513 : decode cL_law 4513 = .ok (.aload_n 2, 1) := zd_dec hw70 (q := 33) rfl (by decide +kernel)
theorem dL_law_4514 : decode cL_law 4514 = .ok (.aload_n 0, 1) := zd_dec hw70 (q := 34) rfl (by decide +kernel)
theorem dL_law_4515 : decode cL_law 4515 = .ok (.iload 4, 2) := zd_dec hw70 (q := 35) rfl (by decide +kernel)
theorem dL_law_4517 : decode cL_law 4517 = .ok (.iconst 1, 1) := zd_dec hw70 (q := 37) rfl (by decide +kernel)
theorem dL_law_4518 : decode cL_law 4518 = .ok (.iadd, 1) := zd_dec hw70 (q := 38) rfl (by decide +kernel)
theorem dL_law_4519 : decode cL_law 4519 = .ok (.iaload, 1) := zd_dec hw70 (q := 39) rfl (by decide +kernel)
theorem dL_law_4520 : decode cL_law 4520 = .ok (.aload_n 0, 1) := zd_dec hw70 (q := 40) rfl (by decide +kernel)
theorem dL_law_4521 : decode cL_law 4521 = .ok (.iload 4, 2) := zd_dec hw70 (q := 41) rfl (by decide +kernel)
theorem dL_law_4523 : decode cL_law 4523 = .ok (.iconst 2, 1) := zd_dec hw70 (q := 43) rfl (by decide +kernel)
theorem dL_law_4524 : decode cL_law 4524 = .ok (.iadd, 1) := zd_dec hw70 (q := 44) rfl (by decide +kernel)
theorem dL_law_4525 : decode cL_law 4525 = .ok (.iaload, 1) := zd_dec hw70 (q := 45) rfl (by decide +kernel)
theorem dL_law_4526 : decode cL_law 4526 = .ok (.invokevirtual 472, 3) := zd_dec hw70 (q := 46) rfl (by decide +kernel)
theorem dL_law_4529 : decode cL_law 4529 = .ok (.istore 6, 2) := zd_dec hw70 (q := 49) rfl (by decide +kernel)
theorem dL_law_4531 : decode cL_law 4531 = .ok (.aload_n 2, 1) := zd_dec hw70 (q := 51) rfl (by decide +kernel)
theorem dL_law_4532 : decode cL_law 4532 = .ok (.invokevirtual 281, 3) := zd_dec hw70 (q := 52) rfl (by decide +kernel)
theorem dL_law_4535 : decode cL_law 4535 = .ok (.iload 5, 2) := zd_dec hw70 (q := 55) rfl (by decide +kernel)
theorem dL_law_4537 : decode cL_law 4537 = .ok (.if_icmp .eq 5, 3) := zd_dec hw70 (q := 57) rfl (by decide +kernel)
theorem dL_law_4542 : decode cL_law 4542 = .ok (.iload 5, 2) := zd_dec hw70 (q := 62) rfl (by decide +kernel)
theorem dL_law_4544 : decode cL_law 4544 = .ok (.ifCond .ne 15, 3) := zd_dec hw71 (q := 0) rfl (by decide +kernel)
theorem dL_law_4559 : decode cL_law 4559 = .ok (.goto 1443, 3) := zd_dec hw71 (q := 15) rfl (by decide +kernel)
theorem dL_law_4547 : decode cL_law 4547 = .ok (.aload_n 3, 1) := zd_dec hw71 (q := 3) rfl (by decide +kernel)
theorem dL_law_4548 : decode cL_law 4548 = .ok (.iconst 0, 1) := zd_dec hw71 (q := 4) rfl (by decide +kernel)
theorem dL_law_4549 : decode cL_law 4549 = .ok (.laload, 1) := zd_dec hw71 (q := 5) rfl (by decide +kernel)
theorem dL_law_4550 : decode cL_law 4550 = .ok (.iload 6, 2) := zd_dec hw71 (q := 6) rfl (by decide +kernel)
theorem dL_law_4552 : decode cL_law 4552 = .ok (.i2l, 1) := zd_dec hw71 (q := 8) rfl (by decide +kernel)
theorem dL_law_4553 : decode cL_law 4553 = .ok (.lcmp, 1) := zd_dec hw71 (q := 9) rfl (by decide +kernel)
theorem dL_law_4554 : decode cL_law 4554 = .ok (.ifCond .eq 5, 3) := zd_dec hw71 (q := 10) rfl (by decide +kernel)
theorem dL_law_4557 : decode cL_law 4557 = .ok (.iconst 0, 1) := zd_dec hw71 (q := 13) rfl (by decide +kernel)
theorem dL_law_4558 : decode cL_law 4558 = .ok (.ireturn, 1) := zd_dec hw71 (q := 14) rfl (by decide +kernel)
theorem dL_law_4540 : decode cL_law 4540 = .ok (.iconst 0, 1) := zd_dec hw70 (q := 60) rfl (by decide +kernel)
theorem dL_law_4541 : decode cL_law 4541 = .ok (.ireturn, 1) := zd_dec hw70 (q := 61) rfl (by decide +kernel)
theorem dL_law_4562 : decode cL_law 4562 = .ok (.aload_n 1, 1) := zd_dec hw71 (q := 18) rfl (by decide +kernel)
theorem dL_law_4563 : decode cL_law 4563 = .ok (.aload_n 0, 1) := zd_dec hw71 (q := 19) rfl (by decide +kernel)
theorem dL_law_4564 : decode cL_law 4564 = .ok (.iload 4, 2) := zd_dec hw71 (q := 20) rfl (by decide +kernel)
theorem dL_law_4566 : decode cL_law 4566 = .ok (.iconst 1, 1) := zd_dec hw71 (q := 22) rfl (by decide +kernel)
theorem dL_law_4567 : decode cL_law 4567 = .ok (.iadd, 1) := zd_dec hw71 (q := 23) rfl (by decide +kernel)
theorem dL_law_4568 : decode cL_law 4568 = .ok (.iaload, 1) := zd_dec hw71 (q := 24) rfl (by decide +kernel)
theorem dL_law_4569 : decode cL_law 4569 = .ok (.aload_n 3, 1) := zd_dec hw71 (q := 25) rfl (by decide +kernel)
theorem dL_law_4570 : decode cL_law 4570 = .ok (.invokestatic 473, 3) := zd_dec hw71 (q := 26) rfl (by decide +kernel)
theorem dL_law_4573 : decode cL_law 4573 = .ok (.istore 5, 2) := zd_dec hw71 (q := 29) rfl (by decide +kernel)
theorem dL_law_4575 : decode cL_law 4575 = .ok (.aload_n 2, 1) := zd_dec hw71 (q := 31) rfl (by decide +kernel)
theorem dL_law_4576 : decode cL_law 4576 = .ok (.aload_n 0, 1) := zd_dec hw71 (q := 32) rfl (by decide +kernel)
theorem dL_law_4577 : decode cL_law 4577 = .ok (.iload 4, 2) := zd_dec hw71 (q := 33) rfl (by decide +kernel)
theorem dL_law_4579 : decode cL_law 4579 = .ok (.iconst 1, 1) := zd_dec hw71 (q := 35) rfl (by decide +kernel)
theorem dL_law_4580 : decode cL_law 4580 = .ok (.iadd, 1) := zd_dec hw71 (q := 36) rfl (by decide +kernel)
theorem dL_law_4581 : decode cL_law 4581 = .ok (.iaload, 1) := zd_dec hw71 (q := 37) rfl (by decide +kernel)
theorem dL_law_4582 : decode cL_law 4582 = .ok (.invokevirtual 475, 3) := zd_dec hw71 (q := 38) rfl (by decide +kernel)
theorem dL_law_4585 : decode cL_law 4585 = .ok (.istore 6, 2) := zd_dec hw71 (q := 41) rfl (by decide +kernel)
theorem dL_law_4587 : decode cL_law 4587 = .ok (.aload_n 2, 1) := zd_dec hw71 (q := 43) rfl (by decide +kernel)
theorem dL_law_4588 : decode cL_law 4588 = .ok (.invokevirtual 281, 3) := zd_dec hw71 (q := 44) rfl (by decide +kernel)
theorem dL_law_4591 : decode cL_law 4591 = .ok (.iload 5, 2) := zd_dec hw71 (q := 47) rfl (by decide +kernel)
theorem dL_law_4593 : decode cL_law 4593 = .ok (.if_icmp .eq 5, 3) := zd_dec hw71 (q := 49) rfl (by decide +kernel)
theorem dL_law_4598 : decode cL_law 4598 = .ok (.iload 5, 2) := zd_dec hw71 (q := 54) rfl (by decide +kernel)
theorem dL_law_4600 : decode cL_law 4600 = .ok (.ifCond .ne 15, 3) := zd_dec hw71 (q := 56) rfl (by decide +kernel)
theorem dL_law_4615 : decode cL_law 4615 = .ok (.goto 1387, 3) := zd_dec hw72 (q := 7) rfl (by decide +kernel)
theorem dL_law_4603 : decode cL_law 4603 = .ok (.aload_n 3, 1) := zd_dec hw71 (q := 59) rfl (by decide +kernel)
theorem dL_law_4604 : decode cL_law 4604 = .ok (.iconst 0, 1) := zd_dec hw71 (q := 60) rfl (by decide +kernel)
theorem dL_law_4605 : decode cL_law 4605 = .ok (.laload, 1) := zd_dec hw71 (q := 61) rfl (by decide +kernel)
theorem dL_law_4606 : decode cL_law 4606 = .ok (.iload 6, 2) := zd_dec hw71 (q := 62) rfl (by decide +kernel)
theorem dL_law_4608 : decode cL_law 4608 = .ok (.i2l, 1) := zd_dec hw72 (q := 0) rfl (by decide +kernel)
theorem dL_law_4609 : decode cL_law 4609 = .ok (.lcmp, 1) := zd_dec hw72 (q := 1) rfl (by decide +kernel)
theorem dL_law_4610 : decode cL_law 4610 = .ok (.ifCond .eq 5, 3) := zd_dec hw72 (q := 2) rfl (by decide +kernel)
theorem dL_law_4613 : decode cL_law 4613 = .ok (.iconst 0, 1) := zd_dec hw72 (q := 5) rfl (by decide +kernel)
theorem dL_law_4614 : decode cL_law 4614 = .ok (.ireturn, 1) := zd_dec hw72 (q := 6) rfl (by decide +kernel)
theorem dL_law_4596 : decode cL_law 4596 = .ok (.iconst 0, 1) := zd_dec hw71 (q := 52) rfl (by decide +kernel)
theorem dL_law_4597 : decode cL_law 4597 = .ok (.ireturn, 1) := zd_dec hw71 (q := 53) rfl (by decide +kernel)
theorem dL_law_4618 : decode cL_law 4618 = .ok (.aload_n 1, 1) := zd_dec hw72 (q := 10) rfl (by decide +kernel)
theorem dL_law_4619 : decode cL_law 4619 = .ok (.aload_n 0, 1) := zd_dec hw72 (q := 11) rfl (by decide +kernel)
theorem dL_law_4620 : decode cL_law 4620 = .ok (.iload 4, 2) := zd_dec hw72 (q := 12) rfl (by decide +kernel)
theorem dL_law_4622 : decode cL_law 4622 = .ok (.iconst 1, 1) := zd_dec hw72 (q := 14) rfl (by decide +kernel)
theorem dL_law_4623 : decode cL_law 4623 = .ok (.iadd, 1) := zd_dec hw72 (q := 15) rfl (by decide +kernel)
theorem dL_law_4624 : decode cL_law 4624 = .ok (.iaload, 1) := zd_dec hw72 (q := 16) rfl (by decide +kernel)
theorem dL_law_4625 : decode cL_law 4625 = .ok (.aload_n 0, 1) := zd_dec hw72 (q := 17) rfl (by decide +kernel)
theorem dL_law_4626 : decode cL_law 4626 = .ok (.iload 4, 2) := zd_dec hw72 (q := 18) rfl (by decide +kernel)
theorem dL_law_4628 : decode cL_law 4628 = .ok (.iconst 2, 1) := zd_dec hw72 (q := 20) rfl (by decide +kernel)
theorem dL_law_4629 : decode cL_law 4629 = .ok (.iadd, 1) := zd_dec hw72 (q := 21) rfl (by decide +kernel)
theorem dL_law_4630 : decode cL_law 4630 = .ok (.iaload, 1) := zd_dec hw72 (q := 22) rfl (by decide +kernel)
theorem dL_law_4631 : decode cL_law 4631 = .ok (.aload_n 3, 1) := zd_dec hw72 (q := 23) rfl (by decide +kernel)
theorem dL_law_4632 : decode cL_law 4632 = .ok (.invokestatic 476, 3) := zd_dec hw72 (q := 24) rfl (by decide +kernel)
theorem dL_law_4635 : decode cL_law 4635 = .ok (.istore 5, 2) := zd_dec hw72 (q := 27) rfl (by decide +kernel)
theorem dL_law_4637 : decode cL_law 4637 = .ok (.aload_n 2, 1) := zd_dec hw72 (q := 29) rfl (by decide +kernel)
theorem dL_law_4638 : decode cL_law 4638 = .ok (.aload_n 0, 1) := zd_dec hw72 (q := 30) rfl (by decide +kernel)
theorem dL_law_4639 : decode cL_law 4639 = .ok (.iload 4, 2) := zd_dec hw72 (q := 31) rfl (by decide +kernel)
theorem dL_law_4641 : decode cL_law 4641 = .ok (.iconst 1, 1) := zd_dec hw72 (q := 33) rfl (by decide +kernel)
theorem dL_law_4642 : decode cL_law 4642 = .ok (.iadd, 1) := zd_dec hw72 (q := 34) rfl (by decide +kernel)
theorem dL_law_4643 : decode cL_law 4643 = .ok (.iaload, 1) := zd_dec hw72 (q := 35) rfl (by decide +kernel)
theorem dL_law_4644 : decode cL_law 4644 = .ok (.aload_n 0, 1) := zd_dec hw72 (q := 36) rfl (by decide +kernel)
theorem dL_law_4645 : decode cL_law 4645 = .ok (.iload 4, 2) := zd_dec hw72 (q := 37) rfl (by decide +kernel)
theorem dL_law_4647 : decode cL_law 4647 = .ok (.iconst 2, 1) := zd_dec hw72 (q := 39) rfl (by decide +kernel)
theorem dL_law_4648 : decode cL_law 4648 = .ok (.iadd, 1) := zd_dec hw72 (q := 40) rfl (by decide +kernel)
theorem dL_law_4649 : decode cL_law 4649 = .ok (.iaload, 1) := zd_dec hw72 (q := 41) rfl (by decide +kernel)
theorem dL_law_4650 : decode cL_law 4650 = .ok (.invokevirtual 478, 3) := zd_dec hw72 (q := 42) rfl (by decide +kernel)
theorem dL_law_4653 : decode cL_law 4653 = .ok (.istore 6, 2) := zd_dec hw72 (q := 45) rfl (by decide +kernel)
theorem dL_law_4655 : decode cL_law 4655 = .ok (.aload_n 2, 1) := zd_dec hw72 (q := 47) rfl (by decide +kernel)
theorem dL_law_4656 : decode cL_law 4656 = .ok (.invokevirtual 281, 3) := zd_dec hw72 (q := 48) rfl (by decide +kernel)
theorem dL_law_4659 : decode cL_law 4659 = .ok (.iload 5, 2) := zd_dec hw72 (q := 51) rfl (by decide +kernel)
theorem dL_law_4661 : decode cL_law 4661 = .ok (.if_icmp .eq 5, 3) := zd_dec hw72 (q := 53) rfl (by decide +kernel)
theorem dL_law_4666 : decode cL_law 4666 = .ok (.iload 5, 2) := zd_dec hw72 (q := 58) rfl (by decide +kernel)
theorem dL_law_4668 : decode cL_law 4668 = .ok (.ifCond .ne 15, 3) := zd_dec hw72 (q := 60) rfl (by decide +kernel)
theorem dL_law_4683 : decode cL_law 4683 = .ok (.goto 1319, 3) := zd_dec hw73 (q := 11) rfl (by decide +kernel)
theorem dL_law_4671 : decode cL_law 4671 = .ok (.aload_n 3, 1) := zd_dec hw72 (q := 63) rfl (by decide +kernel)
theorem dL_law_4672 : decode cL_law 4672 = .ok (.iconst 0, 1) := zd_dec hw73 (q := 0) rfl (by decide +kernel)
theorem dL_law_4673 : decode cL_law 4673 = .ok (.laload, 1) := zd_dec hw73 (q := 1) rfl (by decide +kernel)
theorem dL_law_4674 : decode cL_law 4674 = .ok (.iload 6, 2) := zd_dec hw73 (q := 2) rfl (by decide +kernel)
theorem dL_law_4676 : decode cL_law 4676 = .ok (.i2l, 1) := zd_dec hw73 (q := 4) rfl (by decide +kernel)
theorem dL_law_4677 : decode cL_law 4677 = .ok (.lcmp, 1) := zd_dec hw73 (q := 5) rfl (by decide +kernel)
theorem dL_law_4678 : decode cL_law 4678 = .ok (.ifCond .eq 5, 3) := zd_dec hw73 (q := 6) rfl (by decide +kernel)
theorem dL_law_4681 : decode cL_law 4681 = .ok (.iconst 0, 1) := zd_dec hw73 (q := 9) rfl (by decide +kernel)
theorem dL_law_4682 : decode cL_law 4682 = .ok (.ireturn, 1) := zd_dec hw73 (q := 10) rfl (by decide +kernel)
theorem dL_law_4664 : decode cL_law 4664 = .ok (.iconst 0, 1) := zd_dec hw72 (q := 56) rfl (by decide +kernel)
theorem dL_law_4665 : decode cL_law 4665 = .ok (.ireturn, 1) := zd_dec hw72 (q := 57) rfl (by decide +kernel)
theorem dL_law_4686 : decode cL_law 4686 = .ok (.aload_n 1, 1) := zd_dec hw73 (q := 14) rfl (by decide +kernel)
theorem dL_law_4687 : decode cL_law 4687 = .ok (.aload_n 0, 1) := zd_dec hw73 (q := 15) rfl (by decide +kernel)
theorem dL_law_4688 : decode cL_law 4688 = .ok (.iload 4, 2) := zd_dec hw73 (q := 16) rfl (by decide +kernel)
theorem dL_law_4690 : decode cL_law 4690 = .ok (.iconst 1, 1) := zd_dec hw73 (q := 18) rfl (by decide +kernel)
theorem dL_law_4691 : decode cL_law 4691 = .ok (.iadd, 1) := zd_dec hw73 (q := 19) rfl (by decide +kernel)
theorem dL_law_4692 : decode cL_law 4692 = .ok (.iaload, 1) := zd_dec hw73 (q := 20) rfl (by decide +kernel)
theorem dL_law_4693 : decode cL_law 4693 = .ok (.aload_n 0, 1) := zd_dec hw73 (q := 21) rfl (by decide +kernel)
theorem dL_law_4694 : decode cL_law 4694 = .ok (.iload 4, 2) := zd_dec hw73 (q := 22) rfl (by decide +kernel)
theorem dL_law_4696 : decode cL_law 4696 = .ok (.iconst 2, 1) := zd_dec hw73 (q := 24) rfl (by decide +kernel)
theorem dL_law_4697 : decode cL_law 4697 = .ok (.iadd, 1) := zd_dec hw73 (q := 25) rfl (by decide +kernel)
theorem dL_law_4698 : decode cL_law 4698 = .ok (.iaload, 1) := zd_dec hw73 (q := 26) rfl (by decide +kernel)
theorem dL_law_4699 : decode cL_law 4699 = .ok (.aload_n 0, 1) := zd_dec hw73 (q := 27) rfl (by decide +kernel)
theorem dL_law_4700 : decode cL_law 4700 = .ok (.iload 4, 2) := zd_dec hw73 (q := 28) rfl (by decide +kernel)
theorem dL_law_4702 : decode cL_law 4702 = .ok (.iconst 3, 1) := zd_dec hw73 (q := 30) rfl (by decide +kernel)
theorem dL_law_4703 : decode cL_law 4703 = .ok (.iadd, 1) := zd_dec hw73 (q := 31) rfl (by decide +kernel)
theorem dL_law_4704 : decode cL_law 4704 = .ok (.iaload, 1) := zd_dec hw73 (q := 32) rfl (by decide +kernel)
theorem dL_law_4705 : decode cL_law 4705 = .ok (.ifCond .eq 7, 3) := zd_dec hw73 (q := 33) rfl (by decide +kernel)
theorem dL_law_4712 : decode cL_law 4712 = .ok (.iconst 0, 1) := zd_dec hw73 (q := 40) rfl (by decide +kernel)
theorem dL_law_4713 : decode cL_law 4713 = .ok (.aload_n 3, 1) := zd_dec hw73 (q := 41) rfl (by decide +kernel)
theorem dL_law_4714 : decode cL_law 4714 = .ok (.invokestatic 479, 3) := zd_dec hw73 (q := 42) rfl (by decide +kernel)
theorem dL_law_4717 : decode cL_law 4717 = .ok (.istore 5, 2) := zd_dec hw73 (q := 45) rfl (by decide +kernel)
theorem dL_law_4719 : decode cL_law 4719 = .ok (.aload_n 2, 1) := zd_dec hw73 (q := 47) rfl (by decide +kernel)
theorem dL_law_4720 : decode cL_law 4720 = .ok (.aload_n 0, 1) := zd_dec hw73 (q := 48) rfl (by decide +kernel)
theorem dL_law_4721 : decode cL_law 4721 = .ok (.iload 4, 2) := zd_dec hw73 (q := 49) rfl (by decide +kernel)
theorem dL_law_4723 : decode cL_law 4723 = .ok (.iconst 1, 1) := zd_dec hw73 (q := 51) rfl (by decide +kernel)
theorem dL_law_4724 : decode cL_law 4724 = .ok (.iadd, 1) := zd_dec hw73 (q := 52) rfl (by decide +kernel)
theorem dL_law_4725 : decode cL_law 4725 = .ok (.iaload, 1) := zd_dec hw73 (q := 53) rfl (by decide +kernel)
theorem dL_law_4726 : decode cL_law 4726 = .ok (.aload_n 0, 1) := zd_dec hw73 (q := 54) rfl (by decide +kernel)
theorem dL_law_4727 : decode cL_law 4727 = .ok (.iload 4, 2) := zd_dec hw73 (q := 55) rfl (by decide +kernel)
theorem dL_law_4729 : decode cL_law 4729 = .ok (.iconst 2, 1) := zd_dec hw73 (q := 57) rfl (by decide +kernel)
theorem dL_law_4730 : decode cL_law 4730 = .ok (.iadd, 1) := zd_dec hw73 (q := 58) rfl (by decide +kernel)
theorem dL_law_4731 : decode cL_law 4731 = .ok (.iaload, 1) := zd_dec hw73 (q := 59) rfl (by decide +kernel)
theorem dL_law_4732 : decode cL_law 4732 = .ok (.aload_n 0, 1) := zd_dec hw73 (q := 60) rfl (by decide +kernel)
theorem dL_law_4733 : decode cL_law 4733 = .ok (.iload 4, 2) := zd_dec hw73 (q := 61) rfl (by decide +kernel)
theorem dL_law_4735 : decode cL_law 4735 = .ok (.iconst 3, 1) := zd_dec hw73 (q := 63) rfl (by decide +kernel)
theorem dL_law_4736 : decode cL_law 4736 = .ok (.iadd, 1) := zd_dec hw74 (q := 0) rfl (by decide +kernel)
theorem dL_law_4737 : decode cL_law 4737 = .ok (.iaload, 1) := zd_dec hw74 (q := 1) rfl (by decide +kernel)
theorem dL_law_4738 : decode cL_law 4738 = .ok (.ifCond .eq 7, 3) := zd_dec hw74 (q := 2) rfl (by decide +kernel)
theorem dL_law_4745 : decode cL_law 4745 = .ok (.iconst 0, 1) := zd_dec hw74 (q := 9) rfl (by decide +kernel)
theorem dL_law_4746 : decode cL_law 4746 = .ok (.invokevirtual 481, 3) := zd_dec hw74 (q := 10) rfl (by decide +kernel)
theorem dL_law_4749 : decode cL_law 4749 = .ok (.istore 6, 2) := zd_dec hw74 (q := 13) rfl (by decide +kernel)
theorem dL_law_4751 : decode cL_law 4751 = .ok (.aload_n 2, 1) := zd_dec hw74 (q := 15) rfl (by decide +kernel)
theorem dL_law_4752 : decode cL_law 4752 = .ok (.invokevirtual 281, 3) := zd_dec hw74 (q := 16) rfl (by decide +kernel)
theorem dL_law_4755 : decode cL_law 4755 = .ok (.iload 5, 2) := zd_dec hw74 (q := 19) rfl (by decide +kernel)
theorem dL_law_4757 : decode cL_law 4757 = .ok (.if_icmp .eq 5, 3) := zd_dec hw74 (q := 21) rfl (by decide +kernel)
theorem dL_law_4762 : decode cL_law 4762 = .ok (.iload 5, 2) := zd_dec hw74 (q := 26) rfl (by decide +kernel)
theorem dL_law_4764 : decode cL_law 4764 = .ok (.ifCond .ne 22, 3) := zd_dec hw74 (q := 28) rfl (by decide +kernel)
theorem dL_law_4786 : decode cL_law 4786 = .ok (.goto 1216, 3) := zd_dec hw74 (q := 50) rfl (by decide +kernel)
theorem dL_law_4767 : decode cL_law 4767 = .ok (.aload_n 3, 1) := zd_dec hw74 (q := 31) rfl (by decide +kernel)
theorem dL_law_4768 : decode cL_law 4768 = .ok (.iconst 0, 1) := zd_dec hw74 (q := 32) rfl (by decide +kernel)
theorem dL_law_4769 : decode cL_law 4769 = .ok (.laload, 1) := zd_dec hw74 (q := 33) rfl (by decide +kernel)
theorem dL_law_4770 : decode cL_law 4770 = .ok (.iload 6, 2) := zd_dec hw74 (q := 34) rfl (by decide +kernel)
theorem dL_law_4772 : decode cL_law 4772 = .ok (.ifCond .eq 7, 3) := zd_dec hw74 (q := 36) rfl (by decide +kernel)
theorem dL_law_4779 : decode cL_law 4779 = .ok (.lconst 0, 1) := zd_dec hw74 (q := 43) rfl (by decide +kernel)
theorem dL_law_4780 : decode cL_law 4780 = .ok (.lcmp, 1) := zd_dec hw74 (q := 44) rfl (by decide +kernel)
theorem dL_law_4781 : decode cL_law 4781 = .ok (.ifCond .eq 5, 3) := zd_dec hw74 (q := 45) rfl (by decide +kernel)
theorem dL_law_4784 : decode cL_law 4784 = .ok (.iconst 0, 1) := zd_dec hw74 (q := 48) rfl (by decide +kernel)
theorem dL_law_4785 : decode cL_law 4785 = .ok (.ireturn, 1) := zd_dec hw74 (q := 49) rfl (by decide +kernel)
theorem dL_law_4775 : decode cL_law 4775 = .ok (.lconst 1, 1) := zd_dec hw74 (q := 39) rfl (by decide +kernel)
theorem dL_law_4776 : decode cL_law 4776 = .ok (.goto 4, 3) := zd_dec hw74 (q := 40) rfl (by decide +kernel)
theorem dL_law_4760 : decode cL_law 4760 = .ok (.iconst 0, 1) := zd_dec hw74 (q := 24) rfl (by decide +kernel)
theorem dL_law_4761 : decode cL_law 4761 = .ok (.ireturn, 1) := zd_dec hw74 (q := 25) rfl (by decide +kernel)
theorem dL_law_4741 : decode cL_law 4741 = .ok (.iconst 1, 1) := zd_dec hw74 (q := 5) rfl (by decide +kernel)
theorem dL_law_4742 : decode cL_law 4742 = .ok (.goto 4, 3) := zd_dec hw74 (q := 6) rfl (by decide +kernel)
theorem dL_law_4708 : decode cL_law 4708 = .ok (.iconst 1, 1) := zd_dec hw73 (q := 36) rfl (by decide +kernel)
theorem dL_law_4709 : decode cL_law 4709 = .ok (.goto 4, 3) := zd_dec hw73 (q := 37) rfl (by decide +kernel)
theorem dL_law_4789 : decode cL_law 4789 = .ok (.aload_n 1, 1) := zd_dec hw74 (q := 53) rfl (by decide +kernel)
theorem dL_law_4790 : decode cL_law 4790 = .ok (.aload_n 0, 1) := zd_dec hw74 (q := 54) rfl (by decide +kernel)
theorem dL_law_4791 : decode cL_law 4791 = .ok (.iload 4, 2) := zd_dec hw74 (q := 55) rfl (by decide +kernel)
theorem dL_law_4793 : decode cL_law 4793 = .ok (.iconst 1, 1) := zd_dec hw74 (q := 57) rfl (by decide +kernel)
theorem dL_law_4794 : decode cL_law 4794 = .ok (.iadd, 1) := zd_dec hw74 (q := 58) rfl (by decide +kernel)
theorem dL_law_4795 : decode cL_law 4795 = .ok (.iaload, 1) := zd_dec hw74 (q := 59) rfl (by decide +kernel)
theorem dL_law_4796 : decode cL_law 4796 = .ok (.aload_n 0, 1) := zd_dec hw74 (q := 60) rfl (by decide +kernel)
theorem dL_law_4797 : decode cL_law 4797 = .ok (.iload 4, 2) := zd_dec hw74 (q := 61) rfl (by decide +kernel)
theorem dL_law_4799 : decode cL_law 4799 = .ok (.iconst 2, 1) := zd_dec hw74 (q := 63) rfl (by decide +kernel)
theorem dL_law_4800 : decode cL_law 4800 = .ok (.iadd, 1) := zd_dec hw75 (q := 0) rfl (by decide +kernel)
theorem dL_law_4801 : decode cL_law 4801 = .ok (.iaload, 1) := zd_dec hw75 (q := 1) rfl (by decide +kernel)
theorem dL_law_4802 : decode cL_law 4802 = .ok (.ifCond .eq 7, 3) := zd_dec hw75 (q := 2) rfl (by decide +kernel)
theorem dL_law_4809 : decode cL_law 4809 = .ok (.iconst 0, 1) := zd_dec hw75 (q := 9) rfl (by decide +kernel)
theorem dL_law_4810 : decode cL_law 4810 = .ok (.aload_n 3, 1) := zd_dec hw75 (q := 10) rfl (by decide +kernel)
theorem dL_law_4811 : decode cL_law 4811 = .ok (.invokestatic 482, 3) := zd_dec hw75 (q := 11) rfl (by decide +kernel)
theorem dL_law_4814 : decode cL_law 4814 = .ok (.istore 5, 2) := zd_dec hw75 (q := 14) rfl (by decide +kernel)
theorem dL_law_4816 : decode cL_law 4816 = .ok (.aload_n 2, 1) := zd_dec hw75 (q := 16) rfl (by decide +kernel)
theorem dL_law_4817 : decode cL_law 4817 = .ok (.aload_n 0, 1) := zd_dec hw75 (q := 17) rfl (by decide +kernel)
theorem dL_law_4818 : decode cL_law 4818 = .ok (.iload 4, 2) := zd_dec hw75 (q := 18) rfl (by decide +kernel)
theorem dL_law_4820 : decode cL_law 4820 = .ok (.iconst 1, 1) := zd_dec hw75 (q := 20) rfl (by decide +kernel)
theorem dL_law_4821 : decode cL_law 4821 = .ok (.iadd, 1) := zd_dec hw75 (q := 21) rfl (by decide +kernel)
theorem dL_law_4822 : decode cL_law 4822 = .ok (.iaload, 1) := zd_dec hw75 (q := 22) rfl (by decide +kernel)
theorem dL_law_4823 : decode cL_law 4823 = .ok (.aload_n 0, 1) := zd_dec hw75 (q := 23) rfl (by decide +kernel)
theorem dL_law_4824 : decode cL_law 4824 = .ok (.iload 4, 2) := zd_dec hw75 (q := 24) rfl (by decide +kernel)
theorem dL_law_4826 : decode cL_law 4826 = .ok (.iconst 2, 1) := zd_dec hw75 (q := 26) rfl (by decide +kernel)
theorem dL_law_4827 : decode cL_law 4827 = .ok (.iadd, 1) := zd_dec hw75 (q := 27) rfl (by decide +kernel)
theorem dL_law_4828 : decode cL_law 4828 = .ok (.iaload, 1) := zd_dec hw75 (q := 28) rfl (by decide +kernel)
theorem dL_law_4829 : decode cL_law 4829 = .ok (.ifCond .eq 7, 3) := zd_dec hw75 (q := 29) rfl (by decide +kernel)
theorem dL_law_4836 : decode cL_law 4836 = .ok (.iconst 0, 1) := zd_dec hw75 (q := 36) rfl (by decide +kernel)
theorem dL_law_4837 : decode cL_law 4837 = .ok (.invokevirtual 484, 3) := zd_dec hw75 (q := 37) rfl (by decide +kernel)
theorem dL_law_4840 : decode cL_law 4840 = .ok (.istore 6, 2) := zd_dec hw75 (q := 40) rfl (by decide +kernel)
theorem dL_law_4842 : decode cL_law 4842 = .ok (.aload_n 2, 1) := zd_dec hw75 (q := 42) rfl (by decide +kernel)
theorem dL_law_4843 : decode cL_law 4843 = .ok (.invokevirtual 281, 3) := zd_dec hw75 (q := 43) rfl (by decide +kernel)
theorem dL_law_4846 : decode cL_law 4846 = .ok (.iload 5, 2) := zd_dec hw75 (q := 46) rfl (by decide +kernel)
theorem dL_law_4848 : decode cL_law 4848 = .ok (.if_icmp .eq 5, 3) := zd_dec hw75 (q := 48) rfl (by decide +kernel)
theorem dL_law_4853 : decode cL_law 4853 = .ok (.iload 5, 2) := zd_dec hw75 (q := 53) rfl (by decide +kernel)
theorem dL_law_4855 : decode cL_law 4855 = .ok (.ifCond .ne 22, 3) := zd_dec hw75 (q := 55) rfl (by decide +kernel)
theorem dL_law_4877 : decode cL_law 4877 = .ok (.goto 1125, 3) := zd_dec hw76 (q := 13) rfl (by decide +kernel)
theorem dL_law_4858 : decode cL_law 4858 = .ok (.aload_n 3, 1) := zd_dec hw75 (q := 58) rfl (by decide +kernel)
theorem dL_law_4859 : decode cL_law 4859 = .ok (.iconst 0, 1) := zd_dec hw75 (q := 59) rfl (by decide +kernel)
theorem dL_law_4860 : decode cL_law 4860 = .ok (.laload, 1) := zd_dec hw75 (q := 60) rfl (by decide +kernel)
theorem dL_law_4861 : decode cL_law 4861 = .ok (.iload 6, 2) := zd_dec hw75 (q := 61) rfl (by decide +kernel)
theorem dL_law_4863 : decode cL_law 4863 = .ok (.ifCond .eq 7, 3) := zd_dec hw75 (q := 63) rfl (by decide +kernel)
theorem dL_law_4870 : decode cL_law 4870 = .ok (.lconst 0, 1) := zd_dec hw76 (q := 6) rfl (by decide +kernel)
theorem dL_law_4871 : decode cL_law 4871 = .ok (.lcmp, 1) := zd_dec hw76 (q := 7) rfl (by decide +kernel)
theorem dL_law_4872 : decode cL_law 4872 = .ok (.ifCond .eq 5, 3) := zd_dec hw76 (q := 8) rfl (by decide +kernel)
theorem dL_law_4875 : decode cL_law 4875 = .ok (.iconst 0, 1) := zd_dec hw76 (q := 11) rfl (by decide +kernel)
theorem dL_law_4876 : decode cL_law 4876 = .ok (.ireturn, 1) := zd_dec hw76 (q := 12) rfl (by decide +kernel)
theorem dL_law_4866 : decode cL_law 4866 = .ok (.lconst 1, 1) := zd_dec hw76 (q := 2) rfl (by decide +kernel)
theorem dL_law_4867 : decode cL_law 4867 = .ok (.goto 4, 3) := zd_dec hw76 (q := 3) rfl (by decide +kernel)
theorem dL_law_4851 : decode cL_law 4851 = .ok (.iconst 0, 1) := zd_dec hw75 (q := 51) rfl (by decide +kernel)
theorem dL_law_4852 : decode cL_law 4852 = .ok (.ireturn, 1) := zd_dec hw75 (q := 52) rfl (by decide +kernel)
theorem dL_law_4832 : decode cL_law 4832 = .ok (.iconst 1, 1) := zd_dec hw75 (q := 32) rfl (by decide +kernel)
theorem dL_law_4833 : decode cL_law 4833 = .ok (.goto 4, 3) := zd_dec hw75 (q := 33) rfl (by decide +kernel)
theorem dL_law_4805 : decode cL_law 4805 = .ok (.iconst 1, 1) := zd_dec hw75 (q := 5) rfl (by decide +kernel)
theorem dL_law_4806 : decode cL_law 4806 = .ok (.goto 4, 3) := zd_dec hw75 (q := 6) rfl (by decide +kernel)
theorem dL_law_4880 : decode cL_law 4880 = .ok (.aload_n 1, 1) := zd_dec hw76 (q := 16) rfl (by decide +kernel)
theorem dL_law_4881 : decode cL_law 4881 = .ok (.aload_n 0, 1) := zd_dec hw76 (q := 17) rfl (by decide +kernel)
theorem dL_law_4882 : decode cL_law 4882 = .ok (.iload 4, 2) := zd_dec hw76 (q := 18) rfl (by decide +kernel)
theorem dL_law_4884 : decode cL_law 4884 = .ok (.iconst 1, 1) := zd_dec hw76 (q := 20) rfl (by decide +kernel)
theorem dL_law_4885 : decode cL_law 4885 = .ok (.iadd, 1) := zd_dec hw76 (q := 21) rfl (by decide +kernel)
theorem dL_law_4886 : decode cL_law 4886 = .ok (.iaload, 1) := zd_dec hw76 (q := 22) rfl (by decide +kernel)
theorem dL_law_4887 : decode cL_law 4887 = .ok (.aload_n 0, 1) := zd_dec hw76 (q := 23) rfl (by decide +kernel)
theorem dL_law_4888 : decode cL_law 4888 = .ok (.iload 4, 2) := zd_dec hw76 (q := 24) rfl (by decide +kernel)
theorem dL_law_4890 : decode cL_law 4890 = .ok (.iconst 2, 1) := zd_dec hw76 (q := 26) rfl (by decide +kernel)
theorem dL_law_4891 : decode cL_law 4891 = .ok (.iadd, 1) := zd_dec hw76 (q := 27) rfl (by decide +kernel)
theorem dL_law_4892 : decode cL_law 4892 = .ok (.iaload, 1) := zd_dec hw76 (q := 28) rfl (by decide +kernel)
theorem dL_law_4893 : decode cL_law 4893 = .ok (.aload_n 0, 1) := zd_dec hw76 (q := 29) rfl (by decide +kernel)
theorem dL_law_4894 : decode cL_law 4894 = .ok (.iload 4, 2) := zd_dec hw76 (q := 30) rfl (by decide +kernel)
theorem dL_law_4896 : decode cL_law 4896 = .ok (.iconst 3, 1) := zd_dec hw76 (q := 32) rfl (by decide +kernel)
theorem dL_law_4897 : decode cL_law 4897 = .ok (.iadd, 1) := zd_dec hw76 (q := 33) rfl (by decide +kernel)
theorem dL_law_4898 : decode cL_law 4898 = .ok (.iaload, 1) := zd_dec hw76 (q := 34) rfl (by decide +kernel)
theorem dL_law_4899 : decode cL_law 4899 = .ok (.aload_n 0, 1) := zd_dec hw76 (q := 35) rfl (by decide +kernel)
theorem dL_law_4900 : decode cL_law 4900 = .ok (.iload 4, 2) := zd_dec hw76 (q := 36) rfl (by decide +kernel)
theorem dL_law_4902 : decode cL_law 4902 = .ok (.iconst 4, 1) := zd_dec hw76 (q := 38) rfl (by decide +kernel)
theorem dL_law_4903 : decode cL_law 4903 = .ok (.iadd, 1) := zd_dec hw76 (q := 39) rfl (by decide +kernel)
theorem dL_law_4904 : decode cL_law 4904 = .ok (.iaload, 1) := zd_dec hw76 (q := 40) rfl (by decide +kernel)
theorem dL_law_4905 : decode cL_law 4905 = .ok (.ifCond .eq 7, 3) := zd_dec hw76 (q := 41) rfl (by decide +kernel)
theorem dL_law_4912 : decode cL_law 4912 = .ok (.iconst 0, 1) := zd_dec hw76 (q := 48) rfl (by decide +kernel)
theorem dL_law_4913 : decode cL_law 4913 = .ok (.aload_n 0, 1) := zd_dec hw76 (q := 49) rfl (by decide +kernel)
theorem dL_law_4914 : decode cL_law 4914 = .ok (.iload 4, 2) := zd_dec hw76 (q := 50) rfl (by decide +kernel)
theorem dL_law_4916 : decode cL_law 4916 = .ok (.iconst 5, 1) := zd_dec hw76 (q := 52) rfl (by decide +kernel)
theorem dL_law_4917 : decode cL_law 4917 = .ok (.iadd, 1) := zd_dec hw76 (q := 53) rfl (by decide +kernel)
theorem dL_law_4918 : decode cL_law 4918 = .ok (.iaload, 1) := zd_dec hw76 (q := 54) rfl (by decide +kernel)
theorem dL_law_4919 : decode cL_law 4919 = .ok (.aload_n 0, 1) := zd_dec hw76 (q := 55) rfl (by decide +kernel)
theorem dL_law_4920 : decode cL_law 4920 = .ok (.iload 4, 2) := zd_dec hw76 (q := 56) rfl (by decide +kernel)
theorem dL_law_4922 : decode cL_law 4922 = .ok (.bipush 6, 2) := zd_dec hw76 (q := 58) rfl (by decide +kernel)
theorem dL_law_4924 : decode cL_law 4924 = .ok (.iadd, 1) := zd_dec hw76 (q := 60) rfl (by decide +kernel)
theorem dL_law_4925 : decode cL_law 4925 = .ok (.iaload, 1) := zd_dec hw76 (q := 61) rfl (by decide +kernel)
theorem dL_law_4926 : decode cL_law 4926 = .ok (.aload_n 3, 1) := zd_dec hw76 (q := 62) rfl (by decide +kernel)
theorem dL_law_4927 : decode cL_law 4927 = .ok (.invokestatic 485, 3) := zd_dec hw76 (q := 63) rfl (by decide +kernel)
theorem dL_law_4930 : decode cL_law 4930 = .ok (.istore 5, 2) := zd_dec hw77 (q := 2) rfl (by decide +kernel)
theorem dL_law_4932 : decode cL_law 4932 = .ok (.aload_n 2, 1) := zd_dec hw77 (q := 4) rfl (by decide +kernel)
theorem dL_law_4933 : decode cL_law 4933 = .ok (.aload_n 0, 1) := zd_dec hw77 (q := 5) rfl (by decide +kernel)
theorem dL_law_4934 : decode cL_law 4934 = .ok (.iload 4, 2) := zd_dec hw77 (q := 6) rfl (by decide +kernel)
theorem dL_law_4936 : decode cL_law 4936 = .ok (.iconst 1, 1) := zd_dec hw77 (q := 8) rfl (by decide +kernel)
theorem dL_law_4937 : decode cL_law 4937 = .ok (.iadd, 1) := zd_dec hw77 (q := 9) rfl (by decide +kernel)
theorem dL_law_4938 : decode cL_law 4938 = .ok (.iaload, 1) := zd_dec hw77 (q := 10) rfl (by decide +kernel)
theorem dL_law_4939 : decode cL_law 4939 = .ok (.aload_n 0, 1) := zd_dec hw77 (q := 11) rfl (by decide +kernel)
theorem dL_law_4940 : decode cL_law 4940 = .ok (.iload 4, 2) := zd_dec hw77 (q := 12) rfl (by decide +kernel)
theorem dL_law_4942 : decode cL_law 4942 = .ok (.iconst 2, 1) := zd_dec hw77 (q := 14) rfl (by decide +kernel)
theorem dL_law_4943 : decode cL_law 4943 = .ok (.iadd, 1) := zd_dec hw77 (q := 15) rfl (by decide +kernel)
theorem dL_law_4944 : decode cL_law 4944 = .ok (.iaload, 1) := zd_dec hw77 (q := 16) rfl (by decide +kernel)
theorem dL_law_4945 : decode cL_law 4945 = .ok (.aload_n 0, 1) := zd_dec hw77 (q := 17) rfl (by decide +kernel)
theorem dL_law_4946 : decode cL_law 4946 = .ok (.iload 4, 2) := zd_dec hw77 (q := 18) rfl (by decide +kernel)
theorem dL_law_4948 : decode cL_law 4948 = .ok (.iconst 3, 1) := zd_dec hw77 (q := 20) rfl (by decide +kernel)
theorem dL_law_4949 : decode cL_law 4949 = .ok (.iadd, 1) := zd_dec hw77 (q := 21) rfl (by decide +kernel)
theorem dL_law_4950 : decode cL_law 4950 = .ok (.iaload, 1) := zd_dec hw77 (q := 22) rfl (by decide +kernel)
theorem dL_law_4951 : decode cL_law 4951 = .ok (.aload_n 0, 1) := zd_dec hw77 (q := 23) rfl (by decide +kernel)
theorem dL_law_4952 : decode cL_law 4952 = .ok (.iload 4, 2) := zd_dec hw77 (q := 24) rfl (by decide +kernel)
theorem dL_law_4954 : decode cL_law 4954 = .ok (.iconst 4, 1) := zd_dec hw77 (q := 26) rfl (by decide +kernel)
theorem dL_law_4955 : decode cL_law 4955 = .ok (.iadd, 1) := zd_dec hw77 (q := 27) rfl (by decide +kernel)
theorem dL_law_4956 : decode cL_law 4956 = .ok (.iaload, 1) := zd_dec hw77 (q := 28) rfl (by decide +kernel)
theorem dL_law_4957 : decode cL_law 4957 = .ok (.ifCond .eq 7, 3) := zd_dec hw77 (q := 29) rfl (by decide +kernel)
theorem dL_law_4964 : decode cL_law 4964 = .ok (.iconst 0, 1) := zd_dec hw77 (q := 36) rfl (by decide +kernel)
theorem dL_law_4965 : decode cL_law 4965 = .ok (.aload_n 0, 1) := zd_dec hw77 (q := 37) rfl (by decide +kernel)
theorem dL_law_4966 : decode cL_law 4966 = .ok (.iload 4, 2) := zd_dec hw77 (q := 38) rfl (by decide +kernel)
theorem dL_law_4968 : decode cL_law 4968 = .ok (.iconst 5, 1) := zd_dec hw77 (q := 40) rfl (by decide +kernel)
theorem dL_law_4969 : decode cL_law 4969 = .ok (.iadd, 1) := zd_dec hw77 (q := 41) rfl (by decide +kernel)
theorem dL_law_4970 : decode cL_law 4970 = .ok (.iaload, 1) := zd_dec hw77 (q := 42) rfl (by decide +kernel)
theorem dL_law_4971 : decode cL_law 4971 = .ok (.aload_n 0, 1) := zd_dec hw77 (q := 43) rfl (by decide +kernel)
theorem dL_law_4972 : decode cL_law 4972 = .ok (.iload 4, 2) := zd_dec hw77 (q := 44) rfl (by decide +kernel)
theorem dL_law_4974 : decode cL_law 4974 = .ok (.bipush 6, 2) := zd_dec hw77 (q := 46) rfl (by decide +kernel)
theorem dL_law_4976 : decode cL_law 4976 = .ok (.iadd, 1) := zd_dec hw77 (q := 48) rfl (by decide +kernel)
theorem dL_law_4977 : decode cL_law 4977 = .ok (.iaload, 1) := zd_dec hw77 (q := 49) rfl (by decide +kernel)
theorem dL_law_4978 : decode cL_law 4978 = .ok (.invokevirtual 488, 3) := zd_dec hw77 (q := 50) rfl (by decide +kernel)
theorem dL_law_4981 : decode cL_law 4981 = .ok (.istore 6, 2) := zd_dec hw77 (q := 53) rfl (by decide +kernel)
theorem dL_law_4983 : decode cL_law 4983 = .ok (.aload_n 2, 1) := zd_dec hw77 (q := 55) rfl (by decide +kernel)
theorem dL_law_4984 : decode cL_law 4984 = .ok (.invokevirtual 281, 3) := zd_dec hw77 (q := 56) rfl (by decide +kernel)
theorem dL_law_4987 : decode cL_law 4987 = .ok (.iload 5, 2) := zd_dec hw77 (q := 59) rfl (by decide +kernel)
theorem dL_law_4989 : decode cL_law 4989 = .ok (.if_icmp .eq 5, 3) := zd_dec hw77 (q := 61) rfl (by decide +kernel)
theorem dL_law_4994 : decode cL_law 4994 = .ok (.iload 5, 2) := zd_dec hw78 (q := 2) rfl (by decide +kernel)
theorem dL_law_4996 : decode cL_law 4996 = .ok (.ifCond .ne 15, 3) := zd_dec hw78 (q := 4) rfl (by decide +kernel)
theorem dL_law_5011 : decode cL_law 5011 = .ok (.goto 991, 3) := zd_dec hw78 (q := 19) rfl (by decide +kernel)
theorem dL_law_4999 : decode cL_law 4999 = .ok (.aload_n 3, 1) := zd_dec hw78 (q := 7) rfl (by decide +kernel)
theorem dL_law_5000 : decode cL_law 5000 = .ok (.iconst 0, 1) := zd_dec hw78 (q := 8) rfl (by decide +kernel)
theorem dL_law_5001 : decode cL_law 5001 = .ok (.laload, 1) := zd_dec hw78 (q := 9) rfl (by decide +kernel)
theorem dL_law_5002 : decode cL_law 5002 = .ok (.iload 6, 2) := zd_dec hw78 (q := 10) rfl (by decide +kernel)
theorem dL_law_5004 : decode cL_law 5004 = .ok (.i2l, 1) := zd_dec hw78 (q := 12) rfl (by decide +kernel)
theorem dL_law_5005 : decode cL_law 5005 = .ok (.lcmp, 1) := zd_dec hw78 (q := 13) rfl (by decide +kernel)
theorem dL_law_5006 : decode cL_law 5006 = .ok (.ifCond .eq 5, 3) := zd_dec hw78 (q := 14) rfl (by decide +kernel)
theorem dL_law_5009 : decode cL_law 5009 = .ok (.iconst 0, 1) := zd_dec hw78 (q := 17) rfl (by decide +kernel)
theorem dL_law_5010 : decode cL_law 5010 = .ok (.ireturn, 1) := zd_dec hw78 (q := 18) rfl (by decide +kernel)
theorem dL_law_4992 : decode cL_law 4992 = .ok (.iconst 0, 1) := zd_dec hw78 (q := 0) rfl (by decide +kernel)
theorem dL_law_4993 : decode cL_law 4993 = .ok (.ireturn, 1) := zd_dec hw78 (q := 1) rfl (by decide +kernel)
theorem dL_law_4960 : decode cL_law 4960 = .ok (.iconst 1, 1) := zd_dec hw77 (q := 32) rfl (by decide +kernel)
theorem dL_law_4961 : decode cL_law 4961 = .ok (.goto 4, 3) := zd_dec hw77 (q := 33) rfl (by decide +kernel)
theorem dL_law_4908 : decode cL_law 4908 = .ok (.iconst 1, 1) := zd_dec hw76 (q := 44) rfl (by decide +kernel)
theorem dL_law_4909 : decode cL_law 4909 = .ok (.goto 4, 3) := zd_dec hw76 (q := 45) rfl (by decide +kernel)
theorem dL_law_5014 : decode cL_law 5014 = .ok (.aload_n 1, 1) := zd_dec hw78 (q := 22) rfl (by decide +kernel)
theorem dL_law_5015 : decode cL_law 5015 = .ok (.aload_n 0, 1) := zd_dec hw78 (q := 23) rfl (by decide +kernel)
theorem dL_law_5016 : decode cL_law 5016 = .ok (.iload 4, 2) := zd_dec hw78 (q := 24) rfl (by decide +kernel)
theorem dL_law_5018 : decode cL_law 5018 = .ok (.iconst 1, 1) := zd_dec hw78 (q := 26) rfl (by decide +kernel)
theorem dL_law_5019 : decode cL_law 5019 = .ok (.iadd, 1) := zd_dec hw78 (q := 27) rfl (by decide +kernel)
theorem dL_law_5020 : decode cL_law 5020 = .ok (.iaload, 1) := zd_dec hw78 (q := 28) rfl (by decide +kernel)
theorem dL_law_5021 : decode cL_law 5021 = .ok (.aload_n 3, 1) := zd_dec hw78 (q := 29) rfl (by decide +kernel)
theorem dL_law_5022 : decode cL_law 5022 = .ok (.invokestatic 489, 3) := zd_dec hw78 (q := 30) rfl (by decide +kernel)
theorem dL_law_5025 : decode cL_law 5025 = .ok (.istore 5, 2) := zd_dec hw78 (q := 33) rfl (by decide +kernel)
theorem dL_law_5027 : decode cL_law 5027 = .ok (.aload_n 2, 1) := zd_dec hw78 (q := 35) rfl (by decide +kernel)
theorem dL_law_5028 : decode cL_law 5028 = .ok (.aload_n 0, 1) := zd_dec hw78 (q := 36) rfl (by decide +kernel)
theorem dL_law_5029 : decode cL_law 5029 = .ok (.iload 4, 2) := zd_dec hw78 (q := 37) rfl (by decide +kernel)
theorem dL_law_5031 : decode cL_law 5031 = .ok (.iconst 1, 1) := zd_dec hw78 (q := 39) rfl (by decide +kernel)
theorem dL_law_5032 : decode cL_law 5032 = .ok (.iadd, 1) := zd_dec hw78 (q := 40) rfl (by decide +kernel)
theorem dL_law_5033 : decode cL_law 5033 = .ok (.iaload, 1) := zd_dec hw78 (q := 41) rfl (by decide +kernel)
theorem dL_law_5034 : decode cL_law 5034 = .ok (.invokevirtual 491, 3) := zd_dec hw78 (q := 42) rfl (by decide +kernel)
theorem dL_law_5037 : decode cL_law 5037 = .ok (.istore 6, 2) := zd_dec hw78 (q := 45) rfl (by decide +kernel)
theorem dL_law_5039 : decode cL_law 5039 = .ok (.aload_n 2, 1) := zd_dec hw78 (q := 47) rfl (by decide +kernel)
theorem dL_law_5040 : decode cL_law 5040 = .ok (.invokevirtual 281, 3) := zd_dec hw78 (q := 48) rfl (by decide +kernel)
theorem dL_law_5043 : decode cL_law 5043 = .ok (.iload 5, 2) := zd_dec hw78 (q := 51) rfl (by decide +kernel)
theorem dL_law_5045 : decode cL_law 5045 = .ok (.if_icmp .eq 5, 3) := zd_dec hw78 (q := 53) rfl (by decide +kernel)
theorem dL_law_5050 : decode cL_law 5050 = .ok (.iload 5, 2) := zd_dec hw78 (q := 58) rfl (by decide +kernel)
theorem dL_law_5052 : decode cL_law 5052 = .ok (.ifCond .ne 22, 3) := zd_dec hw78 (q := 60) rfl (by decide +kernel)
theorem dL_law_5074 : decode cL_law 5074 = .ok (.goto 928, 3) := zd_dec hw79 (q := 18) rfl (by decide +kernel)
theorem dL_law_5055 : decode cL_law 5055 = .ok (.aload_n 3, 1) := zd_dec hw78 (q := 63) rfl (by decide +kernel)
theorem dL_law_5056 : decode cL_law 5056 = .ok (.iconst 0, 1) := zd_dec hw79 (q := 0) rfl (by decide +kernel)
theorem dL_law_5057 : decode cL_law 5057 = .ok (.laload, 1) := zd_dec hw79 (q := 1) rfl (by decide +kernel)
theorem dL_law_5058 : decode cL_law 5058 = .ok (.iload 6, 2) := zd_dec hw79 (q := 2) rfl (by decide +kernel)
theorem dL_law_5060 : decode cL_law 5060 = .ok (.ifCond .eq 7, 3) := zd_dec hw79 (q := 4) rfl (by decide +kernel)
theorem dL_law_5067 : decode cL_law 5067 = .ok (.lconst 0, 1) := zd_dec hw79 (q := 11) rfl (by decide +kernel)
theorem dL_law_5068 : decode cL_law 5068 = .ok (.lcmp, 1) := zd_dec hw79 (q := 12) rfl (by decide +kernel)
theorem dL_law_5069 : decode cL_law 5069 = .ok (.ifCond .eq 5, 3) := zd_dec hw79 (q := 13) rfl (by decide +kernel)
theorem dL_law_5072 : decode cL_law 5072 = .ok (.iconst 0, 1) := zd_dec hw79 (q := 16) rfl (by decide +kernel)
theorem dL_law_5073 : decode cL_law 5073 = .ok (.ireturn, 1) := zd_dec hw79 (q := 17) rfl (by decide +kernel)
theorem dL_law_5063 : decode cL_law 5063 = .ok (.lconst 1, 1) := zd_dec hw79 (q := 7) rfl (by decide +kernel)
theorem dL_law_5064 : decode cL_law 5064 = .ok (.goto 4, 3) := zd_dec hw79 (q := 8) rfl (by decide +kernel)
theorem dL_law_5048 : decode cL_law 5048 = .ok (.iconst 0, 1) := zd_dec hw78 (q := 56) rfl (by decide +kernel)
theorem dL_law_5049 : decode cL_law 5049 = .ok (.ireturn, 1) := zd_dec hw78 (q := 57) rfl (by decide +kernel)
theorem dL_law_5077 : decode cL_law 5077 = .ok (.aload_n 1, 1) := zd_dec hw79 (q := 21) rfl (by decide +kernel)
theorem dL_law_5078 : decode cL_law 5078 = .ok (.aload_n 0, 1) := zd_dec hw79 (q := 22) rfl (by decide +kernel)
theorem dL_law_5079 : decode cL_law 5079 = .ok (.iload 4, 2) := zd_dec hw79 (q := 23) rfl (by decide +kernel)
theorem dL_law_5081 : decode cL_law 5081 = .ok (.iconst 1, 1) := zd_dec hw79 (q := 25) rfl (by decide +kernel)
theorem dL_law_5082 : decode cL_law 5082 = .ok (.iadd, 1) := zd_dec hw79 (q := 26) rfl (by decide +kernel)
theorem dL_law_5083 : decode cL_law 5083 = .ok (.iaload, 1) := zd_dec hw79 (q := 27) rfl (by decide +kernel)
theorem dL_law_5084 : decode cL_law 5084 = .ok (.aload_n 0, 1) := zd_dec hw79 (q := 28) rfl (by decide +kernel)
theorem dL_law_5085 : decode cL_law 5085 = .ok (.iload 4, 2) := zd_dec hw79 (q := 29) rfl (by decide +kernel)
theorem dL_law_5087 : decode cL_law 5087 = .ok (.iconst 2, 1) := zd_dec hw79 (q := 31) rfl (by decide +kernel)
theorem dL_law_5088 : decode cL_law 5088 = .ok (.iadd, 1) := zd_dec hw79 (q := 32) rfl (by decide +kernel)
theorem dL_law_5089 : decode cL_law 5089 = .ok (.iaload, 1) := zd_dec hw79 (q := 33) rfl (by decide +kernel)
theorem dL_law_5090 : decode cL_law 5090 = .ok (.aload_n 3, 1) := zd_dec hw79 (q := 34) rfl (by decide +kernel)
theorem dL_law_5091 : decode cL_law 5091 = .ok (.invokestatic 492, 3) := zd_dec hw79 (q := 35) rfl (by decide +kernel)
theorem dL_law_5094 : decode cL_law 5094 = .ok (.istore 5, 2) := zd_dec hw79 (q := 38) rfl (by decide +kernel)
theorem dL_law_5096 : decode cL_law 5096 = .ok (.aload_n 2, 1) := zd_dec hw79 (q := 40) rfl (by decide +kernel)
theorem dL_law_5097 : decode cL_law 5097 = .ok (.aload_n 0, 1) := zd_dec hw79 (q := 41) rfl (by decide +kernel)
theorem dL_law_5098 : decode cL_law 5098 = .ok (.iload 4, 2) := zd_dec hw79 (q := 42) rfl (by decide +kernel)
theorem dL_law_5100 : decode cL_law 5100 = .ok (.iconst 1, 1) := zd_dec hw79 (q := 44) rfl (by decide +kernel)
theorem dL_law_5101 : decode cL_law 5101 = .ok (.iadd, 1) := zd_dec hw79 (q := 45) rfl (by decide +kernel)
theorem dL_law_5102 : decode cL_law 5102 = .ok (.iaload, 1) := zd_dec hw79 (q := 46) rfl (by decide +kernel)
theorem dL_law_5103 : decode cL_law 5103 = .ok (.aload_n 0, 1) := zd_dec hw79 (q := 47) rfl (by decide +kernel)
theorem dL_law_5104 : decode cL_law 5104 = .ok (.iload 4, 2) := zd_dec hw79 (q := 48) rfl (by decide +kernel)
theorem dL_law_5106 : decode cL_law 5106 = .ok (.iconst 2, 1) := zd_dec hw79 (q := 50) rfl (by decide +kernel)
theorem dL_law_5107 : decode cL_law 5107 = .ok (.iadd, 1) := zd_dec hw79 (q := 51) rfl (by decide +kernel)
theorem dL_law_5108 : decode cL_law 5108 = .ok (.iaload, 1) := zd_dec hw79 (q := 52) rfl (by decide +kernel)
theorem dL_law_5109 : decode cL_law 5109 = .ok (.invokevirtual 494, 3) := zd_dec hw79 (q := 53) rfl (by decide +kernel)
theorem dL_law_5112 : decode cL_law 5112 = .ok (.istore 6, 2) := zd_dec hw79 (q := 56) rfl (by decide +kernel)
theorem dL_law_5114 : decode cL_law 5114 = .ok (.aload_n 2, 1) := zd_dec hw79 (q := 58) rfl (by decide +kernel)
theorem dL_law_5115 : decode cL_law 5115 = .ok (.invokevirtual 281, 3) := zd_dec hw79 (q := 59) rfl (by decide +kernel)
theorem dL_law_5118 : decode cL_law 5118 = .ok (.iload 5, 2) := zd_dec hw79 (q := 62) rfl (by decide +kernel)
theorem dL_law_5120 : decode cL_law 5120 = .ok (.if_icmp .eq 5, 3) := zd_dec hw80 (q := 0) rfl (by decide +kernel)
theorem dL_law_5125 : decode cL_law 5125 = .ok (.iload 5, 2) := zd_dec hw80 (q := 5) rfl (by decide +kernel)
theorem dL_law_5127 : decode cL_law 5127 = .ok (.ifCond .ne 15, 3) := zd_dec hw80 (q := 7) rfl (by decide +kernel)
theorem dL_law_5142 : decode cL_law 5142 = .ok (.goto 860, 3) := zd_dec hw80 (q := 22) rfl (by decide +kernel)
theorem dL_law_5130 : decode cL_law 5130 = .ok (.aload_n 3, 1) := zd_dec hw80 (q := 10) rfl (by decide +kernel)
theorem dL_law_5131 : decode cL_law 5131 = .ok (.iconst 0, 1) := zd_dec hw80 (q := 11) rfl (by decide +kernel)
theorem dL_law_5132 : decode cL_law 5132 = .ok (.laload, 1) := zd_dec hw80 (q := 12) rfl (by decide +kernel)
theorem dL_law_5133 : decode cL_law 5133 = .ok (.iload 6, 2) := zd_dec hw80 (q := 13) rfl (by decide +kernel)
theorem dL_law_5135 : decode cL_law 5135 = .ok (.i2l, 1) := zd_dec hw80 (q := 15) rfl (by decide +kernel)
theorem dL_law_5136 : decode cL_law 5136 = .ok (.lcmp, 1) := zd_dec hw80 (q := 16) rfl (by decide +kernel)
theorem dL_law_5137 : decode cL_law 5137 = .ok (.ifCond .eq 5, 3) := zd_dec hw80 (q := 17) rfl (by decide +kernel)
theorem dL_law_5140 : decode cL_law 5140 = .ok (.iconst 0, 1) := zd_dec hw80 (q := 20) rfl (by decide +kernel)
theorem dL_law_5141 : decode cL_law 5141 = .ok (.ireturn, 1) := zd_dec hw80 (q := 21) rfl (by decide +kernel)
theorem dL_law_5123 : decode cL_law 5123 = .ok (.iconst 0, 1) := zd_dec hw80 (q := 3) rfl (by decide +kernel)
theorem dL_law_5124 : decode cL_law 5124 = .ok (.ireturn, 1) := zd_dec hw80 (q := 4) rfl (by decide +kernel)
theorem dL_law_5145 : decode cL_law 5145 = .ok (.aload_n 1, 1) := zd_dec hw80 (q := 25) rfl (by decide +kernel)
theorem dL_law_5146 : decode cL_law 5146 = .ok (.aload_n 0, 1) := zd_dec hw80 (q := 26) rfl (by decide +kernel)
theorem dL_law_5147 : decode cL_law 5147 = .ok (.iload 4, 2) := zd_dec hw80 (q := 27) rfl (by decide +kernel)
theorem dL_law_5149 : decode cL_law 5149 = .ok (.iconst 1, 1) := zd_dec hw80 (q := 29) rfl (by decide +kernel)
theorem dL_law_5150 : decode cL_law 5150 = .ok (.iadd, 1) := zd_dec hw80 (q := 30) rfl (by decide +kernel)
theorem dL_law_5151 : decode cL_law 5151 = .ok (.iaload, 1) := zd_dec hw80 (q := 31) rfl (by decide +kernel)
theorem dL_law_5152 : decode cL_law 5152 = .ok (.aload_n 3, 1) := zd_dec hw80 (q := 32) rfl (by decide +kernel)
theorem dL_law_5153 : decode cL_law 5153 = .ok (.invokestatic 495, 3) := zd_dec hw80 (q := 33) rfl (by decide +kernel)
theorem dL_law_5156 : decode cL_law 5156 = .ok (.istore 5, 2) := zd_dec hw80 (q := 36) rfl (by decide +kernel)
theorem dL_law_5158 : decode cL_law 5158 = .ok (.aload_n 2, 1) := zd_dec hw80 (q := 38) rfl (by decide +kernel)
theorem dL_law_5159 : decode cL_law 5159 = .ok (.aload_n 0, 1) := zd_dec hw80 (q := 39) rfl (by decide +kernel)
theorem dL_law_5160 : decode cL_law 5160 = .ok (.iload 4, 2) := zd_dec hw80 (q := 40) rfl (by decide +kernel)
theorem dL_law_5162 : decode cL_law 5162 = .ok (.iconst 1, 1) := zd_dec hw80 (q := 42) rfl (by decide +kernel)
theorem dL_law_5163 : decode cL_law 5163 = .ok (.iadd, 1) := zd_dec hw80 (q := 43) rfl (by decide +kernel)
theorem dL_law_5164 : decode cL_law 5164 = .ok (.iaload, 1) := zd_dec hw80 (q := 44) rfl (by decide +kernel)
theorem dL_law_5165 : decode cL_law 5165 = .ok (.invokevirtual 497, 3) := zd_dec hw80 (q := 45) rfl (by decide +kernel)
theorem dL_law_5168 : decode cL_law 5168 = .ok (.istore 6, 2) := zd_dec hw80 (q := 48) rfl (by decide +kernel)
theorem dL_law_5170 : decode cL_law 5170 = .ok (.aload_n 2, 1) := zd_dec hw80 (q := 50) rfl (by decide +kernel)
theorem dL_law_5171 : decode cL_law 5171 = .ok (.invokevirtual 281, 3) := zd_dec hw80 (q := 51) rfl (by decide +kernel)
theorem dL_law_5174 : decode cL_law 5174 = .ok (.iload 5, 2) := zd_dec hw80 (q := 54) rfl (by decide +kernel)
theorem dL_law_5176 : decode cL_law 5176 = .ok (.if_icmp .eq 5, 3) := zd_dec hw80 (q := 56) rfl (by decide +kernel)
theorem dL_law_5181 : decode cL_law 5181 = .ok (.iload 5, 2) := zd_dec hw80 (q := 61) rfl (by decide +kernel)
theorem dL_law_5183 : decode cL_law 5183 = .ok (.ifCond .ne 15, 3) := zd_dec hw80 (q := 63) rfl (by decide +kernel)
theorem dL_law_5198 : decode cL_law 5198 = .ok (.goto 804, 3) := zd_dec hw81 (q := 14) rfl (by decide +kernel)
theorem dL_law_5186 : decode cL_law 5186 = .ok (.aload_n 3, 1) := zd_dec hw81 (q := 2) rfl (by decide +kernel)
theorem dL_law_5187 : decode cL_law 5187 = .ok (.iconst 0, 1) := zd_dec hw81 (q := 3) rfl (by decide +kernel)
theorem dL_law_5188 : decode cL_law 5188 = .ok (.laload, 1) := zd_dec hw81 (q := 4) rfl (by decide +kernel)
theorem dL_law_5189 : decode cL_law 5189 = .ok (.iload 6, 2) := zd_dec hw81 (q := 5) rfl (by decide +kernel)
theorem dL_law_5191 : decode cL_law 5191 = .ok (.i2l, 1) := zd_dec hw81 (q := 7) rfl (by decide +kernel)
theorem dL_law_5192 : decode cL_law 5192 = .ok (.lcmp, 1) := zd_dec hw81 (q := 8) rfl (by decide +kernel)
theorem dL_law_5193 : decode cL_law 5193 = .ok (.ifCond .eq 5, 3) := zd_dec hw81 (q := 9) rfl (by decide +kernel)
theorem dL_law_5196 : decode cL_law 5196 = .ok (.iconst 0, 1) := zd_dec hw81 (q := 12) rfl (by decide +kernel)
theorem dL_law_5197 : decode cL_law 5197 = .ok (.ireturn, 1) := zd_dec hw81 (q := 13) rfl (by decide +kernel)
theorem dL_law_5179 : decode cL_law 5179 = .ok (.iconst 0, 1) := zd_dec hw80 (q := 59) rfl (by decide +kernel)
theorem dL_law_5180 : decode cL_law 5180 = .ok (.ireturn, 1) := zd_dec hw80 (q := 60) rfl (by decide +kernel)
theorem dL_law_5201 : decode cL_law 5201 = .ok (.aload_n 1, 1) := zd_dec hw81 (q := 17) rfl (by decide +kernel)
theorem dL_law_5202 : decode cL_law 5202 = .ok (.aload_n 0, 1) := zd_dec hw81 (q := 18) rfl (by decide +kernel)
theorem dL_law_5203 : decode cL_law 5203 = .ok (.iload 4, 2) := zd_dec hw81 (q := 19) rfl (by decide +kernel)
theorem dL_law_5205 : decode cL_law 5205 = .ok (.iconst 1, 1) := zd_dec hw81 (q := 21) rfl (by decide +kernel)
theorem dL_law_5206 : decode cL_law 5206 = .ok (.iadd, 1) := zd_dec hw81 (q := 22) rfl (by decide +kernel)
theorem dL_law_5207 : decode cL_law 5207 = .ok (.iaload, 1) := zd_dec hw81 (q := 23) rfl (by decide +kernel)
theorem dL_law_5208 : decode cL_law 5208 = .ok (.aload_n 3, 1) := zd_dec hw81 (q := 24) rfl (by decide +kernel)
theorem dL_law_5209 : decode cL_law 5209 = .ok (.invokestatic 498, 3) := zd_dec hw81 (q := 25) rfl (by decide +kernel)
theorem dL_law_5212 : decode cL_law 5212 = .ok (.istore 5, 2) := zd_dec hw81 (q := 28) rfl (by decide +kernel)
theorem dL_law_5214 : decode cL_law 5214 = .ok (.aload_n 2, 1) := zd_dec hw81 (q := 30) rfl (by decide +kernel)
theorem dL_law_5215 : decode cL_law 5215 = .ok (.aload_n 0, 1) := zd_dec hw81 (q := 31) rfl (by decide +kernel)
theorem dL_law_5216 : decode cL_law 5216 = .ok (.iload 4, 2) := zd_dec hw81 (q := 32) rfl (by decide +kernel)
theorem dL_law_5218 : decode cL_law 5218 = .ok (.iconst 1, 1) := zd_dec hw81 (q := 34) rfl (by decide +kernel)
theorem dL_law_5219 : decode cL_law 5219 = .ok (.iadd, 1) := zd_dec hw81 (q := 35) rfl (by decide +kernel)
theorem dL_law_5220 : decode cL_law 5220 = .ok (.iaload, 1) := zd_dec hw81 (q := 36) rfl (by decide +kernel)
theorem dL_law_5221 : decode cL_law 5221 = .ok (.invokevirtual 500, 3) := zd_dec hw81 (q := 37) rfl (by decide +kernel)
theorem dL_law_5224 : decode cL_law 5224 = .ok (.istore 6, 2) := zd_dec hw81 (q := 40) rfl (by decide +kernel)
theorem dL_law_5226 : decode cL_law 5226 = .ok (.aload_n 2, 1) := zd_dec hw81 (q := 42) rfl (by decide +kernel)
theorem dL_law_5227 : decode cL_law 5227 = .ok (.invokevirtual 281, 3) := zd_dec hw81 (q := 43) rfl (by decide +kernel)
theorem dL_law_5230 : decode cL_law 5230 = .ok (.iload 5, 2) := zd_dec hw81 (q := 46) rfl (by decide +kernel)
theorem dL_law_5232 : decode cL_law 5232 = .ok (.if_icmp .eq 5, 3) := zd_dec hw81 (q := 48) rfl (by decide +kernel)
theorem dL_law_5237 : decode cL_law 5237 = .ok (.iload 5, 2) := zd_dec hw81 (q := 53) rfl (by decide +kernel)
theorem dL_law_5239 : decode cL_law 5239 = .ok (.ifCond .ne 15, 3) := zd_dec hw81 (q := 55) rfl (by decide +kernel)
theorem dL_law_5254 : decode cL_law 5254 = .ok (.goto 748, 3) := zd_dec hw82 (q := 6) rfl (by decide +kernel)
theorem dL_law_5242 : decode cL_law 5242 = .ok (.aload_n 3, 1) := zd_dec hw81 (q := 58) rfl (by decide +kernel)
theorem dL_law_5243 : decode cL_law 5243 = .ok (.iconst 0, 1) := zd_dec hw81 (q := 59) rfl (by decide +kernel)
theorem dL_law_5244 : decode cL_law 5244 = .ok (.laload, 1) := zd_dec hw81 (q := 60) rfl (by decide +kernel)
theorem dL_law_5245 : decode cL_law 5245 = .ok (.iload 6, 2) := zd_dec hw81 (q := 61) rfl (by decide +kernel)
theorem dL_law_5247 : decode cL_law 5247 = .ok (.i2l, 1) := zd_dec hw81 (q := 63) rfl (by decide +kernel)
theorem dL_law_5248 : decode cL_law 5248 = .ok (.lcmp, 1) := zd_dec hw82 (q := 0) rfl (by decide +kernel)
theorem dL_law_5249 : decode cL_law 5249 = .ok (.ifCond .eq 5, 3) := zd_dec hw82 (q := 1) rfl (by decide +kernel)
theorem dL_law_5252 : decode cL_law 5252 = .ok (.iconst 0, 1) := zd_dec hw82 (q := 4) rfl (by decide +kernel)
theorem dL_law_5253 : decode cL_law 5253 = .ok (.ireturn, 1) := zd_dec hw82 (q := 5) rfl (by decide +kernel)
theorem dL_law_5235 : decode cL_law 5235 = .ok (.iconst 0, 1) := zd_dec hw81 (q := 51) rfl (by decide +kernel)
theorem dL_law_5236 : decode cL_law 5236 = .ok (.ireturn, 1) := zd_dec hw81 (q := 52) rfl (by decide +kernel)
theorem dL_law_5257 : decode cL_law 5257 = .ok (.aload_n 1, 1) := zd_dec hw82 (q := 9) rfl (by decide +kernel)
theorem dL_law_5258 : decode cL_law 5258 = .ok (.aload_n 0, 1) := zd_dec hw82 (q := 10) rfl (by decide +kernel)
theorem dL_law_5259 : decode cL_law 5259 = .ok (.iload 4, 2) := zd_dec hw82 (q := 11) rfl (by decide +kernel)
theorem dL_law_5261 : decode cL_law 5261 = .ok (.iconst 1, 1) := zd_dec hw82 (q := 13) rfl (by decide +kernel)
theorem dL_law_5262 : decode cL_law 5262 = .ok (.iadd, 1) := zd_dec hw82 (q := 14) rfl (by decide +kernel)
theorem dL_law_5263 : decode cL_law 5263 = .ok (.iaload, 1) := zd_dec hw82 (q := 15) rfl (by decide +kernel)
theorem dL_law_5264 : decode cL_law 5264 = .ok (.aload_n 0, 1) := zd_dec hw82 (q := 16) rfl (by decide +kernel)
theorem dL_law_5265 : decode cL_law 5265 = .ok (.iload 4, 2) := zd_dec hw82 (q := 17) rfl (by decide +kernel)
theorem dL_law_5267 : decode cL_law 5267 = .ok (.iconst 2, 1) := zd_dec hw82 (q := 19) rfl (by decide +kernel)
theorem dL_law_5268 : decode cL_law 5268 = .ok (.iadd, 1) := zd_dec hw82 (q := 20) rfl (by decide +kernel)
theorem dL_law_5269 : decode cL_law 5269 = .ok (.iaload, 1) := zd_dec hw82 (q := 21) rfl (by decide +kernel)
theorem dL_law_5270 : decode cL_law 5270 = .ok (.aload_n 3, 1) := zd_dec hw82 (q := 22) rfl (by decide +kernel)
theorem dL_law_5271 : decode cL_law 5271 = .ok (.invokestatic 501, 3) := zd_dec hw82 (q := 23) rfl (by decide +kernel)
theorem dL_law_5274 : decode cL_law 5274 = .ok (.istore 5, 2) := zd_dec hw82 (q := 26) rfl (by decide +kernel)
theorem dL_law_5276 : decode cL_law 5276 = .ok (.aload_n 2, 1) := zd_dec hw82 (q := 28) rfl (by decide +kernel)
theorem dL_law_5277 : decode cL_law 5277 = .ok (.aload_n 0, 1) := zd_dec hw82 (q := 29) rfl (by decide +kernel)
theorem dL_law_5278 : decode cL_law 5278 = .ok (.iload 4, 2) := zd_dec hw82 (q := 30) rfl (by decide +kernel)
theorem dL_law_5280 : decode cL_law 5280 = .ok (.iconst 1, 1) := zd_dec hw82 (q := 32) rfl (by decide +kernel)
theorem dL_law_5281 : decode cL_law 5281 = .ok (.iadd, 1) := zd_dec hw82 (q := 33) rfl (by decide +kernel)
theorem dL_law_5282 : decode cL_law 5282 = .ok (.iaload, 1) := zd_dec hw82 (q := 34) rfl (by decide +kernel)
theorem dL_law_5283 : decode cL_law 5283 = .ok (.aload_n 0, 1) := zd_dec hw82 (q := 35) rfl (by decide +kernel)
theorem dL_law_5284 : decode cL_law 5284 = .ok (.iload 4, 2) := zd_dec hw82 (q := 36) rfl (by decide +kernel)
theorem dL_law_5286 : decode cL_law 5286 = .ok (.iconst 2, 1) := zd_dec hw82 (q := 38) rfl (by decide +kernel)
theorem dL_law_5287 : decode cL_law 5287 = .ok (.iadd, 1) := zd_dec hw82 (q := 39) rfl (by decide +kernel)
theorem dL_law_5288 : decode cL_law 5288 = .ok (.iaload, 1) := zd_dec hw82 (q := 40) rfl (by decide +kernel)
theorem dL_law_5289 : decode cL_law 5289 = .ok (.invokevirtual 503, 3) := zd_dec hw82 (q := 41) rfl (by decide +kernel)
theorem dL_law_5292 : decode cL_law 5292 = .ok (.istore 6, 2) := zd_dec hw82 (q := 44) rfl (by decide +kernel)
theorem dL_law_5294 : decode cL_law 5294 = .ok (.aload_n 2, 1) := zd_dec hw82 (q := 46) rfl (by decide +kernel)
theorem dL_law_5295 : decode cL_law 5295 = .ok (.invokevirtual 281, 3) := zd_dec hw82 (q := 47) rfl (by decide +kernel)
theorem dL_law_5298 : decode cL_law 5298 = .ok (.iload 5, 2) := zd_dec hw82 (q := 50) rfl (by decide +kernel)
theorem dL_law_5300 : decode cL_law 5300 = .ok (.if_icmp .eq 5, 3) := zd_dec hw82 (q := 52) rfl (by decide +kernel)
theorem dL_law_5305 : decode cL_law 5305 = .ok (.iload 5, 2) := zd_dec hw82 (q := 57) rfl (by decide +kernel)
theorem dL_law_5307 : decode cL_law 5307 = .ok (.ifCond .ne 15, 3) := zd_dec hw82 (q := 59) rfl (by decide +kernel)
theorem dL_law_5322 : decode cL_law 5322 = .ok (.goto 680, 3) := zd_dec hw83 (q := 10) rfl (by decide +kernel)
theorem dL_law_5310 : decode cL_law 5310 = .ok (.aload_n 3, 1) := zd_dec hw82 (q := 62) rfl (by decide +kernel)
theorem dL_law_5311 : decode cL_law 5311 = .ok (.iconst 0, 1) := zd_dec hw82 (q := 63) rfl (by decide +kernel)
theorem dL_law_5312 : decode cL_law 5312 = .ok (.laload, 1) := zd_dec hw83 (q := 0) rfl (by decide +kernel)
theorem dL_law_5313 : decode cL_law 5313 = .ok (.iload 6, 2) := zd_dec hw83 (q := 1) rfl (by decide +kernel)
theorem dL_law_5315 : decode cL_law 5315 = .ok (.i2l, 1) := zd_dec hw83 (q := 3) rfl (by decide +kernel)
theorem dL_law_5316 : decode cL_law 5316 = .ok (.lcmp, 1) := zd_dec hw83 (q := 4) rfl (by decide +kernel)
theorem dL_law_5317 : decode cL_law 5317 = .ok (.ifCond .eq 5, 3) := zd_dec hw83 (q := 5) rfl (by decide +kernel)
theorem dL_law_5320 : decode cL_law 5320 = .ok (.iconst 0, 1) := zd_dec hw83 (q := 8) rfl (by decide +kernel)
theorem dL_law_5321 : decode cL_law 5321 = .ok (.ireturn, 1) := zd_dec hw83 (q := 9) rfl (by decide +kernel)
theorem dL_law_5303 : decode cL_law 5303 = .ok (.iconst 0, 1) := zd_dec hw82 (q := 55) rfl (by decide +kernel)
theorem dL_law_5304 : decode cL_law 5304 = .ok (.ireturn, 1) := zd_dec hw82 (q := 56) rfl (by decide +kernel)
theorem dL_law_5325 : decode cL_law 5325 = .ok (.aload_n 1, 1) := zd_dec hw83 (q := 13) rfl (by decide +kernel)
theorem dL_law_5326 : decode cL_law 5326 = .ok (.aload_n 0, 1) := zd_dec hw83 (q := 14) rfl (by decide +kernel)
theorem dL_law_5327 : decode cL_law 5327 = .ok (.iload 4, 2) := zd_dec hw83 (q := 15) rfl (by decide +kernel)
theorem dL_law_5329 : decode cL_law 5329 = .ok (.iconst 1, 1) := zd_dec hw83 (q := 17) rfl (by decide +kernel)
theorem dL_law_5330 : decode cL_law 5330 = .ok (.iadd, 1) := zd_dec hw83 (q := 18) rfl (by decide +kernel)
theorem dL_law_5331 : decode cL_law 5331 = .ok (.iaload, 1) := zd_dec hw83 (q := 19) rfl (by decide +kernel)
theorem dL_law_5332 : decode cL_law 5332 = .ok (.aload_n 0, 1) := zd_dec hw83 (q := 20) rfl (by decide +kernel)
theorem dL_law_5333 : decode cL_law 5333 = .ok (.iload 4, 2) := zd_dec hw83 (q := 21) rfl (by decide +kernel)
theorem dL_law_5335 : decode cL_law 5335 = .ok (.iconst 2, 1) := zd_dec hw83 (q := 23) rfl (by decide +kernel)
theorem dL_law_5336 : decode cL_law 5336 = .ok (.iadd, 1) := zd_dec hw83 (q := 24) rfl (by decide +kernel)
theorem dL_law_5337 : decode cL_law 5337 = .ok (.iaload, 1) := zd_dec hw83 (q := 25) rfl (by decide +kernel)
theorem dL_law_5338 : decode cL_law 5338 = .ok (.aload_n 0, 1) := zd_dec hw83 (q := 26) rfl (by decide +kernel)
theorem dL_law_5339 : decode cL_law 5339 = .ok (.iload 4, 2) := zd_dec hw83 (q := 27) rfl (by decide +kernel)
theorem dL_law_5341 : decode cL_law 5341 = .ok (.iconst 3, 1) := zd_dec hw83 (q := 29) rfl (by decide +kernel)
theorem dL_law_5342 : decode cL_law 5342 = .ok (.iadd, 1) := zd_dec hw83 (q := 30) rfl (by decide +kernel)
theorem dL_law_5343 : decode cL_law 5343 = .ok (.iaload, 1) := zd_dec hw83 (q := 31) rfl (by decide +kernel)
theorem dL_law_5344 : decode cL_law 5344 = .ok (.invokestatic 504, 3) := zd_dec hw83 (q := 32) rfl (by decide +kernel)
theorem dL_law_5347 : decode cL_law 5347 = .ok (.istore 5, 2) := zd_dec hw83 (q := 35) rfl (by decide +kernel)
theorem dL_law_5349 : decode cL_law 5349 = .ok (.aload_n 2, 1) := zd_dec hw83 (q := 37) rfl (by decide +kernel)
theorem dL_law_5350 : decode cL_law 5350 = .ok (.aload_n 0, 1) := zd_dec hw83 (q := 38) rfl (by decide +kernel)
theorem dL_law_5351 : decode cL_law 5351 = .ok (.iload 4, 2) := zd_dec hw83 (q := 39) rfl (by decide +kernel)
theorem dL_law_5353 : decode cL_law 5353 = .ok (.iconst 1, 1) := zd_dec hw83 (q := 41) rfl (by decide +kernel)
theorem dL_law_5354 : decode cL_law 5354 = .ok (.iadd, 1) := zd_dec hw83 (q := 42) rfl (by decide +kernel)
theorem dL_law_5355 : decode cL_law 5355 = .ok (.iaload, 1) := zd_dec hw83 (q := 43) rfl (by decide +kernel)
theorem dL_law_5356 : decode cL_law 5356 = .ok (.aload_n 0, 1) := zd_dec hw83 (q := 44) rfl (by decide +kernel)
theorem dL_law_5357 : decode cL_law 5357 = .ok (.iload 4, 2) := zd_dec hw83 (q := 45) rfl (by decide +kernel)
theorem dL_law_5359 : decode cL_law 5359 = .ok (.iconst 2, 1) := zd_dec hw83 (q := 47) rfl (by decide +kernel)
theorem dL_law_5360 : decode cL_law 5360 = .ok (.iadd, 1) := zd_dec hw83 (q := 48) rfl (by decide +kernel)
theorem dL_law_5361 : decode cL_law 5361 = .ok (.iaload, 1) := zd_dec hw83 (q := 49) rfl (by decide +kernel)
theorem dL_law_5362 : decode cL_law 5362 = .ok (.aload_n 0, 1) := zd_dec hw83 (q := 50) rfl (by decide +kernel)
theorem dL_law_5363 : decode cL_law 5363 = .ok (.iload 4, 2) := zd_dec hw83 (q := 51) rfl (by decide +kernel)
theorem dL_law_5365 : decode cL_law 5365 = .ok (.iconst 3, 1) := zd_dec hw83 (q := 53) rfl (by decide +kernel)
theorem dL_law_5366 : decode cL_law 5366 = .ok (.iadd, 1) := zd_dec hw83 (q := 54) rfl (by decide +kernel)
theorem dL_law_5367 : decode cL_law 5367 = .ok (.iaload, 1) := zd_dec hw83 (q := 55) rfl (by decide +kernel)
theorem dL_law_5368 : decode cL_law 5368 = .ok (.invokevirtual 506, 3) := zd_dec hw83 (q := 56) rfl (by decide +kernel)
theorem dL_law_5371 : decode cL_law 5371 = .ok (.aload_n 2, 1) := zd_dec hw83 (q := 59) rfl (by decide +kernel)
theorem dL_law_5372 : decode cL_law 5372 = .ok (.invokevirtual 281, 3) := zd_dec hw83 (q := 60) rfl (by decide +kernel)
theorem dL_law_5375 : decode cL_law 5375 = .ok (.iload 5, 2) := zd_dec hw83 (q := 63) rfl (by decide +kernel)
theorem dL_law_5377 : decode cL_law 5377 = .ok (.if_icmp .eq 5, 3) := zd_dec hw84 (q := 1) rfl (by decide +kernel)
theorem dL_law_5382 : decode cL_law 5382 = .ok (.goto 620, 3) := zd_dec hw84 (q := 6) rfl (by decide +kernel)
theorem dL_law_5380 : decode cL_law 5380 = .ok (.iconst 0, 1) := zd_dec hw84 (q := 4) rfl (by decide +kernel)
theorem dL_law_5381 : decode cL_law 5381 = .ok (.ireturn, 1) := zd_dec hw84 (q := 5) rfl (by decide +kernel)
theorem dL_law_5385 : decode cL_law 5385 = .ok (.aload_n 1, 1) := zd_dec hw84 (q := 9) rfl (by decide +kernel)
theorem dL_law_5386 : decode cL_law 5386 = .ok (.aload_n 0, 1) := zd_dec hw84 (q := 10) rfl (by decide +kernel)
theorem dL_law_5387 : decode cL_law 5387 = .ok (.iload 4, 2) := zd_dec hw84 (q := 11) rfl (by decide +kernel)
theorem dL_law_5389 : decode cL_law 5389 = .ok (.iconst 1, 1) := zd_dec hw84 (q := 13) rfl (by decide +kernel)
theorem dL_law_5390 : decode cL_law 5390 = .ok (.iadd, 1) := zd_dec hw84 (q := 14) rfl (by decide +kernel)
theorem dL_law_5391 : decode cL_law 5391 = .ok (.iaload, 1) := zd_dec hw84 (q := 15) rfl (by decide +kernel)
theorem dL_law_5392 : decode cL_law 5392 = .ok (.aload_n 0, 1) := zd_dec hw84 (q := 16) rfl (by decide +kernel)
theorem dL_law_5393 : decode cL_law 5393 = .ok (.iload 4, 2) := zd_dec hw84 (q := 17) rfl (by decide +kernel)
theorem dL_law_5395 : decode cL_law 5395 = .ok (.iconst 2, 1) := zd_dec hw84 (q := 19) rfl (by decide +kernel)
theorem dL_law_5396 : decode cL_law 5396 = .ok (.iadd, 1) := zd_dec hw84 (q := 20) rfl (by decide +kernel)
theorem dL_law_5397 : decode cL_law 5397 = .ok (.iaload, 1) := zd_dec hw84 (q := 21) rfl (by decide +kernel)
theorem dL_law_5398 : decode cL_law 5398 = .ok (.aload_n 0, 1) := zd_dec hw84 (q := 22) rfl (by decide +kernel)
theorem dL_law_5399 : decode cL_law 5399 = .ok (.iload 4, 2) := zd_dec hw84 (q := 23) rfl (by decide +kernel)
theorem dL_law_5401 : decode cL_law 5401 = .ok (.iconst 3, 1) := zd_dec hw84 (q := 25) rfl (by decide +kernel)
theorem dL_law_5402 : decode cL_law 5402 = .ok (.iadd, 1) := zd_dec hw84 (q := 26) rfl (by decide +kernel)
theorem dL_law_5403 : decode cL_law 5403 = .ok (.iaload, 1) := zd_dec hw84 (q := 27) rfl (by decide +kernel)
theorem dL_law_5404 : decode cL_law 5404 = .ok (.invokestatic 507, 3) := zd_dec hw84 (q := 28) rfl (by decide +kernel)
theorem dL_law_5407 : decode cL_law 5407 = .ok (.istore 5, 2) := zd_dec hw84 (q := 31) rfl (by decide +kernel)
theorem dL_law_5409 : decode cL_law 5409 = .ok (.aload_n 2, 1) := zd_dec hw84 (q := 33) rfl (by decide +kernel)
theorem dL_law_5410 : decode cL_law 5410 = .ok (.aload_n 0, 1) := zd_dec hw84 (q := 34) rfl (by decide +kernel)
theorem dL_law_5411 : decode cL_law 5411 = .ok (.iload 4, 2) := zd_dec hw84 (q := 35) rfl (by decide +kernel)
theorem dL_law_5413 : decode cL_law 5413 = .ok (.iconst 1, 1) := zd_dec hw84 (q := 37) rfl (by decide +kernel)
theorem dL_law_5414 : decode cL_law 5414 = .ok (.iadd, 1) := zd_dec hw84 (q := 38) rfl (by decide +kernel)
theorem dL_law_5415 : decode cL_law 5415 = .ok (.iaload, 1) := zd_dec hw84 (q := 39) rfl (by decide +kernel)
theorem dL_law_5416 : decode cL_law 5416 = .ok (.aload_n 0, 1) := zd_dec hw84 (q := 40) rfl (by decide +kernel)
theorem dL_law_5417 : decode cL_law 5417 = .ok (.iload 4, 2) := zd_dec hw84 (q := 41) rfl (by decide +kernel)
theorem dL_law_5419 : decode cL_law 5419 = .ok (.iconst 2, 1) := zd_dec hw84 (q := 43) rfl (by decide +kernel)
theorem dL_law_5420 : decode cL_law 5420 = .ok (.iadd, 1) := zd_dec hw84 (q := 44) rfl (by decide +kernel)
theorem dL_law_5421 : decode cL_law 5421 = .ok (.iaload, 1) := zd_dec hw84 (q := 45) rfl (by decide +kernel)
theorem dL_law_5422 : decode cL_law 5422 = .ok (.aload_n 0, 1) := zd_dec hw84 (q := 46) rfl (by decide +kernel)
theorem dL_law_5423 : decode cL_law 5423 = .ok (.iload 4, 2) := zd_dec hw84 (q := 47) rfl (by decide +kernel)
theorem dL_law_5425 : decode cL_law 5425 = .ok (.iconst 3, 1) := zd_dec hw84 (q := 49) rfl (by decide +kernel)
theorem dL_law_5426 : decode cL_law 5426 = .ok (.iadd, 1) := zd_dec hw84 (q := 50) rfl (by decide +kernel)
theorem dL_law_5427 : decode cL_law 5427 = .ok (.iaload, 1) := zd_dec hw84 (q := 51) rfl (by decide +kernel)
theorem dL_law_5428 : decode cL_law 5428 = .ok (.invokevirtual 509, 3) := zd_dec hw84 (q := 52) rfl (by decide +kernel)
theorem dL_law_5431 : decode cL_law 5431 = .ok (.aload_n 2, 1) := zd_dec hw84 (q := 55) rfl (by decide +kernel)
theorem dL_law_5432 : decode cL_law 5432 = .ok (.invokevirtual 281, 3) := zd_dec hw84 (q := 56) rfl (by decide +kernel)
theorem dL_law_5435 : decode cL_law 5435 = .ok (.iload 5, 2) := zd_dec hw84 (q := 59) rfl (by decide +kernel)
theorem dL_law_5437 : decode cL_law 5437 = .ok (.if_icmp .eq 5, 3) := zd_dec hw84 (q := 61) rfl (by decide +kernel)
theorem dL_law_5442 : decode cL_law 5442 = .ok (.goto 560, 3) := zd_dec hw85 (q := 2) rfl (by decide +kernel)
theorem dL_law_5440 : decode cL_law 5440 = .ok (.iconst 0, 1) := zd_dec hw85 (q := 0) rfl (by decide +kernel)
theorem dL_law_5441 : decode cL_law 5441 = .ok (.ireturn, 1) := zd_dec hw85 (q := 1) rfl (by decide +kernel)
theorem dL_law_5445 : decode cL_law 5445 = .ok (.aload_n 1, 1) := zd_dec hw85 (q := 5) rfl (by decide +kernel)
theorem dL_law_5446 : decode cL_law 5446 = .ok (.aload_n 0, 1) := zd_dec hw85 (q := 6) rfl (by decide +kernel)
theorem dL_law_5447 : decode cL_law 5447 = .ok (.iload 4, 2) := zd_dec hw85 (q := 7) rfl (by decide +kernel)
theorem dL_law_5449 : decode cL_law 5449 = .ok (.iconst 1, 1) := zd_dec hw85 (q := 9) rfl (by decide +kernel)
theorem dL_law_5450 : decode cL_law 5450 = .ok (.iadd, 1) := zd_dec hw85 (q := 10) rfl (by decide +kernel)
theorem dL_law_5451 : decode cL_law 5451 = .ok (.iaload, 1) := zd_dec hw85 (q := 11) rfl (by decide +kernel)
theorem dL_law_5452 : decode cL_law 5452 = .ok (.aload_n 0, 1) := zd_dec hw85 (q := 12) rfl (by decide +kernel)
theorem dL_law_5453 : decode cL_law 5453 = .ok (.iload 4, 2) := zd_dec hw85 (q := 13) rfl (by decide +kernel)
theorem dL_law_5455 : decode cL_law 5455 = .ok (.iconst 2, 1) := zd_dec hw85 (q := 15) rfl (by decide +kernel)
theorem dL_law_5456 : decode cL_law 5456 = .ok (.iadd, 1) := zd_dec hw85 (q := 16) rfl (by decide +kernel)
theorem dL_law_5457 : decode cL_law 5457 = .ok (.iaload, 1) := zd_dec hw85 (q := 17) rfl (by decide +kernel)
theorem dL_law_5458 : decode cL_law 5458 = .ok (.aload_n 3, 1) := zd_dec hw85 (q := 18) rfl (by decide +kernel)
theorem dL_law_5459 : decode cL_law 5459 = .ok (.invokestatic 510, 3) := zd_dec hw85 (q := 19) rfl (by decide +kernel)
theorem dL_law_5462 : decode cL_law 5462 = .ok (.istore 5, 2) := zd_dec hw85 (q := 22) rfl (by decide +kernel)
theorem dL_law_5464 : decode cL_law 5464 = .ok (.aload_n 2, 1) := zd_dec hw85 (q := 24) rfl (by decide +kernel)
theorem dL_law_5465 : decode cL_law 5465 = .ok (.aload_n 0, 1) := zd_dec hw85 (q := 25) rfl (by decide +kernel)
theorem dL_law_5466 : decode cL_law 5466 = .ok (.iload 4, 2) := zd_dec hw85 (q := 26) rfl (by decide +kernel)
theorem dL_law_5468 : decode cL_law 5468 = .ok (.iconst 1, 1) := zd_dec hw85 (q := 28) rfl (by decide +kernel)
theorem dL_law_5469 : decode cL_law 5469 = .ok (.iadd, 1) := zd_dec hw85 (q := 29) rfl (by decide +kernel)
theorem dL_law_5470 : decode cL_law 5470 = .ok (.iaload, 1) := zd_dec hw85 (q := 30) rfl (by decide +kernel)
theorem dL_law_5471 : decode cL_law 5471 = .ok (.aload_n 0, 1) := zd_dec hw85 (q := 31) rfl (by decide +kernel)
theorem dL_law_5472 : decode cL_law 5472 = .ok (.iload 4, 2) := zd_dec hw85 (q := 32) rfl (by decide +kernel)
theorem dL_law_5474 : decode cL_law 5474 = .ok (.iconst 2, 1) := zd_dec hw85 (q := 34) rfl (by decide +kernel)
theorem dL_law_5475 : decode cL_law 5475 = .ok (.iadd, 1) := zd_dec hw85 (q := 35) rfl (by decide +kernel)
theorem dL_law_5476 : decode cL_law 5476 = .ok (.iaload, 1) := zd_dec hw85 (q := 36) rfl (by decide +kernel)
theorem dL_law_5477 : decode cL_law 5477 = .ok (.invokevirtual 512, 3) := zd_dec hw85 (q := 37) rfl (by decide +kernel)
theorem dL_law_5480 : decode cL_law 5480 = .ok (.istore 6, 2) := zd_dec hw85 (q := 40) rfl (by decide +kernel)
theorem dL_law_5482 : decode cL_law 5482 = .ok (.aload_n 2, 1) := zd_dec hw85 (q := 42) rfl (by decide +kernel)
theorem dL_law_5483 : decode cL_law 5483 = .ok (.invokevirtual 281, 3) := zd_dec hw85 (q := 43) rfl (by decide +kernel)
theorem dL_law_5486 : decode cL_law 5486 = .ok (.iload 5, 2) := zd_dec hw85 (q := 46) rfl (by decide +kernel)
theorem dL_law_5488 : decode cL_law 5488 = .ok (.if_icmp .eq 5, 3) := zd_dec hw85 (q := 48) rfl (by decide +kernel)
theorem dL_law_5493 : decode cL_law 5493 = .ok (.iload 5, 2) := zd_dec hw85 (q := 53) rfl (by decide +kernel)
theorem dL_law_5495 : decode cL_law 5495 = .ok (.ifCond .ne 15, 3) := zd_dec hw85 (q := 55) rfl (by decide +kernel)
theorem dL_law_5510 : decode cL_law 5510 = .ok (.goto 492, 3) := zd_dec hw86 (q := 6) rfl (by decide +kernel)
theorem dL_law_5498 : decode cL_law 5498 = .ok (.aload_n 3, 1) := zd_dec hw85 (q := 58) rfl (by decide +kernel)
theorem dL_law_5499 : decode cL_law 5499 = .ok (.iconst 0, 1) := zd_dec hw85 (q := 59) rfl (by decide +kernel)
theorem dL_law_5500 : decode cL_law 5500 = .ok (.laload, 1) := zd_dec hw85 (q := 60) rfl (by decide +kernel)
theorem dL_law_5501 : decode cL_law 5501 = .ok (.iload 6, 2) := zd_dec hw85 (q := 61) rfl (by decide +kernel)
theorem dL_law_5503 : decode cL_law 5503 = .ok (.i2l, 1) := zd_dec hw85 (q := 63) rfl (by decide +kernel)
theorem dL_law_5504 : decode cL_law 5504 = .ok (.lcmp, 1) := zd_dec hw86 (q := 0) rfl (by decide +kernel)
theorem dL_law_5505 : decode cL_law 5505 = .ok (.ifCond .eq 5, 3) := zd_dec hw86 (q := 1) rfl (by decide +kernel)
theorem dL_law_5508 : decode cL_law 5508 = .ok (.iconst 0, 1) := zd_dec hw86 (q := 4) rfl (by decide +kernel)
theorem dL_law_5509 : decode cL_law 5509 = .ok (.ireturn, 1) := zd_dec hw86 (q := 5) rfl (by decide +kernel)
theorem dL_law_5491 : decode cL_law 5491 = .ok (.iconst 0, 1) := zd_dec hw85 (q := 51) rfl (by decide +kernel)
theorem dL_law_5492 : decode cL_law 5492 = .ok (.ireturn, 1) := zd_dec hw85 (q := 52) rfl (by decide +kernel)
theorem dL_law_5513 : decode cL_law 5513 = .ok (.aload_n 1, 1) := zd_dec hw86 (q := 9) rfl (by decide +kernel)
theorem dL_law_5514 : decode cL_law 5514 = .ok (.aload_n 0, 1) := zd_dec hw86 (q := 10) rfl (by decide +kernel)
theorem dL_law_5515 : decode cL_law 5515 = .ok (.iload 4, 2) := zd_dec hw86 (q := 11) rfl (by decide +kernel)
theorem dL_law_5517 : decode cL_law 5517 = .ok (.iconst 1, 1) := zd_dec hw86 (q := 13) rfl (by decide +kernel)
theorem dL_law_5518 : decode cL_law 5518 = .ok (.iadd, 1) := zd_dec hw86 (q := 14) rfl (by decide +kernel)
theorem dL_law_5519 : decode cL_law 5519 = .ok (.iaload, 1) := zd_dec hw86 (q := 15) rfl (by decide +kernel)
theorem dL_law_5520 : decode cL_law 5520 = .ok (.aload_n 0, 1) := zd_dec hw86 (q := 16) rfl (by decide +kernel)
theorem dL_law_5521 : decode cL_law 5521 = .ok (.iload 4, 2) := zd_dec hw86 (q := 17) rfl (by decide +kernel)
theorem dL_law_5523 : decode cL_law 5523 = .ok (.iconst 2, 1) := zd_dec hw86 (q := 19) rfl (by decide +kernel)
theorem dL_law_5524 : decode cL_law 5524 = .ok (.iadd, 1) := zd_dec hw86 (q := 20) rfl (by decide +kernel)
theorem dL_law_5525 : decode cL_law 5525 = .ok (.iaload, 1) := zd_dec hw86 (q := 21) rfl (by decide +kernel)
theorem dL_law_5526 : decode cL_law 5526 = .ok (.aload_n 3, 1) := zd_dec hw86 (q := 22) rfl (by decide +kernel)
theorem dL_law_5527 : decode cL_law 5527 = .ok (.invokestatic 513, 3) := zd_dec hw86 (q := 23) rfl (by decide +kernel)
theorem dL_law_5530 : decode cL_law 5530 = .ok (.istore 5, 2) := zd_dec hw86 (q := 26) rfl (by decide +kernel)
theorem dL_law_5532 : decode cL_law 5532 = .ok (.aload_n 2, 1) := zd_dec hw86 (q := 28) rfl (by decide +kernel)
theorem dL_law_5533 : decode cL_law 5533 = .ok (.aload_n 0, 1) := zd_dec hw86 (q := 29) rfl (by decide +kernel)
theorem dL_law_5534 : decode cL_law 5534 = .ok (.iload 4, 2) := zd_dec hw86 (q := 30) rfl (by decide +kernel)
theorem dL_law_5536 : decode cL_law 5536 = .ok (.iconst 1, 1) := zd_dec hw86 (q := 32) rfl (by decide +kernel)
theorem dL_law_5537 : decode cL_law 5537 = .ok (.iadd, 1) := zd_dec hw86 (q := 33) rfl (by decide +kernel)
theorem dL_law_5538 : decode cL_law 5538 = .ok (.iaload, 1) := zd_dec hw86 (q := 34) rfl (by decide +kernel)
theorem dL_law_5539 : decode cL_law 5539 = .ok (.aload_n 0, 1) := zd_dec hw86 (q := 35) rfl (by decide +kernel)
theorem dL_law_5540 : decode cL_law 5540 = .ok (.iload 4, 2) := zd_dec hw86 (q := 36) rfl (by decide +kernel)
theorem dL_law_5542 : decode cL_law 5542 = .ok (.iconst 2, 1) := zd_dec hw86 (q := 38) rfl (by decide +kernel)
theorem dL_law_5543 : decode cL_law 5543 = .ok (.iadd, 1) := zd_dec hw86 (q := 39) rfl (by decide +kernel)
theorem dL_law_5544 : decode cL_law 5544 = .ok (.iaload, 1) := zd_dec hw86 (q := 40) rfl (by decide +kernel)
theorem dL_law_5545 : decode cL_law 5545 = .ok (.invokevirtual 515, 3) := zd_dec hw86 (q := 41) rfl (by decide +kernel)
theorem dL_law_5548 : decode cL_law 5548 = .ok (.istore 6, 2) := zd_dec hw86 (q := 44) rfl (by decide +kernel)
theorem dL_law_5550 : decode cL_law 5550 = .ok (.aload_n 2, 1) := zd_dec hw86 (q := 46) rfl (by decide +kernel)
theorem dL_law_5551 : decode cL_law 5551 = .ok (.invokevirtual 281, 3) := zd_dec hw86 (q := 47) rfl (by decide +kernel)
theorem dL_law_5554 : decode cL_law 5554 = .ok (.iload 5, 2) := zd_dec hw86 (q := 50) rfl (by decide +kernel)
theorem dL_law_5556 : decode cL_law 5556 = .ok (.if_icmp .eq 5, 3) := zd_dec hw86 (q := 52) rfl (by decide +kernel)
theorem dL_law_5561 : decode cL_law 5561 = .ok (.iload 5, 2) := zd_dec hw86 (q := 57) rfl (by decide +kernel)
theorem dL_law_5563 : decode cL_law 5563 = .ok (.ifCond .ne 22, 3) := zd_dec hw86 (q := 59) rfl (by decide +kernel)
theorem dL_law_5585 : decode cL_law 5585 = .ok (.goto 417, 3) := zd_dec hw87 (q := 17) rfl (by decide +kernel)
theorem dL_law_5566 : decode cL_law 5566 = .ok (.aload_n 3, 1) := zd_dec hw86 (q := 62) rfl (by decide +kernel)
theorem dL_law_5567 : decode cL_law 5567 = .ok (.iconst 0, 1) := zd_dec hw86 (q := 63) rfl (by decide +kernel)
theorem dL_law_5568 : decode cL_law 5568 = .ok (.laload, 1) := zd_dec hw87 (q := 0) rfl (by decide +kernel)
theorem dL_law_5569 : decode cL_law 5569 = .ok (.iload 6, 2) := zd_dec hw87 (q := 1) rfl (by decide +kernel)
theorem dL_law_5571 : decode cL_law 5571 = .ok (.ifCond .eq 7, 3) := zd_dec hw87 (q := 3) rfl (by decide +kernel)
theorem dL_law_5578 : decode cL_law 5578 = .ok (.lconst 0, 1) := zd_dec hw87 (q := 10) rfl (by decide +kernel)
theorem dL_law_5579 : decode cL_law 5579 = .ok (.lcmp, 1) := zd_dec hw87 (q := 11) rfl (by decide +kernel)
theorem dL_law_5580 : decode cL_law 5580 = .ok (.ifCond .eq 5, 3) := zd_dec hw87 (q := 12) rfl (by decide +kernel)
theorem dL_law_5583 : decode cL_law 5583 = .ok (.iconst 0, 1) := zd_dec hw87 (q := 15) rfl (by decide +kernel)
theorem dL_law_5584 : decode cL_law 5584 = .ok (.ireturn, 1) := zd_dec hw87 (q := 16) rfl (by decide +kernel)
theorem dL_law_5574 : decode cL_law 5574 = .ok (.lconst 1, 1) := zd_dec hw87 (q := 6) rfl (by decide +kernel)
theorem dL_law_5575 : decode cL_law 5575 = .ok (.goto 4, 3) := zd_dec hw87 (q := 7) rfl (by decide +kernel)
theorem dL_law_5559 : decode cL_law 5559 = .ok (.iconst 0, 1) := zd_dec hw86 (q := 55) rfl (by decide +kernel)
theorem dL_law_5560 : decode cL_law 5560 = .ok (.ireturn, 1) := zd_dec hw86 (q := 56) rfl (by decide +kernel)
theorem dL_law_5588 : decode cL_law 5588 = .ok (.aload_n 1, 1) := zd_dec hw87 (q := 20) rfl (by decide +kernel)
theorem dL_law_5589 : decode cL_law 5589 = .ok (.aload_n 0, 1) := zd_dec hw87 (q := 21) rfl (by decide +kernel)
theorem dL_law_5590 : decode cL_law 5590 = .ok (.iload 4, 2) := zd_dec hw87 (q := 22) rfl (by decide +kernel)
theorem dL_law_5592 : decode cL_law 5592 = .ok (.iconst 1, 1) := zd_dec hw87 (q := 24) rfl (by decide +kernel)
theorem dL_law_5593 : decode cL_law 5593 = .ok (.iadd, 1) := zd_dec hw87 (q := 25) rfl (by decide +kernel)
theorem dL_law_5594 : decode cL_law 5594 = .ok (.iaload, 1) := zd_dec hw87 (q := 26) rfl (by decide +kernel)
theorem dL_law_5595 : decode cL_law 5595 = .ok (.invokestatic 516, 3) := zd_dec hw87 (q := 27) rfl (by decide +kernel)
theorem dL_law_5598 : decode cL_law 5598 = .ok (.istore 5, 2) := zd_dec hw87 (q := 30) rfl (by decide +kernel)
theorem dL_law_5600 : decode cL_law 5600 = .ok (.aload_n 2, 1) := zd_dec hw87 (q := 32) rfl (by decide +kernel)
theorem dL_law_5601 : decode cL_law 5601 = .ok (.aload_n 0, 1) := zd_dec hw87 (q := 33) rfl (by decide +kernel)
theorem dL_law_5602 : decode cL_law 5602 = .ok (.iload 4, 2) := zd_dec hw87 (q := 34) rfl (by decide +kernel)
theorem dL_law_5604 : decode cL_law 5604 = .ok (.iconst 1, 1) := zd_dec hw87 (q := 36) rfl (by decide +kernel)
theorem dL_law_5605 : decode cL_law 5605 = .ok (.iadd, 1) := zd_dec hw87 (q := 37) rfl (by decide +kernel)
theorem dL_law_5606 : decode cL_law 5606 = .ok (.iaload, 1) := zd_dec hw87 (q := 38) rfl (by decide +kernel)
theorem dL_law_5607 : decode cL_law 5607 = .ok (.invokevirtual 519, 3) := zd_dec hw87 (q := 39) rfl (by decide +kernel)
theorem dL_law_5610 : decode cL_law 5610 = .ok (.aload_n 2, 1) := zd_dec hw87 (q := 42) rfl (by decide +kernel)
theorem dL_law_5611 : decode cL_law 5611 = .ok (.invokevirtual 281, 3) := zd_dec hw87 (q := 43) rfl (by decide +kernel)
theorem dL_law_5614 : decode cL_law 5614 = .ok (.iload 5, 2) := zd_dec hw87 (q := 46) rfl (by decide +kernel)
theorem dL_law_5616 : decode cL_law 5616 = .ok (.if_icmp .eq 5, 3) := zd_dec hw87 (q := 48) rfl (by decide +kernel)
theorem dL_law_5621 : decode cL_law 5621 = .ok (.goto 381, 3) := zd_dec hw87 (q := 53) rfl (by decide +kernel)
theorem dL_law_5619 : decode cL_law 5619 = .ok (.iconst 0, 1) := zd_dec hw87 (q := 51) rfl (by decide +kernel)
theorem dL_law_5620 : decode cL_law 5620 = .ok (.ireturn, 1) := zd_dec hw87 (q := 52) rfl (by decide +kernel)
theorem dL_law_5624 : decode cL_law 5624 = .ok (.aload_n 1, 1) := zd_dec hw87 (q := 56) rfl (by decide +kernel)
theorem dL_law_5625 : decode cL_law 5625 = .ok (.aload_n 3, 1) := zd_dec hw87 (q := 57) rfl (by decide +kernel)
theorem dL_law_5626 : decode cL_law 5626 = .ok (.invokestatic 520, 3) := zd_dec hw87 (q := 58) rfl (by decide +kernel)
theorem dL_law_5629 : decode cL_law 5629 = .ok (.istore 5, 2) := zd_dec hw87 (q := 61) rfl (by decide +kernel)
theorem dL_law_5631 : decode cL_law 5631 = .ok (.aload_n 2, 1) := zd_dec hw87 (q := 63) rfl (by decide +kernel)
theorem dL_law_5632 : decode cL_law 5632 = .ok (.invokevirtual 522, 3) := zd_dec hw88 (q := 0) rfl (by decide +kernel)
theorem dL_law_5635 : decode cL_law 5635 = .ok (.lstore 6, 2) := zd_dec hw88 (q := 3) rfl (by decide +kernel)
theorem dL_law_5637 : decode cL_law 5637 = .ok (.aload_n 2, 1) := zd_dec hw88 (q := 5) rfl (by decide +kernel)
theorem dL_law_5638 : decode cL_law 5638 = .ok (.invokevirtual 281, 3) := zd_dec hw88 (q := 6) rfl (by decide +kernel)
theorem dL_law_5641 : decode cL_law 5641 = .ok (.iload 5, 2) := zd_dec hw88 (q := 9) rfl (by decide +kernel)
theorem dL_law_5643 : decode cL_law 5643 = .ok (.if_icmp .eq 5, 3) := zd_dec hw88 (q := 11) rfl (by decide +kernel)
theorem dL_law_5648 : decode cL_law 5648 = .ok (.iload 5, 2) := zd_dec hw88 (q := 16) rfl (by decide +kernel)
theorem dL_law_5650 : decode cL_law 5650 = .ok (.ifCond .ne 14, 3) := zd_dec hw88 (q := 18) rfl (by decide +kernel)
theorem dL_law_5664 : decode cL_law 5664 = .ok (.goto 338, 3) := zd_dec hw88 (q := 32) rfl (by decide +kernel)
theorem dL_law_5653 : decode cL_law 5653 = .ok (.aload_n 3, 1) := zd_dec hw88 (q := 21) rfl (by decide +kernel)
theorem dL_law_5654 : decode cL_law 5654 = .ok (.iconst 0, 1) := zd_dec hw88 (q := 22) rfl (by decide +kernel)
theorem dL_law_5655 : decode cL_law 5655 = .ok (.laload, 1) := zd_dec hw88 (q := 23) rfl (by decide +kernel)
theorem dL_law_5656 : decode cL_law 5656 = .ok (.lload 6, 2) := zd_dec hw88 (q := 24) rfl (by decide +kernel)
theorem dL_law_5658 : decode cL_law 5658 = .ok (.lcmp, 1) := zd_dec hw88 (q := 26) rfl (by decide +kernel)
theorem dL_law_5659 : decode cL_law 5659 = .ok (.ifCond .eq 5, 3) := zd_dec hw88 (q := 27) rfl (by decide +kernel)
theorem dL_law_5662 : decode cL_law 5662 = .ok (.iconst 0, 1) := zd_dec hw88 (q := 30) rfl (by decide +kernel)
theorem dL_law_5663 : decode cL_law 5663 = .ok (.ireturn, 1) := zd_dec hw88 (q := 31) rfl (by decide +kernel)
theorem dL_law_5646 : decode cL_law 5646 = .ok (.iconst 0, 1) := zd_dec hw88 (q := 14) rfl (by decide +kernel)
theorem dL_law_5647 : decode cL_law 5647 = .ok (.ireturn, 1) := zd_dec hw88 (q := 15) rfl (by decide +kernel)
theorem dL_law_5667 : decode cL_law 5667 = .ok (.aload_n 1, 1) := zd_dec hw88 (q := 35) rfl (by decide +kernel)
theorem dL_law_5668 : decode cL_law 5668 = .ok (.aload_n 0, 1) := zd_dec hw88 (q := 36) rfl (by decide +kernel)
theorem dL_law_5669 : decode cL_law 5669 = .ok (.iload 4, 2) := zd_dec hw88 (q := 37) rfl (by decide +kernel)
theorem dL_law_5671 : decode cL_law 5671 = .ok (.iconst 1, 1) := zd_dec hw88 (q := 39) rfl (by decide +kernel)
theorem dL_law_5672 : decode cL_law 5672 = .ok (.iadd, 1) := zd_dec hw88 (q := 40) rfl (by decide +kernel)
theorem dL_law_5673 : decode cL_law 5673 = .ok (.iaload, 1) := zd_dec hw88 (q := 41) rfl (by decide +kernel)
theorem dL_law_5674 : decode cL_law 5674 = .ok (.aload_n 0, 1) := zd_dec hw88 (q := 42) rfl (by decide +kernel)
theorem dL_law_5675 : decode cL_law 5675 = .ok (.iload 4, 2) := zd_dec hw88 (q := 43) rfl (by decide +kernel)
theorem dL_law_5677 : decode cL_law 5677 = .ok (.iconst 2, 1) := zd_dec hw88 (q := 45) rfl (by decide +kernel)
theorem dL_law_5678 : decode cL_law 5678 = .ok (.iadd, 1) := zd_dec hw88 (q := 46) rfl (by decide +kernel)
theorem dL_law_5679 : decode cL_law 5679 = .ok (.iaload, 1) := zd_dec hw88 (q := 47) rfl (by decide +kernel)
theorem dL_law_5680 : decode cL_law 5680 = .ok (.aload_n 3, 1) := zd_dec hw88 (q := 48) rfl (by decide +kernel)
theorem dL_law_5681 : decode cL_law 5681 = .ok (.invokestatic 523, 3) := zd_dec hw88 (q := 49) rfl (by decide +kernel)
theorem dL_law_5684 : decode cL_law 5684 = .ok (.istore 5, 2) := zd_dec hw88 (q := 52) rfl (by decide +kernel)
theorem dL_law_5686 : decode cL_law 5686 = .ok (.aload_n 2, 1) := zd_dec hw88 (q := 54) rfl (by decide +kernel)
theorem dL_law_5687 : decode cL_law 5687 = .ok (.aload_n 0, 1) := zd_dec hw88 (q := 55) rfl (by decide +kernel)
theorem dL_law_5688 : decode cL_law 5688 = .ok (.iload 4, 2) := zd_dec hw88 (q := 56) rfl (by decide +kernel)
theorem dL_law_5690 : decode cL_law 5690 = .ok (.iconst 1, 1) := zd_dec hw88 (q := 58) rfl (by decide +kernel)
theorem dL_law_5691 : decode cL_law 5691 = .ok (.iadd, 1) := zd_dec hw88 (q := 59) rfl (by decide +kernel)
theorem dL_law_5692 : decode cL_law 5692 = .ok (.iaload, 1) := zd_dec hw88 (q := 60) rfl (by decide +kernel)
theorem dL_law_5693 : decode cL_law 5693 = .ok (.aload_n 0, 1) := zd_dec hw88 (q := 61) rfl (by decide +kernel)
theorem dL_law_5694 : decode cL_law 5694 = .ok (.iload 4, 2) := zd_dec hw88 (q := 62) rfl (by decide +kernel)
theorem dL_law_5696 : decode cL_law 5696 = .ok (.iconst 2, 1) := zd_dec hw89 (q := 0) rfl (by decide +kernel)
theorem dL_law_5697 : decode cL_law 5697 = .ok (.iadd, 1) := zd_dec hw89 (q := 1) rfl (by decide +kernel)
theorem dL_law_5698 : decode cL_law 5698 = .ok (.iaload, 1) := zd_dec hw89 (q := 2) rfl (by decide +kernel)
theorem dL_law_5699 : decode cL_law 5699 = .ok (.invokevirtual 525, 3) := zd_dec hw89 (q := 3) rfl (by decide +kernel)
theorem dL_law_5702 : decode cL_law 5702 = .ok (.istore 6, 2) := zd_dec hw89 (q := 6) rfl (by decide +kernel)
theorem dL_law_5704 : decode cL_law 5704 = .ok (.aload_n 2, 1) := zd_dec hw89 (q := 8) rfl (by decide +kernel)
theorem dL_law_5705 : decode cL_law 5705 = .ok (.invokevirtual 281, 3) := zd_dec hw89 (q := 9) rfl (by decide +kernel)
theorem dL_law_5708 : decode cL_law 5708 = .ok (.iload 5, 2) := zd_dec hw89 (q := 12) rfl (by decide +kernel)
theorem dL_law_5710 : decode cL_law 5710 = .ok (.if_icmp .eq 5, 3) := zd_dec hw89 (q := 14) rfl (by decide +kernel)
theorem dL_law_5715 : decode cL_law 5715 = .ok (.iload 5, 2) := zd_dec hw89 (q := 19) rfl (by decide +kernel)
theorem dL_law_5717 : decode cL_law 5717 = .ok (.ifCond .ne 15, 3) := zd_dec hw89 (q := 21) rfl (by decide +kernel)
theorem dL_law_5732 : decode cL_law 5732 = .ok (.goto 270, 3) := zd_dec hw89 (q := 36) rfl (by decide +kernel)
theorem dL_law_5720 : decode cL_law 5720 = .ok (.aload_n 3, 1) := zd_dec hw89 (q := 24) rfl (by decide +kernel)
theorem dL_law_5721 : decode cL_law 5721 = .ok (.iconst 0, 1) := zd_dec hw89 (q := 25) rfl (by decide +kernel)
theorem dL_law_5722 : decode cL_law 5722 = .ok (.laload, 1) := zd_dec hw89 (q := 26) rfl (by decide +kernel)
theorem dL_law_5723 : decode cL_law 5723 = .ok (.iload 6, 2) := zd_dec hw89 (q := 27) rfl (by decide +kernel)
theorem dL_law_5725 : decode cL_law 5725 = .ok (.i2l, 1) := zd_dec hw89 (q := 29) rfl (by decide +kernel)
theorem dL_law_5726 : decode cL_law 5726 = .ok (.lcmp, 1) := zd_dec hw89 (q := 30) rfl (by decide +kernel)
theorem dL_law_5727 : decode cL_law 5727 = .ok (.ifCond .eq 5, 3) := zd_dec hw89 (q := 31) rfl (by decide +kernel)
theorem dL_law_5730 : decode cL_law 5730 = .ok (.iconst 0, 1) := zd_dec hw89 (q := 34) rfl (by decide +kernel)
theorem dL_law_5731 : decode cL_law 5731 = .ok (.ireturn, 1) := zd_dec hw89 (q := 35) rfl (by decide +kernel)
theorem dL_law_5713 : decode cL_law 5713 = .ok (.iconst 0, 1) := zd_dec hw89 (q := 17) rfl (by decide +kernel)
theorem dL_law_5714 : decode cL_law 5714 = .ok (.ireturn, 1) := zd_dec hw89 (q := 18) rfl (by decide +kernel)
theorem dL_law_5735 : decode cL_law 5735 = .ok (.aload_n 1, 1) := zd_dec hw89 (q := 39) rfl (by decide +kernel)
theorem dL_law_5736 : decode cL_law 5736 = .ok (.aload_n 0, 1) := zd_dec hw89 (q := 40) rfl (by decide +kernel)
theorem dL_law_5737 : decode cL_law 5737 = .ok (.iload 4, 2) := zd_dec hw89 (q := 41) rfl (by decide +kernel)
theorem dL_law_5739 : decode cL_law 5739 = .ok (.iconst 1, 1) := zd_dec hw89 (q := 43) rfl (by decide +kernel)
theorem dL_law_5740 : decode cL_law 5740 = .ok (.iadd, 1) := zd_dec hw89 (q := 44) rfl (by decide +kernel)
theorem dL_law_5741 : decode cL_law 5741 = .ok (.iaload, 1) := zd_dec hw89 (q := 45) rfl (by decide +kernel)
theorem dL_law_5742 : decode cL_law 5742 = .ok (.aload_n 0, 1) := zd_dec hw89 (q := 46) rfl (by decide +kernel)
theorem dL_law_5743 : decode cL_law 5743 = .ok (.iload 4, 2) := zd_dec hw89 (q := 47) rfl (by decide +kernel)
theorem dL_law_5745 : decode cL_law 5745 = .ok (.iconst 2, 1) := zd_dec hw89 (q := 49) rfl (by decide +kernel)
theorem dL_law_5746 : decode cL_law 5746 = .ok (.iadd, 1) := zd_dec hw89 (q := 50) rfl (by decide +kernel)
theorem dL_law_5747 : decode cL_law 5747 = .ok (.iaload, 1) := zd_dec hw89 (q := 51) rfl (by decide +kernel)
theorem dL_law_5748 : decode cL_law 5748 = .ok (.aload_n 3, 1) := zd_dec hw89 (q := 52) rfl (by decide +kernel)
theorem dL_law_5749 : decode cL_law 5749 = .ok (.invokestatic 526, 3) := zd_dec hw89 (q := 53) rfl (by decide +kernel)
theorem dL_law_5752 : decode cL_law 5752 = .ok (.istore 5, 2) := zd_dec hw89 (q := 56) rfl (by decide +kernel)
theorem dL_law_5754 : decode cL_law 5754 = .ok (.aload_n 2, 1) := zd_dec hw89 (q := 58) rfl (by decide +kernel)
theorem dL_law_5755 : decode cL_law 5755 = .ok (.aload_n 0, 1) := zd_dec hw89 (q := 59) rfl (by decide +kernel)
theorem dL_law_5756 : decode cL_law 5756 = .ok (.iload 4, 2) := zd_dec hw89 (q := 60) rfl (by decide +kernel)
theorem dL_law_5758 : decode cL_law 5758 = .ok (.iconst 1, 1) := zd_dec hw89 (q := 62) rfl (by decide +kernel)
theorem dL_law_5759 : decode cL_law 5759 = .ok (.iadd, 1) := zd_dec hw89 (q := 63) rfl (by decide +kernel)
theorem dL_law_5760 : decode cL_law 5760 = .ok (.iaload, 1) := zd_dec hw90 (q := 0) rfl (by decide +kernel)
theorem dL_law_5761 : decode cL_law 5761 = .ok (.aload_n 0, 1) := zd_dec hw90 (q := 1) rfl (by decide +kernel)
theorem dL_law_5762 : decode cL_law 5762 = .ok (.iload 4, 2) := zd_dec hw90 (q := 2) rfl (by decide +kernel)
theorem dL_law_5764 : decode cL_law 5764 = .ok (.iconst 2, 1) := zd_dec hw90 (q := 4) rfl (by decide +kernel)
theorem dL_law_5765 : decode cL_law 5765 = .ok (.iadd, 1) := zd_dec hw90 (q := 5) rfl (by decide +kernel)
theorem dL_law_5766 : decode cL_law 5766 = .ok (.iaload, 1) := zd_dec hw90 (q := 6) rfl (by decide +kernel)
theorem dL_law_5767 : decode cL_law 5767 = .ok (.invokevirtual 528, 3) := zd_dec hw90 (q := 7) rfl (by decide +kernel)
theorem dL_law_5770 : decode cL_law 5770 = .ok (.istore 6, 2) := zd_dec hw90 (q := 10) rfl (by decide +kernel)
theorem dL_law_5772 : decode cL_law 5772 = .ok (.aload_n 2, 1) := zd_dec hw90 (q := 12) rfl (by decide +kernel)
theorem dL_law_5773 : decode cL_law 5773 = .ok (.invokevirtual 281, 3) := zd_dec hw90 (q := 13) rfl (by decide +kernel)
theorem dL_law_5776 : decode cL_law 5776 = .ok (.iload 5, 2) := zd_dec hw90 (q := 16) rfl (by decide +kernel)
theorem dL_law_5778 : decode cL_law 5778 = .ok (.if_icmp .eq 5, 3) := zd_dec hw90 (q := 18) rfl (by decide +kernel)
theorem dL_law_5783 : decode cL_law 5783 = .ok (.iload 5, 2) := zd_dec hw90 (q := 23) rfl (by decide +kernel)
theorem dL_law_5785 : decode cL_law 5785 = .ok (.ifCond .ne 22, 3) := zd_dec hw90 (q := 25) rfl (by decide +kernel)
theorem dL_law_5807 : decode cL_law 5807 = .ok (.goto 195, 3) := zd_dec hw90 (q := 47) rfl (by decide +kernel)
theorem dL_law_5788 : decode cL_law 5788 = .ok (.aload_n 3, 1) := zd_dec hw90 (q := 28) rfl (by decide +kernel)
theorem dL_law_5789 : decode cL_law 5789 = .ok (.iconst 0, 1) := zd_dec hw90 (q := 29) rfl (by decide +kernel)
theorem dL_law_5790 : decode cL_law 5790 = .ok (.laload, 1) := zd_dec hw90 (q := 30) rfl (by decide +kernel)
theorem dL_law_5791 : decode cL_law 5791 = .ok (.iload 6, 2) := zd_dec hw90 (q := 31) rfl (by decide +kernel)
theorem dL_law_5793 : decode cL_law 5793 = .ok (.ifCond .eq 7, 3) := zd_dec hw90 (q := 33) rfl (by decide +kernel)
theorem dL_law_5800 : decode cL_law 5800 = .ok (.lconst 0, 1) := zd_dec hw90 (q := 40) rfl (by decide +kernel)
theorem dL_law_5801 : decode cL_law 5801 = .ok (.lcmp, 1) := zd_dec hw90 (q := 41) rfl (by decide +kernel)
theorem dL_law_5802 : decode cL_law 5802 = .ok (.ifCond .eq 5, 3) := zd_dec hw90 (q := 42) rfl (by decide +kernel)
theorem dL_law_5805 : decode cL_law 5805 = .ok (.iconst 0, 1) := zd_dec hw90 (q := 45) rfl (by decide +kernel)
theorem dL_law_5806 : decode cL_law 5806 = .ok (.ireturn, 1) := zd_dec hw90 (q := 46) rfl (by decide +kernel)
theorem dL_law_5796 : decode cL_law 5796 = .ok (.lconst 1, 1) := zd_dec hw90 (q := 36) rfl (by decide +kernel)
theorem dL_law_5797 : decode cL_law 5797 = .ok (.goto 4, 3) := zd_dec hw90 (q := 37) rfl (by decide +kernel)
theorem dL_law_5781 : decode cL_law 5781 = .ok (.iconst 0, 1) := zd_dec hw90 (q := 21) rfl (by decide +kernel)
theorem dL_law_5782 : decode cL_law 5782 = .ok (.ireturn, 1) := zd_dec hw90 (q := 22) rfl (by decide +kernel)
theorem dL_law_5810 : decode cL_law 5810 = .ok (.aload_n 1, 1) := zd_dec hw90 (q := 50) rfl (by decide +kernel)
theorem dL_law_5811 : decode cL_law 5811 = .ok (.aload_n 0, 1) := zd_dec hw90 (q := 51) rfl (by decide +kernel)
theorem dL_law_5812 : decode cL_law 5812 = .ok (.iload 4, 2) := zd_dec hw90 (q := 52) rfl (by decide +kernel)
theorem dL_law_5814 : decode cL_law 5814 = .ok (.iconst 1, 1) := zd_dec hw90 (q := 54) rfl (by decide +kernel)
theorem dL_law_5815 : decode cL_law 5815 = .ok (.iadd, 1) := zd_dec hw90 (q := 55) rfl (by decide +kernel)
theorem dL_law_5816 : decode cL_law 5816 = .ok (.iaload, 1) := zd_dec hw90 (q := 56) rfl (by decide +kernel)
theorem dL_law_5817 : decode cL_law 5817 = .ok (.aload_n 0, 1) := zd_dec hw90 (q := 57) rfl (by decide +kernel)
theorem dL_law_5818 : decode cL_law 5818 = .ok (.iload 4, 2) := zd_dec hw90 (q := 58) rfl (by decide +kernel)
theorem dL_law_5820 : decode cL_law 5820 = .ok (.iconst 2, 1) := zd_dec hw90 (q := 60) rfl (by decide +kernel)
theorem dL_law_5821 : decode cL_law 5821 = .ok (.iadd, 1) := zd_dec hw90 (q := 61) rfl (by decide +kernel)
theorem dL_law_5822 : decode cL_law 5822 = .ok (.iaload, 1) := zd_dec hw90 (q := 62) rfl (by decide +kernel)
theorem dL_law_5823 : decode cL_law 5823 = .ok (.aload_n 0, 1) := zd_dec hw90 (q := 63) rfl (by decide +kernel)
theorem dL_law_5824 : decode cL_law 5824 = .ok (.iload 4, 2) := zd_dec hw91 (q := 0) rfl (by decide +kernel)
theorem dL_law_5826 : decode cL_law 5826 = .ok (.iconst 3, 1) := zd_dec hw91 (q := 2) rfl (by decide +kernel)
theorem dL_law_5827 : decode cL_law 5827 = .ok (.iadd, 1) := zd_dec hw91 (q := 3) rfl (by decide +kernel)
theorem dL_law_5828 : decode cL_law 5828 = .ok (.iaload, 1) := zd_dec hw91 (q := 4) rfl (by decide +kernel)
theorem dL_law_5829 : decode cL_law 5829 = .ok (.aload_n 3, 1) := zd_dec hw91 (q := 5) rfl (by decide +kernel)
theorem dL_law_5830 : decode cL_law 5830 = .ok (.invokestatic 529, 3) := zd_dec hw91 (q := 6) rfl (by decide +kernel)
theorem dL_law_5833 : decode cL_law 5833 = .ok (.istore 5, 2) := zd_dec hw91 (q := 9) rfl (by decide +kernel)
theorem dL_law_5835 : decode cL_law 5835 = .ok (.aload_n 2, 1) := zd_dec hw91 (q := 11) rfl (by decide +kernel)
theorem dL_law_5836 : decode cL_law 5836 = .ok (.aload_n 0, 1) := zd_dec hw91 (q := 12) rfl (by decide +kernel)
theorem dL_law_5837 : decode cL_law 5837 = .ok (.iload 4, 2) := zd_dec hw91 (q := 13) rfl (by decide +kernel)
theorem dL_law_5839 : decode cL_law 5839 = .ok (.iconst 1, 1) := zd_dec hw91 (q := 15) rfl (by decide +kernel)
theorem dL_law_5840 : decode cL_law 5840 = .ok (.iadd, 1) := zd_dec hw91 (q := 16) rfl (by decide +kernel)
theorem dL_law_5841 : decode cL_law 5841 = .ok (.iaload, 1) := zd_dec hw91 (q := 17) rfl (by decide +kernel)
theorem dL_law_5842 : decode cL_law 5842 = .ok (.aload_n 0, 1) := zd_dec hw91 (q := 18) rfl (by decide +kernel)
theorem dL_law_5843 : decode cL_law 5843 = .ok (.iload 4, 2) := zd_dec hw91 (q := 19) rfl (by decide +kernel)
theorem dL_law_5845 : decode cL_law 5845 = .ok (.iconst 2, 1) := zd_dec hw91 (q := 21) rfl (by decide +kernel)
theorem dL_law_5846 : decode cL_law 5846 = .ok (.iadd, 1) := zd_dec hw91 (q := 22) rfl (by decide +kernel)
theorem dL_law_5847 : decode cL_law 5847 = .ok (.iaload, 1) := zd_dec hw91 (q := 23) rfl (by decide +kernel)
theorem dL_law_5848 : decode cL_law 5848 = .ok (.aload_n 0, 1) := zd_dec hw91 (q := 24) rfl (by decide +kernel)
theorem dL_law_5849 : decode cL_law 5849 = .ok (.iload 4, 2) := zd_dec hw91 (q := 25) rfl (by decide +kernel)
theorem dL_law_5851 : decode cL_law 5851 = .ok (.iconst 3, 1) := zd_dec hw91 (q := 27) rfl (by decide +kernel)
theorem dL_law_5852 : decode cL_law 5852 = .ok (.iadd, 1) := zd_dec hw91 (q := 28) rfl (by decide +kernel)
theorem dL_law_5853 : decode cL_law 5853 = .ok (.iaload, 1) := zd_dec hw91 (q := 29) rfl (by decide +kernel)
theorem dL_law_5854 : decode cL_law 5854 = .ok (.invokevirtual 531, 3) := zd_dec hw91 (q := 30) rfl (by decide +kernel)
theorem dL_law_5857 : decode cL_law 5857 = .ok (.istore 6, 2) := zd_dec hw91 (q := 33) rfl (by decide +kernel)
theorem dL_law_5859 : decode cL_law 5859 = .ok (.aload_n 2, 1) := zd_dec hw91 (q := 35) rfl (by decide +kernel)
theorem dL_law_5860 : decode cL_law 5860 = .ok (.invokevirtual 281, 3) := zd_dec hw91 (q := 36) rfl (by decide +kernel)
theorem dL_law_5863 : decode cL_law 5863 = .ok (.iload 5, 2) := zd_dec hw91 (q := 39) rfl (by decide +kernel)
theorem dL_law_5865 : decode cL_law 5865 = .ok (.if_icmp .eq 5, 3) := zd_dec hw91 (q := 41) rfl (by decide +kernel)
theorem dL_law_5870 : decode cL_law 5870 = .ok (.iload 5, 2) := zd_dec hw91 (q := 46) rfl (by decide +kernel)
theorem dL_law_5872 : decode cL_law 5872 = .ok (.ifCond .ne 15, 3) := zd_dec hw91 (q := 48) rfl (by decide +kernel)
theorem dL_law_5887 : decode cL_law 5887 = .ok (.goto 115, 3) := zd_dec hw91 (q := 63) rfl (by decide +kernel)
theorem dL_law_5875 : decode cL_law 5875 = .ok (.aload_n 3, 1) := zd_dec hw91 (q := 51) rfl (by decide +kernel)
theorem dL_law_5876 : decode cL_law 5876 = .ok (.iconst 0, 1) := zd_dec hw91 (q := 52) rfl (by decide +kernel)
theorem dL_law_5877 : decode cL_law 5877 = .ok (.laload, 1) := zd_dec hw91 (q := 53) rfl (by decide +kernel)
theorem dL_law_5878 : decode cL_law 5878 = .ok (.iload 6, 2) := zd_dec hw91 (q := 54) rfl (by decide +kernel)
theorem dL_law_5880 : decode cL_law 5880 = .ok (.i2l, 1) := zd_dec hw91 (q := 56) rfl (by decide +kernel)
theorem dL_law_5881 : decode cL_law 5881 = .ok (.lcmp, 1) := zd_dec hw91 (q := 57) rfl (by decide +kernel)
theorem dL_law_5882 : decode cL_law 5882 = .ok (.ifCond .eq 5, 3) := zd_dec hw91 (q := 58) rfl (by decide +kernel)
theorem dL_law_5885 : decode cL_law 5885 = .ok (.iconst 0, 1) := zd_dec hw91 (q := 61) rfl (by decide +kernel)
theorem dL_law_5886 : decode cL_law 5886 = .ok (.ireturn, 1) := zd_dec hw91 (q := 62) rfl (by decide +kernel)
theorem dL_law_5868 : decode cL_law 5868 = .ok (.iconst 0, 1) := zd_dec hw91 (q := 44) rfl (by decide +kernel)
theorem dL_law_5869 : decode cL_law 5869 = .ok (.ireturn, 1) := zd_dec hw91 (q := 45) rfl (by decide +kernel)
theorem dL_law_5890 : decode cL_law 5890 = .ok (.aload_n 1, 1) := zd_dec hw92 (q := 2) rfl (by decide +kernel)
theorem dL_law_5891 : decode cL_law 5891 = .ok (.aload_n 0, 1) := zd_dec hw92 (q := 3) rfl (by decide +kernel)
theorem dL_law_5892 : decode cL_law 5892 = .ok (.iload 4, 2) := zd_dec hw92 (q := 4) rfl (by decide +kernel)
theorem dL_law_5894 : decode cL_law 5894 = .ok (.iconst 1, 1) := zd_dec hw92 (q := 6) rfl (by decide +kernel)
theorem dL_law_5895 : decode cL_law 5895 = .ok (.iadd, 1) := zd_dec hw92 (q := 7) rfl (by decide +kernel)
theorem dL_law_5896 : decode cL_law 5896 = .ok (.iaload, 1) := zd_dec hw92 (q := 8) rfl (by decide +kernel)
theorem dL_law_5897 : decode cL_law 5897 = .ok (.aload_n 3, 1) := zd_dec hw92 (q := 9) rfl (by decide +kernel)
theorem dL_law_5898 : decode cL_law 5898 = .ok (.invokestatic 532, 3) := zd_dec hw92 (q := 10) rfl (by decide +kernel)
theorem dL_law_5901 : decode cL_law 5901 = .ok (.istore 5, 2) := zd_dec hw92 (q := 13) rfl (by decide +kernel)
theorem dL_law_5903 : decode cL_law 5903 = .ok (.aload_n 2, 1) := zd_dec hw92 (q := 15) rfl (by decide +kernel)
theorem dL_law_5904 : decode cL_law 5904 = .ok (.aload_n 0, 1) := zd_dec hw92 (q := 16) rfl (by decide +kernel)
theorem dL_law_5905 : decode cL_law 5905 = .ok (.iload 4, 2) := zd_dec hw92 (q := 17) rfl (by decide +kernel)
theorem dL_law_5907 : decode cL_law 5907 = .ok (.iconst 1, 1) := zd_dec hw92 (q := 19) rfl (by decide +kernel)
theorem dL_law_5908 : decode cL_law 5908 = .ok (.iadd, 1) := zd_dec hw92 (q := 20) rfl (by decide +kernel)
theorem dL_law_5909 : decode cL_law 5909 = .ok (.iaload, 1) := zd_dec hw92 (q := 21) rfl (by decide +kernel)
theorem dL_law_5910 : decode cL_law 5910 = .ok (.invokevirtual 534, 3) := zd_dec hw92 (q := 22) rfl (by decide +kernel)
theorem dL_law_5913 : decode cL_law 5913 = .ok (.istore 6, 2) := zd_dec hw92 (q := 25) rfl (by decide +kernel)
theorem dL_law_5915 : decode cL_law 5915 = .ok (.aload_n 2, 1) := zd_dec hw92 (q := 27) rfl (by decide +kernel)
theorem dL_law_5916 : decode cL_law 5916 = .ok (.invokevirtual 281, 3) := zd_dec hw92 (q := 28) rfl (by decide +kernel)
theorem dL_law_5919 : decode cL_law 5919 = .ok (.iload 5, 2) := zd_dec hw92 (q := 31) rfl (by decide +kernel)
theorem dL_law_5921 : decode cL_law 5921 = .ok (.if_icmp .eq 5, 3) := zd_dec hw92 (q := 33) rfl (by decide +kernel)
theorem dL_law_5926 : decode cL_law 5926 = .ok (.iload 5, 2) := zd_dec hw92 (q := 38) rfl (by decide +kernel)
theorem dL_law_5928 : decode cL_law 5928 = .ok (.ifCond .ne 15, 3) := zd_dec hw92 (q := 40) rfl (by decide +kernel)
theorem dL_law_5943 : decode cL_law 5943 = .ok (.goto 59, 3) := zd_dec hw92 (q := 55) rfl (by decide +kernel)
theorem dL_law_5931 : decode cL_law 5931 = .ok (.aload_n 3, 1) := zd_dec hw92 (q := 43) rfl (by decide +kernel)
theorem dL_law_5932 : decode cL_law 5932 = .ok (.iconst 0, 1) := zd_dec hw92 (q := 44) rfl (by decide +kernel)
theorem dL_law_5933 : decode cL_law 5933 = .ok (.laload, 1) := zd_dec hw92 (q := 45) rfl (by decide +kernel)
theorem dL_law_5934 : decode cL_law 5934 = .ok (.iload 6, 2) := zd_dec hw92 (q := 46) rfl (by decide +kernel)
theorem dL_law_5936 : decode cL_law 5936 = .ok (.i2l, 1) := zd_dec hw92 (q := 48) rfl (by decide +kernel)
theorem dL_law_5937 : decode cL_law 5937 = .ok (.lcmp, 1) := zd_dec hw92 (q := 49) rfl (by decide +kernel)
theorem dL_law_5938 : decode cL_law 5938 = .ok (.ifCond .eq 5, 3) := zd_dec hw92 (q := 50) rfl (by decide +kernel)
theorem dL_law_5941 : decode cL_law 5941 = .ok (.iconst 0, 1) := zd_dec hw92 (q := 53) rfl (by decide +kernel)
theorem dL_law_5942 : decode cL_law 5942 = .ok (.ireturn, 1) := zd_dec hw92 (q := 54) rfl (by decide +kernel)
theorem dL_law_5924 : decode cL_law 5924 = .ok (.iconst 0, 1) := zd_dec hw92 (q := 36) rfl (by decide +kernel)
theorem dL_law_5925 : decode cL_law 5925 = .ok (.ireturn, 1) := zd_dec hw92 (q := 37) rfl (by decide +kernel)
theorem dL_law_5946 : decode cL_law 5946 = .ok (.aload_n 1, 1) := zd_dec hw92 (q := 58) rfl (by decide +kernel)
theorem dL_law_5947 : decode cL_law 5947 = .ok (.aload_n 0, 1) := zd_dec hw92 (q := 59) rfl (by decide +kernel)
theorem dL_law_5948 : decode cL_law 5948 = .ok (.iload 4, 2) := zd_dec hw92 (q := 60) rfl (by decide +kernel)
theorem dL_law_5950 : decode cL_law 5950 = .ok (.iconst 1, 1) := zd_dec hw92 (q := 62) rfl (by decide +kernel)
theorem dL_law_5951 : decode cL_law 5951 = .ok (.iadd, 1) := zd_dec hw92 (q := 63) rfl (by decide +kernel)
theorem dL_law_5952 : decode cL_law 5952 = .ok (.iaload, 1) := zd_dec hw93 (q := 0) rfl (by decide +kernel)
theorem dL_law_5953 : decode cL_law 5953 = .ok (.aload_n 3, 1) := zd_dec hw93 (q := 1) rfl (by decide +kernel)
theorem dL_law_5954 : decode cL_law 5954 = .ok (.invokestatic 535, 3) := zd_dec hw93 (q := 2) rfl (by decide +kernel)
theorem dL_law_5957 : decode cL_law 5957 = .ok (.istore 5, 2) := zd_dec hw93 (q := 5) rfl (by decide +kernel)
theorem dL_law_5959 : decode cL_law 5959 = .ok (.aload_n 2, 1) := zd_dec hw93 (q := 7) rfl (by decide +kernel)
theorem dL_law_5960 : decode cL_law 5960 = .ok (.aload_n 0, 1) := zd_dec hw93 (q := 8) rfl (by decide +kernel)
theorem dL_law_5961 : decode cL_law 5961 = .ok (.iload 4, 2) := zd_dec hw93 (q := 9) rfl (by decide +kernel)
theorem dL_law_5963 : decode cL_law 5963 = .ok (.iconst 1, 1) := zd_dec hw93 (q := 11) rfl (by decide +kernel)
theorem dL_law_5964 : decode cL_law 5964 = .ok (.iadd, 1) := zd_dec hw93 (q := 12) rfl (by decide +kernel)
theorem dL_law_5965 : decode cL_law 5965 = .ok (.iaload, 1) := zd_dec hw93 (q := 13) rfl (by decide +kernel)
theorem dL_law_5966 : decode cL_law 5966 = .ok (.invokevirtual 537, 3) := zd_dec hw93 (q := 14) rfl (by decide +kernel)
theorem dL_law_5969 : decode cL_law 5969 = .ok (.istore 6, 2) := zd_dec hw93 (q := 17) rfl (by decide +kernel)
theorem dL_law_5971 : decode cL_law 5971 = .ok (.aload_n 2, 1) := zd_dec hw93 (q := 19) rfl (by decide +kernel)
theorem dL_law_5972 : decode cL_law 5972 = .ok (.invokevirtual 281, 3) := zd_dec hw93 (q := 20) rfl (by decide +kernel)
theorem dL_law_5975 : decode cL_law 5975 = .ok (.iload 5, 2) := zd_dec hw93 (q := 23) rfl (by decide +kernel)
theorem dL_law_5977 : decode cL_law 5977 = .ok (.if_icmp .eq 5, 3) := zd_dec hw93 (q := 25) rfl (by decide +kernel)
theorem dL_law_5982 : decode cL_law 5982 = .ok (.iload 5, 2) := zd_dec hw93 (q := 30) rfl (by decide +kernel)
theorem dL_law_5984 : decode cL_law 5984 = .ok (.ifCond .ne 15, 3) := zd_dec hw93 (q := 32) rfl (by decide +kernel)
theorem dL_law_5999 : decode cL_law 5999 = .ok (.goto 3, 3) := zd_dec hw93 (q := 47) rfl (by decide +kernel)
theorem dL_law_5987 : decode cL_law 5987 = .ok (.aload_n 3, 1) := zd_dec hw93 (q := 35) rfl (by decide +kernel)
theorem dL_law_5988 : decode cL_law 5988 = .ok (.iconst 0, 1) := zd_dec hw93 (q := 36) rfl (by decide +kernel)
theorem dL_law_5989 : decode cL_law 5989 = .ok (.laload, 1) := zd_dec hw93 (q := 37) rfl (by decide +kernel)
theorem dL_law_5990 : decode cL_law 5990 = .ok (.iload 6, 2) := zd_dec hw93 (q := 38) rfl (by decide +kernel)
theorem dL_law_5992 : decode cL_law 5992 = .ok (.i2l, 1) := zd_dec hw93 (q := 40) rfl (by decide +kernel)
theorem dL_law_5993 : decode cL_law 5993 = .ok (.lcmp, 1) := zd_dec hw93 (q := 41) rfl (by decide +kernel)
theorem dL_law_5994 : decode cL_law 5994 = .ok (.ifCond .eq 5, 3) := zd_dec hw93 (q := 42) rfl (by decide +kernel)
theorem dL_law_5997 : decode cL_law 5997 = .ok (.iconst 0, 1) := zd_dec hw93 (q := 45) rfl (by decide +kernel)
theorem dL_law_5998 : decode cL_law 5998 = .ok (.ireturn, 1) := zd_dec hw93 (q := 46) rfl (by decide +kernel)
theorem dL_law_5980 : decode cL_law 5980 = .ok (.iconst 0, 1) := zd_dec hw93 (q := 28) rfl (by decide +kernel)
theorem dL_law_5981 : decode cL_law 5981 = .ok (.ireturn, 1) := zd_dec hw93 (q := 29) rfl (by decide +kernel)
theorem dL_law_6008 : decode cL_law 6008 = .ok (.iconst 1, 1) := zd_dec hw93 (q := 56) rfl (by decide +kernel)
theorem dL_law_6009 : decode cL_law 6009 = .ok (.ireturn, 1) := zd_dec hw93 (q := 57) rfl (by decide +kernel)
def zk_fs11 : List Value := (List.range 13).map (fun j => defaultValue (tyX11 j))
theorem zl_L_8 : zm_N zk_E RL 8 11 zk_fs11 := ⟨RX11, TX11, 13, tyX11, rfl, zk_i11, tyX11_ok, zk_b1 37 (by decide +kernel) rfl, zk_b1 38 (by decide +kernel) rfl, zk_b1 1 (by decide +kernel) rfl, rfl⟩
theorem zl_L_271 : zm_L zk_E RL 271 yX11_init (.code yX11_init cX11_init 1 none) 0 ∧ Cond.instanceMethod yX11_init ∈ zk_E.2.2.1 := ⟨⟨zk_b1 41 (by decide +kernel) rfl, zk_b1 1 (by decide +kernel) rfl, zk_b1 39 (by decide +kernel) rfl, by decide +kernel, by decide +kernel, by decide +kernel⟩, zk_b1 40 (by decide +kernel) rfl⟩
def zk_fs18 : List Value := (List.range 60).map (fun j => defaultValue (tyX18 j))
theorem zl_L_272 : zm_N zk_E RL 272 18 zk_fs18 := ⟨RX18, TX18, 60, tyX18, rfl, zk_i18, tyX18_ok, zk_b13 62 (by decide +kernel) rfl, zk_b13 63 (by decide +kernel) rfl, zk_b1 13 (by decide +kernel) rfl, rfl⟩
theorem zl_L_274 : zm_L zk_E RL 274 yX18_init (.code yX18_init cX18_init 1 none) 0 ∧ Cond.instanceMethod yX18_init ∈ zk_E.2.2.1 := ⟨⟨zk_b13 66 (by decide +kernel) rfl, zk_b1 13 (by decide +kernel) rfl, zk_b13 64 (by decide +kernel) rfl, by decide +kernel, by decide +kernel, by decide +kernel⟩, zk_b13 65 (by decide +kernel) rfl⟩
theorem zl_L_275 : zm_L zk_E RL 275 yL_line (.codeWith yL_line cL_line 7 (some .int) [(0, 14, 17, 13), (0, 14, 21, 15)]) 6 ∧ Cond.static yL_line ∈ zk_E.2.2.1 := ⟨⟨zk_b4 107 (by decide +kernel) rfl, zk_b1 0 (by decide +kernel) rfl, zk_b4 105 (by decide +kernel) rfl, by decide +kernel, by decide +kernel, by decide +kernel⟩, zk_b4 106 (by decide +kernel) rfl⟩
theorem zl_L_280 : zm_L zk_E RL 280 yX18_line (.code yX18_line cX18_line 6 (some .int)) 4 ∧ Cond.instanceMethod yX18_line ∈ zk_E.2.2.1 ∧ Cond.selects yX18_line.cls yX18_line yX18_line ∈ zk_E.2.2.1 := ⟨⟨zk_b16 215 (by decide +kernel) rfl, zk_b1 13 (by decide +kernel) rfl, zk_b16 212 (by decide +kernel) rfl, by decide +kernel, by decide +kernel, by decide +kernel⟩, zk_b16 213 (by decide +kernel) rfl, zk_b16 214 (by decide +kernel) rfl⟩
theorem zl_L_281 : zm_L zk_E RL 281 yX18_thrown (.code yX18_thrown cX18_thrown 1 (some .int)) 0 ∧ Cond.instanceMethod yX18_thrown ∈ zk_E.2.2.1 ∧ Cond.selects yX18_thrown.cls yX18_thrown yX18_thrown ∈ zk_E.2.2.1 := ⟨⟨zk_b16 211 (by decide +kernel) rfl, zk_b1 13 (by decide +kernel) rfl, zk_b16 208 (by decide +kernel) rfl, by decide +kernel, by decide +kernel, by decide +kernel⟩, zk_b16 209 (by decide +kernel) rfl, zk_b16 210 (by decide +kernel) rfl⟩
theorem zl_L_284 : zm_L zk_E RL 284 yL_move (.codeWith yL_move cL_move 6 (some .int) [(0, 19, 22, 13), (0, 19, 26, 15)]) 5 ∧ Cond.static yL_move ∈ zk_E.2.2.1 := ⟨⟨zk_b4 229 (by decide +kernel) rfl, zk_b1 0 (by decide +kernel) rfl, zk_b4 227 (by decide +kernel) rfl, by decide +kernel, by decide +kernel, by decide +kernel⟩, zk_b4 228 (by decide +kernel) rfl⟩
theorem zl_L_287 : zm_L zk_E RL 287 yX18_move (.code yX18_move cX18_move 4 (some .boolean)) 3 ∧ Cond.instanceMethod yX18_move ∈ zk_E.2.2.1 ∧ Cond.selects yX18_move.cls yX18_move yX18_move ∈ zk_E.2.2.1 := ⟨⟨zk_b17 6 (by decide +kernel) rfl, zk_b1 13 (by decide +kernel) rfl, zk_b17 3 (by decide +kernel) rfl, by decide +kernel, by decide +kernel, by decide +kernel⟩, zk_b17 4 (by decide +kernel) rfl, zk_b17 5 (by decide +kernel) rfl⟩
theorem zl_L_288 : zm_L zk_E RL 288 yL_door (.codeWith yL_door cL_door 7 (some .int) [(0, 14, 17, 13), (0, 14, 21, 15)]) 6 ∧ Cond.static yL_door ∈ zk_E.2.2.1 := ⟨⟨zk_b5 9 (by decide +kernel) rfl, zk_b1 0 (by decide +kernel) rfl, zk_b5 7 (by decide +kernel) rfl, by decide +kernel, by decide +kernel, by decide +kernel⟩, zk_b5 8 (by decide +kernel) rfl⟩
theorem zl_L_290 : zm_L zk_E RL 290 yX18_door (.code yX18_door cX18_door 6 (some .int)) 4 ∧ Cond.instanceMethod yX18_door ∈ zk_E.2.2.1 ∧ Cond.selects yX18_door.cls yX18_door yX18_door ∈ zk_E.2.2.1 := ⟨⟨zk_b17 22 (by decide +kernel) rfl, zk_b1 13 (by decide +kernel) rfl, zk_b17 19 (by decide +kernel) rfl, by decide +kernel, by decide +kernel, by decide +kernel⟩, zk_b17 20 (by decide +kernel) rfl, zk_b17 21 (by decide +kernel) rfl⟩
theorem zl_L_291 : zm_L zk_E RL 291 yL_find (.codeWith yL_find cL_find 3 (some .int) [(0, 8, 11, 15)]) 2 ∧ Cond.static yL_find ∈ zk_E.2.2.1 := ⟨⟨zk_b5 24 (by decide +kernel) rfl, zk_b1 0 (by decide +kernel) rfl, zk_b5 22 (by decide +kernel) rfl, by decide +kernel, by decide +kernel, by decide +kernel⟩, zk_b5 23 (by decide +kernel) rfl⟩
theorem zl_L_294 : zm_L zk_E RL 294 yX18_find (.code yX18_find cX18_find 1 (some .int)) 0 ∧ Cond.instanceMethod yX18_find ∈ zk_E.2.2.1 ∧ Cond.selects yX18_find.cls yX18_find yX18_find ∈ zk_E.2.2.1 := ⟨⟨zk_b17 34 (by decide +kernel) rfl, zk_b1 13 (by decide +kernel) rfl, zk_b17 31 (by decide +kernel) rfl, by decide +kernel, by decide +kernel, by decide +kernel⟩, zk_b17 32 (by decide +kernel) rfl, zk_b17 33 (by decide +kernel) rfl⟩
theorem zl_L_295 : zm_L zk_E RL 295 yL_count (.codeWith yL_count cL_count 4 (some .int) [(0, 9, 12, 13), (0, 9, 15, 15)]) 3 ∧ Cond.static yL_count ∈ zk_E.2.2.1 := ⟨⟨zk_b6 134 (by decide +kernel) rfl, zk_b1 0 (by decide +kernel) rfl, zk_b6 132 (by decide +kernel) rfl, by decide +kernel, by decide +kernel, by decide +kernel⟩, zk_b6 133 (by decide +kernel) rfl⟩
theorem zl_L_298 : zm_L zk_E RL 298 yX18_count (.code yX18_count cX18_count 2 (some .int)) 1 ∧ Cond.instanceMethod yX18_count ∈ zk_E.2.2.1 ∧ Cond.selects yX18_count.cls yX18_count yX18_count ∈ zk_E.2.2.1 := ⟨⟨zk_b17 127 (by decide +kernel) rfl, zk_b1 13 (by decide +kernel) rfl, zk_b17 124 (by decide +kernel) rfl, by decide +kernel, by decide +kernel, by decide +kernel⟩, zk_b17 125 (by decide +kernel) rfl, zk_b17 126 (by decide +kernel) rfl⟩
theorem zl_L_299 : zm_L zk_E RL 299 yL_sides (.codeWith yL_sides cL_sides 5 (some .int) [(0, 10, 13, 13), (0, 10, 17, 15)]) 4 ∧ Cond.static yL_sides ∈ zk_E.2.2.1 := ⟨⟨zk_b6 153 (by decide +kernel) rfl, zk_b1 0 (by decide +kernel) rfl, zk_b6 151 (by decide +kernel) rfl, by decide +kernel, by decide +kernel, by decide +kernel⟩, zk_b6 152 (by decide +kernel) rfl⟩
theorem zl_L_302 : zm_L zk_E RL 302 yX18_sides (.code yX18_sides cX18_sides 3 (some .int)) 2 ∧ Cond.instanceMethod yX18_sides ∈ zk_E.2.2.1 ∧ Cond.selects yX18_sides.cls yX18_sides yX18_sides ∈ zk_E.2.2.1 := ⟨⟨zk_b17 135 (by decide +kernel) rfl, zk_b1 13 (by decide +kernel) rfl, zk_b17 132 (by decide +kernel) rfl, by decide +kernel, by decide +kernel, by decide +kernel⟩, zk_b17 133 (by decide +kernel) rfl, zk_b17 134 (by decide +kernel) rfl⟩
theorem zl_L_303 : zm_L zk_E RL 303 yL_side (.codeWith yL_side cL_side 7 (some .int) [(0, 14, 17, 13), (0, 14, 21, 15)]) 6 ∧ Cond.static yL_side ∈ zk_E.2.2.1 := ⟨⟨zk_b6 172 (by decide +kernel) rfl, zk_b1 0 (by decide +kernel) rfl, zk_b6 170 (by decide +kernel) rfl, by decide +kernel, by decide +kernel, by decide +kernel⟩, zk_b6 171 (by decide +kernel) rfl⟩
theorem zl_L_305 : zm_L zk_E RL 305 yX18_side (.code yX18_side cX18_side 6 (some .int)) 4 ∧ Cond.instanceMethod yX18_side ∈ zk_E.2.2.1 ∧ Cond.selects yX18_side.cls yX18_side yX18_side ∈ zk_E.2.2.1 := ⟨⟨zk_b17 152 (by decide +kernel) rfl, zk_b1 13 (by decide +kernel) rfl, zk_b17 149 (by decide +kernel) rfl, by decide +kernel, by decide +kernel, by decide +kernel⟩, zk_b17 150 (by decide +kernel) rfl, zk_b17 151 (by decide +kernel) rfl⟩
theorem zl_L_306 : zm_L zk_E RL 306 yL_size (.codeWith yL_size cL_size 5 (some .int) [(0, 10, 13, 13), (0, 10, 17, 15)]) 4 ∧ Cond.static yL_size ∈ zk_E.2.2.1 := ⟨⟨zk_b6 183 (by decide +kernel) rfl, zk_b1 0 (by decide +kernel) rfl, zk_b6 181 (by decide +kernel) rfl, by decide +kernel, by decide +kernel, by decide +kernel⟩, zk_b6 182 (by decide +kernel) rfl⟩
theorem zl_L_308 : zm_L zk_E RL 308 yX18_size (.code yX18_size cX18_size 3 (some .int)) 2 ∧ Cond.instanceMethod yX18_size ∈ zk_E.2.2.1 ∧ Cond.selects yX18_size.cls yX18_size yX18_size ∈ zk_E.2.2.1 := ⟨⟨zk_b17 164 (by decide +kernel) rfl, zk_b1 13 (by decide +kernel) rfl, zk_b17 161 (by decide +kernel) rfl, by decide +kernel, by decide +kernel, by decide +kernel⟩, zk_b17 162 (by decide +kernel) rfl, zk_b17 163 (by decide +kernel) rfl⟩
theorem zl_L_309 : zm_L zk_E RL 309 yL_at (.codeWith yL_at cL_at 5 (some .int) [(0, 10, 13, 13), (0, 10, 17, 15)]) 4 ∧ Cond.static yL_at ∈ zk_E.2.2.1 := ⟨⟨zk_b6 198 (by decide +kernel) rfl, zk_b1 0 (by decide +kernel) rfl, zk_b6 196 (by decide +kernel) rfl, by decide +kernel, by decide +kernel, by decide +kernel⟩, zk_b6 197 (by decide +kernel) rfl⟩
theorem zl_L_311 : zm_L zk_E RL 311 yX18_at (.code yX18_at cX18_at 3 (some .int)) 2 ∧ Cond.instanceMethod yX18_at ∈ zk_E.2.2.1 ∧ Cond.selects yX18_at.cls yX18_at yX18_at ∈ zk_E.2.2.1 := ⟨⟨zk_b17 180 (by decide +kernel) rfl, zk_b1 13 (by decide +kernel) rfl, zk_b17 177 (by decide +kernel) rfl, by decide +kernel, by decide +kernel, by decide +kernel⟩, zk_b17 178 (by decide +kernel) rfl, zk_b17 179 (by decide +kernel) rfl⟩
theorem zl_L_312 : zm_L zk_E RL 312 yL_between (.codeWith yL_between cL_between 5 (some .int) [(0, 10, 13, 13), (0, 10, 17, 15)]) 4 ∧ Cond.static yL_between ∈ zk_E.2.2.1 := ⟨⟨zk_b6 209 (by decide +kernel) rfl, zk_b1 0 (by decide +kernel) rfl, zk_b6 207 (by decide +kernel) rfl, by decide +kernel, by decide +kernel, by decide +kernel⟩, zk_b6 208 (by decide +kernel) rfl⟩
theorem zl_L_314 : zm_L zk_E RL 314 yX18_between (.code yX18_between cX18_between 3 (some .int)) 2 ∧ Cond.instanceMethod yX18_between ∈ zk_E.2.2.1 ∧ Cond.selects yX18_between.cls yX18_between yX18_between ∈ zk_E.2.2.1 := ⟨⟨zk_b17 191 (by decide +kernel) rfl, zk_b1 13 (by decide +kernel) rfl, zk_b17 188 (by decide +kernel) rfl, by decide +kernel, by decide +kernel, by decide +kernel⟩, zk_b17 189 (by decide +kernel) rfl, zk_b17 190 (by decide +kernel) rfl⟩
theorem zl_L_315 : zm_L zk_E RL 315 yL_way (.codeWith yL_way cL_way 5 (some .int) [(0, 10, 13, 13), (0, 10, 17, 15)]) 4 ∧ Cond.static yL_way ∈ zk_E.2.2.1 := ⟨⟨zk_b6 224 (by decide +kernel) rfl, zk_b1 0 (by decide +kernel) rfl, zk_b6 222 (by decide +kernel) rfl, by decide +kernel, by decide +kernel, by decide +kernel⟩, zk_b6 223 (by decide +kernel) rfl⟩
theorem zl_L_317 : zm_L zk_E RL 317 yX18_way (.code yX18_way cX18_way 3 (some .int)) 2 ∧ Cond.instanceMethod yX18_way ∈ zk_E.2.2.1 ∧ Cond.selects yX18_way.cls yX18_way yX18_way ∈ zk_E.2.2.1 := ⟨⟨zk_b17 207 (by decide +kernel) rfl, zk_b1 13 (by decide +kernel) rfl, zk_b17 204 (by decide +kernel) rfl, by decide +kernel, by decide +kernel, by decide +kernel⟩, zk_b17 205 (by decide +kernel) rfl, zk_b17 206 (by decide +kernel) rfl⟩
theorem zl_L_318 : zm_L zk_E RL 318 yL_name (.codeWith yL_name cL_name 5 (some .int) [(0, 10, 13, 13), (0, 10, 17, 15)]) 4 ∧ Cond.static yL_name ∈ zk_E.2.2.1 := ⟨⟨zk_b7 23 (by decide +kernel) rfl, zk_b1 0 (by decide +kernel) rfl, zk_b7 21 (by decide +kernel) rfl, by decide +kernel, by decide +kernel, by decide +kernel⟩, zk_b7 22 (by decide +kernel) rfl⟩
theorem zl_L_320 : zm_L zk_E RL 320 yX18_name (.code yX18_name cX18_name 4 (some .int)) 2 ∧ Cond.instanceMethod yX18_name ∈ zk_E.2.2.1 ∧ Cond.selects yX18_name.cls yX18_name yX18_name ∈ zk_E.2.2.1 := ⟨⟨zk_b17 219 (by decide +kernel) rfl, zk_b1 13 (by decide +kernel) rfl, zk_b17 216 (by decide +kernel) rfl, by decide +kernel, by decide +kernel, by decide +kernel⟩, zk_b17 217 (by decide +kernel) rfl, zk_b17 218 (by decide +kernel) rfl⟩
theorem zl_L_321 : zm_L zk_E RL 321 yL_nameOf (.codeWith yL_nameOf cL_nameOf 4 (some .int) [(0, 9, 12, 13), (0, 9, 15, 15)]) 3 ∧ Cond.static yL_nameOf ∈ zk_E.2.2.1 := ⟨⟨zk_b7 30 (by decide +kernel) rfl, zk_b1 0 (by decide +kernel) rfl, zk_b7 28 (by decide +kernel) rfl, by decide +kernel, by decide +kernel, by decide +kernel⟩, zk_b7 29 (by decide +kernel) rfl⟩
theorem zl_L_323 : zm_L zk_E RL 323 yX18_nameOf (.code yX18_nameOf cX18_nameOf 2 (some .int)) 1 ∧ Cond.instanceMethod yX18_nameOf ∈ zk_E.2.2.1 ∧ Cond.selects yX18_nameOf.cls yX18_nameOf yX18_nameOf ∈ zk_E.2.2.1 := ⟨⟨zk_b17 223 (by decide +kernel) rfl, zk_b1 13 (by decide +kernel) rfl, zk_b17 220 (by decide +kernel) rfl, by decide +kernel, by decide +kernel, by decide +kernel⟩, zk_b17 221 (by decide +kernel) rfl, zk_b17 222 (by decide +kernel) rfl⟩
theorem zl_L_324 : Cond.constantLong RL 324 (4294967295 : Int64) ∈ zk_E.2.2.1 := zk_b21 219 (by decide +kernel) rfl
theorem zl_L_326 : zm_L zk_E RL 326 yL_say (.codeWith yL_say cL_say 5 (some .int) [(0, 9, 12, 13), (0, 9, 16, 15)]) 3 ∧ Cond.static yL_say ∈ zk_E.2.2.1 := ⟨⟨zk_b7 37 (by decide +kernel) rfl, zk_b1 0 (by decide +kernel) rfl, zk_b7 35 (by decide +kernel) rfl, by decide +kernel, by decide +kernel, by decide +kernel⟩, zk_b7 36 (by decide +kernel) rfl⟩
theorem zl_L_329 : zm_L zk_E RL 329 yX18_say (.code yX18_say cX18_say 4 (some .int)) 1 ∧ Cond.instanceMethod yX18_say ∈ zk_E.2.2.1 ∧ Cond.selects yX18_say.cls yX18_say yX18_say ∈ zk_E.2.2.1 := ⟨⟨zk_b17 227 (by decide +kernel) rfl, zk_b1 13 (by decide +kernel) rfl, zk_b17 224 (by decide +kernel) rfl, by decide +kernel, by decide +kernel, by decide +kernel⟩, zk_b17 225 (by decide +kernel) rfl, zk_b17 226 (by decide +kernel) rfl⟩
theorem zl_L_330 : zm_L zk_E RL 330 yL_trim (.codeWith yL_trim cL_trim 4 (some .int) [(0, 9, 12, 13)]) 3 ∧ Cond.static yL_trim ∈ zk_E.2.2.1 := ⟨⟨zk_b7 58 (by decide +kernel) rfl, zk_b1 0 (by decide +kernel) rfl, zk_b7 56 (by decide +kernel) rfl, by decide +kernel, by decide +kernel, by decide +kernel⟩, zk_b7 57 (by decide +kernel) rfl⟩
theorem zl_L_332 : zm_L zk_E RL 332 yX18_trim (.code yX18_trim cX18_trim 2 (some .int)) 1 ∧ Cond.instanceMethod yX18_trim ∈ zk_E.2.2.1 ∧ Cond.selects yX18_trim.cls yX18_trim yX18_trim ∈ zk_E.2.2.1 := ⟨⟨zk_b18 2 (by decide +kernel) rfl, zk_b1 13 (by decide +kernel) rfl, zk_b17 239 (by decide +kernel) rfl, by decide +kernel, by decide +kernel, by decide +kernel⟩, zk_b18 0 (by decide +kernel) rfl, zk_b18 1 (by decide +kernel) rfl⟩
theorem zl_L_333 : zm_L zk_E RL 333 yX11_rules (.code yX11_rules cX11_rules 1 (some .int)) 0 ∧ Cond.instanceMethod yX11_rules ∈ zk_E.2.2.1 ∧ Cond.selects yX11_rules.cls yX11_rules yX11_rules ∈ zk_E.2.2.1 := ⟨⟨zk_b4 29 (by decide +kernel) rfl, zk_b1 1 (by decide +kernel) rfl, zk_b4 26 (by decide +kernel) rfl, by decide +kernel, by decide +kernel, by decide +kernel⟩, zk_b4 27 (by decide +kernel) rfl, zk_b4 28 (by decide +kernel) rfl⟩
theorem zl_L_336 : zm_L zk_E RL 336 yX18_rules (.code yX18_rules cX18_rules 1 (some .int)) 0 ∧ Cond.instanceMethod yX18_rules ∈ zk_E.2.2.1 ∧ Cond.selects yX18_rules.cls yX18_rules yX18_rules ∈ zk_E.2.2.1 := ⟨⟨zk_b18 6 (by decide +kernel) rfl, zk_b1 13 (by decide +kernel) rfl, zk_b18 3 (by decide +kernel) rfl, by decide +kernel, by decide +kernel, by decide +kernel⟩, zk_b18 4 (by decide +kernel) rfl, zk_b18 5 (by decide +kernel) rfl⟩
theorem zl_L_337 : zm_L zk_E RL 337 yL_fact (.codeWith yL_fact cL_fact 6 (some .int) [(0, 10, 13, 13), (0, 10, 17, 15)]) 4 ∧ Cond.static yL_fact ∈ zk_E.2.2.1 := ⟨⟨zk_b7 65 (by decide +kernel) rfl, zk_b1 0 (by decide +kernel) rfl, zk_b7 63 (by decide +kernel) rfl, by decide +kernel, by decide +kernel, by decide +kernel⟩, zk_b7 64 (by decide +kernel) rfl⟩
theorem zl_L_340 : zm_L zk_E RL 340 yX18_fact (.code yX18_fact cX18_fact 4 (some .long)) 2 ∧ Cond.instanceMethod yX18_fact ∈ zk_E.2.2.1 ∧ Cond.selects yX18_fact.cls yX18_fact yX18_fact ∈ zk_E.2.2.1 := ⟨⟨zk_b18 71 (by decide +kernel) rfl, zk_b1 13 (by decide +kernel) rfl, zk_b18 68 (by decide +kernel) rfl, by decide +kernel, by decide +kernel, by decide +kernel⟩, zk_b18 69 (by decide +kernel) rfl, zk_b18 70 (by decide +kernel) rfl⟩
theorem zl_L_341 : zm_L zk_E RL 341 yL_measure (.codeWith yL_measure cL_measure 7 (some .int) [(0, 12, 15, 13), (0, 12, 19, 15)]) 5 ∧ Cond.static yL_measure ∈ zk_E.2.2.1 := ⟨⟨zk_b7 93 (by decide +kernel) rfl, zk_b1 0 (by decide +kernel) rfl, zk_b7 91 (by decide +kernel) rfl, by decide +kernel, by decide +kernel, by decide +kernel⟩, zk_b7 92 (by decide +kernel) rfl⟩
theorem zl_L_344 : zm_L zk_E RL 344 yX18_measure (.code yX18_measure cX18_measure 8 (some .int)) 3 ∧ Cond.instanceMethod yX18_measure ∈ zk_E.2.2.1 ∧ Cond.selects yX18_measure.cls yX18_measure yX18_measure ∈ zk_E.2.2.1 := ⟨⟨zk_b18 94 (by decide +kernel) rfl, zk_b1 13 (by decide +kernel) rfl, zk_b18 91 (by decide +kernel) rfl, by decide +kernel, by decide +kernel, by decide +kernel⟩, zk_b18 92 (by decide +kernel) rfl, zk_b18 93 (by decide +kernel) rfl⟩
theorem zl_L_345 : zm_L zk_E RL 345 yL_check (.codeWith yL_check cL_check 4 (some .int) [(0, 9, 12, 13)]) 3 ∧ Cond.static yL_check ∈ zk_E.2.2.1 := ⟨⟨zk_b7 100 (by decide +kernel) rfl, zk_b1 0 (by decide +kernel) rfl, zk_b7 98 (by decide +kernel) rfl, by decide +kernel, by decide +kernel, by decide +kernel⟩, zk_b7 99 (by decide +kernel) rfl⟩
theorem zl_L_347 : zm_L zk_E RL 347 yX18_check (.code yX18_check cX18_check 2 (some .int)) 1 ∧ Cond.instanceMethod yX18_check ∈ zk_E.2.2.1 ∧ Cond.selects yX18_check.cls yX18_check yX18_check ∈ zk_E.2.2.1 := ⟨⟨zk_b18 98 (by decide +kernel) rfl, zk_b1 13 (by decide +kernel) rfl, zk_b18 95 (by decide +kernel) rfl, by decide +kernel, by decide +kernel, by decide +kernel⟩, zk_b18 96 (by decide +kernel) rfl, zk_b18 97 (by decide +kernel) rfl⟩
theorem zl_L_348 : zm_L zk_E RL 348 yL_rule (.codeWith yL_rule cL_rule 5 (some .int) [(0, 9, 12, 13), (0, 9, 16, 15)]) 4 ∧ Cond.static yL_rule ∈ zk_E.2.2.1 := ⟨⟨zk_b7 178 (by decide +kernel) rfl, zk_b1 0 (by decide +kernel) rfl, zk_b7 176 (by decide +kernel) rfl, by decide +kernel, by decide +kernel, by decide +kernel⟩, zk_b7 177 (by decide +kernel) rfl⟩
theorem zl_L_350 : zm_L zk_E RL 350 yX18_rule (.code yX18_rule cX18_rule 3 (some .long)) 2 ∧ Cond.instanceMethod yX18_rule ∈ zk_E.2.2.1 ∧ Cond.selects yX18_rule.cls yX18_rule yX18_rule ∈ zk_E.2.2.1 := ⟨⟨zk_b18 143 (by decide +kernel) rfl, zk_b1 13 (by decide +kernel) rfl, zk_b18 140 (by decide +kernel) rfl, by decide +kernel, by decide +kernel, by decide +kernel⟩, zk_b18 141 (by decide +kernel) rfl, zk_b18 142 (by decide +kernel) rfl⟩
theorem zl_L_351 : zm_L zk_E RL 351 yL_build (.codeWith yL_build cL_build 4 (some .int) [(0, 9, 12, 13), (0, 9, 15, 15)]) 3 ∧ Cond.static yL_build ∈ zk_E.2.2.1 := ⟨⟨zk_b7 189 (by decide +kernel) rfl, zk_b1 0 (by decide +kernel) rfl, zk_b7 187 (by decide +kernel) rfl, by decide +kernel, by decide +kernel, by decide +kernel⟩, zk_b7 188 (by decide +kernel) rfl⟩
theorem zl_L_353 : zm_L zk_E RL 353 yX18_build (.code yX18_build cX18_build 4 (some .int)) 1 ∧ Cond.instanceMethod yX18_build ∈ zk_E.2.2.1 ∧ Cond.selects yX18_build.cls yX18_build yX18_build ∈ zk_E.2.2.1 := ⟨⟨zk_b18 151 (by decide +kernel) rfl, zk_b1 13 (by decide +kernel) rfl, zk_b18 148 (by decide +kernel) rfl, by decide +kernel, by decide +kernel, by decide +kernel⟩, zk_b18 149 (by decide +kernel) rfl, zk_b18 150 (by decide +kernel) rfl⟩
theorem zl_L_354 : zm_L zk_E RL 354 yL_portal (.codeWith yL_portal cL_portal 5 (some .int) [(0, 10, 13, 13), (0, 10, 17, 15)]) 4 ∧ Cond.static yL_portal ∈ zk_E.2.2.1 := ⟨⟨zk_b8 35 (by decide +kernel) rfl, zk_b1 0 (by decide +kernel) rfl, zk_b8 33 (by decide +kernel) rfl, by decide +kernel, by decide +kernel, by decide +kernel⟩, zk_b8 34 (by decide +kernel) rfl⟩
theorem zl_L_356 : zm_L zk_E RL 356 yX18_portal_ (.code yX18_portal_ cX18_portal_ 3 (some .int)) 2 ∧ Cond.instanceMethod yX18_portal_ ∈ zk_E.2.2.1 ∧ Cond.selects yX18_portal_.cls yX18_portal_ yX18_portal_ ∈ zk_E.2.2.1 := ⟨⟨zk_b18 210 (by decide +kernel) rfl, zk_b1 13 (by decide +kernel) rfl, zk_b18 207 (by decide +kernel) rfl, by decide +kernel, by decide +kernel, by decide +kernel⟩, zk_b18 208 (by decide +kernel) rfl, zk_b18 209 (by decide +kernel) rfl⟩
theorem zl_L_357 : zm_L zk_E RL 357 yL_person (.codeWith yL_person cL_person 5 (some .int) [(0, 10, 13, 13), (0, 10, 17, 15)]) 4 ∧ Cond.static yL_person ∈ zk_E.2.2.1 := ⟨⟨zk_b8 50 (by decide +kernel) rfl, zk_b1 0 (by decide +kernel) rfl, zk_b8 48 (by decide +kernel) rfl, by decide +kernel, by decide +kernel, by decide +kernel⟩, zk_b8 49 (by decide +kernel) rfl⟩
theorem zl_L_359 : zm_L zk_E RL 359 yX18_person (.code yX18_person cX18_person 3 (some .int)) 2 ∧ Cond.instanceMethod yX18_person ∈ zk_E.2.2.1 ∧ Cond.selects yX18_person.cls yX18_person yX18_person ∈ zk_E.2.2.1 := ⟨⟨zk_b18 218 (by decide +kernel) rfl, zk_b1 13 (by decide +kernel) rfl, zk_b18 215 (by decide +kernel) rfl, by decide +kernel, by decide +kernel, by decide +kernel⟩, zk_b18 216 (by decide +kernel) rfl, zk_b18 217 (by decide +kernel) rfl⟩
theorem zl_L_360 : zm_L zk_E RL 360 yL_card (.codeWith yL_card cL_card 5 (some .int) [(0, 10, 13, 13), (0, 10, 17, 15)]) 4 ∧ Cond.static yL_card ∈ zk_E.2.2.1 := ⟨⟨zk_b8 62 (by decide +kernel) rfl, zk_b1 0 (by decide +kernel) rfl, zk_b8 60 (by decide +kernel) rfl, by decide +kernel, by decide +kernel, by decide +kernel⟩, zk_b8 61 (by decide +kernel) rfl⟩
theorem zl_L_362 : zm_L zk_E RL 362 yX18_card (.code yX18_card cX18_card 3 (some .int)) 2 ∧ Cond.instanceMethod yX18_card ∈ zk_E.2.2.1 ∧ Cond.selects yX18_card.cls yX18_card yX18_card ∈ zk_E.2.2.1 := ⟨⟨zk_b18 222 (by decide +kernel) rfl, zk_b1 13 (by decide +kernel) rfl, zk_b18 219 (by decide +kernel) rfl, by decide +kernel, by decide +kernel, by decide +kernel⟩, zk_b18 220 (by decide +kernel) rfl, zk_b18 221 (by decide +kernel) rfl⟩
theorem zl_L_363 : zm_L zk_E RL 363 yL_right (.codeWith yL_right cL_right 8 (some .int) [(0, 16, 19, 13), (0, 16, 23, 15)]) 7 ∧ Cond.static yL_right ∈ zk_E.2.2.1 := ⟨⟨zk_b8 77 (by decide +kernel) rfl, zk_b1 0 (by decide +kernel) rfl, zk_b8 75 (by decide +kernel) rfl, by decide +kernel, by decide +kernel, by decide +kernel⟩, zk_b8 76 (by decide +kernel) rfl⟩
theorem zl_L_366 : zm_L zk_E RL 366 yX18_right (.code yX18_right cX18_right 7 (some .int)) 5 ∧ Cond.instanceMethod yX18_right ∈ zk_E.2.2.1 ∧ Cond.selects yX18_right.cls yX18_right yX18_right ∈ zk_E.2.2.1 := ⟨⟨zk_b18 236 (by decide +kernel) rfl, zk_b1 13 (by decide +kernel) rfl, zk_b18 233 (by decide +kernel) rfl, by decide +kernel, by decide +kernel, by decide +kernel⟩, zk_b18 234 (by decide +kernel) rfl, zk_b18 235 (by decide +kernel) rfl⟩
theorem zl_L_367 : zm_L zk_E RL 367 yL_end (.codeWith yL_end cL_end 5 (some .int) [(0, 10, 13, 13), (0, 10, 17, 15)]) 4 ∧ Cond.static yL_end ∈ zk_E.2.2.1 := ⟨⟨zk_b8 88 (by decide +kernel) rfl, zk_b1 0 (by decide +kernel) rfl, zk_b8 86 (by decide +kernel) rfl, by decide +kernel, by decide +kernel, by decide +kernel⟩, zk_b8 87 (by decide +kernel) rfl⟩
theorem zl_L_369 : zm_L zk_E RL 369 yX18_end (.code yX18_end cX18_end 4 (some .int)) 2 ∧ Cond.instanceMethod yX18_end ∈ zk_E.2.2.1 ∧ Cond.selects yX18_end.cls yX18_end yX18_end ∈ zk_E.2.2.1 := ⟨⟨zk_b19 0 (by decide +kernel) rfl, zk_b1 13 (by decide +kernel) rfl, zk_b18 237 (by decide +kernel) rfl, by decide +kernel, by decide +kernel, by decide +kernel⟩, zk_b18 238 (by decide +kernel) rfl, zk_b18 239 (by decide +kernel) rfl⟩
theorem zl_L_370 : zm_L zk_E RL 370 yL_lost (.codeWith yL_lost cL_lost 5 (some .int) [(0, 10, 13, 13), (0, 10, 17, 15)]) 4 ∧ Cond.static yL_lost ∈ zk_E.2.2.1 := ⟨⟨zk_b8 107 (by decide +kernel) rfl, zk_b1 0 (by decide +kernel) rfl, zk_b8 105 (by decide +kernel) rfl, by decide +kernel, by decide +kernel, by decide +kernel⟩, zk_b8 106 (by decide +kernel) rfl⟩
theorem zl_L_372 : zm_L zk_E RL 372 yX18_lost (.code yX18_lost cX18_lost 4 (some .int)) 2 ∧ Cond.instanceMethod yX18_lost ∈ zk_E.2.2.1 ∧ Cond.selects yX18_lost.cls yX18_lost yX18_lost ∈ zk_E.2.2.1 := ⟨⟨zk_b19 8 (by decide +kernel) rfl, zk_b1 13 (by decide +kernel) rfl, zk_b19 5 (by decide +kernel) rfl, by decide +kernel, by decide +kernel, by decide +kernel⟩, zk_b19 6 (by decide +kernel) rfl, zk_b19 7 (by decide +kernel) rfl⟩
theorem zl_L_373 : zm_L zk_E RL 373 yL_two (.codeWith yL_two cL_two 5 (some .int) [(0, 17, 20, 13), (0, 17, 24, 15)]) 4 ∧ Cond.static yL_two ∈ zk_E.2.2.1 := ⟨⟨zk_b8 122 (by decide +kernel) rfl, zk_b1 0 (by decide +kernel) rfl, zk_b8 120 (by decide +kernel) rfl, by decide +kernel, by decide +kernel, by decide +kernel⟩, zk_b8 121 (by decide +kernel) rfl⟩
theorem zl_L_376 : zm_L zk_E RL 376 yX18_two (.code yX18_two cX18_two 4 (some .boolean)) 2 ∧ Cond.instanceMethod yX18_two ∈ zk_E.2.2.1 ∧ Cond.selects yX18_two.cls yX18_two yX18_two ∈ zk_E.2.2.1 := ⟨⟨zk_b19 12 (by decide +kernel) rfl, zk_b1 13 (by decide +kernel) rfl, zk_b19 9 (by decide +kernel) rfl, by decide +kernel, by decide +kernel, by decide +kernel⟩, zk_b19 10 (by decide +kernel) rfl, zk_b19 11 (by decide +kernel) rfl⟩
theorem zl_L_377 : zm_L zk_E RL 377 yL_airlock (.codeWith yL_airlock cL_airlock 6 (some .int) [(0, 19, 22, 13), (0, 19, 26, 15)]) 5 ∧ Cond.static yL_airlock ∈ zk_E.2.2.1 := ⟨⟨zk_b8 134 (by decide +kernel) rfl, zk_b1 0 (by decide +kernel) rfl, zk_b8 132 (by decide +kernel) rfl, by decide +kernel, by decide +kernel, by decide +kernel⟩, zk_b8 133 (by decide +kernel) rfl⟩
theorem zl_L_380 : zm_L zk_E RL 380 yX18_airlock (.code yX18_airlock cX18_airlock 5 (some .boolean)) 3 ∧ Cond.instanceMethod yX18_airlock ∈ zk_E.2.2.1 ∧ Cond.selects yX18_airlock.cls yX18_airlock yX18_airlock ∈ zk_E.2.2.1 := ⟨⟨zk_b19 16 (by decide +kernel) rfl, zk_b1 13 (by decide +kernel) rfl, zk_b19 13 (by decide +kernel) rfl, by decide +kernel, by decide +kernel, by decide +kernel⟩, zk_b19 14 (by decide +kernel) rfl, zk_b19 15 (by decide +kernel) rfl⟩
theorem zl_L_381 : zm_L zk_E RL 381 yL_stands (.codeWith yL_stands cL_stands 5 (some .int) [(0, 10, 13, 13), (0, 10, 17, 15)]) 4 ∧ Cond.static yL_stands ∈ zk_E.2.2.1 := ⟨⟨zk_b8 154 (by decide +kernel) rfl, zk_b1 0 (by decide +kernel) rfl, zk_b8 152 (by decide +kernel) rfl, by decide +kernel, by decide +kernel, by decide +kernel⟩, zk_b8 153 (by decide +kernel) rfl⟩
theorem zl_L_383 : zm_L zk_E RL 383 yX18_stands (.code yX18_stands cX18_stands 4 (some .int)) 2 ∧ Cond.instanceMethod yX18_stands ∈ zk_E.2.2.1 ∧ Cond.selects yX18_stands.cls yX18_stands yX18_stands ∈ zk_E.2.2.1 := ⟨⟨zk_b19 24 (by decide +kernel) rfl, zk_b1 13 (by decide +kernel) rfl, zk_b19 21 (by decide +kernel) rfl, by decide +kernel, by decide +kernel, by decide +kernel⟩, zk_b19 22 (by decide +kernel) rfl, zk_b19 23 (by decide +kernel) rfl⟩
theorem zl_L_384 : zm_L zk_E RL 384 yL_off (.codeWith yL_off cL_off 5 (some .int) [(0, 10, 13, 13), (0, 10, 17, 15)]) 4 ∧ Cond.static yL_off ∈ zk_E.2.2.1 := ⟨⟨zk_b8 165 (by decide +kernel) rfl, zk_b1 0 (by decide +kernel) rfl, zk_b8 163 (by decide +kernel) rfl, by decide +kernel, by decide +kernel, by decide +kernel⟩, zk_b8 164 (by decide +kernel) rfl⟩
theorem zl_L_386 : zm_L zk_E RL 386 yX18_off (.code yX18_off cX18_off 7 (some .int)) 2 ∧ Cond.instanceMethod yX18_off ∈ zk_E.2.2.1 ∧ Cond.selects yX18_off.cls yX18_off yX18_off ∈ zk_E.2.2.1 := ⟨⟨zk_b19 72 (by decide +kernel) rfl, zk_b1 13 (by decide +kernel) rfl, zk_b19 69 (by decide +kernel) rfl, by decide +kernel, by decide +kernel, by decide +kernel⟩, zk_b19 70 (by decide +kernel) rfl, zk_b19 71 (by decide +kernel) rfl⟩
theorem zl_L_387 : zm_L zk_E RL 387 yL_ask (.codeWith yL_ask cL_ask 6 (some .int) [(0, 12, 15, 13), (0, 12, 19, 15)]) 5 ∧ Cond.static yL_ask ∈ zk_E.2.2.1 := ⟨⟨zk_b8 231 (by decide +kernel) rfl, zk_b1 0 (by decide +kernel) rfl, zk_b8 229 (by decide +kernel) rfl, by decide +kernel, by decide +kernel, by decide +kernel⟩, zk_b8 230 (by decide +kernel) rfl⟩
theorem zl_L_389 : zm_L zk_E RL 389 yX18_ask (.code yX18_ask cX18_ask 6 (some .int)) 3 ∧ Cond.instanceMethod yX18_ask ∈ zk_E.2.2.1 ∧ Cond.selects yX18_ask.cls yX18_ask yX18_ask ∈ zk_E.2.2.1 := ⟨⟨zk_b19 28 (by decide +kernel) rfl, zk_b1 13 (by decide +kernel) rfl, zk_b19 25 (by decide +kernel) rfl, by decide +kernel, by decide +kernel, by decide +kernel⟩, zk_b19 26 (by decide +kernel) rfl, zk_b19 27 (by decide +kernel) rfl⟩
theorem zl_L_390 : zm_L zk_E RL 390 yL_both (.codeWith yL_both cL_both 7 (some .int) [(0, 14, 17, 13), (0, 14, 21, 15)]) 6 ∧ Cond.static yL_both ∈ zk_E.2.2.1 := ⟨⟨zk_b9 42 (by decide +kernel) rfl, zk_b1 0 (by decide +kernel) rfl, zk_b9 40 (by decide +kernel) rfl, by decide +kernel, by decide +kernel, by decide +kernel⟩, zk_b9 41 (by decide +kernel) rfl⟩
theorem zl_L_392 : zm_L zk_E RL 392 yX18_both (.code yX18_both cX18_both 7 (some .int)) 4 ∧ Cond.instanceMethod yX18_both ∈ zk_E.2.2.1 ∧ Cond.selects yX18_both.cls yX18_both yX18_both ∈ zk_E.2.2.1 := ⟨⟨zk_b19 68 (by decide +kernel) rfl, zk_b1 13 (by decide +kernel) rfl, zk_b19 65 (by decide +kernel) rfl, by decide +kernel, by decide +kernel, by decide +kernel⟩, zk_b19 66 (by decide +kernel) rfl, zk_b19 67 (by decide +kernel) rfl⟩
theorem zl_L_393 : zm_L zk_E RL 393 yL_where (.codeWith yL_where cL_where 5 (some .int) [(0, 10, 13, 13), (0, 10, 17, 15)]) 4 ∧ Cond.static yL_where ∈ zk_E.2.2.1 := ⟨⟨zk_b9 53 (by decide +kernel) rfl, zk_b1 0 (by decide +kernel) rfl, zk_b9 51 (by decide +kernel) rfl, by decide +kernel, by decide +kernel, by decide +kernel⟩, zk_b9 52 (by decide +kernel) rfl⟩
theorem zl_L_395 : zm_L zk_E RL 395 yX18_where (.code yX18_where cX18_where 3 (some .int)) 2 ∧ Cond.instanceMethod yX18_where ∈ zk_E.2.2.1 ∧ Cond.selects yX18_where.cls yX18_where yX18_where ∈ zk_E.2.2.1 := ⟨⟨zk_b19 76 (by decide +kernel) rfl, zk_b1 13 (by decide +kernel) rfl, zk_b19 73 (by decide +kernel) rfl, by decide +kernel, by decide +kernel, by decide +kernel⟩, zk_b19 74 (by decide +kernel) rfl, zk_b19 75 (by decide +kernel) rfl⟩
theorem zl_L_396 : zm_L zk_E RL 396 yL_inside (.codeWith yL_inside cL_inside 4 (some .int) [(0, 9, 12, 13), (0, 9, 15, 15)]) 3 ∧ Cond.static yL_inside ∈ zk_E.2.2.1 := ⟨⟨zk_b9 64 (by decide +kernel) rfl, zk_b1 0 (by decide +kernel) rfl, zk_b9 62 (by decide +kernel) rfl, by decide +kernel, by decide +kernel, by decide +kernel⟩, zk_b9 63 (by decide +kernel) rfl⟩
theorem zl_L_398 : zm_L zk_E RL 398 yX18_inside (.code yX18_inside cX18_inside 4 (some .int)) 1 ∧ Cond.instanceMethod yX18_inside ∈ zk_E.2.2.1 ∧ Cond.selects yX18_inside.cls yX18_inside yX18_inside ∈ zk_E.2.2.1 := ⟨⟨zk_b19 80 (by decide +kernel) rfl, zk_b1 13 (by decide +kernel) rfl, zk_b19 77 (by decide +kernel) rfl, by decide +kernel, by decide +kernel, by decide +kernel⟩, zk_b19 78 (by decide +kernel) rfl, zk_b19 79 (by decide +kernel) rfl⟩
theorem zl_L_399 : zm_L zk_E RL 399 yL_against (.codeWith yL_against cL_against 5 (some .int) [(0, 10, 13, 13), (0, 10, 17, 15)]) 4 ∧ Cond.static yL_against ∈ zk_E.2.2.1 := ⟨⟨zk_b9 77 (by decide +kernel) rfl, zk_b1 0 (by decide +kernel) rfl, zk_b9 75 (by decide +kernel) rfl, by decide +kernel, by decide +kernel, by decide +kernel⟩, zk_b9 76 (by decide +kernel) rfl⟩
theorem zl_L_401 : zm_L zk_E RL 401 yX18_against (.code yX18_against cX18_against 3 (some .int)) 2 ∧ Cond.instanceMethod yX18_against ∈ zk_E.2.2.1 ∧ Cond.selects yX18_against.cls yX18_against yX18_against ∈ zk_E.2.2.1 := ⟨⟨zk_b19 84 (by decide +kernel) rfl, zk_b1 13 (by decide +kernel) rfl, zk_b19 81 (by decide +kernel) rfl, by decide +kernel, by decide +kernel, by decide +kernel⟩, zk_b19 82 (by decide +kernel) rfl, zk_b19 83 (by decide +kernel) rfl⟩
theorem zl_L_402 : zm_L zk_E RL 402 yL_unit (.codeWith yL_unit cL_unit 4 (some .int) [(0, 9, 12, 13), (0, 9, 15, 15)]) 3 ∧ Cond.static yL_unit ∈ zk_E.2.2.1 := ⟨⟨zk_b9 93 (by decide +kernel) rfl, zk_b1 0 (by decide +kernel) rfl, zk_b9 91 (by decide +kernel) rfl, by decide +kernel, by decide +kernel, by decide +kernel⟩, zk_b9 92 (by decide +kernel) rfl⟩
theorem zl_L_404 : zm_L zk_E RL 404 yX18_unit (.code yX18_unit cX18_unit 2 (some .int)) 1 ∧ Cond.instanceMethod yX18_unit ∈ zk_E.2.2.1 ∧ Cond.selects yX18_unit.cls yX18_unit yX18_unit ∈ zk_E.2.2.1 := ⟨⟨zk_b19 88 (by decide +kernel) rfl, zk_b1 13 (by decide +kernel) rfl, zk_b19 85 (by decide +kernel) rfl, by decide +kernel, by decide +kernel, by decide +kernel⟩, zk_b19 86 (by decide +kernel) rfl, zk_b19 87 (by decide +kernel) rfl⟩
theorem zl_L_405 : zm_L zk_E RL 405 yL_sentence (.codeWith yL_sentence cL_sentence 8 (some .int) [(0, 16, 19, 13), (0, 16, 23, 15)]) 7 ∧ Cond.static yL_sentence ∈ zk_E.2.2.1 := ⟨⟨zk_b9 104 (by decide +kernel) rfl, zk_b1 0 (by decide +kernel) rfl, zk_b9 102 (by decide +kernel) rfl, by decide +kernel, by decide +kernel, by decide +kernel⟩, zk_b9 103 (by decide +kernel) rfl⟩
theorem zl_L_407 : zm_L zk_E RL 407 yX18_sentence (.code yX18_sentence cX18_sentence 7 (some .int)) 5 ∧ Cond.instanceMethod yX18_sentence ∈ zk_E.2.2.1 ∧ Cond.selects yX18_sentence.cls yX18_sentence yX18_sentence ∈ zk_E.2.2.1 := ⟨⟨zk_b19 96 (by decide +kernel) rfl, zk_b1 13 (by decide +kernel) rfl, zk_b19 93 (by decide +kernel) rfl, by decide +kernel, by decide +kernel, by decide +kernel⟩, zk_b19 94 (by decide +kernel) rfl, zk_b19 95 (by decide +kernel) rfl⟩
theorem zl_L_408 : zm_L zk_E RL 408 yL_cutText (.codeWith yL_cutText cL_cutText 4 (some .int) [(0, 9, 12, 13), (0, 9, 15, 15)]) 3 ∧ Cond.static yL_cutText ∈ zk_E.2.2.1 := ⟨⟨zk_b9 145 (by decide +kernel) rfl, zk_b1 0 (by decide +kernel) rfl, zk_b9 143 (by decide +kernel) rfl, by decide +kernel, by decide +kernel, by decide +kernel⟩, zk_b9 144 (by decide +kernel) rfl⟩
theorem zl_L_410 : zm_L zk_E RL 410 yX18_cutText (.code yX18_cutText cX18_cutText 2 (some .int)) 1 ∧ Cond.instanceMethod yX18_cutText ∈ zk_E.2.2.1 ∧ Cond.selects yX18_cutText.cls yX18_cutText yX18_cutText ∈ zk_E.2.2.1 := ⟨⟨zk_b19 140 (by decide +kernel) rfl, zk_b1 13 (by decide +kernel) rfl, zk_b19 137 (by decide +kernel) rfl, by decide +kernel, by decide +kernel, by decide +kernel⟩, zk_b19 138 (by decide +kernel) rfl, zk_b19 139 (by decide +kernel) rfl⟩
theorem zl_L_411 : zm_L zk_E RL 411 yL_matrix (.codeWith yL_matrix cL_matrix 3 (some .int) [(0, 8, 11, 15)]) 2 ∧ Cond.static yL_matrix ∈ zk_E.2.2.1 := ⟨⟨zk_b9 152 (by decide +kernel) rfl, zk_b1 0 (by decide +kernel) rfl, zk_b9 150 (by decide +kernel) rfl, by decide +kernel, by decide +kernel, by decide +kernel⟩, zk_b9 151 (by decide +kernel) rfl⟩
theorem zl_L_413 : zm_L zk_E RL 413 yX18_matrix (.code yX18_matrix cX18_matrix 1 (some .int)) 0 ∧ Cond.instanceMethod yX18_matrix ∈ zk_E.2.2.1 ∧ Cond.selects yX18_matrix.cls yX18_matrix yX18_matrix ∈ zk_E.2.2.1 := ⟨⟨zk_b19 144 (by decide +kernel) rfl, zk_b1 13 (by decide +kernel) rfl, zk_b19 141 (by decide +kernel) rfl, by decide +kernel, by decide +kernel, by decide +kernel⟩, zk_b19 142 (by decide +kernel) rfl, zk_b19 143 (by decide +kernel) rfl⟩
theorem zl_L_414 : zm_L zk_E RL 414 yL_signal (.codeWith yL_signal cL_signal 5 (some .int) [(0, 10, 13, 13), (0, 10, 17, 15)]) 4 ∧ Cond.static yL_signal ∈ zk_E.2.2.1 := ⟨⟨zk_b9 239 (by decide +kernel) rfl, zk_b1 0 (by decide +kernel) rfl, zk_b9 237 (by decide +kernel) rfl, by decide +kernel, by decide +kernel, by decide +kernel⟩, zk_b9 238 (by decide +kernel) rfl⟩
theorem zl_L_416 : zm_L zk_E RL 416 yX18_signal (.code yX18_signal cX18_signal 4 (some .int)) 2 ∧ Cond.instanceMethod yX18_signal ∈ zk_E.2.2.1 ∧ Cond.selects yX18_signal.cls yX18_signal yX18_signal ∈ zk_E.2.2.1 := ⟨⟨zk_b19 223 (by decide +kernel) rfl, zk_b1 13 (by decide +kernel) rfl, zk_b19 220 (by decide +kernel) rfl, by decide +kernel, by decide +kernel, by decide +kernel⟩, zk_b19 221 (by decide +kernel) rfl, zk_b19 222 (by decide +kernel) rfl⟩
theorem zl_L_417 : zm_L zk_E RL 417 yL_fault (.codeWith yL_fault cL_fault 5 (some .int) [(0, 17, 20, 13), (0, 17, 24, 15)]) 4 ∧ Cond.static yL_fault ∈ zk_E.2.2.1 := ⟨⟨zk_b10 6 (by decide +kernel) rfl, zk_b1 0 (by decide +kernel) rfl, zk_b10 4 (by decide +kernel) rfl, by decide +kernel, by decide +kernel, by decide +kernel⟩, zk_b10 5 (by decide +kernel) rfl⟩
theorem zl_L_419 : zm_L zk_E RL 419 yX18_fault (.code yX18_fault cX18_fault 4 (some .boolean)) 2 ∧ Cond.instanceMethod yX18_fault ∈ zk_E.2.2.1 ∧ Cond.selects yX18_fault.cls yX18_fault yX18_fault ∈ zk_E.2.2.1 := ⟨⟨zk_b19 227 (by decide +kernel) rfl, zk_b1 13 (by decide +kernel) rfl, zk_b19 224 (by decide +kernel) rfl, by decide +kernel, by decide +kernel, by decide +kernel⟩, zk_b19 225 (by decide +kernel) rfl, zk_b19 226 (by decide +kernel) rfl⟩
theorem zl_L_420 : zm_L zk_E RL 420 yL_disable (.codeWith yL_disable cL_disable 5 (some .int) [(0, 10, 13, 13), (0, 10, 17, 15)]) 4 ∧ Cond.static yL_disable ∈ zk_E.2.2.1 := ⟨⟨zk_b10 13 (by decide +kernel) rfl, zk_b1 0 (by decide +kernel) rfl, zk_b10 11 (by decide +kernel) rfl, by decide +kernel, by decide +kernel, by decide +kernel⟩, zk_b10 12 (by decide +kernel) rfl⟩
theorem zl_L_422 : zm_L zk_E RL 422 yX18_disable (.code yX18_disable cX18_disable 4 (some .int)) 2 ∧ Cond.instanceMethod yX18_disable ∈ zk_E.2.2.1 ∧ Cond.selects yX18_disable.cls yX18_disable yX18_disable ∈ zk_E.2.2.1 := ⟨⟨zk_b19 231 (by decide +kernel) rfl, zk_b1 13 (by decide +kernel) rfl, zk_b19 228 (by decide +kernel) rfl, by decide +kernel, by decide +kernel, by decide +kernel⟩, zk_b19 229 (by decide +kernel) rfl, zk_b19 230 (by decide +kernel) rfl⟩
theorem zl_L_423 : zm_L zk_E RL 423 yL_attend (.codeWith yL_attend cL_attend 4 (some .int) [(0, 9, 12, 13), (0, 9, 15, 15)]) 3 ∧ Cond.static yL_attend ∈ zk_E.2.2.1 := ⟨⟨zk_b10 20 (by decide +kernel) rfl, zk_b1 0 (by decide +kernel) rfl, zk_b10 18 (by decide +kernel) rfl, by decide +kernel, by decide +kernel, by decide +kernel⟩, zk_b10 19 (by decide +kernel) rfl⟩
theorem zl_L_425 : zm_L zk_E RL 425 yX18_attend (.code yX18_attend cX18_attend 2 (some .int)) 1 ∧ Cond.instanceMethod yX18_attend ∈ zk_E.2.2.1 ∧ Cond.selects yX18_attend.cls yX18_attend yX18_attend ∈ zk_E.2.2.1 := ⟨⟨zk_b19 235 (by decide +kernel) rfl, zk_b1 13 (by decide +kernel) rfl, zk_b19 232 (by decide +kernel) rfl, by decide +kernel, by decide +kernel, by decide +kernel⟩, zk_b19 233 (by decide +kernel) rfl, zk_b19 234 (by decide +kernel) rfl⟩
theorem zl_L_426 : zm_L zk_E RL 426 yL_reset (.codeWith yL_reset cL_reset 3 (some .int) [(0, 8, 11, 15)]) 2 ∧ Cond.static yL_reset ∈ zk_E.2.2.1 := ⟨⟨zk_b10 35 (by decide +kernel) rfl, zk_b1 0 (by decide +kernel) rfl, zk_b10 33 (by decide +kernel) rfl, by decide +kernel, by decide +kernel, by decide +kernel⟩, zk_b10 34 (by decide +kernel) rfl⟩
theorem zl_L_428 : zm_L zk_E RL 428 yX18_reset (.code yX18_reset cX18_reset 4 (some .int)) 0 ∧ Cond.instanceMethod yX18_reset ∈ zk_E.2.2.1 ∧ Cond.selects yX18_reset.cls yX18_reset yX18_reset ∈ zk_E.2.2.1 := ⟨⟨zk_b20 3 (by decide +kernel) rfl, zk_b1 13 (by decide +kernel) rfl, zk_b20 0 (by decide +kernel) rfl, by decide +kernel, by decide +kernel, by decide +kernel⟩, zk_b20 1 (by decide +kernel) rfl, zk_b20 2 (by decide +kernel) rfl⟩
theorem zl_L_429 : zm_L zk_E RL 429 yL_act (.codeWith yL_act cL_act 5 (some .int) [(0, 10, 13, 13), (0, 10, 17, 15)]) 4 ∧ Cond.static yL_act ∈ zk_E.2.2.1 := ⟨⟨zk_b10 95 (by decide +kernel) rfl, zk_b1 0 (by decide +kernel) rfl, zk_b10 93 (by decide +kernel) rfl, by decide +kernel, by decide +kernel, by decide +kernel⟩, zk_b10 94 (by decide +kernel) rfl⟩
theorem zl_L_431 : zm_L zk_E RL 431 yX18_act (.code yX18_act cX18_act 3 (some .int)) 2 ∧ Cond.instanceMethod yX18_act ∈ zk_E.2.2.1 ∧ Cond.selects yX18_act.cls yX18_act yX18_act ∈ zk_E.2.2.1 := ⟨⟨zk_b20 55 (by decide +kernel) rfl, zk_b1 13 (by decide +kernel) rfl, zk_b20 52 (by decide +kernel) rfl, by decide +kernel, by decide +kernel, by decide +kernel⟩, zk_b20 53 (by decide +kernel) rfl, zk_b20 54 (by decide +kernel) rfl⟩
theorem zl_L_432 : zm_L zk_E RL 432 yL_zone (.codeWith yL_zone cL_zone 5 (some .int) [(0, 10, 13, 13), (0, 10, 17, 15)]) 4 ∧ Cond.static yL_zone ∈ zk_E.2.2.1 := ⟨⟨zk_b10 110 (by decide +kernel) rfl, zk_b1 0 (by decide +kernel) rfl, zk_b10 108 (by decide +kernel) rfl, by decide +kernel, by decide +kernel, by decide +kernel⟩, zk_b10 109 (by decide +kernel) rfl⟩
theorem zl_L_434 : zm_L zk_E RL 434 yX18_zone (.code yX18_zone cX18_zone 3 (some .int)) 2 ∧ Cond.instanceMethod yX18_zone ∈ zk_E.2.2.1 ∧ Cond.selects yX18_zone.cls yX18_zone yX18_zone ∈ zk_E.2.2.1 := ⟨⟨zk_b20 63 (by decide +kernel) rfl, zk_b1 13 (by decide +kernel) rfl, zk_b20 60 (by decide +kernel) rfl, by decide +kernel, by decide +kernel, by decide +kernel⟩, zk_b20 61 (by decide +kernel) rfl, zk_b20 62 (by decide +kernel) rfl⟩
theorem zl_L_435 : zm_L zk_E RL 435 yL_event (.codeWith yL_event cL_event 5 (some .int) [(0, 10, 13, 13), (0, 10, 17, 15)]) 4 ∧ Cond.static yL_event ∈ zk_E.2.2.1 := ⟨⟨zk_b10 122 (by decide +kernel) rfl, zk_b1 0 (by decide +kernel) rfl, zk_b10 120 (by decide +kernel) rfl, by decide +kernel, by decide +kernel, by decide +kernel⟩, zk_b10 121 (by decide +kernel) rfl⟩
theorem zl_L_437 : zm_L zk_E RL 437 yX18_event (.code yX18_event cX18_event 3 (some .int)) 2 ∧ Cond.instanceMethod yX18_event ∈ zk_E.2.2.1 ∧ Cond.selects yX18_event.cls yX18_event yX18_event ∈ zk_E.2.2.1 := ⟨⟨zk_b20 70 (by decide +kernel) rfl, zk_b1 13 (by decide +kernel) rfl, zk_b20 67 (by decide +kernel) rfl, by decide +kernel, by decide +kernel, by decide +kernel⟩, zk_b20 68 (by decide +kernel) rfl, zk_b20 69 (by decide +kernel) rfl⟩
theorem zl_L_438 : zm_L zk_E RL 438 yL_block (.codeWith yL_block cL_block 4 (some .int) [(0, 9, 12, 13), (0, 9, 15, 15)]) 3 ∧ Cond.static yL_block ∈ zk_E.2.2.1 := ⟨⟨zk_b10 138 (by decide +kernel) rfl, zk_b1 0 (by decide +kernel) rfl, zk_b10 136 (by decide +kernel) rfl, by decide +kernel, by decide +kernel, by decide +kernel⟩, zk_b10 137 (by decide +kernel) rfl⟩
theorem zl_L_440 : zm_L zk_E RL 440 yX18_block (.code yX18_block cX18_block 2 (some .int)) 1 ∧ Cond.instanceMethod yX18_block ∈ zk_E.2.2.1 ∧ Cond.selects yX18_block.cls yX18_block yX18_block ∈ zk_E.2.2.1 := ⟨⟨zk_b20 78 (by decide +kernel) rfl, zk_b1 13 (by decide +kernel) rfl, zk_b20 75 (by decide +kernel) rfl, by decide +kernel, by decide +kernel, by decide +kernel⟩, zk_b20 76 (by decide +kernel) rfl, zk_b20 77 (by decide +kernel) rfl⟩
theorem zl_L_441 : zm_L zk_E RL 441 yL_wire (.codeWith yL_wire cL_wire 6 (some .int) [(0, 12, 15, 13), (0, 12, 19, 15)]) 5 ∧ Cond.static yL_wire ∈ zk_E.2.2.1 := ⟨⟨zk_b10 150 (by decide +kernel) rfl, zk_b1 0 (by decide +kernel) rfl, zk_b10 148 (by decide +kernel) rfl, by decide +kernel, by decide +kernel, by decide +kernel⟩, zk_b10 149 (by decide +kernel) rfl⟩
theorem zl_L_443 : zm_L zk_E RL 443 yX18_wire (.code yX18_wire cX18_wire 5 (some .int)) 3 ∧ Cond.instanceMethod yX18_wire ∈ zk_E.2.2.1 ∧ Cond.selects yX18_wire.cls yX18_wire yX18_wire ∈ zk_E.2.2.1 := ⟨⟨zk_b20 86 (by decide +kernel) rfl, zk_b1 13 (by decide +kernel) rfl, zk_b20 83 (by decide +kernel) rfl, by decide +kernel, by decide +kernel, by decide +kernel⟩, zk_b20 84 (by decide +kernel) rfl, zk_b20 85 (by decide +kernel) rfl⟩
theorem zl_L_444 : zm_L zk_E RL 444 yL_numbers (.codeWith yL_numbers cL_numbers 5 (some .int) [(0, 7, 10, 13), (0, 7, 14, 15)]) 4 ∧ Cond.static yL_numbers ∈ zk_E.2.2.1 := ⟨⟨zk_b10 165 (by decide +kernel) rfl, zk_b1 0 (by decide +kernel) rfl, zk_b10 163 (by decide +kernel) rfl, by decide +kernel, by decide +kernel, by decide +kernel⟩, zk_b10 164 (by decide +kernel) rfl⟩
theorem zl_L_447 : zm_L zk_E RL 447 yX18_numbers (.code yX18_numbers cX18_numbers 4 none) 3 ∧ Cond.instanceMethod yX18_numbers ∈ zk_E.2.2.1 ∧ Cond.selects yX18_numbers.cls yX18_numbers yX18_numbers ∈ zk_E.2.2.1 := ⟨⟨zk_b20 90 (by decide +kernel) rfl, zk_b1 13 (by decide +kernel) rfl, zk_b20 87 (by decide +kernel) rfl, by decide +kernel, by decide +kernel, by decide +kernel⟩, zk_b20 88 (by decide +kernel) rfl, zk_b20 89 (by decide +kernel) rfl⟩
theorem zl_L_448 : zm_L zk_E RL 448 yL_row (.codeWith yL_row cL_row 6 (some .int) [(0, 12, 15, 13), (0, 12, 19, 15)]) 5 ∧ Cond.static yL_row ∈ zk_E.2.2.1 := ⟨⟨zk_b10 172 (by decide +kernel) rfl, zk_b1 0 (by decide +kernel) rfl, zk_b10 170 (by decide +kernel) rfl, by decide +kernel, by decide +kernel, by decide +kernel⟩, zk_b10 171 (by decide +kernel) rfl⟩
theorem zl_L_450 : zm_L zk_E RL 450 yX18_row (.code yX18_row cX18_row 6 (some .int)) 3 ∧ Cond.instanceMethod yX18_row ∈ zk_E.2.2.1 ∧ Cond.selects yX18_row.cls yX18_row yX18_row ∈ zk_E.2.2.1 := ⟨⟨zk_b20 94 (by decide +kernel) rfl, zk_b1 13 (by decide +kernel) rfl, zk_b20 91 (by decide +kernel) rfl, by decide +kernel, by decide +kernel, by decide +kernel⟩, zk_b20 92 (by decide +kernel) rfl, zk_b20 93 (by decide +kernel) rfl⟩
theorem zl_L_451 : zm_L zk_E RL 451 yL_safe (.codeWith yL_safe cL_safe 5 (some .int) [(0, 10, 13, 13), (0, 10, 17, 15)]) 4 ∧ Cond.static yL_safe ∈ zk_E.2.2.1 := ⟨⟨zk_b10 179 (by decide +kernel) rfl, zk_b1 0 (by decide +kernel) rfl, zk_b10 177 (by decide +kernel) rfl, by decide +kernel, by decide +kernel, by decide +kernel⟩, zk_b10 178 (by decide +kernel) rfl⟩
theorem zl_L_453 : zm_L zk_E RL 453 yX18_safe (.code yX18_safe cX18_safe 4 (some .int)) 2 ∧ Cond.instanceMethod yX18_safe ∈ zk_E.2.2.1 ∧ Cond.selects yX18_safe.cls yX18_safe yX18_safe ∈ zk_E.2.2.1 := ⟨⟨zk_b20 98 (by decide +kernel) rfl, zk_b1 13 (by decide +kernel) rfl, zk_b20 95 (by decide +kernel) rfl, by decide +kernel, by decide +kernel, by decide +kernel⟩, zk_b20 96 (by decide +kernel) rfl, zk_b20 97 (by decide +kernel) rfl⟩
theorem zl_L_454 : zm_L zk_E RL 454 yL_hand (.codeWith yL_hand cL_hand 6 (some .int) [(0, 19, 22, 13), (0, 19, 26, 15)]) 5 ∧ Cond.static yL_hand ∈ zk_E.2.2.1 := ⟨⟨zk_b10 186 (by decide +kernel) rfl, zk_b1 0 (by decide +kernel) rfl, zk_b10 184 (by decide +kernel) rfl, by decide +kernel, by decide +kernel, by decide +kernel⟩, zk_b10 185 (by decide +kernel) rfl⟩
theorem zl_L_457 : zm_L zk_E RL 457 yX18_hand (.code yX18_hand cX18_hand 5 (some .boolean)) 3 ∧ Cond.instanceMethod yX18_hand ∈ zk_E.2.2.1 ∧ Cond.selects yX18_hand.cls yX18_hand yX18_hand ∈ zk_E.2.2.1 := ⟨⟨zk_b20 102 (by decide +kernel) rfl, zk_b1 13 (by decide +kernel) rfl, zk_b20 99 (by decide +kernel) rfl, by decide +kernel, by decide +kernel, by decide +kernel⟩, zk_b20 100 (by decide +kernel) rfl, zk_b20 101 (by decide +kernel) rfl⟩
theorem zl_L_458 : zm_L zk_E RL 458 yL_bind (.codeWith yL_bind cL_bind 5 (some .int) [(0, 10, 13, 13), (0, 10, 17, 15)]) 4 ∧ Cond.static yL_bind ∈ zk_E.2.2.1 := ⟨⟨zk_b10 193 (by decide +kernel) rfl, zk_b1 0 (by decide +kernel) rfl, zk_b10 191 (by decide +kernel) rfl, by decide +kernel, by decide +kernel, by decide +kernel⟩, zk_b10 192 (by decide +kernel) rfl⟩
theorem zl_L_460 : zm_L zk_E RL 460 yX18_bind (.code yX18_bind cX18_bind 4 (some .int)) 2 ∧ Cond.instanceMethod yX18_bind ∈ zk_E.2.2.1 ∧ Cond.selects yX18_bind.cls yX18_bind yX18_bind ∈ zk_E.2.2.1 := ⟨⟨zk_b20 106 (by decide +kernel) rfl, zk_b1 13 (by decide +kernel) rfl, zk_b20 103 (by decide +kernel) rfl, by decide +kernel, by decide +kernel, by decide +kernel⟩, zk_b20 104 (by decide +kernel) rfl, zk_b20 105 (by decide +kernel) rfl⟩
theorem zl_L_461 : zm_L zk_E RL 461 yL_point (.codeWith yL_point cL_point 5 (some .int) [(0, 10, 13, 13), (0, 10, 17, 15)]) 4 ∧ Cond.static yL_point ∈ zk_E.2.2.1 := ⟨⟨zk_b10 200 (by decide +kernel) rfl, zk_b1 0 (by decide +kernel) rfl, zk_b10 198 (by decide +kernel) rfl, by decide +kernel, by decide +kernel, by decide +kernel⟩, zk_b10 199 (by decide +kernel) rfl⟩
theorem zl_L_463 : zm_L zk_E RL 463 yX18_point (.code yX18_point cX18_point 4 (some .int)) 2 ∧ Cond.instanceMethod yX18_point ∈ zk_E.2.2.1 ∧ Cond.selects yX18_point.cls yX18_point yX18_point ∈ zk_E.2.2.1 := ⟨⟨zk_b20 110 (by decide +kernel) rfl, zk_b1 13 (by decide +kernel) rfl, zk_b20 107 (by decide +kernel) rfl, by decide +kernel, by decide +kernel, by decide +kernel⟩, zk_b20 108 (by decide +kernel) rfl, zk_b20 109 (by decide +kernel) rfl⟩
theorem zl_L_464 : zm_L zk_E RL 464 yL_pointAt (.codeWith yL_pointAt cL_pointAt 4 (some .int) [(0, 9, 12, 13), (0, 9, 15, 15)]) 3 ∧ Cond.static yL_pointAt ∈ zk_E.2.2.1 := ⟨⟨zk_b10 207 (by decide +kernel) rfl, zk_b1 0 (by decide +kernel) rfl, zk_b10 205 (by decide +kernel) rfl, by decide +kernel, by decide +kernel, by decide +kernel⟩, zk_b10 206 (by decide +kernel) rfl⟩
theorem zl_L_466 : zm_L zk_E RL 466 yX18_pointAt (.code yX18_pointAt cX18_pointAt 2 (some .int)) 1 ∧ Cond.instanceMethod yX18_pointAt ∈ zk_E.2.2.1 ∧ Cond.selects yX18_pointAt.cls yX18_pointAt yX18_pointAt ∈ zk_E.2.2.1 := ⟨⟨zk_b20 114 (by decide +kernel) rfl, zk_b1 13 (by decide +kernel) rfl, zk_b20 111 (by decide +kernel) rfl, by decide +kernel, by decide +kernel, by decide +kernel⟩, zk_b20 112 (by decide +kernel) rfl, zk_b20 113 (by decide +kernel) rfl⟩
theorem zl_L_467 : zm_L zk_E RL 467 yL_order (.codeWith yL_order cL_order 3 (some .int) [(0, 8, 11, 15)]) 2 ∧ Cond.static yL_order ∈ zk_E.2.2.1 := ⟨⟨zk_b10 214 (by decide +kernel) rfl, zk_b1 0 (by decide +kernel) rfl, zk_b10 212 (by decide +kernel) rfl, by decide +kernel, by decide +kernel, by decide +kernel⟩, zk_b10 213 (by decide +kernel) rfl⟩
theorem zl_L_469 : zm_L zk_E RL 469 yX18_order (.code yX18_order cX18_order 1 (some .int)) 0 ∧ Cond.instanceMethod yX18_order ∈ zk_E.2.2.1 ∧ Cond.selects yX18_order.cls yX18_order yX18_order ∈ zk_E.2.2.1 := ⟨⟨zk_b20 118 (by decide +kernel) rfl, zk_b1 13 (by decide +kernel) rfl, zk_b20 115 (by decide +kernel) rfl, by decide +kernel, by decide +kernel, by decide +kernel⟩, zk_b20 116 (by decide +kernel) rfl, zk_b20 117 (by decide +kernel) rfl⟩
theorem zl_L_470 : zm_L zk_E RL 470 yL_out (.codeWith yL_out cL_out 5 (some .int) [(0, 10, 13, 13), (0, 10, 17, 15)]) 4 ∧ Cond.static yL_out ∈ zk_E.2.2.1 := ⟨⟨zk_b10 239 (by decide +kernel) rfl, zk_b1 0 (by decide +kernel) rfl, zk_b10 237 (by decide +kernel) rfl, by decide +kernel, by decide +kernel, by decide +kernel⟩, zk_b10 238 (by decide +kernel) rfl⟩
theorem zl_L_472 : zm_L zk_E RL 472 yX18_out (.code yX18_out cX18_out 3 (some .int)) 2 ∧ Cond.instanceMethod yX18_out ∈ zk_E.2.2.1 ∧ Cond.selects yX18_out.cls yX18_out yX18_out ∈ zk_E.2.2.1 := ⟨⟨zk_b20 133 (by decide +kernel) rfl, zk_b1 13 (by decide +kernel) rfl, zk_b20 130 (by decide +kernel) rfl, by decide +kernel, by decide +kernel, by decide +kernel⟩, zk_b20 131 (by decide +kernel) rfl, zk_b20 132 (by decide +kernel) rfl⟩
theorem zl_L_473 : zm_L zk_E RL 473 yL_failed (.codeWith yL_failed cL_failed 4 (some .int) [(0, 9, 12, 13), (0, 9, 15, 15)]) 3 ∧ Cond.static yL_failed ∈ zk_E.2.2.1 := ⟨⟨zk_b11 11 (by decide +kernel) rfl, zk_b1 0 (by decide +kernel) rfl, zk_b11 9 (by decide +kernel) rfl, by decide +kernel, by decide +kernel, by decide +kernel⟩, zk_b11 10 (by decide +kernel) rfl⟩
theorem zl_L_475 : zm_L zk_E RL 475 yX18_failed (.code yX18_failed cX18_failed 2 (some .int)) 1 ∧ Cond.instanceMethod yX18_failed ∈ zk_E.2.2.1 ∧ Cond.selects yX18_failed.cls yX18_failed yX18_failed ∈ zk_E.2.2.1 := ⟨⟨zk_b20 142 (by decide +kernel) rfl, zk_b1 13 (by decide +kernel) rfl, zk_b20 139 (by decide +kernel) rfl, by decide +kernel, by decide +kernel, by decide +kernel⟩, zk_b20 140 (by decide +kernel) rfl, zk_b20 141 (by decide +kernel) rfl⟩
theorem zl_L_476 : zm_L zk_E RL 476 yL_address (.codeWith yL_address cL_address 5 (some .int) [(0, 10, 13, 13), (0, 10, 17, 15)]) 4 ∧ Cond.static yL_address ∈ zk_E.2.2.1 := ⟨⟨zk_b11 18 (by decide +kernel) rfl, zk_b1 0 (by decide +kernel) rfl, zk_b11 16 (by decide +kernel) rfl, by decide +kernel, by decide +kernel, by decide +kernel⟩, zk_b11 17 (by decide +kernel) rfl⟩
theorem zl_L_478 : zm_L zk_E RL 478 yX18_address (.code yX18_address cX18_address 4 (some .int)) 2 ∧ Cond.instanceMethod yX18_address ∈ zk_E.2.2.1 ∧ Cond.selects yX18_address.cls yX18_address yX18_address ∈ zk_E.2.2.1 := ⟨⟨zk_b20 146 (by decide +kernel) rfl, zk_b1 13 (by decide +kernel) rfl, zk_b20 143 (by decide +kernel) rfl, by decide +kernel, by decide +kernel, by decide +kernel⟩, zk_b20 144 (by decide +kernel) rfl, zk_b20 145 (by decide +kernel) rfl⟩
theorem zl_L_479 : zm_L zk_E RL 479 yL_listen (.codeWith yL_listen cL_listen 6 (some .int) [(0, 19, 22, 13), (0, 19, 26, 15)]) 5 ∧ Cond.static yL_listen ∈ zk_E.2.2.1 := ⟨⟨zk_b11 33 (by decide +kernel) rfl, zk_b1 0 (by decide +kernel) rfl, zk_b11 31 (by decide +kernel) rfl, by decide +kernel, by decide +kernel, by decide +kernel⟩, zk_b11 32 (by decide +kernel) rfl⟩
theorem zl_L_481 : zm_L zk_E RL 481 yX18_listen (.code yX18_listen cX18_listen 5 (some .boolean)) 3 ∧ Cond.instanceMethod yX18_listen ∈ zk_E.2.2.1 ∧ Cond.selects yX18_listen.cls yX18_listen yX18_listen ∈ zk_E.2.2.1 := ⟨⟨zk_b20 151 (by decide +kernel) rfl, zk_b1 13 (by decide +kernel) rfl, zk_b20 148 (by decide +kernel) rfl, by decide +kernel, by decide +kernel, by decide +kernel⟩, zk_b20 149 (by decide +kernel) rfl, zk_b20 150 (by decide +kernel) rfl⟩
theorem zl_L_482 : zm_L zk_E RL 482 yL_busy (.codeWith yL_busy cL_busy 5 (some .int) [(0, 17, 20, 13), (0, 17, 24, 15)]) 4 ∧ Cond.static yL_busy ∈ zk_E.2.2.1 := ⟨⟨zk_b11 44 (by decide +kernel) rfl, zk_b1 0 (by decide +kernel) rfl, zk_b11 42 (by decide +kernel) rfl, by decide +kernel, by decide +kernel, by decide +kernel⟩, zk_b11 43 (by decide +kernel) rfl⟩
theorem zl_L_484 : zm_L zk_E RL 484 yX18_busy (.code yX18_busy cX18_busy 4 (some .boolean)) 2 ∧ Cond.instanceMethod yX18_busy ∈ zk_E.2.2.1 ∧ Cond.selects yX18_busy.cls yX18_busy yX18_busy ∈ zk_E.2.2.1 := ⟨⟨zk_b20 155 (by decide +kernel) rfl, zk_b1 13 (by decide +kernel) rfl, zk_b20 152 (by decide +kernel) rfl, by decide +kernel, by decide +kernel, by decide +kernel⟩, zk_b20 153 (by decide +kernel) rfl, zk_b20 154 (by decide +kernel) rfl⟩
theorem zl_L_485 : zm_L zk_E RL 485 yL_send (.codeWith yL_send cL_send 9 (some .int) [(0, 18, 21, 13), (0, 18, 25, 15)]) 8 ∧ Cond.static yL_send ∈ zk_E.2.2.1 := ⟨⟨zk_b11 55 (by decide +kernel) rfl, zk_b1 0 (by decide +kernel) rfl, zk_b11 53 (by decide +kernel) rfl, by decide +kernel, by decide +kernel, by decide +kernel⟩, zk_b11 54 (by decide +kernel) rfl⟩
theorem zl_L_488 : zm_L zk_E RL 488 yX18_send (.code yX18_send cX18_send 8 (some .int)) 6 ∧ Cond.instanceMethod yX18_send ∈ zk_E.2.2.1 ∧ Cond.selects yX18_send.cls yX18_send yX18_send ∈ zk_E.2.2.1 := ⟨⟨zk_b20 159 (by decide +kernel) rfl, zk_b1 13 (by decide +kernel) rfl, zk_b20 156 (by decide +kernel) rfl, by decide +kernel, by decide +kernel, by decide +kernel⟩, zk_b20 157 (by decide +kernel) rfl, zk_b20 158 (by decide +kernel) rfl⟩
theorem zl_L_489 : zm_L zk_E RL 489 yL_disturb (.codeWith yL_disturb cL_disturb 4 (some .int) [(0, 16, 19, 13), (0, 16, 22, 15)]) 3 ∧ Cond.static yL_disturb ∈ zk_E.2.2.1 := ⟨⟨zk_b11 64 (by decide +kernel) rfl, zk_b1 0 (by decide +kernel) rfl, zk_b11 62 (by decide +kernel) rfl, by decide +kernel, by decide +kernel, by decide +kernel⟩, zk_b11 63 (by decide +kernel) rfl⟩
theorem zl_L_491 : zm_L zk_E RL 491 yX18_disturb (.code yX18_disturb cX18_disturb 2 (some .boolean)) 1 ∧ Cond.instanceMethod yX18_disturb ∈ zk_E.2.2.1 ∧ Cond.selects yX18_disturb.cls yX18_disturb yX18_disturb ∈ zk_E.2.2.1 := ⟨⟨zk_b20 163 (by decide +kernel) rfl, zk_b1 13 (by decide +kernel) rfl, zk_b20 160 (by decide +kernel) rfl, by decide +kernel, by decide +kernel, by decide +kernel⟩, zk_b20 161 (by decide +kernel) rfl, zk_b20 162 (by decide +kernel) rfl⟩
theorem zl_L_492 : zm_L zk_E RL 492 yL_station (.codeWith yL_station cL_station 5 (some .int) [(0, 10, 13, 13), (0, 10, 17, 15)]) 4 ∧ Cond.static yL_station ∈ zk_E.2.2.1 := ⟨⟨zk_b11 75 (by decide +kernel) rfl, zk_b1 0 (by decide +kernel) rfl, zk_b11 73 (by decide +kernel) rfl, by decide +kernel, by decide +kernel, by decide +kernel⟩, zk_b11 74 (by decide +kernel) rfl⟩
theorem zl_L_494 : zm_L zk_E RL 494 yX18_station (.code yX18_station cX18_station 3 (some .int)) 2 ∧ Cond.instanceMethod yX18_station ∈ zk_E.2.2.1 ∧ Cond.selects yX18_station.cls yX18_station yX18_station ∈ zk_E.2.2.1 := ⟨⟨zk_b20 175 (by decide +kernel) rfl, zk_b1 13 (by decide +kernel) rfl, zk_b20 172 (by decide +kernel) rfl, by decide +kernel, by decide +kernel, by decide +kernel⟩, zk_b20 173 (by decide +kernel) rfl, zk_b20 174 (by decide +kernel) rfl⟩
theorem zl_L_495 : zm_L zk_E RL 495 yL_heard (.codeWith yL_heard cL_heard 4 (some .int) [(0, 9, 12, 13), (0, 9, 15, 15)]) 3 ∧ Cond.static yL_heard ∈ zk_E.2.2.1 := ⟨⟨zk_b11 86 (by decide +kernel) rfl, zk_b1 0 (by decide +kernel) rfl, zk_b11 84 (by decide +kernel) rfl, by decide +kernel, by decide +kernel, by decide +kernel⟩, zk_b11 85 (by decide +kernel) rfl⟩
theorem zl_L_497 : zm_L zk_E RL 497 yX18_heard (.code yX18_heard cX18_heard 2 (some .int)) 1 ∧ Cond.instanceMethod yX18_heard ∈ zk_E.2.2.1 ∧ Cond.selects yX18_heard.cls yX18_heard yX18_heard ∈ zk_E.2.2.1 := ⟨⟨zk_b20 183 (by decide +kernel) rfl, zk_b1 13 (by decide +kernel) rfl, zk_b20 180 (by decide +kernel) rfl, by decide +kernel, by decide +kernel, by decide +kernel⟩, zk_b20 181 (by decide +kernel) rfl, zk_b20 182 (by decide +kernel) rfl⟩
theorem zl_L_498 : zm_L zk_E RL 498 yL_byteAt (.codeWith yL_byteAt cL_byteAt 4 (some .int) [(0, 9, 12, 13), (0, 9, 15, 15)]) 3 ∧ Cond.static yL_byteAt ∈ zk_E.2.2.1 := ⟨⟨zk_b11 93 (by decide +kernel) rfl, zk_b1 0 (by decide +kernel) rfl, zk_b11 91 (by decide +kernel) rfl, by decide +kernel, by decide +kernel, by decide +kernel⟩, zk_b11 92 (by decide +kernel) rfl⟩
theorem zl_L_500 : zm_L zk_E RL 500 yX18_byteAt (.code yX18_byteAt cX18_byteAt 2 (some .int)) 1 ∧ Cond.instanceMethod yX18_byteAt ∈ zk_E.2.2.1 ∧ Cond.selects yX18_byteAt.cls yX18_byteAt yX18_byteAt ∈ zk_E.2.2.1 := ⟨⟨zk_b20 187 (by decide +kernel) rfl, zk_b1 13 (by decide +kernel) rfl, zk_b20 184 (by decide +kernel) rfl, by decide +kernel, by decide +kernel, by decide +kernel⟩, zk_b20 185 (by decide +kernel) rfl, zk_b20 186 (by decide +kernel) rfl⟩
theorem zl_L_501 : zm_L zk_E RL 501 yL_car (.codeWith yL_car cL_car 5 (some .int) [(0, 10, 13, 13), (0, 10, 17, 15)]) 4 ∧ Cond.static yL_car ∈ zk_E.2.2.1 := ⟨⟨zk_b11 100 (by decide +kernel) rfl, zk_b1 0 (by decide +kernel) rfl, zk_b11 98 (by decide +kernel) rfl, by decide +kernel, by decide +kernel, by decide +kernel⟩, zk_b11 99 (by decide +kernel) rfl⟩
theorem zl_L_503 : zm_L zk_E RL 503 yX18_car (.code yX18_car cX18_car 3 (some .int)) 2 ∧ Cond.instanceMethod yX18_car ∈ zk_E.2.2.1 ∧ Cond.selects yX18_car.cls yX18_car yX18_car ∈ zk_E.2.2.1 := ⟨⟨zk_b20 191 (by decide +kernel) rfl, zk_b1 13 (by decide +kernel) rfl, zk_b20 188 (by decide +kernel) rfl, by decide +kernel, by decide +kernel, by decide +kernel⟩, zk_b20 189 (by decide +kernel) rfl, zk_b20 190 (by decide +kernel) rfl⟩
theorem zl_L_504 : zm_L zk_E RL 504 yL_free (.codeWith yL_free cL_free 5 (some .int) [(0, 7, 10, 13), (0, 7, 14, 15)]) 4 ∧ Cond.static yL_free ∈ zk_E.2.2.1 := ⟨⟨zk_b11 114 (by decide +kernel) rfl, zk_b1 0 (by decide +kernel) rfl, zk_b11 112 (by decide +kernel) rfl, by decide +kernel, by decide +kernel, by decide +kernel⟩, zk_b11 113 (by decide +kernel) rfl⟩
theorem zl_L_506 : zm_L zk_E RL 506 yX18_free (.code yX18_free cX18_free 4 none) 3 ∧ Cond.instanceMethod yX18_free ∈ zk_E.2.2.1 ∧ Cond.selects yX18_free.cls yX18_free yX18_free ∈ zk_E.2.2.1 := ⟨⟨zk_b20 202 (by decide +kernel) rfl, zk_b1 13 (by decide +kernel) rfl, zk_b20 199 (by decide +kernel) rfl, by decide +kernel, by decide +kernel, by decide +kernel⟩, zk_b20 200 (by decide +kernel) rfl, zk_b20 201 (by decide +kernel) rfl⟩
theorem zl_L_507 : zm_L zk_E RL 507 yL_span (.codeWith yL_span cL_span 5 (some .int) [(0, 7, 10, 13), (0, 7, 14, 15)]) 4 ∧ Cond.static yL_span ∈ zk_E.2.2.1 := ⟨⟨zk_b11 130 (by decide +kernel) rfl, zk_b1 0 (by decide +kernel) rfl, zk_b11 128 (by decide +kernel) rfl, by decide +kernel, by decide +kernel, by decide +kernel⟩, zk_b11 129 (by decide +kernel) rfl⟩
theorem zl_L_509 : zm_L zk_E RL 509 yX18_span (.code yX18_span cX18_span 4 none) 3 ∧ Cond.instanceMethod yX18_span ∈ zk_E.2.2.1 ∧ Cond.selects yX18_span.cls yX18_span yX18_span ∈ zk_E.2.2.1 := ⟨⟨zk_b20 207 (by decide +kernel) rfl, zk_b1 13 (by decide +kernel) rfl, zk_b20 204 (by decide +kernel) rfl, by decide +kernel, by decide +kernel, by decide +kernel⟩, zk_b20 205 (by decide +kernel) rfl, zk_b20 206 (by decide +kernel) rfl⟩
theorem zl_L_510 : zm_L zk_E RL 510 yL_call (.codeWith yL_call cL_call 5 (some .int) [(0, 10, 13, 13), (0, 10, 17, 15)]) 4 ∧ Cond.static yL_call ∈ zk_E.2.2.1 := ⟨⟨zk_b11 141 (by decide +kernel) rfl, zk_b1 0 (by decide +kernel) rfl, zk_b11 139 (by decide +kernel) rfl, by decide +kernel, by decide +kernel, by decide +kernel⟩, zk_b11 140 (by decide +kernel) rfl⟩
theorem zl_L_512 : zm_L zk_E RL 512 yX18_call (.code yX18_call cX18_call 3 (some .int)) 2 ∧ Cond.instanceMethod yX18_call ∈ zk_E.2.2.1 ∧ Cond.selects yX18_call.cls yX18_call yX18_call ∈ zk_E.2.2.1 := ⟨⟨zk_b20 211 (by decide +kernel) rfl, zk_b1 13 (by decide +kernel) rfl, zk_b20 208 (by decide +kernel) rfl, by decide +kernel, by decide +kernel, by decide +kernel⟩, zk_b20 209 (by decide +kernel) rfl, zk_b20 210 (by decide +kernel) rfl⟩
theorem zl_L_513 : zm_L zk_E RL 513 yL_begin (.codeWith yL_begin cL_begin 5 (some .int) [(0, 17, 20, 13), (0, 17, 24, 15)]) 4 ∧ Cond.static yL_begin ∈ zk_E.2.2.1 := ⟨⟨zk_b11 153 (by decide +kernel) rfl, zk_b1 0 (by decide +kernel) rfl, zk_b11 151 (by decide +kernel) rfl, by decide +kernel, by decide +kernel, by decide +kernel⟩, zk_b11 152 (by decide +kernel) rfl⟩
theorem zl_L_515 : zm_L zk_E RL 515 yX18_begin (.code yX18_begin cX18_begin 3 (some .boolean)) 2 ∧ Cond.instanceMethod yX18_begin ∈ zk_E.2.2.1 ∧ Cond.selects yX18_begin.cls yX18_begin yX18_begin ∈ zk_E.2.2.1 := ⟨⟨zk_b20 223 (by decide +kernel) rfl, zk_b1 13 (by decide +kernel) rfl, zk_b20 220 (by decide +kernel) rfl, by decide +kernel, by decide +kernel, by decide +kernel⟩, zk_b20 221 (by decide +kernel) rfl, zk_b20 222 (by decide +kernel) rfl⟩
theorem zl_L_516 : zm_L zk_E RL 516 yL_done (.codeWith yL_done cL_done 3 (some .int) [(0, 5, 8, 13), (0, 5, 11, 15)]) 2 ∧ Cond.static yL_done ∈ zk_E.2.2.1 := ⟨⟨zk_b11 182 (by decide +kernel) rfl, zk_b1 0 (by decide +kernel) rfl, zk_b11 180 (by decide +kernel) rfl, by decide +kernel, by decide +kernel, by decide +kernel⟩, zk_b11 181 (by decide +kernel) rfl⟩
theorem zl_L_519 : zm_L zk_E RL 519 yX18_done (.code yX18_done cX18_done 2 none) 1 ∧ Cond.instanceMethod yX18_done ∈ zk_E.2.2.1 ∧ Cond.selects yX18_done.cls yX18_done yX18_done ∈ zk_E.2.2.1 := ⟨⟨zk_b20 239 (by decide +kernel) rfl, zk_b1 13 (by decide +kernel) rfl, zk_b20 236 (by decide +kernel) rfl, by decide +kernel, by decide +kernel, by decide +kernel⟩, zk_b20 237 (by decide +kernel) rfl, zk_b20 238 (by decide +kernel) rfl⟩
theorem zl_L_520 : zm_L zk_E RL 520 yL_give (.codeWith yL_give cL_give 3 (some .int) [(0, 7, 10, 15)]) 2 ∧ Cond.static yL_give ∈ zk_E.2.2.1 := ⟨⟨zk_b11 194 (by decide +kernel) rfl, zk_b1 0 (by decide +kernel) rfl, zk_b11 192 (by decide +kernel) rfl, by decide +kernel, by decide +kernel, by decide +kernel⟩, zk_b11 193 (by decide +kernel) rfl⟩
theorem zl_L_522 : zm_L zk_E RL 522 yX18_give (.code yX18_give cX18_give 1 (some .long)) 0 ∧ Cond.instanceMethod yX18_give ∈ zk_E.2.2.1 ∧ Cond.selects yX18_give.cls yX18_give yX18_give ∈ zk_E.2.2.1 := ⟨⟨zk_b21 3 (by decide +kernel) rfl, zk_b1 13 (by decide +kernel) rfl, zk_b21 0 (by decide +kernel) rfl, by decide +kernel, by decide +kernel, by decide +kernel⟩, zk_b21 1 (by decide +kernel) rfl, zk_b21 2 (by decide +kernel) rfl⟩
theorem zl_L_523 : zm_L zk_E RL 523 yL_given (.codeWith yL_given cL_given 5 (some .int) [(0, 10, 13, 13), (0, 10, 17, 15)]) 4 ∧ Cond.static yL_given ∈ zk_E.2.2.1 := ⟨⟨zk_b12 19 (by decide +kernel) rfl, zk_b1 0 (by decide +kernel) rfl, zk_b12 17 (by decide +kernel) rfl, by decide +kernel, by decide +kernel, by decide +kernel⟩, zk_b12 18 (by decide +kernel) rfl⟩
theorem zl_L_525 : zm_L zk_E RL 525 yX18_given (.code yX18_given cX18_given 3 (some .int)) 2 ∧ Cond.instanceMethod yX18_given ∈ zk_E.2.2.1 ∧ Cond.selects yX18_given.cls yX18_given yX18_given ∈ zk_E.2.2.1 := ⟨⟨zk_b21 60 (by decide +kernel) rfl, zk_b1 13 (by decide +kernel) rfl, zk_b21 57 (by decide +kernel) rfl, by decide +kernel, by decide +kernel, by decide +kernel⟩, zk_b21 58 (by decide +kernel) rfl, zk_b21 59 (by decide +kernel) rfl⟩
theorem zl_L_526 : zm_L zk_E RL 526 yL_fire (.codeWith yL_fire cL_fire 5 (some .int) [(0, 17, 20, 13), (0, 17, 24, 15)]) 4 ∧ Cond.static yL_fire ∈ zk_E.2.2.1 := ⟨⟨zk_b12 26 (by decide +kernel) rfl, zk_b1 0 (by decide +kernel) rfl, zk_b12 24 (by decide +kernel) rfl, by decide +kernel, by decide +kernel, by decide +kernel⟩, zk_b12 25 (by decide +kernel) rfl⟩
theorem zl_L_528 : zm_L zk_E RL 528 yX18_fire (.code yX18_fire cX18_fire 4 (some .boolean)) 2 ∧ Cond.instanceMethod yX18_fire ∈ zk_E.2.2.1 ∧ Cond.selects yX18_fire.cls yX18_fire yX18_fire ∈ zk_E.2.2.1 := ⟨⟨zk_b21 68 (by decide +kernel) rfl, zk_b1 13 (by decide +kernel) rfl, zk_b21 65 (by decide +kernel) rfl, by decide +kernel, by decide +kernel, by decide +kernel⟩, zk_b21 66 (by decide +kernel) rfl, zk_b21 67 (by decide +kernel) rfl⟩
theorem zl_L_529 : zm_L zk_E RL 529 yL_cell (.codeWith yL_cell cL_cell 6 (some .int) [(0, 12, 15, 13), (0, 12, 19, 15)]) 5 ∧ Cond.static yL_cell ∈ zk_E.2.2.1 := ⟨⟨zk_b12 38 (by decide +kernel) rfl, zk_b1 0 (by decide +kernel) rfl, zk_b12 36 (by decide +kernel) rfl, by decide +kernel, by decide +kernel, by decide +kernel⟩, zk_b12 37 (by decide +kernel) rfl⟩
theorem zl_L_531 : zm_L zk_E RL 531 yX18_cell (.code yX18_cell cX18_cell 7 (some .int)) 3 ∧ Cond.instanceMethod yX18_cell ∈ zk_E.2.2.1 ∧ Cond.selects yX18_cell.cls yX18_cell yX18_cell ∈ zk_E.2.2.1 := ⟨⟨zk_b21 72 (by decide +kernel) rfl, zk_b1 13 (by decide +kernel) rfl, zk_b21 69 (by decide +kernel) rfl, by decide +kernel, by decide +kernel, by decide +kernel⟩, zk_b21 70 (by decide +kernel) rfl, zk_b21 71 (by decide +kernel) rfl⟩
theorem zl_L_532 : zm_L zk_E RL 532 yL_pass (.codeWith yL_pass cL_pass 4 (some .int) [(0, 9, 12, 13), (0, 9, 15, 15)]) 3 ∧ Cond.static yL_pass ∈ zk_E.2.2.1 := ⟨⟨zk_b12 59 (by decide +kernel) rfl, zk_b1 0 (by decide +kernel) rfl, zk_b12 57 (by decide +kernel) rfl, by decide +kernel, by decide +kernel, by decide +kernel⟩, zk_b12 58 (by decide +kernel) rfl⟩
theorem zl_L_534 : zm_L zk_E RL 534 yX18_pass (.code yX18_pass cX18_pass 3 (some .int)) 1 ∧ Cond.instanceMethod yX18_pass ∈ zk_E.2.2.1 ∧ Cond.selects yX18_pass.cls yX18_pass yX18_pass ∈ zk_E.2.2.1 := ⟨⟨zk_b21 76 (by decide +kernel) rfl, zk_b1 13 (by decide +kernel) rfl, zk_b21 73 (by decide +kernel) rfl, by decide +kernel, by decide +kernel, by decide +kernel⟩, zk_b21 74 (by decide +kernel) rfl, zk_b21 75 (by decide +kernel) rfl⟩
theorem zl_L_535 : zm_L zk_E RL 535 yL_told (.codeWith yL_told cL_told 4 (some .int) [(0, 9, 12, 13), (0, 9, 15, 15)]) 3 ∧ Cond.static yL_told ∈ zk_E.2.2.1 := ⟨⟨zk_b13 57 (by decide +kernel) rfl, zk_b1 0 (by decide +kernel) rfl, zk_b13 55 (by decide +kernel) rfl, by decide +kernel, by decide +kernel, by decide +kernel⟩, zk_b13 56 (by decide +kernel) rfl⟩
theorem zl_L_537 : zm_L zk_E RL 537 yX18_told (.code yX18_told cX18_told 2 (some .int)) 1 ∧ Cond.instanceMethod yX18_told ∈ zk_E.2.2.1 ∧ Cond.selects yX18_told.cls yX18_told yX18_told ∈ zk_E.2.2.1 := ⟨⟨zk_b21 218 (by decide +kernel) rfl, zk_b1 13 (by decide +kernel) rfl, zk_b21 215 (by decide +kernel) rfl, by decide +kernel, by decide +kernel, by decide +kernel⟩, zk_b21 216 (by decide +kernel) rfl, zk_b21 217 (by decide +kernel) rfl⟩
def zf_L_law_J376 (N : Nat) (k : Nat → Nat → Nat → Nat → Int32 → Nat → Nat → zm_S → Option ((Int32 × zm_S) ⊕ ((Unit) × zm_S))) (a0 : Nat) (a1 : Nat) (a2 : Nat) (a3 : Nat) (i4 : Int32) (rc rs : Nat) (S : zm_S) : Option ((Int32 × zm_S) ⊕ ((Unit) × zm_S)) := (za_x S 0 a0 (i4 + (1 : Int32))).bind (fun v12 => (za_x S 0 a0 (i4 + (2 : Int32))).bind (fun v13 => (za_x S 0 a0 (i4 + (3 : Int32))).bind (fun v14 => (za_x S 0 a0 (i4 + (4 : Int32))).bind (fun v15 => if 3 ≤ rc ∧ 18 ≤ rs then (zf_L_line N a1 v12 v13 v14 v15 a3 S).bind (fun r18 => (za_x r18.2 0 a0 (i4 + (1 : Int32))).bind (fun v19 => (za_x r18.2 0 a0 (i4 + (2 : Int32))).bind (fun v20 => (za_x r18.2 0 a0 (i4 + (3 : Int32))).bind (fun v21 => (za_x r18.2 0 a0 (i4 + (4 : Int32))).bind (fun v22 => (zi r18.2 a2 18).bind (fun _ => (zf_X18_line N a2 v19 v20 v21 v22 r18.2).bind (fun r24 => (zi r24.2 a2 18).bind (fun _ => (zf_X18_thrown N a2 r24.2).bind (fun r26 => if r26.1 = r18.1 then if r18.1 = 0 then (za_l r26.2 a3 (0 : Int32)).bind (fun w27 => if (lg_cmp w27 ((r24.1).toInt64)) = 0 then k a0 a1 a2 a3 (i4 + (7 : Int32)) (rc - 3) (rs - 18) r26.2 else none) else k a0 a1 a2 a3 (i4 + (7 : Int32)) (rc - 3) (rs - 18) r26.2 else none))))))))) else none))))
set_option maxHeartbeats 4000000 in
set_option maxRecDepth 100000 in
theorem zt_L_law_J376 {p : Program} {l : Launch} {e : Env} {s : State} {m : MethodId} {zb : Nat} {below : List Frame} {meth : Method} {c : Code} {V : zm_V} {d : Nat} {nm : String} (hlt : l.stackTraces = false) (hV : V.2.2.2.1 = s.heap.size) (hX : zm_X p room_1 s m #[Value.ref zb] meth c RL nm cL_law 8 zk_E V 601024 7293034) (hr : meth.sig.returnType = ret) (hR : d ≤ room_1.frames ∧ 64 * d ≤ room_1.locals) (hd : 46 ≤ d) {N : Nat} {k : Nat → Nat → Nat → Nat → Int32 → Nat → Nat → zm_S → Option ((Int32 × zm_S) ⊕ ((Unit) × zm_S))} {rc rs : Nat} {a0 : Nat} {a1 : Nat} {a2 : Nat} {a3 : Nat} {i4 : Int32} {res : (Int32 × zm_S) ⊕ ((Unit) × zm_S)} {out : (Int32 × zm_S)}   (hf : ∀ o, res = .inl o → o = out) (hk : ∀ (S' : zm_S) (rc rs : Nat), res = .inr ((), S') → zw p l e room_1 s m #[Value.ref zb] below meth c (lw_Z below #[Value.ref zb] s) 8 zk_E V 601024 7293034 6008 [] [] S' rc rs) (hrec : ∀ (i4' : Int32) (rc rs : Nat) (S : zm_S), k a0 a1 a2 a3 i4' rc rs S = some res → zw p l e room_1 s m #[Value.ref zb] below meth c (lw_Z below #[Value.ref zb] s) 8 zk_E V 601024 7293034 23 [(0, .ref a0), (1, .ref a1), (2, .ref a2), (3, .ref a3), (4, .int i4')] [] S rc rs) {S : zm_S} (h : zf_L_law_J376 N k a0 a1 a2 a3 i4 rc rs S = some res) : zw p l e room_1 s m #[Value.ref zb] below meth c (lw_Z below #[Value.ref zb] s) 8 zk_E V 601024 7293034 376 [(0, .ref a0), (1, .ref a1), (2, .ref a2), (3, .ref a3), (4, .int i4)] [] S rc rs := by
  unfold zf_L_law_J376 at h
  refine zw_aload_n hX dL_law_376 rfl ?_
  refine zw_aload_n hX dL_law_377 rfl ?_
  refine zw_iload hX dL_law_378 rfl ?_
  refine zw_iconst (v := (1 : Int32)) hX dL_law_380 (by decide) ?_
  refine zw_iadd hX dL_law_381 ?_
  obtain ⟨v12, g, h⟩ := zb_some h
  refine zw_xi hX dL_law_382 g ?_
  refine zw_aload_n hX dL_law_383 rfl ?_
  refine zw_iload hX dL_law_384 rfl ?_
  refine zw_iconst (v := (2 : Int32)) hX dL_law_386 (by decide) ?_
  refine zw_iadd hX dL_law_387 ?_
  obtain ⟨v13, g, h⟩ := zb_some h
  refine zw_xi hX dL_law_388 g ?_
  refine zw_aload_n hX dL_law_389 rfl ?_
  refine zw_iload hX dL_law_390 rfl ?_
  refine zw_iconst (v := (3 : Int32)) hX dL_law_392 (by decide) ?_
  refine zw_iadd hX dL_law_393 ?_
  obtain ⟨v14, g, h⟩ := zb_some h
  refine zw_xi hX dL_law_394 g ?_
  refine zw_aload_n hX dL_law_395 rfl ?_
  refine zw_iload hX dL_law_396 rfl ?_
  refine zw_iconst (v := (4 : Int32)) hX dL_law_398 (by decide) ?_
  refine zw_iadd hX dL_law_399 ?_
  obtain ⟨v15, g, h⟩ := zb_some h
  refine zw_xi hX dL_law_400 g ?_
  refine zw_aload_n hX dL_law_401 rfl ?_
  by_cases hb402 : 3 ≤ rc ∧ 18 ≤ rs
  · rw [if_pos hb402] at h
    obtain ⟨r18, g, h⟩ := zb_some h
    refine zc_S (as := [.ref a1, .int v12, .int v13, .int v14, .int v15, .ref a3]) hX (zt_L_line hlt (d := d - 1) (by omega) g) zl_L_275 dL_law_402 ⟨rfl, rfl, Nat.le_of_ble_eq_true rfl⟩ ⟨by omega, by omega⟩ hb402 ?_ ?_
    · rintro _ _ ⟨rfl, rfl⟩
      refine zw_istore hX dL_law_405 (by decide) ?_
      refine zw_aload_n hX dL_law_407 rfl ?_
      refine zw_aload_n hX dL_law_408 rfl ?_
      refine zw_iload hX dL_law_409 rfl ?_
      refine zw_iconst (v := (1 : Int32)) hX dL_law_411 (by decide) ?_
      refine zw_iadd hX dL_law_412 ?_
      obtain ⟨v19, g, h⟩ := zb_some h
      refine zw_xi hX dL_law_413 g ?_
      refine zw_aload_n hX dL_law_414 rfl ?_
      refine zw_iload hX dL_law_415 rfl ?_
      refine zw_iconst (v := (2 : Int32)) hX dL_law_417 (by decide) ?_
      refine zw_iadd hX dL_law_418 ?_
      obtain ⟨v20, g, h⟩ := zb_some h
      refine zw_xi hX dL_law_419 g ?_
      refine zw_aload_n hX dL_law_420 rfl ?_
      refine zw_iload hX dL_law_421 rfl ?_
      refine zw_iconst (v := (3 : Int32)) hX dL_law_423 (by decide) ?_
      refine zw_iadd hX dL_law_424 ?_
      obtain ⟨v21, g, h⟩ := zb_some h
      refine zw_xi hX dL_law_425 g ?_
      refine zw_aload_n hX dL_law_426 rfl ?_
      refine zw_iload hX dL_law_427 rfl ?_
      refine zw_iconst (v := (4 : Int32)) hX dL_law_429 (by decide) ?_
      refine zw_iadd hX dL_law_430 ?_
      obtain ⟨v22, g, h⟩ := zb_some h
      refine zw_xi hX dL_law_431 g ?_
      obtain ⟨_, gi, h⟩ := zb_some h
      obtain ⟨r24, g, h⟩ := zb_some h
      refine zc_Vi (as := [.int v19, .int v20, .int v21, .int v22]) hX gi (zt_X18_line (d := d - 1) (by omega) g) zl_L_280 rfl dL_law_432 ⟨rfl, rfl, Nat.le_of_ble_eq_true rfl⟩ ⟨by omega, by omega⟩ ?_
      refine zw_istore hX dL_law_435 (by decide) ?_
      refine zw_aload_n hX dL_law_437 rfl ?_
      obtain ⟨_, gi, h⟩ := zb_some h
      obtain ⟨r26, g, h⟩ := zb_some h
      refine zc_Vi (as := []) hX gi (zt_X18_thrown (d := d - 1) (by omega) g) zl_L_281 rfl dL_law_438 ⟨rfl, rfl, Nat.le_of_ble_eq_true rfl⟩ ⟨by omega, by omega⟩ ?_
      refine zw_iload hX dL_law_441 rfl ?_
      refine zw_icmp_eq (tgt := 448) hX dL_law_443 (by decide) (fun c443 => ?_) (fun c443 => ?_)
      · rw [if_pos c443] at h
        refine zw_iload hX dL_law_448 rfl ?_
        refine zw_if_ne (tgt := 465) hX dL_law_450 (by decide) (fun c450 => ?_) (fun c450 => ?_)
        · rw [if_neg c450] at h
          refine zw_goto (tgt := 6002) hX dL_law_465 (by decide) ?_
          refine zw_iinc (v := (i4 + (7 : Int32))) hX dL_law_6002 rfl rfl (by decide) ?_
          refine zw_goto (tgt := 23) hX dL_law_6005 (by decide) ?_
          refine zw_sub (lv' := [(0, .ref a0), (1, .ref a1), (2, .ref a2), (3, .ref a3), (4, .int (i4 + (7 : Int32)))]) (List.forall_mem_cons.mpr ⟨rfl, (List.forall_mem_cons.mpr ⟨rfl, (List.forall_mem_cons.mpr ⟨rfl, (List.forall_mem_cons.mpr ⟨rfl, (List.forall_mem_cons.mpr ⟨rfl, zs_nil⟩)⟩)⟩)⟩)⟩) ?_
          exact hrec _ _ _ _ h
        · rw [if_pos c450] at h
          refine zw_aload_n hX dL_law_453 rfl ?_
          refine zw_iconst (v := (0 : Int32)) hX dL_law_454 (by decide) ?_
          obtain ⟨w27, g, h⟩ := zb_some h
          refine zw_xl hX dL_law_455 g ?_
          refine zw_iload hX dL_law_456 rfl ?_
          refine zw_i2l hX dL_law_458 ?_
          refine zw_lcmp hX dL_law_459 ?_
          refine zw_if_eq (tgt := 465) hX dL_law_460 (by decide) (fun c460 => ?_) (fun c460 => ?_)
          · rw [if_pos c460] at h
            refine zw_goto (tgt := 6002) hX dL_law_465 (by decide) ?_
            refine zw_iinc (v := (i4 + (7 : Int32))) hX dL_law_6002 rfl rfl (by decide) ?_
            refine zw_goto (tgt := 23) hX dL_law_6005 (by decide) ?_
            refine zw_sub (lv' := [(0, .ref a0), (1, .ref a1), (2, .ref a2), (3, .ref a3), (4, .int (i4 + (7 : Int32)))]) (List.forall_mem_cons.mpr ⟨rfl, (List.forall_mem_cons.mpr ⟨rfl, (List.forall_mem_cons.mpr ⟨rfl, (List.forall_mem_cons.mpr ⟨rfl, (List.forall_mem_cons.mpr ⟨rfl, zs_nil⟩)⟩)⟩)⟩)⟩) ?_
            exact hrec _ _ _ _ h
          · rw [if_neg c460] at h
            refine zw_iconst (v := (0 : Int32)) hX dL_law_463 (by decide) ?_
            cases h
      · rw [if_neg c443] at h
        refine zw_iconst (v := (0 : Int32)) hX dL_law_446 (by decide) ?_
        cases h
    · intro _ _ hx
      exact hx.elim
  · rw [if_neg hb402] at h
    cases h
def zf_L_law_J546 (N : Nat) (k : Nat → Nat → Nat → Nat → Int32 → Nat → Nat → zm_S → Option ((Int32 × zm_S) ⊕ ((Unit) × zm_S))) (a0 : Nat) (a1 : Nat) (a2 : Nat) (a3 : Nat) (i4 : Int32) (t0 : Int64) (t1 : Int64) (rc rs : Nat) (S : zm_S) : Option ((Int32 × zm_S) ⊕ ((Unit) × zm_S)) := if (lg_cmp t0 t1) = 0 then k a0 a1 a2 a3 (i4 + (7 : Int32)) rc rs S else none
set_option maxHeartbeats 4000000 in
set_option maxRecDepth 100000 in
theorem zt_L_law_J546 {p : Program} {l : Launch} {e : Env} {s : State} {m : MethodId} {zb : Nat} {below : List Frame} {meth : Method} {c : Code} {V : zm_V} {d : Nat} {nm : String} (hlt : l.stackTraces = false) (hV : V.2.2.2.1 = s.heap.size) (hX : zm_X p room_1 s m #[Value.ref zb] meth c RL nm cL_law 8 zk_E V 601024 7293034) (hr : meth.sig.returnType = ret) (hR : d ≤ room_1.frames ∧ 64 * d ≤ room_1.locals) (hd : 46 ≤ d) {N : Nat} {k : Nat → Nat → Nat → Nat → Int32 → Nat → Nat → zm_S → Option ((Int32 × zm_S) ⊕ ((Unit) × zm_S))} {rc rs : Nat} {a0 : Nat} {a1 : Nat} {a2 : Nat} {a3 : Nat} {i4 : Int32} {t0 : Int64} {t1 : Int64} {res : (Int32 × zm_S) ⊕ ((Unit) × zm_S)} {out : (Int32 × zm_S)}   (hf : ∀ o, res = .inl o → o = out) (hk : ∀ (S' : zm_S) (rc rs : Nat), res = .inr ((), S') → zw p l e room_1 s m #[Value.ref zb] below meth c (lw_Z below #[Value.ref zb] s) 8 zk_E V 601024 7293034 6008 [] [] S' rc rs) (hrec : ∀ (i4' : Int32) (rc rs : Nat) (S : zm_S), k a0 a1 a2 a3 i4' rc rs S = some res → zw p l e room_1 s m #[Value.ref zb] below meth c (lw_Z below #[Value.ref zb] s) 8 zk_E V 601024 7293034 23 [(0, .ref a0), (1, .ref a1), (2, .ref a2), (3, .ref a3), (4, .int i4')] [] S rc rs) {S : zm_S} (h : zf_L_law_J546 N k a0 a1 a2 a3 i4 t0 t1 rc rs S = some res) : zw p l e room_1 s m #[Value.ref zb] below meth c (lw_Z below #[Value.ref zb] s) 8 zk_E V 601024 7293034 546 [(0, .ref a0), (1, .ref a1), (2, .ref a2), (3, .ref a3), (4, .int i4)] [.long t1, .long t0] S rc rs := by
  unfold zf_L_law_J546 at h
  refine zw_lcmp hX dL_law_546 ?_
  refine zw_if_eq (tgt := 552) hX dL_law_547 (by decide) (fun c547 => ?_) (fun c547 => ?_)
  · rw [if_pos c547] at h
    refine zw_goto (tgt := 6002) hX dL_law_552 (by decide) ?_
    refine zw_iinc (v := (i4 + (7 : Int32))) hX dL_law_6002 rfl rfl (by decide) ?_
    refine zw_goto (tgt := 23) hX dL_law_6005 (by decide) ?_
    refine zw_sub (lv' := [(0, .ref a0), (1, .ref a1), (2, .ref a2), (3, .ref a3), (4, .int (i4 + (7 : Int32)))]) (List.forall_mem_cons.mpr ⟨rfl, (List.forall_mem_cons.mpr ⟨rfl, (List.forall_mem_cons.mpr ⟨rfl, (List.forall_mem_cons.mpr ⟨rfl, (List.forall_mem_cons.mpr ⟨rfl, zs_nil⟩)⟩)⟩)⟩)⟩) ?_
    exact hrec _ _ _ _ h
  · rw [if_neg c547] at h
    refine zw_iconst (v := (0 : Int32)) hX dL_law_550 (by decide) ?_
    cases h
def zf_L_law_J468 (N : Nat) (k : Nat → Nat → Nat → Nat → Int32 → Nat → Nat → zm_S → Option ((Int32 × zm_S) ⊕ ((Unit) × zm_S))) (a0 : Nat) (a1 : Nat) (a2 : Nat) (a3 : Nat) (i4 : Int32) (rc rs : Nat) (S : zm_S) : Option ((Int32 × zm_S) ⊕ ((Unit) × zm_S)) := (za_x S 0 a0 (i4 + (1 : Int32))).bind (fun v28 => (za_x S 0 a0 (i4 + (2 : Int32))).bind (fun v29 => (za_x S 0 a0 (i4 + (3 : Int32))).bind (fun v30 => if 2 ≤ rc ∧ 12 ≤ rs then (zf_L_move N a1 v28 v29 v30 a3 S).bind (fun r33 => (za_x r33.2 0 a0 (i4 + (1 : Int32))).bind (fun v34 => (za_x r33.2 0 a0 (i4 + (2 : Int32))).bind (fun v35 => (za_x r33.2 0 a0 (i4 + (3 : Int32))).bind (fun v36 => (zi r33.2 a2 18).bind (fun _ => (zf_X18_move N a2 v34 v35 v36 r33.2).bind (fun r38 => (zi r38.2 a2 18).bind (fun _ => (zf_X18_thrown N a2 r38.2).bind (fun r40 => if r40.1 = r33.1 then if r33.1 = 0 then (za_l r40.2 a3 (0 : Int32)).bind (fun w41 => if r38.1 = 0 then zf_L_law_J546 N (k) a0 a1 a2 a3 i4 w41 (0 : Int64) (rc - 2) (rs - 12) r40.2 else zf_L_law_J546 N (k) a0 a1 a2 a3 i4 w41 (1 : Int64) (rc - 2) (rs - 12) r40.2) else k a0 a1 a2 a3 (i4 + (7 : Int32)) (rc - 2) (rs - 12) r40.2 else none)))))))) else none)))
set_option maxHeartbeats 4000000 in
set_option maxRecDepth 100000 in
theorem zt_L_law_J468 {p : Program} {l : Launch} {e : Env} {s : State} {m : MethodId} {zb : Nat} {below : List Frame} {meth : Method} {c : Code} {V : zm_V} {d : Nat} {nm : String} (hlt : l.stackTraces = false) (hV : V.2.2.2.1 = s.heap.size) (hX : zm_X p room_1 s m #[Value.ref zb] meth c RL nm cL_law 8 zk_E V 601024 7293034) (hr : meth.sig.returnType = ret) (hR : d ≤ room_1.frames ∧ 64 * d ≤ room_1.locals) (hd : 46 ≤ d) {N : Nat} {k : Nat → Nat → Nat → Nat → Int32 → Nat → Nat → zm_S → Option ((Int32 × zm_S) ⊕ ((Unit) × zm_S))} {rc rs : Nat} {a0 : Nat} {a1 : Nat} {a2 : Nat} {a3 : Nat} {i4 : Int32} {res : (Int32 × zm_S) ⊕ ((Unit) × zm_S)} {out : (Int32 × zm_S)}   (hf : ∀ o, res = .inl o → o = out) (hk : ∀ (S' : zm_S) (rc rs : Nat), res = .inr ((), S') → zw p l e room_1 s m #[Value.ref zb] below meth c (lw_Z below #[Value.ref zb] s) 8 zk_E V 601024 7293034 6008 [] [] S' rc rs) (hrec : ∀ (i4' : Int32) (rc rs : Nat) (S : zm_S), k a0 a1 a2 a3 i4' rc rs S = some res → zw p l e room_1 s m #[Value.ref zb] below meth c (lw_Z below #[Value.ref zb] s) 8 zk_E V 601024 7293034 23 [(0, .ref a0), (1, .ref a1), (2, .ref a2), (3, .ref a3), (4, .int i4')] [] S rc rs) {S : zm_S} (h : zf_L_law_J468 N k a0 a1 a2 a3 i4 rc rs S = some res) : zw p l e room_1 s m #[Value.ref zb] below meth c (lw_Z below #[Value.ref zb] s) 8 zk_E V 601024 7293034 468 [(0, .ref a0), (1, .ref a1), (2, .ref a2), (3, .ref a3), (4, .int i4)] [] S rc rs := by
  unfold zf_L_law_J468 at h
  refine zw_aload_n hX dL_law_468 rfl ?_
  refine zw_aload_n hX dL_law_469 rfl ?_
  refine zw_iload hX dL_law_470 rfl ?_
  refine zw_iconst (v := (1 : Int32)) hX dL_law_472 (by decide) ?_
  refine zw_iadd hX dL_law_473 ?_
  obtain ⟨v28, g, h⟩ := zb_some h
  refine zw_xi hX dL_law_474 g ?_
  refine zw_aload_n hX dL_law_475 rfl ?_
  refine zw_iload hX dL_law_476 rfl ?_
  refine zw_iconst (v := (2 : Int32)) hX dL_law_478 (by decide) ?_
  refine zw_iadd hX dL_law_479 ?_
  obtain ⟨v29, g, h⟩ := zb_some h
  refine zw_xi hX dL_law_480 g ?_
  refine zw_aload_n hX dL_law_481 rfl ?_
  refine zw_iload hX dL_law_482 rfl ?_
  refine zw_iconst (v := (3 : Int32)) hX dL_law_484 (by decide) ?_
  refine zw_iadd hX dL_law_485 ?_
  obtain ⟨v30, g, h⟩ := zb_some h
  refine zw_xi hX dL_law_486 g ?_
  refine zw_aload_n hX dL_law_487 rfl ?_
  by_cases hb488 : 2 ≤ rc ∧ 12 ≤ rs
  · rw [if_pos hb488] at h
    obtain ⟨r33, g, h⟩ := zb_some h
    refine zc_S (as := [.ref a1, .int v28, .int v29, .int v30, .ref a3]) hX (zt_L_move hlt (d := d - 1) (by omega) g) zl_L_284 dL_law_488 ⟨rfl, rfl, Nat.le_of_ble_eq_true rfl⟩ ⟨by omega, by omega⟩ hb488 ?_ ?_
    · rintro _ _ ⟨rfl, rfl⟩
      refine zw_istore hX dL_law_491 (by decide) ?_
      refine zw_aload_n hX dL_law_493 rfl ?_
      refine zw_aload_n hX dL_law_494 rfl ?_
      refine zw_iload hX dL_law_495 rfl ?_
      refine zw_iconst (v := (1 : Int32)) hX dL_law_497 (by decide) ?_
      refine zw_iadd hX dL_law_498 ?_
      obtain ⟨v34, g, h⟩ := zb_some h
      refine zw_xi hX dL_law_499 g ?_
      refine zw_aload_n hX dL_law_500 rfl ?_
      refine zw_iload hX dL_law_501 rfl ?_
      refine zw_iconst (v := (2 : Int32)) hX dL_law_503 (by decide) ?_
      refine zw_iadd hX dL_law_504 ?_
      obtain ⟨v35, g, h⟩ := zb_some h
      refine zw_xi hX dL_law_505 g ?_
      refine zw_aload_n hX dL_law_506 rfl ?_
      refine zw_iload hX dL_law_507 rfl ?_
      refine zw_iconst (v := (3 : Int32)) hX dL_law_509 (by decide) ?_
      refine zw_iadd hX dL_law_510 ?_
      obtain ⟨v36, g, h⟩ := zb_some h
      refine zw_xi hX dL_law_511 g ?_
      obtain ⟨_, gi, h⟩ := zb_some h
      obtain ⟨r38, g, h⟩ := zb_some h
      refine zc_Vi (as := [.int v34, .int v35, .int v36]) hX gi (zt_X18_move (d := d - 1) (by omega) g) zl_L_287 rfl dL_law_512 ⟨rfl, rfl, Nat.le_of_ble_eq_true rfl⟩ ⟨by omega, by omega⟩ ?_
      refine zw_istore hX dL_law_515 (by decide) ?_
      refine zw_aload_n hX dL_law_517 rfl ?_
      obtain ⟨_, gi, h⟩ := zb_some h
      obtain ⟨r40, g, h⟩ := zb_some h
      refine zc_Vi (as := []) hX gi (zt_X18_thrown (d := d - 1) (by omega) g) zl_L_281 rfl dL_law_518 ⟨rfl, rfl, Nat.le_of_ble_eq_true rfl⟩ ⟨by omega, by omega⟩ ?_
      refine zw_iload hX dL_law_521 rfl ?_
      refine zw_icmp_eq (tgt := 528) hX dL_law_523 (by decide) (fun c523 => ?_) (fun c523 => ?_)
      · rw [if_pos c523] at h
        refine zw_iload hX dL_law_528 rfl ?_
        refine zw_if_ne (tgt := 552) hX dL_law_530 (by decide) (fun c530 => ?_) (fun c530 => ?_)
        · rw [if_neg c530] at h
          refine zw_goto (tgt := 6002) hX dL_law_552 (by decide) ?_
          refine zw_iinc (v := (i4 + (7 : Int32))) hX dL_law_6002 rfl rfl (by decide) ?_
          refine zw_goto (tgt := 23) hX dL_law_6005 (by decide) ?_
          refine zw_sub (lv' := [(0, .ref a0), (1, .ref a1), (2, .ref a2), (3, .ref a3), (4, .int (i4 + (7 : Int32)))]) (List.forall_mem_cons.mpr ⟨rfl, (List.forall_mem_cons.mpr ⟨rfl, (List.forall_mem_cons.mpr ⟨rfl, (List.forall_mem_cons.mpr ⟨rfl, (List.forall_mem_cons.mpr ⟨rfl, zs_nil⟩)⟩)⟩)⟩)⟩) ?_
          exact hrec _ _ _ _ h
        · rw [if_pos c530] at h
          refine zw_aload_n hX dL_law_533 rfl ?_
          refine zw_iconst (v := (0 : Int32)) hX dL_law_534 (by decide) ?_
          obtain ⟨w41, g, h⟩ := zb_some h
          refine zw_xl hX dL_law_535 g ?_
          refine zw_iload hX dL_law_536 rfl ?_
          refine zw_if_eq (tgt := 545) hX dL_law_538 (by decide) (fun c538 => ?_) (fun c538 => ?_)
          · rw [if_pos c538] at h
            refine zw_lconst (v := (0 : Int64)) hX dL_law_545 (by decide) ?_
            refine zw_sub (lv' := [(0, .ref a0), (1, .ref a1), (2, .ref a2), (3, .ref a3), (4, .int i4)]) (List.forall_mem_cons.mpr ⟨rfl, (List.forall_mem_cons.mpr ⟨rfl, (List.forall_mem_cons.mpr ⟨rfl, (List.forall_mem_cons.mpr ⟨rfl, (List.forall_mem_cons.mpr ⟨rfl, zs_nil⟩)⟩)⟩)⟩)⟩) ?_
            exact zt_L_law_J546 hlt hV hX hr hR hd hf hk hrec h
          · rw [if_neg c538] at h
            refine zw_lconst (v := (1 : Int64)) hX dL_law_541 (by decide) ?_
            refine zw_goto (tgt := 546) hX dL_law_542 (by decide) ?_
            refine zw_sub (lv' := [(0, .ref a0), (1, .ref a1), (2, .ref a2), (3, .ref a3), (4, .int i4)]) (List.forall_mem_cons.mpr ⟨rfl, (List.forall_mem_cons.mpr ⟨rfl, (List.forall_mem_cons.mpr ⟨rfl, (List.forall_mem_cons.mpr ⟨rfl, (List.forall_mem_cons.mpr ⟨rfl, zs_nil⟩)⟩)⟩)⟩)⟩) ?_
            exact zt_L_law_J546 hlt hV hX hr hR hd hf hk hrec h
      · rw [if_neg c523] at h
        refine zw_iconst (v := (0 : Int32)) hX dL_law_526 (by decide) ?_
        cases h
    · intro _ _ hx
      exact hx.elim
  · rw [if_neg hb488] at h
    cases h
def zf_L_law_J555 (N : Nat) (k : Nat → Nat → Nat → Nat → Int32 → Nat → Nat → zm_S → Option ((Int32 × zm_S) ⊕ ((Unit) × zm_S))) (a0 : Nat) (a1 : Nat) (a2 : Nat) (a3 : Nat) (i4 : Int32) (rc rs : Nat) (S : zm_S) : Option ((Int32 × zm_S) ⊕ ((Unit) × zm_S)) := (za_x S 0 a0 (i4 + (1 : Int32))).bind (fun v42 => (za_x S 0 a0 (i4 + (2 : Int32))).bind (fun v43 => (za_x S 0 a0 (i4 + (3 : Int32))).bind (fun v44 => (za_x S 0 a0 (i4 + (4 : Int32))).bind (fun v45 => if 3 ≤ rc ∧ 18 ≤ rs then (zf_L_door N a1 v42 v43 v44 v45 a3 S).bind (fun r48 => (za_x r48.2 0 a0 (i4 + (1 : Int32))).bind (fun v49 => (za_x r48.2 0 a0 (i4 + (2 : Int32))).bind (fun v50 => (za_x r48.2 0 a0 (i4 + (3 : Int32))).bind (fun v51 => (za_x r48.2 0 a0 (i4 + (4 : Int32))).bind (fun v52 => (zi r48.2 a2 18).bind (fun _ => (zf_X18_door N a2 v49 v50 v51 v52 r48.2).bind (fun r54 => (zi r54.2 a2 18).bind (fun _ => (zf_X18_thrown N a2 r54.2).bind (fun r56 => if r56.1 = r48.1 then if r48.1 = 0 then (za_l r56.2 a3 (0 : Int32)).bind (fun w57 => if (lg_cmp w57 ((r54.1).toInt64)) = 0 then k a0 a1 a2 a3 (i4 + (7 : Int32)) (rc - 3) (rs - 18) r56.2 else none) else k a0 a1 a2 a3 (i4 + (7 : Int32)) (rc - 3) (rs - 18) r56.2 else none))))))))) else none))))
set_option maxHeartbeats 4000000 in
set_option maxRecDepth 100000 in
theorem zt_L_law_J555 {p : Program} {l : Launch} {e : Env} {s : State} {m : MethodId} {zb : Nat} {below : List Frame} {meth : Method} {c : Code} {V : zm_V} {d : Nat} {nm : String} (hlt : l.stackTraces = false) (hV : V.2.2.2.1 = s.heap.size) (hX : zm_X p room_1 s m #[Value.ref zb] meth c RL nm cL_law 8 zk_E V 601024 7293034) (hr : meth.sig.returnType = ret) (hR : d ≤ room_1.frames ∧ 64 * d ≤ room_1.locals) (hd : 46 ≤ d) {N : Nat} {k : Nat → Nat → Nat → Nat → Int32 → Nat → Nat → zm_S → Option ((Int32 × zm_S) ⊕ ((Unit) × zm_S))} {rc rs : Nat} {a0 : Nat} {a1 : Nat} {a2 : Nat} {a3 : Nat} {i4 : Int32} {res : (Int32 × zm_S) ⊕ ((Unit) × zm_S)} {out : (Int32 × zm_S)}   (hf : ∀ o, res = .inl o → o = out) (hk : ∀ (S' : zm_S) (rc rs : Nat), res = .inr ((), S') → zw p l e room_1 s m #[Value.ref zb] below meth c (lw_Z below #[Value.ref zb] s) 8 zk_E V 601024 7293034 6008 [] [] S' rc rs) (hrec : ∀ (i4' : Int32) (rc rs : Nat) (S : zm_S), k a0 a1 a2 a3 i4' rc rs S = some res → zw p l e room_1 s m #[Value.ref zb] below meth c (lw_Z below #[Value.ref zb] s) 8 zk_E V 601024 7293034 23 [(0, .ref a0), (1, .ref a1), (2, .ref a2), (3, .ref a3), (4, .int i4')] [] S rc rs) {S : zm_S} (h : zf_L_law_J555 N k a0 a1 a2 a3 i4 rc rs S = some res) : zw p l e room_1 s m #[Value.ref zb] below meth c (lw_Z below #[Value.ref zb] s) 8 zk_E V 601024 7293034 555 [(0, .ref a0), (1, .ref a1), (2, .ref a2), (3, .ref a3), (4, .int i4)] [] S rc rs := by
  unfold zf_L_law_J555 at h
  refine zw_aload_n hX dL_law_555 rfl ?_
  refine zw_aload_n hX dL_law_556 rfl ?_
  refine zw_iload hX dL_law_557 rfl ?_
  refine zw_iconst (v := (1 : Int32)) hX dL_law_559 (by decide) ?_
  refine zw_iadd hX dL_law_560 ?_
  obtain ⟨v42, g, h⟩ := zb_some h
  refine zw_xi hX dL_law_561 g ?_
  refine zw_aload_n hX dL_law_562 rfl ?_
  refine zw_iload hX dL_law_563 rfl ?_
  refine zw_iconst (v := (2 : Int32)) hX dL_law_565 (by decide) ?_
  refine zw_iadd hX dL_law_566 ?_
  obtain ⟨v43, g, h⟩ := zb_some h
  refine zw_xi hX dL_law_567 g ?_
  refine zw_aload_n hX dL_law_568 rfl ?_
  refine zw_iload hX dL_law_569 rfl ?_
  refine zw_iconst (v := (3 : Int32)) hX dL_law_571 (by decide) ?_
  refine zw_iadd hX dL_law_572 ?_
  obtain ⟨v44, g, h⟩ := zb_some h
  refine zw_xi hX dL_law_573 g ?_
  refine zw_aload_n hX dL_law_574 rfl ?_
  refine zw_iload hX dL_law_575 rfl ?_
  refine zw_iconst (v := (4 : Int32)) hX dL_law_577 (by decide) ?_
  refine zw_iadd hX dL_law_578 ?_
  obtain ⟨v45, g, h⟩ := zb_some h
  refine zw_xi hX dL_law_579 g ?_
  refine zw_aload_n hX dL_law_580 rfl ?_
  by_cases hb581 : 3 ≤ rc ∧ 18 ≤ rs
  · rw [if_pos hb581] at h
    obtain ⟨r48, g, h⟩ := zb_some h
    refine zc_S (as := [.ref a1, .int v42, .int v43, .int v44, .int v45, .ref a3]) hX (zt_L_door hlt (d := d - 1) (by omega) g) zl_L_288 dL_law_581 ⟨rfl, rfl, Nat.le_of_ble_eq_true rfl⟩ ⟨by omega, by omega⟩ hb581 ?_ ?_
    · rintro _ _ ⟨rfl, rfl⟩
      refine zw_istore hX dL_law_584 (by decide) ?_
      refine zw_aload_n hX dL_law_586 rfl ?_
      refine zw_aload_n hX dL_law_587 rfl ?_
      refine zw_iload hX dL_law_588 rfl ?_
      refine zw_iconst (v := (1 : Int32)) hX dL_law_590 (by decide) ?_
      refine zw_iadd hX dL_law_591 ?_
      obtain ⟨v49, g, h⟩ := zb_some h
      refine zw_xi hX dL_law_592 g ?_
      refine zw_aload_n hX dL_law_593 rfl ?_
      refine zw_iload hX dL_law_594 rfl ?_
      refine zw_iconst (v := (2 : Int32)) hX dL_law_596 (by decide) ?_
      refine zw_iadd hX dL_law_597 ?_
      obtain ⟨v50, g, h⟩ := zb_some h
      refine zw_xi hX dL_law_598 g ?_
      refine zw_aload_n hX dL_law_599 rfl ?_
      refine zw_iload hX dL_law_600 rfl ?_
      refine zw_iconst (v := (3 : Int32)) hX dL_law_602 (by decide) ?_
      refine zw_iadd hX dL_law_603 ?_
      obtain ⟨v51, g, h⟩ := zb_some h
      refine zw_xi hX dL_law_604 g ?_
      refine zw_aload_n hX dL_law_605 rfl ?_
      refine zw_iload hX dL_law_606 rfl ?_
      refine zw_iconst (v := (4 : Int32)) hX dL_law_608 (by decide) ?_
      refine zw_iadd hX dL_law_609 ?_
      obtain ⟨v52, g, h⟩ := zb_some h
      refine zw_xi hX dL_law_610 g ?_
      obtain ⟨_, gi, h⟩ := zb_some h
      obtain ⟨r54, g, h⟩ := zb_some h
      refine zc_Vi (as := [.int v49, .int v50, .int v51, .int v52]) hX gi (zt_X18_door (d := d - 1) (by omega) g) zl_L_290 rfl dL_law_611 ⟨rfl, rfl, Nat.le_of_ble_eq_true rfl⟩ ⟨by omega, by omega⟩ ?_
      refine zw_istore hX dL_law_614 (by decide) ?_
      refine zw_aload_n hX dL_law_616 rfl ?_
      obtain ⟨_, gi, h⟩ := zb_some h
      obtain ⟨r56, g, h⟩ := zb_some h
      refine zc_Vi (as := []) hX gi (zt_X18_thrown (d := d - 1) (by omega) g) zl_L_281 rfl dL_law_617 ⟨rfl, rfl, Nat.le_of_ble_eq_true rfl⟩ ⟨by omega, by omega⟩ ?_
      refine zw_iload hX dL_law_620 rfl ?_
      refine zw_icmp_eq (tgt := 627) hX dL_law_622 (by decide) (fun c622 => ?_) (fun c622 => ?_)
      · rw [if_pos c622] at h
        refine zw_iload hX dL_law_627 rfl ?_
        refine zw_if_ne (tgt := 644) hX dL_law_629 (by decide) (fun c629 => ?_) (fun c629 => ?_)
        · rw [if_neg c629] at h
          refine zw_goto (tgt := 6002) hX dL_law_644 (by decide) ?_
          refine zw_iinc (v := (i4 + (7 : Int32))) hX dL_law_6002 rfl rfl (by decide) ?_
          refine zw_goto (tgt := 23) hX dL_law_6005 (by decide) ?_
          refine zw_sub (lv' := [(0, .ref a0), (1, .ref a1), (2, .ref a2), (3, .ref a3), (4, .int (i4 + (7 : Int32)))]) (List.forall_mem_cons.mpr ⟨rfl, (List.forall_mem_cons.mpr ⟨rfl, (List.forall_mem_cons.mpr ⟨rfl, (List.forall_mem_cons.mpr ⟨rfl, (List.forall_mem_cons.mpr ⟨rfl, zs_nil⟩)⟩)⟩)⟩)⟩) ?_
          exact hrec _ _ _ _ h
        · rw [if_pos c629] at h
          refine zw_aload_n hX dL_law_632 rfl ?_
          refine zw_iconst (v := (0 : Int32)) hX dL_law_633 (by decide) ?_
          obtain ⟨w57, g, h⟩ := zb_some h
          refine zw_xl hX dL_law_634 g ?_
          refine zw_iload hX dL_law_635 rfl ?_
          refine zw_i2l hX dL_law_637 ?_
          refine zw_lcmp hX dL_law_638 ?_
          refine zw_if_eq (tgt := 644) hX dL_law_639 (by decide) (fun c639 => ?_) (fun c639 => ?_)
          · rw [if_pos c639] at h
            refine zw_goto (tgt := 6002) hX dL_law_644 (by decide) ?_
            refine zw_iinc (v := (i4 + (7 : Int32))) hX dL_law_6002 rfl rfl (by decide) ?_
            refine zw_goto (tgt := 23) hX dL_law_6005 (by decide) ?_
            refine zw_sub (lv' := [(0, .ref a0), (1, .ref a1), (2, .ref a2), (3, .ref a3), (4, .int (i4 + (7 : Int32)))]) (List.forall_mem_cons.mpr ⟨rfl, (List.forall_mem_cons.mpr ⟨rfl, (List.forall_mem_cons.mpr ⟨rfl, (List.forall_mem_cons.mpr ⟨rfl, (List.forall_mem_cons.mpr ⟨rfl, zs_nil⟩)⟩)⟩)⟩)⟩) ?_
            exact hrec _ _ _ _ h
          · rw [if_neg c639] at h
            refine zw_iconst (v := (0 : Int32)) hX dL_law_642 (by decide) ?_
            cases h
      · rw [if_neg c622] at h
        refine zw_iconst (v := (0 : Int32)) hX dL_law_625 (by decide) ?_
        cases h
    · intro _ _ hx
      exact hx.elim
  · rw [if_neg hb581] at h
    cases h
def zf_L_law_J647 (N : Nat) (k : Nat → Nat → Nat → Nat → Int32 → Nat → Nat → zm_S → Option ((Int32 × zm_S) ⊕ ((Unit) × zm_S))) (a0 : Nat) (a1 : Nat) (a2 : Nat) (a3 : Nat) (i4 : Int32) (rc rs : Nat) (S : zm_S) : Option ((Int32 × zm_S) ⊕ ((Unit) × zm_S)) := if 1 ≤ rc ∧ 6 ≤ rs then (zf_L_find N a1 a3 S).bind (fun r60 => (zi r60.2 a2 18).bind (fun _ => (zf_X18_find N a2 r60.2).bind (fun r62 => (zi r62.2 a2 18).bind (fun _ => (zf_X18_thrown N a2 r62.2).bind (fun r64 => if r64.1 = r60.1 then if r60.1 = 0 then (za_l r64.2 a3 (0 : Int32)).bind (fun w65 => if (lg_cmp w65 ((r62.1).toInt64)) = 0 then k a0 a1 a2 a3 (i4 + (7 : Int32)) (rc - 1) (rs - 6) r64.2 else none) else k a0 a1 a2 a3 (i4 + (7 : Int32)) (rc - 1) (rs - 6) r64.2 else none))))) else none
set_option maxHeartbeats 4000000 in
set_option maxRecDepth 100000 in
theorem zt_L_law_J647 {p : Program} {l : Launch} {e : Env} {s : State} {m : MethodId} {zb : Nat} {below : List Frame} {meth : Method} {c : Code} {V : zm_V} {d : Nat} {nm : String} (hlt : l.stackTraces = false) (hV : V.2.2.2.1 = s.heap.size) (hX : zm_X p room_1 s m #[Value.ref zb] meth c RL nm cL_law 8 zk_E V 601024 7293034) (hr : meth.sig.returnType = ret) (hR : d ≤ room_1.frames ∧ 64 * d ≤ room_1.locals) (hd : 46 ≤ d) {N : Nat} {k : Nat → Nat → Nat → Nat → Int32 → Nat → Nat → zm_S → Option ((Int32 × zm_S) ⊕ ((Unit) × zm_S))} {rc rs : Nat} {a0 : Nat} {a1 : Nat} {a2 : Nat} {a3 : Nat} {i4 : Int32} {res : (Int32 × zm_S) ⊕ ((Unit) × zm_S)} {out : (Int32 × zm_S)}   (hf : ∀ o, res = .inl o → o = out) (hk : ∀ (S' : zm_S) (rc rs : Nat), res = .inr ((), S') → zw p l e room_1 s m #[Value.ref zb] below meth c (lw_Z below #[Value.ref zb] s) 8 zk_E V 601024 7293034 6008 [] [] S' rc rs) (hrec : ∀ (i4' : Int32) (rc rs : Nat) (S : zm_S), k a0 a1 a2 a3 i4' rc rs S = some res → zw p l e room_1 s m #[Value.ref zb] below meth c (lw_Z below #[Value.ref zb] s) 8 zk_E V 601024 7293034 23 [(0, .ref a0), (1, .ref a1), (2, .ref a2), (3, .ref a3), (4, .int i4')] [] S rc rs) {S : zm_S} (h : zf_L_law_J647 N k a0 a1 a2 a3 i4 rc rs S = some res) : zw p l e room_1 s m #[Value.ref zb] below meth c (lw_Z below #[Value.ref zb] s) 8 zk_E V 601024 7293034 647 [(0, .ref a0), (1, .ref a1), (2, .ref a2), (3, .ref a3), (4, .int i4)] [] S rc rs := by
  unfold zf_L_law_J647 at h
  refine zw_aload_n hX dL_law_647 rfl ?_
  refine zw_aload_n hX dL_law_648 rfl ?_
  by_cases hb649 : 1 ≤ rc ∧ 6 ≤ rs
  · rw [if_pos hb649] at h
    obtain ⟨r60, g, h⟩ := zb_some h
    refine zc_S (as := [.ref a1, .ref a3]) hX (zt_L_find hlt (d := d - 1) (by omega) g) zl_L_291 dL_law_649 ⟨rfl, rfl, Nat.le_of_ble_eq_true rfl⟩ ⟨by omega, by omega⟩ hb649 ?_ ?_
    · rintro _ _ ⟨rfl, rfl⟩
      refine zw_istore hX dL_law_652 (by decide) ?_
      refine zw_aload_n hX dL_law_654 rfl ?_
      obtain ⟨_, gi, h⟩ := zb_some h
      obtain ⟨r62, g, h⟩ := zb_some h
      refine zc_Vi (as := []) hX gi (zt_X18_find (d := d - 1) (by omega) g) zl_L_294 rfl dL_law_655 ⟨rfl, rfl, Nat.le_of_ble_eq_true rfl⟩ ⟨by omega, by omega⟩ ?_
      refine zw_istore hX dL_law_658 (by decide) ?_
      refine zw_aload_n hX dL_law_660 rfl ?_
      obtain ⟨_, gi, h⟩ := zb_some h
      obtain ⟨r64, g, h⟩ := zb_some h
      refine zc_Vi (as := []) hX gi (zt_X18_thrown (d := d - 1) (by omega) g) zl_L_281 rfl dL_law_661 ⟨rfl, rfl, Nat.le_of_ble_eq_true rfl⟩ ⟨by omega, by omega⟩ ?_
      refine zw_iload hX dL_law_664 rfl ?_
      refine zw_icmp_eq (tgt := 671) hX dL_law_666 (by decide) (fun c666 => ?_) (fun c666 => ?_)
      · rw [if_pos c666] at h
        refine zw_iload hX dL_law_671 rfl ?_
        refine zw_if_ne (tgt := 688) hX dL_law_673 (by decide) (fun c673 => ?_) (fun c673 => ?_)
        · rw [if_neg c673] at h
          refine zw_goto (tgt := 6002) hX dL_law_688 (by decide) ?_
          refine zw_iinc (v := (i4 + (7 : Int32))) hX dL_law_6002 rfl rfl (by decide) ?_
          refine zw_goto (tgt := 23) hX dL_law_6005 (by decide) ?_
          refine zw_sub (lv' := [(0, .ref a0), (1, .ref a1), (2, .ref a2), (3, .ref a3), (4, .int (i4 + (7 : Int32)))]) (List.forall_mem_cons.mpr ⟨rfl, (List.forall_mem_cons.mpr ⟨rfl, (List.forall_mem_cons.mpr ⟨rfl, (List.forall_mem_cons.mpr ⟨rfl, (List.forall_mem_cons.mpr ⟨rfl, zs_nil⟩)⟩)⟩)⟩)⟩) ?_
          exact hrec _ _ _ _ h
        · rw [if_pos c673] at h
          refine zw_aload_n hX dL_law_676 rfl ?_
          refine zw_iconst (v := (0 : Int32)) hX dL_law_677 (by decide) ?_
          obtain ⟨w65, g, h⟩ := zb_some h
          refine zw_xl hX dL_law_678 g ?_
          refine zw_iload hX dL_law_679 rfl ?_
          refine zw_i2l hX dL_law_681 ?_
          refine zw_lcmp hX dL_law_682 ?_
          refine zw_if_eq (tgt := 688) hX dL_law_683 (by decide) (fun c683 => ?_) (fun c683 => ?_)
          · rw [if_pos c683] at h
            refine zw_goto (tgt := 6002) hX dL_law_688 (by decide) ?_
            refine zw_iinc (v := (i4 + (7 : Int32))) hX dL_law_6002 rfl rfl (by decide) ?_
            refine zw_goto (tgt := 23) hX dL_law_6005 (by decide) ?_
            refine zw_sub (lv' := [(0, .ref a0), (1, .ref a1), (2, .ref a2), (3, .ref a3), (4, .int (i4 + (7 : Int32)))]) (List.forall_mem_cons.mpr ⟨rfl, (List.forall_mem_cons.mpr ⟨rfl, (List.forall_mem_cons.mpr ⟨rfl, (List.forall_mem_cons.mpr ⟨rfl, (List.forall_mem_cons.mpr ⟨rfl, zs_nil⟩)⟩)⟩)⟩)⟩) ?_
            exact hrec _ _ _ _ h
          · rw [if_neg c683] at h
            refine zw_iconst (v := (0 : Int32)) hX dL_law_686 (by decide) ?_
            cases h
      · rw [if_neg c666] at h
        refine zw_iconst (v := (0 : Int32)) hX dL_law_669 (by decide) ?_
        cases h
    · intro _ _ hx
      exact hx.elim
  · rw [if_neg hb649] at h
    cases h
def zf_L_law_J691 (N : Nat) (k : Nat → Nat → Nat → Nat → Int32 → Nat → Nat → zm_S → Option ((Int32 × zm_S) ⊕ ((Unit) × zm_S))) (a0 : Nat) (a1 : Nat) (a2 : Nat) (a3 : Nat) (i4 : Int32) (rc rs : Nat) (S : zm_S) : Option ((Int32 × zm_S) ⊕ ((Unit) × zm_S)) := (za_x S 0 a0 (i4 + (1 : Int32))).bind (fun v66 => if 2 ≤ rc ∧ 12 ≤ rs then (zf_L_count N a1 v66 a3 S).bind (fun r69 => (za_x r69.2 0 a0 (i4 + (1 : Int32))).bind (fun v70 => (zi r69.2 a2 18).bind (fun _ => (zf_X18_count N a2 v70 r69.2).bind (fun r72 => (zi r72.2 a2 18).bind (fun _ => (zf_X18_thrown N a2 r72.2).bind (fun r74 => if r74.1 = r69.1 then if r69.1 = 0 then (za_l r74.2 a3 (0 : Int32)).bind (fun w75 => if (lg_cmp w75 ((r72.1).toInt64)) = 0 then k a0 a1 a2 a3 (i4 + (7 : Int32)) (rc - 2) (rs - 12) r74.2 else none) else k a0 a1 a2 a3 (i4 + (7 : Int32)) (rc - 2) (rs - 12) r74.2 else none)))))) else none)
set_option maxHeartbeats 4000000 in
set_option maxRecDepth 100000 in
theorem zt_L_law_J691 {p : Program} {l : Launch} {e : Env} {s : State} {m : MethodId} {zb : Nat} {below : List Frame} {meth : Method} {c : Code} {V : zm_V} {d : Nat} {nm : String} (hlt : l.stackTraces = false) (hV : V.2.2.2.1 = s.heap.size) (hX : zm_X p room_1 s m #[Value.ref zb] meth c RL nm cL_law 8 zk_E V 601024 7293034) (hr : meth.sig.returnType = ret) (hR : d ≤ room_1.frames ∧ 64 * d ≤ room_1.locals) (hd : 46 ≤ d) {N : Nat} {k : Nat → Nat → Nat → Nat → Int32 → Nat → Nat → zm_S → Option ((Int32 × zm_S) ⊕ ((Unit) × zm_S))} {rc rs : Nat} {a0 : Nat} {a1 : Nat} {a2 : Nat} {a3 : Nat} {i4 : Int32} {res : (Int32 × zm_S) ⊕ ((Unit) × zm_S)} {out : (Int32 × zm_S)}   (hf : ∀ o, res = .inl o → o = out) (hk : ∀ (S' : zm_S) (rc rs : Nat), res = .inr ((), S') → zw p l e room_1 s m #[Value.ref zb] below meth c (lw_Z below #[Value.ref zb] s) 8 zk_E V 601024 7293034 6008 [] [] S' rc rs) (hrec : ∀ (i4' : Int32) (rc rs : Nat) (S : zm_S), k a0 a1 a2 a3 i4' rc rs S = some res → zw p l e room_1 s m #[Value.ref zb] below meth c (lw_Z below #[Value.ref zb] s) 8 zk_E V 601024 7293034 23 [(0, .ref a0), (1, .ref a1), (2, .ref a2), (3, .ref a3), (4, .int i4')] [] S rc rs) {S : zm_S} (h : zf_L_law_J691 N k a0 a1 a2 a3 i4 rc rs S = some res) : zw p l e room_1 s m #[Value.ref zb] below meth c (lw_Z below #[Value.ref zb] s) 8 zk_E V 601024 7293034 691 [(0, .ref a0), (1, .ref a1), (2, .ref a2), (3, .ref a3), (4, .int i4)] [] S rc rs := by
  unfold zf_L_law_J691 at h
  refine zw_aload_n hX dL_law_691 rfl ?_
  refine zw_aload_n hX dL_law_692 rfl ?_
  refine zw_iload hX dL_law_693 rfl ?_
  refine zw_iconst (v := (1 : Int32)) hX dL_law_695 (by decide) ?_
  refine zw_iadd hX dL_law_696 ?_
  obtain ⟨v66, g, h⟩ := zb_some h
  refine zw_xi hX dL_law_697 g ?_
  refine zw_aload_n hX dL_law_698 rfl ?_
  by_cases hb699 : 2 ≤ rc ∧ 12 ≤ rs
  · rw [if_pos hb699] at h
    obtain ⟨r69, g, h⟩ := zb_some h
    refine zc_S (as := [.ref a1, .int v66, .ref a3]) hX (zt_L_count hlt (d := d - 1) (by omega) g) zl_L_295 dL_law_699 ⟨rfl, rfl, Nat.le_of_ble_eq_true rfl⟩ ⟨by omega, by omega⟩ hb699 ?_ ?_
    · rintro _ _ ⟨rfl, rfl⟩
      refine zw_istore hX dL_law_702 (by decide) ?_
      refine zw_aload_n hX dL_law_704 rfl ?_
      refine zw_aload_n hX dL_law_705 rfl ?_
      refine zw_iload hX dL_law_706 rfl ?_
      refine zw_iconst (v := (1 : Int32)) hX dL_law_708 (by decide) ?_
      refine zw_iadd hX dL_law_709 ?_
      obtain ⟨v70, g, h⟩ := zb_some h
      refine zw_xi hX dL_law_710 g ?_
      obtain ⟨_, gi, h⟩ := zb_some h
      obtain ⟨r72, g, h⟩ := zb_some h
      refine zc_Vi (as := [.int v70]) hX gi (zt_X18_count (d := d - 1) (by omega) g) zl_L_298 rfl dL_law_711 ⟨rfl, rfl, Nat.le_of_ble_eq_true rfl⟩ ⟨by omega, by omega⟩ ?_
      refine zw_istore hX dL_law_714 (by decide) ?_
      refine zw_aload_n hX dL_law_716 rfl ?_
      obtain ⟨_, gi, h⟩ := zb_some h
      obtain ⟨r74, g, h⟩ := zb_some h
      refine zc_Vi (as := []) hX gi (zt_X18_thrown (d := d - 1) (by omega) g) zl_L_281 rfl dL_law_717 ⟨rfl, rfl, Nat.le_of_ble_eq_true rfl⟩ ⟨by omega, by omega⟩ ?_
      refine zw_iload hX dL_law_720 rfl ?_
      refine zw_icmp_eq (tgt := 727) hX dL_law_722 (by decide) (fun c722 => ?_) (fun c722 => ?_)
      · rw [if_pos c722] at h
        refine zw_iload hX dL_law_727 rfl ?_
        refine zw_if_ne (tgt := 744) hX dL_law_729 (by decide) (fun c729 => ?_) (fun c729 => ?_)
        · rw [if_neg c729] at h
          refine zw_goto (tgt := 6002) hX dL_law_744 (by decide) ?_
          refine zw_iinc (v := (i4 + (7 : Int32))) hX dL_law_6002 rfl rfl (by decide) ?_
          refine zw_goto (tgt := 23) hX dL_law_6005 (by decide) ?_
          refine zw_sub (lv' := [(0, .ref a0), (1, .ref a1), (2, .ref a2), (3, .ref a3), (4, .int (i4 + (7 : Int32)))]) (List.forall_mem_cons.mpr ⟨rfl, (List.forall_mem_cons.mpr ⟨rfl, (List.forall_mem_cons.mpr ⟨rfl, (List.forall_mem_cons.mpr ⟨rfl, (List.forall_mem_cons.mpr ⟨rfl, zs_nil⟩)⟩)⟩)⟩)⟩) ?_
          exact hrec _ _ _ _ h
        · rw [if_pos c729] at h
          refine zw_aload_n hX dL_law_732 rfl ?_
          refine zw_iconst (v := (0 : Int32)) hX dL_law_733 (by decide) ?_
          obtain ⟨w75, g, h⟩ := zb_some h
          refine zw_xl hX dL_law_734 g ?_
          refine zw_iload hX dL_law_735 rfl ?_
          refine zw_i2l hX dL_law_737 ?_
          refine zw_lcmp hX dL_law_738 ?_
          refine zw_if_eq (tgt := 744) hX dL_law_739 (by decide) (fun c739 => ?_) (fun c739 => ?_)
          · rw [if_pos c739] at h
            refine zw_goto (tgt := 6002) hX dL_law_744 (by decide) ?_
            refine zw_iinc (v := (i4 + (7 : Int32))) hX dL_law_6002 rfl rfl (by decide) ?_
            refine zw_goto (tgt := 23) hX dL_law_6005 (by decide) ?_
            refine zw_sub (lv' := [(0, .ref a0), (1, .ref a1), (2, .ref a2), (3, .ref a3), (4, .int (i4 + (7 : Int32)))]) (List.forall_mem_cons.mpr ⟨rfl, (List.forall_mem_cons.mpr ⟨rfl, (List.forall_mem_cons.mpr ⟨rfl, (List.forall_mem_cons.mpr ⟨rfl, (List.forall_mem_cons.mpr ⟨rfl, zs_nil⟩)⟩)⟩)⟩)⟩) ?_
            exact hrec _ _ _ _ h
          · rw [if_neg c739] at h
            refine zw_iconst (v := (0 : Int32)) hX dL_law_742 (by decide) ?_
            cases h
      · rw [if_neg c722] at h
        refine zw_iconst (v := (0 : Int32)) hX dL_law_725 (by decide) ?_
        cases h
    · intro _ _ hx
      exact hx.elim
  · rw [if_neg hb699] at h
    cases h
def zf_L_law_J747 (N : Nat) (k : Nat → Nat → Nat → Nat → Int32 → Nat → Nat → zm_S → Option ((Int32 × zm_S) ⊕ ((Unit) × zm_S))) (a0 : Nat) (a1 : Nat) (a2 : Nat) (a3 : Nat) (i4 : Int32) (rc rs : Nat) (S : zm_S) : Option ((Int32 × zm_S) ⊕ ((Unit) × zm_S)) := (za_x S 0 a0 (i4 + (1 : Int32))).bind (fun v76 => (za_x S 0 a0 (i4 + (2 : Int32))).bind (fun v77 => if 2 ≤ rc ∧ 12 ≤ rs then (zf_L_sides N a1 v76 v77 a3 S).bind (fun r80 => (za_x r80.2 0 a0 (i4 + (1 : Int32))).bind (fun v81 => (za_x r80.2 0 a0 (i4 + (2 : Int32))).bind (fun v82 => (zi r80.2 a2 18).bind (fun _ => (zf_X18_sides N a2 v81 v82 r80.2).bind (fun r84 => (zi r84.2 a2 18).bind (fun _ => (zf_X18_thrown N a2 r84.2).bind (fun r86 => if r86.1 = r80.1 then if r80.1 = 0 then (za_l r86.2 a3 (0 : Int32)).bind (fun w87 => if (lg_cmp w87 ((r84.1).toInt64)) = 0 then k a0 a1 a2 a3 (i4 + (7 : Int32)) (rc - 2) (rs - 12) r86.2 else none) else k a0 a1 a2 a3 (i4 + (7 : Int32)) (rc - 2) (rs - 12) r86.2 else none))))))) else none))
set_option maxHeartbeats 4000000 in
set_option maxRecDepth 100000 in
theorem zt_L_law_J747 {p : Program} {l : Launch} {e : Env} {s : State} {m : MethodId} {zb : Nat} {below : List Frame} {meth : Method} {c : Code} {V : zm_V} {d : Nat} {nm : String} (hlt : l.stackTraces = false) (hV : V.2.2.2.1 = s.heap.size) (hX : zm_X p room_1 s m #[Value.ref zb] meth c RL nm cL_law 8 zk_E V 601024 7293034) (hr : meth.sig.returnType = ret) (hR : d ≤ room_1.frames ∧ 64 * d ≤ room_1.locals) (hd : 46 ≤ d) {N : Nat} {k : Nat → Nat → Nat → Nat → Int32 → Nat → Nat → zm_S → Option ((Int32 × zm_S) ⊕ ((Unit) × zm_S))} {rc rs : Nat} {a0 : Nat} {a1 : Nat} {a2 : Nat} {a3 : Nat} {i4 : Int32} {res : (Int32 × zm_S) ⊕ ((Unit) × zm_S)} {out : (Int32 × zm_S)}   (hf : ∀ o, res = .inl o → o = out) (hk : ∀ (S' : zm_S) (rc rs : Nat), res = .inr ((), S') → zw p l e room_1 s m #[Value.ref zb] below meth c (lw_Z below #[Value.ref zb] s) 8 zk_E V 601024 7293034 6008 [] [] S' rc rs) (hrec : ∀ (i4' : Int32) (rc rs : Nat) (S : zm_S), k a0 a1 a2 a3 i4' rc rs S = some res → zw p l e room_1 s m #[Value.ref zb] below meth c (lw_Z below #[Value.ref zb] s) 8 zk_E V 601024 7293034 23 [(0, .ref a0), (1, .ref a1), (2, .ref a2), (3, .ref a3), (4, .int i4')] [] S rc rs) {S : zm_S} (h : zf_L_law_J747 N k a0 a1 a2 a3 i4 rc rs S = some res) : zw p l e room_1 s m #[Value.ref zb] below meth c (lw_Z below #[Value.ref zb] s) 8 zk_E V 601024 7293034 747 [(0, .ref a0), (1, .ref a1), (2, .ref a2), (3, .ref a3), (4, .int i4)] [] S rc rs := by
  unfold zf_L_law_J747 at h
  refine zw_aload_n hX dL_law_747 rfl ?_
  refine zw_aload_n hX dL_law_748 rfl ?_
  refine zw_iload hX dL_law_749 rfl ?_
  refine zw_iconst (v := (1 : Int32)) hX dL_law_751 (by decide) ?_
  refine zw_iadd hX dL_law_752 ?_
  obtain ⟨v76, g, h⟩ := zb_some h
  refine zw_xi hX dL_law_753 g ?_
  refine zw_aload_n hX dL_law_754 rfl ?_
  refine zw_iload hX dL_law_755 rfl ?_
  refine zw_iconst (v := (2 : Int32)) hX dL_law_757 (by decide) ?_
  refine zw_iadd hX dL_law_758 ?_
  obtain ⟨v77, g, h⟩ := zb_some h
  refine zw_xi hX dL_law_759 g ?_
  refine zw_aload_n hX dL_law_760 rfl ?_
  by_cases hb761 : 2 ≤ rc ∧ 12 ≤ rs
  · rw [if_pos hb761] at h
    obtain ⟨r80, g, h⟩ := zb_some h
    refine zc_S (as := [.ref a1, .int v76, .int v77, .ref a3]) hX (zt_L_sides hlt (d := d - 1) (by omega) g) zl_L_299 dL_law_761 ⟨rfl, rfl, Nat.le_of_ble_eq_true rfl⟩ ⟨by omega, by omega⟩ hb761 ?_ ?_
    · rintro _ _ ⟨rfl, rfl⟩
      refine zw_istore hX dL_law_764 (by decide) ?_
      refine zw_aload_n hX dL_law_766 rfl ?_
      refine zw_aload_n hX dL_law_767 rfl ?_
      refine zw_iload hX dL_law_768 rfl ?_
      refine zw_iconst (v := (1 : Int32)) hX dL_law_770 (by decide) ?_
      refine zw_iadd hX dL_law_771 ?_
      obtain ⟨v81, g, h⟩ := zb_some h
      refine zw_xi hX dL_law_772 g ?_
      refine zw_aload_n hX dL_law_773 rfl ?_
      refine zw_iload hX dL_law_774 rfl ?_
      refine zw_iconst (v := (2 : Int32)) hX dL_law_776 (by decide) ?_
      refine zw_iadd hX dL_law_777 ?_
      obtain ⟨v82, g, h⟩ := zb_some h
      refine zw_xi hX dL_law_778 g ?_
      obtain ⟨_, gi, h⟩ := zb_some h
      obtain ⟨r84, g, h⟩ := zb_some h
      refine zc_Vi (as := [.int v81, .int v82]) hX gi (zt_X18_sides (d := d - 1) (by omega) g) zl_L_302 rfl dL_law_779 ⟨rfl, rfl, Nat.le_of_ble_eq_true rfl⟩ ⟨by omega, by omega⟩ ?_
      refine zw_istore hX dL_law_782 (by decide) ?_
      refine zw_aload_n hX dL_law_784 rfl ?_
      obtain ⟨_, gi, h⟩ := zb_some h
      obtain ⟨r86, g, h⟩ := zb_some h
      refine zc_Vi (as := []) hX gi (zt_X18_thrown (d := d - 1) (by omega) g) zl_L_281 rfl dL_law_785 ⟨rfl, rfl, Nat.le_of_ble_eq_true rfl⟩ ⟨by omega, by omega⟩ ?_
      refine zw_iload hX dL_law_788 rfl ?_
      refine zw_icmp_eq (tgt := 795) hX dL_law_790 (by decide) (fun c790 => ?_) (fun c790 => ?_)
      · rw [if_pos c790] at h
        refine zw_iload hX dL_law_795 rfl ?_
        refine zw_if_ne (tgt := 812) hX dL_law_797 (by decide) (fun c797 => ?_) (fun c797 => ?_)
        · rw [if_neg c797] at h
          refine zw_goto (tgt := 6002) hX dL_law_812 (by decide) ?_
          refine zw_iinc (v := (i4 + (7 : Int32))) hX dL_law_6002 rfl rfl (by decide) ?_
          refine zw_goto (tgt := 23) hX dL_law_6005 (by decide) ?_
          refine zw_sub (lv' := [(0, .ref a0), (1, .ref a1), (2, .ref a2), (3, .ref a3), (4, .int (i4 + (7 : Int32)))]) (List.forall_mem_cons.mpr ⟨rfl, (List.forall_mem_cons.mpr ⟨rfl, (List.forall_mem_cons.mpr ⟨rfl, (List.forall_mem_cons.mpr ⟨rfl, (List.forall_mem_cons.mpr ⟨rfl, zs_nil⟩)⟩)⟩)⟩)⟩) ?_
          exact hrec _ _ _ _ h
        · rw [if_pos c797] at h
          refine zw_aload_n hX dL_law_800 rfl ?_
          refine zw_iconst (v := (0 : Int32)) hX dL_law_801 (by decide) ?_
          obtain ⟨w87, g, h⟩ := zb_some h
          refine zw_xl hX dL_law_802 g ?_
          refine zw_iload hX dL_law_803 rfl ?_
          refine zw_i2l hX dL_law_805 ?_
          refine zw_lcmp hX dL_law_806 ?_
          refine zw_if_eq (tgt := 812) hX dL_law_807 (by decide) (fun c807 => ?_) (fun c807 => ?_)
          · rw [if_pos c807] at h
            refine zw_goto (tgt := 6002) hX dL_law_812 (by decide) ?_
            refine zw_iinc (v := (i4 + (7 : Int32))) hX dL_law_6002 rfl rfl (by decide) ?_
            refine zw_goto (tgt := 23) hX dL_law_6005 (by decide) ?_
            refine zw_sub (lv' := [(0, .ref a0), (1, .ref a1), (2, .ref a2), (3, .ref a3), (4, .int (i4 + (7 : Int32)))]) (List.forall_mem_cons.mpr ⟨rfl, (List.forall_mem_cons.mpr ⟨rfl, (List.forall_mem_cons.mpr ⟨rfl, (List.forall_mem_cons.mpr ⟨rfl, (List.forall_mem_cons.mpr ⟨rfl, zs_nil⟩)⟩)⟩)⟩)⟩) ?_
            exact hrec _ _ _ _ h
          · rw [if_neg c807] at h
            refine zw_iconst (v := (0 : Int32)) hX dL_law_810 (by decide) ?_
            cases h
      · rw [if_neg c790] at h
        refine zw_iconst (v := (0 : Int32)) hX dL_law_793 (by decide) ?_
        cases h
    · intro _ _ hx
      exact hx.elim
  · rw [if_neg hb761] at h
    cases h
def zf_L_law_J815 (N : Nat) (k : Nat → Nat → Nat → Nat → Int32 → Nat → Nat → zm_S → Option ((Int32 × zm_S) ⊕ ((Unit) × zm_S))) (a0 : Nat) (a1 : Nat) (a2 : Nat) (a3 : Nat) (i4 : Int32) (rc rs : Nat) (S : zm_S) : Option ((Int32 × zm_S) ⊕ ((Unit) × zm_S)) := (za_x S 0 a0 (i4 + (1 : Int32))).bind (fun v88 => (za_x S 0 a0 (i4 + (2 : Int32))).bind (fun v89 => (za_x S 0 a0 (i4 + (3 : Int32))).bind (fun v90 => (za_x S 0 a0 (i4 + (4 : Int32))).bind (fun v91 => if 2 ≤ rc ∧ 12 ≤ rs then (zf_L_side N a1 v88 v89 v90 v91 a3 S).bind (fun r94 => (za_x r94.2 0 a0 (i4 + (1 : Int32))).bind (fun v95 => (za_x r94.2 0 a0 (i4 + (2 : Int32))).bind (fun v96 => (za_x r94.2 0 a0 (i4 + (3 : Int32))).bind (fun v97 => (za_x r94.2 0 a0 (i4 + (4 : Int32))).bind (fun v98 => (zi r94.2 a2 18).bind (fun _ => (zf_X18_side N a2 v95 v96 v97 v98 r94.2).bind (fun r100 => (zi r100.2 a2 18).bind (fun _ => (zf_X18_thrown N a2 r100.2).bind (fun r102 => if r102.1 = r94.1 then if r94.1 = 0 then (za_l r102.2 a3 (0 : Int32)).bind (fun w103 => if (lg_cmp w103 ((r100.1).toInt64)) = 0 then k a0 a1 a2 a3 (i4 + (7 : Int32)) (rc - 2) (rs - 12) r102.2 else none) else k a0 a1 a2 a3 (i4 + (7 : Int32)) (rc - 2) (rs - 12) r102.2 else none))))))))) else none))))
set_option maxHeartbeats 4000000 in
set_option maxRecDepth 100000 in
theorem zt_L_law_J815 {p : Program} {l : Launch} {e : Env} {s : State} {m : MethodId} {zb : Nat} {below : List Frame} {meth : Method} {c : Code} {V : zm_V} {d : Nat} {nm : String} (hlt : l.stackTraces = false) (hV : V.2.2.2.1 = s.heap.size) (hX : zm_X p room_1 s m #[Value.ref zb] meth c RL nm cL_law 8 zk_E V 601024 7293034) (hr : meth.sig.returnType = ret) (hR : d ≤ room_1.frames ∧ 64 * d ≤ room_1.locals) (hd : 46 ≤ d) {N : Nat} {k : Nat → Nat → Nat → Nat → Int32 → Nat → Nat → zm_S → Option ((Int32 × zm_S) ⊕ ((Unit) × zm_S))} {rc rs : Nat} {a0 : Nat} {a1 : Nat} {a2 : Nat} {a3 : Nat} {i4 : Int32} {res : (Int32 × zm_S) ⊕ ((Unit) × zm_S)} {out : (Int32 × zm_S)}   (hf : ∀ o, res = .inl o → o = out) (hk : ∀ (S' : zm_S) (rc rs : Nat), res = .inr ((), S') → zw p l e room_1 s m #[Value.ref zb] below meth c (lw_Z below #[Value.ref zb] s) 8 zk_E V 601024 7293034 6008 [] [] S' rc rs) (hrec : ∀ (i4' : Int32) (rc rs : Nat) (S : zm_S), k a0 a1 a2 a3 i4' rc rs S = some res → zw p l e room_1 s m #[Value.ref zb] below meth c (lw_Z below #[Value.ref zb] s) 8 zk_E V 601024 7293034 23 [(0, .ref a0), (1, .ref a1), (2, .ref a2), (3, .ref a3), (4, .int i4')] [] S rc rs) {S : zm_S} (h : zf_L_law_J815 N k a0 a1 a2 a3 i4 rc rs S = some res) : zw p l e room_1 s m #[Value.ref zb] below meth c (lw_Z below #[Value.ref zb] s) 8 zk_E V 601024 7293034 815 [(0, .ref a0), (1, .ref a1), (2, .ref a2), (3, .ref a3), (4, .int i4)] [] S rc rs := by
  unfold zf_L_law_J815 at h
  refine zw_aload_n hX dL_law_815 rfl ?_
  refine zw_aload_n hX dL_law_816 rfl ?_
  refine zw_iload hX dL_law_817 rfl ?_
  refine zw_iconst (v := (1 : Int32)) hX dL_law_819 (by decide) ?_
  refine zw_iadd hX dL_law_820 ?_
  obtain ⟨v88, g, h⟩ := zb_some h
  refine zw_xi hX dL_law_821 g ?_
  refine zw_aload_n hX dL_law_822 rfl ?_
  refine zw_iload hX dL_law_823 rfl ?_
  refine zw_iconst (v := (2 : Int32)) hX dL_law_825 (by decide) ?_
  refine zw_iadd hX dL_law_826 ?_
  obtain ⟨v89, g, h⟩ := zb_some h
  refine zw_xi hX dL_law_827 g ?_
  refine zw_aload_n hX dL_law_828 rfl ?_
  refine zw_iload hX dL_law_829 rfl ?_
  refine zw_iconst (v := (3 : Int32)) hX dL_law_831 (by decide) ?_
  refine zw_iadd hX dL_law_832 ?_
  obtain ⟨v90, g, h⟩ := zb_some h
  refine zw_xi hX dL_law_833 g ?_
  refine zw_aload_n hX dL_law_834 rfl ?_
  refine zw_iload hX dL_law_835 rfl ?_
  refine zw_iconst (v := (4 : Int32)) hX dL_law_837 (by decide) ?_
  refine zw_iadd hX dL_law_838 ?_
  obtain ⟨v91, g, h⟩ := zb_some h
  refine zw_xi hX dL_law_839 g ?_
  refine zw_aload_n hX dL_law_840 rfl ?_
  by_cases hb841 : 2 ≤ rc ∧ 12 ≤ rs
  · rw [if_pos hb841] at h
    obtain ⟨r94, g, h⟩ := zb_some h
    refine zc_S (as := [.ref a1, .int v88, .int v89, .int v90, .int v91, .ref a3]) hX (zt_L_side hlt (d := d - 1) (by omega) g) zl_L_303 dL_law_841 ⟨rfl, rfl, Nat.le_of_ble_eq_true rfl⟩ ⟨by omega, by omega⟩ hb841 ?_ ?_
    · rintro _ _ ⟨rfl, rfl⟩
      refine zw_istore hX dL_law_844 (by decide) ?_
      refine zw_aload_n hX dL_law_846 rfl ?_
      refine zw_aload_n hX dL_law_847 rfl ?_
      refine zw_iload hX dL_law_848 rfl ?_
      refine zw_iconst (v := (1 : Int32)) hX dL_law_850 (by decide) ?_
      refine zw_iadd hX dL_law_851 ?_
      obtain ⟨v95, g, h⟩ := zb_some h
      refine zw_xi hX dL_law_852 g ?_
      refine zw_aload_n hX dL_law_853 rfl ?_
      refine zw_iload hX dL_law_854 rfl ?_
      refine zw_iconst (v := (2 : Int32)) hX dL_law_856 (by decide) ?_
      refine zw_iadd hX dL_law_857 ?_
      obtain ⟨v96, g, h⟩ := zb_some h
      refine zw_xi hX dL_law_858 g ?_
      refine zw_aload_n hX dL_law_859 rfl ?_
      refine zw_iload hX dL_law_860 rfl ?_
      refine zw_iconst (v := (3 : Int32)) hX dL_law_862 (by decide) ?_
      refine zw_iadd hX dL_law_863 ?_
      obtain ⟨v97, g, h⟩ := zb_some h
      refine zw_xi hX dL_law_864 g ?_
      refine zw_aload_n hX dL_law_865 rfl ?_
      refine zw_iload hX dL_law_866 rfl ?_
      refine zw_iconst (v := (4 : Int32)) hX dL_law_868 (by decide) ?_
      refine zw_iadd hX dL_law_869 ?_
      obtain ⟨v98, g, h⟩ := zb_some h
      refine zw_xi hX dL_law_870 g ?_
      obtain ⟨_, gi, h⟩ := zb_some h
      obtain ⟨r100, g, h⟩ := zb_some h
      refine zc_Vi (as := [.int v95, .int v96, .int v97, .int v98]) hX gi (zt_X18_side (d := d - 1) (by omega) g) zl_L_305 rfl dL_law_871 ⟨rfl, rfl, Nat.le_of_ble_eq_true rfl⟩ ⟨by omega, by omega⟩ ?_
      refine zw_istore hX dL_law_874 (by decide) ?_
      refine zw_aload_n hX dL_law_876 rfl ?_
      obtain ⟨_, gi, h⟩ := zb_some h
      obtain ⟨r102, g, h⟩ := zb_some h
      refine zc_Vi (as := []) hX gi (zt_X18_thrown (d := d - 1) (by omega) g) zl_L_281 rfl dL_law_877 ⟨rfl, rfl, Nat.le_of_ble_eq_true rfl⟩ ⟨by omega, by omega⟩ ?_
      refine zw_iload hX dL_law_880 rfl ?_
      refine zw_icmp_eq (tgt := 887) hX dL_law_882 (by decide) (fun c882 => ?_) (fun c882 => ?_)
      · rw [if_pos c882] at h
        refine zw_iload hX dL_law_887 rfl ?_
        refine zw_if_ne (tgt := 904) hX dL_law_889 (by decide) (fun c889 => ?_) (fun c889 => ?_)
        · rw [if_neg c889] at h
          refine zw_goto (tgt := 6002) hX dL_law_904 (by decide) ?_
          refine zw_iinc (v := (i4 + (7 : Int32))) hX dL_law_6002 rfl rfl (by decide) ?_
          refine zw_goto (tgt := 23) hX dL_law_6005 (by decide) ?_
          refine zw_sub (lv' := [(0, .ref a0), (1, .ref a1), (2, .ref a2), (3, .ref a3), (4, .int (i4 + (7 : Int32)))]) (List.forall_mem_cons.mpr ⟨rfl, (List.forall_mem_cons.mpr ⟨rfl, (List.forall_mem_cons.mpr ⟨rfl, (List.forall_mem_cons.mpr ⟨rfl, (List.forall_mem_cons.mpr ⟨rfl, zs_nil⟩)⟩)⟩)⟩)⟩) ?_
          exact hrec _ _ _ _ h
        · rw [if_pos c889] at h
          refine zw_aload_n hX dL_law_892 rfl ?_
          refine zw_iconst (v := (0 : Int32)) hX dL_law_893 (by decide) ?_
          obtain ⟨w103, g, h⟩ := zb_some h
          refine zw_xl hX dL_law_894 g ?_
          refine zw_iload hX dL_law_895 rfl ?_
          refine zw_i2l hX dL_law_897 ?_
          refine zw_lcmp hX dL_law_898 ?_
          refine zw_if_eq (tgt := 904) hX dL_law_899 (by decide) (fun c899 => ?_) (fun c899 => ?_)
          · rw [if_pos c899] at h
            refine zw_goto (tgt := 6002) hX dL_law_904 (by decide) ?_
            refine zw_iinc (v := (i4 + (7 : Int32))) hX dL_law_6002 rfl rfl (by decide) ?_
            refine zw_goto (tgt := 23) hX dL_law_6005 (by decide) ?_
            refine zw_sub (lv' := [(0, .ref a0), (1, .ref a1), (2, .ref a2), (3, .ref a3), (4, .int (i4 + (7 : Int32)))]) (List.forall_mem_cons.mpr ⟨rfl, (List.forall_mem_cons.mpr ⟨rfl, (List.forall_mem_cons.mpr ⟨rfl, (List.forall_mem_cons.mpr ⟨rfl, (List.forall_mem_cons.mpr ⟨rfl, zs_nil⟩)⟩)⟩)⟩)⟩) ?_
            exact hrec _ _ _ _ h
          · rw [if_neg c899] at h
            refine zw_iconst (v := (0 : Int32)) hX dL_law_902 (by decide) ?_
            cases h
      · rw [if_neg c882] at h
        refine zw_iconst (v := (0 : Int32)) hX dL_law_885 (by decide) ?_
        cases h
    · intro _ _ hx
      exact hx.elim
  · rw [if_neg hb841] at h
    cases h
def zf_L_law_J907 (N : Nat) (k : Nat → Nat → Nat → Nat → Int32 → Nat → Nat → zm_S → Option ((Int32 × zm_S) ⊕ ((Unit) × zm_S))) (a0 : Nat) (a1 : Nat) (a2 : Nat) (a3 : Nat) (i4 : Int32) (rc rs : Nat) (S : zm_S) : Option ((Int32 × zm_S) ⊕ ((Unit) × zm_S)) := (za_x S 0 a0 (i4 + (1 : Int32))).bind (fun v104 => (za_x S 0 a0 (i4 + (2 : Int32))).bind (fun v105 => if 2 ≤ rc ∧ 12 ≤ rs then (zf_L_size N a1 v104 v105 a3 S).bind (fun r108 => (za_x r108.2 0 a0 (i4 + (1 : Int32))).bind (fun v109 => (za_x r108.2 0 a0 (i4 + (2 : Int32))).bind (fun v110 => (zi r108.2 a2 18).bind (fun _ => (zf_X18_size N a2 v109 v110 r108.2).bind (fun r112 => (zi r112.2 a2 18).bind (fun _ => (zf_X18_thrown N a2 r112.2).bind (fun r114 => if r114.1 = r108.1 then if r108.1 = 0 then (za_l r114.2 a3 (0 : Int32)).bind (fun w115 => if (lg_cmp w115 ((r112.1).toInt64)) = 0 then k a0 a1 a2 a3 (i4 + (7 : Int32)) (rc - 2) (rs - 12) r114.2 else none) else k a0 a1 a2 a3 (i4 + (7 : Int32)) (rc - 2) (rs - 12) r114.2 else none))))))) else none))
set_option maxHeartbeats 4000000 in
set_option maxRecDepth 100000 in
theorem zt_L_law_J907 {p : Program} {l : Launch} {e : Env} {s : State} {m : MethodId} {zb : Nat} {below : List Frame} {meth : Method} {c : Code} {V : zm_V} {d : Nat} {nm : String} (hlt : l.stackTraces = false) (hV : V.2.2.2.1 = s.heap.size) (hX : zm_X p room_1 s m #[Value.ref zb] meth c RL nm cL_law 8 zk_E V 601024 7293034) (hr : meth.sig.returnType = ret) (hR : d ≤ room_1.frames ∧ 64 * d ≤ room_1.locals) (hd : 46 ≤ d) {N : Nat} {k : Nat → Nat → Nat → Nat → Int32 → Nat → Nat → zm_S → Option ((Int32 × zm_S) ⊕ ((Unit) × zm_S))} {rc rs : Nat} {a0 : Nat} {a1 : Nat} {a2 : Nat} {a3 : Nat} {i4 : Int32} {res : (Int32 × zm_S) ⊕ ((Unit) × zm_S)} {out : (Int32 × zm_S)}   (hf : ∀ o, res = .inl o → o = out) (hk : ∀ (S' : zm_S) (rc rs : Nat), res = .inr ((), S') → zw p l e room_1 s m #[Value.ref zb] below meth c (lw_Z below #[Value.ref zb] s) 8 zk_E V 601024 7293034 6008 [] [] S' rc rs) (hrec : ∀ (i4' : Int32) (rc rs : Nat) (S : zm_S), k a0 a1 a2 a3 i4' rc rs S = some res → zw p l e room_1 s m #[Value.ref zb] below meth c (lw_Z below #[Value.ref zb] s) 8 zk_E V 601024 7293034 23 [(0, .ref a0), (1, .ref a1), (2, .ref a2), (3, .ref a3), (4, .int i4')] [] S rc rs) {S : zm_S} (h : zf_L_law_J907 N k a0 a1 a2 a3 i4 rc rs S = some res) : zw p l e room_1 s m #[Value.ref zb] below meth c (lw_Z below #[Value.ref zb] s) 8 zk_E V 601024 7293034 907 [(0, .ref a0), (1, .ref a1), (2, .ref a2), (3, .ref a3), (4, .int i4)] [] S rc rs := by
  unfold zf_L_law_J907 at h
  refine zw_aload_n hX dL_law_907 rfl ?_
  refine zw_aload_n hX dL_law_908 rfl ?_
  refine zw_iload hX dL_law_909 rfl ?_
  refine zw_iconst (v := (1 : Int32)) hX dL_law_911 (by decide) ?_
  refine zw_iadd hX dL_law_912 ?_
  obtain ⟨v104, g, h⟩ := zb_some h
  refine zw_xi hX dL_law_913 g ?_
  refine zw_aload_n hX dL_law_914 rfl ?_
  refine zw_iload hX dL_law_915 rfl ?_
  refine zw_iconst (v := (2 : Int32)) hX dL_law_917 (by decide) ?_
  refine zw_iadd hX dL_law_918 ?_
  obtain ⟨v105, g, h⟩ := zb_some h
  refine zw_xi hX dL_law_919 g ?_
  refine zw_aload_n hX dL_law_920 rfl ?_
  by_cases hb921 : 2 ≤ rc ∧ 12 ≤ rs
  · rw [if_pos hb921] at h
    obtain ⟨r108, g, h⟩ := zb_some h
    refine zc_S (as := [.ref a1, .int v104, .int v105, .ref a3]) hX (zt_L_size hlt (d := d - 1) (by omega) g) zl_L_306 dL_law_921 ⟨rfl, rfl, Nat.le_of_ble_eq_true rfl⟩ ⟨by omega, by omega⟩ hb921 ?_ ?_
    · rintro _ _ ⟨rfl, rfl⟩
      refine zw_istore hX dL_law_924 (by decide) ?_
      refine zw_aload_n hX dL_law_926 rfl ?_
      refine zw_aload_n hX dL_law_927 rfl ?_
      refine zw_iload hX dL_law_928 rfl ?_
      refine zw_iconst (v := (1 : Int32)) hX dL_law_930 (by decide) ?_
      refine zw_iadd hX dL_law_931 ?_
      obtain ⟨v109, g, h⟩ := zb_some h
      refine zw_xi hX dL_law_932 g ?_
      refine zw_aload_n hX dL_law_933 rfl ?_
      refine zw_iload hX dL_law_934 rfl ?_
      refine zw_iconst (v := (2 : Int32)) hX dL_law_936 (by decide) ?_
      refine zw_iadd hX dL_law_937 ?_
      obtain ⟨v110, g, h⟩ := zb_some h
      refine zw_xi hX dL_law_938 g ?_
      obtain ⟨_, gi, h⟩ := zb_some h
      obtain ⟨r112, g, h⟩ := zb_some h
      refine zc_Vi (as := [.int v109, .int v110]) hX gi (zt_X18_size (d := d - 1) (by omega) g) zl_L_308 rfl dL_law_939 ⟨rfl, rfl, Nat.le_of_ble_eq_true rfl⟩ ⟨by omega, by omega⟩ ?_
      refine zw_istore hX dL_law_942 (by decide) ?_
      refine zw_aload_n hX dL_law_944 rfl ?_
      obtain ⟨_, gi, h⟩ := zb_some h
      obtain ⟨r114, g, h⟩ := zb_some h
      refine zc_Vi (as := []) hX gi (zt_X18_thrown (d := d - 1) (by omega) g) zl_L_281 rfl dL_law_945 ⟨rfl, rfl, Nat.le_of_ble_eq_true rfl⟩ ⟨by omega, by omega⟩ ?_
      refine zw_iload hX dL_law_948 rfl ?_
      refine zw_icmp_eq (tgt := 955) hX dL_law_950 (by decide) (fun c950 => ?_) (fun c950 => ?_)
      · rw [if_pos c950] at h
        refine zw_iload hX dL_law_955 rfl ?_
        refine zw_if_ne (tgt := 972) hX dL_law_957 (by decide) (fun c957 => ?_) (fun c957 => ?_)
        · rw [if_neg c957] at h
          refine zw_goto (tgt := 6002) hX dL_law_972 (by decide) ?_
          refine zw_iinc (v := (i4 + (7 : Int32))) hX dL_law_6002 rfl rfl (by decide) ?_
          refine zw_goto (tgt := 23) hX dL_law_6005 (by decide) ?_
          refine zw_sub (lv' := [(0, .ref a0), (1, .ref a1), (2, .ref a2), (3, .ref a3), (4, .int (i4 + (7 : Int32)))]) (List.forall_mem_cons.mpr ⟨rfl, (List.forall_mem_cons.mpr ⟨rfl, (List.forall_mem_cons.mpr ⟨rfl, (List.forall_mem_cons.mpr ⟨rfl, (List.forall_mem_cons.mpr ⟨rfl, zs_nil⟩)⟩)⟩)⟩)⟩) ?_
          exact hrec _ _ _ _ h
        · rw [if_pos c957] at h
          refine zw_aload_n hX dL_law_960 rfl ?_
          refine zw_iconst (v := (0 : Int32)) hX dL_law_961 (by decide) ?_
          obtain ⟨w115, g, h⟩ := zb_some h
          refine zw_xl hX dL_law_962 g ?_
          refine zw_iload hX dL_law_963 rfl ?_
          refine zw_i2l hX dL_law_965 ?_
          refine zw_lcmp hX dL_law_966 ?_
          refine zw_if_eq (tgt := 972) hX dL_law_967 (by decide) (fun c967 => ?_) (fun c967 => ?_)
          · rw [if_pos c967] at h
            refine zw_goto (tgt := 6002) hX dL_law_972 (by decide) ?_
            refine zw_iinc (v := (i4 + (7 : Int32))) hX dL_law_6002 rfl rfl (by decide) ?_
            refine zw_goto (tgt := 23) hX dL_law_6005 (by decide) ?_
            refine zw_sub (lv' := [(0, .ref a0), (1, .ref a1), (2, .ref a2), (3, .ref a3), (4, .int (i4 + (7 : Int32)))]) (List.forall_mem_cons.mpr ⟨rfl, (List.forall_mem_cons.mpr ⟨rfl, (List.forall_mem_cons.mpr ⟨rfl, (List.forall_mem_cons.mpr ⟨rfl, (List.forall_mem_cons.mpr ⟨rfl, zs_nil⟩)⟩)⟩)⟩)⟩) ?_
            exact hrec _ _ _ _ h
          · rw [if_neg c967] at h
            refine zw_iconst (v := (0 : Int32)) hX dL_law_970 (by decide) ?_
            cases h
      · rw [if_neg c950] at h
        refine zw_iconst (v := (0 : Int32)) hX dL_law_953 (by decide) ?_
        cases h
    · intro _ _ hx
      exact hx.elim
  · rw [if_neg hb921] at h
    cases h
def zf_L_law_J975 (N : Nat) (k : Nat → Nat → Nat → Nat → Int32 → Nat → Nat → zm_S → Option ((Int32 × zm_S) ⊕ ((Unit) × zm_S))) (a0 : Nat) (a1 : Nat) (a2 : Nat) (a3 : Nat) (i4 : Int32) (rc rs : Nat) (S : zm_S) : Option ((Int32 × zm_S) ⊕ ((Unit) × zm_S)) := (za_x S 0 a0 (i4 + (1 : Int32))).bind (fun v116 => (za_x S 0 a0 (i4 + (2 : Int32))).bind (fun v117 => if 2 ≤ rc ∧ 12 ≤ rs then (zf_L_at N a1 v116 v117 a3 S).bind (fun r120 => (za_x r120.2 0 a0 (i4 + (1 : Int32))).bind (fun v121 => (za_x r120.2 0 a0 (i4 + (2 : Int32))).bind (fun v122 => (zi r120.2 a2 18).bind (fun _ => (zf_X18_at N a2 v121 v122 r120.2).bind (fun r124 => (zi r124.2 a2 18).bind (fun _ => (zf_X18_thrown N a2 r124.2).bind (fun r126 => if r126.1 = r120.1 then if r120.1 = 0 then (za_l r126.2 a3 (0 : Int32)).bind (fun w127 => if (lg_cmp w127 ((r124.1).toInt64)) = 0 then k a0 a1 a2 a3 (i4 + (7 : Int32)) (rc - 2) (rs - 12) r126.2 else none) else k a0 a1 a2 a3 (i4 + (7 : Int32)) (rc - 2) (rs - 12) r126.2 else none))))))) else none))
set_option maxHeartbeats 4000000 in
set_option maxRecDepth 100000 in
theorem zt_L_law_J975 {p : Program} {l : Launch} {e : Env} {s : State} {m : MethodId} {zb : Nat} {below : List Frame} {meth : Method} {c : Code} {V : zm_V} {d : Nat} {nm : String} (hlt : l.stackTraces = false) (hV : V.2.2.2.1 = s.heap.size) (hX : zm_X p room_1 s m #[Value.ref zb] meth c RL nm cL_law 8 zk_E V 601024 7293034) (hr : meth.sig.returnType = ret) (hR : d ≤ room_1.frames ∧ 64 * d ≤ room_1.locals) (hd : 46 ≤ d) {N : Nat} {k : Nat → Nat → Nat → Nat → Int32 → Nat → Nat → zm_S → Option ((Int32 × zm_S) ⊕ ((Unit) × zm_S))} {rc rs : Nat} {a0 : Nat} {a1 : Nat} {a2 : Nat} {a3 : Nat} {i4 : Int32} {res : (Int32 × zm_S) ⊕ ((Unit) × zm_S)} {out : (Int32 × zm_S)}   (hf : ∀ o, res = .inl o → o = out) (hk : ∀ (S' : zm_S) (rc rs : Nat), res = .inr ((), S') → zw p l e room_1 s m #[Value.ref zb] below meth c (lw_Z below #[Value.ref zb] s) 8 zk_E V 601024 7293034 6008 [] [] S' rc rs) (hrec : ∀ (i4' : Int32) (rc rs : Nat) (S : zm_S), k a0 a1 a2 a3 i4' rc rs S = some res → zw p l e room_1 s m #[Value.ref zb] below meth c (lw_Z below #[Value.ref zb] s) 8 zk_E V 601024 7293034 23 [(0, .ref a0), (1, .ref a1), (2, .ref a2), (3, .ref a3), (4, .int i4')] [] S rc rs) {S : zm_S} (h : zf_L_law_J975 N k a0 a1 a2 a3 i4 rc rs S = some res) : zw p l e room_1 s m #[Value.ref zb] below meth c (lw_Z below #[Value.ref zb] s) 8 zk_E V 601024 7293034 975 [(0, .ref a0), (1, .ref a1), (2, .ref a2), (3, .ref a3), (4, .int i4)] [] S rc rs := by
  unfold zf_L_law_J975 at h
  refine zw_aload_n hX dL_law_975 rfl ?_
  refine zw_aload_n hX dL_law_976 rfl ?_
  refine zw_iload hX dL_law_977 rfl ?_
  refine zw_iconst (v := (1 : Int32)) hX dL_law_979 (by decide) ?_
  refine zw_iadd hX dL_law_980 ?_
  obtain ⟨v116, g, h⟩ := zb_some h
  refine zw_xi hX dL_law_981 g ?_
  refine zw_aload_n hX dL_law_982 rfl ?_
  refine zw_iload hX dL_law_983 rfl ?_
  refine zw_iconst (v := (2 : Int32)) hX dL_law_985 (by decide) ?_
  refine zw_iadd hX dL_law_986 ?_
  obtain ⟨v117, g, h⟩ := zb_some h
  refine zw_xi hX dL_law_987 g ?_
  refine zw_aload_n hX dL_law_988 rfl ?_
  by_cases hb989 : 2 ≤ rc ∧ 12 ≤ rs
  · rw [if_pos hb989] at h
    obtain ⟨r120, g, h⟩ := zb_some h
    refine zc_S (as := [.ref a1, .int v116, .int v117, .ref a3]) hX (zt_L_at hlt (d := d - 1) (by omega) g) zl_L_309 dL_law_989 ⟨rfl, rfl, Nat.le_of_ble_eq_true rfl⟩ ⟨by omega, by omega⟩ hb989 ?_ ?_
    · rintro _ _ ⟨rfl, rfl⟩
      refine zw_istore hX dL_law_992 (by decide) ?_
      refine zw_aload_n hX dL_law_994 rfl ?_
      refine zw_aload_n hX dL_law_995 rfl ?_
      refine zw_iload hX dL_law_996 rfl ?_
      refine zw_iconst (v := (1 : Int32)) hX dL_law_998 (by decide) ?_
      refine zw_iadd hX dL_law_999 ?_
      obtain ⟨v121, g, h⟩ := zb_some h
      refine zw_xi hX dL_law_1000 g ?_
      refine zw_aload_n hX dL_law_1001 rfl ?_
      refine zw_iload hX dL_law_1002 rfl ?_
      refine zw_iconst (v := (2 : Int32)) hX dL_law_1004 (by decide) ?_
      refine zw_iadd hX dL_law_1005 ?_
      obtain ⟨v122, g, h⟩ := zb_some h
      refine zw_xi hX dL_law_1006 g ?_
      obtain ⟨_, gi, h⟩ := zb_some h
      obtain ⟨r124, g, h⟩ := zb_some h
      refine zc_Vi (as := [.int v121, .int v122]) hX gi (zt_X18_at (d := d - 1) (by omega) g) zl_L_311 rfl dL_law_1007 ⟨rfl, rfl, Nat.le_of_ble_eq_true rfl⟩ ⟨by omega, by omega⟩ ?_
      refine zw_istore hX dL_law_1010 (by decide) ?_
      refine zw_aload_n hX dL_law_1012 rfl ?_
      obtain ⟨_, gi, h⟩ := zb_some h
      obtain ⟨r126, g, h⟩ := zb_some h
      refine zc_Vi (as := []) hX gi (zt_X18_thrown (d := d - 1) (by omega) g) zl_L_281 rfl dL_law_1013 ⟨rfl, rfl, Nat.le_of_ble_eq_true rfl⟩ ⟨by omega, by omega⟩ ?_
      refine zw_iload hX dL_law_1016 rfl ?_
      refine zw_icmp_eq (tgt := 1023) hX dL_law_1018 (by decide) (fun c1018 => ?_) (fun c1018 => ?_)
      · rw [if_pos c1018] at h
        refine zw_iload hX dL_law_1023 rfl ?_
        refine zw_if_ne (tgt := 1040) hX dL_law_1025 (by decide) (fun c1025 => ?_) (fun c1025 => ?_)
        · rw [if_neg c1025] at h
          refine zw_goto (tgt := 6002) hX dL_law_1040 (by decide) ?_
          refine zw_iinc (v := (i4 + (7 : Int32))) hX dL_law_6002 rfl rfl (by decide) ?_
          refine zw_goto (tgt := 23) hX dL_law_6005 (by decide) ?_
          refine zw_sub (lv' := [(0, .ref a0), (1, .ref a1), (2, .ref a2), (3, .ref a3), (4, .int (i4 + (7 : Int32)))]) (List.forall_mem_cons.mpr ⟨rfl, (List.forall_mem_cons.mpr ⟨rfl, (List.forall_mem_cons.mpr ⟨rfl, (List.forall_mem_cons.mpr ⟨rfl, (List.forall_mem_cons.mpr ⟨rfl, zs_nil⟩)⟩)⟩)⟩)⟩) ?_
          exact hrec _ _ _ _ h
        · rw [if_pos c1025] at h
          refine zw_aload_n hX dL_law_1028 rfl ?_
          refine zw_iconst (v := (0 : Int32)) hX dL_law_1029 (by decide) ?_
          obtain ⟨w127, g, h⟩ := zb_some h
          refine zw_xl hX dL_law_1030 g ?_
          refine zw_iload hX dL_law_1031 rfl ?_
          refine zw_i2l hX dL_law_1033 ?_
          refine zw_lcmp hX dL_law_1034 ?_
          refine zw_if_eq (tgt := 1040) hX dL_law_1035 (by decide) (fun c1035 => ?_) (fun c1035 => ?_)
          · rw [if_pos c1035] at h
            refine zw_goto (tgt := 6002) hX dL_law_1040 (by decide) ?_
            refine zw_iinc (v := (i4 + (7 : Int32))) hX dL_law_6002 rfl rfl (by decide) ?_
            refine zw_goto (tgt := 23) hX dL_law_6005 (by decide) ?_
            refine zw_sub (lv' := [(0, .ref a0), (1, .ref a1), (2, .ref a2), (3, .ref a3), (4, .int (i4 + (7 : Int32)))]) (List.forall_mem_cons.mpr ⟨rfl, (List.forall_mem_cons.mpr ⟨rfl, (List.forall_mem_cons.mpr ⟨rfl, (List.forall_mem_cons.mpr ⟨rfl, (List.forall_mem_cons.mpr ⟨rfl, zs_nil⟩)⟩)⟩)⟩)⟩) ?_
            exact hrec _ _ _ _ h
          · rw [if_neg c1035] at h
            refine zw_iconst (v := (0 : Int32)) hX dL_law_1038 (by decide) ?_
            cases h
      · rw [if_neg c1018] at h
        refine zw_iconst (v := (0 : Int32)) hX dL_law_1021 (by decide) ?_
        cases h
    · intro _ _ hx
      exact hx.elim
  · rw [if_neg hb989] at h
    cases h
def zf_L_law_J1043 (N : Nat) (k : Nat → Nat → Nat → Nat → Int32 → Nat → Nat → zm_S → Option ((Int32 × zm_S) ⊕ ((Unit) × zm_S))) (a0 : Nat) (a1 : Nat) (a2 : Nat) (a3 : Nat) (i4 : Int32) (rc rs : Nat) (S : zm_S) : Option ((Int32 × zm_S) ⊕ ((Unit) × zm_S)) := (za_x S 0 a0 (i4 + (1 : Int32))).bind (fun v128 => (za_x S 0 a0 (i4 + (2 : Int32))).bind (fun v129 => if 2 ≤ rc ∧ 12 ≤ rs then (zf_L_between N a1 v128 v129 a3 S).bind (fun r132 => (za_x r132.2 0 a0 (i4 + (1 : Int32))).bind (fun v133 => (za_x r132.2 0 a0 (i4 + (2 : Int32))).bind (fun v134 => (zi r132.2 a2 18).bind (fun _ => (zf_X18_between N a2 v133 v134 r132.2).bind (fun r136 => (zi r136.2 a2 18).bind (fun _ => (zf_X18_thrown N a2 r136.2).bind (fun r138 => if r138.1 = r132.1 then if r132.1 = 0 then (za_l r138.2 a3 (0 : Int32)).bind (fun w139 => if (lg_cmp w139 ((r136.1).toInt64)) = 0 then k a0 a1 a2 a3 (i4 + (7 : Int32)) (rc - 2) (rs - 12) r138.2 else none) else k a0 a1 a2 a3 (i4 + (7 : Int32)) (rc - 2) (rs - 12) r138.2 else none))))))) else none))
set_option maxHeartbeats 4000000 in
set_option maxRecDepth 100000 in
theorem zt_L_law_J1043 {p : Program} {l : Launch} {e : Env} {s : State} {m : MethodId} {zb : Nat} {below : List Frame} {meth : Method} {c : Code} {V : zm_V} {d : Nat} {nm : String} (hlt : l.stackTraces = false) (hV : V.2.2.2.1 = s.heap.size) (hX : zm_X p room_1 s m #[Value.ref zb] meth c RL nm cL_law 8 zk_E V 601024 7293034) (hr : meth.sig.returnType = ret) (hR : d ≤ room_1.frames ∧ 64 * d ≤ room_1.locals) (hd : 46 ≤ d) {N : Nat} {k : Nat → Nat → Nat → Nat → Int32 → Nat → Nat → zm_S → Option ((Int32 × zm_S) ⊕ ((Unit) × zm_S))} {rc rs : Nat} {a0 : Nat} {a1 : Nat} {a2 : Nat} {a3 : Nat} {i4 : Int32} {res : (Int32 × zm_S) ⊕ ((Unit) × zm_S)} {out : (Int32 × zm_S)}   (hf : ∀ o, res = .inl o → o = out) (hk : ∀ (S' : zm_S) (rc rs : Nat), res = .inr ((), S') → zw p l e room_1 s m #[Value.ref zb] below meth c (lw_Z below #[Value.ref zb] s) 8 zk_E V 601024 7293034 6008 [] [] S' rc rs) (hrec : ∀ (i4' : Int32) (rc rs : Nat) (S : zm_S), k a0 a1 a2 a3 i4' rc rs S = some res → zw p l e room_1 s m #[Value.ref zb] below meth c (lw_Z below #[Value.ref zb] s) 8 zk_E V 601024 7293034 23 [(0, .ref a0), (1, .ref a1), (2, .ref a2), (3, .ref a3), (4, .int i4')] [] S rc rs) {S : zm_S} (h : zf_L_law_J1043 N k a0 a1 a2 a3 i4 rc rs S = some res) : zw p l e room_1 s m #[Value.ref zb] below meth c (lw_Z below #[Value.ref zb] s) 8 zk_E V 601024 7293034 1043 [(0, .ref a0), (1, .ref a1), (2, .ref a2), (3, .ref a3), (4, .int i4)] [] S rc rs := by
  unfold zf_L_law_J1043 at h
  refine zw_aload_n hX dL_law_1043 rfl ?_
  refine zw_aload_n hX dL_law_1044 rfl ?_
  refine zw_iload hX dL_law_1045 rfl ?_
  refine zw_iconst (v := (1 : Int32)) hX dL_law_1047 (by decide) ?_
  refine zw_iadd hX dL_law_1048 ?_
  obtain ⟨v128, g, h⟩ := zb_some h
  refine zw_xi hX dL_law_1049 g ?_
  refine zw_aload_n hX dL_law_1050 rfl ?_
  refine zw_iload hX dL_law_1051 rfl ?_
  refine zw_iconst (v := (2 : Int32)) hX dL_law_1053 (by decide) ?_
  refine zw_iadd hX dL_law_1054 ?_
  obtain ⟨v129, g, h⟩ := zb_some h
  refine zw_xi hX dL_law_1055 g ?_
  refine zw_aload_n hX dL_law_1056 rfl ?_
  by_cases hb1057 : 2 ≤ rc ∧ 12 ≤ rs
  · rw [if_pos hb1057] at h
    obtain ⟨r132, g, h⟩ := zb_some h
    refine zc_S (as := [.ref a1, .int v128, .int v129, .ref a3]) hX (zt_L_between hlt (d := d - 1) (by omega) g) zl_L_312 dL_law_1057 ⟨rfl, rfl, Nat.le_of_ble_eq_true rfl⟩ ⟨by omega, by omega⟩ hb1057 ?_ ?_
    · rintro _ _ ⟨rfl, rfl⟩
      refine zw_istore hX dL_law_1060 (by decide) ?_
      refine zw_aload_n hX dL_law_1062 rfl ?_
      refine zw_aload_n hX dL_law_1063 rfl ?_
      refine zw_iload hX dL_law_1064 rfl ?_
      refine zw_iconst (v := (1 : Int32)) hX dL_law_1066 (by decide) ?_
      refine zw_iadd hX dL_law_1067 ?_
      obtain ⟨v133, g, h⟩ := zb_some h
      refine zw_xi hX dL_law_1068 g ?_
      refine zw_aload_n hX dL_law_1069 rfl ?_
      refine zw_iload hX dL_law_1070 rfl ?_
      refine zw_iconst (v := (2 : Int32)) hX dL_law_1072 (by decide) ?_
      refine zw_iadd hX dL_law_1073 ?_
      obtain ⟨v134, g, h⟩ := zb_some h
      refine zw_xi hX dL_law_1074 g ?_
      obtain ⟨_, gi, h⟩ := zb_some h
      obtain ⟨r136, g, h⟩ := zb_some h
      refine zc_Vi (as := [.int v133, .int v134]) hX gi (zt_X18_between (d := d - 1) (by omega) g) zl_L_314 rfl dL_law_1075 ⟨rfl, rfl, Nat.le_of_ble_eq_true rfl⟩ ⟨by omega, by omega⟩ ?_
      refine zw_istore hX dL_law_1078 (by decide) ?_
      refine zw_aload_n hX dL_law_1080 rfl ?_
      obtain ⟨_, gi, h⟩ := zb_some h
      obtain ⟨r138, g, h⟩ := zb_some h
      refine zc_Vi (as := []) hX gi (zt_X18_thrown (d := d - 1) (by omega) g) zl_L_281 rfl dL_law_1081 ⟨rfl, rfl, Nat.le_of_ble_eq_true rfl⟩ ⟨by omega, by omega⟩ ?_
      refine zw_iload hX dL_law_1084 rfl ?_
      refine zw_icmp_eq (tgt := 1091) hX dL_law_1086 (by decide) (fun c1086 => ?_) (fun c1086 => ?_)
      · rw [if_pos c1086] at h
        refine zw_iload hX dL_law_1091 rfl ?_
        refine zw_if_ne (tgt := 1108) hX dL_law_1093 (by decide) (fun c1093 => ?_) (fun c1093 => ?_)
        · rw [if_neg c1093] at h
          refine zw_goto (tgt := 6002) hX dL_law_1108 (by decide) ?_
          refine zw_iinc (v := (i4 + (7 : Int32))) hX dL_law_6002 rfl rfl (by decide) ?_
          refine zw_goto (tgt := 23) hX dL_law_6005 (by decide) ?_
          refine zw_sub (lv' := [(0, .ref a0), (1, .ref a1), (2, .ref a2), (3, .ref a3), (4, .int (i4 + (7 : Int32)))]) (List.forall_mem_cons.mpr ⟨rfl, (List.forall_mem_cons.mpr ⟨rfl, (List.forall_mem_cons.mpr ⟨rfl, (List.forall_mem_cons.mpr ⟨rfl, (List.forall_mem_cons.mpr ⟨rfl, zs_nil⟩)⟩)⟩)⟩)⟩) ?_
          exact hrec _ _ _ _ h
        · rw [if_pos c1093] at h
          refine zw_aload_n hX dL_law_1096 rfl ?_
          refine zw_iconst (v := (0 : Int32)) hX dL_law_1097 (by decide) ?_
          obtain ⟨w139, g, h⟩ := zb_some h
          refine zw_xl hX dL_law_1098 g ?_
          refine zw_iload hX dL_law_1099 rfl ?_
          refine zw_i2l hX dL_law_1101 ?_
          refine zw_lcmp hX dL_law_1102 ?_
          refine zw_if_eq (tgt := 1108) hX dL_law_1103 (by decide) (fun c1103 => ?_) (fun c1103 => ?_)
          · rw [if_pos c1103] at h
            refine zw_goto (tgt := 6002) hX dL_law_1108 (by decide) ?_
            refine zw_iinc (v := (i4 + (7 : Int32))) hX dL_law_6002 rfl rfl (by decide) ?_
            refine zw_goto (tgt := 23) hX dL_law_6005 (by decide) ?_
            refine zw_sub (lv' := [(0, .ref a0), (1, .ref a1), (2, .ref a2), (3, .ref a3), (4, .int (i4 + (7 : Int32)))]) (List.forall_mem_cons.mpr ⟨rfl, (List.forall_mem_cons.mpr ⟨rfl, (List.forall_mem_cons.mpr ⟨rfl, (List.forall_mem_cons.mpr ⟨rfl, (List.forall_mem_cons.mpr ⟨rfl, zs_nil⟩)⟩)⟩)⟩)⟩) ?_
            exact hrec _ _ _ _ h
          · rw [if_neg c1103] at h
            refine zw_iconst (v := (0 : Int32)) hX dL_law_1106 (by decide) ?_
            cases h
      · rw [if_neg c1086] at h
        refine zw_iconst (v := (0 : Int32)) hX dL_law_1089 (by decide) ?_
        cases h
    · intro _ _ hx
      exact hx.elim
  · rw [if_neg hb1057] at h
    cases h
def zf_L_law_J1111 (N : Nat) (k : Nat → Nat → Nat → Nat → Int32 → Nat → Nat → zm_S → Option ((Int32 × zm_S) ⊕ ((Unit) × zm_S))) (a0 : Nat) (a1 : Nat) (a2 : Nat) (a3 : Nat) (i4 : Int32) (rc rs : Nat) (S : zm_S) : Option ((Int32 × zm_S) ⊕ ((Unit) × zm_S)) := (za_x S 0 a0 (i4 + (1 : Int32))).bind (fun v140 => (za_x S 0 a0 (i4 + (2 : Int32))).bind (fun v141 => if 2 ≤ rc ∧ 12 ≤ rs then (zf_L_way N a1 v140 v141 a3 S).bind (fun r144 => (za_x r144.2 0 a0 (i4 + (1 : Int32))).bind (fun v145 => (za_x r144.2 0 a0 (i4 + (2 : Int32))).bind (fun v146 => (zi r144.2 a2 18).bind (fun _ => (zf_X18_way N a2 v145 v146 r144.2).bind (fun r148 => (zi r148.2 a2 18).bind (fun _ => (zf_X18_thrown N a2 r148.2).bind (fun r150 => if r150.1 = r144.1 then if r144.1 = 0 then (za_l r150.2 a3 (0 : Int32)).bind (fun w151 => if (lg_cmp w151 ((r148.1).toInt64)) = 0 then k a0 a1 a2 a3 (i4 + (7 : Int32)) (rc - 2) (rs - 12) r150.2 else none) else k a0 a1 a2 a3 (i4 + (7 : Int32)) (rc - 2) (rs - 12) r150.2 else none))))))) else none))
set_option maxHeartbeats 4000000 in
set_option maxRecDepth 100000 in
theorem zt_L_law_J1111 {p : Program} {l : Launch} {e : Env} {s : State} {m : MethodId} {zb : Nat} {below : List Frame} {meth : Method} {c : Code} {V : zm_V} {d : Nat} {nm : String} (hlt : l.stackTraces = false) (hV : V.2.2.2.1 = s.heap.size) (hX : zm_X p room_1 s m #[Value.ref zb] meth c RL nm cL_law 8 zk_E V 601024 7293034) (hr : meth.sig.returnType = ret) (hR : d ≤ room_1.frames ∧ 64 * d ≤ room_1.locals) (hd : 46 ≤ d) {N : Nat} {k : Nat → Nat → Nat → Nat → Int32 → Nat → Nat → zm_S → Option ((Int32 × zm_S) ⊕ ((Unit) × zm_S))} {rc rs : Nat} {a0 : Nat} {a1 : Nat} {a2 : Nat} {a3 : Nat} {i4 : Int32} {res : (Int32 × zm_S) ⊕ ((Unit) × zm_S)} {out : (Int32 × zm_S)}   (hf : ∀ o, res = .inl o → o = out) (hk : ∀ (S' : zm_S) (rc rs : Nat), res = .inr ((), S') → zw p l e room_1 s m #[Value.ref zb] below meth c (lw_Z below #[Value.ref zb] s) 8 zk_E V 601024 7293034 6008 [] [] S' rc rs) (hrec : ∀ (i4' : Int32) (rc rs : Nat) (S : zm_S), k a0 a1 a2 a3 i4' rc rs S = some res → zw p l e room_1 s m #[Value.ref zb] below meth c (lw_Z below #[Value.ref zb] s) 8 zk_E V 601024 7293034 23 [(0, .ref a0), (1, .ref a1), (2, .ref a2), (3, .ref a3), (4, .int i4')] [] S rc rs) {S : zm_S} (h : zf_L_law_J1111 N k a0 a1 a2 a3 i4 rc rs S = some res) : zw p l e room_1 s m #[Value.ref zb] below meth c (lw_Z below #[Value.ref zb] s) 8 zk_E V 601024 7293034 1111 [(0, .ref a0), (1, .ref a1), (2, .ref a2), (3, .ref a3), (4, .int i4)] [] S rc rs := by
  unfold zf_L_law_J1111 at h
  refine zw_aload_n hX dL_law_1111 rfl ?_
  refine zw_aload_n hX dL_law_1112 rfl ?_
  refine zw_iload hX dL_law_1113 rfl ?_
  refine zw_iconst (v := (1 : Int32)) hX dL_law_1115 (by decide) ?_
  refine zw_iadd hX dL_law_1116 ?_
  obtain ⟨v140, g, h⟩ := zb_some h
  refine zw_xi hX dL_law_1117 g ?_
  refine zw_aload_n hX dL_law_1118 rfl ?_
  refine zw_iload hX dL_law_1119 rfl ?_
  refine zw_iconst (v := (2 : Int32)) hX dL_law_1121 (by decide) ?_
  refine zw_iadd hX dL_law_1122 ?_
  obtain ⟨v141, g, h⟩ := zb_some h
  refine zw_xi hX dL_law_1123 g ?_
  refine zw_aload_n hX dL_law_1124 rfl ?_
  by_cases hb1125 : 2 ≤ rc ∧ 12 ≤ rs
  · rw [if_pos hb1125] at h
    obtain ⟨r144, g, h⟩ := zb_some h
    refine zc_S (as := [.ref a1, .int v140, .int v141, .ref a3]) hX (zt_L_way hlt (d := d - 1) (by omega) g) zl_L_315 dL_law_1125 ⟨rfl, rfl, Nat.le_of_ble_eq_true rfl⟩ ⟨by omega, by omega⟩ hb1125 ?_ ?_
    · rintro _ _ ⟨rfl, rfl⟩
      refine zw_istore hX dL_law_1128 (by decide) ?_
      refine zw_aload_n hX dL_law_1130 rfl ?_
      refine zw_aload_n hX dL_law_1131 rfl ?_
      refine zw_iload hX dL_law_1132 rfl ?_
      refine zw_iconst (v := (1 : Int32)) hX dL_law_1134 (by decide) ?_
      refine zw_iadd hX dL_law_1135 ?_
      obtain ⟨v145, g, h⟩ := zb_some h
      refine zw_xi hX dL_law_1136 g ?_
      refine zw_aload_n hX dL_law_1137 rfl ?_
      refine zw_iload hX dL_law_1138 rfl ?_
      refine zw_iconst (v := (2 : Int32)) hX dL_law_1140 (by decide) ?_
      refine zw_iadd hX dL_law_1141 ?_
      obtain ⟨v146, g, h⟩ := zb_some h
      refine zw_xi hX dL_law_1142 g ?_
      obtain ⟨_, gi, h⟩ := zb_some h
      obtain ⟨r148, g, h⟩ := zb_some h
      refine zc_Vi (as := [.int v145, .int v146]) hX gi (zt_X18_way (d := d - 1) (by omega) g) zl_L_317 rfl dL_law_1143 ⟨rfl, rfl, Nat.le_of_ble_eq_true rfl⟩ ⟨by omega, by omega⟩ ?_
      refine zw_istore hX dL_law_1146 (by decide) ?_
      refine zw_aload_n hX dL_law_1148 rfl ?_
      obtain ⟨_, gi, h⟩ := zb_some h
      obtain ⟨r150, g, h⟩ := zb_some h
      refine zc_Vi (as := []) hX gi (zt_X18_thrown (d := d - 1) (by omega) g) zl_L_281 rfl dL_law_1149 ⟨rfl, rfl, Nat.le_of_ble_eq_true rfl⟩ ⟨by omega, by omega⟩ ?_
      refine zw_iload hX dL_law_1152 rfl ?_
      refine zw_icmp_eq (tgt := 1159) hX dL_law_1154 (by decide) (fun c1154 => ?_) (fun c1154 => ?_)
      · rw [if_pos c1154] at h
        refine zw_iload hX dL_law_1159 rfl ?_
        refine zw_if_ne (tgt := 1176) hX dL_law_1161 (by decide) (fun c1161 => ?_) (fun c1161 => ?_)
        · rw [if_neg c1161] at h
          refine zw_goto (tgt := 6002) hX dL_law_1176 (by decide) ?_
          refine zw_iinc (v := (i4 + (7 : Int32))) hX dL_law_6002 rfl rfl (by decide) ?_
          refine zw_goto (tgt := 23) hX dL_law_6005 (by decide) ?_
          refine zw_sub (lv' := [(0, .ref a0), (1, .ref a1), (2, .ref a2), (3, .ref a3), (4, .int (i4 + (7 : Int32)))]) (List.forall_mem_cons.mpr ⟨rfl, (List.forall_mem_cons.mpr ⟨rfl, (List.forall_mem_cons.mpr ⟨rfl, (List.forall_mem_cons.mpr ⟨rfl, (List.forall_mem_cons.mpr ⟨rfl, zs_nil⟩)⟩)⟩)⟩)⟩) ?_
          exact hrec _ _ _ _ h
        · rw [if_pos c1161] at h
          refine zw_aload_n hX dL_law_1164 rfl ?_
          refine zw_iconst (v := (0 : Int32)) hX dL_law_1165 (by decide) ?_
          obtain ⟨w151, g, h⟩ := zb_some h
          refine zw_xl hX dL_law_1166 g ?_
          refine zw_iload hX dL_law_1167 rfl ?_
          refine zw_i2l hX dL_law_1169 ?_
          refine zw_lcmp hX dL_law_1170 ?_
          refine zw_if_eq (tgt := 1176) hX dL_law_1171 (by decide) (fun c1171 => ?_) (fun c1171 => ?_)
          · rw [if_pos c1171] at h
            refine zw_goto (tgt := 6002) hX dL_law_1176 (by decide) ?_
            refine zw_iinc (v := (i4 + (7 : Int32))) hX dL_law_6002 rfl rfl (by decide) ?_
            refine zw_goto (tgt := 23) hX dL_law_6005 (by decide) ?_
            refine zw_sub (lv' := [(0, .ref a0), (1, .ref a1), (2, .ref a2), (3, .ref a3), (4, .int (i4 + (7 : Int32)))]) (List.forall_mem_cons.mpr ⟨rfl, (List.forall_mem_cons.mpr ⟨rfl, (List.forall_mem_cons.mpr ⟨rfl, (List.forall_mem_cons.mpr ⟨rfl, (List.forall_mem_cons.mpr ⟨rfl, zs_nil⟩)⟩)⟩)⟩)⟩) ?_
            exact hrec _ _ _ _ h
          · rw [if_neg c1171] at h
            refine zw_iconst (v := (0 : Int32)) hX dL_law_1174 (by decide) ?_
            cases h
      · rw [if_neg c1154] at h
        refine zw_iconst (v := (0 : Int32)) hX dL_law_1157 (by decide) ?_
        cases h
    · intro _ _ hx
      exact hx.elim
  · rw [if_neg hb1125] at h
    cases h
def zf_L_law_J1179 (N : Nat) (k : Nat → Nat → Nat → Nat → Int32 → Nat → Nat → zm_S → Option ((Int32 × zm_S) ⊕ ((Unit) × zm_S))) (a0 : Nat) (a1 : Nat) (a2 : Nat) (a3 : Nat) (i4 : Int32) (rc rs : Nat) (S : zm_S) : Option ((Int32 × zm_S) ⊕ ((Unit) × zm_S)) := (za_x S 0 a0 (i4 + (1 : Int32))).bind (fun v152 => (za_x S 0 a0 (i4 + (2 : Int32))).bind (fun v153 => if 2 ≤ rc ∧ 12 ≤ rs then (zf_L_name N a1 v152 v153 a3 S).bind (fun r156 => (za_x r156.2 0 a0 (i4 + (1 : Int32))).bind (fun v157 => (za_x r156.2 0 a0 (i4 + (2 : Int32))).bind (fun v158 => (zi r156.2 a2 18).bind (fun _ => (zf_X18_name N a2 v157 v158 r156.2).bind (fun r160 => (zi r160.2 a2 18).bind (fun _ => (zf_X18_thrown N a2 r160.2).bind (fun r162 => if r162.1 = r156.1 then if r156.1 = 0 then (za_l r162.2 a3 (0 : Int32)).bind (fun w163 => if (lg_cmp w163 ((r160.1).toInt64)) = 0 then k a0 a1 a2 a3 (i4 + (7 : Int32)) (rc - 2) (rs - 12) r162.2 else none) else k a0 a1 a2 a3 (i4 + (7 : Int32)) (rc - 2) (rs - 12) r162.2 else none))))))) else none))
set_option maxHeartbeats 4000000 in
set_option maxRecDepth 100000 in
theorem zt_L_law_J1179 {p : Program} {l : Launch} {e : Env} {s : State} {m : MethodId} {zb : Nat} {below : List Frame} {meth : Method} {c : Code} {V : zm_V} {d : Nat} {nm : String} (hlt : l.stackTraces = false) (hV : V.2.2.2.1 = s.heap.size) (hX : zm_X p room_1 s m #[Value.ref zb] meth c RL nm cL_law 8 zk_E V 601024 7293034) (hr : meth.sig.returnType = ret) (hR : d ≤ room_1.frames ∧ 64 * d ≤ room_1.locals) (hd : 46 ≤ d) {N : Nat} {k : Nat → Nat → Nat → Nat → Int32 → Nat → Nat → zm_S → Option ((Int32 × zm_S) ⊕ ((Unit) × zm_S))} {rc rs : Nat} {a0 : Nat} {a1 : Nat} {a2 : Nat} {a3 : Nat} {i4 : Int32} {res : (Int32 × zm_S) ⊕ ((Unit) × zm_S)} {out : (Int32 × zm_S)}   (hf : ∀ o, res = .inl o → o = out) (hk : ∀ (S' : zm_S) (rc rs : Nat), res = .inr ((), S') → zw p l e room_1 s m #[Value.ref zb] below meth c (lw_Z below #[Value.ref zb] s) 8 zk_E V 601024 7293034 6008 [] [] S' rc rs) (hrec : ∀ (i4' : Int32) (rc rs : Nat) (S : zm_S), k a0 a1 a2 a3 i4' rc rs S = some res → zw p l e room_1 s m #[Value.ref zb] below meth c (lw_Z below #[Value.ref zb] s) 8 zk_E V 601024 7293034 23 [(0, .ref a0), (1, .ref a1), (2, .ref a2), (3, .ref a3), (4, .int i4')] [] S rc rs) {S : zm_S} (h : zf_L_law_J1179 N k a0 a1 a2 a3 i4 rc rs S = some res) : zw p l e room_1 s m #[Value.ref zb] below meth c (lw_Z below #[Value.ref zb] s) 8 zk_E V 601024 7293034 1179 [(0, .ref a0), (1, .ref a1), (2, .ref a2), (3, .ref a3), (4, .int i4)] [] S rc rs := by
  unfold zf_L_law_J1179 at h
  refine zw_aload_n hX dL_law_1179 rfl ?_
  refine zw_aload_n hX dL_law_1180 rfl ?_
  refine zw_iload hX dL_law_1181 rfl ?_
  refine zw_iconst (v := (1 : Int32)) hX dL_law_1183 (by decide) ?_
  refine zw_iadd hX dL_law_1184 ?_
  obtain ⟨v152, g, h⟩ := zb_some h
  refine zw_xi hX dL_law_1185 g ?_
  refine zw_aload_n hX dL_law_1186 rfl ?_
  refine zw_iload hX dL_law_1187 rfl ?_
  refine zw_iconst (v := (2 : Int32)) hX dL_law_1189 (by decide) ?_
  refine zw_iadd hX dL_law_1190 ?_
  obtain ⟨v153, g, h⟩ := zb_some h
  refine zw_xi hX dL_law_1191 g ?_
  refine zw_aload_n hX dL_law_1192 rfl ?_
  by_cases hb1193 : 2 ≤ rc ∧ 12 ≤ rs
  · rw [if_pos hb1193] at h
    obtain ⟨r156, g, h⟩ := zb_some h
    refine zc_S (as := [.ref a1, .int v152, .int v153, .ref a3]) hX (zt_L_name hlt (d := d - 1) (by omega) g) zl_L_318 dL_law_1193 ⟨rfl, rfl, Nat.le_of_ble_eq_true rfl⟩ ⟨by omega, by omega⟩ hb1193 ?_ ?_
    · rintro _ _ ⟨rfl, rfl⟩
      refine zw_istore hX dL_law_1196 (by decide) ?_
      refine zw_aload_n hX dL_law_1198 rfl ?_
      refine zw_aload_n hX dL_law_1199 rfl ?_
      refine zw_iload hX dL_law_1200 rfl ?_
      refine zw_iconst (v := (1 : Int32)) hX dL_law_1202 (by decide) ?_
      refine zw_iadd hX dL_law_1203 ?_
      obtain ⟨v157, g, h⟩ := zb_some h
      refine zw_xi hX dL_law_1204 g ?_
      refine zw_aload_n hX dL_law_1205 rfl ?_
      refine zw_iload hX dL_law_1206 rfl ?_
      refine zw_iconst (v := (2 : Int32)) hX dL_law_1208 (by decide) ?_
      refine zw_iadd hX dL_law_1209 ?_
      obtain ⟨v158, g, h⟩ := zb_some h
      refine zw_xi hX dL_law_1210 g ?_
      obtain ⟨_, gi, h⟩ := zb_some h
      obtain ⟨r160, g, h⟩ := zb_some h
      refine zc_Vi (as := [.int v157, .int v158]) hX gi (zt_X18_name (d := d - 1) (by omega) g) zl_L_320 rfl dL_law_1211 ⟨rfl, rfl, Nat.le_of_ble_eq_true rfl⟩ ⟨by omega, by omega⟩ ?_
      refine zw_istore hX dL_law_1214 (by decide) ?_
      refine zw_aload_n hX dL_law_1216 rfl ?_
      obtain ⟨_, gi, h⟩ := zb_some h
      obtain ⟨r162, g, h⟩ := zb_some h
      refine zc_Vi (as := []) hX gi (zt_X18_thrown (d := d - 1) (by omega) g) zl_L_281 rfl dL_law_1217 ⟨rfl, rfl, Nat.le_of_ble_eq_true rfl⟩ ⟨by omega, by omega⟩ ?_
      refine zw_iload hX dL_law_1220 rfl ?_
      refine zw_icmp_eq (tgt := 1227) hX dL_law_1222 (by decide) (fun c1222 => ?_) (fun c1222 => ?_)
      · rw [if_pos c1222] at h
        refine zw_iload hX dL_law_1227 rfl ?_
        refine zw_if_ne (tgt := 1244) hX dL_law_1229 (by decide) (fun c1229 => ?_) (fun c1229 => ?_)
        · rw [if_neg c1229] at h
          refine zw_goto (tgt := 6002) hX dL_law_1244 (by decide) ?_
          refine zw_iinc (v := (i4 + (7 : Int32))) hX dL_law_6002 rfl rfl (by decide) ?_
          refine zw_goto (tgt := 23) hX dL_law_6005 (by decide) ?_
          refine zw_sub (lv' := [(0, .ref a0), (1, .ref a1), (2, .ref a2), (3, .ref a3), (4, .int (i4 + (7 : Int32)))]) (List.forall_mem_cons.mpr ⟨rfl, (List.forall_mem_cons.mpr ⟨rfl, (List.forall_mem_cons.mpr ⟨rfl, (List.forall_mem_cons.mpr ⟨rfl, (List.forall_mem_cons.mpr ⟨rfl, zs_nil⟩)⟩)⟩)⟩)⟩) ?_
          exact hrec _ _ _ _ h
        · rw [if_pos c1229] at h
          refine zw_aload_n hX dL_law_1232 rfl ?_
          refine zw_iconst (v := (0 : Int32)) hX dL_law_1233 (by decide) ?_
          obtain ⟨w163, g, h⟩ := zb_some h
          refine zw_xl hX dL_law_1234 g ?_
          refine zw_iload hX dL_law_1235 rfl ?_
          refine zw_i2l hX dL_law_1237 ?_
          refine zw_lcmp hX dL_law_1238 ?_
          refine zw_if_eq (tgt := 1244) hX dL_law_1239 (by decide) (fun c1239 => ?_) (fun c1239 => ?_)
          · rw [if_pos c1239] at h
            refine zw_goto (tgt := 6002) hX dL_law_1244 (by decide) ?_
            refine zw_iinc (v := (i4 + (7 : Int32))) hX dL_law_6002 rfl rfl (by decide) ?_
            refine zw_goto (tgt := 23) hX dL_law_6005 (by decide) ?_
            refine zw_sub (lv' := [(0, .ref a0), (1, .ref a1), (2, .ref a2), (3, .ref a3), (4, .int (i4 + (7 : Int32)))]) (List.forall_mem_cons.mpr ⟨rfl, (List.forall_mem_cons.mpr ⟨rfl, (List.forall_mem_cons.mpr ⟨rfl, (List.forall_mem_cons.mpr ⟨rfl, (List.forall_mem_cons.mpr ⟨rfl, zs_nil⟩)⟩)⟩)⟩)⟩) ?_
            exact hrec _ _ _ _ h
          · rw [if_neg c1239] at h
            refine zw_iconst (v := (0 : Int32)) hX dL_law_1242 (by decide) ?_
            cases h
      · rw [if_neg c1222] at h
        refine zw_iconst (v := (0 : Int32)) hX dL_law_1225 (by decide) ?_
        cases h
    · intro _ _ hx
      exact hx.elim
  · rw [if_neg hb1193] at h
    cases h
def zf_L_law_J1247 (N : Nat) (k : Nat → Nat → Nat → Nat → Int32 → Nat → Nat → zm_S → Option ((Int32 × zm_S) ⊕ ((Unit) × zm_S))) (a0 : Nat) (a1 : Nat) (a2 : Nat) (a3 : Nat) (i4 : Int32) (rc rs : Nat) (S : zm_S) : Option ((Int32 × zm_S) ⊕ ((Unit) × zm_S)) := (za_x S 0 a0 (i4 + (1 : Int32))).bind (fun v164 => if 2 ≤ rc ∧ 12 ≤ rs then (zf_L_nameOf N a1 v164 a3 S).bind (fun r167 => (za_x r167.2 0 a0 (i4 + (1 : Int32))).bind (fun v168 => (zi r167.2 a2 18).bind (fun _ => (zf_X18_nameOf N a2 v168 r167.2).bind (fun r170 => (zi r170.2 a2 18).bind (fun _ => (zf_X18_thrown N a2 r170.2).bind (fun r172 => if r172.1 = r167.1 then if r167.1 = 0 then (za_l r172.2 a3 (0 : Int32)).bind (fun w173 => if (lg_cmp w173 ((r170.1).toInt64)) = 0 then k a0 a1 a2 a3 (i4 + (7 : Int32)) (rc - 2) (rs - 12) r172.2 else none) else k a0 a1 a2 a3 (i4 + (7 : Int32)) (rc - 2) (rs - 12) r172.2 else none)))))) else none)
set_option maxHeartbeats 4000000 in
set_option maxRecDepth 100000 in
theorem zt_L_law_J1247 {p : Program} {l : Launch} {e : Env} {s : State} {m : MethodId} {zb : Nat} {below : List Frame} {meth : Method} {c : Code} {V : zm_V} {d : Nat} {nm : String} (hlt : l.stackTraces = false) (hV : V.2.2.2.1 = s.heap.size) (hX : zm_X p room_1 s m #[Value.ref zb] meth c RL nm cL_law 8 zk_E V 601024 7293034) (hr : meth.sig.returnType = ret) (hR : d ≤ room_1.frames ∧ 64 * d ≤ room_1.locals) (hd : 46 ≤ d) {N : Nat} {k : Nat → Nat → Nat → Nat → Int32 → Nat → Nat → zm_S → Option ((Int32 × zm_S) ⊕ ((Unit) × zm_S))} {rc rs : Nat} {a0 : Nat} {a1 : Nat} {a2 : Nat} {a3 : Nat} {i4 : Int32} {res : (Int32 × zm_S) ⊕ ((Unit) × zm_S)} {out : (Int32 × zm_S)}   (hf : ∀ o, res = .inl o → o = out) (hk : ∀ (S' : zm_S) (rc rs : Nat), res = .inr ((), S') → zw p l e room_1 s m #[Value.ref zb] below meth c (lw_Z below #[Value.ref zb] s) 8 zk_E V 601024 7293034 6008 [] [] S' rc rs) (hrec : ∀ (i4' : Int32) (rc rs : Nat) (S : zm_S), k a0 a1 a2 a3 i4' rc rs S = some res → zw p l e room_1 s m #[Value.ref zb] below meth c (lw_Z below #[Value.ref zb] s) 8 zk_E V 601024 7293034 23 [(0, .ref a0), (1, .ref a1), (2, .ref a2), (3, .ref a3), (4, .int i4')] [] S rc rs) {S : zm_S} (h : zf_L_law_J1247 N k a0 a1 a2 a3 i4 rc rs S = some res) : zw p l e room_1 s m #[Value.ref zb] below meth c (lw_Z below #[Value.ref zb] s) 8 zk_E V 601024 7293034 1247 [(0, .ref a0), (1, .ref a1), (2, .ref a2), (3, .ref a3), (4, .int i4)] [] S rc rs := by
  unfold zf_L_law_J1247 at h
  refine zw_aload_n hX dL_law_1247 rfl ?_
  refine zw_aload_n hX dL_law_1248 rfl ?_
  refine zw_iload hX dL_law_1249 rfl ?_
  refine zw_iconst (v := (1 : Int32)) hX dL_law_1251 (by decide) ?_
  refine zw_iadd hX dL_law_1252 ?_
  obtain ⟨v164, g, h⟩ := zb_some h
  refine zw_xi hX dL_law_1253 g ?_
  refine zw_aload_n hX dL_law_1254 rfl ?_
  by_cases hb1255 : 2 ≤ rc ∧ 12 ≤ rs
  · rw [if_pos hb1255] at h
    obtain ⟨r167, g, h⟩ := zb_some h
    refine zc_S (as := [.ref a1, .int v164, .ref a3]) hX (zt_L_nameOf hlt (d := d - 1) (by omega) g) zl_L_321 dL_law_1255 ⟨rfl, rfl, Nat.le_of_ble_eq_true rfl⟩ ⟨by omega, by omega⟩ hb1255 ?_ ?_
    · rintro _ _ ⟨rfl, rfl⟩
      refine zw_istore hX dL_law_1258 (by decide) ?_
      refine zw_aload_n hX dL_law_1260 rfl ?_
      refine zw_aload_n hX dL_law_1261 rfl ?_
      refine zw_iload hX dL_law_1262 rfl ?_
      refine zw_iconst (v := (1 : Int32)) hX dL_law_1264 (by decide) ?_
      refine zw_iadd hX dL_law_1265 ?_
      obtain ⟨v168, g, h⟩ := zb_some h
      refine zw_xi hX dL_law_1266 g ?_
      obtain ⟨_, gi, h⟩ := zb_some h
      obtain ⟨r170, g, h⟩ := zb_some h
      refine zc_Vi (as := [.int v168]) hX gi (zt_X18_nameOf (d := d - 1) (by omega) g) zl_L_323 rfl dL_law_1267 ⟨rfl, rfl, Nat.le_of_ble_eq_true rfl⟩ ⟨by omega, by omega⟩ ?_
      refine zw_istore hX dL_law_1270 (by decide) ?_
      refine zw_aload_n hX dL_law_1272 rfl ?_
      obtain ⟨_, gi, h⟩ := zb_some h
      obtain ⟨r172, g, h⟩ := zb_some h
      refine zc_Vi (as := []) hX gi (zt_X18_thrown (d := d - 1) (by omega) g) zl_L_281 rfl dL_law_1273 ⟨rfl, rfl, Nat.le_of_ble_eq_true rfl⟩ ⟨by omega, by omega⟩ ?_
      refine zw_iload hX dL_law_1276 rfl ?_
      refine zw_icmp_eq (tgt := 1283) hX dL_law_1278 (by decide) (fun c1278 => ?_) (fun c1278 => ?_)
      · rw [if_pos c1278] at h
        refine zw_iload hX dL_law_1283 rfl ?_
        refine zw_if_ne (tgt := 1300) hX dL_law_1285 (by decide) (fun c1285 => ?_) (fun c1285 => ?_)
        · rw [if_neg c1285] at h
          refine zw_goto (tgt := 6002) hX dL_law_1300 (by decide) ?_
          refine zw_iinc (v := (i4 + (7 : Int32))) hX dL_law_6002 rfl rfl (by decide) ?_
          refine zw_goto (tgt := 23) hX dL_law_6005 (by decide) ?_
          refine zw_sub (lv' := [(0, .ref a0), (1, .ref a1), (2, .ref a2), (3, .ref a3), (4, .int (i4 + (7 : Int32)))]) (List.forall_mem_cons.mpr ⟨rfl, (List.forall_mem_cons.mpr ⟨rfl, (List.forall_mem_cons.mpr ⟨rfl, (List.forall_mem_cons.mpr ⟨rfl, (List.forall_mem_cons.mpr ⟨rfl, zs_nil⟩)⟩)⟩)⟩)⟩) ?_
          exact hrec _ _ _ _ h
        · rw [if_pos c1285] at h
          refine zw_aload_n hX dL_law_1288 rfl ?_
          refine zw_iconst (v := (0 : Int32)) hX dL_law_1289 (by decide) ?_
          obtain ⟨w173, g, h⟩ := zb_some h
          refine zw_xl hX dL_law_1290 g ?_
          refine zw_iload hX dL_law_1291 rfl ?_
          refine zw_i2l hX dL_law_1293 ?_
          refine zw_lcmp hX dL_law_1294 ?_
          refine zw_if_eq (tgt := 1300) hX dL_law_1295 (by decide) (fun c1295 => ?_) (fun c1295 => ?_)
          · rw [if_pos c1295] at h
            refine zw_goto (tgt := 6002) hX dL_law_1300 (by decide) ?_
            refine zw_iinc (v := (i4 + (7 : Int32))) hX dL_law_6002 rfl rfl (by decide) ?_
            refine zw_goto (tgt := 23) hX dL_law_6005 (by decide) ?_
            refine zw_sub (lv' := [(0, .ref a0), (1, .ref a1), (2, .ref a2), (3, .ref a3), (4, .int (i4 + (7 : Int32)))]) (List.forall_mem_cons.mpr ⟨rfl, (List.forall_mem_cons.mpr ⟨rfl, (List.forall_mem_cons.mpr ⟨rfl, (List.forall_mem_cons.mpr ⟨rfl, (List.forall_mem_cons.mpr ⟨rfl, zs_nil⟩)⟩)⟩)⟩)⟩) ?_
            exact hrec _ _ _ _ h
          · rw [if_neg c1295] at h
            refine zw_iconst (v := (0 : Int32)) hX dL_law_1298 (by decide) ?_
            cases h
      · rw [if_neg c1278] at h
        refine zw_iconst (v := (0 : Int32)) hX dL_law_1281 (by decide) ?_
        cases h
    · intro _ _ hx
      exact hx.elim
  · rw [if_neg hb1255] at h
    cases h
def zf_L_law_J1303 (N : Nat) (k : Nat → Nat → Nat → Nat → Int32 → Nat → Nat → zm_S → Option ((Int32 × zm_S) ⊕ ((Unit) × zm_S))) (a0 : Nat) (a1 : Nat) (a2 : Nat) (a3 : Nat) (i4 : Int32) (rc rs : Nat) (S : zm_S) : Option ((Int32 × zm_S) ⊕ ((Unit) × zm_S)) := (za_x S 0 a0 (i4 + (1 : Int32))).bind (fun v174 => (za_x S 0 a0 (i4 + (2 : Int32))).bind (fun v175 => if 2 ≤ rc ∧ 12 ≤ rs then (zf_L_say N a1 (((v174).toInt64 <<< (((32 : Int32)).toInt64 &&& 63)) ||| ((v175).toInt64 &&& (4294967295 : Int64))) a3 S).bind (fun r178 => (za_x r178.2 0 a0 (i4 + (1 : Int32))).bind (fun v179 => (za_x r178.2 0 a0 (i4 + (2 : Int32))).bind (fun v180 => (zi r178.2 a2 18).bind (fun _ => (zf_X18_say N a2 (((v179).toInt64 <<< (((32 : Int32)).toInt64 &&& 63)) ||| ((v180).toInt64 &&& (4294967295 : Int64))) r178.2).bind (fun r182 => (zi r182.2 a2 18).bind (fun _ => (zf_X18_thrown N a2 r182.2).bind (fun r184 => if r184.1 = r178.1 then if r178.1 = 0 then (za_l r184.2 a3 (0 : Int32)).bind (fun w185 => if (lg_cmp w185 ((r182.1).toInt64)) = 0 then k a0 a1 a2 a3 (i4 + (7 : Int32)) (rc - 2) (rs - 12) r184.2 else none) else k a0 a1 a2 a3 (i4 + (7 : Int32)) (rc - 2) (rs - 12) r184.2 else none))))))) else none))
set_option maxHeartbeats 4000000 in
set_option maxRecDepth 100000 in
theorem zt_L_law_J1303 {p : Program} {l : Launch} {e : Env} {s : State} {m : MethodId} {zb : Nat} {below : List Frame} {meth : Method} {c : Code} {V : zm_V} {d : Nat} {nm : String} (hlt : l.stackTraces = false) (hV : V.2.2.2.1 = s.heap.size) (hX : zm_X p room_1 s m #[Value.ref zb] meth c RL nm cL_law 8 zk_E V 601024 7293034) (hr : meth.sig.returnType = ret) (hR : d ≤ room_1.frames ∧ 64 * d ≤ room_1.locals) (hd : 46 ≤ d) {N : Nat} {k : Nat → Nat → Nat → Nat → Int32 → Nat → Nat → zm_S → Option ((Int32 × zm_S) ⊕ ((Unit) × zm_S))} {rc rs : Nat} {a0 : Nat} {a1 : Nat} {a2 : Nat} {a3 : Nat} {i4 : Int32} {res : (Int32 × zm_S) ⊕ ((Unit) × zm_S)} {out : (Int32 × zm_S)}   (hf : ∀ o, res = .inl o → o = out) (hk : ∀ (S' : zm_S) (rc rs : Nat), res = .inr ((), S') → zw p l e room_1 s m #[Value.ref zb] below meth c (lw_Z below #[Value.ref zb] s) 8 zk_E V 601024 7293034 6008 [] [] S' rc rs) (hrec : ∀ (i4' : Int32) (rc rs : Nat) (S : zm_S), k a0 a1 a2 a3 i4' rc rs S = some res → zw p l e room_1 s m #[Value.ref zb] below meth c (lw_Z below #[Value.ref zb] s) 8 zk_E V 601024 7293034 23 [(0, .ref a0), (1, .ref a1), (2, .ref a2), (3, .ref a3), (4, .int i4')] [] S rc rs) {S : zm_S} (h : zf_L_law_J1303 N k a0 a1 a2 a3 i4 rc rs S = some res) : zw p l e room_1 s m #[Value.ref zb] below meth c (lw_Z below #[Value.ref zb] s) 8 zk_E V 601024 7293034 1303 [(0, .ref a0), (1, .ref a1), (2, .ref a2), (3, .ref a3), (4, .int i4)] [] S rc rs := by
  unfold zf_L_law_J1303 at h
  refine zw_aload_n hX dL_law_1303 rfl ?_
  refine zw_aload_n hX dL_law_1304 rfl ?_
  refine zw_iload hX dL_law_1305 rfl ?_
  refine zw_iconst (v := (1 : Int32)) hX dL_law_1307 (by decide) ?_
  refine zw_iadd hX dL_law_1308 ?_
  obtain ⟨v174, g, h⟩ := zb_some h
  refine zw_xi hX dL_law_1309 g ?_
  refine zw_i2l hX dL_law_1310 ?_
  refine zw_bipush (v := (32 : Int32)) hX dL_law_1311 (by decide) ?_
  refine zw_lshl hX dL_law_1313 ?_
  refine zw_aload_n hX dL_law_1314 rfl ?_
  refine zw_iload hX dL_law_1315 rfl ?_
  refine zw_iconst (v := (2 : Int32)) hX dL_law_1317 (by decide) ?_
  refine zw_iadd hX dL_law_1318 ?_
  obtain ⟨v175, g, h⟩ := zb_some h
  refine zw_xi hX dL_law_1319 g ?_
  refine zw_i2l hX dL_law_1320 ?_
  refine zw_ldc2 (v := (4294967295 : Int64)) hX dL_law_1321 zl_L_324 ?_
  refine zw_land hX dL_law_1324 ?_
  refine zw_lor hX dL_law_1325 ?_
  refine zw_aload_n hX dL_law_1326 rfl ?_
  by_cases hb1327 : 2 ≤ rc ∧ 12 ≤ rs
  · rw [if_pos hb1327] at h
    obtain ⟨r178, g, h⟩ := zb_some h
    refine zc_S (as := [.ref a1, .long (((v174).toInt64 <<< (((32 : Int32)).toInt64 &&& 63)) ||| ((v175).toInt64 &&& (4294967295 : Int64))), .ref a3]) hX (zt_L_say hlt (d := d - 1) (by omega) g) zl_L_326 dL_law_1327 ⟨rfl, rfl, Nat.le_of_ble_eq_true rfl⟩ ⟨by omega, by omega⟩ hb1327 ?_ ?_
    · rintro _ _ ⟨rfl, rfl⟩
      refine zw_istore hX dL_law_1330 (by decide) ?_
      refine zw_aload_n hX dL_law_1332 rfl ?_
      refine zw_aload_n hX dL_law_1333 rfl ?_
      refine zw_iload hX dL_law_1334 rfl ?_
      refine zw_iconst (v := (1 : Int32)) hX dL_law_1336 (by decide) ?_
      refine zw_iadd hX dL_law_1337 ?_
      obtain ⟨v179, g, h⟩ := zb_some h
      refine zw_xi hX dL_law_1338 g ?_
      refine zw_i2l hX dL_law_1339 ?_
      refine zw_bipush (v := (32 : Int32)) hX dL_law_1340 (by decide) ?_
      refine zw_lshl hX dL_law_1342 ?_
      refine zw_aload_n hX dL_law_1343 rfl ?_
      refine zw_iload hX dL_law_1344 rfl ?_
      refine zw_iconst (v := (2 : Int32)) hX dL_law_1346 (by decide) ?_
      refine zw_iadd hX dL_law_1347 ?_
      obtain ⟨v180, g, h⟩ := zb_some h
      refine zw_xi hX dL_law_1348 g ?_
      refine zw_i2l hX dL_law_1349 ?_
      refine zw_ldc2 (v := (4294967295 : Int64)) hX dL_law_1350 zl_L_324 ?_
      refine zw_land hX dL_law_1353 ?_
      refine zw_lor hX dL_law_1354 ?_
      obtain ⟨_, gi, h⟩ := zb_some h
      obtain ⟨r182, g, h⟩ := zb_some h
      refine zc_Vi (as := [.long (((v179).toInt64 <<< (((32 : Int32)).toInt64 &&& 63)) ||| ((v180).toInt64 &&& (4294967295 : Int64)))]) hX gi (zt_X18_say (d := d - 1) (by omega) g) zl_L_329 rfl dL_law_1355 ⟨rfl, rfl, Nat.le_of_ble_eq_true rfl⟩ ⟨by omega, by omega⟩ ?_
      refine zw_istore hX dL_law_1358 (by decide) ?_
      refine zw_aload_n hX dL_law_1360 rfl ?_
      obtain ⟨_, gi, h⟩ := zb_some h
      obtain ⟨r184, g, h⟩ := zb_some h
      refine zc_Vi (as := []) hX gi (zt_X18_thrown (d := d - 1) (by omega) g) zl_L_281 rfl dL_law_1361 ⟨rfl, rfl, Nat.le_of_ble_eq_true rfl⟩ ⟨by omega, by omega⟩ ?_
      refine zw_iload hX dL_law_1364 rfl ?_
      refine zw_icmp_eq (tgt := 1371) hX dL_law_1366 (by decide) (fun c1366 => ?_) (fun c1366 => ?_)
      · rw [if_pos c1366] at h
        refine zw_iload hX dL_law_1371 rfl ?_
        refine zw_if_ne (tgt := 1388) hX dL_law_1373 (by decide) (fun c1373 => ?_) (fun c1373 => ?_)
        · rw [if_neg c1373] at h
          refine zw_goto (tgt := 6002) hX dL_law_1388 (by decide) ?_
          refine zw_iinc (v := (i4 + (7 : Int32))) hX dL_law_6002 rfl rfl (by decide) ?_
          refine zw_goto (tgt := 23) hX dL_law_6005 (by decide) ?_
          refine zw_sub (lv' := [(0, .ref a0), (1, .ref a1), (2, .ref a2), (3, .ref a3), (4, .int (i4 + (7 : Int32)))]) (List.forall_mem_cons.mpr ⟨rfl, (List.forall_mem_cons.mpr ⟨rfl, (List.forall_mem_cons.mpr ⟨rfl, (List.forall_mem_cons.mpr ⟨rfl, (List.forall_mem_cons.mpr ⟨rfl, zs_nil⟩)⟩)⟩)⟩)⟩) ?_
          exact hrec _ _ _ _ h
        · rw [if_pos c1373] at h
          refine zw_aload_n hX dL_law_1376 rfl ?_
          refine zw_iconst (v := (0 : Int32)) hX dL_law_1377 (by decide) ?_
          obtain ⟨w185, g, h⟩ := zb_some h
          refine zw_xl hX dL_law_1378 g ?_
          refine zw_iload hX dL_law_1379 rfl ?_
          refine zw_i2l hX dL_law_1381 ?_
          refine zw_lcmp hX dL_law_1382 ?_
          refine zw_if_eq (tgt := 1388) hX dL_law_1383 (by decide) (fun c1383 => ?_) (fun c1383 => ?_)
          · rw [if_pos c1383] at h
            refine zw_goto (tgt := 6002) hX dL_law_1388 (by decide) ?_
            refine zw_iinc (v := (i4 + (7 : Int32))) hX dL_law_6002 rfl rfl (by decide) ?_
            refine zw_goto (tgt := 23) hX dL_law_6005 (by decide) ?_
            refine zw_sub (lv' := [(0, .ref a0), (1, .ref a1), (2, .ref a2), (3, .ref a3), (4, .int (i4 + (7 : Int32)))]) (List.forall_mem_cons.mpr ⟨rfl, (List.forall_mem_cons.mpr ⟨rfl, (List.forall_mem_cons.mpr ⟨rfl, (List.forall_mem_cons.mpr ⟨rfl, (List.forall_mem_cons.mpr ⟨rfl, zs_nil⟩)⟩)⟩)⟩)⟩) ?_
            exact hrec _ _ _ _ h
          · rw [if_neg c1383] at h
            refine zw_iconst (v := (0 : Int32)) hX dL_law_1386 (by decide) ?_
            cases h
      · rw [if_neg c1366] at h
        refine zw_iconst (v := (0 : Int32)) hX dL_law_1369 (by decide) ?_
        cases h
    · intro _ _ hx
      exact hx.elim
  · rw [if_neg hb1327] at h
    cases h
def zf_L_law_J1391 (N : Nat) (k : Nat → Nat → Nat → Nat → Int32 → Nat → Nat → zm_S → Option ((Int32 × zm_S) ⊕ ((Unit) × zm_S))) (a0 : Nat) (a1 : Nat) (a2 : Nat) (a3 : Nat) (i4 : Int32) (rc rs : Nat) (S : zm_S) : Option ((Int32 × zm_S) ⊕ ((Unit) × zm_S)) := (za_x S 0 a0 (i4 + (1 : Int32))).bind (fun v186 => if 1 ≤ rc ∧ 6 ≤ rs then (zf_L_trim N a1 v186 a3 S).bind (fun r189 => (za_x r189.2 0 a0 (i4 + (1 : Int32))).bind (fun v190 => (zi r189.2 a2 18).bind (fun _ => (zf_X18_trim N a2 v190 r189.2).bind (fun r192 => (zi r192.2 a2 18).bind (fun _ => (zf_X18_thrown N a2 r192.2).bind (fun r194 => if r194.1 = r189.1 then if r189.1 = 0 then (za_l r194.2 a3 (0 : Int32)).bind (fun w195 => if (lg_cmp w195 ((r192.1).toInt64)) = 0 then k a0 a1 a2 a3 (i4 + (7 : Int32)) (rc - 1) (rs - 6) r194.2 else none) else k a0 a1 a2 a3 (i4 + (7 : Int32)) (rc - 1) (rs - 6) r194.2 else none)))))) else none)
set_option maxHeartbeats 4000000 in
set_option maxRecDepth 100000 in
theorem zt_L_law_J1391 {p : Program} {l : Launch} {e : Env} {s : State} {m : MethodId} {zb : Nat} {below : List Frame} {meth : Method} {c : Code} {V : zm_V} {d : Nat} {nm : String} (hlt : l.stackTraces = false) (hV : V.2.2.2.1 = s.heap.size) (hX : zm_X p room_1 s m #[Value.ref zb] meth c RL nm cL_law 8 zk_E V 601024 7293034) (hr : meth.sig.returnType = ret) (hR : d ≤ room_1.frames ∧ 64 * d ≤ room_1.locals) (hd : 46 ≤ d) {N : Nat} {k : Nat → Nat → Nat → Nat → Int32 → Nat → Nat → zm_S → Option ((Int32 × zm_S) ⊕ ((Unit) × zm_S))} {rc rs : Nat} {a0 : Nat} {a1 : Nat} {a2 : Nat} {a3 : Nat} {i4 : Int32} {res : (Int32 × zm_S) ⊕ ((Unit) × zm_S)} {out : (Int32 × zm_S)}   (hf : ∀ o, res = .inl o → o = out) (hk : ∀ (S' : zm_S) (rc rs : Nat), res = .inr ((), S') → zw p l e room_1 s m #[Value.ref zb] below meth c (lw_Z below #[Value.ref zb] s) 8 zk_E V 601024 7293034 6008 [] [] S' rc rs) (hrec : ∀ (i4' : Int32) (rc rs : Nat) (S : zm_S), k a0 a1 a2 a3 i4' rc rs S = some res → zw p l e room_1 s m #[Value.ref zb] below meth c (lw_Z below #[Value.ref zb] s) 8 zk_E V 601024 7293034 23 [(0, .ref a0), (1, .ref a1), (2, .ref a2), (3, .ref a3), (4, .int i4')] [] S rc rs) {S : zm_S} (h : zf_L_law_J1391 N k a0 a1 a2 a3 i4 rc rs S = some res) : zw p l e room_1 s m #[Value.ref zb] below meth c (lw_Z below #[Value.ref zb] s) 8 zk_E V 601024 7293034 1391 [(0, .ref a0), (1, .ref a1), (2, .ref a2), (3, .ref a3), (4, .int i4)] [] S rc rs := by
  unfold zf_L_law_J1391 at h
  refine zw_aload_n hX dL_law_1391 rfl ?_
  refine zw_aload_n hX dL_law_1392 rfl ?_
  refine zw_iload hX dL_law_1393 rfl ?_
  refine zw_iconst (v := (1 : Int32)) hX dL_law_1395 (by decide) ?_
  refine zw_iadd hX dL_law_1396 ?_
  obtain ⟨v186, g, h⟩ := zb_some h
  refine zw_xi hX dL_law_1397 g ?_
  refine zw_aload_n hX dL_law_1398 rfl ?_
  by_cases hb1399 : 1 ≤ rc ∧ 6 ≤ rs
  · rw [if_pos hb1399] at h
    obtain ⟨r189, g, h⟩ := zb_some h
    refine zc_S (as := [.ref a1, .int v186, .ref a3]) hX (zt_L_trim hlt (d := d - 1) (by omega) g) zl_L_330 dL_law_1399 ⟨rfl, rfl, Nat.le_of_ble_eq_true rfl⟩ ⟨by omega, by omega⟩ hb1399 ?_ ?_
    · rintro _ _ ⟨rfl, rfl⟩
      refine zw_istore hX dL_law_1402 (by decide) ?_
      refine zw_aload_n hX dL_law_1404 rfl ?_
      refine zw_aload_n hX dL_law_1405 rfl ?_
      refine zw_iload hX dL_law_1406 rfl ?_
      refine zw_iconst (v := (1 : Int32)) hX dL_law_1408 (by decide) ?_
      refine zw_iadd hX dL_law_1409 ?_
      obtain ⟨v190, g, h⟩ := zb_some h
      refine zw_xi hX dL_law_1410 g ?_
      obtain ⟨_, gi, h⟩ := zb_some h
      obtain ⟨r192, g, h⟩ := zb_some h
      refine zc_Vi (as := [.int v190]) hX gi (zt_X18_trim (d := d - 1) (by omega) g) zl_L_332 rfl dL_law_1411 ⟨rfl, rfl, Nat.le_of_ble_eq_true rfl⟩ ⟨by omega, by omega⟩ ?_
      refine zw_istore hX dL_law_1414 (by decide) ?_
      refine zw_aload_n hX dL_law_1416 rfl ?_
      obtain ⟨_, gi, h⟩ := zb_some h
      obtain ⟨r194, g, h⟩ := zb_some h
      refine zc_Vi (as := []) hX gi (zt_X18_thrown (d := d - 1) (by omega) g) zl_L_281 rfl dL_law_1417 ⟨rfl, rfl, Nat.le_of_ble_eq_true rfl⟩ ⟨by omega, by omega⟩ ?_
      refine zw_iload hX dL_law_1420 rfl ?_
      refine zw_icmp_eq (tgt := 1427) hX dL_law_1422 (by decide) (fun c1422 => ?_) (fun c1422 => ?_)
      · rw [if_pos c1422] at h
        refine zw_iload hX dL_law_1427 rfl ?_
        refine zw_if_ne (tgt := 1444) hX dL_law_1429 (by decide) (fun c1429 => ?_) (fun c1429 => ?_)
        · rw [if_neg c1429] at h
          refine zw_goto (tgt := 6002) hX dL_law_1444 (by decide) ?_
          refine zw_iinc (v := (i4 + (7 : Int32))) hX dL_law_6002 rfl rfl (by decide) ?_
          refine zw_goto (tgt := 23) hX dL_law_6005 (by decide) ?_
          refine zw_sub (lv' := [(0, .ref a0), (1, .ref a1), (2, .ref a2), (3, .ref a3), (4, .int (i4 + (7 : Int32)))]) (List.forall_mem_cons.mpr ⟨rfl, (List.forall_mem_cons.mpr ⟨rfl, (List.forall_mem_cons.mpr ⟨rfl, (List.forall_mem_cons.mpr ⟨rfl, (List.forall_mem_cons.mpr ⟨rfl, zs_nil⟩)⟩)⟩)⟩)⟩) ?_
          exact hrec _ _ _ _ h
        · rw [if_pos c1429] at h
          refine zw_aload_n hX dL_law_1432 rfl ?_
          refine zw_iconst (v := (0 : Int32)) hX dL_law_1433 (by decide) ?_
          obtain ⟨w195, g, h⟩ := zb_some h
          refine zw_xl hX dL_law_1434 g ?_
          refine zw_iload hX dL_law_1435 rfl ?_
          refine zw_i2l hX dL_law_1437 ?_
          refine zw_lcmp hX dL_law_1438 ?_
          refine zw_if_eq (tgt := 1444) hX dL_law_1439 (by decide) (fun c1439 => ?_) (fun c1439 => ?_)
          · rw [if_pos c1439] at h
            refine zw_goto (tgt := 6002) hX dL_law_1444 (by decide) ?_
            refine zw_iinc (v := (i4 + (7 : Int32))) hX dL_law_6002 rfl rfl (by decide) ?_
            refine zw_goto (tgt := 23) hX dL_law_6005 (by decide) ?_
            refine zw_sub (lv' := [(0, .ref a0), (1, .ref a1), (2, .ref a2), (3, .ref a3), (4, .int (i4 + (7 : Int32)))]) (List.forall_mem_cons.mpr ⟨rfl, (List.forall_mem_cons.mpr ⟨rfl, (List.forall_mem_cons.mpr ⟨rfl, (List.forall_mem_cons.mpr ⟨rfl, (List.forall_mem_cons.mpr ⟨rfl, zs_nil⟩)⟩)⟩)⟩)⟩) ?_
            exact hrec _ _ _ _ h
          · rw [if_neg c1439] at h
            refine zw_iconst (v := (0 : Int32)) hX dL_law_1442 (by decide) ?_
            cases h
      · rw [if_neg c1422] at h
        refine zw_iconst (v := (0 : Int32)) hX dL_law_1425 (by decide) ?_
        cases h
    · intro _ _ hx
      exact hx.elim
  · rw [if_neg hb1399] at h
    cases h
def zf_L_law_J1447 (N : Nat) (k : Nat → Nat → Nat → Nat → Int32 → Nat → Nat → zm_S → Option ((Int32 × zm_S) ⊕ ((Unit) × zm_S))) (a0 : Nat) (a1 : Nat) (a2 : Nat) (a3 : Nat) (i4 : Int32) (rc rs : Nat) (S : zm_S) : Option ((Int32 × zm_S) ⊕ ((Unit) × zm_S)) := (zi S a1 11).bind (fun _ => (zf_X11_rules N a1 S).bind (fun r197 => (zi r197.2 a2 18).bind (fun _ => (zf_X18_rules N a2 r197.2).bind (fun r199 => if r197.1 = r199.1 then k a0 a1 a2 a3 (i4 + (7 : Int32)) rc rs r199.2 else none))))
set_option maxHeartbeats 4000000 in
set_option maxRecDepth 100000 in
theorem zt_L_law_J1447 {p : Program} {l : Launch} {e : Env} {s : State} {m : MethodId} {zb : Nat} {below : List Frame} {meth : Method} {c : Code} {V : zm_V} {d : Nat} {nm : String} (hlt : l.stackTraces = false) (hV : V.2.2.2.1 = s.heap.size) (hX : zm_X p room_1 s m #[Value.ref zb] meth c RL nm cL_law 8 zk_E V 601024 7293034) (hr : meth.sig.returnType = ret) (hR : d ≤ room_1.frames ∧ 64 * d ≤ room_1.locals) (hd : 46 ≤ d) {N : Nat} {k : Nat → Nat → Nat → Nat → Int32 → Nat → Nat → zm_S → Option ((Int32 × zm_S) ⊕ ((Unit) × zm_S))} {rc rs : Nat} {a0 : Nat} {a1 : Nat} {a2 : Nat} {a3 : Nat} {i4 : Int32} {res : (Int32 × zm_S) ⊕ ((Unit) × zm_S)} {out : (Int32 × zm_S)}   (hf : ∀ o, res = .inl o → o = out) (hk : ∀ (S' : zm_S) (rc rs : Nat), res = .inr ((), S') → zw p l e room_1 s m #[Value.ref zb] below meth c (lw_Z below #[Value.ref zb] s) 8 zk_E V 601024 7293034 6008 [] [] S' rc rs) (hrec : ∀ (i4' : Int32) (rc rs : Nat) (S : zm_S), k a0 a1 a2 a3 i4' rc rs S = some res → zw p l e room_1 s m #[Value.ref zb] below meth c (lw_Z below #[Value.ref zb] s) 8 zk_E V 601024 7293034 23 [(0, .ref a0), (1, .ref a1), (2, .ref a2), (3, .ref a3), (4, .int i4')] [] S rc rs) {S : zm_S} (h : zf_L_law_J1447 N k a0 a1 a2 a3 i4 rc rs S = some res) : zw p l e room_1 s m #[Value.ref zb] below meth c (lw_Z below #[Value.ref zb] s) 8 zk_E V 601024 7293034 1447 [(0, .ref a0), (1, .ref a1), (2, .ref a2), (3, .ref a3), (4, .int i4)] [] S rc rs := by
  unfold zf_L_law_J1447 at h
  refine zw_aload_n hX dL_law_1447 rfl ?_
  obtain ⟨_, gi, h⟩ := zb_some h
  obtain ⟨r197, g, h⟩ := zb_some h
  refine zc_Vi (as := []) hX gi (zt_X11_rules (d := d - 1) (by omega) g) zl_L_333 rfl dL_law_1448 ⟨rfl, rfl, Nat.le_of_ble_eq_true rfl⟩ ⟨by omega, by omega⟩ ?_
  refine zw_aload_n hX dL_law_1451 rfl ?_
  obtain ⟨_, gi, h⟩ := zb_some h
  obtain ⟨r199, g, h⟩ := zb_some h
  refine zc_Vi (as := []) hX gi (zt_X18_rules (d := d - 1) (by omega) g) zl_L_336 rfl dL_law_1452 ⟨rfl, rfl, Nat.le_of_ble_eq_true rfl⟩ ⟨by omega, by omega⟩ ?_
  refine zw_icmp_eq (tgt := 6002) hX dL_law_1455 (by decide) (fun c1455 => ?_) (fun c1455 => ?_)
  · rw [if_pos c1455] at h
    refine zw_iinc (v := (i4 + (7 : Int32))) hX dL_law_6002 rfl rfl (by decide) ?_
    refine zw_goto (tgt := 23) hX dL_law_6005 (by decide) ?_
    refine zw_sub (lv' := [(0, .ref a0), (1, .ref a1), (2, .ref a2), (3, .ref a3), (4, .int (i4 + (7 : Int32)))]) (List.forall_mem_cons.mpr ⟨rfl, (List.forall_mem_cons.mpr ⟨rfl, (List.forall_mem_cons.mpr ⟨rfl, (List.forall_mem_cons.mpr ⟨rfl, (List.forall_mem_cons.mpr ⟨rfl, zs_nil⟩)⟩)⟩)⟩)⟩) ?_
    exact hrec _ _ _ _ h
  · rw [if_neg c1455] at h
    refine zw_iconst (v := (0 : Int32)) hX dL_law_1458 (by decide) ?_
    cases h
def zf_L_law_J1460 (N : Nat) (k : Nat → Nat → Nat → Nat → Int32 → Nat → Nat → zm_S → Option ((Int32 × zm_S) ⊕ ((Unit) × zm_S))) (a0 : Nat) (a1 : Nat) (a2 : Nat) (a3 : Nat) (i4 : Int32) (rc rs : Nat) (S : zm_S) : Option ((Int32 × zm_S) ⊕ ((Unit) × zm_S)) := (za_x S 0 a0 (i4 + (1 : Int32))).bind (fun v200 => (za_x S 0 a0 (i4 + (2 : Int32))).bind (fun v201 => (za_x S 0 a0 (i4 + (3 : Int32))).bind (fun v202 => if 2 ≤ rc ∧ 12 ≤ rs then (zf_L_fact N a1 (((v200).toInt64 <<< (((32 : Int32)).toInt64 &&& 63)) ||| ((v201).toInt64 &&& (4294967295 : Int64))) v202 a3 S).bind (fun r205 => (za_x r205.2 0 a0 (i4 + (1 : Int32))).bind (fun v206 => (za_x r205.2 0 a0 (i4 + (2 : Int32))).bind (fun v207 => (za_x r205.2 0 a0 (i4 + (3 : Int32))).bind (fun v208 => (zi r205.2 a2 18).bind (fun _ => (zf_X18_fact N a2 (((v206).toInt64 <<< (((32 : Int32)).toInt64 &&& 63)) ||| ((v207).toInt64 &&& (4294967295 : Int64))) v208 r205.2).bind (fun r210 => (zi r210.2 a2 18).bind (fun _ => (zf_X18_thrown N a2 r210.2).bind (fun r212 => if r212.1 = r205.1 then if r205.1 = 0 then (za_l r212.2 a3 (0 : Int32)).bind (fun w213 => if (lg_cmp w213 r210.1) = 0 then k a0 a1 a2 a3 (i4 + (7 : Int32)) (rc - 2) (rs - 12) r212.2 else none) else k a0 a1 a2 a3 (i4 + (7 : Int32)) (rc - 2) (rs - 12) r212.2 else none)))))))) else none)))
set_option maxHeartbeats 4000000 in
set_option maxRecDepth 100000 in
theorem zt_L_law_J1460 {p : Program} {l : Launch} {e : Env} {s : State} {m : MethodId} {zb : Nat} {below : List Frame} {meth : Method} {c : Code} {V : zm_V} {d : Nat} {nm : String} (hlt : l.stackTraces = false) (hV : V.2.2.2.1 = s.heap.size) (hX : zm_X p room_1 s m #[Value.ref zb] meth c RL nm cL_law 8 zk_E V 601024 7293034) (hr : meth.sig.returnType = ret) (hR : d ≤ room_1.frames ∧ 64 * d ≤ room_1.locals) (hd : 46 ≤ d) {N : Nat} {k : Nat → Nat → Nat → Nat → Int32 → Nat → Nat → zm_S → Option ((Int32 × zm_S) ⊕ ((Unit) × zm_S))} {rc rs : Nat} {a0 : Nat} {a1 : Nat} {a2 : Nat} {a3 : Nat} {i4 : Int32} {res : (Int32 × zm_S) ⊕ ((Unit) × zm_S)} {out : (Int32 × zm_S)}   (hf : ∀ o, res = .inl o → o = out) (hk : ∀ (S' : zm_S) (rc rs : Nat), res = .inr ((), S') → zw p l e room_1 s m #[Value.ref zb] below meth c (lw_Z below #[Value.ref zb] s) 8 zk_E V 601024 7293034 6008 [] [] S' rc rs) (hrec : ∀ (i4' : Int32) (rc rs : Nat) (S : zm_S), k a0 a1 a2 a3 i4' rc rs S = some res → zw p l e room_1 s m #[Value.ref zb] below meth c (lw_Z below #[Value.ref zb] s) 8 zk_E V 601024 7293034 23 [(0, .ref a0), (1, .ref a1), (2, .ref a2), (3, .ref a3), (4, .int i4')] [] S rc rs) {S : zm_S} (h : zf_L_law_J1460 N k a0 a1 a2 a3 i4 rc rs S = some res) : zw p l e room_1 s m #[Value.ref zb] below meth c (lw_Z below #[Value.ref zb] s) 8 zk_E V 601024 7293034 1460 [(0, .ref a0), (1, .ref a1), (2, .ref a2), (3, .ref a3), (4, .int i4)] [] S rc rs := by
  unfold zf_L_law_J1460 at h
  refine zw_aload_n hX dL_law_1460 rfl ?_
  refine zw_aload_n hX dL_law_1461 rfl ?_
  refine zw_iload hX dL_law_1462 rfl ?_
  refine zw_iconst (v := (1 : Int32)) hX dL_law_1464 (by decide) ?_
  refine zw_iadd hX dL_law_1465 ?_
  obtain ⟨v200, g, h⟩ := zb_some h
  refine zw_xi hX dL_law_1466 g ?_
  refine zw_i2l hX dL_law_1467 ?_
  refine zw_bipush (v := (32 : Int32)) hX dL_law_1468 (by decide) ?_
  refine zw_lshl hX dL_law_1470 ?_
  refine zw_aload_n hX dL_law_1471 rfl ?_
  refine zw_iload hX dL_law_1472 rfl ?_
  refine zw_iconst (v := (2 : Int32)) hX dL_law_1474 (by decide) ?_
  refine zw_iadd hX dL_law_1475 ?_
  obtain ⟨v201, g, h⟩ := zb_some h
  refine zw_xi hX dL_law_1476 g ?_
  refine zw_i2l hX dL_law_1477 ?_
  refine zw_ldc2 (v := (4294967295 : Int64)) hX dL_law_1478 zl_L_324 ?_
  refine zw_land hX dL_law_1481 ?_
  refine zw_lor hX dL_law_1482 ?_
  refine zw_aload_n hX dL_law_1483 rfl ?_
  refine zw_iload hX dL_law_1484 rfl ?_
  refine zw_iconst (v := (3 : Int32)) hX dL_law_1486 (by decide) ?_
  refine zw_iadd hX dL_law_1487 ?_
  obtain ⟨v202, g, h⟩ := zb_some h
  refine zw_xi hX dL_law_1488 g ?_
  refine zw_aload_n hX dL_law_1489 rfl ?_
  by_cases hb1490 : 2 ≤ rc ∧ 12 ≤ rs
  · rw [if_pos hb1490] at h
    obtain ⟨r205, g, h⟩ := zb_some h
    refine zc_S (as := [.ref a1, .long (((v200).toInt64 <<< (((32 : Int32)).toInt64 &&& 63)) ||| ((v201).toInt64 &&& (4294967295 : Int64))), .int v202, .ref a3]) hX (zt_L_fact hlt (d := d - 1) (by omega) g) zl_L_337 dL_law_1490 ⟨rfl, rfl, Nat.le_of_ble_eq_true rfl⟩ ⟨by omega, by omega⟩ hb1490 ?_ ?_
    · rintro _ _ ⟨rfl, rfl⟩
      refine zw_istore hX dL_law_1493 (by decide) ?_
      refine zw_aload_n hX dL_law_1495 rfl ?_
      refine zw_aload_n hX dL_law_1496 rfl ?_
      refine zw_iload hX dL_law_1497 rfl ?_
      refine zw_iconst (v := (1 : Int32)) hX dL_law_1499 (by decide) ?_
      refine zw_iadd hX dL_law_1500 ?_
      obtain ⟨v206, g, h⟩ := zb_some h
      refine zw_xi hX dL_law_1501 g ?_
      refine zw_i2l hX dL_law_1502 ?_
      refine zw_bipush (v := (32 : Int32)) hX dL_law_1503 (by decide) ?_
      refine zw_lshl hX dL_law_1505 ?_
      refine zw_aload_n hX dL_law_1506 rfl ?_
      refine zw_iload hX dL_law_1507 rfl ?_
      refine zw_iconst (v := (2 : Int32)) hX dL_law_1509 (by decide) ?_
      refine zw_iadd hX dL_law_1510 ?_
      obtain ⟨v207, g, h⟩ := zb_some h
      refine zw_xi hX dL_law_1511 g ?_
      refine zw_i2l hX dL_law_1512 ?_
      refine zw_ldc2 (v := (4294967295 : Int64)) hX dL_law_1513 zl_L_324 ?_
      refine zw_land hX dL_law_1516 ?_
      refine zw_lor hX dL_law_1517 ?_
      refine zw_aload_n hX dL_law_1518 rfl ?_
      refine zw_iload hX dL_law_1519 rfl ?_
      refine zw_iconst (v := (3 : Int32)) hX dL_law_1521 (by decide) ?_
      refine zw_iadd hX dL_law_1522 ?_
      obtain ⟨v208, g, h⟩ := zb_some h
      refine zw_xi hX dL_law_1523 g ?_
      obtain ⟨_, gi, h⟩ := zb_some h
      obtain ⟨r210, g, h⟩ := zb_some h
      refine zc_Vl (as := [.long (((v206).toInt64 <<< (((32 : Int32)).toInt64 &&& 63)) ||| ((v207).toInt64 &&& (4294967295 : Int64))), .int v208]) hX gi (zt_X18_fact (d := d - 1) (by omega) g) zl_L_340 rfl dL_law_1524 ⟨rfl, rfl, Nat.le_of_ble_eq_true rfl⟩ ⟨by omega, by omega⟩ ?_
      refine zw_lstore hX dL_law_1527 (by decide) ?_
      refine zw_aload_n hX dL_law_1529 rfl ?_
      obtain ⟨_, gi, h⟩ := zb_some h
      obtain ⟨r212, g, h⟩ := zb_some h
      refine zc_Vi (as := []) hX gi (zt_X18_thrown (d := d - 1) (by omega) g) zl_L_281 rfl dL_law_1530 ⟨rfl, rfl, Nat.le_of_ble_eq_true rfl⟩ ⟨by omega, by omega⟩ ?_
      refine zw_iload hX dL_law_1533 rfl ?_
      refine zw_icmp_eq (tgt := 1540) hX dL_law_1535 (by decide) (fun c1535 => ?_) (fun c1535 => ?_)
      · rw [if_pos c1535] at h
        refine zw_iload hX dL_law_1540 rfl ?_
        refine zw_if_ne (tgt := 1556) hX dL_law_1542 (by decide) (fun c1542 => ?_) (fun c1542 => ?_)
        · rw [if_neg c1542] at h
          refine zw_goto (tgt := 6002) hX dL_law_1556 (by decide) ?_
          refine zw_iinc (v := (i4 + (7 : Int32))) hX dL_law_6002 rfl rfl (by decide) ?_
          refine zw_goto (tgt := 23) hX dL_law_6005 (by decide) ?_
          refine zw_sub (lv' := [(0, .ref a0), (1, .ref a1), (2, .ref a2), (3, .ref a3), (4, .int (i4 + (7 : Int32)))]) (List.forall_mem_cons.mpr ⟨rfl, (List.forall_mem_cons.mpr ⟨rfl, (List.forall_mem_cons.mpr ⟨rfl, (List.forall_mem_cons.mpr ⟨rfl, (List.forall_mem_cons.mpr ⟨rfl, zs_nil⟩)⟩)⟩)⟩)⟩) ?_
          exact hrec _ _ _ _ h
        · rw [if_pos c1542] at h
          refine zw_aload_n hX dL_law_1545 rfl ?_
          refine zw_iconst (v := (0 : Int32)) hX dL_law_1546 (by decide) ?_
          obtain ⟨w213, g, h⟩ := zb_some h
          refine zw_xl hX dL_law_1547 g ?_
          refine zw_lload hX dL_law_1548 rfl ?_
          refine zw_lcmp hX dL_law_1550 ?_
          refine zw_if_eq (tgt := 1556) hX dL_law_1551 (by decide) (fun c1551 => ?_) (fun c1551 => ?_)
          · rw [if_pos c1551] at h
            refine zw_goto (tgt := 6002) hX dL_law_1556 (by decide) ?_
            refine zw_iinc (v := (i4 + (7 : Int32))) hX dL_law_6002 rfl rfl (by decide) ?_
            refine zw_goto (tgt := 23) hX dL_law_6005 (by decide) ?_
            refine zw_sub (lv' := [(0, .ref a0), (1, .ref a1), (2, .ref a2), (3, .ref a3), (4, .int (i4 + (7 : Int32)))]) (List.forall_mem_cons.mpr ⟨rfl, (List.forall_mem_cons.mpr ⟨rfl, (List.forall_mem_cons.mpr ⟨rfl, (List.forall_mem_cons.mpr ⟨rfl, (List.forall_mem_cons.mpr ⟨rfl, zs_nil⟩)⟩)⟩)⟩)⟩) ?_
            exact hrec _ _ _ _ h
          · rw [if_neg c1551] at h
            refine zw_iconst (v := (0 : Int32)) hX dL_law_1554 (by decide) ?_
            cases h
      · rw [if_neg c1535] at h
        refine zw_iconst (v := (0 : Int32)) hX dL_law_1538 (by decide) ?_
        cases h
    · intro _ _ hx
      exact hx.elim
  · rw [if_neg hb1490] at h
    cases h
def zf_L_law_J1559 (N : Nat) (k : Nat → Nat → Nat → Nat → Int32 → Nat → Nat → zm_S → Option ((Int32 × zm_S) ⊕ ((Unit) × zm_S))) (a0 : Nat) (a1 : Nat) (a2 : Nat) (a3 : Nat) (i4 : Int32) (rc rs : Nat) (S : zm_S) : Option ((Int32 × zm_S) ⊕ ((Unit) × zm_S)) := (za_x S 0 a0 (i4 + (1 : Int32))).bind (fun v214 => (za_x S 0 a0 (i4 + (2 : Int32))).bind (fun v215 => (za_x S 0 a0 (i4 + (3 : Int32))).bind (fun v216 => (za_x S 0 a0 (i4 + (4 : Int32))).bind (fun v217 => if 2 ≤ rc ∧ 12 ≤ rs then (zf_L_measure N a1 v214 v215 (((v216).toInt64 <<< (((32 : Int32)).toInt64 &&& 63)) ||| ((v217).toInt64 &&& (4294967295 : Int64))) a3 S).bind (fun r220 => (za_x r220.2 0 a0 (i4 + (1 : Int32))).bind (fun v221 => (za_x r220.2 0 a0 (i4 + (2 : Int32))).bind (fun v222 => (za_x r220.2 0 a0 (i4 + (3 : Int32))).bind (fun v223 => (za_x r220.2 0 a0 (i4 + (4 : Int32))).bind (fun v224 => (zi r220.2 a2 18).bind (fun _ => (zf_X18_measure N a2 v221 v222 (((v223).toInt64 <<< (((32 : Int32)).toInt64 &&& 63)) ||| ((v224).toInt64 &&& (4294967295 : Int64))) r220.2).bind (fun r226 => (zi r226.2 a2 18).bind (fun _ => (zf_X18_thrown N a2 r226.2).bind (fun r228 => if r228.1 = r220.1 then if r220.1 = 0 then (za_l r228.2 a3 (0 : Int32)).bind (fun w229 => if (lg_cmp w229 ((r226.1).toInt64)) = 0 then k a0 a1 a2 a3 (i4 + (7 : Int32)) (rc - 2) (rs - 12) r228.2 else none) else k a0 a1 a2 a3 (i4 + (7 : Int32)) (rc - 2) (rs - 12) r228.2 else none))))))))) else none))))
set_option maxHeartbeats 4000000 in
set_option maxRecDepth 100000 in
theorem zt_L_law_J1559 {p : Program} {l : Launch} {e : Env} {s : State} {m : MethodId} {zb : Nat} {below : List Frame} {meth : Method} {c : Code} {V : zm_V} {d : Nat} {nm : String} (hlt : l.stackTraces = false) (hV : V.2.2.2.1 = s.heap.size) (hX : zm_X p room_1 s m #[Value.ref zb] meth c RL nm cL_law 8 zk_E V 601024 7293034) (hr : meth.sig.returnType = ret) (hR : d ≤ room_1.frames ∧ 64 * d ≤ room_1.locals) (hd : 46 ≤ d) {N : Nat} {k : Nat → Nat → Nat → Nat → Int32 → Nat → Nat → zm_S → Option ((Int32 × zm_S) ⊕ ((Unit) × zm_S))} {rc rs : Nat} {a0 : Nat} {a1 : Nat} {a2 : Nat} {a3 : Nat} {i4 : Int32} {res : (Int32 × zm_S) ⊕ ((Unit) × zm_S)} {out : (Int32 × zm_S)}   (hf : ∀ o, res = .inl o → o = out) (hk : ∀ (S' : zm_S) (rc rs : Nat), res = .inr ((), S') → zw p l e room_1 s m #[Value.ref zb] below meth c (lw_Z below #[Value.ref zb] s) 8 zk_E V 601024 7293034 6008 [] [] S' rc rs) (hrec : ∀ (i4' : Int32) (rc rs : Nat) (S : zm_S), k a0 a1 a2 a3 i4' rc rs S = some res → zw p l e room_1 s m #[Value.ref zb] below meth c (lw_Z below #[Value.ref zb] s) 8 zk_E V 601024 7293034 23 [(0, .ref a0), (1, .ref a1), (2, .ref a2), (3, .ref a3), (4, .int i4')] [] S rc rs) {S : zm_S} (h : zf_L_law_J1559 N k a0 a1 a2 a3 i4 rc rs S = some res) : zw p l e room_1 s m #[Value.ref zb] below meth c (lw_Z below #[Value.ref zb] s) 8 zk_E V 601024 7293034 1559 [(0, .ref a0), (1, .ref a1), (2, .ref a2), (3, .ref a3), (4, .int i4)] [] S rc rs := by
  unfold zf_L_law_J1559 at h
  refine zw_aload_n hX dL_law_1559 rfl ?_
  refine zw_aload_n hX dL_law_1560 rfl ?_
  refine zw_iload hX dL_law_1561 rfl ?_
  refine zw_iconst (v := (1 : Int32)) hX dL_law_1563 (by decide) ?_
  refine zw_iadd hX dL_law_1564 ?_
  obtain ⟨v214, g, h⟩ := zb_some h
  refine zw_xi hX dL_law_1565 g ?_
  refine zw_aload_n hX dL_law_1566 rfl ?_
  refine zw_iload hX dL_law_1567 rfl ?_
  refine zw_iconst (v := (2 : Int32)) hX dL_law_1569 (by decide) ?_
  refine zw_iadd hX dL_law_1570 ?_
  obtain ⟨v215, g, h⟩ := zb_some h
  refine zw_xi hX dL_law_1571 g ?_
  refine zw_aload_n hX dL_law_1572 rfl ?_
  refine zw_iload hX dL_law_1573 rfl ?_
  refine zw_iconst (v := (3 : Int32)) hX dL_law_1575 (by decide) ?_
  refine zw_iadd hX dL_law_1576 ?_
  obtain ⟨v216, g, h⟩ := zb_some h
  refine zw_xi hX dL_law_1577 g ?_
  refine zw_i2l hX dL_law_1578 ?_
  refine zw_bipush (v := (32 : Int32)) hX dL_law_1579 (by decide) ?_
  refine zw_lshl hX dL_law_1581 ?_
  refine zw_aload_n hX dL_law_1582 rfl ?_
  refine zw_iload hX dL_law_1583 rfl ?_
  refine zw_iconst (v := (4 : Int32)) hX dL_law_1585 (by decide) ?_
  refine zw_iadd hX dL_law_1586 ?_
  obtain ⟨v217, g, h⟩ := zb_some h
  refine zw_xi hX dL_law_1587 g ?_
  refine zw_i2l hX dL_law_1588 ?_
  refine zw_ldc2 (v := (4294967295 : Int64)) hX dL_law_1589 zl_L_324 ?_
  refine zw_land hX dL_law_1592 ?_
  refine zw_lor hX dL_law_1593 ?_
  refine zw_aload_n hX dL_law_1594 rfl ?_
  by_cases hb1595 : 2 ≤ rc ∧ 12 ≤ rs
  · rw [if_pos hb1595] at h
    obtain ⟨r220, g, h⟩ := zb_some h
    refine zc_S (as := [.ref a1, .int v214, .int v215, .long (((v216).toInt64 <<< (((32 : Int32)).toInt64 &&& 63)) ||| ((v217).toInt64 &&& (4294967295 : Int64))), .ref a3]) hX (zt_L_measure hlt (d := d - 1) (by omega) g) zl_L_341 dL_law_1595 ⟨rfl, rfl, Nat.le_of_ble_eq_true rfl⟩ ⟨by omega, by omega⟩ hb1595 ?_ ?_
    · rintro _ _ ⟨rfl, rfl⟩
      refine zw_istore hX dL_law_1598 (by decide) ?_
      refine zw_aload_n hX dL_law_1600 rfl ?_
      refine zw_aload_n hX dL_law_1601 rfl ?_
      refine zw_iload hX dL_law_1602 rfl ?_
      refine zw_iconst (v := (1 : Int32)) hX dL_law_1604 (by decide) ?_
      refine zw_iadd hX dL_law_1605 ?_
      obtain ⟨v221, g, h⟩ := zb_some h
      refine zw_xi hX dL_law_1606 g ?_
      refine zw_aload_n hX dL_law_1607 rfl ?_
      refine zw_iload hX dL_law_1608 rfl ?_
      refine zw_iconst (v := (2 : Int32)) hX dL_law_1610 (by decide) ?_
      refine zw_iadd hX dL_law_1611 ?_
      obtain ⟨v222, g, h⟩ := zb_some h
      refine zw_xi hX dL_law_1612 g ?_
      refine zw_aload_n hX dL_law_1613 rfl ?_
      refine zw_iload hX dL_law_1614 rfl ?_
      refine zw_iconst (v := (3 : Int32)) hX dL_law_1616 (by decide) ?_
      refine zw_iadd hX dL_law_1617 ?_
      obtain ⟨v223, g, h⟩ := zb_some h
      refine zw_xi hX dL_law_1618 g ?_
      refine zw_i2l hX dL_law_1619 ?_
      refine zw_bipush (v := (32 : Int32)) hX dL_law_1620 (by decide) ?_
      refine zw_lshl hX dL_law_1622 ?_
      refine zw_aload_n hX dL_law_1623 rfl ?_
      refine zw_iload hX dL_law_1624 rfl ?_
      refine zw_iconst (v := (4 : Int32)) hX dL_law_1626 (by decide) ?_
      refine zw_iadd hX dL_law_1627 ?_
      obtain ⟨v224, g, h⟩ := zb_some h
      refine zw_xi hX dL_law_1628 g ?_
      refine zw_i2l hX dL_law_1629 ?_
      refine zw_ldc2 (v := (4294967295 : Int64)) hX dL_law_1630 zl_L_324 ?_
      refine zw_land hX dL_law_1633 ?_
      refine zw_lor hX dL_law_1634 ?_
      obtain ⟨_, gi, h⟩ := zb_some h
      obtain ⟨r226, g, h⟩ := zb_some h
      refine zc_Vi (as := [.int v221, .int v222, .long (((v223).toInt64 <<< (((32 : Int32)).toInt64 &&& 63)) ||| ((v224).toInt64 &&& (4294967295 : Int64)))]) hX gi (zt_X18_measure (d := d - 1) (by omega) g) zl_L_344 rfl dL_law_1635 ⟨rfl, rfl, Nat.le_of_ble_eq_true rfl⟩ ⟨by omega, by omega⟩ ?_
      refine zw_istore hX dL_law_1638 (by decide) ?_
      refine zw_aload_n hX dL_law_1640 rfl ?_
      obtain ⟨_, gi, h⟩ := zb_some h
      obtain ⟨r228, g, h⟩ := zb_some h
      refine zc_Vi (as := []) hX gi (zt_X18_thrown (d := d - 1) (by omega) g) zl_L_281 rfl dL_law_1641 ⟨rfl, rfl, Nat.le_of_ble_eq_true rfl⟩ ⟨by omega, by omega⟩ ?_
      refine zw_iload hX dL_law_1644 rfl ?_
      refine zw_icmp_eq (tgt := 1651) hX dL_law_1646 (by decide) (fun c1646 => ?_) (fun c1646 => ?_)
      · rw [if_pos c1646] at h
        refine zw_iload hX dL_law_1651 rfl ?_
        refine zw_if_ne (tgt := 1668) hX dL_law_1653 (by decide) (fun c1653 => ?_) (fun c1653 => ?_)
        · rw [if_neg c1653] at h
          refine zw_goto (tgt := 6002) hX dL_law_1668 (by decide) ?_
          refine zw_iinc (v := (i4 + (7 : Int32))) hX dL_law_6002 rfl rfl (by decide) ?_
          refine zw_goto (tgt := 23) hX dL_law_6005 (by decide) ?_
          refine zw_sub (lv' := [(0, .ref a0), (1, .ref a1), (2, .ref a2), (3, .ref a3), (4, .int (i4 + (7 : Int32)))]) (List.forall_mem_cons.mpr ⟨rfl, (List.forall_mem_cons.mpr ⟨rfl, (List.forall_mem_cons.mpr ⟨rfl, (List.forall_mem_cons.mpr ⟨rfl, (List.forall_mem_cons.mpr ⟨rfl, zs_nil⟩)⟩)⟩)⟩)⟩) ?_
          exact hrec _ _ _ _ h
        · rw [if_pos c1653] at h
          refine zw_aload_n hX dL_law_1656 rfl ?_
          refine zw_iconst (v := (0 : Int32)) hX dL_law_1657 (by decide) ?_
          obtain ⟨w229, g, h⟩ := zb_some h
          refine zw_xl hX dL_law_1658 g ?_
          refine zw_iload hX dL_law_1659 rfl ?_
          refine zw_i2l hX dL_law_1661 ?_
          refine zw_lcmp hX dL_law_1662 ?_
          refine zw_if_eq (tgt := 1668) hX dL_law_1663 (by decide) (fun c1663 => ?_) (fun c1663 => ?_)
          · rw [if_pos c1663] at h
            refine zw_goto (tgt := 6002) hX dL_law_1668 (by decide) ?_
            refine zw_iinc (v := (i4 + (7 : Int32))) hX dL_law_6002 rfl rfl (by decide) ?_
            refine zw_goto (tgt := 23) hX dL_law_6005 (by decide) ?_
            refine zw_sub (lv' := [(0, .ref a0), (1, .ref a1), (2, .ref a2), (3, .ref a3), (4, .int (i4 + (7 : Int32)))]) (List.forall_mem_cons.mpr ⟨rfl, (List.forall_mem_cons.mpr ⟨rfl, (List.forall_mem_cons.mpr ⟨rfl, (List.forall_mem_cons.mpr ⟨rfl, (List.forall_mem_cons.mpr ⟨rfl, zs_nil⟩)⟩)⟩)⟩)⟩) ?_
            exact hrec _ _ _ _ h
          · rw [if_neg c1663] at h
            refine zw_iconst (v := (0 : Int32)) hX dL_law_1666 (by decide) ?_
            cases h
      · rw [if_neg c1646] at h
        refine zw_iconst (v := (0 : Int32)) hX dL_law_1649 (by decide) ?_
        cases h
    · intro _ _ hx
      exact hx.elim
  · rw [if_neg hb1595] at h
    cases h
def zf_L_law_J1671 (N : Nat) (k : Nat → Nat → Nat → Nat → Int32 → Nat → Nat → zm_S → Option ((Int32 × zm_S) ⊕ ((Unit) × zm_S))) (a0 : Nat) (a1 : Nat) (a2 : Nat) (a3 : Nat) (i4 : Int32) (rc rs : Nat) (S : zm_S) : Option ((Int32 × zm_S) ⊕ ((Unit) × zm_S)) := (za_x S 0 a0 (i4 + (1 : Int32))).bind (fun v230 => if 1 ≤ rc ∧ 6 ≤ rs then (zf_L_check N a1 v230 a3 S).bind (fun r233 => (za_x r233.2 0 a0 (i4 + (1 : Int32))).bind (fun v234 => (zi r233.2 a2 18).bind (fun _ => (zf_X18_check N a2 v234 r233.2).bind (fun r236 => (zi r236.2 a2 18).bind (fun _ => (zf_X18_thrown N a2 r236.2).bind (fun r238 => if r238.1 = r233.1 then if r233.1 = 0 then (za_l r238.2 a3 (0 : Int32)).bind (fun w239 => if (lg_cmp w239 ((r236.1).toInt64)) = 0 then k a0 a1 a2 a3 (i4 + (7 : Int32)) (rc - 1) (rs - 6) r238.2 else none) else k a0 a1 a2 a3 (i4 + (7 : Int32)) (rc - 1) (rs - 6) r238.2 else none)))))) else none)
set_option maxHeartbeats 4000000 in
set_option maxRecDepth 100000 in
theorem zt_L_law_J1671 {p : Program} {l : Launch} {e : Env} {s : State} {m : MethodId} {zb : Nat} {below : List Frame} {meth : Method} {c : Code} {V : zm_V} {d : Nat} {nm : String} (hlt : l.stackTraces = false) (hV : V.2.2.2.1 = s.heap.size) (hX : zm_X p room_1 s m #[Value.ref zb] meth c RL nm cL_law 8 zk_E V 601024 7293034) (hr : meth.sig.returnType = ret) (hR : d ≤ room_1.frames ∧ 64 * d ≤ room_1.locals) (hd : 46 ≤ d) {N : Nat} {k : Nat → Nat → Nat → Nat → Int32 → Nat → Nat → zm_S → Option ((Int32 × zm_S) ⊕ ((Unit) × zm_S))} {rc rs : Nat} {a0 : Nat} {a1 : Nat} {a2 : Nat} {a3 : Nat} {i4 : Int32} {res : (Int32 × zm_S) ⊕ ((Unit) × zm_S)} {out : (Int32 × zm_S)}   (hf : ∀ o, res = .inl o → o = out) (hk : ∀ (S' : zm_S) (rc rs : Nat), res = .inr ((), S') → zw p l e room_1 s m #[Value.ref zb] below meth c (lw_Z below #[Value.ref zb] s) 8 zk_E V 601024 7293034 6008 [] [] S' rc rs) (hrec : ∀ (i4' : Int32) (rc rs : Nat) (S : zm_S), k a0 a1 a2 a3 i4' rc rs S = some res → zw p l e room_1 s m #[Value.ref zb] below meth c (lw_Z below #[Value.ref zb] s) 8 zk_E V 601024 7293034 23 [(0, .ref a0), (1, .ref a1), (2, .ref a2), (3, .ref a3), (4, .int i4')] [] S rc rs) {S : zm_S} (h : zf_L_law_J1671 N k a0 a1 a2 a3 i4 rc rs S = some res) : zw p l e room_1 s m #[Value.ref zb] below meth c (lw_Z below #[Value.ref zb] s) 8 zk_E V 601024 7293034 1671 [(0, .ref a0), (1, .ref a1), (2, .ref a2), (3, .ref a3), (4, .int i4)] [] S rc rs := by
  unfold zf_L_law_J1671 at h
  refine zw_aload_n hX dL_law_1671 rfl ?_
  refine zw_aload_n hX dL_law_1672 rfl ?_
  refine zw_iload hX dL_law_1673 rfl ?_
  refine zw_iconst (v := (1 : Int32)) hX dL_law_1675 (by decide) ?_
  refine zw_iadd hX dL_law_1676 ?_
  obtain ⟨v230, g, h⟩ := zb_some h
  refine zw_xi hX dL_law_1677 g ?_
  refine zw_aload_n hX dL_law_1678 rfl ?_
  by_cases hb1679 : 1 ≤ rc ∧ 6 ≤ rs
  · rw [if_pos hb1679] at h
    obtain ⟨r233, g, h⟩ := zb_some h
    refine zc_S (as := [.ref a1, .int v230, .ref a3]) hX (zt_L_check hlt (d := d - 1) (by omega) g) zl_L_345 dL_law_1679 ⟨rfl, rfl, Nat.le_of_ble_eq_true rfl⟩ ⟨by omega, by omega⟩ hb1679 ?_ ?_
    · rintro _ _ ⟨rfl, rfl⟩
      refine zw_istore hX dL_law_1682 (by decide) ?_
      refine zw_aload_n hX dL_law_1684 rfl ?_
      refine zw_aload_n hX dL_law_1685 rfl ?_
      refine zw_iload hX dL_law_1686 rfl ?_
      refine zw_iconst (v := (1 : Int32)) hX dL_law_1688 (by decide) ?_
      refine zw_iadd hX dL_law_1689 ?_
      obtain ⟨v234, g, h⟩ := zb_some h
      refine zw_xi hX dL_law_1690 g ?_
      obtain ⟨_, gi, h⟩ := zb_some h
      obtain ⟨r236, g, h⟩ := zb_some h
      refine zc_Vi (as := [.int v234]) hX gi (zt_X18_check (d := d - 1) (by omega) g) zl_L_347 rfl dL_law_1691 ⟨rfl, rfl, Nat.le_of_ble_eq_true rfl⟩ ⟨by omega, by omega⟩ ?_
      refine zw_istore hX dL_law_1694 (by decide) ?_
      refine zw_aload_n hX dL_law_1696 rfl ?_
      obtain ⟨_, gi, h⟩ := zb_some h
      obtain ⟨r238, g, h⟩ := zb_some h
      refine zc_Vi (as := []) hX gi (zt_X18_thrown (d := d - 1) (by omega) g) zl_L_281 rfl dL_law_1697 ⟨rfl, rfl, Nat.le_of_ble_eq_true rfl⟩ ⟨by omega, by omega⟩ ?_
      refine zw_iload hX dL_law_1700 rfl ?_
      refine zw_icmp_eq (tgt := 1707) hX dL_law_1702 (by decide) (fun c1702 => ?_) (fun c1702 => ?_)
      · rw [if_pos c1702] at h
        refine zw_iload hX dL_law_1707 rfl ?_
        refine zw_if_ne (tgt := 1724) hX dL_law_1709 (by decide) (fun c1709 => ?_) (fun c1709 => ?_)
        · rw [if_neg c1709] at h
          refine zw_goto (tgt := 6002) hX dL_law_1724 (by decide) ?_
          refine zw_iinc (v := (i4 + (7 : Int32))) hX dL_law_6002 rfl rfl (by decide) ?_
          refine zw_goto (tgt := 23) hX dL_law_6005 (by decide) ?_
          refine zw_sub (lv' := [(0, .ref a0), (1, .ref a1), (2, .ref a2), (3, .ref a3), (4, .int (i4 + (7 : Int32)))]) (List.forall_mem_cons.mpr ⟨rfl, (List.forall_mem_cons.mpr ⟨rfl, (List.forall_mem_cons.mpr ⟨rfl, (List.forall_mem_cons.mpr ⟨rfl, (List.forall_mem_cons.mpr ⟨rfl, zs_nil⟩)⟩)⟩)⟩)⟩) ?_
          exact hrec _ _ _ _ h
        · rw [if_pos c1709] at h
          refine zw_aload_n hX dL_law_1712 rfl ?_
          refine zw_iconst (v := (0 : Int32)) hX dL_law_1713 (by decide) ?_
          obtain ⟨w239, g, h⟩ := zb_some h
          refine zw_xl hX dL_law_1714 g ?_
          refine zw_iload hX dL_law_1715 rfl ?_
          refine zw_i2l hX dL_law_1717 ?_
          refine zw_lcmp hX dL_law_1718 ?_
          refine zw_if_eq (tgt := 1724) hX dL_law_1719 (by decide) (fun c1719 => ?_) (fun c1719 => ?_)
          · rw [if_pos c1719] at h
            refine zw_goto (tgt := 6002) hX dL_law_1724 (by decide) ?_
            refine zw_iinc (v := (i4 + (7 : Int32))) hX dL_law_6002 rfl rfl (by decide) ?_
            refine zw_goto (tgt := 23) hX dL_law_6005 (by decide) ?_
            refine zw_sub (lv' := [(0, .ref a0), (1, .ref a1), (2, .ref a2), (3, .ref a3), (4, .int (i4 + (7 : Int32)))]) (List.forall_mem_cons.mpr ⟨rfl, (List.forall_mem_cons.mpr ⟨rfl, (List.forall_mem_cons.mpr ⟨rfl, (List.forall_mem_cons.mpr ⟨rfl, (List.forall_mem_cons.mpr ⟨rfl, zs_nil⟩)⟩)⟩)⟩)⟩) ?_
            exact hrec _ _ _ _ h
          · rw [if_neg c1719] at h
            refine zw_iconst (v := (0 : Int32)) hX dL_law_1722 (by decide) ?_
            cases h
      · rw [if_neg c1702] at h
        refine zw_iconst (v := (0 : Int32)) hX dL_law_1705 (by decide) ?_
        cases h
    · intro _ _ hx
      exact hx.elim
  · rw [if_neg hb1679] at h
    cases h
def zf_L_law_J1727 (N : Nat) (k : Nat → Nat → Nat → Nat → Int32 → Nat → Nat → zm_S → Option ((Int32 × zm_S) ⊕ ((Unit) × zm_S))) (a0 : Nat) (a1 : Nat) (a2 : Nat) (a3 : Nat) (i4 : Int32) (rc rs : Nat) (S : zm_S) : Option ((Int32 × zm_S) ⊕ ((Unit) × zm_S)) := (za_x S 0 a0 (i4 + (1 : Int32))).bind (fun v240 => (za_x S 0 a0 (i4 + (2 : Int32))).bind (fun v241 => if 2 ≤ rc ∧ 12 ≤ rs then (zf_L_rule N a1 v240 v241 a3 S).bind (fun r244 => (za_x r244.2 0 a0 (i4 + (1 : Int32))).bind (fun v245 => (za_x r244.2 0 a0 (i4 + (2 : Int32))).bind (fun v246 => (zi r244.2 a2 18).bind (fun _ => (zf_X18_rule N a2 v245 v246 r244.2).bind (fun r248 => (zi r248.2 a2 18).bind (fun _ => (zf_X18_thrown N a2 r248.2).bind (fun r250 => if r250.1 = r244.1 then if r244.1 = 0 then (za_l r250.2 a3 (0 : Int32)).bind (fun w251 => if (lg_cmp w251 r248.1) = 0 then k a0 a1 a2 a3 (i4 + (7 : Int32)) (rc - 2) (rs - 12) r250.2 else none) else k a0 a1 a2 a3 (i4 + (7 : Int32)) (rc - 2) (rs - 12) r250.2 else none))))))) else none))
set_option maxHeartbeats 4000000 in
set_option maxRecDepth 100000 in
theorem zt_L_law_J1727 {p : Program} {l : Launch} {e : Env} {s : State} {m : MethodId} {zb : Nat} {below : List Frame} {meth : Method} {c : Code} {V : zm_V} {d : Nat} {nm : String} (hlt : l.stackTraces = false) (hV : V.2.2.2.1 = s.heap.size) (hX : zm_X p room_1 s m #[Value.ref zb] meth c RL nm cL_law 8 zk_E V 601024 7293034) (hr : meth.sig.returnType = ret) (hR : d ≤ room_1.frames ∧ 64 * d ≤ room_1.locals) (hd : 46 ≤ d) {N : Nat} {k : Nat → Nat → Nat → Nat → Int32 → Nat → Nat → zm_S → Option ((Int32 × zm_S) ⊕ ((Unit) × zm_S))} {rc rs : Nat} {a0 : Nat} {a1 : Nat} {a2 : Nat} {a3 : Nat} {i4 : Int32} {res : (Int32 × zm_S) ⊕ ((Unit) × zm_S)} {out : (Int32 × zm_S)}   (hf : ∀ o, res = .inl o → o = out) (hk : ∀ (S' : zm_S) (rc rs : Nat), res = .inr ((), S') → zw p l e room_1 s m #[Value.ref zb] below meth c (lw_Z below #[Value.ref zb] s) 8 zk_E V 601024 7293034 6008 [] [] S' rc rs) (hrec : ∀ (i4' : Int32) (rc rs : Nat) (S : zm_S), k a0 a1 a2 a3 i4' rc rs S = some res → zw p l e room_1 s m #[Value.ref zb] below meth c (lw_Z below #[Value.ref zb] s) 8 zk_E V 601024 7293034 23 [(0, .ref a0), (1, .ref a1), (2, .ref a2), (3, .ref a3), (4, .int i4')] [] S rc rs) {S : zm_S} (h : zf_L_law_J1727 N k a0 a1 a2 a3 i4 rc rs S = some res) : zw p l e room_1 s m #[Value.ref zb] below meth c (lw_Z below #[Value.ref zb] s) 8 zk_E V 601024 7293034 1727 [(0, .ref a0), (1, .ref a1), (2, .ref a2), (3, .ref a3), (4, .int i4)] [] S rc rs := by
  unfold zf_L_law_J1727 at h
  refine zw_aload_n hX dL_law_1727 rfl ?_
  refine zw_aload_n hX dL_law_1728 rfl ?_
  refine zw_iload hX dL_law_1729 rfl ?_
  refine zw_iconst (v := (1 : Int32)) hX dL_law_1731 (by decide) ?_
  refine zw_iadd hX dL_law_1732 ?_
  obtain ⟨v240, g, h⟩ := zb_some h
  refine zw_xi hX dL_law_1733 g ?_
  refine zw_aload_n hX dL_law_1734 rfl ?_
  refine zw_iload hX dL_law_1735 rfl ?_
  refine zw_iconst (v := (2 : Int32)) hX dL_law_1737 (by decide) ?_
  refine zw_iadd hX dL_law_1738 ?_
  obtain ⟨v241, g, h⟩ := zb_some h
  refine zw_xi hX dL_law_1739 g ?_
  refine zw_aload_n hX dL_law_1740 rfl ?_
  by_cases hb1741 : 2 ≤ rc ∧ 12 ≤ rs
  · rw [if_pos hb1741] at h
    obtain ⟨r244, g, h⟩ := zb_some h
    refine zc_S (as := [.ref a1, .int v240, .int v241, .ref a3]) hX (zt_L_rule hlt (d := d - 1) (by omega) g) zl_L_348 dL_law_1741 ⟨rfl, rfl, Nat.le_of_ble_eq_true rfl⟩ ⟨by omega, by omega⟩ hb1741 ?_ ?_
    · rintro _ _ ⟨rfl, rfl⟩
      refine zw_istore hX dL_law_1744 (by decide) ?_
      refine zw_aload_n hX dL_law_1746 rfl ?_
      refine zw_aload_n hX dL_law_1747 rfl ?_
      refine zw_iload hX dL_law_1748 rfl ?_
      refine zw_iconst (v := (1 : Int32)) hX dL_law_1750 (by decide) ?_
      refine zw_iadd hX dL_law_1751 ?_
      obtain ⟨v245, g, h⟩ := zb_some h
      refine zw_xi hX dL_law_1752 g ?_
      refine zw_aload_n hX dL_law_1753 rfl ?_
      refine zw_iload hX dL_law_1754 rfl ?_
      refine zw_iconst (v := (2 : Int32)) hX dL_law_1756 (by decide) ?_
      refine zw_iadd hX dL_law_1757 ?_
      obtain ⟨v246, g, h⟩ := zb_some h
      refine zw_xi hX dL_law_1758 g ?_
      obtain ⟨_, gi, h⟩ := zb_some h
      obtain ⟨r248, g, h⟩ := zb_some h
      refine zc_Vl (as := [.int v245, .int v246]) hX gi (zt_X18_rule (d := d - 1) (by omega) g) zl_L_350 rfl dL_law_1759 ⟨rfl, rfl, Nat.le_of_ble_eq_true rfl⟩ ⟨by omega, by omega⟩ ?_
      refine zw_lstore hX dL_law_1762 (by decide) ?_
      refine zw_aload_n hX dL_law_1764 rfl ?_
      obtain ⟨_, gi, h⟩ := zb_some h
      obtain ⟨r250, g, h⟩ := zb_some h
      refine zc_Vi (as := []) hX gi (zt_X18_thrown (d := d - 1) (by omega) g) zl_L_281 rfl dL_law_1765 ⟨rfl, rfl, Nat.le_of_ble_eq_true rfl⟩ ⟨by omega, by omega⟩ ?_
      refine zw_iload hX dL_law_1768 rfl ?_
      refine zw_icmp_eq (tgt := 1775) hX dL_law_1770 (by decide) (fun c1770 => ?_) (fun c1770 => ?_)
      · rw [if_pos c1770] at h
        refine zw_iload hX dL_law_1775 rfl ?_
        refine zw_if_ne (tgt := 1791) hX dL_law_1777 (by decide) (fun c1777 => ?_) (fun c1777 => ?_)
        · rw [if_neg c1777] at h
          refine zw_goto (tgt := 6002) hX dL_law_1791 (by decide) ?_
          refine zw_iinc (v := (i4 + (7 : Int32))) hX dL_law_6002 rfl rfl (by decide) ?_
          refine zw_goto (tgt := 23) hX dL_law_6005 (by decide) ?_
          refine zw_sub (lv' := [(0, .ref a0), (1, .ref a1), (2, .ref a2), (3, .ref a3), (4, .int (i4 + (7 : Int32)))]) (List.forall_mem_cons.mpr ⟨rfl, (List.forall_mem_cons.mpr ⟨rfl, (List.forall_mem_cons.mpr ⟨rfl, (List.forall_mem_cons.mpr ⟨rfl, (List.forall_mem_cons.mpr ⟨rfl, zs_nil⟩)⟩)⟩)⟩)⟩) ?_
          exact hrec _ _ _ _ h
        · rw [if_pos c1777] at h
          refine zw_aload_n hX dL_law_1780 rfl ?_
          refine zw_iconst (v := (0 : Int32)) hX dL_law_1781 (by decide) ?_
          obtain ⟨w251, g, h⟩ := zb_some h
          refine zw_xl hX dL_law_1782 g ?_
          refine zw_lload hX dL_law_1783 rfl ?_
          refine zw_lcmp hX dL_law_1785 ?_
          refine zw_if_eq (tgt := 1791) hX dL_law_1786 (by decide) (fun c1786 => ?_) (fun c1786 => ?_)
          · rw [if_pos c1786] at h
            refine zw_goto (tgt := 6002) hX dL_law_1791 (by decide) ?_
            refine zw_iinc (v := (i4 + (7 : Int32))) hX dL_law_6002 rfl rfl (by decide) ?_
            refine zw_goto (tgt := 23) hX dL_law_6005 (by decide) ?_
            refine zw_sub (lv' := [(0, .ref a0), (1, .ref a1), (2, .ref a2), (3, .ref a3), (4, .int (i4 + (7 : Int32)))]) (List.forall_mem_cons.mpr ⟨rfl, (List.forall_mem_cons.mpr ⟨rfl, (List.forall_mem_cons.mpr ⟨rfl, (List.forall_mem_cons.mpr ⟨rfl, (List.forall_mem_cons.mpr ⟨rfl, zs_nil⟩)⟩)⟩)⟩)⟩) ?_
            exact hrec _ _ _ _ h
          · rw [if_neg c1786] at h
            refine zw_iconst (v := (0 : Int32)) hX dL_law_1789 (by decide) ?_
            cases h
      · rw [if_neg c1770] at h
        refine zw_iconst (v := (0 : Int32)) hX dL_law_1773 (by decide) ?_
        cases h
    · intro _ _ hx
      exact hx.elim
  · rw [if_neg hb1741] at h
    cases h
def zf_L_law_J1794 (N : Nat) (k : Nat → Nat → Nat → Nat → Int32 → Nat → Nat → zm_S → Option ((Int32 × zm_S) ⊕ ((Unit) × zm_S))) (a0 : Nat) (a1 : Nat) (a2 : Nat) (a3 : Nat) (i4 : Int32) (rc rs : Nat) (S : zm_S) : Option ((Int32 × zm_S) ⊕ ((Unit) × zm_S)) := (za_x S 0 a0 (i4 + (1 : Int32))).bind (fun v252 => if (zf_L_build_c N a1 v252 a3 S).isSome = true then if 2 ≤ rc ∧ 12 ≤ rs then (zf_L_build_c N a1 v252 a3 S).bind (fun r255 => (za_x r255.2 0 a0 (i4 + (1 : Int32))).bind (fun v256 => (zi r255.2 a2 18).bind (fun _ => (zf_X18_build N a2 v256 r255.2).bind (fun r258 => (zi r258.2 a2 18).bind (fun _ => (zf_X18_thrown N a2 r258.2).bind (fun r260 => if r260.1 = r255.1 then if r255.1 = 0 then (za_l r260.2 a3 (0 : Int32)).bind (fun w261 => if (lg_cmp w261 ((r258.1).toInt64)) = 0 then k a0 a1 a2 a3 (i4 + (7 : Int32)) (rc - 2) (rs - 12) r260.2 else none) else k a0 a1 a2 a3 (i4 + (7 : Int32)) (rc - 2) (rs - 12) r260.2 else none)))))) else none else if 5 ≤ rc ∧ 124092 ≤ rs then (zf_L_build N a1 v252 a3 S).bind (fun r264 => (za_x r264.2 0 a0 (i4 + (1 : Int32))).bind (fun v265 => (zi r264.2 a2 18).bind (fun _ => (zf_X18_build N a2 v265 r264.2).bind (fun r267 => (zi r267.2 a2 18).bind (fun _ => (zf_X18_thrown N a2 r267.2).bind (fun r269 => if r269.1 = r264.1 then if r264.1 = 0 then (za_l r269.2 a3 (0 : Int32)).bind (fun w270 => if (lg_cmp w270 ((r267.1).toInt64)) = 0 then k a0 a1 a2 a3 (i4 + (7 : Int32)) (rc - 5) (rs - 124092) r269.2 else none) else k a0 a1 a2 a3 (i4 + (7 : Int32)) (rc - 5) (rs - 124092) r269.2 else none)))))) else none)
set_option maxHeartbeats 4000000 in
set_option maxRecDepth 100000 in
theorem zt_L_law_J1794 {p : Program} {l : Launch} {e : Env} {s : State} {m : MethodId} {zb : Nat} {below : List Frame} {meth : Method} {c : Code} {V : zm_V} {d : Nat} {nm : String} (hlt : l.stackTraces = false) (hV : V.2.2.2.1 = s.heap.size) (hX : zm_X p room_1 s m #[Value.ref zb] meth c RL nm cL_law 8 zk_E V 601024 7293034) (hr : meth.sig.returnType = ret) (hR : d ≤ room_1.frames ∧ 64 * d ≤ room_1.locals) (hd : 46 ≤ d) {N : Nat} {k : Nat → Nat → Nat → Nat → Int32 → Nat → Nat → zm_S → Option ((Int32 × zm_S) ⊕ ((Unit) × zm_S))} {rc rs : Nat} {a0 : Nat} {a1 : Nat} {a2 : Nat} {a3 : Nat} {i4 : Int32} {res : (Int32 × zm_S) ⊕ ((Unit) × zm_S)} {out : (Int32 × zm_S)}   (hf : ∀ o, res = .inl o → o = out) (hk : ∀ (S' : zm_S) (rc rs : Nat), res = .inr ((), S') → zw p l e room_1 s m #[Value.ref zb] below meth c (lw_Z below #[Value.ref zb] s) 8 zk_E V 601024 7293034 6008 [] [] S' rc rs) (hrec : ∀ (i4' : Int32) (rc rs : Nat) (S : zm_S), k a0 a1 a2 a3 i4' rc rs S = some res → zw p l e room_1 s m #[Value.ref zb] below meth c (lw_Z below #[Value.ref zb] s) 8 zk_E V 601024 7293034 23 [(0, .ref a0), (1, .ref a1), (2, .ref a2), (3, .ref a3), (4, .int i4')] [] S rc rs) {S : zm_S} (h : zf_L_law_J1794 N k a0 a1 a2 a3 i4 rc rs S = some res) : zw p l e room_1 s m #[Value.ref zb] below meth c (lw_Z below #[Value.ref zb] s) 8 zk_E V 601024 7293034 1794 [(0, .ref a0), (1, .ref a1), (2, .ref a2), (3, .ref a3), (4, .int i4)] [] S rc rs := by
  unfold zf_L_law_J1794 at h
  refine zw_aload_n hX dL_law_1794 rfl ?_
  refine zw_aload_n hX dL_law_1795 rfl ?_
  refine zw_iload hX dL_law_1796 rfl ?_
  refine zw_iconst (v := (1 : Int32)) hX dL_law_1798 (by decide) ?_
  refine zw_iadd hX dL_law_1799 ?_
  obtain ⟨v252, g, h⟩ := zb_some h
  refine zw_xi hX dL_law_1800 g ?_
  refine zw_aload_n hX dL_law_1801 rfl ?_
  by_cases cv : (zf_L_build_c N a1 v252 a3 S).isSome = true
  · rw [if_pos cv] at h
    by_cases hb1802 : 2 ≤ rc ∧ 12 ≤ rs
    · rw [if_pos hb1802] at h
      obtain ⟨r255, g, h⟩ := zb_some h
      refine zc_S (as := [.ref a1, .int v252, .ref a3]) hX (zt_L_build_c hlt (d := d - 1) (by omega) g) zl_L_351 dL_law_1802 ⟨rfl, rfl, Nat.le_of_ble_eq_true rfl⟩ ⟨by omega, by omega⟩ hb1802 ?_ ?_
      · rintro _ _ ⟨rfl, rfl⟩
        refine zw_istore hX dL_law_1805 (by decide) ?_
        refine zw_aload_n hX dL_law_1807 rfl ?_
        refine zw_aload_n hX dL_law_1808 rfl ?_
        refine zw_iload hX dL_law_1809 rfl ?_
        refine zw_iconst (v := (1 : Int32)) hX dL_law_1811 (by decide) ?_
        refine zw_iadd hX dL_law_1812 ?_
        obtain ⟨v256, g, h⟩ := zb_some h
        refine zw_xi hX dL_law_1813 g ?_
        obtain ⟨_, gi, h⟩ := zb_some h
        obtain ⟨r258, g, h⟩ := zb_some h
        refine zc_Vi (as := [.int v256]) hX gi (zt_X18_build (d := d - 1) (by omega) g) zl_L_353 rfl dL_law_1814 ⟨rfl, rfl, Nat.le_of_ble_eq_true rfl⟩ ⟨by omega, by omega⟩ ?_
        refine zw_istore hX dL_law_1817 (by decide) ?_
        refine zw_aload_n hX dL_law_1819 rfl ?_
        obtain ⟨_, gi, h⟩ := zb_some h
        obtain ⟨r260, g, h⟩ := zb_some h
        refine zc_Vi (as := []) hX gi (zt_X18_thrown (d := d - 1) (by omega) g) zl_L_281 rfl dL_law_1820 ⟨rfl, rfl, Nat.le_of_ble_eq_true rfl⟩ ⟨by omega, by omega⟩ ?_
        refine zw_iload hX dL_law_1823 rfl ?_
        refine zw_icmp_eq (tgt := 1830) hX dL_law_1825 (by decide) (fun c1825 => ?_) (fun c1825 => ?_)
        · rw [if_pos c1825] at h
          refine zw_iload hX dL_law_1830 rfl ?_
          refine zw_if_ne (tgt := 1847) hX dL_law_1832 (by decide) (fun c1832 => ?_) (fun c1832 => ?_)
          · rw [if_neg c1832] at h
            refine zw_goto (tgt := 6002) hX dL_law_1847 (by decide) ?_
            refine zw_iinc (v := (i4 + (7 : Int32))) hX dL_law_6002 rfl rfl (by decide) ?_
            refine zw_goto (tgt := 23) hX dL_law_6005 (by decide) ?_
            refine zw_sub (lv' := [(0, .ref a0), (1, .ref a1), (2, .ref a2), (3, .ref a3), (4, .int (i4 + (7 : Int32)))]) (List.forall_mem_cons.mpr ⟨rfl, (List.forall_mem_cons.mpr ⟨rfl, (List.forall_mem_cons.mpr ⟨rfl, (List.forall_mem_cons.mpr ⟨rfl, (List.forall_mem_cons.mpr ⟨rfl, zs_nil⟩)⟩)⟩)⟩)⟩) ?_
            exact hrec _ _ _ _ h
          · rw [if_pos c1832] at h
            refine zw_aload_n hX dL_law_1835 rfl ?_
            refine zw_iconst (v := (0 : Int32)) hX dL_law_1836 (by decide) ?_
            obtain ⟨w261, g, h⟩ := zb_some h
            refine zw_xl hX dL_law_1837 g ?_
            refine zw_iload hX dL_law_1838 rfl ?_
            refine zw_i2l hX dL_law_1840 ?_
            refine zw_lcmp hX dL_law_1841 ?_
            refine zw_if_eq (tgt := 1847) hX dL_law_1842 (by decide) (fun c1842 => ?_) (fun c1842 => ?_)
            · rw [if_pos c1842] at h
              refine zw_goto (tgt := 6002) hX dL_law_1847 (by decide) ?_
              refine zw_iinc (v := (i4 + (7 : Int32))) hX dL_law_6002 rfl rfl (by decide) ?_
              refine zw_goto (tgt := 23) hX dL_law_6005 (by decide) ?_
              refine zw_sub (lv' := [(0, .ref a0), (1, .ref a1), (2, .ref a2), (3, .ref a3), (4, .int (i4 + (7 : Int32)))]) (List.forall_mem_cons.mpr ⟨rfl, (List.forall_mem_cons.mpr ⟨rfl, (List.forall_mem_cons.mpr ⟨rfl, (List.forall_mem_cons.mpr ⟨rfl, (List.forall_mem_cons.mpr ⟨rfl, zs_nil⟩)⟩)⟩)⟩)⟩) ?_
              exact hrec _ _ _ _ h
            · rw [if_neg c1842] at h
              refine zw_iconst (v := (0 : Int32)) hX dL_law_1845 (by decide) ?_
              cases h
        · rw [if_neg c1825] at h
          refine zw_iconst (v := (0 : Int32)) hX dL_law_1828 (by decide) ?_
          cases h
      · intro _ _ hx
        exact hx.elim
    · rw [if_neg hb1802] at h
      cases h
  · rw [if_neg cv] at h
    by_cases hb1802 : 5 ≤ rc ∧ 124092 ≤ rs
    · rw [if_pos hb1802] at h
      obtain ⟨r264, g, h⟩ := zb_some h
      refine zc_S (as := [.ref a1, .int v252, .ref a3]) hX (zt_L_build hlt (d := d - 1) (by omega) g) zl_L_351 dL_law_1802 ⟨rfl, rfl, Nat.le_of_ble_eq_true rfl⟩ ⟨by omega, by omega⟩ hb1802 ?_ ?_
      · rintro _ _ ⟨rfl, rfl⟩
        refine zw_istore hX dL_law_1805 (by decide) ?_
        refine zw_aload_n hX dL_law_1807 rfl ?_
        refine zw_aload_n hX dL_law_1808 rfl ?_
        refine zw_iload hX dL_law_1809 rfl ?_
        refine zw_iconst (v := (1 : Int32)) hX dL_law_1811 (by decide) ?_
        refine zw_iadd hX dL_law_1812 ?_
        obtain ⟨v265, g, h⟩ := zb_some h
        refine zw_xi hX dL_law_1813 g ?_
        obtain ⟨_, gi, h⟩ := zb_some h
        obtain ⟨r267, g, h⟩ := zb_some h
        refine zc_Vi (as := [.int v265]) hX gi (zt_X18_build (d := d - 1) (by omega) g) zl_L_353 rfl dL_law_1814 ⟨rfl, rfl, Nat.le_of_ble_eq_true rfl⟩ ⟨by omega, by omega⟩ ?_
        refine zw_istore hX dL_law_1817 (by decide) ?_
        refine zw_aload_n hX dL_law_1819 rfl ?_
        obtain ⟨_, gi, h⟩ := zb_some h
        obtain ⟨r269, g, h⟩ := zb_some h
        refine zc_Vi (as := []) hX gi (zt_X18_thrown (d := d - 1) (by omega) g) zl_L_281 rfl dL_law_1820 ⟨rfl, rfl, Nat.le_of_ble_eq_true rfl⟩ ⟨by omega, by omega⟩ ?_
        refine zw_iload hX dL_law_1823 rfl ?_
        refine zw_icmp_eq (tgt := 1830) hX dL_law_1825 (by decide) (fun c1825 => ?_) (fun c1825 => ?_)
        · rw [if_pos c1825] at h
          refine zw_iload hX dL_law_1830 rfl ?_
          refine zw_if_ne (tgt := 1847) hX dL_law_1832 (by decide) (fun c1832 => ?_) (fun c1832 => ?_)
          · rw [if_neg c1832] at h
            refine zw_goto (tgt := 6002) hX dL_law_1847 (by decide) ?_
            refine zw_iinc (v := (i4 + (7 : Int32))) hX dL_law_6002 rfl rfl (by decide) ?_
            refine zw_goto (tgt := 23) hX dL_law_6005 (by decide) ?_
            refine zw_sub (lv' := [(0, .ref a0), (1, .ref a1), (2, .ref a2), (3, .ref a3), (4, .int (i4 + (7 : Int32)))]) (List.forall_mem_cons.mpr ⟨rfl, (List.forall_mem_cons.mpr ⟨rfl, (List.forall_mem_cons.mpr ⟨rfl, (List.forall_mem_cons.mpr ⟨rfl, (List.forall_mem_cons.mpr ⟨rfl, zs_nil⟩)⟩)⟩)⟩)⟩) ?_
            exact hrec _ _ _ _ h
          · rw [if_pos c1832] at h
            refine zw_aload_n hX dL_law_1835 rfl ?_
            refine zw_iconst (v := (0 : Int32)) hX dL_law_1836 (by decide) ?_
            obtain ⟨w270, g, h⟩ := zb_some h
            refine zw_xl hX dL_law_1837 g ?_
            refine zw_iload hX dL_law_1838 rfl ?_
            refine zw_i2l hX dL_law_1840 ?_
            refine zw_lcmp hX dL_law_1841 ?_
            refine zw_if_eq (tgt := 1847) hX dL_law_1842 (by decide) (fun c1842 => ?_) (fun c1842 => ?_)
            · rw [if_pos c1842] at h
              refine zw_goto (tgt := 6002) hX dL_law_1847 (by decide) ?_
              refine zw_iinc (v := (i4 + (7 : Int32))) hX dL_law_6002 rfl rfl (by decide) ?_
              refine zw_goto (tgt := 23) hX dL_law_6005 (by decide) ?_
              refine zw_sub (lv' := [(0, .ref a0), (1, .ref a1), (2, .ref a2), (3, .ref a3), (4, .int (i4 + (7 : Int32)))]) (List.forall_mem_cons.mpr ⟨rfl, (List.forall_mem_cons.mpr ⟨rfl, (List.forall_mem_cons.mpr ⟨rfl, (List.forall_mem_cons.mpr ⟨rfl, (List.forall_mem_cons.mpr ⟨rfl, zs_nil⟩)⟩)⟩)⟩)⟩) ?_
              exact hrec _ _ _ _ h
            · rw [if_neg c1842] at h
              refine zw_iconst (v := (0 : Int32)) hX dL_law_1845 (by decide) ?_
              cases h
        · rw [if_neg c1825] at h
          refine zw_iconst (v := (0 : Int32)) hX dL_law_1828 (by decide) ?_
          cases h
      · intro _ _ hx
        exact hx.elim
    · rw [if_neg hb1802] at h
      cases h
def zf_L_law_J1850 (N : Nat) (k : Nat → Nat → Nat → Nat → Int32 → Nat → Nat → zm_S → Option ((Int32 × zm_S) ⊕ ((Unit) × zm_S))) (a0 : Nat) (a1 : Nat) (a2 : Nat) (a3 : Nat) (i4 : Int32) (rc rs : Nat) (S : zm_S) : Option ((Int32 × zm_S) ⊕ ((Unit) × zm_S)) := (za_x S 0 a0 (i4 + (1 : Int32))).bind (fun v271 => (za_x S 0 a0 (i4 + (2 : Int32))).bind (fun v272 => if 2 ≤ rc ∧ 12 ≤ rs then (zf_L_portal N a1 v271 v272 a3 S).bind (fun r275 => (za_x r275.2 0 a0 (i4 + (1 : Int32))).bind (fun v276 => (za_x r275.2 0 a0 (i4 + (2 : Int32))).bind (fun v277 => (zi r275.2 a2 18).bind (fun _ => (zf_X18_portal_ N a2 v276 v277 r275.2).bind (fun r279 => (zi r279.2 a2 18).bind (fun _ => (zf_X18_thrown N a2 r279.2).bind (fun r281 => if r281.1 = r275.1 then if r275.1 = 0 then (za_l r281.2 a3 (0 : Int32)).bind (fun w282 => if (lg_cmp w282 ((r279.1).toInt64)) = 0 then k a0 a1 a2 a3 (i4 + (7 : Int32)) (rc - 2) (rs - 12) r281.2 else none) else k a0 a1 a2 a3 (i4 + (7 : Int32)) (rc - 2) (rs - 12) r281.2 else none))))))) else none))
set_option maxHeartbeats 4000000 in
set_option maxRecDepth 100000 in
theorem zt_L_law_J1850 {p : Program} {l : Launch} {e : Env} {s : State} {m : MethodId} {zb : Nat} {below : List Frame} {meth : Method} {c : Code} {V : zm_V} {d : Nat} {nm : String} (hlt : l.stackTraces = false) (hV : V.2.2.2.1 = s.heap.size) (hX : zm_X p room_1 s m #[Value.ref zb] meth c RL nm cL_law 8 zk_E V 601024 7293034) (hr : meth.sig.returnType = ret) (hR : d ≤ room_1.frames ∧ 64 * d ≤ room_1.locals) (hd : 46 ≤ d) {N : Nat} {k : Nat → Nat → Nat → Nat → Int32 → Nat → Nat → zm_S → Option ((Int32 × zm_S) ⊕ ((Unit) × zm_S))} {rc rs : Nat} {a0 : Nat} {a1 : Nat} {a2 : Nat} {a3 : Nat} {i4 : Int32} {res : (Int32 × zm_S) ⊕ ((Unit) × zm_S)} {out : (Int32 × zm_S)}   (hf : ∀ o, res = .inl o → o = out) (hk : ∀ (S' : zm_S) (rc rs : Nat), res = .inr ((), S') → zw p l e room_1 s m #[Value.ref zb] below meth c (lw_Z below #[Value.ref zb] s) 8 zk_E V 601024 7293034 6008 [] [] S' rc rs) (hrec : ∀ (i4' : Int32) (rc rs : Nat) (S : zm_S), k a0 a1 a2 a3 i4' rc rs S = some res → zw p l e room_1 s m #[Value.ref zb] below meth c (lw_Z below #[Value.ref zb] s) 8 zk_E V 601024 7293034 23 [(0, .ref a0), (1, .ref a1), (2, .ref a2), (3, .ref a3), (4, .int i4')] [] S rc rs) {S : zm_S} (h : zf_L_law_J1850 N k a0 a1 a2 a3 i4 rc rs S = some res) : zw p l e room_1 s m #[Value.ref zb] below meth c (lw_Z below #[Value.ref zb] s) 8 zk_E V 601024 7293034 1850 [(0, .ref a0), (1, .ref a1), (2, .ref a2), (3, .ref a3), (4, .int i4)] [] S rc rs := by
  unfold zf_L_law_J1850 at h
  refine zw_aload_n hX dL_law_1850 rfl ?_
  refine zw_aload_n hX dL_law_1851 rfl ?_
  refine zw_iload hX dL_law_1852 rfl ?_
  refine zw_iconst (v := (1 : Int32)) hX dL_law_1854 (by decide) ?_
  refine zw_iadd hX dL_law_1855 ?_
  obtain ⟨v271, g, h⟩ := zb_some h
  refine zw_xi hX dL_law_1856 g ?_
  refine zw_aload_n hX dL_law_1857 rfl ?_
  refine zw_iload hX dL_law_1858 rfl ?_
  refine zw_iconst (v := (2 : Int32)) hX dL_law_1860 (by decide) ?_
  refine zw_iadd hX dL_law_1861 ?_
  obtain ⟨v272, g, h⟩ := zb_some h
  refine zw_xi hX dL_law_1862 g ?_
  refine zw_aload_n hX dL_law_1863 rfl ?_
  by_cases hb1864 : 2 ≤ rc ∧ 12 ≤ rs
  · rw [if_pos hb1864] at h
    obtain ⟨r275, g, h⟩ := zb_some h
    refine zc_S (as := [.ref a1, .int v271, .int v272, .ref a3]) hX (zt_L_portal hlt (d := d - 1) (by omega) g) zl_L_354 dL_law_1864 ⟨rfl, rfl, Nat.le_of_ble_eq_true rfl⟩ ⟨by omega, by omega⟩ hb1864 ?_ ?_
    · rintro _ _ ⟨rfl, rfl⟩
      refine zw_istore hX dL_law_1867 (by decide) ?_
      refine zw_aload_n hX dL_law_1869 rfl ?_
      refine zw_aload_n hX dL_law_1870 rfl ?_
      refine zw_iload hX dL_law_1871 rfl ?_
      refine zw_iconst (v := (1 : Int32)) hX dL_law_1873 (by decide) ?_
      refine zw_iadd hX dL_law_1874 ?_
      obtain ⟨v276, g, h⟩ := zb_some h
      refine zw_xi hX dL_law_1875 g ?_
      refine zw_aload_n hX dL_law_1876 rfl ?_
      refine zw_iload hX dL_law_1877 rfl ?_
      refine zw_iconst (v := (2 : Int32)) hX dL_law_1879 (by decide) ?_
      refine zw_iadd hX dL_law_1880 ?_
      obtain ⟨v277, g, h⟩ := zb_some h
      refine zw_xi hX dL_law_1881 g ?_
      obtain ⟨_, gi, h⟩ := zb_some h
      obtain ⟨r279, g, h⟩ := zb_some h
      refine zc_Vi (as := [.int v276, .int v277]) hX gi (zt_X18_portal_ (d := d - 1) (by omega) g) zl_L_356 rfl dL_law_1882 ⟨rfl, rfl, Nat.le_of_ble_eq_true rfl⟩ ⟨by omega, by omega⟩ ?_
      refine zw_istore hX dL_law_1885 (by decide) ?_
      refine zw_aload_n hX dL_law_1887 rfl ?_
      obtain ⟨_, gi, h⟩ := zb_some h
      obtain ⟨r281, g, h⟩ := zb_some h
      refine zc_Vi (as := []) hX gi (zt_X18_thrown (d := d - 1) (by omega) g) zl_L_281 rfl dL_law_1888 ⟨rfl, rfl, Nat.le_of_ble_eq_true rfl⟩ ⟨by omega, by omega⟩ ?_
      refine zw_iload hX dL_law_1891 rfl ?_
      refine zw_icmp_eq (tgt := 1898) hX dL_law_1893 (by decide) (fun c1893 => ?_) (fun c1893 => ?_)
      · rw [if_pos c1893] at h
        refine zw_iload hX dL_law_1898 rfl ?_
        refine zw_if_ne (tgt := 1915) hX dL_law_1900 (by decide) (fun c1900 => ?_) (fun c1900 => ?_)
        · rw [if_neg c1900] at h
          refine zw_goto (tgt := 6002) hX dL_law_1915 (by decide) ?_
          refine zw_iinc (v := (i4 + (7 : Int32))) hX dL_law_6002 rfl rfl (by decide) ?_
          refine zw_goto (tgt := 23) hX dL_law_6005 (by decide) ?_
          refine zw_sub (lv' := [(0, .ref a0), (1, .ref a1), (2, .ref a2), (3, .ref a3), (4, .int (i4 + (7 : Int32)))]) (List.forall_mem_cons.mpr ⟨rfl, (List.forall_mem_cons.mpr ⟨rfl, (List.forall_mem_cons.mpr ⟨rfl, (List.forall_mem_cons.mpr ⟨rfl, (List.forall_mem_cons.mpr ⟨rfl, zs_nil⟩)⟩)⟩)⟩)⟩) ?_
          exact hrec _ _ _ _ h
        · rw [if_pos c1900] at h
          refine zw_aload_n hX dL_law_1903 rfl ?_
          refine zw_iconst (v := (0 : Int32)) hX dL_law_1904 (by decide) ?_
          obtain ⟨w282, g, h⟩ := zb_some h
          refine zw_xl hX dL_law_1905 g ?_
          refine zw_iload hX dL_law_1906 rfl ?_
          refine zw_i2l hX dL_law_1908 ?_
          refine zw_lcmp hX dL_law_1909 ?_
          refine zw_if_eq (tgt := 1915) hX dL_law_1910 (by decide) (fun c1910 => ?_) (fun c1910 => ?_)
          · rw [if_pos c1910] at h
            refine zw_goto (tgt := 6002) hX dL_law_1915 (by decide) ?_
            refine zw_iinc (v := (i4 + (7 : Int32))) hX dL_law_6002 rfl rfl (by decide) ?_
            refine zw_goto (tgt := 23) hX dL_law_6005 (by decide) ?_
            refine zw_sub (lv' := [(0, .ref a0), (1, .ref a1), (2, .ref a2), (3, .ref a3), (4, .int (i4 + (7 : Int32)))]) (List.forall_mem_cons.mpr ⟨rfl, (List.forall_mem_cons.mpr ⟨rfl, (List.forall_mem_cons.mpr ⟨rfl, (List.forall_mem_cons.mpr ⟨rfl, (List.forall_mem_cons.mpr ⟨rfl, zs_nil⟩)⟩)⟩)⟩)⟩) ?_
            exact hrec _ _ _ _ h
          · rw [if_neg c1910] at h
            refine zw_iconst (v := (0 : Int32)) hX dL_law_1913 (by decide) ?_
            cases h
      · rw [if_neg c1893] at h
        refine zw_iconst (v := (0 : Int32)) hX dL_law_1896 (by decide) ?_
        cases h
    · intro _ _ hx
      exact hx.elim
  · rw [if_neg hb1864] at h
    cases h
def zf_L_law_J1918 (N : Nat) (k : Nat → Nat → Nat → Nat → Int32 → Nat → Nat → zm_S → Option ((Int32 × zm_S) ⊕ ((Unit) × zm_S))) (a0 : Nat) (a1 : Nat) (a2 : Nat) (a3 : Nat) (i4 : Int32) (rc rs : Nat) (S : zm_S) : Option ((Int32 × zm_S) ⊕ ((Unit) × zm_S)) := (za_x S 0 a0 (i4 + (1 : Int32))).bind (fun v283 => (za_x S 0 a0 (i4 + (2 : Int32))).bind (fun v284 => if 2 ≤ rc ∧ 12 ≤ rs then (zf_L_person N a1 v283 v284 a3 S).bind (fun r287 => (za_x r287.2 0 a0 (i4 + (1 : Int32))).bind (fun v288 => (za_x r287.2 0 a0 (i4 + (2 : Int32))).bind (fun v289 => (zi r287.2 a2 18).bind (fun _ => (zf_X18_person N a2 v288 v289 r287.2).bind (fun r291 => (zi r291.2 a2 18).bind (fun _ => (zf_X18_thrown N a2 r291.2).bind (fun r293 => if r293.1 = r287.1 then if r287.1 = 0 then (za_l r293.2 a3 (0 : Int32)).bind (fun w294 => if (lg_cmp w294 ((r291.1).toInt64)) = 0 then k a0 a1 a2 a3 (i4 + (7 : Int32)) (rc - 2) (rs - 12) r293.2 else none) else k a0 a1 a2 a3 (i4 + (7 : Int32)) (rc - 2) (rs - 12) r293.2 else none))))))) else none))
set_option maxHeartbeats 4000000 in
set_option maxRecDepth 100000 in
theorem zt_L_law_J1918 {p : Program} {l : Launch} {e : Env} {s : State} {m : MethodId} {zb : Nat} {below : List Frame} {meth : Method} {c : Code} {V : zm_V} {d : Nat} {nm : String} (hlt : l.stackTraces = false) (hV : V.2.2.2.1 = s.heap.size) (hX : zm_X p room_1 s m #[Value.ref zb] meth c RL nm cL_law 8 zk_E V 601024 7293034) (hr : meth.sig.returnType = ret) (hR : d ≤ room_1.frames ∧ 64 * d ≤ room_1.locals) (hd : 46 ≤ d) {N : Nat} {k : Nat → Nat → Nat → Nat → Int32 → Nat → Nat → zm_S → Option ((Int32 × zm_S) ⊕ ((Unit) × zm_S))} {rc rs : Nat} {a0 : Nat} {a1 : Nat} {a2 : Nat} {a3 : Nat} {i4 : Int32} {res : (Int32 × zm_S) ⊕ ((Unit) × zm_S)} {out : (Int32 × zm_S)}   (hf : ∀ o, res = .inl o → o = out) (hk : ∀ (S' : zm_S) (rc rs : Nat), res = .inr ((), S') → zw p l e room_1 s m #[Value.ref zb] below meth c (lw_Z below #[Value.ref zb] s) 8 zk_E V 601024 7293034 6008 [] [] S' rc rs) (hrec : ∀ (i4' : Int32) (rc rs : Nat) (S : zm_S), k a0 a1 a2 a3 i4' rc rs S = some res → zw p l e room_1 s m #[Value.ref zb] below meth c (lw_Z below #[Value.ref zb] s) 8 zk_E V 601024 7293034 23 [(0, .ref a0), (1, .ref a1), (2, .ref a2), (3, .ref a3), (4, .int i4')] [] S rc rs) {S : zm_S} (h : zf_L_law_J1918 N k a0 a1 a2 a3 i4 rc rs S = some res) : zw p l e room_1 s m #[Value.ref zb] below meth c (lw_Z below #[Value.ref zb] s) 8 zk_E V 601024 7293034 1918 [(0, .ref a0), (1, .ref a1), (2, .ref a2), (3, .ref a3), (4, .int i4)] [] S rc rs := by
  unfold zf_L_law_J1918 at h
  refine zw_aload_n hX dL_law_1918 rfl ?_
  refine zw_aload_n hX dL_law_1919 rfl ?_
  refine zw_iload hX dL_law_1920 rfl ?_
  refine zw_iconst (v := (1 : Int32)) hX dL_law_1922 (by decide) ?_
  refine zw_iadd hX dL_law_1923 ?_
  obtain ⟨v283, g, h⟩ := zb_some h
  refine zw_xi hX dL_law_1924 g ?_
  refine zw_aload_n hX dL_law_1925 rfl ?_
  refine zw_iload hX dL_law_1926 rfl ?_
  refine zw_iconst (v := (2 : Int32)) hX dL_law_1928 (by decide) ?_
  refine zw_iadd hX dL_law_1929 ?_
  obtain ⟨v284, g, h⟩ := zb_some h
  refine zw_xi hX dL_law_1930 g ?_
  refine zw_aload_n hX dL_law_1931 rfl ?_
  by_cases hb1932 : 2 ≤ rc ∧ 12 ≤ rs
  · rw [if_pos hb1932] at h
    obtain ⟨r287, g, h⟩ := zb_some h
    refine zc_S (as := [.ref a1, .int v283, .int v284, .ref a3]) hX (zt_L_person hlt (d := d - 1) (by omega) g) zl_L_357 dL_law_1932 ⟨rfl, rfl, Nat.le_of_ble_eq_true rfl⟩ ⟨by omega, by omega⟩ hb1932 ?_ ?_
    · rintro _ _ ⟨rfl, rfl⟩
      refine zw_istore hX dL_law_1935 (by decide) ?_
      refine zw_aload_n hX dL_law_1937 rfl ?_
      refine zw_aload_n hX dL_law_1938 rfl ?_
      refine zw_iload hX dL_law_1939 rfl ?_
      refine zw_iconst (v := (1 : Int32)) hX dL_law_1941 (by decide) ?_
      refine zw_iadd hX dL_law_1942 ?_
      obtain ⟨v288, g, h⟩ := zb_some h
      refine zw_xi hX dL_law_1943 g ?_
      refine zw_aload_n hX dL_law_1944 rfl ?_
      refine zw_iload hX dL_law_1945 rfl ?_
      refine zw_iconst (v := (2 : Int32)) hX dL_law_1947 (by decide) ?_
      refine zw_iadd hX dL_law_1948 ?_
      obtain ⟨v289, g, h⟩ := zb_some h
      refine zw_xi hX dL_law_1949 g ?_
      obtain ⟨_, gi, h⟩ := zb_some h
      obtain ⟨r291, g, h⟩ := zb_some h
      refine zc_Vi (as := [.int v288, .int v289]) hX gi (zt_X18_person (d := d - 1) (by omega) g) zl_L_359 rfl dL_law_1950 ⟨rfl, rfl, Nat.le_of_ble_eq_true rfl⟩ ⟨by omega, by omega⟩ ?_
      refine zw_istore hX dL_law_1953 (by decide) ?_
      refine zw_aload_n hX dL_law_1955 rfl ?_
      obtain ⟨_, gi, h⟩ := zb_some h
      obtain ⟨r293, g, h⟩ := zb_some h
      refine zc_Vi (as := []) hX gi (zt_X18_thrown (d := d - 1) (by omega) g) zl_L_281 rfl dL_law_1956 ⟨rfl, rfl, Nat.le_of_ble_eq_true rfl⟩ ⟨by omega, by omega⟩ ?_
      refine zw_iload hX dL_law_1959 rfl ?_
      refine zw_icmp_eq (tgt := 1966) hX dL_law_1961 (by decide) (fun c1961 => ?_) (fun c1961 => ?_)
      · rw [if_pos c1961] at h
        refine zw_iload hX dL_law_1966 rfl ?_
        refine zw_if_ne (tgt := 1983) hX dL_law_1968 (by decide) (fun c1968 => ?_) (fun c1968 => ?_)
        · rw [if_neg c1968] at h
          refine zw_goto (tgt := 6002) hX dL_law_1983 (by decide) ?_
          refine zw_iinc (v := (i4 + (7 : Int32))) hX dL_law_6002 rfl rfl (by decide) ?_
          refine zw_goto (tgt := 23) hX dL_law_6005 (by decide) ?_
          refine zw_sub (lv' := [(0, .ref a0), (1, .ref a1), (2, .ref a2), (3, .ref a3), (4, .int (i4 + (7 : Int32)))]) (List.forall_mem_cons.mpr ⟨rfl, (List.forall_mem_cons.mpr ⟨rfl, (List.forall_mem_cons.mpr ⟨rfl, (List.forall_mem_cons.mpr ⟨rfl, (List.forall_mem_cons.mpr ⟨rfl, zs_nil⟩)⟩)⟩)⟩)⟩) ?_
          exact hrec _ _ _ _ h
        · rw [if_pos c1968] at h
          refine zw_aload_n hX dL_law_1971 rfl ?_
          refine zw_iconst (v := (0 : Int32)) hX dL_law_1972 (by decide) ?_
          obtain ⟨w294, g, h⟩ := zb_some h
          refine zw_xl hX dL_law_1973 g ?_
          refine zw_iload hX dL_law_1974 rfl ?_
          refine zw_i2l hX dL_law_1976 ?_
          refine zw_lcmp hX dL_law_1977 ?_
          refine zw_if_eq (tgt := 1983) hX dL_law_1978 (by decide) (fun c1978 => ?_) (fun c1978 => ?_)
          · rw [if_pos c1978] at h
            refine zw_goto (tgt := 6002) hX dL_law_1983 (by decide) ?_
            refine zw_iinc (v := (i4 + (7 : Int32))) hX dL_law_6002 rfl rfl (by decide) ?_
            refine zw_goto (tgt := 23) hX dL_law_6005 (by decide) ?_
            refine zw_sub (lv' := [(0, .ref a0), (1, .ref a1), (2, .ref a2), (3, .ref a3), (4, .int (i4 + (7 : Int32)))]) (List.forall_mem_cons.mpr ⟨rfl, (List.forall_mem_cons.mpr ⟨rfl, (List.forall_mem_cons.mpr ⟨rfl, (List.forall_mem_cons.mpr ⟨rfl, (List.forall_mem_cons.mpr ⟨rfl, zs_nil⟩)⟩)⟩)⟩)⟩) ?_
            exact hrec _ _ _ _ h
          · rw [if_neg c1978] at h
            refine zw_iconst (v := (0 : Int32)) hX dL_law_1981 (by decide) ?_
            cases h
      · rw [if_neg c1961] at h
        refine zw_iconst (v := (0 : Int32)) hX dL_law_1964 (by decide) ?_
        cases h
    · intro _ _ hx
      exact hx.elim
  · rw [if_neg hb1932] at h
    cases h
def zf_L_law_J1986 (N : Nat) (k : Nat → Nat → Nat → Nat → Int32 → Nat → Nat → zm_S → Option ((Int32 × zm_S) ⊕ ((Unit) × zm_S))) (a0 : Nat) (a1 : Nat) (a2 : Nat) (a3 : Nat) (i4 : Int32) (rc rs : Nat) (S : zm_S) : Option ((Int32 × zm_S) ⊕ ((Unit) × zm_S)) := (za_x S 0 a0 (i4 + (1 : Int32))).bind (fun v295 => (za_x S 0 a0 (i4 + (2 : Int32))).bind (fun v296 => if 2 ≤ rc ∧ 12 ≤ rs then (zf_L_card N a1 v295 v296 a3 S).bind (fun r299 => (za_x r299.2 0 a0 (i4 + (1 : Int32))).bind (fun v300 => (za_x r299.2 0 a0 (i4 + (2 : Int32))).bind (fun v301 => (zi r299.2 a2 18).bind (fun _ => (zf_X18_card N a2 v300 v301 r299.2).bind (fun r303 => (zi r303.2 a2 18).bind (fun _ => (zf_X18_thrown N a2 r303.2).bind (fun r305 => if r305.1 = r299.1 then if r299.1 = 0 then (za_l r305.2 a3 (0 : Int32)).bind (fun w306 => if (lg_cmp w306 ((r303.1).toInt64)) = 0 then k a0 a1 a2 a3 (i4 + (7 : Int32)) (rc - 2) (rs - 12) r305.2 else none) else k a0 a1 a2 a3 (i4 + (7 : Int32)) (rc - 2) (rs - 12) r305.2 else none))))))) else none))
set_option maxHeartbeats 4000000 in
set_option maxRecDepth 100000 in
theorem zt_L_law_J1986 {p : Program} {l : Launch} {e : Env} {s : State} {m : MethodId} {zb : Nat} {below : List Frame} {meth : Method} {c : Code} {V : zm_V} {d : Nat} {nm : String} (hlt : l.stackTraces = false) (hV : V.2.2.2.1 = s.heap.size) (hX : zm_X p room_1 s m #[Value.ref zb] meth c RL nm cL_law 8 zk_E V 601024 7293034) (hr : meth.sig.returnType = ret) (hR : d ≤ room_1.frames ∧ 64 * d ≤ room_1.locals) (hd : 46 ≤ d) {N : Nat} {k : Nat → Nat → Nat → Nat → Int32 → Nat → Nat → zm_S → Option ((Int32 × zm_S) ⊕ ((Unit) × zm_S))} {rc rs : Nat} {a0 : Nat} {a1 : Nat} {a2 : Nat} {a3 : Nat} {i4 : Int32} {res : (Int32 × zm_S) ⊕ ((Unit) × zm_S)} {out : (Int32 × zm_S)}   (hf : ∀ o, res = .inl o → o = out) (hk : ∀ (S' : zm_S) (rc rs : Nat), res = .inr ((), S') → zw p l e room_1 s m #[Value.ref zb] below meth c (lw_Z below #[Value.ref zb] s) 8 zk_E V 601024 7293034 6008 [] [] S' rc rs) (hrec : ∀ (i4' : Int32) (rc rs : Nat) (S : zm_S), k a0 a1 a2 a3 i4' rc rs S = some res → zw p l e room_1 s m #[Value.ref zb] below meth c (lw_Z below #[Value.ref zb] s) 8 zk_E V 601024 7293034 23 [(0, .ref a0), (1, .ref a1), (2, .ref a2), (3, .ref a3), (4, .int i4')] [] S rc rs) {S : zm_S} (h : zf_L_law_J1986 N k a0 a1 a2 a3 i4 rc rs S = some res) : zw p l e room_1 s m #[Value.ref zb] below meth c (lw_Z below #[Value.ref zb] s) 8 zk_E V 601024 7293034 1986 [(0, .ref a0), (1, .ref a1), (2, .ref a2), (3, .ref a3), (4, .int i4)] [] S rc rs := by
  unfold zf_L_law_J1986 at h
  refine zw_aload_n hX dL_law_1986 rfl ?_
  refine zw_aload_n hX dL_law_1987 rfl ?_
  refine zw_iload hX dL_law_1988 rfl ?_
  refine zw_iconst (v := (1 : Int32)) hX dL_law_1990 (by decide) ?_
  refine zw_iadd hX dL_law_1991 ?_
  obtain ⟨v295, g, h⟩ := zb_some h
  refine zw_xi hX dL_law_1992 g ?_
  refine zw_aload_n hX dL_law_1993 rfl ?_
  refine zw_iload hX dL_law_1994 rfl ?_
  refine zw_iconst (v := (2 : Int32)) hX dL_law_1996 (by decide) ?_
  refine zw_iadd hX dL_law_1997 ?_
  obtain ⟨v296, g, h⟩ := zb_some h
  refine zw_xi hX dL_law_1998 g ?_
  refine zw_aload_n hX dL_law_1999 rfl ?_
  by_cases hb2000 : 2 ≤ rc ∧ 12 ≤ rs
  · rw [if_pos hb2000] at h
    obtain ⟨r299, g, h⟩ := zb_some h
    refine zc_S (as := [.ref a1, .int v295, .int v296, .ref a3]) hX (zt_L_card hlt (d := d - 1) (by omega) g) zl_L_360 dL_law_2000 ⟨rfl, rfl, Nat.le_of_ble_eq_true rfl⟩ ⟨by omega, by omega⟩ hb2000 ?_ ?_
    · rintro _ _ ⟨rfl, rfl⟩
      refine zw_istore hX dL_law_2003 (by decide) ?_
      refine zw_aload_n hX dL_law_2005 rfl ?_
      refine zw_aload_n hX dL_law_2006 rfl ?_
      refine zw_iload hX dL_law_2007 rfl ?_
      refine zw_iconst (v := (1 : Int32)) hX dL_law_2009 (by decide) ?_
      refine zw_iadd hX dL_law_2010 ?_
      obtain ⟨v300, g, h⟩ := zb_some h
      refine zw_xi hX dL_law_2011 g ?_
      refine zw_aload_n hX dL_law_2012 rfl ?_
      refine zw_iload hX dL_law_2013 rfl ?_
      refine zw_iconst (v := (2 : Int32)) hX dL_law_2015 (by decide) ?_
      refine zw_iadd hX dL_law_2016 ?_
      obtain ⟨v301, g, h⟩ := zb_some h
      refine zw_xi hX dL_law_2017 g ?_
      obtain ⟨_, gi, h⟩ := zb_some h
      obtain ⟨r303, g, h⟩ := zb_some h
      refine zc_Vi (as := [.int v300, .int v301]) hX gi (zt_X18_card (d := d - 1) (by omega) g) zl_L_362 rfl dL_law_2018 ⟨rfl, rfl, Nat.le_of_ble_eq_true rfl⟩ ⟨by omega, by omega⟩ ?_
      refine zw_istore hX dL_law_2021 (by decide) ?_
      refine zw_aload_n hX dL_law_2023 rfl ?_
      obtain ⟨_, gi, h⟩ := zb_some h
      obtain ⟨r305, g, h⟩ := zb_some h
      refine zc_Vi (as := []) hX gi (zt_X18_thrown (d := d - 1) (by omega) g) zl_L_281 rfl dL_law_2024 ⟨rfl, rfl, Nat.le_of_ble_eq_true rfl⟩ ⟨by omega, by omega⟩ ?_
      refine zw_iload hX dL_law_2027 rfl ?_
      refine zw_icmp_eq (tgt := 2034) hX dL_law_2029 (by decide) (fun c2029 => ?_) (fun c2029 => ?_)
      · rw [if_pos c2029] at h
        refine zw_iload hX dL_law_2034 rfl ?_
        refine zw_if_ne (tgt := 2051) hX dL_law_2036 (by decide) (fun c2036 => ?_) (fun c2036 => ?_)
        · rw [if_neg c2036] at h
          refine zw_goto (tgt := 6002) hX dL_law_2051 (by decide) ?_
          refine zw_iinc (v := (i4 + (7 : Int32))) hX dL_law_6002 rfl rfl (by decide) ?_
          refine zw_goto (tgt := 23) hX dL_law_6005 (by decide) ?_
          refine zw_sub (lv' := [(0, .ref a0), (1, .ref a1), (2, .ref a2), (3, .ref a3), (4, .int (i4 + (7 : Int32)))]) (List.forall_mem_cons.mpr ⟨rfl, (List.forall_mem_cons.mpr ⟨rfl, (List.forall_mem_cons.mpr ⟨rfl, (List.forall_mem_cons.mpr ⟨rfl, (List.forall_mem_cons.mpr ⟨rfl, zs_nil⟩)⟩)⟩)⟩)⟩) ?_
          exact hrec _ _ _ _ h
        · rw [if_pos c2036] at h
          refine zw_aload_n hX dL_law_2039 rfl ?_
          refine zw_iconst (v := (0 : Int32)) hX dL_law_2040 (by decide) ?_
          obtain ⟨w306, g, h⟩ := zb_some h
          refine zw_xl hX dL_law_2041 g ?_
          refine zw_iload hX dL_law_2042 rfl ?_
          refine zw_i2l hX dL_law_2044 ?_
          refine zw_lcmp hX dL_law_2045 ?_
          refine zw_if_eq (tgt := 2051) hX dL_law_2046 (by decide) (fun c2046 => ?_) (fun c2046 => ?_)
          · rw [if_pos c2046] at h
            refine zw_goto (tgt := 6002) hX dL_law_2051 (by decide) ?_
            refine zw_iinc (v := (i4 + (7 : Int32))) hX dL_law_6002 rfl rfl (by decide) ?_
            refine zw_goto (tgt := 23) hX dL_law_6005 (by decide) ?_
            refine zw_sub (lv' := [(0, .ref a0), (1, .ref a1), (2, .ref a2), (3, .ref a3), (4, .int (i4 + (7 : Int32)))]) (List.forall_mem_cons.mpr ⟨rfl, (List.forall_mem_cons.mpr ⟨rfl, (List.forall_mem_cons.mpr ⟨rfl, (List.forall_mem_cons.mpr ⟨rfl, (List.forall_mem_cons.mpr ⟨rfl, zs_nil⟩)⟩)⟩)⟩)⟩) ?_
            exact hrec _ _ _ _ h
          · rw [if_neg c2046] at h
            refine zw_iconst (v := (0 : Int32)) hX dL_law_2049 (by decide) ?_
            cases h
      · rw [if_neg c2029] at h
        refine zw_iconst (v := (0 : Int32)) hX dL_law_2032 (by decide) ?_
        cases h
    · intro _ _ hx
      exact hx.elim
  · rw [if_neg hb2000] at h
    cases h
def zf_L_law_J2054 (N : Nat) (k : Nat → Nat → Nat → Nat → Int32 → Nat → Nat → zm_S → Option ((Int32 × zm_S) ⊕ ((Unit) × zm_S))) (a0 : Nat) (a1 : Nat) (a2 : Nat) (a3 : Nat) (i4 : Int32) (rc rs : Nat) (S : zm_S) : Option ((Int32 × zm_S) ⊕ ((Unit) × zm_S)) := (za_x S 0 a0 (i4 + (1 : Int32))).bind (fun v307 => (za_x S 0 a0 (i4 + (2 : Int32))).bind (fun v308 => (za_x S 0 a0 (i4 + (3 : Int32))).bind (fun v309 => (za_x S 0 a0 (i4 + (4 : Int32))).bind (fun v310 => (za_x S 0 a0 (i4 + (5 : Int32))).bind (fun v311 => if 3 ≤ rc ∧ 18 ≤ rs then (zf_L_right N a1 v307 v308 v309 v310 v311 a3 S).bind (fun r314 => (za_x r314.2 0 a0 (i4 + (1 : Int32))).bind (fun v315 => (za_x r314.2 0 a0 (i4 + (2 : Int32))).bind (fun v316 => (za_x r314.2 0 a0 (i4 + (3 : Int32))).bind (fun v317 => (za_x r314.2 0 a0 (i4 + (4 : Int32))).bind (fun v318 => (za_x r314.2 0 a0 (i4 + (5 : Int32))).bind (fun v319 => (zi r314.2 a2 18).bind (fun _ => (zf_X18_right N a2 v315 v316 v317 v318 v319 r314.2).bind (fun r321 => (zi r321.2 a2 18).bind (fun _ => (zf_X18_thrown N a2 r321.2).bind (fun r323 => if r323.1 = r314.1 then if r314.1 = 0 then (za_l r323.2 a3 (0 : Int32)).bind (fun w324 => if (lg_cmp w324 ((r321.1).toInt64)) = 0 then k a0 a1 a2 a3 (i4 + (7 : Int32)) (rc - 3) (rs - 18) r323.2 else none) else k a0 a1 a2 a3 (i4 + (7 : Int32)) (rc - 3) (rs - 18) r323.2 else none)))))))))) else none)))))
set_option maxHeartbeats 4000000 in
set_option maxRecDepth 100000 in
theorem zt_L_law_J2054 {p : Program} {l : Launch} {e : Env} {s : State} {m : MethodId} {zb : Nat} {below : List Frame} {meth : Method} {c : Code} {V : zm_V} {d : Nat} {nm : String} (hlt : l.stackTraces = false) (hV : V.2.2.2.1 = s.heap.size) (hX : zm_X p room_1 s m #[Value.ref zb] meth c RL nm cL_law 8 zk_E V 601024 7293034) (hr : meth.sig.returnType = ret) (hR : d ≤ room_1.frames ∧ 64 * d ≤ room_1.locals) (hd : 46 ≤ d) {N : Nat} {k : Nat → Nat → Nat → Nat → Int32 → Nat → Nat → zm_S → Option ((Int32 × zm_S) ⊕ ((Unit) × zm_S))} {rc rs : Nat} {a0 : Nat} {a1 : Nat} {a2 : Nat} {a3 : Nat} {i4 : Int32} {res : (Int32 × zm_S) ⊕ ((Unit) × zm_S)} {out : (Int32 × zm_S)}   (hf : ∀ o, res = .inl o → o = out) (hk : ∀ (S' : zm_S) (rc rs : Nat), res = .inr ((), S') → zw p l e room_1 s m #[Value.ref zb] below meth c (lw_Z below #[Value.ref zb] s) 8 zk_E V 601024 7293034 6008 [] [] S' rc rs) (hrec : ∀ (i4' : Int32) (rc rs : Nat) (S : zm_S), k a0 a1 a2 a3 i4' rc rs S = some res → zw p l e room_1 s m #[Value.ref zb] below meth c (lw_Z below #[Value.ref zb] s) 8 zk_E V 601024 7293034 23 [(0, .ref a0), (1, .ref a1), (2, .ref a2), (3, .ref a3), (4, .int i4')] [] S rc rs) {S : zm_S} (h : zf_L_law_J2054 N k a0 a1 a2 a3 i4 rc rs S = some res) : zw p l e room_1 s m #[Value.ref zb] below meth c (lw_Z below #[Value.ref zb] s) 8 zk_E V 601024 7293034 2054 [(0, .ref a0), (1, .ref a1), (2, .ref a2), (3, .ref a3), (4, .int i4)] [] S rc rs := by
  unfold zf_L_law_J2054 at h
  refine zw_aload_n hX dL_law_2054 rfl ?_
  refine zw_aload_n hX dL_law_2055 rfl ?_
  refine zw_iload hX dL_law_2056 rfl ?_
  refine zw_iconst (v := (1 : Int32)) hX dL_law_2058 (by decide) ?_
  refine zw_iadd hX dL_law_2059 ?_
  obtain ⟨v307, g, h⟩ := zb_some h
  refine zw_xi hX dL_law_2060 g ?_
  refine zw_aload_n hX dL_law_2061 rfl ?_
  refine zw_iload hX dL_law_2062 rfl ?_
  refine zw_iconst (v := (2 : Int32)) hX dL_law_2064 (by decide) ?_
  refine zw_iadd hX dL_law_2065 ?_
  obtain ⟨v308, g, h⟩ := zb_some h
  refine zw_xi hX dL_law_2066 g ?_
  refine zw_aload_n hX dL_law_2067 rfl ?_
  refine zw_iload hX dL_law_2068 rfl ?_
  refine zw_iconst (v := (3 : Int32)) hX dL_law_2070 (by decide) ?_
  refine zw_iadd hX dL_law_2071 ?_
  obtain ⟨v309, g, h⟩ := zb_some h
  refine zw_xi hX dL_law_2072 g ?_
  refine zw_aload_n hX dL_law_2073 rfl ?_
  refine zw_iload hX dL_law_2074 rfl ?_
  refine zw_iconst (v := (4 : Int32)) hX dL_law_2076 (by decide) ?_
  refine zw_iadd hX dL_law_2077 ?_
  obtain ⟨v310, g, h⟩ := zb_some h
  refine zw_xi hX dL_law_2078 g ?_
  refine zw_aload_n hX dL_law_2079 rfl ?_
  refine zw_iload hX dL_law_2080 rfl ?_
  refine zw_iconst (v := (5 : Int32)) hX dL_law_2082 (by decide) ?_
  refine zw_iadd hX dL_law_2083 ?_
  obtain ⟨v311, g, h⟩ := zb_some h
  refine zw_xi hX dL_law_2084 g ?_
  refine zw_aload_n hX dL_law_2085 rfl ?_
  by_cases hb2086 : 3 ≤ rc ∧ 18 ≤ rs
  · rw [if_pos hb2086] at h
    obtain ⟨r314, g, h⟩ := zb_some h
    refine zc_S (as := [.ref a1, .int v307, .int v308, .int v309, .int v310, .int v311, .ref a3]) hX (zt_L_right hlt (d := d - 1) (by omega) g) zl_L_363 dL_law_2086 ⟨rfl, rfl, Nat.le_of_ble_eq_true rfl⟩ ⟨by omega, by omega⟩ hb2086 ?_ ?_
    · rintro _ _ ⟨rfl, rfl⟩
      refine zw_istore hX dL_law_2089 (by decide) ?_
      refine zw_aload_n hX dL_law_2091 rfl ?_
      refine zw_aload_n hX dL_law_2092 rfl ?_
      refine zw_iload hX dL_law_2093 rfl ?_
      refine zw_iconst (v := (1 : Int32)) hX dL_law_2095 (by decide) ?_
      refine zw_iadd hX dL_law_2096 ?_
      obtain ⟨v315, g, h⟩ := zb_some h
      refine zw_xi hX dL_law_2097 g ?_
      refine zw_aload_n hX dL_law_2098 rfl ?_
      refine zw_iload hX dL_law_2099 rfl ?_
      refine zw_iconst (v := (2 : Int32)) hX dL_law_2101 (by decide) ?_
      refine zw_iadd hX dL_law_2102 ?_
      obtain ⟨v316, g, h⟩ := zb_some h
      refine zw_xi hX dL_law_2103 g ?_
      refine zw_aload_n hX dL_law_2104 rfl ?_
      refine zw_iload hX dL_law_2105 rfl ?_
      refine zw_iconst (v := (3 : Int32)) hX dL_law_2107 (by decide) ?_
      refine zw_iadd hX dL_law_2108 ?_
      obtain ⟨v317, g, h⟩ := zb_some h
      refine zw_xi hX dL_law_2109 g ?_
      refine zw_aload_n hX dL_law_2110 rfl ?_
      refine zw_iload hX dL_law_2111 rfl ?_
      refine zw_iconst (v := (4 : Int32)) hX dL_law_2113 (by decide) ?_
      refine zw_iadd hX dL_law_2114 ?_
      obtain ⟨v318, g, h⟩ := zb_some h
      refine zw_xi hX dL_law_2115 g ?_
      refine zw_aload_n hX dL_law_2116 rfl ?_
      refine zw_iload hX dL_law_2117 rfl ?_
      refine zw_iconst (v := (5 : Int32)) hX dL_law_2119 (by decide) ?_
      refine zw_iadd hX dL_law_2120 ?_
      obtain ⟨v319, g, h⟩ := zb_some h
      refine zw_xi hX dL_law_2121 g ?_
      obtain ⟨_, gi, h⟩ := zb_some h
      obtain ⟨r321, g, h⟩ := zb_some h
      refine zc_Vi (as := [.int v315, .int v316, .int v317, .int v318, .int v319]) hX gi (zt_X18_right (d := d - 1) (by omega) g) zl_L_366 rfl dL_law_2122 ⟨rfl, rfl, Nat.le_of_ble_eq_true rfl⟩ ⟨by omega, by omega⟩ ?_
      refine zw_istore hX dL_law_2125 (by decide) ?_
      refine zw_aload_n hX dL_law_2127 rfl ?_
      obtain ⟨_, gi, h⟩ := zb_some h
      obtain ⟨r323, g, h⟩ := zb_some h
      refine zc_Vi (as := []) hX gi (zt_X18_thrown (d := d - 1) (by omega) g) zl_L_281 rfl dL_law_2128 ⟨rfl, rfl, Nat.le_of_ble_eq_true rfl⟩ ⟨by omega, by omega⟩ ?_
      refine zw_iload hX dL_law_2131 rfl ?_
      refine zw_icmp_eq (tgt := 2138) hX dL_law_2133 (by decide) (fun c2133 => ?_) (fun c2133 => ?_)
      · rw [if_pos c2133] at h
        refine zw_iload hX dL_law_2138 rfl ?_
        refine zw_if_ne (tgt := 2155) hX dL_law_2140 (by decide) (fun c2140 => ?_) (fun c2140 => ?_)
        · rw [if_neg c2140] at h
          refine zw_goto (tgt := 6002) hX dL_law_2155 (by decide) ?_
          refine zw_iinc (v := (i4 + (7 : Int32))) hX dL_law_6002 rfl rfl (by decide) ?_
          refine zw_goto (tgt := 23) hX dL_law_6005 (by decide) ?_
          refine zw_sub (lv' := [(0, .ref a0), (1, .ref a1), (2, .ref a2), (3, .ref a3), (4, .int (i4 + (7 : Int32)))]) (List.forall_mem_cons.mpr ⟨rfl, (List.forall_mem_cons.mpr ⟨rfl, (List.forall_mem_cons.mpr ⟨rfl, (List.forall_mem_cons.mpr ⟨rfl, (List.forall_mem_cons.mpr ⟨rfl, zs_nil⟩)⟩)⟩)⟩)⟩) ?_
          exact hrec _ _ _ _ h
        · rw [if_pos c2140] at h
          refine zw_aload_n hX dL_law_2143 rfl ?_
          refine zw_iconst (v := (0 : Int32)) hX dL_law_2144 (by decide) ?_
          obtain ⟨w324, g, h⟩ := zb_some h
          refine zw_xl hX dL_law_2145 g ?_
          refine zw_iload hX dL_law_2146 rfl ?_
          refine zw_i2l hX dL_law_2148 ?_
          refine zw_lcmp hX dL_law_2149 ?_
          refine zw_if_eq (tgt := 2155) hX dL_law_2150 (by decide) (fun c2150 => ?_) (fun c2150 => ?_)
          · rw [if_pos c2150] at h
            refine zw_goto (tgt := 6002) hX dL_law_2155 (by decide) ?_
            refine zw_iinc (v := (i4 + (7 : Int32))) hX dL_law_6002 rfl rfl (by decide) ?_
            refine zw_goto (tgt := 23) hX dL_law_6005 (by decide) ?_
            refine zw_sub (lv' := [(0, .ref a0), (1, .ref a1), (2, .ref a2), (3, .ref a3), (4, .int (i4 + (7 : Int32)))]) (List.forall_mem_cons.mpr ⟨rfl, (List.forall_mem_cons.mpr ⟨rfl, (List.forall_mem_cons.mpr ⟨rfl, (List.forall_mem_cons.mpr ⟨rfl, (List.forall_mem_cons.mpr ⟨rfl, zs_nil⟩)⟩)⟩)⟩)⟩) ?_
            exact hrec _ _ _ _ h
          · rw [if_neg c2150] at h
            refine zw_iconst (v := (0 : Int32)) hX dL_law_2153 (by decide) ?_
            cases h
      · rw [if_neg c2133] at h
        refine zw_iconst (v := (0 : Int32)) hX dL_law_2136 (by decide) ?_
        cases h
    · intro _ _ hx
      exact hx.elim
  · rw [if_neg hb2086] at h
    cases h
def zf_L_law_J2158 (N : Nat) (k : Nat → Nat → Nat → Nat → Int32 → Nat → Nat → zm_S → Option ((Int32 × zm_S) ⊕ ((Unit) × zm_S))) (a0 : Nat) (a1 : Nat) (a2 : Nat) (a3 : Nat) (i4 : Int32) (rc rs : Nat) (S : zm_S) : Option ((Int32 × zm_S) ⊕ ((Unit) × zm_S)) := (za_x S 0 a0 (i4 + (1 : Int32))).bind (fun v325 => (za_x S 0 a0 (i4 + (2 : Int32))).bind (fun v326 => if 2 ≤ rc ∧ 12 ≤ rs then (zf_L_end N a1 v325 v326 a3 S).bind (fun r329 => (za_x r329.2 0 a0 (i4 + (1 : Int32))).bind (fun v330 => (za_x r329.2 0 a0 (i4 + (2 : Int32))).bind (fun v331 => (zi r329.2 a2 18).bind (fun _ => (zf_X18_end N a2 v330 v331 r329.2).bind (fun r333 => (zi r333.2 a2 18).bind (fun _ => (zf_X18_thrown N a2 r333.2).bind (fun r335 => if r335.1 = r329.1 then if r329.1 = 0 then (za_l r335.2 a3 (0 : Int32)).bind (fun w336 => if (lg_cmp w336 ((r333.1).toInt64)) = 0 then k a0 a1 a2 a3 (i4 + (7 : Int32)) (rc - 2) (rs - 12) r335.2 else none) else k a0 a1 a2 a3 (i4 + (7 : Int32)) (rc - 2) (rs - 12) r335.2 else none))))))) else none))
set_option maxHeartbeats 4000000 in
set_option maxRecDepth 100000 in
theorem zt_L_law_J2158 {p : Program} {l : Launch} {e : Env} {s : State} {m : MethodId} {zb : Nat} {below : List Frame} {meth : Method} {c : Code} {V : zm_V} {d : Nat} {nm : String} (hlt : l.stackTraces = false) (hV : V.2.2.2.1 = s.heap.size) (hX : zm_X p room_1 s m #[Value.ref zb] meth c RL nm cL_law 8 zk_E V 601024 7293034) (hr : meth.sig.returnType = ret) (hR : d ≤ room_1.frames ∧ 64 * d ≤ room_1.locals) (hd : 46 ≤ d) {N : Nat} {k : Nat → Nat → Nat → Nat → Int32 → Nat → Nat → zm_S → Option ((Int32 × zm_S) ⊕ ((Unit) × zm_S))} {rc rs : Nat} {a0 : Nat} {a1 : Nat} {a2 : Nat} {a3 : Nat} {i4 : Int32} {res : (Int32 × zm_S) ⊕ ((Unit) × zm_S)} {out : (Int32 × zm_S)}   (hf : ∀ o, res = .inl o → o = out) (hk : ∀ (S' : zm_S) (rc rs : Nat), res = .inr ((), S') → zw p l e room_1 s m #[Value.ref zb] below meth c (lw_Z below #[Value.ref zb] s) 8 zk_E V 601024 7293034 6008 [] [] S' rc rs) (hrec : ∀ (i4' : Int32) (rc rs : Nat) (S : zm_S), k a0 a1 a2 a3 i4' rc rs S = some res → zw p l e room_1 s m #[Value.ref zb] below meth c (lw_Z below #[Value.ref zb] s) 8 zk_E V 601024 7293034 23 [(0, .ref a0), (1, .ref a1), (2, .ref a2), (3, .ref a3), (4, .int i4')] [] S rc rs) {S : zm_S} (h : zf_L_law_J2158 N k a0 a1 a2 a3 i4 rc rs S = some res) : zw p l e room_1 s m #[Value.ref zb] below meth c (lw_Z below #[Value.ref zb] s) 8 zk_E V 601024 7293034 2158 [(0, .ref a0), (1, .ref a1), (2, .ref a2), (3, .ref a3), (4, .int i4)] [] S rc rs := by
  unfold zf_L_law_J2158 at h
  refine zw_aload_n hX dL_law_2158 rfl ?_
  refine zw_aload_n hX dL_law_2159 rfl ?_
  refine zw_iload hX dL_law_2160 rfl ?_
  refine zw_iconst (v := (1 : Int32)) hX dL_law_2162 (by decide) ?_
  refine zw_iadd hX dL_law_2163 ?_
  obtain ⟨v325, g, h⟩ := zb_some h
  refine zw_xi hX dL_law_2164 g ?_
  refine zw_aload_n hX dL_law_2165 rfl ?_
  refine zw_iload hX dL_law_2166 rfl ?_
  refine zw_iconst (v := (2 : Int32)) hX dL_law_2168 (by decide) ?_
  refine zw_iadd hX dL_law_2169 ?_
  obtain ⟨v326, g, h⟩ := zb_some h
  refine zw_xi hX dL_law_2170 g ?_
  refine zw_aload_n hX dL_law_2171 rfl ?_
  by_cases hb2172 : 2 ≤ rc ∧ 12 ≤ rs
  · rw [if_pos hb2172] at h
    obtain ⟨r329, g, h⟩ := zb_some h
    refine zc_S (as := [.ref a1, .int v325, .int v326, .ref a3]) hX (zt_L_end hlt (d := d - 1) (by omega) g) zl_L_367 dL_law_2172 ⟨rfl, rfl, Nat.le_of_ble_eq_true rfl⟩ ⟨by omega, by omega⟩ hb2172 ?_ ?_
    · rintro _ _ ⟨rfl, rfl⟩
      refine zw_istore hX dL_law_2175 (by decide) ?_
      refine zw_aload_n hX dL_law_2177 rfl ?_
      refine zw_aload_n hX dL_law_2178 rfl ?_
      refine zw_iload hX dL_law_2179 rfl ?_
      refine zw_iconst (v := (1 : Int32)) hX dL_law_2181 (by decide) ?_
      refine zw_iadd hX dL_law_2182 ?_
      obtain ⟨v330, g, h⟩ := zb_some h
      refine zw_xi hX dL_law_2183 g ?_
      refine zw_aload_n hX dL_law_2184 rfl ?_
      refine zw_iload hX dL_law_2185 rfl ?_
      refine zw_iconst (v := (2 : Int32)) hX dL_law_2187 (by decide) ?_
      refine zw_iadd hX dL_law_2188 ?_
      obtain ⟨v331, g, h⟩ := zb_some h
      refine zw_xi hX dL_law_2189 g ?_
      obtain ⟨_, gi, h⟩ := zb_some h
      obtain ⟨r333, g, h⟩ := zb_some h
      refine zc_Vi (as := [.int v330, .int v331]) hX gi (zt_X18_end (d := d - 1) (by omega) g) zl_L_369 rfl dL_law_2190 ⟨rfl, rfl, Nat.le_of_ble_eq_true rfl⟩ ⟨by omega, by omega⟩ ?_
      refine zw_istore hX dL_law_2193 (by decide) ?_
      refine zw_aload_n hX dL_law_2195 rfl ?_
      obtain ⟨_, gi, h⟩ := zb_some h
      obtain ⟨r335, g, h⟩ := zb_some h
      refine zc_Vi (as := []) hX gi (zt_X18_thrown (d := d - 1) (by omega) g) zl_L_281 rfl dL_law_2196 ⟨rfl, rfl, Nat.le_of_ble_eq_true rfl⟩ ⟨by omega, by omega⟩ ?_
      refine zw_iload hX dL_law_2199 rfl ?_
      refine zw_icmp_eq (tgt := 2206) hX dL_law_2201 (by decide) (fun c2201 => ?_) (fun c2201 => ?_)
      · rw [if_pos c2201] at h
        refine zw_iload hX dL_law_2206 rfl ?_
        refine zw_if_ne (tgt := 2223) hX dL_law_2208 (by decide) (fun c2208 => ?_) (fun c2208 => ?_)
        · rw [if_neg c2208] at h
          refine zw_goto (tgt := 6002) hX dL_law_2223 (by decide) ?_
          refine zw_iinc (v := (i4 + (7 : Int32))) hX dL_law_6002 rfl rfl (by decide) ?_
          refine zw_goto (tgt := 23) hX dL_law_6005 (by decide) ?_
          refine zw_sub (lv' := [(0, .ref a0), (1, .ref a1), (2, .ref a2), (3, .ref a3), (4, .int (i4 + (7 : Int32)))]) (List.forall_mem_cons.mpr ⟨rfl, (List.forall_mem_cons.mpr ⟨rfl, (List.forall_mem_cons.mpr ⟨rfl, (List.forall_mem_cons.mpr ⟨rfl, (List.forall_mem_cons.mpr ⟨rfl, zs_nil⟩)⟩)⟩)⟩)⟩) ?_
          exact hrec _ _ _ _ h
        · rw [if_pos c2208] at h
          refine zw_aload_n hX dL_law_2211 rfl ?_
          refine zw_iconst (v := (0 : Int32)) hX dL_law_2212 (by decide) ?_
          obtain ⟨w336, g, h⟩ := zb_some h
          refine zw_xl hX dL_law_2213 g ?_
          refine zw_iload hX dL_law_2214 rfl ?_
          refine zw_i2l hX dL_law_2216 ?_
          refine zw_lcmp hX dL_law_2217 ?_
          refine zw_if_eq (tgt := 2223) hX dL_law_2218 (by decide) (fun c2218 => ?_) (fun c2218 => ?_)
          · rw [if_pos c2218] at h
            refine zw_goto (tgt := 6002) hX dL_law_2223 (by decide) ?_
            refine zw_iinc (v := (i4 + (7 : Int32))) hX dL_law_6002 rfl rfl (by decide) ?_
            refine zw_goto (tgt := 23) hX dL_law_6005 (by decide) ?_
            refine zw_sub (lv' := [(0, .ref a0), (1, .ref a1), (2, .ref a2), (3, .ref a3), (4, .int (i4 + (7 : Int32)))]) (List.forall_mem_cons.mpr ⟨rfl, (List.forall_mem_cons.mpr ⟨rfl, (List.forall_mem_cons.mpr ⟨rfl, (List.forall_mem_cons.mpr ⟨rfl, (List.forall_mem_cons.mpr ⟨rfl, zs_nil⟩)⟩)⟩)⟩)⟩) ?_
            exact hrec _ _ _ _ h
          · rw [if_neg c2218] at h
            refine zw_iconst (v := (0 : Int32)) hX dL_law_2221 (by decide) ?_
            cases h
      · rw [if_neg c2201] at h
        refine zw_iconst (v := (0 : Int32)) hX dL_law_2204 (by decide) ?_
        cases h
    · intro _ _ hx
      exact hx.elim
  · rw [if_neg hb2172] at h
    cases h
def zf_L_law_J2226 (N : Nat) (k : Nat → Nat → Nat → Nat → Int32 → Nat → Nat → zm_S → Option ((Int32 × zm_S) ⊕ ((Unit) × zm_S))) (a0 : Nat) (a1 : Nat) (a2 : Nat) (a3 : Nat) (i4 : Int32) (rc rs : Nat) (S : zm_S) : Option ((Int32 × zm_S) ⊕ ((Unit) × zm_S)) := (za_x S 0 a0 (i4 + (1 : Int32))).bind (fun v337 => (za_x S 0 a0 (i4 + (2 : Int32))).bind (fun v338 => if 2 ≤ rc ∧ 12 ≤ rs then (zf_L_lost N a1 v337 v338 a3 S).bind (fun r341 => (za_x r341.2 0 a0 (i4 + (1 : Int32))).bind (fun v342 => (za_x r341.2 0 a0 (i4 + (2 : Int32))).bind (fun v343 => (zi r341.2 a2 18).bind (fun _ => (zf_X18_lost N a2 v342 v343 r341.2).bind (fun r345 => (zi r345.2 a2 18).bind (fun _ => (zf_X18_thrown N a2 r345.2).bind (fun r347 => if r347.1 = r341.1 then if r341.1 = 0 then (za_l r347.2 a3 (0 : Int32)).bind (fun w348 => if (lg_cmp w348 ((r345.1).toInt64)) = 0 then k a0 a1 a2 a3 (i4 + (7 : Int32)) (rc - 2) (rs - 12) r347.2 else none) else k a0 a1 a2 a3 (i4 + (7 : Int32)) (rc - 2) (rs - 12) r347.2 else none))))))) else none))
set_option maxHeartbeats 4000000 in
set_option maxRecDepth 100000 in
theorem zt_L_law_J2226 {p : Program} {l : Launch} {e : Env} {s : State} {m : MethodId} {zb : Nat} {below : List Frame} {meth : Method} {c : Code} {V : zm_V} {d : Nat} {nm : String} (hlt : l.stackTraces = false) (hV : V.2.2.2.1 = s.heap.size) (hX : zm_X p room_1 s m #[Value.ref zb] meth c RL nm cL_law 8 zk_E V 601024 7293034) (hr : meth.sig.returnType = ret) (hR : d ≤ room_1.frames ∧ 64 * d ≤ room_1.locals) (hd : 46 ≤ d) {N : Nat} {k : Nat → Nat → Nat → Nat → Int32 → Nat → Nat → zm_S → Option ((Int32 × zm_S) ⊕ ((Unit) × zm_S))} {rc rs : Nat} {a0 : Nat} {a1 : Nat} {a2 : Nat} {a3 : Nat} {i4 : Int32} {res : (Int32 × zm_S) ⊕ ((Unit) × zm_S)} {out : (Int32 × zm_S)}   (hf : ∀ o, res = .inl o → o = out) (hk : ∀ (S' : zm_S) (rc rs : Nat), res = .inr ((), S') → zw p l e room_1 s m #[Value.ref zb] below meth c (lw_Z below #[Value.ref zb] s) 8 zk_E V 601024 7293034 6008 [] [] S' rc rs) (hrec : ∀ (i4' : Int32) (rc rs : Nat) (S : zm_S), k a0 a1 a2 a3 i4' rc rs S = some res → zw p l e room_1 s m #[Value.ref zb] below meth c (lw_Z below #[Value.ref zb] s) 8 zk_E V 601024 7293034 23 [(0, .ref a0), (1, .ref a1), (2, .ref a2), (3, .ref a3), (4, .int i4')] [] S rc rs) {S : zm_S} (h : zf_L_law_J2226 N k a0 a1 a2 a3 i4 rc rs S = some res) : zw p l e room_1 s m #[Value.ref zb] below meth c (lw_Z below #[Value.ref zb] s) 8 zk_E V 601024 7293034 2226 [(0, .ref a0), (1, .ref a1), (2, .ref a2), (3, .ref a3), (4, .int i4)] [] S rc rs := by
  unfold zf_L_law_J2226 at h
  refine zw_aload_n hX dL_law_2226 rfl ?_
  refine zw_aload_n hX dL_law_2227 rfl ?_
  refine zw_iload hX dL_law_2228 rfl ?_
  refine zw_iconst (v := (1 : Int32)) hX dL_law_2230 (by decide) ?_
  refine zw_iadd hX dL_law_2231 ?_
  obtain ⟨v337, g, h⟩ := zb_some h
  refine zw_xi hX dL_law_2232 g ?_
  refine zw_aload_n hX dL_law_2233 rfl ?_
  refine zw_iload hX dL_law_2234 rfl ?_
  refine zw_iconst (v := (2 : Int32)) hX dL_law_2236 (by decide) ?_
  refine zw_iadd hX dL_law_2237 ?_
  obtain ⟨v338, g, h⟩ := zb_some h
  refine zw_xi hX dL_law_2238 g ?_
  refine zw_aload_n hX dL_law_2239 rfl ?_
  by_cases hb2240 : 2 ≤ rc ∧ 12 ≤ rs
  · rw [if_pos hb2240] at h
    obtain ⟨r341, g, h⟩ := zb_some h
    refine zc_S (as := [.ref a1, .int v337, .int v338, .ref a3]) hX (zt_L_lost hlt (d := d - 1) (by omega) g) zl_L_370 dL_law_2240 ⟨rfl, rfl, Nat.le_of_ble_eq_true rfl⟩ ⟨by omega, by omega⟩ hb2240 ?_ ?_
    · rintro _ _ ⟨rfl, rfl⟩
      refine zw_istore hX dL_law_2243 (by decide) ?_
      refine zw_aload_n hX dL_law_2245 rfl ?_
      refine zw_aload_n hX dL_law_2246 rfl ?_
      refine zw_iload hX dL_law_2247 rfl ?_
      refine zw_iconst (v := (1 : Int32)) hX dL_law_2249 (by decide) ?_
      refine zw_iadd hX dL_law_2250 ?_
      obtain ⟨v342, g, h⟩ := zb_some h
      refine zw_xi hX dL_law_2251 g ?_
      refine zw_aload_n hX dL_law_2252 rfl ?_
      refine zw_iload hX dL_law_2253 rfl ?_
      refine zw_iconst (v := (2 : Int32)) hX dL_law_2255 (by decide) ?_
      refine zw_iadd hX dL_law_2256 ?_
      obtain ⟨v343, g, h⟩ := zb_some h
      refine zw_xi hX dL_law_2257 g ?_
      obtain ⟨_, gi, h⟩ := zb_some h
      obtain ⟨r345, g, h⟩ := zb_some h
      refine zc_Vi (as := [.int v342, .int v343]) hX gi (zt_X18_lost (d := d - 1) (by omega) g) zl_L_372 rfl dL_law_2258 ⟨rfl, rfl, Nat.le_of_ble_eq_true rfl⟩ ⟨by omega, by omega⟩ ?_
      refine zw_istore hX dL_law_2261 (by decide) ?_
      refine zw_aload_n hX dL_law_2263 rfl ?_
      obtain ⟨_, gi, h⟩ := zb_some h
      obtain ⟨r347, g, h⟩ := zb_some h
      refine zc_Vi (as := []) hX gi (zt_X18_thrown (d := d - 1) (by omega) g) zl_L_281 rfl dL_law_2264 ⟨rfl, rfl, Nat.le_of_ble_eq_true rfl⟩ ⟨by omega, by omega⟩ ?_
      refine zw_iload hX dL_law_2267 rfl ?_
      refine zw_icmp_eq (tgt := 2274) hX dL_law_2269 (by decide) (fun c2269 => ?_) (fun c2269 => ?_)
      · rw [if_pos c2269] at h
        refine zw_iload hX dL_law_2274 rfl ?_
        refine zw_if_ne (tgt := 2291) hX dL_law_2276 (by decide) (fun c2276 => ?_) (fun c2276 => ?_)
        · rw [if_neg c2276] at h
          refine zw_goto (tgt := 6002) hX dL_law_2291 (by decide) ?_
          refine zw_iinc (v := (i4 + (7 : Int32))) hX dL_law_6002 rfl rfl (by decide) ?_
          refine zw_goto (tgt := 23) hX dL_law_6005 (by decide) ?_
          refine zw_sub (lv' := [(0, .ref a0), (1, .ref a1), (2, .ref a2), (3, .ref a3), (4, .int (i4 + (7 : Int32)))]) (List.forall_mem_cons.mpr ⟨rfl, (List.forall_mem_cons.mpr ⟨rfl, (List.forall_mem_cons.mpr ⟨rfl, (List.forall_mem_cons.mpr ⟨rfl, (List.forall_mem_cons.mpr ⟨rfl, zs_nil⟩)⟩)⟩)⟩)⟩) ?_
          exact hrec _ _ _ _ h
        · rw [if_pos c2276] at h
          refine zw_aload_n hX dL_law_2279 rfl ?_
          refine zw_iconst (v := (0 : Int32)) hX dL_law_2280 (by decide) ?_
          obtain ⟨w348, g, h⟩ := zb_some h
          refine zw_xl hX dL_law_2281 g ?_
          refine zw_iload hX dL_law_2282 rfl ?_
          refine zw_i2l hX dL_law_2284 ?_
          refine zw_lcmp hX dL_law_2285 ?_
          refine zw_if_eq (tgt := 2291) hX dL_law_2286 (by decide) (fun c2286 => ?_) (fun c2286 => ?_)
          · rw [if_pos c2286] at h
            refine zw_goto (tgt := 6002) hX dL_law_2291 (by decide) ?_
            refine zw_iinc (v := (i4 + (7 : Int32))) hX dL_law_6002 rfl rfl (by decide) ?_
            refine zw_goto (tgt := 23) hX dL_law_6005 (by decide) ?_
            refine zw_sub (lv' := [(0, .ref a0), (1, .ref a1), (2, .ref a2), (3, .ref a3), (4, .int (i4 + (7 : Int32)))]) (List.forall_mem_cons.mpr ⟨rfl, (List.forall_mem_cons.mpr ⟨rfl, (List.forall_mem_cons.mpr ⟨rfl, (List.forall_mem_cons.mpr ⟨rfl, (List.forall_mem_cons.mpr ⟨rfl, zs_nil⟩)⟩)⟩)⟩)⟩) ?_
            exact hrec _ _ _ _ h
          · rw [if_neg c2286] at h
            refine zw_iconst (v := (0 : Int32)) hX dL_law_2289 (by decide) ?_
            cases h
      · rw [if_neg c2269] at h
        refine zw_iconst (v := (0 : Int32)) hX dL_law_2272 (by decide) ?_
        cases h
    · intro _ _ hx
      exact hx.elim
  · rw [if_neg hb2240] at h
    cases h
def zf_L_law_J2376 (N : Nat) (k : Nat → Nat → Nat → Nat → Int32 → Nat → Nat → zm_S → Option ((Int32 × zm_S) ⊕ ((Unit) × zm_S))) (a0 : Nat) (a1 : Nat) (a2 : Nat) (a3 : Nat) (i4 : Int32) (t0 : Int64) (t1 : Int64) (rc rs : Nat) (S : zm_S) : Option ((Int32 × zm_S) ⊕ ((Unit) × zm_S)) := if (lg_cmp t0 t1) = 0 then k a0 a1 a2 a3 (i4 + (7 : Int32)) rc rs S else none
set_option maxHeartbeats 4000000 in
set_option maxRecDepth 100000 in
theorem zt_L_law_J2376 {p : Program} {l : Launch} {e : Env} {s : State} {m : MethodId} {zb : Nat} {below : List Frame} {meth : Method} {c : Code} {V : zm_V} {d : Nat} {nm : String} (hlt : l.stackTraces = false) (hV : V.2.2.2.1 = s.heap.size) (hX : zm_X p room_1 s m #[Value.ref zb] meth c RL nm cL_law 8 zk_E V 601024 7293034) (hr : meth.sig.returnType = ret) (hR : d ≤ room_1.frames ∧ 64 * d ≤ room_1.locals) (hd : 46 ≤ d) {N : Nat} {k : Nat → Nat → Nat → Nat → Int32 → Nat → Nat → zm_S → Option ((Int32 × zm_S) ⊕ ((Unit) × zm_S))} {rc rs : Nat} {a0 : Nat} {a1 : Nat} {a2 : Nat} {a3 : Nat} {i4 : Int32} {t0 : Int64} {t1 : Int64} {res : (Int32 × zm_S) ⊕ ((Unit) × zm_S)} {out : (Int32 × zm_S)}   (hf : ∀ o, res = .inl o → o = out) (hk : ∀ (S' : zm_S) (rc rs : Nat), res = .inr ((), S') → zw p l e room_1 s m #[Value.ref zb] below meth c (lw_Z below #[Value.ref zb] s) 8 zk_E V 601024 7293034 6008 [] [] S' rc rs) (hrec : ∀ (i4' : Int32) (rc rs : Nat) (S : zm_S), k a0 a1 a2 a3 i4' rc rs S = some res → zw p l e room_1 s m #[Value.ref zb] below meth c (lw_Z below #[Value.ref zb] s) 8 zk_E V 601024 7293034 23 [(0, .ref a0), (1, .ref a1), (2, .ref a2), (3, .ref a3), (4, .int i4')] [] S rc rs) {S : zm_S} (h : zf_L_law_J2376 N k a0 a1 a2 a3 i4 t0 t1 rc rs S = some res) : zw p l e room_1 s m #[Value.ref zb] below meth c (lw_Z below #[Value.ref zb] s) 8 zk_E V 601024 7293034 2376 [(0, .ref a0), (1, .ref a1), (2, .ref a2), (3, .ref a3), (4, .int i4)] [.long t1, .long t0] S rc rs := by
  unfold zf_L_law_J2376 at h
  refine zw_lcmp hX dL_law_2376 ?_
  refine zw_if_eq (tgt := 2382) hX dL_law_2377 (by decide) (fun c2377 => ?_) (fun c2377 => ?_)
  · rw [if_pos c2377] at h
    refine zw_goto (tgt := 6002) hX dL_law_2382 (by decide) ?_
    refine zw_iinc (v := (i4 + (7 : Int32))) hX dL_law_6002 rfl rfl (by decide) ?_
    refine zw_goto (tgt := 23) hX dL_law_6005 (by decide) ?_
    refine zw_sub (lv' := [(0, .ref a0), (1, .ref a1), (2, .ref a2), (3, .ref a3), (4, .int (i4 + (7 : Int32)))]) (List.forall_mem_cons.mpr ⟨rfl, (List.forall_mem_cons.mpr ⟨rfl, (List.forall_mem_cons.mpr ⟨rfl, (List.forall_mem_cons.mpr ⟨rfl, (List.forall_mem_cons.mpr ⟨rfl, zs_nil⟩)⟩)⟩)⟩)⟩) ?_
    exact hrec _ _ _ _ h
  · rw [if_neg c2377] at h
    refine zw_iconst (v := (0 : Int32)) hX dL_law_2380 (by decide) ?_
    cases h
def zf_L_law_J2342 (N : Nat) (k : Nat → Nat → Nat → Nat → Int32 → Nat → Nat → zm_S → Option ((Int32 × zm_S) ⊕ ((Unit) × zm_S))) (a0 : Nat) (a1 : Nat) (a2 : Nat) (a3 : Nat) (i4 : Int32) (i5 : Int32) (t0 : Nat) (t1 : Int32) (t2 : Int32) (rc rs : Nat) (S : zm_S) : Option ((Int32 × zm_S) ⊕ ((Unit) × zm_S)) := (zi S t0 18).bind (fun _ => (zf_X18_two N t0 t1 t2 S).bind (fun r357 => (zi r357.2 a2 18).bind (fun _ => (zf_X18_thrown N a2 r357.2).bind (fun r359 => if r359.1 = i5 then if i5 = 0 then (za_l r359.2 a3 (0 : Int32)).bind (fun w360 => if r357.1 = 0 then zf_L_law_J2376 N (k) a0 a1 a2 a3 i4 w360 (0 : Int64) rc rs r359.2 else zf_L_law_J2376 N (k) a0 a1 a2 a3 i4 w360 (1 : Int64) rc rs r359.2) else k a0 a1 a2 a3 (i4 + (7 : Int32)) rc rs r359.2 else none))))
set_option maxHeartbeats 4000000 in
set_option maxRecDepth 100000 in
theorem zt_L_law_J2342 {p : Program} {l : Launch} {e : Env} {s : State} {m : MethodId} {zb : Nat} {below : List Frame} {meth : Method} {c : Code} {V : zm_V} {d : Nat} {nm : String} (hlt : l.stackTraces = false) (hV : V.2.2.2.1 = s.heap.size) (hX : zm_X p room_1 s m #[Value.ref zb] meth c RL nm cL_law 8 zk_E V 601024 7293034) (hr : meth.sig.returnType = ret) (hR : d ≤ room_1.frames ∧ 64 * d ≤ room_1.locals) (hd : 46 ≤ d) {N : Nat} {k : Nat → Nat → Nat → Nat → Int32 → Nat → Nat → zm_S → Option ((Int32 × zm_S) ⊕ ((Unit) × zm_S))} {rc rs : Nat} {a0 : Nat} {a1 : Nat} {a2 : Nat} {a3 : Nat} {i4 : Int32} {i5 : Int32} {t0 : Nat} {t1 : Int32} {t2 : Int32} {res : (Int32 × zm_S) ⊕ ((Unit) × zm_S)} {out : (Int32 × zm_S)}   (hf : ∀ o, res = .inl o → o = out) (hk : ∀ (S' : zm_S) (rc rs : Nat), res = .inr ((), S') → zw p l e room_1 s m #[Value.ref zb] below meth c (lw_Z below #[Value.ref zb] s) 8 zk_E V 601024 7293034 6008 [] [] S' rc rs) (hrec : ∀ (i4' : Int32) (rc rs : Nat) (S : zm_S), k a0 a1 a2 a3 i4' rc rs S = some res → zw p l e room_1 s m #[Value.ref zb] below meth c (lw_Z below #[Value.ref zb] s) 8 zk_E V 601024 7293034 23 [(0, .ref a0), (1, .ref a1), (2, .ref a2), (3, .ref a3), (4, .int i4')] [] S rc rs) {S : zm_S} (h : zf_L_law_J2342 N k a0 a1 a2 a3 i4 i5 t0 t1 t2 rc rs S = some res) : zw p l e room_1 s m #[Value.ref zb] below meth c (lw_Z below #[Value.ref zb] s) 8 zk_E V 601024 7293034 2342 [(0, .ref a0), (1, .ref a1), (2, .ref a2), (3, .ref a3), (4, .int i4), (5, .int i5)] [.int t2, .int t1, .ref t0] S rc rs := by
  unfold zf_L_law_J2342 at h
  obtain ⟨_, gi, h⟩ := zb_some h
  obtain ⟨r357, g, h⟩ := zb_some h
  refine zc_Vi (as := [.int t1, .int t2]) hX gi (zt_X18_two (d := d - 1) (by omega) g) zl_L_376 rfl dL_law_2342 ⟨rfl, rfl, Nat.le_of_ble_eq_true rfl⟩ ⟨by omega, by omega⟩ ?_
  refine zw_istore hX dL_law_2345 (by decide) ?_
  refine zw_aload_n hX dL_law_2347 rfl ?_
  obtain ⟨_, gi, h⟩ := zb_some h
  obtain ⟨r359, g, h⟩ := zb_some h
  refine zc_Vi (as := []) hX gi (zt_X18_thrown (d := d - 1) (by omega) g) zl_L_281 rfl dL_law_2348 ⟨rfl, rfl, Nat.le_of_ble_eq_true rfl⟩ ⟨by omega, by omega⟩ ?_
  refine zw_iload hX dL_law_2351 rfl ?_
  refine zw_icmp_eq (tgt := 2358) hX dL_law_2353 (by decide) (fun c2353 => ?_) (fun c2353 => ?_)
  · rw [if_pos c2353] at h
    refine zw_iload hX dL_law_2358 rfl ?_
    refine zw_if_ne (tgt := 2382) hX dL_law_2360 (by decide) (fun c2360 => ?_) (fun c2360 => ?_)
    · rw [if_neg c2360] at h
      refine zw_goto (tgt := 6002) hX dL_law_2382 (by decide) ?_
      refine zw_iinc (v := (i4 + (7 : Int32))) hX dL_law_6002 rfl rfl (by decide) ?_
      refine zw_goto (tgt := 23) hX dL_law_6005 (by decide) ?_
      refine zw_sub (lv' := [(0, .ref a0), (1, .ref a1), (2, .ref a2), (3, .ref a3), (4, .int (i4 + (7 : Int32)))]) (List.forall_mem_cons.mpr ⟨rfl, (List.forall_mem_cons.mpr ⟨rfl, (List.forall_mem_cons.mpr ⟨rfl, (List.forall_mem_cons.mpr ⟨rfl, (List.forall_mem_cons.mpr ⟨rfl, zs_nil⟩)⟩)⟩)⟩)⟩) ?_
      exact hrec _ _ _ _ h
    · rw [if_pos c2360] at h
      refine zw_aload_n hX dL_law_2363 rfl ?_
      refine zw_iconst (v := (0 : Int32)) hX dL_law_2364 (by decide) ?_
      obtain ⟨w360, g, h⟩ := zb_some h
      refine zw_xl hX dL_law_2365 g ?_
      refine zw_iload hX dL_law_2366 rfl ?_
      refine zw_if_eq (tgt := 2375) hX dL_law_2368 (by decide) (fun c2368 => ?_) (fun c2368 => ?_)
      · rw [if_pos c2368] at h
        refine zw_lconst (v := (0 : Int64)) hX dL_law_2375 (by decide) ?_
        refine zw_sub (lv' := [(0, .ref a0), (1, .ref a1), (2, .ref a2), (3, .ref a3), (4, .int i4)]) (List.forall_mem_cons.mpr ⟨rfl, (List.forall_mem_cons.mpr ⟨rfl, (List.forall_mem_cons.mpr ⟨rfl, (List.forall_mem_cons.mpr ⟨rfl, (List.forall_mem_cons.mpr ⟨rfl, zs_nil⟩)⟩)⟩)⟩)⟩) ?_
        exact zt_L_law_J2376 hlt hV hX hr hR hd hf hk hrec h
      · rw [if_neg c2368] at h
        refine zw_lconst (v := (1 : Int64)) hX dL_law_2371 (by decide) ?_
        refine zw_goto (tgt := 2376) hX dL_law_2372 (by decide) ?_
        refine zw_sub (lv' := [(0, .ref a0), (1, .ref a1), (2, .ref a2), (3, .ref a3), (4, .int i4)]) (List.forall_mem_cons.mpr ⟨rfl, (List.forall_mem_cons.mpr ⟨rfl, (List.forall_mem_cons.mpr ⟨rfl, (List.forall_mem_cons.mpr ⟨rfl, (List.forall_mem_cons.mpr ⟨rfl, zs_nil⟩)⟩)⟩)⟩)⟩) ?_
        exact zt_L_law_J2376 hlt hV hX hr hR hd hf hk hrec h
  · rw [if_neg c2353] at h
    refine zw_iconst (v := (0 : Int32)) hX dL_law_2356 (by decide) ?_
    cases h
def zf_L_law_J2315 (N : Nat) (k : Nat → Nat → Nat → Nat → Int32 → Nat → Nat → zm_S → Option ((Int32 × zm_S) ⊕ ((Unit) × zm_S))) (a0 : Nat) (a1 : Nat) (a2 : Nat) (a3 : Nat) (i4 : Int32) (t0 : Nat) (t1 : Int32) (t2 : Int32) (rc rs : Nat) (S : zm_S) : Option ((Int32 × zm_S) ⊕ ((Unit) × zm_S)) := if 2 ≤ rc ∧ 12 ≤ rs then (zf_L_two N t0 t1 t2 a3 S).bind (fun r353 => (za_x r353.2 0 a0 (i4 + (1 : Int32))).bind (fun v354 => (za_x r353.2 0 a0 (i4 + (2 : Int32))).bind (fun v355 => if v355 = 0 then zf_L_law_J2342 N (k) a0 a1 a2 a3 i4 r353.1 a2 v354 (0 : Int32) (rc - 2) (rs - 12) r353.2 else zf_L_law_J2342 N (k) a0 a1 a2 a3 i4 r353.1 a2 v354 (1 : Int32) (rc - 2) (rs - 12) r353.2))) else none
set_option maxHeartbeats 4000000 in
set_option maxRecDepth 100000 in
theorem zt_L_law_J2315 {p : Program} {l : Launch} {e : Env} {s : State} {m : MethodId} {zb : Nat} {below : List Frame} {meth : Method} {c : Code} {V : zm_V} {d : Nat} {nm : String} (hlt : l.stackTraces = false) (hV : V.2.2.2.1 = s.heap.size) (hX : zm_X p room_1 s m #[Value.ref zb] meth c RL nm cL_law 8 zk_E V 601024 7293034) (hr : meth.sig.returnType = ret) (hR : d ≤ room_1.frames ∧ 64 * d ≤ room_1.locals) (hd : 46 ≤ d) {N : Nat} {k : Nat → Nat → Nat → Nat → Int32 → Nat → Nat → zm_S → Option ((Int32 × zm_S) ⊕ ((Unit) × zm_S))} {rc rs : Nat} {a0 : Nat} {a1 : Nat} {a2 : Nat} {a3 : Nat} {i4 : Int32} {t0 : Nat} {t1 : Int32} {t2 : Int32} {res : (Int32 × zm_S) ⊕ ((Unit) × zm_S)} {out : (Int32 × zm_S)}   (hf : ∀ o, res = .inl o → o = out) (hk : ∀ (S' : zm_S) (rc rs : Nat), res = .inr ((), S') → zw p l e room_1 s m #[Value.ref zb] below meth c (lw_Z below #[Value.ref zb] s) 8 zk_E V 601024 7293034 6008 [] [] S' rc rs) (hrec : ∀ (i4' : Int32) (rc rs : Nat) (S : zm_S), k a0 a1 a2 a3 i4' rc rs S = some res → zw p l e room_1 s m #[Value.ref zb] below meth c (lw_Z below #[Value.ref zb] s) 8 zk_E V 601024 7293034 23 [(0, .ref a0), (1, .ref a1), (2, .ref a2), (3, .ref a3), (4, .int i4')] [] S rc rs) {S : zm_S} (h : zf_L_law_J2315 N k a0 a1 a2 a3 i4 t0 t1 t2 rc rs S = some res) : zw p l e room_1 s m #[Value.ref zb] below meth c (lw_Z below #[Value.ref zb] s) 8 zk_E V 601024 7293034 2315 [(0, .ref a0), (1, .ref a1), (2, .ref a2), (3, .ref a3), (4, .int i4)] [.int t2, .int t1, .ref t0] S rc rs := by
  unfold zf_L_law_J2315 at h
  refine zw_aload_n hX dL_law_2315 rfl ?_
  by_cases hb2316 : 2 ≤ rc ∧ 12 ≤ rs
  · rw [if_pos hb2316] at h
    obtain ⟨r353, g, h⟩ := zb_some h
    refine zc_S (as := [.ref t0, .int t1, .int t2, .ref a3]) hX (zt_L_two hlt (d := d - 1) (by omega) g) zl_L_373 dL_law_2316 ⟨rfl, rfl, Nat.le_of_ble_eq_true rfl⟩ ⟨by omega, by omega⟩ hb2316 ?_ ?_
    · rintro _ _ ⟨rfl, rfl⟩
      refine zw_istore hX dL_law_2319 (by decide) ?_
      refine zw_aload_n hX dL_law_2321 rfl ?_
      refine zw_aload_n hX dL_law_2322 rfl ?_
      refine zw_iload hX dL_law_2323 rfl ?_
      refine zw_iconst (v := (1 : Int32)) hX dL_law_2325 (by decide) ?_
      refine zw_iadd hX dL_law_2326 ?_
      obtain ⟨v354, g, h⟩ := zb_some h
      refine zw_xi hX dL_law_2327 g ?_
      refine zw_aload_n hX dL_law_2328 rfl ?_
      refine zw_iload hX dL_law_2329 rfl ?_
      refine zw_iconst (v := (2 : Int32)) hX dL_law_2331 (by decide) ?_
      refine zw_iadd hX dL_law_2332 ?_
      obtain ⟨v355, g, h⟩ := zb_some h
      refine zw_xi hX dL_law_2333 g ?_
      refine zw_if_eq (tgt := 2341) hX dL_law_2334 (by decide) (fun c2334 => ?_) (fun c2334 => ?_)
      · rw [if_pos c2334] at h
        refine zw_iconst (v := (0 : Int32)) hX dL_law_2341 (by decide) ?_
        refine zw_sub (lv' := [(0, .ref a0), (1, .ref a1), (2, .ref a2), (3, .ref a3), (4, .int i4), (5, .int r353.1)]) (List.forall_mem_cons.mpr ⟨rfl, (List.forall_mem_cons.mpr ⟨rfl, (List.forall_mem_cons.mpr ⟨rfl, (List.forall_mem_cons.mpr ⟨rfl, (List.forall_mem_cons.mpr ⟨rfl, (List.forall_mem_cons.mpr ⟨rfl, zs_nil⟩)⟩)⟩)⟩)⟩)⟩) ?_
        exact zt_L_law_J2342 hlt hV hX hr hR hd hf hk hrec h
      · rw [if_neg c2334] at h
        refine zw_iconst (v := (1 : Int32)) hX dL_law_2337 (by decide) ?_
        refine zw_goto (tgt := 2342) hX dL_law_2338 (by decide) ?_
        refine zw_sub (lv' := [(0, .ref a0), (1, .ref a1), (2, .ref a2), (3, .ref a3), (4, .int i4), (5, .int r353.1)]) (List.forall_mem_cons.mpr ⟨rfl, (List.forall_mem_cons.mpr ⟨rfl, (List.forall_mem_cons.mpr ⟨rfl, (List.forall_mem_cons.mpr ⟨rfl, (List.forall_mem_cons.mpr ⟨rfl, (List.forall_mem_cons.mpr ⟨rfl, zs_nil⟩)⟩)⟩)⟩)⟩)⟩) ?_
        exact zt_L_law_J2342 hlt hV hX hr hR hd hf hk hrec h
    · intro _ _ hx
      exact hx.elim
  · rw [if_neg hb2316] at h
    cases h
def zf_L_law_J2294 (N : Nat) (k : Nat → Nat → Nat → Nat → Int32 → Nat → Nat → zm_S → Option ((Int32 × zm_S) ⊕ ((Unit) × zm_S))) (a0 : Nat) (a1 : Nat) (a2 : Nat) (a3 : Nat) (i4 : Int32) (rc rs : Nat) (S : zm_S) : Option ((Int32 × zm_S) ⊕ ((Unit) × zm_S)) := (za_x S 0 a0 (i4 + (1 : Int32))).bind (fun v349 => (za_x S 0 a0 (i4 + (2 : Int32))).bind (fun v350 => if v350 = 0 then zf_L_law_J2315 N (k) a0 a1 a2 a3 i4 a1 v349 (0 : Int32) rc rs S else zf_L_law_J2315 N (k) a0 a1 a2 a3 i4 a1 v349 (1 : Int32) rc rs S))
set_option maxHeartbeats 4000000 in
set_option maxRecDepth 100000 in
theorem zt_L_law_J2294 {p : Program} {l : Launch} {e : Env} {s : State} {m : MethodId} {zb : Nat} {below : List Frame} {meth : Method} {c : Code} {V : zm_V} {d : Nat} {nm : String} (hlt : l.stackTraces = false) (hV : V.2.2.2.1 = s.heap.size) (hX : zm_X p room_1 s m #[Value.ref zb] meth c RL nm cL_law 8 zk_E V 601024 7293034) (hr : meth.sig.returnType = ret) (hR : d ≤ room_1.frames ∧ 64 * d ≤ room_1.locals) (hd : 46 ≤ d) {N : Nat} {k : Nat → Nat → Nat → Nat → Int32 → Nat → Nat → zm_S → Option ((Int32 × zm_S) ⊕ ((Unit) × zm_S))} {rc rs : Nat} {a0 : Nat} {a1 : Nat} {a2 : Nat} {a3 : Nat} {i4 : Int32} {res : (Int32 × zm_S) ⊕ ((Unit) × zm_S)} {out : (Int32 × zm_S)}   (hf : ∀ o, res = .inl o → o = out) (hk : ∀ (S' : zm_S) (rc rs : Nat), res = .inr ((), S') → zw p l e room_1 s m #[Value.ref zb] below meth c (lw_Z below #[Value.ref zb] s) 8 zk_E V 601024 7293034 6008 [] [] S' rc rs) (hrec : ∀ (i4' : Int32) (rc rs : Nat) (S : zm_S), k a0 a1 a2 a3 i4' rc rs S = some res → zw p l e room_1 s m #[Value.ref zb] below meth c (lw_Z below #[Value.ref zb] s) 8 zk_E V 601024 7293034 23 [(0, .ref a0), (1, .ref a1), (2, .ref a2), (3, .ref a3), (4, .int i4')] [] S rc rs) {S : zm_S} (h : zf_L_law_J2294 N k a0 a1 a2 a3 i4 rc rs S = some res) : zw p l e room_1 s m #[Value.ref zb] below meth c (lw_Z below #[Value.ref zb] s) 8 zk_E V 601024 7293034 2294 [(0, .ref a0), (1, .ref a1), (2, .ref a2), (3, .ref a3), (4, .int i4)] [] S rc rs := by
  unfold zf_L_law_J2294 at h
  refine zw_aload_n hX dL_law_2294 rfl ?_
  refine zw_aload_n hX dL_law_2295 rfl ?_
  refine zw_iload hX dL_law_2296 rfl ?_
  refine zw_iconst (v := (1 : Int32)) hX dL_law_2298 (by decide) ?_
  refine zw_iadd hX dL_law_2299 ?_
  obtain ⟨v349, g, h⟩ := zb_some h
  refine zw_xi hX dL_law_2300 g ?_
  refine zw_aload_n hX dL_law_2301 rfl ?_
  refine zw_iload hX dL_law_2302 rfl ?_
  refine zw_iconst (v := (2 : Int32)) hX dL_law_2304 (by decide) ?_
  refine zw_iadd hX dL_law_2305 ?_
  obtain ⟨v350, g, h⟩ := zb_some h
  refine zw_xi hX dL_law_2306 g ?_
  refine zw_if_eq (tgt := 2314) hX dL_law_2307 (by decide) (fun c2307 => ?_) (fun c2307 => ?_)
  · rw [if_pos c2307] at h
    refine zw_iconst (v := (0 : Int32)) hX dL_law_2314 (by decide) ?_
    refine zw_sub (lv' := [(0, .ref a0), (1, .ref a1), (2, .ref a2), (3, .ref a3), (4, .int i4)]) (List.forall_mem_cons.mpr ⟨rfl, (List.forall_mem_cons.mpr ⟨rfl, (List.forall_mem_cons.mpr ⟨rfl, (List.forall_mem_cons.mpr ⟨rfl, (List.forall_mem_cons.mpr ⟨rfl, zs_nil⟩)⟩)⟩)⟩)⟩) ?_
    exact zt_L_law_J2315 hlt hV hX hr hR hd hf hk hrec h
  · rw [if_neg c2307] at h
    refine zw_iconst (v := (1 : Int32)) hX dL_law_2310 (by decide) ?_
    refine zw_goto (tgt := 2315) hX dL_law_2311 (by decide) ?_
    refine zw_sub (lv' := [(0, .ref a0), (1, .ref a1), (2, .ref a2), (3, .ref a3), (4, .int i4)]) (List.forall_mem_cons.mpr ⟨rfl, (List.forall_mem_cons.mpr ⟨rfl, (List.forall_mem_cons.mpr ⟨rfl, (List.forall_mem_cons.mpr ⟨rfl, (List.forall_mem_cons.mpr ⟨rfl, zs_nil⟩)⟩)⟩)⟩)⟩) ?_
    exact zt_L_law_J2315 hlt hV hX hr hR hd hf hk hrec h
def zf_L_law_J2479 (N : Nat) (k : Nat → Nat → Nat → Nat → Int32 → Nat → Nat → zm_S → Option ((Int32 × zm_S) ⊕ ((Unit) × zm_S))) (a0 : Nat) (a1 : Nat) (a2 : Nat) (a3 : Nat) (i4 : Int32) (t0 : Int64) (t1 : Int64) (rc rs : Nat) (S : zm_S) : Option ((Int32 × zm_S) ⊕ ((Unit) × zm_S)) := if (lg_cmp t0 t1) = 0 then k a0 a1 a2 a3 (i4 + (7 : Int32)) rc rs S else none
set_option maxHeartbeats 4000000 in
set_option maxRecDepth 100000 in
theorem zt_L_law_J2479 {p : Program} {l : Launch} {e : Env} {s : State} {m : MethodId} {zb : Nat} {below : List Frame} {meth : Method} {c : Code} {V : zm_V} {d : Nat} {nm : String} (hlt : l.stackTraces = false) (hV : V.2.2.2.1 = s.heap.size) (hX : zm_X p room_1 s m #[Value.ref zb] meth c RL nm cL_law 8 zk_E V 601024 7293034) (hr : meth.sig.returnType = ret) (hR : d ≤ room_1.frames ∧ 64 * d ≤ room_1.locals) (hd : 46 ≤ d) {N : Nat} {k : Nat → Nat → Nat → Nat → Int32 → Nat → Nat → zm_S → Option ((Int32 × zm_S) ⊕ ((Unit) × zm_S))} {rc rs : Nat} {a0 : Nat} {a1 : Nat} {a2 : Nat} {a3 : Nat} {i4 : Int32} {t0 : Int64} {t1 : Int64} {res : (Int32 × zm_S) ⊕ ((Unit) × zm_S)} {out : (Int32 × zm_S)}   (hf : ∀ o, res = .inl o → o = out) (hk : ∀ (S' : zm_S) (rc rs : Nat), res = .inr ((), S') → zw p l e room_1 s m #[Value.ref zb] below meth c (lw_Z below #[Value.ref zb] s) 8 zk_E V 601024 7293034 6008 [] [] S' rc rs) (hrec : ∀ (i4' : Int32) (rc rs : Nat) (S : zm_S), k a0 a1 a2 a3 i4' rc rs S = some res → zw p l e room_1 s m #[Value.ref zb] below meth c (lw_Z below #[Value.ref zb] s) 8 zk_E V 601024 7293034 23 [(0, .ref a0), (1, .ref a1), (2, .ref a2), (3, .ref a3), (4, .int i4')] [] S rc rs) {S : zm_S} (h : zf_L_law_J2479 N k a0 a1 a2 a3 i4 t0 t1 rc rs S = some res) : zw p l e room_1 s m #[Value.ref zb] below meth c (lw_Z below #[Value.ref zb] s) 8 zk_E V 601024 7293034 2479 [(0, .ref a0), (1, .ref a1), (2, .ref a2), (3, .ref a3), (4, .int i4)] [.long t1, .long t0] S rc rs := by
  unfold zf_L_law_J2479 at h
  refine zw_lcmp hX dL_law_2479 ?_
  refine zw_if_eq (tgt := 2485) hX dL_law_2480 (by decide) (fun c2480 => ?_) (fun c2480 => ?_)
  · rw [if_pos c2480] at h
    refine zw_goto (tgt := 6002) hX dL_law_2485 (by decide) ?_
    refine zw_iinc (v := (i4 + (7 : Int32))) hX dL_law_6002 rfl rfl (by decide) ?_
    refine zw_goto (tgt := 23) hX dL_law_6005 (by decide) ?_
    refine zw_sub (lv' := [(0, .ref a0), (1, .ref a1), (2, .ref a2), (3, .ref a3), (4, .int (i4 + (7 : Int32)))]) (List.forall_mem_cons.mpr ⟨rfl, (List.forall_mem_cons.mpr ⟨rfl, (List.forall_mem_cons.mpr ⟨rfl, (List.forall_mem_cons.mpr ⟨rfl, (List.forall_mem_cons.mpr ⟨rfl, zs_nil⟩)⟩)⟩)⟩)⟩) ?_
    exact hrec _ _ _ _ h
  · rw [if_neg c2480] at h
    refine zw_iconst (v := (0 : Int32)) hX dL_law_2483 (by decide) ?_
    cases h
def zf_L_law_J2445 (N : Nat) (k : Nat → Nat → Nat → Nat → Int32 → Nat → Nat → zm_S → Option ((Int32 × zm_S) ⊕ ((Unit) × zm_S))) (a0 : Nat) (a1 : Nat) (a2 : Nat) (a3 : Nat) (i4 : Int32) (i5 : Int32) (t0 : Nat) (t1 : Int32) (t2 : Int32) (t3 : Int32) (rc rs : Nat) (S : zm_S) : Option ((Int32 × zm_S) ⊕ ((Unit) × zm_S)) := (zi S t0 18).bind (fun _ => (zf_X18_airlock N t0 t1 t2 t3 S).bind (fun r371 => (zi r371.2 a2 18).bind (fun _ => (zf_X18_thrown N a2 r371.2).bind (fun r373 => if r373.1 = i5 then if i5 = 0 then (za_l r373.2 a3 (0 : Int32)).bind (fun w374 => if r371.1 = 0 then zf_L_law_J2479 N (k) a0 a1 a2 a3 i4 w374 (0 : Int64) rc rs r373.2 else zf_L_law_J2479 N (k) a0 a1 a2 a3 i4 w374 (1 : Int64) rc rs r373.2) else k a0 a1 a2 a3 (i4 + (7 : Int32)) rc rs r373.2 else none))))
set_option maxHeartbeats 4000000 in
set_option maxRecDepth 100000 in
theorem zt_L_law_J2445 {p : Program} {l : Launch} {e : Env} {s : State} {m : MethodId} {zb : Nat} {below : List Frame} {meth : Method} {c : Code} {V : zm_V} {d : Nat} {nm : String} (hlt : l.stackTraces = false) (hV : V.2.2.2.1 = s.heap.size) (hX : zm_X p room_1 s m #[Value.ref zb] meth c RL nm cL_law 8 zk_E V 601024 7293034) (hr : meth.sig.returnType = ret) (hR : d ≤ room_1.frames ∧ 64 * d ≤ room_1.locals) (hd : 46 ≤ d) {N : Nat} {k : Nat → Nat → Nat → Nat → Int32 → Nat → Nat → zm_S → Option ((Int32 × zm_S) ⊕ ((Unit) × zm_S))} {rc rs : Nat} {a0 : Nat} {a1 : Nat} {a2 : Nat} {a3 : Nat} {i4 : Int32} {i5 : Int32} {t0 : Nat} {t1 : Int32} {t2 : Int32} {t3 : Int32} {res : (Int32 × zm_S) ⊕ ((Unit) × zm_S)} {out : (Int32 × zm_S)}   (hf : ∀ o, res = .inl o → o = out) (hk : ∀ (S' : zm_S) (rc rs : Nat), res = .inr ((), S') → zw p l e room_1 s m #[Value.ref zb] below meth c (lw_Z below #[Value.ref zb] s) 8 zk_E V 601024 7293034 6008 [] [] S' rc rs) (hrec : ∀ (i4' : Int32) (rc rs : Nat) (S : zm_S), k a0 a1 a2 a3 i4' rc rs S = some res → zw p l e room_1 s m #[Value.ref zb] below meth c (lw_Z below #[Value.ref zb] s) 8 zk_E V 601024 7293034 23 [(0, .ref a0), (1, .ref a1), (2, .ref a2), (3, .ref a3), (4, .int i4')] [] S rc rs) {S : zm_S} (h : zf_L_law_J2445 N k a0 a1 a2 a3 i4 i5 t0 t1 t2 t3 rc rs S = some res) : zw p l e room_1 s m #[Value.ref zb] below meth c (lw_Z below #[Value.ref zb] s) 8 zk_E V 601024 7293034 2445 [(0, .ref a0), (1, .ref a1), (2, .ref a2), (3, .ref a3), (4, .int i4), (5, .int i5)] [.int t3, .int t2, .int t1, .ref t0] S rc rs := by
  unfold zf_L_law_J2445 at h
  obtain ⟨_, gi, h⟩ := zb_some h
  obtain ⟨r371, g, h⟩ := zb_some h
  refine zc_Vi (as := [.int t1, .int t2, .int t3]) hX gi (zt_X18_airlock (d := d - 1) (by omega) g) zl_L_380 rfl dL_law_2445 ⟨rfl, rfl, Nat.le_of_ble_eq_true rfl⟩ ⟨by omega, by omega⟩ ?_
  refine zw_istore hX dL_law_2448 (by decide) ?_
  refine zw_aload_n hX dL_law_2450 rfl ?_
  obtain ⟨_, gi, h⟩ := zb_some h
  obtain ⟨r373, g, h⟩ := zb_some h
  refine zc_Vi (as := []) hX gi (zt_X18_thrown (d := d - 1) (by omega) g) zl_L_281 rfl dL_law_2451 ⟨rfl, rfl, Nat.le_of_ble_eq_true rfl⟩ ⟨by omega, by omega⟩ ?_
  refine zw_iload hX dL_law_2454 rfl ?_
  refine zw_icmp_eq (tgt := 2461) hX dL_law_2456 (by decide) (fun c2456 => ?_) (fun c2456 => ?_)
  · rw [if_pos c2456] at h
    refine zw_iload hX dL_law_2461 rfl ?_
    refine zw_if_ne (tgt := 2485) hX dL_law_2463 (by decide) (fun c2463 => ?_) (fun c2463 => ?_)
    · rw [if_neg c2463] at h
      refine zw_goto (tgt := 6002) hX dL_law_2485 (by decide) ?_
      refine zw_iinc (v := (i4 + (7 : Int32))) hX dL_law_6002 rfl rfl (by decide) ?_
      refine zw_goto (tgt := 23) hX dL_law_6005 (by decide) ?_
      refine zw_sub (lv' := [(0, .ref a0), (1, .ref a1), (2, .ref a2), (3, .ref a3), (4, .int (i4 + (7 : Int32)))]) (List.forall_mem_cons.mpr ⟨rfl, (List.forall_mem_cons.mpr ⟨rfl, (List.forall_mem_cons.mpr ⟨rfl, (List.forall_mem_cons.mpr ⟨rfl, (List.forall_mem_cons.mpr ⟨rfl, zs_nil⟩)⟩)⟩)⟩)⟩) ?_
      exact hrec _ _ _ _ h
    · rw [if_pos c2463] at h
      refine zw_aload_n hX dL_law_2466 rfl ?_
      refine zw_iconst (v := (0 : Int32)) hX dL_law_2467 (by decide) ?_
      obtain ⟨w374, g, h⟩ := zb_some h
      refine zw_xl hX dL_law_2468 g ?_
      refine zw_iload hX dL_law_2469 rfl ?_
      refine zw_if_eq (tgt := 2478) hX dL_law_2471 (by decide) (fun c2471 => ?_) (fun c2471 => ?_)
      · rw [if_pos c2471] at h
        refine zw_lconst (v := (0 : Int64)) hX dL_law_2478 (by decide) ?_
        refine zw_sub (lv' := [(0, .ref a0), (1, .ref a1), (2, .ref a2), (3, .ref a3), (4, .int i4)]) (List.forall_mem_cons.mpr ⟨rfl, (List.forall_mem_cons.mpr ⟨rfl, (List.forall_mem_cons.mpr ⟨rfl, (List.forall_mem_cons.mpr ⟨rfl, (List.forall_mem_cons.mpr ⟨rfl, zs_nil⟩)⟩)⟩)⟩)⟩) ?_
        exact zt_L_law_J2479 hlt hV hX hr hR hd hf hk hrec h
      · rw [if_neg c2471] at h
        refine zw_lconst (v := (1 : Int64)) hX dL_law_2474 (by decide) ?_
        refine zw_goto (tgt := 2479) hX dL_law_2475 (by decide) ?_
        refine zw_sub (lv' := [(0, .ref a0), (1, .ref a1), (2, .ref a2), (3, .ref a3), (4, .int i4)]) (List.forall_mem_cons.mpr ⟨rfl, (List.forall_mem_cons.mpr ⟨rfl, (List.forall_mem_cons.mpr ⟨rfl, (List.forall_mem_cons.mpr ⟨rfl, (List.forall_mem_cons.mpr ⟨rfl, zs_nil⟩)⟩)⟩)⟩)⟩) ?_
        exact zt_L_law_J2479 hlt hV hX hr hR hd hf hk hrec h
  · rw [if_neg c2456] at h
    refine zw_iconst (v := (0 : Int32)) hX dL_law_2459 (by decide) ?_
    cases h
def zf_L_law_J2412 (N : Nat) (k : Nat → Nat → Nat → Nat → Int32 → Nat → Nat → zm_S → Option ((Int32 × zm_S) ⊕ ((Unit) × zm_S))) (a0 : Nat) (a1 : Nat) (a2 : Nat) (a3 : Nat) (i4 : Int32) (t0 : Nat) (t1 : Int32) (t2 : Int32) (t3 : Int32) (rc rs : Nat) (S : zm_S) : Option ((Int32 × zm_S) ⊕ ((Unit) × zm_S)) := if 2 ≤ rc ∧ 12 ≤ rs then (zf_L_airlock N t0 t1 t2 t3 a3 S).bind (fun r366 => (za_x r366.2 0 a0 (i4 + (1 : Int32))).bind (fun v367 => (za_x r366.2 0 a0 (i4 + (2 : Int32))).bind (fun v368 => (za_x r366.2 0 a0 (i4 + (3 : Int32))).bind (fun v369 => if v369 = 0 then zf_L_law_J2445 N (k) a0 a1 a2 a3 i4 r366.1 a2 v367 v368 (0 : Int32) (rc - 2) (rs - 12) r366.2 else zf_L_law_J2445 N (k) a0 a1 a2 a3 i4 r366.1 a2 v367 v368 (1 : Int32) (rc - 2) (rs - 12) r366.2)))) else none
set_option maxHeartbeats 4000000 in
set_option maxRecDepth 100000 in
theorem zt_L_law_J2412 {p : Program} {l : Launch} {e : Env} {s : State} {m : MethodId} {zb : Nat} {below : List Frame} {meth : Method} {c : Code} {V : zm_V} {d : Nat} {nm : String} (hlt : l.stackTraces = false) (hV : V.2.2.2.1 = s.heap.size) (hX : zm_X p room_1 s m #[Value.ref zb] meth c RL nm cL_law 8 zk_E V 601024 7293034) (hr : meth.sig.returnType = ret) (hR : d ≤ room_1.frames ∧ 64 * d ≤ room_1.locals) (hd : 46 ≤ d) {N : Nat} {k : Nat → Nat → Nat → Nat → Int32 → Nat → Nat → zm_S → Option ((Int32 × zm_S) ⊕ ((Unit) × zm_S))} {rc rs : Nat} {a0 : Nat} {a1 : Nat} {a2 : Nat} {a3 : Nat} {i4 : Int32} {t0 : Nat} {t1 : Int32} {t2 : Int32} {t3 : Int32} {res : (Int32 × zm_S) ⊕ ((Unit) × zm_S)} {out : (Int32 × zm_S)}   (hf : ∀ o, res = .inl o → o = out) (hk : ∀ (S' : zm_S) (rc rs : Nat), res = .inr ((), S') → zw p l e room_1 s m #[Value.ref zb] below meth c (lw_Z below #[Value.ref zb] s) 8 zk_E V 601024 7293034 6008 [] [] S' rc rs) (hrec : ∀ (i4' : Int32) (rc rs : Nat) (S : zm_S), k a0 a1 a2 a3 i4' rc rs S = some res → zw p l e room_1 s m #[Value.ref zb] below meth c (lw_Z below #[Value.ref zb] s) 8 zk_E V 601024 7293034 23 [(0, .ref a0), (1, .ref a1), (2, .ref a2), (3, .ref a3), (4, .int i4')] [] S rc rs) {S : zm_S} (h : zf_L_law_J2412 N k a0 a1 a2 a3 i4 t0 t1 t2 t3 rc rs S = some res) : zw p l e room_1 s m #[Value.ref zb] below meth c (lw_Z below #[Value.ref zb] s) 8 zk_E V 601024 7293034 2412 [(0, .ref a0), (1, .ref a1), (2, .ref a2), (3, .ref a3), (4, .int i4)] [.int t3, .int t2, .int t1, .ref t0] S rc rs := by
  unfold zf_L_law_J2412 at h
  refine zw_aload_n hX dL_law_2412 rfl ?_
  by_cases hb2413 : 2 ≤ rc ∧ 12 ≤ rs
  · rw [if_pos hb2413] at h
    obtain ⟨r366, g, h⟩ := zb_some h
    refine zc_S (as := [.ref t0, .int t1, .int t2, .int t3, .ref a3]) hX (zt_L_airlock hlt (d := d - 1) (by omega) g) zl_L_377 dL_law_2413 ⟨rfl, rfl, Nat.le_of_ble_eq_true rfl⟩ ⟨by omega, by omega⟩ hb2413 ?_ ?_
    · rintro _ _ ⟨rfl, rfl⟩
      refine zw_istore hX dL_law_2416 (by decide) ?_
      refine zw_aload_n hX dL_law_2418 rfl ?_
      refine zw_aload_n hX dL_law_2419 rfl ?_
      refine zw_iload hX dL_law_2420 rfl ?_
      refine zw_iconst (v := (1 : Int32)) hX dL_law_2422 (by decide) ?_
      refine zw_iadd hX dL_law_2423 ?_
      obtain ⟨v367, g, h⟩ := zb_some h
      refine zw_xi hX dL_law_2424 g ?_
      refine zw_aload_n hX dL_law_2425 rfl ?_
      refine zw_iload hX dL_law_2426 rfl ?_
      refine zw_iconst (v := (2 : Int32)) hX dL_law_2428 (by decide) ?_
      refine zw_iadd hX dL_law_2429 ?_
      obtain ⟨v368, g, h⟩ := zb_some h
      refine zw_xi hX dL_law_2430 g ?_
      refine zw_aload_n hX dL_law_2431 rfl ?_
      refine zw_iload hX dL_law_2432 rfl ?_
      refine zw_iconst (v := (3 : Int32)) hX dL_law_2434 (by decide) ?_
      refine zw_iadd hX dL_law_2435 ?_
      obtain ⟨v369, g, h⟩ := zb_some h
      refine zw_xi hX dL_law_2436 g ?_
      refine zw_if_eq (tgt := 2444) hX dL_law_2437 (by decide) (fun c2437 => ?_) (fun c2437 => ?_)
      · rw [if_pos c2437] at h
        refine zw_iconst (v := (0 : Int32)) hX dL_law_2444 (by decide) ?_
        refine zw_sub (lv' := [(0, .ref a0), (1, .ref a1), (2, .ref a2), (3, .ref a3), (4, .int i4), (5, .int r366.1)]) (List.forall_mem_cons.mpr ⟨rfl, (List.forall_mem_cons.mpr ⟨rfl, (List.forall_mem_cons.mpr ⟨rfl, (List.forall_mem_cons.mpr ⟨rfl, (List.forall_mem_cons.mpr ⟨rfl, (List.forall_mem_cons.mpr ⟨rfl, zs_nil⟩)⟩)⟩)⟩)⟩)⟩) ?_
        exact zt_L_law_J2445 hlt hV hX hr hR hd hf hk hrec h
      · rw [if_neg c2437] at h
        refine zw_iconst (v := (1 : Int32)) hX dL_law_2440 (by decide) ?_
        refine zw_goto (tgt := 2445) hX dL_law_2441 (by decide) ?_
        refine zw_sub (lv' := [(0, .ref a0), (1, .ref a1), (2, .ref a2), (3, .ref a3), (4, .int i4), (5, .int r366.1)]) (List.forall_mem_cons.mpr ⟨rfl, (List.forall_mem_cons.mpr ⟨rfl, (List.forall_mem_cons.mpr ⟨rfl, (List.forall_mem_cons.mpr ⟨rfl, (List.forall_mem_cons.mpr ⟨rfl, (List.forall_mem_cons.mpr ⟨rfl, zs_nil⟩)⟩)⟩)⟩)⟩)⟩) ?_
        exact zt_L_law_J2445 hlt hV hX hr hR hd hf hk hrec h
    · intro _ _ hx
      exact hx.elim
  · rw [if_neg hb2413] at h
    cases h
def zf_L_law_J2385 (N : Nat) (k : Nat → Nat → Nat → Nat → Int32 → Nat → Nat → zm_S → Option ((Int32 × zm_S) ⊕ ((Unit) × zm_S))) (a0 : Nat) (a1 : Nat) (a2 : Nat) (a3 : Nat) (i4 : Int32) (rc rs : Nat) (S : zm_S) : Option ((Int32 × zm_S) ⊕ ((Unit) × zm_S)) := (za_x S 0 a0 (i4 + (1 : Int32))).bind (fun v361 => (za_x S 0 a0 (i4 + (2 : Int32))).bind (fun v362 => (za_x S 0 a0 (i4 + (3 : Int32))).bind (fun v363 => if v363 = 0 then zf_L_law_J2412 N (k) a0 a1 a2 a3 i4 a1 v361 v362 (0 : Int32) rc rs S else zf_L_law_J2412 N (k) a0 a1 a2 a3 i4 a1 v361 v362 (1 : Int32) rc rs S)))
set_option maxHeartbeats 4000000 in
set_option maxRecDepth 100000 in
theorem zt_L_law_J2385 {p : Program} {l : Launch} {e : Env} {s : State} {m : MethodId} {zb : Nat} {below : List Frame} {meth : Method} {c : Code} {V : zm_V} {d : Nat} {nm : String} (hlt : l.stackTraces = false) (hV : V.2.2.2.1 = s.heap.size) (hX : zm_X p room_1 s m #[Value.ref zb] meth c RL nm cL_law 8 zk_E V 601024 7293034) (hr : meth.sig.returnType = ret) (hR : d ≤ room_1.frames ∧ 64 * d ≤ room_1.locals) (hd : 46 ≤ d) {N : Nat} {k : Nat → Nat → Nat → Nat → Int32 → Nat → Nat → zm_S → Option ((Int32 × zm_S) ⊕ ((Unit) × zm_S))} {rc rs : Nat} {a0 : Nat} {a1 : Nat} {a2 : Nat} {a3 : Nat} {i4 : Int32} {res : (Int32 × zm_S) ⊕ ((Unit) × zm_S)} {out : (Int32 × zm_S)}   (hf : ∀ o, res = .inl o → o = out) (hk : ∀ (S' : zm_S) (rc rs : Nat), res = .inr ((), S') → zw p l e room_1 s m #[Value.ref zb] below meth c (lw_Z below #[Value.ref zb] s) 8 zk_E V 601024 7293034 6008 [] [] S' rc rs) (hrec : ∀ (i4' : Int32) (rc rs : Nat) (S : zm_S), k a0 a1 a2 a3 i4' rc rs S = some res → zw p l e room_1 s m #[Value.ref zb] below meth c (lw_Z below #[Value.ref zb] s) 8 zk_E V 601024 7293034 23 [(0, .ref a0), (1, .ref a1), (2, .ref a2), (3, .ref a3), (4, .int i4')] [] S rc rs) {S : zm_S} (h : zf_L_law_J2385 N k a0 a1 a2 a3 i4 rc rs S = some res) : zw p l e room_1 s m #[Value.ref zb] below meth c (lw_Z below #[Value.ref zb] s) 8 zk_E V 601024 7293034 2385 [(0, .ref a0), (1, .ref a1), (2, .ref a2), (3, .ref a3), (4, .int i4)] [] S rc rs := by
  unfold zf_L_law_J2385 at h
  refine zw_aload_n hX dL_law_2385 rfl ?_
  refine zw_aload_n hX dL_law_2386 rfl ?_
  refine zw_iload hX dL_law_2387 rfl ?_
  refine zw_iconst (v := (1 : Int32)) hX dL_law_2389 (by decide) ?_
  refine zw_iadd hX dL_law_2390 ?_
  obtain ⟨v361, g, h⟩ := zb_some h
  refine zw_xi hX dL_law_2391 g ?_
  refine zw_aload_n hX dL_law_2392 rfl ?_
  refine zw_iload hX dL_law_2393 rfl ?_
  refine zw_iconst (v := (2 : Int32)) hX dL_law_2395 (by decide) ?_
  refine zw_iadd hX dL_law_2396 ?_
  obtain ⟨v362, g, h⟩ := zb_some h
  refine zw_xi hX dL_law_2397 g ?_
  refine zw_aload_n hX dL_law_2398 rfl ?_
  refine zw_iload hX dL_law_2399 rfl ?_
  refine zw_iconst (v := (3 : Int32)) hX dL_law_2401 (by decide) ?_
  refine zw_iadd hX dL_law_2402 ?_
  obtain ⟨v363, g, h⟩ := zb_some h
  refine zw_xi hX dL_law_2403 g ?_
  refine zw_if_eq (tgt := 2411) hX dL_law_2404 (by decide) (fun c2404 => ?_) (fun c2404 => ?_)
  · rw [if_pos c2404] at h
    refine zw_iconst (v := (0 : Int32)) hX dL_law_2411 (by decide) ?_
    refine zw_sub (lv' := [(0, .ref a0), (1, .ref a1), (2, .ref a2), (3, .ref a3), (4, .int i4)]) (List.forall_mem_cons.mpr ⟨rfl, (List.forall_mem_cons.mpr ⟨rfl, (List.forall_mem_cons.mpr ⟨rfl, (List.forall_mem_cons.mpr ⟨rfl, (List.forall_mem_cons.mpr ⟨rfl, zs_nil⟩)⟩)⟩)⟩)⟩) ?_
    exact zt_L_law_J2412 hlt hV hX hr hR hd hf hk hrec h
  · rw [if_neg c2404] at h
    refine zw_iconst (v := (1 : Int32)) hX dL_law_2407 (by decide) ?_
    refine zw_goto (tgt := 2412) hX dL_law_2408 (by decide) ?_
    refine zw_sub (lv' := [(0, .ref a0), (1, .ref a1), (2, .ref a2), (3, .ref a3), (4, .int i4)]) (List.forall_mem_cons.mpr ⟨rfl, (List.forall_mem_cons.mpr ⟨rfl, (List.forall_mem_cons.mpr ⟨rfl, (List.forall_mem_cons.mpr ⟨rfl, (List.forall_mem_cons.mpr ⟨rfl, zs_nil⟩)⟩)⟩)⟩)⟩) ?_
    exact zt_L_law_J2412 hlt hV hX hr hR hd hf hk hrec h
def zf_L_law_J2536 (N : Nat) (k : Nat → Nat → Nat → Nat → Int32 → Nat → Nat → zm_S → Option ((Int32 × zm_S) ⊕ ((Unit) × zm_S))) (a0 : Nat) (a1 : Nat) (a2 : Nat) (a3 : Nat) (i4 : Int32) (i5 : Int32) (t0 : Nat) (t1 : Int32) (t2 : Int32) (rc rs : Nat) (S : zm_S) : Option ((Int32 × zm_S) ⊕ ((Unit) × zm_S)) := (zi S t0 18).bind (fun _ => (zf_X18_stands N t0 t1 t2 S).bind (fun r383 => (zi r383.2 a2 18).bind (fun _ => (zf_X18_thrown N a2 r383.2).bind (fun r385 => if r385.1 = i5 then if i5 = 0 then (za_l r385.2 a3 (0 : Int32)).bind (fun w386 => if (lg_cmp w386 ((r383.1).toInt64)) = 0 then k a0 a1 a2 a3 (i4 + (7 : Int32)) rc rs r385.2 else none) else k a0 a1 a2 a3 (i4 + (7 : Int32)) rc rs r385.2 else none))))
set_option maxHeartbeats 4000000 in
set_option maxRecDepth 100000 in
theorem zt_L_law_J2536 {p : Program} {l : Launch} {e : Env} {s : State} {m : MethodId} {zb : Nat} {below : List Frame} {meth : Method} {c : Code} {V : zm_V} {d : Nat} {nm : String} (hlt : l.stackTraces = false) (hV : V.2.2.2.1 = s.heap.size) (hX : zm_X p room_1 s m #[Value.ref zb] meth c RL nm cL_law 8 zk_E V 601024 7293034) (hr : meth.sig.returnType = ret) (hR : d ≤ room_1.frames ∧ 64 * d ≤ room_1.locals) (hd : 46 ≤ d) {N : Nat} {k : Nat → Nat → Nat → Nat → Int32 → Nat → Nat → zm_S → Option ((Int32 × zm_S) ⊕ ((Unit) × zm_S))} {rc rs : Nat} {a0 : Nat} {a1 : Nat} {a2 : Nat} {a3 : Nat} {i4 : Int32} {i5 : Int32} {t0 : Nat} {t1 : Int32} {t2 : Int32} {res : (Int32 × zm_S) ⊕ ((Unit) × zm_S)} {out : (Int32 × zm_S)}   (hf : ∀ o, res = .inl o → o = out) (hk : ∀ (S' : zm_S) (rc rs : Nat), res = .inr ((), S') → zw p l e room_1 s m #[Value.ref zb] below meth c (lw_Z below #[Value.ref zb] s) 8 zk_E V 601024 7293034 6008 [] [] S' rc rs) (hrec : ∀ (i4' : Int32) (rc rs : Nat) (S : zm_S), k a0 a1 a2 a3 i4' rc rs S = some res → zw p l e room_1 s m #[Value.ref zb] below meth c (lw_Z below #[Value.ref zb] s) 8 zk_E V 601024 7293034 23 [(0, .ref a0), (1, .ref a1), (2, .ref a2), (3, .ref a3), (4, .int i4')] [] S rc rs) {S : zm_S} (h : zf_L_law_J2536 N k a0 a1 a2 a3 i4 i5 t0 t1 t2 rc rs S = some res) : zw p l e room_1 s m #[Value.ref zb] below meth c (lw_Z below #[Value.ref zb] s) 8 zk_E V 601024 7293034 2536 [(0, .ref a0), (1, .ref a1), (2, .ref a2), (3, .ref a3), (4, .int i4), (5, .int i5)] [.int t2, .int t1, .ref t0] S rc rs := by
  unfold zf_L_law_J2536 at h
  obtain ⟨_, gi, h⟩ := zb_some h
  obtain ⟨r383, g, h⟩ := zb_some h
  refine zc_Vi (as := [.int t1, .int t2]) hX gi (zt_X18_stands (d := d - 1) (by omega) g) zl_L_383 rfl dL_law_2536 ⟨rfl, rfl, Nat.le_of_ble_eq_true rfl⟩ ⟨by omega, by omega⟩ ?_
  refine zw_istore hX dL_law_2539 (by decide) ?_
  refine zw_aload_n hX dL_law_2541 rfl ?_
  obtain ⟨_, gi, h⟩ := zb_some h
  obtain ⟨r385, g, h⟩ := zb_some h
  refine zc_Vi (as := []) hX gi (zt_X18_thrown (d := d - 1) (by omega) g) zl_L_281 rfl dL_law_2542 ⟨rfl, rfl, Nat.le_of_ble_eq_true rfl⟩ ⟨by omega, by omega⟩ ?_
  refine zw_iload hX dL_law_2545 rfl ?_
  refine zw_icmp_eq (tgt := 2552) hX dL_law_2547 (by decide) (fun c2547 => ?_) (fun c2547 => ?_)
  · rw [if_pos c2547] at h
    refine zw_iload hX dL_law_2552 rfl ?_
    refine zw_if_ne (tgt := 2569) hX dL_law_2554 (by decide) (fun c2554 => ?_) (fun c2554 => ?_)
    · rw [if_neg c2554] at h
      refine zw_goto (tgt := 6002) hX dL_law_2569 (by decide) ?_
      refine zw_iinc (v := (i4 + (7 : Int32))) hX dL_law_6002 rfl rfl (by decide) ?_
      refine zw_goto (tgt := 23) hX dL_law_6005 (by decide) ?_
      refine zw_sub (lv' := [(0, .ref a0), (1, .ref a1), (2, .ref a2), (3, .ref a3), (4, .int (i4 + (7 : Int32)))]) (List.forall_mem_cons.mpr ⟨rfl, (List.forall_mem_cons.mpr ⟨rfl, (List.forall_mem_cons.mpr ⟨rfl, (List.forall_mem_cons.mpr ⟨rfl, (List.forall_mem_cons.mpr ⟨rfl, zs_nil⟩)⟩)⟩)⟩)⟩) ?_
      exact hrec _ _ _ _ h
    · rw [if_pos c2554] at h
      refine zw_aload_n hX dL_law_2557 rfl ?_
      refine zw_iconst (v := (0 : Int32)) hX dL_law_2558 (by decide) ?_
      obtain ⟨w386, g, h⟩ := zb_some h
      refine zw_xl hX dL_law_2559 g ?_
      refine zw_iload hX dL_law_2560 rfl ?_
      refine zw_i2l hX dL_law_2562 ?_
      refine zw_lcmp hX dL_law_2563 ?_
      refine zw_if_eq (tgt := 2569) hX dL_law_2564 (by decide) (fun c2564 => ?_) (fun c2564 => ?_)
      · rw [if_pos c2564] at h
        refine zw_goto (tgt := 6002) hX dL_law_2569 (by decide) ?_
        refine zw_iinc (v := (i4 + (7 : Int32))) hX dL_law_6002 rfl rfl (by decide) ?_
        refine zw_goto (tgt := 23) hX dL_law_6005 (by decide) ?_
        refine zw_sub (lv' := [(0, .ref a0), (1, .ref a1), (2, .ref a2), (3, .ref a3), (4, .int (i4 + (7 : Int32)))]) (List.forall_mem_cons.mpr ⟨rfl, (List.forall_mem_cons.mpr ⟨rfl, (List.forall_mem_cons.mpr ⟨rfl, (List.forall_mem_cons.mpr ⟨rfl, (List.forall_mem_cons.mpr ⟨rfl, zs_nil⟩)⟩)⟩)⟩)⟩) ?_
        exact hrec _ _ _ _ h
      · rw [if_neg c2564] at h
        refine zw_iconst (v := (0 : Int32)) hX dL_law_2567 (by decide) ?_
        cases h
  · rw [if_neg c2547] at h
    refine zw_iconst (v := (0 : Int32)) hX dL_law_2550 (by decide) ?_
    cases h
def zf_L_law_J2509 (N : Nat) (k : Nat → Nat → Nat → Nat → Int32 → Nat → Nat → zm_S → Option ((Int32 × zm_S) ⊕ ((Unit) × zm_S))) (a0 : Nat) (a1 : Nat) (a2 : Nat) (a3 : Nat) (i4 : Int32) (t0 : Nat) (t1 : Int32) (t2 : Int32) (rc rs : Nat) (S : zm_S) : Option ((Int32 × zm_S) ⊕ ((Unit) × zm_S)) := if 2 ≤ rc ∧ 12 ≤ rs then (zf_L_stands N t0 t1 t2 a3 S).bind (fun r379 => (za_x r379.2 0 a0 (i4 + (1 : Int32))).bind (fun v380 => (za_x r379.2 0 a0 (i4 + (2 : Int32))).bind (fun v381 => if v381 = 0 then zf_L_law_J2536 N (k) a0 a1 a2 a3 i4 r379.1 a2 v380 (0 : Int32) (rc - 2) (rs - 12) r379.2 else zf_L_law_J2536 N (k) a0 a1 a2 a3 i4 r379.1 a2 v380 (1 : Int32) (rc - 2) (rs - 12) r379.2))) else none
set_option maxHeartbeats 4000000 in
set_option maxRecDepth 100000 in
theorem zt_L_law_J2509 {p : Program} {l : Launch} {e : Env} {s : State} {m : MethodId} {zb : Nat} {below : List Frame} {meth : Method} {c : Code} {V : zm_V} {d : Nat} {nm : String} (hlt : l.stackTraces = false) (hV : V.2.2.2.1 = s.heap.size) (hX : zm_X p room_1 s m #[Value.ref zb] meth c RL nm cL_law 8 zk_E V 601024 7293034) (hr : meth.sig.returnType = ret) (hR : d ≤ room_1.frames ∧ 64 * d ≤ room_1.locals) (hd : 46 ≤ d) {N : Nat} {k : Nat → Nat → Nat → Nat → Int32 → Nat → Nat → zm_S → Option ((Int32 × zm_S) ⊕ ((Unit) × zm_S))} {rc rs : Nat} {a0 : Nat} {a1 : Nat} {a2 : Nat} {a3 : Nat} {i4 : Int32} {t0 : Nat} {t1 : Int32} {t2 : Int32} {res : (Int32 × zm_S) ⊕ ((Unit) × zm_S)} {out : (Int32 × zm_S)}   (hf : ∀ o, res = .inl o → o = out) (hk : ∀ (S' : zm_S) (rc rs : Nat), res = .inr ((), S') → zw p l e room_1 s m #[Value.ref zb] below meth c (lw_Z below #[Value.ref zb] s) 8 zk_E V 601024 7293034 6008 [] [] S' rc rs) (hrec : ∀ (i4' : Int32) (rc rs : Nat) (S : zm_S), k a0 a1 a2 a3 i4' rc rs S = some res → zw p l e room_1 s m #[Value.ref zb] below meth c (lw_Z below #[Value.ref zb] s) 8 zk_E V 601024 7293034 23 [(0, .ref a0), (1, .ref a1), (2, .ref a2), (3, .ref a3), (4, .int i4')] [] S rc rs) {S : zm_S} (h : zf_L_law_J2509 N k a0 a1 a2 a3 i4 t0 t1 t2 rc rs S = some res) : zw p l e room_1 s m #[Value.ref zb] below meth c (lw_Z below #[Value.ref zb] s) 8 zk_E V 601024 7293034 2509 [(0, .ref a0), (1, .ref a1), (2, .ref a2), (3, .ref a3), (4, .int i4)] [.int t2, .int t1, .ref t0] S rc rs := by
  unfold zf_L_law_J2509 at h
  refine zw_aload_n hX dL_law_2509 rfl ?_
  by_cases hb2510 : 2 ≤ rc ∧ 12 ≤ rs
  · rw [if_pos hb2510] at h
    obtain ⟨r379, g, h⟩ := zb_some h
    refine zc_S (as := [.ref t0, .int t1, .int t2, .ref a3]) hX (zt_L_stands hlt (d := d - 1) (by omega) g) zl_L_381 dL_law_2510 ⟨rfl, rfl, Nat.le_of_ble_eq_true rfl⟩ ⟨by omega, by omega⟩ hb2510 ?_ ?_
    · rintro _ _ ⟨rfl, rfl⟩
      refine zw_istore hX dL_law_2513 (by decide) ?_
      refine zw_aload_n hX dL_law_2515 rfl ?_
      refine zw_aload_n hX dL_law_2516 rfl ?_
      refine zw_iload hX dL_law_2517 rfl ?_
      refine zw_iconst (v := (1 : Int32)) hX dL_law_2519 (by decide) ?_
      refine zw_iadd hX dL_law_2520 ?_
      obtain ⟨v380, g, h⟩ := zb_some h
      refine zw_xi hX dL_law_2521 g ?_
      refine zw_aload_n hX dL_law_2522 rfl ?_
      refine zw_iload hX dL_law_2523 rfl ?_
      refine zw_iconst (v := (2 : Int32)) hX dL_law_2525 (by decide) ?_
      refine zw_iadd hX dL_law_2526 ?_
      obtain ⟨v381, g, h⟩ := zb_some h
      refine zw_xi hX dL_law_2527 g ?_
      refine zw_if_eq (tgt := 2535) hX dL_law_2528 (by decide) (fun c2528 => ?_) (fun c2528 => ?_)
      · rw [if_pos c2528] at h
        refine zw_iconst (v := (0 : Int32)) hX dL_law_2535 (by decide) ?_
        refine zw_sub (lv' := [(0, .ref a0), (1, .ref a1), (2, .ref a2), (3, .ref a3), (4, .int i4), (5, .int r379.1)]) (List.forall_mem_cons.mpr ⟨rfl, (List.forall_mem_cons.mpr ⟨rfl, (List.forall_mem_cons.mpr ⟨rfl, (List.forall_mem_cons.mpr ⟨rfl, (List.forall_mem_cons.mpr ⟨rfl, (List.forall_mem_cons.mpr ⟨rfl, zs_nil⟩)⟩)⟩)⟩)⟩)⟩) ?_
        exact zt_L_law_J2536 hlt hV hX hr hR hd hf hk hrec h
      · rw [if_neg c2528] at h
        refine zw_iconst (v := (1 : Int32)) hX dL_law_2531 (by decide) ?_
        refine zw_goto (tgt := 2536) hX dL_law_2532 (by decide) ?_
        refine zw_sub (lv' := [(0, .ref a0), (1, .ref a1), (2, .ref a2), (3, .ref a3), (4, .int i4), (5, .int r379.1)]) (List.forall_mem_cons.mpr ⟨rfl, (List.forall_mem_cons.mpr ⟨rfl, (List.forall_mem_cons.mpr ⟨rfl, (List.forall_mem_cons.mpr ⟨rfl, (List.forall_mem_cons.mpr ⟨rfl, (List.forall_mem_cons.mpr ⟨rfl, zs_nil⟩)⟩)⟩)⟩)⟩)⟩) ?_
        exact zt_L_law_J2536 hlt hV hX hr hR hd hf hk hrec h
    · intro _ _ hx
      exact hx.elim
  · rw [if_neg hb2510] at h
    cases h
def zf_L_law_J2488 (N : Nat) (k : Nat → Nat → Nat → Nat → Int32 → Nat → Nat → zm_S → Option ((Int32 × zm_S) ⊕ ((Unit) × zm_S))) (a0 : Nat) (a1 : Nat) (a2 : Nat) (a3 : Nat) (i4 : Int32) (rc rs : Nat) (S : zm_S) : Option ((Int32 × zm_S) ⊕ ((Unit) × zm_S)) := (za_x S 0 a0 (i4 + (1 : Int32))).bind (fun v375 => (za_x S 0 a0 (i4 + (2 : Int32))).bind (fun v376 => if v376 = 0 then zf_L_law_J2509 N (k) a0 a1 a2 a3 i4 a1 v375 (0 : Int32) rc rs S else zf_L_law_J2509 N (k) a0 a1 a2 a3 i4 a1 v375 (1 : Int32) rc rs S))
set_option maxHeartbeats 4000000 in
set_option maxRecDepth 100000 in
theorem zt_L_law_J2488 {p : Program} {l : Launch} {e : Env} {s : State} {m : MethodId} {zb : Nat} {below : List Frame} {meth : Method} {c : Code} {V : zm_V} {d : Nat} {nm : String} (hlt : l.stackTraces = false) (hV : V.2.2.2.1 = s.heap.size) (hX : zm_X p room_1 s m #[Value.ref zb] meth c RL nm cL_law 8 zk_E V 601024 7293034) (hr : meth.sig.returnType = ret) (hR : d ≤ room_1.frames ∧ 64 * d ≤ room_1.locals) (hd : 46 ≤ d) {N : Nat} {k : Nat → Nat → Nat → Nat → Int32 → Nat → Nat → zm_S → Option ((Int32 × zm_S) ⊕ ((Unit) × zm_S))} {rc rs : Nat} {a0 : Nat} {a1 : Nat} {a2 : Nat} {a3 : Nat} {i4 : Int32} {res : (Int32 × zm_S) ⊕ ((Unit) × zm_S)} {out : (Int32 × zm_S)}   (hf : ∀ o, res = .inl o → o = out) (hk : ∀ (S' : zm_S) (rc rs : Nat), res = .inr ((), S') → zw p l e room_1 s m #[Value.ref zb] below meth c (lw_Z below #[Value.ref zb] s) 8 zk_E V 601024 7293034 6008 [] [] S' rc rs) (hrec : ∀ (i4' : Int32) (rc rs : Nat) (S : zm_S), k a0 a1 a2 a3 i4' rc rs S = some res → zw p l e room_1 s m #[Value.ref zb] below meth c (lw_Z below #[Value.ref zb] s) 8 zk_E V 601024 7293034 23 [(0, .ref a0), (1, .ref a1), (2, .ref a2), (3, .ref a3), (4, .int i4')] [] S rc rs) {S : zm_S} (h : zf_L_law_J2488 N k a0 a1 a2 a3 i4 rc rs S = some res) : zw p l e room_1 s m #[Value.ref zb] below meth c (lw_Z below #[Value.ref zb] s) 8 zk_E V 601024 7293034 2488 [(0, .ref a0), (1, .ref a1), (2, .ref a2), (3, .ref a3), (4, .int i4)] [] S rc rs := by
  unfold zf_L_law_J2488 at h
  refine zw_aload_n hX dL_law_2488 rfl ?_
  refine zw_aload_n hX dL_law_2489 rfl ?_
  refine zw_iload hX dL_law_2490 rfl ?_
  refine zw_iconst (v := (1 : Int32)) hX dL_law_2492 (by decide) ?_
  refine zw_iadd hX dL_law_2493 ?_
  obtain ⟨v375, g, h⟩ := zb_some h
  refine zw_xi hX dL_law_2494 g ?_
  refine zw_aload_n hX dL_law_2495 rfl ?_
  refine zw_iload hX dL_law_2496 rfl ?_
  refine zw_iconst (v := (2 : Int32)) hX dL_law_2498 (by decide) ?_
  refine zw_iadd hX dL_law_2499 ?_
  obtain ⟨v376, g, h⟩ := zb_some h
  refine zw_xi hX dL_law_2500 g ?_
  refine zw_if_eq (tgt := 2508) hX dL_law_2501 (by decide) (fun c2501 => ?_) (fun c2501 => ?_)
  · rw [if_pos c2501] at h
    refine zw_iconst (v := (0 : Int32)) hX dL_law_2508 (by decide) ?_
    refine zw_sub (lv' := [(0, .ref a0), (1, .ref a1), (2, .ref a2), (3, .ref a3), (4, .int i4)]) (List.forall_mem_cons.mpr ⟨rfl, (List.forall_mem_cons.mpr ⟨rfl, (List.forall_mem_cons.mpr ⟨rfl, (List.forall_mem_cons.mpr ⟨rfl, (List.forall_mem_cons.mpr ⟨rfl, zs_nil⟩)⟩)⟩)⟩)⟩) ?_
    exact zt_L_law_J2509 hlt hV hX hr hR hd hf hk hrec h
  · rw [if_neg c2501] at h
    refine zw_iconst (v := (1 : Int32)) hX dL_law_2504 (by decide) ?_
    refine zw_goto (tgt := 2509) hX dL_law_2505 (by decide) ?_
    refine zw_sub (lv' := [(0, .ref a0), (1, .ref a1), (2, .ref a2), (3, .ref a3), (4, .int i4)]) (List.forall_mem_cons.mpr ⟨rfl, (List.forall_mem_cons.mpr ⟨rfl, (List.forall_mem_cons.mpr ⟨rfl, (List.forall_mem_cons.mpr ⟨rfl, (List.forall_mem_cons.mpr ⟨rfl, zs_nil⟩)⟩)⟩)⟩)⟩) ?_
    exact zt_L_law_J2509 hlt hV hX hr hR hd hf hk hrec h
def zf_L_law_J2620 (N : Nat) (k : Nat → Nat → Nat → Nat → Int32 → Nat → Nat → zm_S → Option ((Int32 × zm_S) ⊕ ((Unit) × zm_S))) (a0 : Nat) (a1 : Nat) (a2 : Nat) (a3 : Nat) (i4 : Int32) (i5 : Int32) (t0 : Nat) (t1 : Int32) (t2 : Int32) (rc rs : Nat) (S : zm_S) : Option ((Int32 × zm_S) ⊕ ((Unit) × zm_S)) := (zi S t0 18).bind (fun _ => (zf_X18_off N t0 t1 t2 S).bind (fun r395 => (zi r395.2 a2 18).bind (fun _ => (zf_X18_thrown N a2 r395.2).bind (fun r397 => if r397.1 = i5 then if i5 = 0 then (za_l r397.2 a3 (0 : Int32)).bind (fun w398 => if (lg_cmp w398 ((r395.1).toInt64)) = 0 then k a0 a1 a2 a3 (i4 + (7 : Int32)) rc rs r397.2 else none) else k a0 a1 a2 a3 (i4 + (7 : Int32)) rc rs r397.2 else none))))
set_option maxHeartbeats 4000000 in
set_option maxRecDepth 100000 in
theorem zt_L_law_J2620 {p : Program} {l : Launch} {e : Env} {s : State} {m : MethodId} {zb : Nat} {below : List Frame} {meth : Method} {c : Code} {V : zm_V} {d : Nat} {nm : String} (hlt : l.stackTraces = false) (hV : V.2.2.2.1 = s.heap.size) (hX : zm_X p room_1 s m #[Value.ref zb] meth c RL nm cL_law 8 zk_E V 601024 7293034) (hr : meth.sig.returnType = ret) (hR : d ≤ room_1.frames ∧ 64 * d ≤ room_1.locals) (hd : 46 ≤ d) {N : Nat} {k : Nat → Nat → Nat → Nat → Int32 → Nat → Nat → zm_S → Option ((Int32 × zm_S) ⊕ ((Unit) × zm_S))} {rc rs : Nat} {a0 : Nat} {a1 : Nat} {a2 : Nat} {a3 : Nat} {i4 : Int32} {i5 : Int32} {t0 : Nat} {t1 : Int32} {t2 : Int32} {res : (Int32 × zm_S) ⊕ ((Unit) × zm_S)} {out : (Int32 × zm_S)}   (hf : ∀ o, res = .inl o → o = out) (hk : ∀ (S' : zm_S) (rc rs : Nat), res = .inr ((), S') → zw p l e room_1 s m #[Value.ref zb] below meth c (lw_Z below #[Value.ref zb] s) 8 zk_E V 601024 7293034 6008 [] [] S' rc rs) (hrec : ∀ (i4' : Int32) (rc rs : Nat) (S : zm_S), k a0 a1 a2 a3 i4' rc rs S = some res → zw p l e room_1 s m #[Value.ref zb] below meth c (lw_Z below #[Value.ref zb] s) 8 zk_E V 601024 7293034 23 [(0, .ref a0), (1, .ref a1), (2, .ref a2), (3, .ref a3), (4, .int i4')] [] S rc rs) {S : zm_S} (h : zf_L_law_J2620 N k a0 a1 a2 a3 i4 i5 t0 t1 t2 rc rs S = some res) : zw p l e room_1 s m #[Value.ref zb] below meth c (lw_Z below #[Value.ref zb] s) 8 zk_E V 601024 7293034 2620 [(0, .ref a0), (1, .ref a1), (2, .ref a2), (3, .ref a3), (4, .int i4), (5, .int i5)] [.int t2, .int t1, .ref t0] S rc rs := by
  unfold zf_L_law_J2620 at h
  obtain ⟨_, gi, h⟩ := zb_some h
  obtain ⟨r395, g, h⟩ := zb_some h
  refine zc_Vi (as := [.int t1, .int t2]) hX gi (zt_X18_off (d := d - 1) (by omega) g) zl_L_386 rfl dL_law_2620 ⟨rfl, rfl, Nat.le_of_ble_eq_true rfl⟩ ⟨by omega, by omega⟩ ?_
  refine zw_istore hX dL_law_2623 (by decide) ?_
  refine zw_aload_n hX dL_law_2625 rfl ?_
  obtain ⟨_, gi, h⟩ := zb_some h
  obtain ⟨r397, g, h⟩ := zb_some h
  refine zc_Vi (as := []) hX gi (zt_X18_thrown (d := d - 1) (by omega) g) zl_L_281 rfl dL_law_2626 ⟨rfl, rfl, Nat.le_of_ble_eq_true rfl⟩ ⟨by omega, by omega⟩ ?_
  refine zw_iload hX dL_law_2629 rfl ?_
  refine zw_icmp_eq (tgt := 2636) hX dL_law_2631 (by decide) (fun c2631 => ?_) (fun c2631 => ?_)
  · rw [if_pos c2631] at h
    refine zw_iload hX dL_law_2636 rfl ?_
    refine zw_if_ne (tgt := 2653) hX dL_law_2638 (by decide) (fun c2638 => ?_) (fun c2638 => ?_)
    · rw [if_neg c2638] at h
      refine zw_goto (tgt := 6002) hX dL_law_2653 (by decide) ?_
      refine zw_iinc (v := (i4 + (7 : Int32))) hX dL_law_6002 rfl rfl (by decide) ?_
      refine zw_goto (tgt := 23) hX dL_law_6005 (by decide) ?_
      refine zw_sub (lv' := [(0, .ref a0), (1, .ref a1), (2, .ref a2), (3, .ref a3), (4, .int (i4 + (7 : Int32)))]) (List.forall_mem_cons.mpr ⟨rfl, (List.forall_mem_cons.mpr ⟨rfl, (List.forall_mem_cons.mpr ⟨rfl, (List.forall_mem_cons.mpr ⟨rfl, (List.forall_mem_cons.mpr ⟨rfl, zs_nil⟩)⟩)⟩)⟩)⟩) ?_
      exact hrec _ _ _ _ h
    · rw [if_pos c2638] at h
      refine zw_aload_n hX dL_law_2641 rfl ?_
      refine zw_iconst (v := (0 : Int32)) hX dL_law_2642 (by decide) ?_
      obtain ⟨w398, g, h⟩ := zb_some h
      refine zw_xl hX dL_law_2643 g ?_
      refine zw_iload hX dL_law_2644 rfl ?_
      refine zw_i2l hX dL_law_2646 ?_
      refine zw_lcmp hX dL_law_2647 ?_
      refine zw_if_eq (tgt := 2653) hX dL_law_2648 (by decide) (fun c2648 => ?_) (fun c2648 => ?_)
      · rw [if_pos c2648] at h
        refine zw_goto (tgt := 6002) hX dL_law_2653 (by decide) ?_
        refine zw_iinc (v := (i4 + (7 : Int32))) hX dL_law_6002 rfl rfl (by decide) ?_
        refine zw_goto (tgt := 23) hX dL_law_6005 (by decide) ?_
        refine zw_sub (lv' := [(0, .ref a0), (1, .ref a1), (2, .ref a2), (3, .ref a3), (4, .int (i4 + (7 : Int32)))]) (List.forall_mem_cons.mpr ⟨rfl, (List.forall_mem_cons.mpr ⟨rfl, (List.forall_mem_cons.mpr ⟨rfl, (List.forall_mem_cons.mpr ⟨rfl, (List.forall_mem_cons.mpr ⟨rfl, zs_nil⟩)⟩)⟩)⟩)⟩) ?_
        exact hrec _ _ _ _ h
      · rw [if_neg c2648] at h
        refine zw_iconst (v := (0 : Int32)) hX dL_law_2651 (by decide) ?_
        cases h
  · rw [if_neg c2631] at h
    refine zw_iconst (v := (0 : Int32)) hX dL_law_2634 (by decide) ?_
    cases h
def zf_L_law_J2593 (N : Nat) (k : Nat → Nat → Nat → Nat → Int32 → Nat → Nat → zm_S → Option ((Int32 × zm_S) ⊕ ((Unit) × zm_S))) (a0 : Nat) (a1 : Nat) (a2 : Nat) (a3 : Nat) (i4 : Int32) (t0 : Nat) (t1 : Int32) (t2 : Int32) (rc rs : Nat) (S : zm_S) : Option ((Int32 × zm_S) ⊕ ((Unit) × zm_S)) := if 2 ≤ rc ∧ 12 ≤ rs then (zf_L_off N t0 t1 t2 a3 S).bind (fun r391 => (za_x r391.2 0 a0 (i4 + (1 : Int32))).bind (fun v392 => (za_x r391.2 0 a0 (i4 + (2 : Int32))).bind (fun v393 => if v393 = 0 then zf_L_law_J2620 N (k) a0 a1 a2 a3 i4 r391.1 a2 v392 (0 : Int32) (rc - 2) (rs - 12) r391.2 else zf_L_law_J2620 N (k) a0 a1 a2 a3 i4 r391.1 a2 v392 (1 : Int32) (rc - 2) (rs - 12) r391.2))) else none
set_option maxHeartbeats 4000000 in
set_option maxRecDepth 100000 in
theorem zt_L_law_J2593 {p : Program} {l : Launch} {e : Env} {s : State} {m : MethodId} {zb : Nat} {below : List Frame} {meth : Method} {c : Code} {V : zm_V} {d : Nat} {nm : String} (hlt : l.stackTraces = false) (hV : V.2.2.2.1 = s.heap.size) (hX : zm_X p room_1 s m #[Value.ref zb] meth c RL nm cL_law 8 zk_E V 601024 7293034) (hr : meth.sig.returnType = ret) (hR : d ≤ room_1.frames ∧ 64 * d ≤ room_1.locals) (hd : 46 ≤ d) {N : Nat} {k : Nat → Nat → Nat → Nat → Int32 → Nat → Nat → zm_S → Option ((Int32 × zm_S) ⊕ ((Unit) × zm_S))} {rc rs : Nat} {a0 : Nat} {a1 : Nat} {a2 : Nat} {a3 : Nat} {i4 : Int32} {t0 : Nat} {t1 : Int32} {t2 : Int32} {res : (Int32 × zm_S) ⊕ ((Unit) × zm_S)} {out : (Int32 × zm_S)}   (hf : ∀ o, res = .inl o → o = out) (hk : ∀ (S' : zm_S) (rc rs : Nat), res = .inr ((), S') → zw p l e room_1 s m #[Value.ref zb] below meth c (lw_Z below #[Value.ref zb] s) 8 zk_E V 601024 7293034 6008 [] [] S' rc rs) (hrec : ∀ (i4' : Int32) (rc rs : Nat) (S : zm_S), k a0 a1 a2 a3 i4' rc rs S = some res → zw p l e room_1 s m #[Value.ref zb] below meth c (lw_Z below #[Value.ref zb] s) 8 zk_E V 601024 7293034 23 [(0, .ref a0), (1, .ref a1), (2, .ref a2), (3, .ref a3), (4, .int i4')] [] S rc rs) {S : zm_S} (h : zf_L_law_J2593 N k a0 a1 a2 a3 i4 t0 t1 t2 rc rs S = some res) : zw p l e room_1 s m #[Value.ref zb] below meth c (lw_Z below #[Value.ref zb] s) 8 zk_E V 601024 7293034 2593 [(0, .ref a0), (1, .ref a1), (2, .ref a2), (3, .ref a3), (4, .int i4)] [.int t2, .int t1, .ref t0] S rc rs := by
  unfold zf_L_law_J2593 at h
  refine zw_aload_n hX dL_law_2593 rfl ?_
  by_cases hb2594 : 2 ≤ rc ∧ 12 ≤ rs
  · rw [if_pos hb2594] at h
    obtain ⟨r391, g, h⟩ := zb_some h
    refine zc_S (as := [.ref t0, .int t1, .int t2, .ref a3]) hX (zt_L_off hlt (d := d - 1) (by omega) g) zl_L_384 dL_law_2594 ⟨rfl, rfl, Nat.le_of_ble_eq_true rfl⟩ ⟨by omega, by omega⟩ hb2594 ?_ ?_
    · rintro _ _ ⟨rfl, rfl⟩
      refine zw_istore hX dL_law_2597 (by decide) ?_
      refine zw_aload_n hX dL_law_2599 rfl ?_
      refine zw_aload_n hX dL_law_2600 rfl ?_
      refine zw_iload hX dL_law_2601 rfl ?_
      refine zw_iconst (v := (1 : Int32)) hX dL_law_2603 (by decide) ?_
      refine zw_iadd hX dL_law_2604 ?_
      obtain ⟨v392, g, h⟩ := zb_some h
      refine zw_xi hX dL_law_2605 g ?_
      refine zw_aload_n hX dL_law_2606 rfl ?_
      refine zw_iload hX dL_law_2607 rfl ?_
      refine zw_iconst (v := (2 : Int32)) hX dL_law_2609 (by decide) ?_
      refine zw_iadd hX dL_law_2610 ?_
      obtain ⟨v393, g, h⟩ := zb_some h
      refine zw_xi hX dL_law_2611 g ?_
      refine zw_if_eq (tgt := 2619) hX dL_law_2612 (by decide) (fun c2612 => ?_) (fun c2612 => ?_)
      · rw [if_pos c2612] at h
        refine zw_iconst (v := (0 : Int32)) hX dL_law_2619 (by decide) ?_
        refine zw_sub (lv' := [(0, .ref a0), (1, .ref a1), (2, .ref a2), (3, .ref a3), (4, .int i4), (5, .int r391.1)]) (List.forall_mem_cons.mpr ⟨rfl, (List.forall_mem_cons.mpr ⟨rfl, (List.forall_mem_cons.mpr ⟨rfl, (List.forall_mem_cons.mpr ⟨rfl, (List.forall_mem_cons.mpr ⟨rfl, (List.forall_mem_cons.mpr ⟨rfl, zs_nil⟩)⟩)⟩)⟩)⟩)⟩) ?_
        exact zt_L_law_J2620 hlt hV hX hr hR hd hf hk hrec h
      · rw [if_neg c2612] at h
        refine zw_iconst (v := (1 : Int32)) hX dL_law_2615 (by decide) ?_
        refine zw_goto (tgt := 2620) hX dL_law_2616 (by decide) ?_
        refine zw_sub (lv' := [(0, .ref a0), (1, .ref a1), (2, .ref a2), (3, .ref a3), (4, .int i4), (5, .int r391.1)]) (List.forall_mem_cons.mpr ⟨rfl, (List.forall_mem_cons.mpr ⟨rfl, (List.forall_mem_cons.mpr ⟨rfl, (List.forall_mem_cons.mpr ⟨rfl, (List.forall_mem_cons.mpr ⟨rfl, (List.forall_mem_cons.mpr ⟨rfl, zs_nil⟩)⟩)⟩)⟩)⟩)⟩) ?_
        exact zt_L_law_J2620 hlt hV hX hr hR hd hf hk hrec h
    · intro _ _ hx
      exact hx.elim
  · rw [if_neg hb2594] at h
    cases h
def zf_L_law_J2572 (N : Nat) (k : Nat → Nat → Nat → Nat → Int32 → Nat → Nat → zm_S → Option ((Int32 × zm_S) ⊕ ((Unit) × zm_S))) (a0 : Nat) (a1 : Nat) (a2 : Nat) (a3 : Nat) (i4 : Int32) (rc rs : Nat) (S : zm_S) : Option ((Int32 × zm_S) ⊕ ((Unit) × zm_S)) := (za_x S 0 a0 (i4 + (1 : Int32))).bind (fun v387 => (za_x S 0 a0 (i4 + (2 : Int32))).bind (fun v388 => if v388 = 0 then zf_L_law_J2593 N (k) a0 a1 a2 a3 i4 a1 v387 (0 : Int32) rc rs S else zf_L_law_J2593 N (k) a0 a1 a2 a3 i4 a1 v387 (1 : Int32) rc rs S))
set_option maxHeartbeats 4000000 in
set_option maxRecDepth 100000 in
theorem zt_L_law_J2572 {p : Program} {l : Launch} {e : Env} {s : State} {m : MethodId} {zb : Nat} {below : List Frame} {meth : Method} {c : Code} {V : zm_V} {d : Nat} {nm : String} (hlt : l.stackTraces = false) (hV : V.2.2.2.1 = s.heap.size) (hX : zm_X p room_1 s m #[Value.ref zb] meth c RL nm cL_law 8 zk_E V 601024 7293034) (hr : meth.sig.returnType = ret) (hR : d ≤ room_1.frames ∧ 64 * d ≤ room_1.locals) (hd : 46 ≤ d) {N : Nat} {k : Nat → Nat → Nat → Nat → Int32 → Nat → Nat → zm_S → Option ((Int32 × zm_S) ⊕ ((Unit) × zm_S))} {rc rs : Nat} {a0 : Nat} {a1 : Nat} {a2 : Nat} {a3 : Nat} {i4 : Int32} {res : (Int32 × zm_S) ⊕ ((Unit) × zm_S)} {out : (Int32 × zm_S)}   (hf : ∀ o, res = .inl o → o = out) (hk : ∀ (S' : zm_S) (rc rs : Nat), res = .inr ((), S') → zw p l e room_1 s m #[Value.ref zb] below meth c (lw_Z below #[Value.ref zb] s) 8 zk_E V 601024 7293034 6008 [] [] S' rc rs) (hrec : ∀ (i4' : Int32) (rc rs : Nat) (S : zm_S), k a0 a1 a2 a3 i4' rc rs S = some res → zw p l e room_1 s m #[Value.ref zb] below meth c (lw_Z below #[Value.ref zb] s) 8 zk_E V 601024 7293034 23 [(0, .ref a0), (1, .ref a1), (2, .ref a2), (3, .ref a3), (4, .int i4')] [] S rc rs) {S : zm_S} (h : zf_L_law_J2572 N k a0 a1 a2 a3 i4 rc rs S = some res) : zw p l e room_1 s m #[Value.ref zb] below meth c (lw_Z below #[Value.ref zb] s) 8 zk_E V 601024 7293034 2572 [(0, .ref a0), (1, .ref a1), (2, .ref a2), (3, .ref a3), (4, .int i4)] [] S rc rs := by
  unfold zf_L_law_J2572 at h
  refine zw_aload_n hX dL_law_2572 rfl ?_
  refine zw_aload_n hX dL_law_2573 rfl ?_
  refine zw_iload hX dL_law_2574 rfl ?_
  refine zw_iconst (v := (1 : Int32)) hX dL_law_2576 (by decide) ?_
  refine zw_iadd hX dL_law_2577 ?_
  obtain ⟨v387, g, h⟩ := zb_some h
  refine zw_xi hX dL_law_2578 g ?_
  refine zw_aload_n hX dL_law_2579 rfl ?_
  refine zw_iload hX dL_law_2580 rfl ?_
  refine zw_iconst (v := (2 : Int32)) hX dL_law_2582 (by decide) ?_
  refine zw_iadd hX dL_law_2583 ?_
  obtain ⟨v388, g, h⟩ := zb_some h
  refine zw_xi hX dL_law_2584 g ?_
  refine zw_if_eq (tgt := 2592) hX dL_law_2585 (by decide) (fun c2585 => ?_) (fun c2585 => ?_)
  · rw [if_pos c2585] at h
    refine zw_iconst (v := (0 : Int32)) hX dL_law_2592 (by decide) ?_
    refine zw_sub (lv' := [(0, .ref a0), (1, .ref a1), (2, .ref a2), (3, .ref a3), (4, .int i4)]) (List.forall_mem_cons.mpr ⟨rfl, (List.forall_mem_cons.mpr ⟨rfl, (List.forall_mem_cons.mpr ⟨rfl, (List.forall_mem_cons.mpr ⟨rfl, (List.forall_mem_cons.mpr ⟨rfl, zs_nil⟩)⟩)⟩)⟩)⟩) ?_
    exact zt_L_law_J2593 hlt hV hX hr hR hd hf hk hrec h
  · rw [if_neg c2585] at h
    refine zw_iconst (v := (1 : Int32)) hX dL_law_2588 (by decide) ?_
    refine zw_goto (tgt := 2593) hX dL_law_2589 (by decide) ?_
    refine zw_sub (lv' := [(0, .ref a0), (1, .ref a1), (2, .ref a2), (3, .ref a3), (4, .int i4)]) (List.forall_mem_cons.mpr ⟨rfl, (List.forall_mem_cons.mpr ⟨rfl, (List.forall_mem_cons.mpr ⟨rfl, (List.forall_mem_cons.mpr ⟨rfl, (List.forall_mem_cons.mpr ⟨rfl, zs_nil⟩)⟩)⟩)⟩)⟩) ?_
    exact zt_L_law_J2593 hlt hV hX hr hR hd hf hk hrec h
def zf_L_law_J2656 (N : Nat) (k : Nat → Nat → Nat → Nat → Int32 → Nat → Nat → zm_S → Option ((Int32 × zm_S) ⊕ ((Unit) × zm_S))) (a0 : Nat) (a1 : Nat) (a2 : Nat) (a3 : Nat) (i4 : Int32) (rc rs : Nat) (S : zm_S) : Option ((Int32 × zm_S) ⊕ ((Unit) × zm_S)) := (za_x S 0 a0 (i4 + (1 : Int32))).bind (fun v399 => (za_x S 0 a0 (i4 + (2 : Int32))).bind (fun v400 => (za_x S 0 a0 (i4 + (3 : Int32))).bind (fun v401 => if 2 ≤ rc ∧ 12 ≤ rs then (zf_L_ask N a1 v399 v400 v401 a3 S).bind (fun r404 => (za_x r404.2 0 a0 (i4 + (1 : Int32))).bind (fun v405 => (za_x r404.2 0 a0 (i4 + (2 : Int32))).bind (fun v406 => (za_x r404.2 0 a0 (i4 + (3 : Int32))).bind (fun v407 => (zi r404.2 a2 18).bind (fun _ => (zf_X18_ask N a2 v405 v406 v407 r404.2).bind (fun r409 => (zi r409.2 a2 18).bind (fun _ => (zf_X18_thrown N a2 r409.2).bind (fun r411 => if r411.1 = r404.1 then if r404.1 = 0 then (za_l r411.2 a3 (0 : Int32)).bind (fun w412 => if (lg_cmp w412 ((r409.1).toInt64)) = 0 then k a0 a1 a2 a3 (i4 + (7 : Int32)) (rc - 2) (rs - 12) r411.2 else none) else k a0 a1 a2 a3 (i4 + (7 : Int32)) (rc - 2) (rs - 12) r411.2 else none)))))))) else none)))
set_option maxHeartbeats 4000000 in
set_option maxRecDepth 100000 in
theorem zt_L_law_J2656 {p : Program} {l : Launch} {e : Env} {s : State} {m : MethodId} {zb : Nat} {below : List Frame} {meth : Method} {c : Code} {V : zm_V} {d : Nat} {nm : String} (hlt : l.stackTraces = false) (hV : V.2.2.2.1 = s.heap.size) (hX : zm_X p room_1 s m #[Value.ref zb] meth c RL nm cL_law 8 zk_E V 601024 7293034) (hr : meth.sig.returnType = ret) (hR : d ≤ room_1.frames ∧ 64 * d ≤ room_1.locals) (hd : 46 ≤ d) {N : Nat} {k : Nat → Nat → Nat → Nat → Int32 → Nat → Nat → zm_S → Option ((Int32 × zm_S) ⊕ ((Unit) × zm_S))} {rc rs : Nat} {a0 : Nat} {a1 : Nat} {a2 : Nat} {a3 : Nat} {i4 : Int32} {res : (Int32 × zm_S) ⊕ ((Unit) × zm_S)} {out : (Int32 × zm_S)}   (hf : ∀ o, res = .inl o → o = out) (hk : ∀ (S' : zm_S) (rc rs : Nat), res = .inr ((), S') → zw p l e room_1 s m #[Value.ref zb] below meth c (lw_Z below #[Value.ref zb] s) 8 zk_E V 601024 7293034 6008 [] [] S' rc rs) (hrec : ∀ (i4' : Int32) (rc rs : Nat) (S : zm_S), k a0 a1 a2 a3 i4' rc rs S = some res → zw p l e room_1 s m #[Value.ref zb] below meth c (lw_Z below #[Value.ref zb] s) 8 zk_E V 601024 7293034 23 [(0, .ref a0), (1, .ref a1), (2, .ref a2), (3, .ref a3), (4, .int i4')] [] S rc rs) {S : zm_S} (h : zf_L_law_J2656 N k a0 a1 a2 a3 i4 rc rs S = some res) : zw p l e room_1 s m #[Value.ref zb] below meth c (lw_Z below #[Value.ref zb] s) 8 zk_E V 601024 7293034 2656 [(0, .ref a0), (1, .ref a1), (2, .ref a2), (3, .ref a3), (4, .int i4)] [] S rc rs := by
  unfold zf_L_law_J2656 at h
  refine zw_aload_n hX dL_law_2656 rfl ?_
  refine zw_aload_n hX dL_law_2657 rfl ?_
  refine zw_iload hX dL_law_2658 rfl ?_
  refine zw_iconst (v := (1 : Int32)) hX dL_law_2660 (by decide) ?_
  refine zw_iadd hX dL_law_2661 ?_
  obtain ⟨v399, g, h⟩ := zb_some h
  refine zw_xi hX dL_law_2662 g ?_
  refine zw_aload_n hX dL_law_2663 rfl ?_
  refine zw_iload hX dL_law_2664 rfl ?_
  refine zw_iconst (v := (2 : Int32)) hX dL_law_2666 (by decide) ?_
  refine zw_iadd hX dL_law_2667 ?_
  obtain ⟨v400, g, h⟩ := zb_some h
  refine zw_xi hX dL_law_2668 g ?_
  refine zw_aload_n hX dL_law_2669 rfl ?_
  refine zw_iload hX dL_law_2670 rfl ?_
  refine zw_iconst (v := (3 : Int32)) hX dL_law_2672 (by decide) ?_
  refine zw_iadd hX dL_law_2673 ?_
  obtain ⟨v401, g, h⟩ := zb_some h
  refine zw_xi hX dL_law_2674 g ?_
  refine zw_aload_n hX dL_law_2675 rfl ?_
  by_cases hb2676 : 2 ≤ rc ∧ 12 ≤ rs
  · rw [if_pos hb2676] at h
    obtain ⟨r404, g, h⟩ := zb_some h
    refine zc_S (as := [.ref a1, .int v399, .int v400, .int v401, .ref a3]) hX (zt_L_ask hlt (d := d - 1) (by omega) g) zl_L_387 dL_law_2676 ⟨rfl, rfl, Nat.le_of_ble_eq_true rfl⟩ ⟨by omega, by omega⟩ hb2676 ?_ ?_
    · rintro _ _ ⟨rfl, rfl⟩
      refine zw_istore hX dL_law_2679 (by decide) ?_
      refine zw_aload_n hX dL_law_2681 rfl ?_
      refine zw_aload_n hX dL_law_2682 rfl ?_
      refine zw_iload hX dL_law_2683 rfl ?_
      refine zw_iconst (v := (1 : Int32)) hX dL_law_2685 (by decide) ?_
      refine zw_iadd hX dL_law_2686 ?_
      obtain ⟨v405, g, h⟩ := zb_some h
      refine zw_xi hX dL_law_2687 g ?_
      refine zw_aload_n hX dL_law_2688 rfl ?_
      refine zw_iload hX dL_law_2689 rfl ?_
      refine zw_iconst (v := (2 : Int32)) hX dL_law_2691 (by decide) ?_
      refine zw_iadd hX dL_law_2692 ?_
      obtain ⟨v406, g, h⟩ := zb_some h
      refine zw_xi hX dL_law_2693 g ?_
      refine zw_aload_n hX dL_law_2694 rfl ?_
      refine zw_iload hX dL_law_2695 rfl ?_
      refine zw_iconst (v := (3 : Int32)) hX dL_law_2697 (by decide) ?_
      refine zw_iadd hX dL_law_2698 ?_
      obtain ⟨v407, g, h⟩ := zb_some h
      refine zw_xi hX dL_law_2699 g ?_
      obtain ⟨_, gi, h⟩ := zb_some h
      obtain ⟨r409, g, h⟩ := zb_some h
      refine zc_Vi (as := [.int v405, .int v406, .int v407]) hX gi (zt_X18_ask (d := d - 1) (by omega) g) zl_L_389 rfl dL_law_2700 ⟨rfl, rfl, Nat.le_of_ble_eq_true rfl⟩ ⟨by omega, by omega⟩ ?_
      refine zw_istore hX dL_law_2703 (by decide) ?_
      refine zw_aload_n hX dL_law_2705 rfl ?_
      obtain ⟨_, gi, h⟩ := zb_some h
      obtain ⟨r411, g, h⟩ := zb_some h
      refine zc_Vi (as := []) hX gi (zt_X18_thrown (d := d - 1) (by omega) g) zl_L_281 rfl dL_law_2706 ⟨rfl, rfl, Nat.le_of_ble_eq_true rfl⟩ ⟨by omega, by omega⟩ ?_
      refine zw_iload hX dL_law_2709 rfl ?_
      refine zw_icmp_eq (tgt := 2716) hX dL_law_2711 (by decide) (fun c2711 => ?_) (fun c2711 => ?_)
      · rw [if_pos c2711] at h
        refine zw_iload hX dL_law_2716 rfl ?_
        refine zw_if_ne (tgt := 2733) hX dL_law_2718 (by decide) (fun c2718 => ?_) (fun c2718 => ?_)
        · rw [if_neg c2718] at h
          refine zw_goto (tgt := 6002) hX dL_law_2733 (by decide) ?_
          refine zw_iinc (v := (i4 + (7 : Int32))) hX dL_law_6002 rfl rfl (by decide) ?_
          refine zw_goto (tgt := 23) hX dL_law_6005 (by decide) ?_
          refine zw_sub (lv' := [(0, .ref a0), (1, .ref a1), (2, .ref a2), (3, .ref a3), (4, .int (i4 + (7 : Int32)))]) (List.forall_mem_cons.mpr ⟨rfl, (List.forall_mem_cons.mpr ⟨rfl, (List.forall_mem_cons.mpr ⟨rfl, (List.forall_mem_cons.mpr ⟨rfl, (List.forall_mem_cons.mpr ⟨rfl, zs_nil⟩)⟩)⟩)⟩)⟩) ?_
          exact hrec _ _ _ _ h
        · rw [if_pos c2718] at h
          refine zw_aload_n hX dL_law_2721 rfl ?_
          refine zw_iconst (v := (0 : Int32)) hX dL_law_2722 (by decide) ?_
          obtain ⟨w412, g, h⟩ := zb_some h
          refine zw_xl hX dL_law_2723 g ?_
          refine zw_iload hX dL_law_2724 rfl ?_
          refine zw_i2l hX dL_law_2726 ?_
          refine zw_lcmp hX dL_law_2727 ?_
          refine zw_if_eq (tgt := 2733) hX dL_law_2728 (by decide) (fun c2728 => ?_) (fun c2728 => ?_)
          · rw [if_pos c2728] at h
            refine zw_goto (tgt := 6002) hX dL_law_2733 (by decide) ?_
            refine zw_iinc (v := (i4 + (7 : Int32))) hX dL_law_6002 rfl rfl (by decide) ?_
            refine zw_goto (tgt := 23) hX dL_law_6005 (by decide) ?_
            refine zw_sub (lv' := [(0, .ref a0), (1, .ref a1), (2, .ref a2), (3, .ref a3), (4, .int (i4 + (7 : Int32)))]) (List.forall_mem_cons.mpr ⟨rfl, (List.forall_mem_cons.mpr ⟨rfl, (List.forall_mem_cons.mpr ⟨rfl, (List.forall_mem_cons.mpr ⟨rfl, (List.forall_mem_cons.mpr ⟨rfl, zs_nil⟩)⟩)⟩)⟩)⟩) ?_
            exact hrec _ _ _ _ h
          · rw [if_neg c2728] at h
            refine zw_iconst (v := (0 : Int32)) hX dL_law_2731 (by decide) ?_
            cases h
      · rw [if_neg c2711] at h
        refine zw_iconst (v := (0 : Int32)) hX dL_law_2714 (by decide) ?_
        cases h
    · intro _ _ hx
      exact hx.elim
  · rw [if_neg hb2676] at h
    cases h
def zf_L_law_J2736 (N : Nat) (k : Nat → Nat → Nat → Nat → Int32 → Nat → Nat → zm_S → Option ((Int32 × zm_S) ⊕ ((Unit) × zm_S))) (a0 : Nat) (a1 : Nat) (a2 : Nat) (a3 : Nat) (i4 : Int32) (rc rs : Nat) (S : zm_S) : Option ((Int32 × zm_S) ⊕ ((Unit) × zm_S)) := (za_x S 0 a0 (i4 + (1 : Int32))).bind (fun v413 => (za_x S 0 a0 (i4 + (2 : Int32))).bind (fun v414 => (za_x S 0 a0 (i4 + (3 : Int32))).bind (fun v415 => (za_x S 0 a0 (i4 + (4 : Int32))).bind (fun v416 => if 3 ≤ rc ∧ 18 ≤ rs then (zf_L_both N a1 v413 v414 v415 v416 a3 S).bind (fun r419 => (za_x r419.2 0 a0 (i4 + (1 : Int32))).bind (fun v420 => (za_x r419.2 0 a0 (i4 + (2 : Int32))).bind (fun v421 => (za_x r419.2 0 a0 (i4 + (3 : Int32))).bind (fun v422 => (za_x r419.2 0 a0 (i4 + (4 : Int32))).bind (fun v423 => (zi r419.2 a2 18).bind (fun _ => (zf_X18_both N a2 v420 v421 v422 v423 r419.2).bind (fun r425 => (zi r425.2 a2 18).bind (fun _ => (zf_X18_thrown N a2 r425.2).bind (fun r427 => if r427.1 = r419.1 then if r419.1 = 0 then (za_l r427.2 a3 (0 : Int32)).bind (fun w428 => if (lg_cmp w428 ((r425.1).toInt64)) = 0 then k a0 a1 a2 a3 (i4 + (7 : Int32)) (rc - 3) (rs - 18) r427.2 else none) else k a0 a1 a2 a3 (i4 + (7 : Int32)) (rc - 3) (rs - 18) r427.2 else none))))))))) else none))))
set_option maxHeartbeats 4000000 in
set_option maxRecDepth 100000 in
theorem zt_L_law_J2736 {p : Program} {l : Launch} {e : Env} {s : State} {m : MethodId} {zb : Nat} {below : List Frame} {meth : Method} {c : Code} {V : zm_V} {d : Nat} {nm : String} (hlt : l.stackTraces = false) (hV : V.2.2.2.1 = s.heap.size) (hX : zm_X p room_1 s m #[Value.ref zb] meth c RL nm cL_law 8 zk_E V 601024 7293034) (hr : meth.sig.returnType = ret) (hR : d ≤ room_1.frames ∧ 64 * d ≤ room_1.locals) (hd : 46 ≤ d) {N : Nat} {k : Nat → Nat → Nat → Nat → Int32 → Nat → Nat → zm_S → Option ((Int32 × zm_S) ⊕ ((Unit) × zm_S))} {rc rs : Nat} {a0 : Nat} {a1 : Nat} {a2 : Nat} {a3 : Nat} {i4 : Int32} {res : (Int32 × zm_S) ⊕ ((Unit) × zm_S)} {out : (Int32 × zm_S)}   (hf : ∀ o, res = .inl o → o = out) (hk : ∀ (S' : zm_S) (rc rs : Nat), res = .inr ((), S') → zw p l e room_1 s m #[Value.ref zb] below meth c (lw_Z below #[Value.ref zb] s) 8 zk_E V 601024 7293034 6008 [] [] S' rc rs) (hrec : ∀ (i4' : Int32) (rc rs : Nat) (S : zm_S), k a0 a1 a2 a3 i4' rc rs S = some res → zw p l e room_1 s m #[Value.ref zb] below meth c (lw_Z below #[Value.ref zb] s) 8 zk_E V 601024 7293034 23 [(0, .ref a0), (1, .ref a1), (2, .ref a2), (3, .ref a3), (4, .int i4')] [] S rc rs) {S : zm_S} (h : zf_L_law_J2736 N k a0 a1 a2 a3 i4 rc rs S = some res) : zw p l e room_1 s m #[Value.ref zb] below meth c (lw_Z below #[Value.ref zb] s) 8 zk_E V 601024 7293034 2736 [(0, .ref a0), (1, .ref a1), (2, .ref a2), (3, .ref a3), (4, .int i4)] [] S rc rs := by
  unfold zf_L_law_J2736 at h
  refine zw_aload_n hX dL_law_2736 rfl ?_
  refine zw_aload_n hX dL_law_2737 rfl ?_
  refine zw_iload hX dL_law_2738 rfl ?_
  refine zw_iconst (v := (1 : Int32)) hX dL_law_2740 (by decide) ?_
  refine zw_iadd hX dL_law_2741 ?_
  obtain ⟨v413, g, h⟩ := zb_some h
  refine zw_xi hX dL_law_2742 g ?_
  refine zw_aload_n hX dL_law_2743 rfl ?_
  refine zw_iload hX dL_law_2744 rfl ?_
  refine zw_iconst (v := (2 : Int32)) hX dL_law_2746 (by decide) ?_
  refine zw_iadd hX dL_law_2747 ?_
  obtain ⟨v414, g, h⟩ := zb_some h
  refine zw_xi hX dL_law_2748 g ?_
  refine zw_aload_n hX dL_law_2749 rfl ?_
  refine zw_iload hX dL_law_2750 rfl ?_
  refine zw_iconst (v := (3 : Int32)) hX dL_law_2752 (by decide) ?_
  refine zw_iadd hX dL_law_2753 ?_
  obtain ⟨v415, g, h⟩ := zb_some h
  refine zw_xi hX dL_law_2754 g ?_
  refine zw_aload_n hX dL_law_2755 rfl ?_
  refine zw_iload hX dL_law_2756 rfl ?_
  refine zw_iconst (v := (4 : Int32)) hX dL_law_2758 (by decide) ?_
  refine zw_iadd hX dL_law_2759 ?_
  obtain ⟨v416, g, h⟩ := zb_some h
  refine zw_xi hX dL_law_2760 g ?_
  refine zw_aload_n hX dL_law_2761 rfl ?_
  by_cases hb2762 : 3 ≤ rc ∧ 18 ≤ rs
  · rw [if_pos hb2762] at h
    obtain ⟨r419, g, h⟩ := zb_some h
    refine zc_S (as := [.ref a1, .int v413, .int v414, .int v415, .int v416, .ref a3]) hX (zt_L_both hlt (d := d - 1) (by omega) g) zl_L_390 dL_law_2762 ⟨rfl, rfl, Nat.le_of_ble_eq_true rfl⟩ ⟨by omega, by omega⟩ hb2762 ?_ ?_
    · rintro _ _ ⟨rfl, rfl⟩
      refine zw_istore hX dL_law_2765 (by decide) ?_
      refine zw_aload_n hX dL_law_2767 rfl ?_
      refine zw_aload_n hX dL_law_2768 rfl ?_
      refine zw_iload hX dL_law_2769 rfl ?_
      refine zw_iconst (v := (1 : Int32)) hX dL_law_2771 (by decide) ?_
      refine zw_iadd hX dL_law_2772 ?_
      obtain ⟨v420, g, h⟩ := zb_some h
      refine zw_xi hX dL_law_2773 g ?_
      refine zw_aload_n hX dL_law_2774 rfl ?_
      refine zw_iload hX dL_law_2775 rfl ?_
      refine zw_iconst (v := (2 : Int32)) hX dL_law_2777 (by decide) ?_
      refine zw_iadd hX dL_law_2778 ?_
      obtain ⟨v421, g, h⟩ := zb_some h
      refine zw_xi hX dL_law_2779 g ?_
      refine zw_aload_n hX dL_law_2780 rfl ?_
      refine zw_iload hX dL_law_2781 rfl ?_
      refine zw_iconst (v := (3 : Int32)) hX dL_law_2783 (by decide) ?_
      refine zw_iadd hX dL_law_2784 ?_
      obtain ⟨v422, g, h⟩ := zb_some h
      refine zw_xi hX dL_law_2785 g ?_
      refine zw_aload_n hX dL_law_2786 rfl ?_
      refine zw_iload hX dL_law_2787 rfl ?_
      refine zw_iconst (v := (4 : Int32)) hX dL_law_2789 (by decide) ?_
      refine zw_iadd hX dL_law_2790 ?_
      obtain ⟨v423, g, h⟩ := zb_some h
      refine zw_xi hX dL_law_2791 g ?_
      obtain ⟨_, gi, h⟩ := zb_some h
      obtain ⟨r425, g, h⟩ := zb_some h
      refine zc_Vi (as := [.int v420, .int v421, .int v422, .int v423]) hX gi (zt_X18_both (d := d - 1) (by omega) g) zl_L_392 rfl dL_law_2792 ⟨rfl, rfl, Nat.le_of_ble_eq_true rfl⟩ ⟨by omega, by omega⟩ ?_
      refine zw_istore hX dL_law_2795 (by decide) ?_
      refine zw_aload_n hX dL_law_2797 rfl ?_
      obtain ⟨_, gi, h⟩ := zb_some h
      obtain ⟨r427, g, h⟩ := zb_some h
      refine zc_Vi (as := []) hX gi (zt_X18_thrown (d := d - 1) (by omega) g) zl_L_281 rfl dL_law_2798 ⟨rfl, rfl, Nat.le_of_ble_eq_true rfl⟩ ⟨by omega, by omega⟩ ?_
      refine zw_iload hX dL_law_2801 rfl ?_
      refine zw_icmp_eq (tgt := 2808) hX dL_law_2803 (by decide) (fun c2803 => ?_) (fun c2803 => ?_)
      · rw [if_pos c2803] at h
        refine zw_iload hX dL_law_2808 rfl ?_
        refine zw_if_ne (tgt := 2825) hX dL_law_2810 (by decide) (fun c2810 => ?_) (fun c2810 => ?_)
        · rw [if_neg c2810] at h
          refine zw_goto (tgt := 6002) hX dL_law_2825 (by decide) ?_
          refine zw_iinc (v := (i4 + (7 : Int32))) hX dL_law_6002 rfl rfl (by decide) ?_
          refine zw_goto (tgt := 23) hX dL_law_6005 (by decide) ?_
          refine zw_sub (lv' := [(0, .ref a0), (1, .ref a1), (2, .ref a2), (3, .ref a3), (4, .int (i4 + (7 : Int32)))]) (List.forall_mem_cons.mpr ⟨rfl, (List.forall_mem_cons.mpr ⟨rfl, (List.forall_mem_cons.mpr ⟨rfl, (List.forall_mem_cons.mpr ⟨rfl, (List.forall_mem_cons.mpr ⟨rfl, zs_nil⟩)⟩)⟩)⟩)⟩) ?_
          exact hrec _ _ _ _ h
        · rw [if_pos c2810] at h
          refine zw_aload_n hX dL_law_2813 rfl ?_
          refine zw_iconst (v := (0 : Int32)) hX dL_law_2814 (by decide) ?_
          obtain ⟨w428, g, h⟩ := zb_some h
          refine zw_xl hX dL_law_2815 g ?_
          refine zw_iload hX dL_law_2816 rfl ?_
          refine zw_i2l hX dL_law_2818 ?_
          refine zw_lcmp hX dL_law_2819 ?_
          refine zw_if_eq (tgt := 2825) hX dL_law_2820 (by decide) (fun c2820 => ?_) (fun c2820 => ?_)
          · rw [if_pos c2820] at h
            refine zw_goto (tgt := 6002) hX dL_law_2825 (by decide) ?_
            refine zw_iinc (v := (i4 + (7 : Int32))) hX dL_law_6002 rfl rfl (by decide) ?_
            refine zw_goto (tgt := 23) hX dL_law_6005 (by decide) ?_
            refine zw_sub (lv' := [(0, .ref a0), (1, .ref a1), (2, .ref a2), (3, .ref a3), (4, .int (i4 + (7 : Int32)))]) (List.forall_mem_cons.mpr ⟨rfl, (List.forall_mem_cons.mpr ⟨rfl, (List.forall_mem_cons.mpr ⟨rfl, (List.forall_mem_cons.mpr ⟨rfl, (List.forall_mem_cons.mpr ⟨rfl, zs_nil⟩)⟩)⟩)⟩)⟩) ?_
            exact hrec _ _ _ _ h
          · rw [if_neg c2820] at h
            refine zw_iconst (v := (0 : Int32)) hX dL_law_2823 (by decide) ?_
            cases h
      · rw [if_neg c2803] at h
        refine zw_iconst (v := (0 : Int32)) hX dL_law_2806 (by decide) ?_
        cases h
    · intro _ _ hx
      exact hx.elim
  · rw [if_neg hb2762] at h
    cases h
def zf_L_law_J2828 (N : Nat) (k : Nat → Nat → Nat → Nat → Int32 → Nat → Nat → zm_S → Option ((Int32 × zm_S) ⊕ ((Unit) × zm_S))) (a0 : Nat) (a1 : Nat) (a2 : Nat) (a3 : Nat) (i4 : Int32) (rc rs : Nat) (S : zm_S) : Option ((Int32 × zm_S) ⊕ ((Unit) × zm_S)) := (za_x S 0 a0 (i4 + (1 : Int32))).bind (fun v429 => (za_x S 0 a0 (i4 + (2 : Int32))).bind (fun v430 => if 2 ≤ rc ∧ 12 ≤ rs then (zf_L_where N a1 v429 v430 a3 S).bind (fun r433 => (za_x r433.2 0 a0 (i4 + (1 : Int32))).bind (fun v434 => (za_x r433.2 0 a0 (i4 + (2 : Int32))).bind (fun v435 => (zi r433.2 a2 18).bind (fun _ => (zf_X18_where N a2 v434 v435 r433.2).bind (fun r437 => (zi r437.2 a2 18).bind (fun _ => (zf_X18_thrown N a2 r437.2).bind (fun r439 => if r439.1 = r433.1 then if r433.1 = 0 then (za_l r439.2 a3 (0 : Int32)).bind (fun w440 => if (lg_cmp w440 ((r437.1).toInt64)) = 0 then k a0 a1 a2 a3 (i4 + (7 : Int32)) (rc - 2) (rs - 12) r439.2 else none) else k a0 a1 a2 a3 (i4 + (7 : Int32)) (rc - 2) (rs - 12) r439.2 else none))))))) else none))
set_option maxHeartbeats 4000000 in
set_option maxRecDepth 100000 in
theorem zt_L_law_J2828 {p : Program} {l : Launch} {e : Env} {s : State} {m : MethodId} {zb : Nat} {below : List Frame} {meth : Method} {c : Code} {V : zm_V} {d : Nat} {nm : String} (hlt : l.stackTraces = false) (hV : V.2.2.2.1 = s.heap.size) (hX : zm_X p room_1 s m #[Value.ref zb] meth c RL nm cL_law 8 zk_E V 601024 7293034) (hr : meth.sig.returnType = ret) (hR : d ≤ room_1.frames ∧ 64 * d ≤ room_1.locals) (hd : 46 ≤ d) {N : Nat} {k : Nat → Nat → Nat → Nat → Int32 → Nat → Nat → zm_S → Option ((Int32 × zm_S) ⊕ ((Unit) × zm_S))} {rc rs : Nat} {a0 : Nat} {a1 : Nat} {a2 : Nat} {a3 : Nat} {i4 : Int32} {res : (Int32 × zm_S) ⊕ ((Unit) × zm_S)} {out : (Int32 × zm_S)}   (hf : ∀ o, res = .inl o → o = out) (hk : ∀ (S' : zm_S) (rc rs : Nat), res = .inr ((), S') → zw p l e room_1 s m #[Value.ref zb] below meth c (lw_Z below #[Value.ref zb] s) 8 zk_E V 601024 7293034 6008 [] [] S' rc rs) (hrec : ∀ (i4' : Int32) (rc rs : Nat) (S : zm_S), k a0 a1 a2 a3 i4' rc rs S = some res → zw p l e room_1 s m #[Value.ref zb] below meth c (lw_Z below #[Value.ref zb] s) 8 zk_E V 601024 7293034 23 [(0, .ref a0), (1, .ref a1), (2, .ref a2), (3, .ref a3), (4, .int i4')] [] S rc rs) {S : zm_S} (h : zf_L_law_J2828 N k a0 a1 a2 a3 i4 rc rs S = some res) : zw p l e room_1 s m #[Value.ref zb] below meth c (lw_Z below #[Value.ref zb] s) 8 zk_E V 601024 7293034 2828 [(0, .ref a0), (1, .ref a1), (2, .ref a2), (3, .ref a3), (4, .int i4)] [] S rc rs := by
  unfold zf_L_law_J2828 at h
  refine zw_aload_n hX dL_law_2828 rfl ?_
  refine zw_aload_n hX dL_law_2829 rfl ?_
  refine zw_iload hX dL_law_2830 rfl ?_
  refine zw_iconst (v := (1 : Int32)) hX dL_law_2832 (by decide) ?_
  refine zw_iadd hX dL_law_2833 ?_
  obtain ⟨v429, g, h⟩ := zb_some h
  refine zw_xi hX dL_law_2834 g ?_
  refine zw_aload_n hX dL_law_2835 rfl ?_
  refine zw_iload hX dL_law_2836 rfl ?_
  refine zw_iconst (v := (2 : Int32)) hX dL_law_2838 (by decide) ?_
  refine zw_iadd hX dL_law_2839 ?_
  obtain ⟨v430, g, h⟩ := zb_some h
  refine zw_xi hX dL_law_2840 g ?_
  refine zw_aload_n hX dL_law_2841 rfl ?_
  by_cases hb2842 : 2 ≤ rc ∧ 12 ≤ rs
  · rw [if_pos hb2842] at h
    obtain ⟨r433, g, h⟩ := zb_some h
    refine zc_S (as := [.ref a1, .int v429, .int v430, .ref a3]) hX (zt_L_where hlt (d := d - 1) (by omega) g) zl_L_393 dL_law_2842 ⟨rfl, rfl, Nat.le_of_ble_eq_true rfl⟩ ⟨by omega, by omega⟩ hb2842 ?_ ?_
    · rintro _ _ ⟨rfl, rfl⟩
      refine zw_istore hX dL_law_2845 (by decide) ?_
      refine zw_aload_n hX dL_law_2847 rfl ?_
      refine zw_aload_n hX dL_law_2848 rfl ?_
      refine zw_iload hX dL_law_2849 rfl ?_
      refine zw_iconst (v := (1 : Int32)) hX dL_law_2851 (by decide) ?_
      refine zw_iadd hX dL_law_2852 ?_
      obtain ⟨v434, g, h⟩ := zb_some h
      refine zw_xi hX dL_law_2853 g ?_
      refine zw_aload_n hX dL_law_2854 rfl ?_
      refine zw_iload hX dL_law_2855 rfl ?_
      refine zw_iconst (v := (2 : Int32)) hX dL_law_2857 (by decide) ?_
      refine zw_iadd hX dL_law_2858 ?_
      obtain ⟨v435, g, h⟩ := zb_some h
      refine zw_xi hX dL_law_2859 g ?_
      obtain ⟨_, gi, h⟩ := zb_some h
      obtain ⟨r437, g, h⟩ := zb_some h
      refine zc_Vi (as := [.int v434, .int v435]) hX gi (zt_X18_where (d := d - 1) (by omega) g) zl_L_395 rfl dL_law_2860 ⟨rfl, rfl, Nat.le_of_ble_eq_true rfl⟩ ⟨by omega, by omega⟩ ?_
      refine zw_istore hX dL_law_2863 (by decide) ?_
      refine zw_aload_n hX dL_law_2865 rfl ?_
      obtain ⟨_, gi, h⟩ := zb_some h
      obtain ⟨r439, g, h⟩ := zb_some h
      refine zc_Vi (as := []) hX gi (zt_X18_thrown (d := d - 1) (by omega) g) zl_L_281 rfl dL_law_2866 ⟨rfl, rfl, Nat.le_of_ble_eq_true rfl⟩ ⟨by omega, by omega⟩ ?_
      refine zw_iload hX dL_law_2869 rfl ?_
      refine zw_icmp_eq (tgt := 2876) hX dL_law_2871 (by decide) (fun c2871 => ?_) (fun c2871 => ?_)
      · rw [if_pos c2871] at h
        refine zw_iload hX dL_law_2876 rfl ?_
        refine zw_if_ne (tgt := 2893) hX dL_law_2878 (by decide) (fun c2878 => ?_) (fun c2878 => ?_)
        · rw [if_neg c2878] at h
          refine zw_goto (tgt := 6002) hX dL_law_2893 (by decide) ?_
          refine zw_iinc (v := (i4 + (7 : Int32))) hX dL_law_6002 rfl rfl (by decide) ?_
          refine zw_goto (tgt := 23) hX dL_law_6005 (by decide) ?_
          refine zw_sub (lv' := [(0, .ref a0), (1, .ref a1), (2, .ref a2), (3, .ref a3), (4, .int (i4 + (7 : Int32)))]) (List.forall_mem_cons.mpr ⟨rfl, (List.forall_mem_cons.mpr ⟨rfl, (List.forall_mem_cons.mpr ⟨rfl, (List.forall_mem_cons.mpr ⟨rfl, (List.forall_mem_cons.mpr ⟨rfl, zs_nil⟩)⟩)⟩)⟩)⟩) ?_
          exact hrec _ _ _ _ h
        · rw [if_pos c2878] at h
          refine zw_aload_n hX dL_law_2881 rfl ?_
          refine zw_iconst (v := (0 : Int32)) hX dL_law_2882 (by decide) ?_
          obtain ⟨w440, g, h⟩ := zb_some h
          refine zw_xl hX dL_law_2883 g ?_
          refine zw_iload hX dL_law_2884 rfl ?_
          refine zw_i2l hX dL_law_2886 ?_
          refine zw_lcmp hX dL_law_2887 ?_
          refine zw_if_eq (tgt := 2893) hX dL_law_2888 (by decide) (fun c2888 => ?_) (fun c2888 => ?_)
          · rw [if_pos c2888] at h
            refine zw_goto (tgt := 6002) hX dL_law_2893 (by decide) ?_
            refine zw_iinc (v := (i4 + (7 : Int32))) hX dL_law_6002 rfl rfl (by decide) ?_
            refine zw_goto (tgt := 23) hX dL_law_6005 (by decide) ?_
            refine zw_sub (lv' := [(0, .ref a0), (1, .ref a1), (2, .ref a2), (3, .ref a3), (4, .int (i4 + (7 : Int32)))]) (List.forall_mem_cons.mpr ⟨rfl, (List.forall_mem_cons.mpr ⟨rfl, (List.forall_mem_cons.mpr ⟨rfl, (List.forall_mem_cons.mpr ⟨rfl, (List.forall_mem_cons.mpr ⟨rfl, zs_nil⟩)⟩)⟩)⟩)⟩) ?_
            exact hrec _ _ _ _ h
          · rw [if_neg c2888] at h
            refine zw_iconst (v := (0 : Int32)) hX dL_law_2891 (by decide) ?_
            cases h
      · rw [if_neg c2871] at h
        refine zw_iconst (v := (0 : Int32)) hX dL_law_2874 (by decide) ?_
        cases h
    · intro _ _ hx
      exact hx.elim
  · rw [if_neg hb2842] at h
    cases h
def zf_L_law_J2896 (N : Nat) (k : Nat → Nat → Nat → Nat → Int32 → Nat → Nat → zm_S → Option ((Int32 × zm_S) ⊕ ((Unit) × zm_S))) (a0 : Nat) (a1 : Nat) (a2 : Nat) (a3 : Nat) (i4 : Int32) (rc rs : Nat) (S : zm_S) : Option ((Int32 × zm_S) ⊕ ((Unit) × zm_S)) := (za_x S 0 a0 (i4 + (1 : Int32))).bind (fun v441 => if 2 ≤ rc ∧ 12 ≤ rs then (zf_L_inside N a1 v441 a3 S).bind (fun r444 => (za_x r444.2 0 a0 (i4 + (1 : Int32))).bind (fun v445 => (zi r444.2 a2 18).bind (fun _ => (zf_X18_inside N a2 v445 r444.2).bind (fun r447 => (zi r447.2 a2 18).bind (fun _ => (zf_X18_thrown N a2 r447.2).bind (fun r449 => if r449.1 = r444.1 then if r444.1 = 0 then (za_l r449.2 a3 (0 : Int32)).bind (fun w450 => if (lg_cmp w450 ((r447.1).toInt64)) = 0 then k a0 a1 a2 a3 (i4 + (7 : Int32)) (rc - 2) (rs - 12) r449.2 else none) else k a0 a1 a2 a3 (i4 + (7 : Int32)) (rc - 2) (rs - 12) r449.2 else none)))))) else none)
set_option maxHeartbeats 4000000 in
set_option maxRecDepth 100000 in
theorem zt_L_law_J2896 {p : Program} {l : Launch} {e : Env} {s : State} {m : MethodId} {zb : Nat} {below : List Frame} {meth : Method} {c : Code} {V : zm_V} {d : Nat} {nm : String} (hlt : l.stackTraces = false) (hV : V.2.2.2.1 = s.heap.size) (hX : zm_X p room_1 s m #[Value.ref zb] meth c RL nm cL_law 8 zk_E V 601024 7293034) (hr : meth.sig.returnType = ret) (hR : d ≤ room_1.frames ∧ 64 * d ≤ room_1.locals) (hd : 46 ≤ d) {N : Nat} {k : Nat → Nat → Nat → Nat → Int32 → Nat → Nat → zm_S → Option ((Int32 × zm_S) ⊕ ((Unit) × zm_S))} {rc rs : Nat} {a0 : Nat} {a1 : Nat} {a2 : Nat} {a3 : Nat} {i4 : Int32} {res : (Int32 × zm_S) ⊕ ((Unit) × zm_S)} {out : (Int32 × zm_S)}   (hf : ∀ o, res = .inl o → o = out) (hk : ∀ (S' : zm_S) (rc rs : Nat), res = .inr ((), S') → zw p l e room_1 s m #[Value.ref zb] below meth c (lw_Z below #[Value.ref zb] s) 8 zk_E V 601024 7293034 6008 [] [] S' rc rs) (hrec : ∀ (i4' : Int32) (rc rs : Nat) (S : zm_S), k a0 a1 a2 a3 i4' rc rs S = some res → zw p l e room_1 s m #[Value.ref zb] below meth c (lw_Z below #[Value.ref zb] s) 8 zk_E V 601024 7293034 23 [(0, .ref a0), (1, .ref a1), (2, .ref a2), (3, .ref a3), (4, .int i4')] [] S rc rs) {S : zm_S} (h : zf_L_law_J2896 N k a0 a1 a2 a3 i4 rc rs S = some res) : zw p l e room_1 s m #[Value.ref zb] below meth c (lw_Z below #[Value.ref zb] s) 8 zk_E V 601024 7293034 2896 [(0, .ref a0), (1, .ref a1), (2, .ref a2), (3, .ref a3), (4, .int i4)] [] S rc rs := by
  unfold zf_L_law_J2896 at h
  refine zw_aload_n hX dL_law_2896 rfl ?_
  refine zw_aload_n hX dL_law_2897 rfl ?_
  refine zw_iload hX dL_law_2898 rfl ?_
  refine zw_iconst (v := (1 : Int32)) hX dL_law_2900 (by decide) ?_
  refine zw_iadd hX dL_law_2901 ?_
  obtain ⟨v441, g, h⟩ := zb_some h
  refine zw_xi hX dL_law_2902 g ?_
  refine zw_aload_n hX dL_law_2903 rfl ?_
  by_cases hb2904 : 2 ≤ rc ∧ 12 ≤ rs
  · rw [if_pos hb2904] at h
    obtain ⟨r444, g, h⟩ := zb_some h
    refine zc_S (as := [.ref a1, .int v441, .ref a3]) hX (zt_L_inside hlt (d := d - 1) (by omega) g) zl_L_396 dL_law_2904 ⟨rfl, rfl, Nat.le_of_ble_eq_true rfl⟩ ⟨by omega, by omega⟩ hb2904 ?_ ?_
    · rintro _ _ ⟨rfl, rfl⟩
      refine zw_istore hX dL_law_2907 (by decide) ?_
      refine zw_aload_n hX dL_law_2909 rfl ?_
      refine zw_aload_n hX dL_law_2910 rfl ?_
      refine zw_iload hX dL_law_2911 rfl ?_
      refine zw_iconst (v := (1 : Int32)) hX dL_law_2913 (by decide) ?_
      refine zw_iadd hX dL_law_2914 ?_
      obtain ⟨v445, g, h⟩ := zb_some h
      refine zw_xi hX dL_law_2915 g ?_
      obtain ⟨_, gi, h⟩ := zb_some h
      obtain ⟨r447, g, h⟩ := zb_some h
      refine zc_Vi (as := [.int v445]) hX gi (zt_X18_inside (d := d - 1) (by omega) g) zl_L_398 rfl dL_law_2916 ⟨rfl, rfl, Nat.le_of_ble_eq_true rfl⟩ ⟨by omega, by omega⟩ ?_
      refine zw_istore hX dL_law_2919 (by decide) ?_
      refine zw_aload_n hX dL_law_2921 rfl ?_
      obtain ⟨_, gi, h⟩ := zb_some h
      obtain ⟨r449, g, h⟩ := zb_some h
      refine zc_Vi (as := []) hX gi (zt_X18_thrown (d := d - 1) (by omega) g) zl_L_281 rfl dL_law_2922 ⟨rfl, rfl, Nat.le_of_ble_eq_true rfl⟩ ⟨by omega, by omega⟩ ?_
      refine zw_iload hX dL_law_2925 rfl ?_
      refine zw_icmp_eq (tgt := 2932) hX dL_law_2927 (by decide) (fun c2927 => ?_) (fun c2927 => ?_)
      · rw [if_pos c2927] at h
        refine zw_iload hX dL_law_2932 rfl ?_
        refine zw_if_ne (tgt := 2949) hX dL_law_2934 (by decide) (fun c2934 => ?_) (fun c2934 => ?_)
        · rw [if_neg c2934] at h
          refine zw_goto (tgt := 6002) hX dL_law_2949 (by decide) ?_
          refine zw_iinc (v := (i4 + (7 : Int32))) hX dL_law_6002 rfl rfl (by decide) ?_
          refine zw_goto (tgt := 23) hX dL_law_6005 (by decide) ?_
          refine zw_sub (lv' := [(0, .ref a0), (1, .ref a1), (2, .ref a2), (3, .ref a3), (4, .int (i4 + (7 : Int32)))]) (List.forall_mem_cons.mpr ⟨rfl, (List.forall_mem_cons.mpr ⟨rfl, (List.forall_mem_cons.mpr ⟨rfl, (List.forall_mem_cons.mpr ⟨rfl, (List.forall_mem_cons.mpr ⟨rfl, zs_nil⟩)⟩)⟩)⟩)⟩) ?_
          exact hrec _ _ _ _ h
        · rw [if_pos c2934] at h
          refine zw_aload_n hX dL_law_2937 rfl ?_
          refine zw_iconst (v := (0 : Int32)) hX dL_law_2938 (by decide) ?_
          obtain ⟨w450, g, h⟩ := zb_some h
          refine zw_xl hX dL_law_2939 g ?_
          refine zw_iload hX dL_law_2940 rfl ?_
          refine zw_i2l hX dL_law_2942 ?_
          refine zw_lcmp hX dL_law_2943 ?_
          refine zw_if_eq (tgt := 2949) hX dL_law_2944 (by decide) (fun c2944 => ?_) (fun c2944 => ?_)
          · rw [if_pos c2944] at h
            refine zw_goto (tgt := 6002) hX dL_law_2949 (by decide) ?_
            refine zw_iinc (v := (i4 + (7 : Int32))) hX dL_law_6002 rfl rfl (by decide) ?_
            refine zw_goto (tgt := 23) hX dL_law_6005 (by decide) ?_
            refine zw_sub (lv' := [(0, .ref a0), (1, .ref a1), (2, .ref a2), (3, .ref a3), (4, .int (i4 + (7 : Int32)))]) (List.forall_mem_cons.mpr ⟨rfl, (List.forall_mem_cons.mpr ⟨rfl, (List.forall_mem_cons.mpr ⟨rfl, (List.forall_mem_cons.mpr ⟨rfl, (List.forall_mem_cons.mpr ⟨rfl, zs_nil⟩)⟩)⟩)⟩)⟩) ?_
            exact hrec _ _ _ _ h
          · rw [if_neg c2944] at h
            refine zw_iconst (v := (0 : Int32)) hX dL_law_2947 (by decide) ?_
            cases h
      · rw [if_neg c2927] at h
        refine zw_iconst (v := (0 : Int32)) hX dL_law_2930 (by decide) ?_
        cases h
    · intro _ _ hx
      exact hx.elim
  · rw [if_neg hb2904] at h
    cases h
def zf_L_law_J2952 (N : Nat) (k : Nat → Nat → Nat → Nat → Int32 → Nat → Nat → zm_S → Option ((Int32 × zm_S) ⊕ ((Unit) × zm_S))) (a0 : Nat) (a1 : Nat) (a2 : Nat) (a3 : Nat) (i4 : Int32) (rc rs : Nat) (S : zm_S) : Option ((Int32 × zm_S) ⊕ ((Unit) × zm_S)) := (za_x S 0 a0 (i4 + (1 : Int32))).bind (fun v451 => (za_x S 0 a0 (i4 + (2 : Int32))).bind (fun v452 => if 2 ≤ rc ∧ 12 ≤ rs then (zf_L_against N a1 v451 v452 a3 S).bind (fun r455 => (za_x r455.2 0 a0 (i4 + (1 : Int32))).bind (fun v456 => (za_x r455.2 0 a0 (i4 + (2 : Int32))).bind (fun v457 => (zi r455.2 a2 18).bind (fun _ => (zf_X18_against N a2 v456 v457 r455.2).bind (fun r459 => (zi r459.2 a2 18).bind (fun _ => (zf_X18_thrown N a2 r459.2).bind (fun r461 => if r461.1 = r455.1 then if r455.1 = 0 then (za_l r461.2 a3 (0 : Int32)).bind (fun w462 => if (lg_cmp w462 ((r459.1).toInt64)) = 0 then k a0 a1 a2 a3 (i4 + (7 : Int32)) (rc - 2) (rs - 12) r461.2 else none) else k a0 a1 a2 a3 (i4 + (7 : Int32)) (rc - 2) (rs - 12) r461.2 else none))))))) else none))
set_option maxHeartbeats 4000000 in
set_option maxRecDepth 100000 in
theorem zt_L_law_J2952 {p : Program} {l : Launch} {e : Env} {s : State} {m : MethodId} {zb : Nat} {below : List Frame} {meth : Method} {c : Code} {V : zm_V} {d : Nat} {nm : String} (hlt : l.stackTraces = false) (hV : V.2.2.2.1 = s.heap.size) (hX : zm_X p room_1 s m #[Value.ref zb] meth c RL nm cL_law 8 zk_E V 601024 7293034) (hr : meth.sig.returnType = ret) (hR : d ≤ room_1.frames ∧ 64 * d ≤ room_1.locals) (hd : 46 ≤ d) {N : Nat} {k : Nat → Nat → Nat → Nat → Int32 → Nat → Nat → zm_S → Option ((Int32 × zm_S) ⊕ ((Unit) × zm_S))} {rc rs : Nat} {a0 : Nat} {a1 : Nat} {a2 : Nat} {a3 : Nat} {i4 : Int32} {res : (Int32 × zm_S) ⊕ ((Unit) × zm_S)} {out : (Int32 × zm_S)}   (hf : ∀ o, res = .inl o → o = out) (hk : ∀ (S' : zm_S) (rc rs : Nat), res = .inr ((), S') → zw p l e room_1 s m #[Value.ref zb] below meth c (lw_Z below #[Value.ref zb] s) 8 zk_E V 601024 7293034 6008 [] [] S' rc rs) (hrec : ∀ (i4' : Int32) (rc rs : Nat) (S : zm_S), k a0 a1 a2 a3 i4' rc rs S = some res → zw p l e room_1 s m #[Value.ref zb] below meth c (lw_Z below #[Value.ref zb] s) 8 zk_E V 601024 7293034 23 [(0, .ref a0), (1, .ref a1), (2, .ref a2), (3, .ref a3), (4, .int i4')] [] S rc rs) {S : zm_S} (h : zf_L_law_J2952 N k a0 a1 a2 a3 i4 rc rs S = some res) : zw p l e room_1 s m #[Value.ref zb] below meth c (lw_Z below #[Value.ref zb] s) 8 zk_E V 601024 7293034 2952 [(0, .ref a0), (1, .ref a1), (2, .ref a2), (3, .ref a3), (4, .int i4)] [] S rc rs := by
  unfold zf_L_law_J2952 at h
  refine zw_aload_n hX dL_law_2952 rfl ?_
  refine zw_aload_n hX dL_law_2953 rfl ?_
  refine zw_iload hX dL_law_2954 rfl ?_
  refine zw_iconst (v := (1 : Int32)) hX dL_law_2956 (by decide) ?_
  refine zw_iadd hX dL_law_2957 ?_
  obtain ⟨v451, g, h⟩ := zb_some h
  refine zw_xi hX dL_law_2958 g ?_
  refine zw_aload_n hX dL_law_2959 rfl ?_
  refine zw_iload hX dL_law_2960 rfl ?_
  refine zw_iconst (v := (2 : Int32)) hX dL_law_2962 (by decide) ?_
  refine zw_iadd hX dL_law_2963 ?_
  obtain ⟨v452, g, h⟩ := zb_some h
  refine zw_xi hX dL_law_2964 g ?_
  refine zw_aload_n hX dL_law_2965 rfl ?_
  by_cases hb2966 : 2 ≤ rc ∧ 12 ≤ rs
  · rw [if_pos hb2966] at h
    obtain ⟨r455, g, h⟩ := zb_some h
    refine zc_S (as := [.ref a1, .int v451, .int v452, .ref a3]) hX (zt_L_against hlt (d := d - 1) (by omega) g) zl_L_399 dL_law_2966 ⟨rfl, rfl, Nat.le_of_ble_eq_true rfl⟩ ⟨by omega, by omega⟩ hb2966 ?_ ?_
    · rintro _ _ ⟨rfl, rfl⟩
      refine zw_istore hX dL_law_2969 (by decide) ?_
      refine zw_aload_n hX dL_law_2971 rfl ?_
      refine zw_aload_n hX dL_law_2972 rfl ?_
      refine zw_iload hX dL_law_2973 rfl ?_
      refine zw_iconst (v := (1 : Int32)) hX dL_law_2975 (by decide) ?_
      refine zw_iadd hX dL_law_2976 ?_
      obtain ⟨v456, g, h⟩ := zb_some h
      refine zw_xi hX dL_law_2977 g ?_
      refine zw_aload_n hX dL_law_2978 rfl ?_
      refine zw_iload hX dL_law_2979 rfl ?_
      refine zw_iconst (v := (2 : Int32)) hX dL_law_2981 (by decide) ?_
      refine zw_iadd hX dL_law_2982 ?_
      obtain ⟨v457, g, h⟩ := zb_some h
      refine zw_xi hX dL_law_2983 g ?_
      obtain ⟨_, gi, h⟩ := zb_some h
      obtain ⟨r459, g, h⟩ := zb_some h
      refine zc_Vi (as := [.int v456, .int v457]) hX gi (zt_X18_against (d := d - 1) (by omega) g) zl_L_401 rfl dL_law_2984 ⟨rfl, rfl, Nat.le_of_ble_eq_true rfl⟩ ⟨by omega, by omega⟩ ?_
      refine zw_istore hX dL_law_2987 (by decide) ?_
      refine zw_aload_n hX dL_law_2989 rfl ?_
      obtain ⟨_, gi, h⟩ := zb_some h
      obtain ⟨r461, g, h⟩ := zb_some h
      refine zc_Vi (as := []) hX gi (zt_X18_thrown (d := d - 1) (by omega) g) zl_L_281 rfl dL_law_2990 ⟨rfl, rfl, Nat.le_of_ble_eq_true rfl⟩ ⟨by omega, by omega⟩ ?_
      refine zw_iload hX dL_law_2993 rfl ?_
      refine zw_icmp_eq (tgt := 3000) hX dL_law_2995 (by decide) (fun c2995 => ?_) (fun c2995 => ?_)
      · rw [if_pos c2995] at h
        refine zw_iload hX dL_law_3000 rfl ?_
        refine zw_if_ne (tgt := 3017) hX dL_law_3002 (by decide) (fun c3002 => ?_) (fun c3002 => ?_)
        · rw [if_neg c3002] at h
          refine zw_goto (tgt := 6002) hX dL_law_3017 (by decide) ?_
          refine zw_iinc (v := (i4 + (7 : Int32))) hX dL_law_6002 rfl rfl (by decide) ?_
          refine zw_goto (tgt := 23) hX dL_law_6005 (by decide) ?_
          refine zw_sub (lv' := [(0, .ref a0), (1, .ref a1), (2, .ref a2), (3, .ref a3), (4, .int (i4 + (7 : Int32)))]) (List.forall_mem_cons.mpr ⟨rfl, (List.forall_mem_cons.mpr ⟨rfl, (List.forall_mem_cons.mpr ⟨rfl, (List.forall_mem_cons.mpr ⟨rfl, (List.forall_mem_cons.mpr ⟨rfl, zs_nil⟩)⟩)⟩)⟩)⟩) ?_
          exact hrec _ _ _ _ h
        · rw [if_pos c3002] at h
          refine zw_aload_n hX dL_law_3005 rfl ?_
          refine zw_iconst (v := (0 : Int32)) hX dL_law_3006 (by decide) ?_
          obtain ⟨w462, g, h⟩ := zb_some h
          refine zw_xl hX dL_law_3007 g ?_
          refine zw_iload hX dL_law_3008 rfl ?_
          refine zw_i2l hX dL_law_3010 ?_
          refine zw_lcmp hX dL_law_3011 ?_
          refine zw_if_eq (tgt := 3017) hX dL_law_3012 (by decide) (fun c3012 => ?_) (fun c3012 => ?_)
          · rw [if_pos c3012] at h
            refine zw_goto (tgt := 6002) hX dL_law_3017 (by decide) ?_
            refine zw_iinc (v := (i4 + (7 : Int32))) hX dL_law_6002 rfl rfl (by decide) ?_
            refine zw_goto (tgt := 23) hX dL_law_6005 (by decide) ?_
            refine zw_sub (lv' := [(0, .ref a0), (1, .ref a1), (2, .ref a2), (3, .ref a3), (4, .int (i4 + (7 : Int32)))]) (List.forall_mem_cons.mpr ⟨rfl, (List.forall_mem_cons.mpr ⟨rfl, (List.forall_mem_cons.mpr ⟨rfl, (List.forall_mem_cons.mpr ⟨rfl, (List.forall_mem_cons.mpr ⟨rfl, zs_nil⟩)⟩)⟩)⟩)⟩) ?_
            exact hrec _ _ _ _ h
          · rw [if_neg c3012] at h
            refine zw_iconst (v := (0 : Int32)) hX dL_law_3015 (by decide) ?_
            cases h
      · rw [if_neg c2995] at h
        refine zw_iconst (v := (0 : Int32)) hX dL_law_2998 (by decide) ?_
        cases h
    · intro _ _ hx
      exact hx.elim
  · rw [if_neg hb2966] at h
    cases h
def zf_L_law_J3020 (N : Nat) (k : Nat → Nat → Nat → Nat → Int32 → Nat → Nat → zm_S → Option ((Int32 × zm_S) ⊕ ((Unit) × zm_S))) (a0 : Nat) (a1 : Nat) (a2 : Nat) (a3 : Nat) (i4 : Int32) (rc rs : Nat) (S : zm_S) : Option ((Int32 × zm_S) ⊕ ((Unit) × zm_S)) := (za_x S 0 a0 (i4 + (1 : Int32))).bind (fun v463 => if 2 ≤ rc ∧ 12 ≤ rs then (zf_L_unit N a1 v463 a3 S).bind (fun r466 => (za_x r466.2 0 a0 (i4 + (1 : Int32))).bind (fun v467 => (zi r466.2 a2 18).bind (fun _ => (zf_X18_unit N a2 v467 r466.2).bind (fun r469 => (zi r469.2 a2 18).bind (fun _ => (zf_X18_thrown N a2 r469.2).bind (fun r471 => if r471.1 = r466.1 then if r466.1 = 0 then (za_l r471.2 a3 (0 : Int32)).bind (fun w472 => if (lg_cmp w472 ((r469.1).toInt64)) = 0 then k a0 a1 a2 a3 (i4 + (7 : Int32)) (rc - 2) (rs - 12) r471.2 else none) else k a0 a1 a2 a3 (i4 + (7 : Int32)) (rc - 2) (rs - 12) r471.2 else none)))))) else none)
set_option maxHeartbeats 4000000 in
set_option maxRecDepth 100000 in
theorem zt_L_law_J3020 {p : Program} {l : Launch} {e : Env} {s : State} {m : MethodId} {zb : Nat} {below : List Frame} {meth : Method} {c : Code} {V : zm_V} {d : Nat} {nm : String} (hlt : l.stackTraces = false) (hV : V.2.2.2.1 = s.heap.size) (hX : zm_X p room_1 s m #[Value.ref zb] meth c RL nm cL_law 8 zk_E V 601024 7293034) (hr : meth.sig.returnType = ret) (hR : d ≤ room_1.frames ∧ 64 * d ≤ room_1.locals) (hd : 46 ≤ d) {N : Nat} {k : Nat → Nat → Nat → Nat → Int32 → Nat → Nat → zm_S → Option ((Int32 × zm_S) ⊕ ((Unit) × zm_S))} {rc rs : Nat} {a0 : Nat} {a1 : Nat} {a2 : Nat} {a3 : Nat} {i4 : Int32} {res : (Int32 × zm_S) ⊕ ((Unit) × zm_S)} {out : (Int32 × zm_S)}   (hf : ∀ o, res = .inl o → o = out) (hk : ∀ (S' : zm_S) (rc rs : Nat), res = .inr ((), S') → zw p l e room_1 s m #[Value.ref zb] below meth c (lw_Z below #[Value.ref zb] s) 8 zk_E V 601024 7293034 6008 [] [] S' rc rs) (hrec : ∀ (i4' : Int32) (rc rs : Nat) (S : zm_S), k a0 a1 a2 a3 i4' rc rs S = some res → zw p l e room_1 s m #[Value.ref zb] below meth c (lw_Z below #[Value.ref zb] s) 8 zk_E V 601024 7293034 23 [(0, .ref a0), (1, .ref a1), (2, .ref a2), (3, .ref a3), (4, .int i4')] [] S rc rs) {S : zm_S} (h : zf_L_law_J3020 N k a0 a1 a2 a3 i4 rc rs S = some res) : zw p l e room_1 s m #[Value.ref zb] below meth c (lw_Z below #[Value.ref zb] s) 8 zk_E V 601024 7293034 3020 [(0, .ref a0), (1, .ref a1), (2, .ref a2), (3, .ref a3), (4, .int i4)] [] S rc rs := by
  unfold zf_L_law_J3020 at h
  refine zw_aload_n hX dL_law_3020 rfl ?_
  refine zw_aload_n hX dL_law_3021 rfl ?_
  refine zw_iload hX dL_law_3022 rfl ?_
  refine zw_iconst (v := (1 : Int32)) hX dL_law_3024 (by decide) ?_
  refine zw_iadd hX dL_law_3025 ?_
  obtain ⟨v463, g, h⟩ := zb_some h
  refine zw_xi hX dL_law_3026 g ?_
  refine zw_aload_n hX dL_law_3027 rfl ?_
  by_cases hb3028 : 2 ≤ rc ∧ 12 ≤ rs
  · rw [if_pos hb3028] at h
    obtain ⟨r466, g, h⟩ := zb_some h
    refine zc_S (as := [.ref a1, .int v463, .ref a3]) hX (zt_L_unit hlt (d := d - 1) (by omega) g) zl_L_402 dL_law_3028 ⟨rfl, rfl, Nat.le_of_ble_eq_true rfl⟩ ⟨by omega, by omega⟩ hb3028 ?_ ?_
    · rintro _ _ ⟨rfl, rfl⟩
      refine zw_istore hX dL_law_3031 (by decide) ?_
      refine zw_aload_n hX dL_law_3033 rfl ?_
      refine zw_aload_n hX dL_law_3034 rfl ?_
      refine zw_iload hX dL_law_3035 rfl ?_
      refine zw_iconst (v := (1 : Int32)) hX dL_law_3037 (by decide) ?_
      refine zw_iadd hX dL_law_3038 ?_
      obtain ⟨v467, g, h⟩ := zb_some h
      refine zw_xi hX dL_law_3039 g ?_
      obtain ⟨_, gi, h⟩ := zb_some h
      obtain ⟨r469, g, h⟩ := zb_some h
      refine zc_Vi (as := [.int v467]) hX gi (zt_X18_unit (d := d - 1) (by omega) g) zl_L_404 rfl dL_law_3040 ⟨rfl, rfl, Nat.le_of_ble_eq_true rfl⟩ ⟨by omega, by omega⟩ ?_
      refine zw_istore hX dL_law_3043 (by decide) ?_
      refine zw_aload_n hX dL_law_3045 rfl ?_
      obtain ⟨_, gi, h⟩ := zb_some h
      obtain ⟨r471, g, h⟩ := zb_some h
      refine zc_Vi (as := []) hX gi (zt_X18_thrown (d := d - 1) (by omega) g) zl_L_281 rfl dL_law_3046 ⟨rfl, rfl, Nat.le_of_ble_eq_true rfl⟩ ⟨by omega, by omega⟩ ?_
      refine zw_iload hX dL_law_3049 rfl ?_
      refine zw_icmp_eq (tgt := 3056) hX dL_law_3051 (by decide) (fun c3051 => ?_) (fun c3051 => ?_)
      · rw [if_pos c3051] at h
        refine zw_iload hX dL_law_3056 rfl ?_
        refine zw_if_ne (tgt := 3073) hX dL_law_3058 (by decide) (fun c3058 => ?_) (fun c3058 => ?_)
        · rw [if_neg c3058] at h
          refine zw_goto (tgt := 6002) hX dL_law_3073 (by decide) ?_
          refine zw_iinc (v := (i4 + (7 : Int32))) hX dL_law_6002 rfl rfl (by decide) ?_
          refine zw_goto (tgt := 23) hX dL_law_6005 (by decide) ?_
          refine zw_sub (lv' := [(0, .ref a0), (1, .ref a1), (2, .ref a2), (3, .ref a3), (4, .int (i4 + (7 : Int32)))]) (List.forall_mem_cons.mpr ⟨rfl, (List.forall_mem_cons.mpr ⟨rfl, (List.forall_mem_cons.mpr ⟨rfl, (List.forall_mem_cons.mpr ⟨rfl, (List.forall_mem_cons.mpr ⟨rfl, zs_nil⟩)⟩)⟩)⟩)⟩) ?_
          exact hrec _ _ _ _ h
        · rw [if_pos c3058] at h
          refine zw_aload_n hX dL_law_3061 rfl ?_
          refine zw_iconst (v := (0 : Int32)) hX dL_law_3062 (by decide) ?_
          obtain ⟨w472, g, h⟩ := zb_some h
          refine zw_xl hX dL_law_3063 g ?_
          refine zw_iload hX dL_law_3064 rfl ?_
          refine zw_i2l hX dL_law_3066 ?_
          refine zw_lcmp hX dL_law_3067 ?_
          refine zw_if_eq (tgt := 3073) hX dL_law_3068 (by decide) (fun c3068 => ?_) (fun c3068 => ?_)
          · rw [if_pos c3068] at h
            refine zw_goto (tgt := 6002) hX dL_law_3073 (by decide) ?_
            refine zw_iinc (v := (i4 + (7 : Int32))) hX dL_law_6002 rfl rfl (by decide) ?_
            refine zw_goto (tgt := 23) hX dL_law_6005 (by decide) ?_
            refine zw_sub (lv' := [(0, .ref a0), (1, .ref a1), (2, .ref a2), (3, .ref a3), (4, .int (i4 + (7 : Int32)))]) (List.forall_mem_cons.mpr ⟨rfl, (List.forall_mem_cons.mpr ⟨rfl, (List.forall_mem_cons.mpr ⟨rfl, (List.forall_mem_cons.mpr ⟨rfl, (List.forall_mem_cons.mpr ⟨rfl, zs_nil⟩)⟩)⟩)⟩)⟩) ?_
            exact hrec _ _ _ _ h
          · rw [if_neg c3068] at h
            refine zw_iconst (v := (0 : Int32)) hX dL_law_3071 (by decide) ?_
            cases h
      · rw [if_neg c3051] at h
        refine zw_iconst (v := (0 : Int32)) hX dL_law_3054 (by decide) ?_
        cases h
    · intro _ _ hx
      exact hx.elim
  · rw [if_neg hb3028] at h
    cases h
