theorem dL_refuses_373 : decode cL_refuses 373 = .ok (.iconst 1, 1) := by decide +kernel
theorem dL_refuses_374 : decode cL_refuses 374 = .ok (.goto 4, 3) := by decide +kernel
theorem dL_refuses_377 : decode cL_refuses 377 = .ok (.iconst 0, 1) := by decide +kernel
theorem dL_refuses_378 : decode cL_refuses 378 = .ok (.istore 8, 2) := by decide +kernel
theorem dL_refuses_380 : decode cL_refuses 380 = .ok (.aload_n 1, 1) := by decide +kernel
theorem dL_refuses_381 : decode cL_refuses 381 = .ok (.iconst 0, 1) := by decide +kernel
theorem dL_refuses_382 : decode cL_refuses 382 = .ok (.iaload, 1) := by decide +kernel
theorem dL_refuses_383 : decode cL_refuses 383 = .ok (.ifCond .le 160, 3) := by decide +kernel
theorem dL_refuses_386 : decode cL_refuses 386 = .ok (.iload 8, 2) := by decide +kernel
theorem dL_refuses_388 : decode cL_refuses 388 = .ok (.ifCond .eq 155, 3) := by decide +kernel
theorem dL_refuses_391 : decode cL_refuses 391 = .ok (.iload_n 2, 1) := by decide +kernel
theorem dL_refuses_392 : decode cL_refuses 392 = .ok (.iconst 3, 1) := by decide +kernel
theorem dL_refuses_393 : decode cL_refuses 393 = .ok (.idiv, 1) := by decide +kernel
theorem dL_refuses_394 : decode cL_refuses 394 = .ok (.aload_n 1, 1) := by decide +kernel
theorem dL_refuses_395 : decode cL_refuses 395 = .ok (.iconst 0, 1) := by decide +kernel
theorem dL_refuses_396 : decode cL_refuses 396 = .ok (.iaload, 1) := by decide +kernel
theorem dL_refuses_397 : decode cL_refuses 397 = .ok (.irem, 1) := by decide +kernel
theorem dL_refuses_398 : decode cL_refuses 398 = .ok (.istore 9, 2) := by decide +kernel
theorem dL_refuses_400 : decode cL_refuses 400 = .ok (.aload_n 0, 1) := by decide +kernel
theorem dL_refuses_401 : decode cL_refuses 401 = .ok (.iload 9, 2) := by decide +kernel
theorem dL_refuses_403 : decode cL_refuses 403 = .ok (.iload 7, 2) := by decide +kernel
theorem dL_refuses_405 : decode cL_refuses 405 = .ok (.iconst 0, 1) := by decide +kernel
theorem dL_refuses_406 : decode cL_refuses 406 = .ok (.invokestatic 88, 3) := by decide +kernel
theorem dL_refuses_409 : decode cL_refuses 409 = .ok (.ldc 25, 2) := by decide +kernel
theorem dL_refuses_411 : decode cL_refuses 411 = .ok (.if_icmp .ne 129, 3) := by decide +kernel
theorem dL_refuses_414 : decode cL_refuses 414 = .ok (.aload_n 0, 1) := by decide +kernel
theorem dL_refuses_415 : decode cL_refuses 415 = .ok (.iload 9, 2) := by decide +kernel
theorem dL_refuses_417 : decode cL_refuses 417 = .ok (.iconst 0, 1) := by decide +kernel
theorem dL_refuses_418 : decode cL_refuses 418 = .ok (.iload_n 3, 1) := by decide +kernel
theorem dL_refuses_419 : decode cL_refuses 419 = .ok (.ifCond .eq 9, 3) := by decide +kernel
theorem dL_refuses_422 : decode cL_refuses 422 = .ok (.iconst (-1), 1) := by decide +kernel
theorem dL_refuses_423 : decode cL_refuses 423 = .ok (.iload_n 2, 1) := by decide +kernel
theorem dL_refuses_424 : decode cL_refuses 424 = .ok (.isub, 1) := by decide +kernel
theorem dL_refuses_425 : decode cL_refuses 425 = .ok (.goto 7, 3) := by decide +kernel
theorem dL_refuses_428 : decode cL_refuses 428 = .ok (.bipush 10, 2) := by decide +kernel
theorem dL_refuses_430 : decode cL_refuses 430 = .ok (.iload_n 2, 1) := by decide +kernel
theorem dL_refuses_431 : decode cL_refuses 431 = .ok (.iadd, 1) := by decide +kernel
theorem dL_refuses_432 : decode cL_refuses 432 = .ok (.invokestatic 88, 3) := by decide +kernel
theorem dL_refuses_435 : decode cL_refuses 435 = .ok (.ldc 15, 2) := by decide +kernel
theorem dL_refuses_437 : decode cL_refuses 437 = .ok (.if_icmp .ne 103, 3) := by decide +kernel
theorem dL_refuses_440 : decode cL_refuses 440 = .ok (.aload_n 0, 1) := by decide +kernel
theorem dL_refuses_441 : decode cL_refuses 441 = .ok (.iload 9, 2) := by decide +kernel
theorem dL_refuses_443 : decode cL_refuses 443 = .ok (.iload_n 3, 1) := by decide +kernel
theorem dL_refuses_444 : decode cL_refuses 444 = .ok (.ifCond .eq 9, 3) := by decide +kernel
theorem dL_refuses_447 : decode cL_refuses 447 = .ok (.iconst (-1), 1) := by decide +kernel
theorem dL_refuses_448 : decode cL_refuses 448 = .ok (.iload_n 2, 1) := by decide +kernel
theorem dL_refuses_449 : decode cL_refuses 449 = .ok (.isub, 1) := by decide +kernel
theorem dL_refuses_450 : decode cL_refuses 450 = .ok (.goto 6, 3) := by decide +kernel
theorem dL_refuses_453 : decode cL_refuses 453 = .ok (.iconst 5, 1) := by decide +kernel
theorem dL_refuses_454 : decode cL_refuses 454 = .ok (.iload_n 2, 1) := by decide +kernel
theorem dL_refuses_455 : decode cL_refuses 455 = .ok (.iadd, 1) := by decide +kernel
theorem dL_refuses_456 : decode cL_refuses 456 = .ok (.invokestatic 98, 3) := by decide +kernel
theorem dL_refuses_459 : decode cL_refuses 459 = .ok (.ldc 15, 2) := by decide +kernel
theorem dL_refuses_461 : decode cL_refuses 461 = .ok (.if_icmp .ne 79, 3) := by decide +kernel
theorem dL_refuses_464 : decode cL_refuses 464 = .ok (.aload_n 0, 1) := by decide +kernel
theorem dL_refuses_465 : decode cL_refuses 465 = .ok (.iload 9, 2) := by decide +kernel
theorem dL_refuses_467 : decode cL_refuses 467 = .ok (.iconst 0, 1) := by decide +kernel
theorem dL_refuses_468 : decode cL_refuses 468 = .ok (.invokestatic 98, 3) := by decide +kernel
theorem dL_refuses_471 : decode cL_refuses 471 = .ok (.iconst 1, 1) := by decide +kernel
theorem dL_refuses_472 : decode cL_refuses 472 = .ok (.if_icmp .eq 64, 3) := by decide +kernel
theorem dL_refuses_475 : decode cL_refuses 475 = .ok (.aload_n 0, 1) := by decide +kernel
theorem dL_refuses_476 : decode cL_refuses 476 = .ok (.iload 9, 2) := by decide +kernel
theorem dL_refuses_478 : decode cL_refuses 478 = .ok (.invokestatic 79, 3) := by decide +kernel
theorem dL_refuses_481 : decode cL_refuses 481 = .ok (.ldc 18, 2) := by decide +kernel
theorem dL_refuses_483 : decode cL_refuses 483 = .ok (.if_icmp .ne 57, 3) := by decide +kernel
theorem dL_refuses_486 : decode cL_refuses 486 = .ok (.aload_n 0, 1) := by decide +kernel
theorem dL_refuses_487 : decode cL_refuses 487 = .ok (.iload 9, 2) := by decide +kernel
theorem dL_refuses_489 : decode cL_refuses 489 = .ok (.iconst 0, 1) := by decide +kernel
theorem dL_refuses_490 : decode cL_refuses 490 = .ok (.iconst 0, 1) := by decide +kernel
theorem dL_refuses_491 : decode cL_refuses 491 = .ok (.invokestatic 88, 3) := by decide +kernel
theorem dL_refuses_494 : decode cL_refuses 494 = .ok (.ldc 18, 2) := by decide +kernel
theorem dL_refuses_496 : decode cL_refuses 496 = .ok (.if_icmp .ne 44, 3) := by decide +kernel
theorem dL_refuses_499 : decode cL_refuses 499 = .ok (.aload_n 1, 1) := by decide +kernel
theorem dL_refuses_500 : decode cL_refuses 500 = .ok (.iconst 1, 1) := by decide +kernel
theorem dL_refuses_501 : decode cL_refuses 501 = .ok (.iaload, 1) := by decide +kernel
theorem dL_refuses_502 : decode cL_refuses 502 = .ok (.ifCond .eq 15, 3) := by decide +kernel
theorem dL_refuses_505 : decode cL_refuses 505 = .ok (.aload_n 0, 1) := by decide +kernel
theorem dL_refuses_506 : decode cL_refuses 506 = .ok (.iload 9, 2) := by decide +kernel
theorem dL_refuses_508 : decode cL_refuses 508 = .ok (.iconst 0, 1) := by decide +kernel
theorem dL_refuses_509 : decode cL_refuses 509 = .ok (.invokestatic 84, 3) := by decide +kernel
theorem dL_refuses_512 : decode cL_refuses 512 = .ok (.ldc 18, 2) := by decide +kernel
theorem dL_refuses_514 : decode cL_refuses 514 = .ok (.if_icmp .ne 26, 3) := by decide +kernel
theorem dL_refuses_517 : decode cL_refuses 517 = .ok (.aload_n 1, 1) := by decide +kernel
theorem dL_refuses_518 : decode cL_refuses 518 = .ok (.iconst 2, 1) := by decide +kernel
theorem dL_refuses_519 : decode cL_refuses 519 = .ok (.iaload, 1) := by decide +kernel
theorem dL_refuses_520 : decode cL_refuses 520 = .ok (.ifCond .eq 16, 3) := by decide +kernel
theorem dL_refuses_523 : decode cL_refuses 523 = .ok (.aload_n 0, 1) := by decide +kernel
theorem dL_refuses_524 : decode cL_refuses 524 = .ok (.iload 9, 2) := by decide +kernel
theorem dL_refuses_526 : decode cL_refuses 526 = .ok (.iconst 0, 1) := by decide +kernel
theorem dL_refuses_527 : decode cL_refuses 527 = .ok (.iconst 1, 1) := by decide +kernel
theorem dL_refuses_528 : decode cL_refuses 528 = .ok (.invokestatic 91, 3) := by decide +kernel
theorem dL_refuses_531 : decode cL_refuses 531 = .ok (.ldc 18, 2) := by decide +kernel
theorem dL_refuses_533 : decode cL_refuses 533 = .ok (.if_icmp .ne 7, 3) := by decide +kernel
theorem dL_refuses_536 : decode cL_refuses 536 = .ok (.iconst 1, 1) := by decide +kernel
theorem dL_refuses_537 : decode cL_refuses 537 = .ok (.goto 4, 3) := by decide +kernel
theorem dL_refuses_540 : decode cL_refuses 540 = .ok (.iconst 0, 1) := by decide +kernel
theorem dL_refuses_541 : decode cL_refuses 541 = .ok (.istore 8, 2) := by decide +kernel
theorem dL_refuses_543 : decode cL_refuses 543 = .ok (.aload_n 1, 1) := by decide +kernel
theorem dL_refuses_544 : decode cL_refuses 544 = .ok (.iconst 2, 1) := by decide +kernel
theorem dL_refuses_545 : decode cL_refuses 545 = .ok (.iaload, 1) := by decide +kernel
theorem dL_refuses_546 : decode cL_refuses 546 = .ok (.ifCond .ne 7, 3) := by decide +kernel
theorem dL_refuses_549 : decode cL_refuses 549 = .ok (.iconst 0, 1) := by decide +kernel
theorem dL_refuses_550 : decode cL_refuses 550 = .ok (.goto 10, 3) := by decide +kernel
theorem dL_refuses_553 : decode cL_refuses 553 = .ok (.iload_n 2, 1) := by decide +kernel
theorem dL_refuses_554 : decode cL_refuses 554 = .ok (.iconst 5, 1) := by decide +kernel
theorem dL_refuses_555 : decode cL_refuses 555 = .ok (.idiv, 1) := by decide +kernel
theorem dL_refuses_556 : decode cL_refuses 556 = .ok (.aload_n 1, 1) := by decide +kernel
theorem dL_refuses_557 : decode cL_refuses 557 = .ok (.iconst 2, 1) := by decide +kernel
theorem dL_refuses_558 : decode cL_refuses 558 = .ok (.iaload, 1) := by decide +kernel
theorem dL_refuses_559 : decode cL_refuses 559 = .ok (.irem, 1) := by decide +kernel
theorem dL_refuses_560 : decode cL_refuses 560 = .ok (.istore 9, 2) := by decide +kernel
theorem dL_refuses_562 : decode cL_refuses 562 = .ok (.iload 8, 2) := by decide +kernel
theorem dL_refuses_564 : decode cL_refuses 564 = .ok (.ifCond .eq 60, 3) := by decide +kernel
theorem dL_refuses_567 : decode cL_refuses 567 = .ok (.aload_n 1, 1) := by decide +kernel
theorem dL_refuses_568 : decode cL_refuses 568 = .ok (.iconst 2, 1) := by decide +kernel
theorem dL_refuses_569 : decode cL_refuses 569 = .ok (.iaload, 1) := by decide +kernel
theorem dL_refuses_570 : decode cL_refuses 570 = .ok (.ifCond .eq 50, 3) := by decide +kernel
theorem dL_refuses_573 : decode cL_refuses 573 = .ok (.aload_n 0, 1) := by decide +kernel
theorem dL_refuses_574 : decode cL_refuses 574 = .ok (.iload 9, 2) := by decide +kernel
theorem dL_refuses_576 : decode cL_refuses 576 = .ok (.iload_n 3, 1) := by decide +kernel
theorem dL_refuses_577 : decode cL_refuses 577 = .ok (.ifCond .eq 9, 3) := by decide +kernel
theorem dL_refuses_580 : decode cL_refuses 580 = .ok (.iconst (-1), 1) := by decide +kernel
theorem dL_refuses_581 : decode cL_refuses 581 = .ok (.iload_n 2, 1) := by decide +kernel
theorem dL_refuses_582 : decode cL_refuses 582 = .ok (.isub, 1) := by decide +kernel
theorem dL_refuses_583 : decode cL_refuses 583 = .ok (.goto 6, 3) := by decide +kernel
theorem dL_refuses_586 : decode cL_refuses 586 = .ok (.iconst 5, 1) := by decide +kernel
theorem dL_refuses_587 : decode cL_refuses 587 = .ok (.iload_n 2, 1) := by decide +kernel
theorem dL_refuses_588 : decode cL_refuses 588 = .ok (.iadd, 1) := by decide +kernel
theorem dL_refuses_589 : decode cL_refuses 589 = .ok (.invokestatic 96, 3) := by decide +kernel
theorem dL_refuses_592 : decode cL_refuses 592 = .ok (.ldc 15, 2) := by decide +kernel
theorem dL_refuses_594 : decode cL_refuses 594 = .ok (.if_icmp .ne 30, 3) := by decide +kernel
theorem dL_refuses_597 : decode cL_refuses 597 = .ok (.aload_n 0, 1) := by decide +kernel
theorem dL_refuses_598 : decode cL_refuses 598 = .ok (.iload 9, 2) := by decide +kernel
theorem dL_refuses_600 : decode cL_refuses 600 = .ok (.iconst 0, 1) := by decide +kernel
theorem dL_refuses_601 : decode cL_refuses 601 = .ok (.invokestatic 96, 3) := by decide +kernel
theorem dL_refuses_604 : decode cL_refuses 604 = .ok (.ifCond .eq 16, 3) := by decide +kernel
theorem dL_refuses_607 : decode cL_refuses 607 = .ok (.aload_n 0, 1) := by decide +kernel
theorem dL_refuses_608 : decode cL_refuses 608 = .ok (.iconst 0, 1) := by decide +kernel
theorem dL_refuses_609 : decode cL_refuses 609 = .ok (.iload 9, 2) := by decide +kernel
theorem dL_refuses_611 : decode cL_refuses 611 = .ok (.iload_n 3, 1) := by decide +kernel
theorem dL_refuses_612 : decode cL_refuses 612 = .ok (.invokestatic 91, 3) := by decide +kernel
theorem dL_refuses_615 : decode cL_refuses 615 = .ok (.ldc 18, 2) := by decide +kernel
theorem dL_refuses_617 : decode cL_refuses 617 = .ok (.if_icmp .ne 7, 3) := by decide +kernel
theorem dL_refuses_620 : decode cL_refuses 620 = .ok (.iconst 1, 1) := by decide +kernel
theorem dL_refuses_621 : decode cL_refuses 621 = .ok (.goto 4, 3) := by decide +kernel
theorem dL_refuses_624 : decode cL_refuses 624 = .ok (.iconst 0, 1) := by decide +kernel
theorem dL_refuses_625 : decode cL_refuses 625 = .ok (.ireturn, 1) := by decide +kernel
theorem dL_act_0 : decode cL_act 0 = .ok (.iload_n 2, 1) := by decide +kernel
theorem dL_act_1 : decode cL_act 1 = .ok (.bipush 20, 2) := by decide +kernel
theorem dL_act_3 : decode cL_act 3 = .ok (.idiv, 1) := by decide +kernel
theorem dL_act_4 : decode cL_act 4 = .ok (.istore_n 3, 1) := by decide +kernel
theorem dL_act_5 : decode cL_act 5 = .ok (.aload_n 1, 1) := by decide +kernel
theorem dL_act_6 : decode cL_act 6 = .ok (.iconst 0, 1) := by decide +kernel
theorem dL_act_7 : decode cL_act 7 = .ok (.iaload, 1) := by decide +kernel
theorem dL_act_8 : decode cL_act 8 = .ok (.ifCond .ne 7, 3) := by decide +kernel
theorem dL_act_11 : decode cL_act 11 = .ok (.iconst 0, 1) := by decide +kernel
theorem dL_act_12 : decode cL_act 12 = .ok (.goto 8, 3) := by decide +kernel
theorem dL_act_15 : decode cL_act 15 = .ok (.iload_n 3, 1) := by decide +kernel
theorem dL_act_16 : decode cL_act 16 = .ok (.aload_n 1, 1) := by decide +kernel
theorem dL_act_17 : decode cL_act 17 = .ok (.iconst 0, 1) := by decide +kernel
theorem dL_act_18 : decode cL_act 18 = .ok (.iaload, 1) := by decide +kernel
theorem dL_act_19 : decode cL_act 19 = .ok (.irem, 1) := by decide +kernel
theorem dL_act_20 : decode cL_act 20 = .ok (.istore 4, 2) := by decide +kernel
theorem dL_act_22 : decode cL_act 22 = .ok (.iload_n 2, 1) := by decide +kernel
theorem dL_act_23 : decode cL_act 23 = .ok (.bipush 20, 2) := by decide +kernel
theorem dL_act_25 : decode cL_act 25 = .ok (.irem, 1) := by decide +kernel
theorem dL_act_26 : decode cL_act 26 = .ok (.tableswitch 194 0 10 #[58, 76, 87, 107, 107, 118, 118, 138, 138, 138, 138], 58) := by decide +kernel
theorem dL_act_84 : decode cL_act 84 = .ok (.aload_n 0, 1) := by decide +kernel
theorem dL_act_85 : decode cL_act 85 = .ok (.iconst 1, 1) := by decide +kernel
theorem dL_act_86 : decode cL_act 86 = .ok (.iload_n 3, 1) := by decide +kernel
theorem dL_act_87 : decode cL_act 87 = .ok (.bipush 20, 2) := by decide +kernel
theorem dL_act_89 : decode cL_act 89 = .ok (.irem, 1) := by decide +kernel
theorem dL_act_90 : decode cL_act 90 = .ok (.iadd, 1) := by decide +kernel
theorem dL_act_91 : decode cL_act 91 = .ok (.iload_n 3, 1) := by decide +kernel
theorem dL_act_92 : decode cL_act 92 = .ok (.bipush 20, 2) := by decide +kernel
theorem dL_act_94 : decode cL_act 94 = .ok (.idiv, 1) := by decide +kernel
theorem dL_act_95 : decode cL_act 95 = .ok (.bipush 51, 2) := by decide +kernel
theorem dL_act_97 : decode cL_act 97 = .ok (.irem, 1) := by decide +kernel
theorem dL_act_98 : decode cL_act 98 = .ok (.invokestatic 74, 3) := by decide +kernel
theorem dL_act_101 : decode cL_act 101 = .ok (.ireturn, 1) := by decide +kernel
theorem dL_act_102 : decode cL_act 102 = .ok (.aload_n 0, 1) := by decide +kernel
theorem dL_act_103 : decode cL_act 103 = .ok (.iconst 1, 1) := by decide +kernel
theorem dL_act_104 : decode cL_act 104 = .ok (.iload_n 3, 1) := by decide +kernel
theorem dL_act_105 : decode cL_act 105 = .ok (.bipush 20, 2) := by decide +kernel
theorem dL_act_107 : decode cL_act 107 = .ok (.irem, 1) := by decide +kernel
theorem dL_act_108 : decode cL_act 108 = .ok (.iadd, 1) := by decide +kernel
theorem dL_act_109 : decode cL_act 109 = .ok (.invokestatic 82, 3) := by decide +kernel
theorem dL_act_112 : decode cL_act 112 = .ok (.ireturn, 1) := by decide +kernel
theorem dL_act_113 : decode cL_act 113 = .ok (.iload_n 3, 1) := by decide +kernel
theorem dL_act_114 : decode cL_act 114 = .ok (.iconst 4, 1) := by decide +kernel
theorem dL_act_115 : decode cL_act 115 = .ok (.irem, 1) := by decide +kernel
theorem dL_act_116 : decode cL_act 116 = .ok (.ifCond .ne 12, 3) := by decide +kernel
theorem dL_act_119 : decode cL_act 119 = .ok (.aload_n 0, 1) := by decide +kernel
theorem dL_act_120 : decode cL_act 120 = .ok (.iload 4, 2) := by decide +kernel
theorem dL_act_122 : decode cL_act 122 = .ok (.invokestatic 79, 3) := by decide +kernel
theorem dL_act_125 : decode cL_act 125 = .ok (.goto 7, 3) := by decide +kernel
theorem dL_act_128 : decode cL_act 128 = .ok (.aload_n 0, 1) := by decide +kernel
theorem dL_act_129 : decode cL_act 129 = .ok (.invokevirtual 113, 3) := by decide +kernel
theorem dL_act_132 : decode cL_act 132 = .ok (.ireturn, 1) := by decide +kernel
theorem dL_act_133 : decode cL_act 133 = .ok (.aload_n 0, 1) := by decide +kernel
theorem dL_act_134 : decode cL_act 134 = .ok (.iconst 1, 1) := by decide +kernel
theorem dL_act_135 : decode cL_act 135 = .ok (.iload_n 3, 1) := by decide +kernel
theorem dL_act_136 : decode cL_act 136 = .ok (.bipush 8, 2) := by decide +kernel
theorem dL_act_138 : decode cL_act 138 = .ok (.irem, 1) := by decide +kernel
theorem dL_act_139 : decode cL_act 139 = .ok (.iadd, 1) := by decide +kernel
theorem dL_act_140 : decode cL_act 140 = .ok (.invokestatic 86, 3) := by decide +kernel
theorem dL_act_143 : decode cL_act 143 = .ok (.ireturn, 1) := by decide +kernel
theorem dL_act_144 : decode cL_act 144 = .ok (.aload_n 0, 1) := by decide +kernel
theorem dL_act_145 : decode cL_act 145 = .ok (.iload 4, 2) := by decide +kernel
theorem dL_act_147 : decode cL_act 147 = .ok (.iload_n 3, 1) := by decide +kernel
theorem dL_act_148 : decode cL_act 148 = .ok (.bipush 10, 2) := by decide +kernel
theorem dL_act_150 : decode cL_act 150 = .ok (.idiv, 1) := by decide +kernel
theorem dL_act_151 : decode cL_act 151 = .ok (.iconst 3, 1) := by decide +kernel
theorem dL_act_152 : decode cL_act 152 = .ok (.irem, 1) := by decide +kernel
theorem dL_act_153 : decode cL_act 153 = .ok (.iload_n 3, 1) := by decide +kernel
theorem dL_act_154 : decode cL_act 154 = .ok (.bipush 30, 2) := by decide +kernel
theorem dL_act_156 : decode cL_act 156 = .ok (.idiv, 1) := by decide +kernel
theorem dL_act_157 : decode cL_act 157 = .ok (.bipush 10, 2) := by decide +kernel
theorem dL_act_159 : decode cL_act 159 = .ok (.irem, 1) := by decide +kernel
theorem dL_act_160 : decode cL_act 160 = .ok (.invokestatic 88, 3) := by decide +kernel
theorem dL_act_163 : decode cL_act 163 = .ok (.ireturn, 1) := by decide +kernel
theorem dL_act_164 : decode cL_act 164 = .ok (.aload_n 0, 1) := by decide +kernel
theorem dL_act_165 : decode cL_act 165 = .ok (.iload 4, 2) := by decide +kernel
theorem dL_act_167 : decode cL_act 167 = .ok (.aload_n 1, 1) := by decide +kernel
theorem dL_act_168 : decode cL_act 168 = .ok (.iconst 2, 1) := by decide +kernel
theorem dL_act_169 : decode cL_act 169 = .ok (.iaload, 1) := by decide +kernel
theorem dL_act_170 : decode cL_act 170 = .ok (.ifCond .ne 7, 3) := by decide +kernel
theorem dL_act_173 : decode cL_act 173 = .ok (.iconst 0, 1) := by decide +kernel
theorem dL_act_174 : decode cL_act 174 = .ok (.goto 28, 3) := by decide +kernel
theorem dL_act_177 : decode cL_act 177 = .ok (.aload_n 1, 1) := by decide +kernel
theorem dL_act_178 : decode cL_act 178 = .ok (.iconst 2, 1) := by decide +kernel
theorem dL_act_179 : decode cL_act 179 = .ok (.iaload, 1) := by decide +kernel
theorem dL_act_180 : decode cL_act 180 = .ok (.iconst 1, 1) := by decide +kernel
theorem dL_act_181 : decode cL_act 181 = .ok (.isub, 1) := by decide +kernel
theorem dL_act_182 : decode cL_act 182 = .ok (.iload_n 3, 1) := by decide +kernel
theorem dL_act_183 : decode cL_act 183 = .ok (.bipush 10, 2) := by decide +kernel
theorem dL_act_185 : decode cL_act 185 = .ok (.idiv, 1) := by decide +kernel
theorem dL_act_186 : decode cL_act 186 = .ok (.aload_n 1, 1) := by decide +kernel
theorem dL_act_187 : decode cL_act 187 = .ok (.iconst 2, 1) := by decide +kernel
theorem dL_act_188 : decode cL_act 188 = .ok (.iaload, 1) := by decide +kernel
theorem dL_act_189 : decode cL_act 189 = .ok (.iconst 3, 1) := by decide +kernel
theorem dL_act_190 : decode cL_act 190 = .ok (.if_icmp .le 7, 3) := by decide +kernel
theorem dL_act_193 : decode cL_act 193 = .ok (.iconst 3, 1) := by decide +kernel
theorem dL_act_194 : decode cL_act 194 = .ok (.goto 6, 3) := by decide +kernel
theorem dL_act_197 : decode cL_act 197 = .ok (.aload_n 1, 1) := by decide +kernel
theorem dL_act_198 : decode cL_act 198 = .ok (.iconst 2, 1) := by decide +kernel
theorem dL_act_199 : decode cL_act 199 = .ok (.iaload, 1) := by decide +kernel
theorem dL_act_200 : decode cL_act 200 = .ok (.irem, 1) := by decide +kernel
theorem dL_act_201 : decode cL_act 201 = .ok (.isub, 1) := by decide +kernel
theorem dL_act_202 : decode cL_act 202 = .ok (.iload_n 3, 1) := by decide +kernel
theorem dL_act_203 : decode cL_act 203 = .ok (.bipush 30, 2) := by decide +kernel
theorem dL_act_205 : decode cL_act 205 = .ok (.idiv, 1) := by decide +kernel
theorem dL_act_206 : decode cL_act 206 = .ok (.iconst 3, 1) := by decide +kernel
theorem dL_act_207 : decode cL_act 207 = .ok (.irem, 1) := by decide +kernel
theorem dL_act_208 : decode cL_act 208 = .ok (.ifCond .le 7, 3) := by decide +kernel
theorem dL_act_211 : decode cL_act 211 = .ok (.iconst 1, 1) := by decide +kernel
theorem dL_act_212 : decode cL_act 212 = .ok (.goto 4, 3) := by decide +kernel
theorem dL_act_215 : decode cL_act 215 = .ok (.iconst 0, 1) := by decide +kernel
theorem dL_act_216 : decode cL_act 216 = .ok (.invokestatic 91, 3) := by decide +kernel
theorem dL_act_219 : decode cL_act 219 = .ok (.ireturn, 1) := by decide +kernel
theorem dL_act_220 : decode cL_act 220 = .ok (.aload_n 0, 1) := by decide +kernel
theorem dL_act_221 : decode cL_act 221 = .ok (.iload 4, 2) := by decide +kernel
theorem dL_act_223 : decode cL_act 223 = .ok (.aload_n 1, 1) := by decide +kernel
theorem dL_act_224 : decode cL_act 224 = .ok (.iconst 1, 1) := by decide +kernel
theorem dL_act_225 : decode cL_act 225 = .ok (.iaload, 1) := by decide +kernel
theorem dL_act_226 : decode cL_act 226 = .ok (.ifCond .ne 7, 3) := by decide +kernel
theorem dL_act_229 : decode cL_act 229 = .ok (.iconst 0, 1) := by decide +kernel
theorem dL_act_230 : decode cL_act 230 = .ok (.goto 11, 3) := by decide +kernel
theorem dL_act_233 : decode cL_act 233 = .ok (.iload_n 3, 1) := by decide +kernel
theorem dL_act_234 : decode cL_act 234 = .ok (.bipush 10, 2) := by decide +kernel
theorem dL_act_236 : decode cL_act 236 = .ok (.idiv, 1) := by decide +kernel
theorem dL_act_237 : decode cL_act 237 = .ok (.aload_n 1, 1) := by decide +kernel
theorem dL_act_238 : decode cL_act 238 = .ok (.iconst 1, 1) := by decide +kernel
theorem dL_act_239 : decode cL_act 239 = .ok (.iaload, 1) := by decide +kernel
theorem dL_act_240 : decode cL_act 240 = .ok (.irem, 1) := by decide +kernel
theorem dL_act_241 : decode cL_act 241 = .ok (.invokestatic 84, 3) := by decide +kernel
theorem dL_act_244 : decode cL_act 244 = .ok (.ireturn, 1) := by decide +kernel
theorem dL_isAlike_0 : decode cL_isAlike 0 = .ok (.aload_n 2, 1) := by decide +kernel
theorem dL_isAlike_1 : decode cL_isAlike 1 = .ok (.iconst 0, 1) := by decide +kernel
theorem dL_isAlike_2 : decode cL_isAlike 2 = .ok (.iaload, 1) := by decide +kernel
theorem dL_isAlike_3 : decode cL_isAlike 3 = .ok (.ifCond .ne 7, 3) := by decide +kernel
theorem dL_isAlike_6 : decode cL_isAlike 6 = .ok (.iconst 0, 1) := by decide +kernel
theorem dL_isAlike_7 : decode cL_isAlike 7 = .ok (.goto 8, 3) := by decide +kernel
theorem dL_isAlike_10 : decode cL_isAlike 10 = .ok (.iload_n 3, 1) := by decide +kernel
theorem dL_isAlike_11 : decode cL_isAlike 11 = .ok (.aload_n 2, 1) := by decide +kernel
theorem dL_isAlike_12 : decode cL_isAlike 12 = .ok (.iconst 0, 1) := by decide +kernel
theorem dL_isAlike_13 : decode cL_isAlike 13 = .ok (.iaload, 1) := by decide +kernel
theorem dL_isAlike_14 : decode cL_isAlike 14 = .ok (.irem, 1) := by decide +kernel
theorem dL_isAlike_15 : decode cL_isAlike 15 = .ok (.istore 4, 2) := by decide +kernel
theorem dL_isAlike_17 : decode cL_isAlike 17 = .ok (.aload_n 2, 1) := by decide +kernel
theorem dL_isAlike_18 : decode cL_isAlike 18 = .ok (.iconst 1, 1) := by decide +kernel
theorem dL_isAlike_19 : decode cL_isAlike 19 = .ok (.iaload, 1) := by decide +kernel
theorem dL_isAlike_20 : decode cL_isAlike 20 = .ok (.ifCond .ne 7, 3) := by decide +kernel
theorem dL_isAlike_23 : decode cL_isAlike 23 = .ok (.iconst 0, 1) := by decide +kernel
theorem dL_isAlike_24 : decode cL_isAlike 24 = .ok (.goto 8, 3) := by decide +kernel
theorem dL_isAlike_27 : decode cL_isAlike 27 = .ok (.iload_n 3, 1) := by decide +kernel
theorem dL_isAlike_28 : decode cL_isAlike 28 = .ok (.aload_n 2, 1) := by decide +kernel
theorem dL_isAlike_29 : decode cL_isAlike 29 = .ok (.iconst 1, 1) := by decide +kernel
theorem dL_isAlike_30 : decode cL_isAlike 30 = .ok (.iaload, 1) := by decide +kernel
theorem dL_isAlike_31 : decode cL_isAlike 31 = .ok (.irem, 1) := by decide +kernel
theorem dL_isAlike_32 : decode cL_isAlike 32 = .ok (.istore 5, 2) := by decide +kernel
theorem dL_isAlike_34 : decode cL_isAlike 34 = .ok (.aload_n 0, 1) := by decide +kernel
theorem dL_isAlike_35 : decode cL_isAlike 35 = .ok (.invokevirtual 113, 3) := by decide +kernel
theorem dL_isAlike_38 : decode cL_isAlike 38 = .ok (.aload_n 1, 1) := by decide +kernel
theorem dL_isAlike_39 : decode cL_isAlike 39 = .ok (.invokevirtual 113, 3) := by decide +kernel
theorem dL_isAlike_42 : decode cL_isAlike 42 = .ok (.if_icmp .ne 85, 3) := by decide +kernel
theorem dL_isAlike_45 : decode cL_isAlike 45 = .ok (.aload_n 0, 1) := by decide +kernel
theorem dL_isAlike_46 : decode cL_isAlike 46 = .ok (.iload 5, 2) := by decide +kernel
theorem dL_isAlike_48 : decode cL_isAlike 48 = .ok (.invokestatic 104, 3) := by decide +kernel
theorem dL_isAlike_51 : decode cL_isAlike 51 = .ok (.aload_n 1, 1) := by decide +kernel
theorem dL_isAlike_52 : decode cL_isAlike 52 = .ok (.iload 5, 2) := by decide +kernel
theorem dL_isAlike_54 : decode cL_isAlike 54 = .ok (.invokestatic 104, 3) := by decide +kernel
theorem dL_isAlike_57 : decode cL_isAlike 57 = .ok (.if_icmp .ne 70, 3) := by decide +kernel
theorem dL_isAlike_60 : decode cL_isAlike 60 = .ok (.aload_n 0, 1) := by decide +kernel
theorem dL_isAlike_61 : decode cL_isAlike 61 = .ok (.iload 4, 2) := by decide +kernel
theorem dL_isAlike_63 : decode cL_isAlike 63 = .ok (.iload 5, 2) := by decide +kernel
theorem dL_isAlike_65 : decode cL_isAlike 65 = .ok (.invokestatic 100, 3) := by decide +kernel
theorem dL_isAlike_68 : decode cL_isAlike 68 = .ok (.aload_n 1, 1) := by decide +kernel
theorem dL_isAlike_69 : decode cL_isAlike 69 = .ok (.iload 4, 2) := by decide +kernel
theorem dL_isAlike_71 : decode cL_isAlike 71 = .ok (.iload 5, 2) := by decide +kernel
theorem dL_isAlike_73 : decode cL_isAlike 73 = .ok (.invokestatic 100, 3) := by decide +kernel
theorem dL_isAlike_76 : decode cL_isAlike 76 = .ok (.if_icmp .ne 51, 3) := by decide +kernel
theorem dL_isAlike_79 : decode cL_isAlike 79 = .ok (.aload_n 0, 1) := by decide +kernel
theorem dL_isAlike_80 : decode cL_isAlike 80 = .ok (.iload 4, 2) := by decide +kernel
theorem dL_isAlike_82 : decode cL_isAlike 82 = .ok (.invokestatic 106, 3) := by decide +kernel
theorem dL_isAlike_85 : decode cL_isAlike 85 = .ok (.aload_n 1, 1) := by decide +kernel
theorem dL_isAlike_86 : decode cL_isAlike 86 = .ok (.iload 4, 2) := by decide +kernel
theorem dL_isAlike_88 : decode cL_isAlike 88 = .ok (.invokestatic 106, 3) := by decide +kernel
theorem dL_isAlike_91 : decode cL_isAlike 91 = .ok (.if_icmp .ne 36, 3) := by decide +kernel
theorem dL_isAlike_94 : decode cL_isAlike 94 = .ok (.aload_n 0, 1) := by decide +kernel
theorem dL_isAlike_95 : decode cL_isAlike 95 = .ok (.iload 4, 2) := by decide +kernel
theorem dL_isAlike_97 : decode cL_isAlike 97 = .ok (.iload_n 3, 1) := by decide +kernel
theorem dL_isAlike_98 : decode cL_isAlike 98 = .ok (.bipush 10, 2) := by decide +kernel
theorem dL_isAlike_100 : decode cL_isAlike 100 = .ok (.idiv, 1) := by decide +kernel
theorem dL_isAlike_101 : decode cL_isAlike 101 = .ok (.bipush 10, 2) := by decide +kernel
theorem dL_isAlike_103 : decode cL_isAlike 103 = .ok (.irem, 1) := by decide +kernel
theorem dL_isAlike_104 : decode cL_isAlike 104 = .ok (.invokestatic 102, 3) := by decide +kernel
theorem dL_isAlike_107 : decode cL_isAlike 107 = .ok (.aload_n 1, 1) := by decide +kernel
theorem dL_isAlike_108 : decode cL_isAlike 108 = .ok (.iload 4, 2) := by decide +kernel
theorem dL_isAlike_110 : decode cL_isAlike 110 = .ok (.iload_n 3, 1) := by decide +kernel
theorem dL_isAlike_111 : decode cL_isAlike 111 = .ok (.bipush 10, 2) := by decide +kernel
theorem dL_isAlike_113 : decode cL_isAlike 113 = .ok (.idiv, 1) := by decide +kernel
theorem dL_isAlike_114 : decode cL_isAlike 114 = .ok (.bipush 10, 2) := by decide +kernel
theorem dL_isAlike_116 : decode cL_isAlike 116 = .ok (.irem, 1) := by decide +kernel
theorem dL_isAlike_117 : decode cL_isAlike 117 = .ok (.invokestatic 102, 3) := by decide +kernel
theorem dL_isAlike_120 : decode cL_isAlike 120 = .ok (.if_icmp .ne 7, 3) := by decide +kernel
theorem dL_isAlike_123 : decode cL_isAlike 123 = .ok (.iconst 1, 1) := by decide +kernel
theorem dL_isAlike_124 : decode cL_isAlike 124 = .ok (.goto 4, 3) := by decide +kernel
theorem dL_isAlike_127 : decode cL_isAlike 127 = .ok (.iconst 0, 1) := by decide +kernel
theorem dL_isAlike_128 : decode cL_isAlike 128 = .ok (.istore 6, 2) := by decide +kernel
theorem dL_isAlike_130 : decode cL_isAlike 130 = .ok (.iconst 0, 1) := by decide +kernel
theorem dL_isAlike_131 : decode cL_isAlike 131 = .ok (.istore 7, 2) := by decide +kernel
theorem dL_isAlike_133 : decode cL_isAlike 133 = .ok (.iload 7, 2) := by decide +kernel
theorem dL_isAlike_135 : decode cL_isAlike 135 = .ok (.iconst 5, 1) := by decide +kernel
theorem dL_isAlike_136 : decode cL_isAlike 136 = .ok (.if_icmp .ge 103, 3) := by decide +kernel
theorem dL_isAlike_139 : decode cL_isAlike 139 = .ok (.iload 6, 2) := by decide +kernel
theorem dL_isAlike_141 : decode cL_isAlike 141 = .ok (.ifCond .eq 98, 3) := by decide +kernel
theorem dL_isAlike_144 : decode cL_isAlike 144 = .ok (.aload_n 0, 1) := by decide +kernel
theorem dL_isAlike_145 : decode cL_isAlike 145 = .ok (.iload 4, 2) := by decide +kernel
theorem dL_isAlike_147 : decode cL_isAlike 147 = .ok (.iload 7, 2) := by decide +kernel
theorem dL_isAlike_149 : decode cL_isAlike 149 = .ok (.invokestatic 98, 3) := by decide +kernel
theorem dL_isAlike_152 : decode cL_isAlike 152 = .ok (.aload_n 1, 1) := by decide +kernel
theorem dL_isAlike_153 : decode cL_isAlike 153 = .ok (.iload 4, 2) := by decide +kernel
theorem dL_isAlike_155 : decode cL_isAlike 155 = .ok (.iload 7, 2) := by decide +kernel
theorem dL_isAlike_157 : decode cL_isAlike 157 = .ok (.invokestatic 98, 3) := by decide +kernel
theorem dL_isAlike_160 : decode cL_isAlike 160 = .ok (.if_icmp .ne 70, 3) := by decide +kernel
theorem dL_isAlike_163 : decode cL_isAlike 163 = .ok (.aload_n 0, 1) := by decide +kernel
theorem dL_isAlike_164 : decode cL_isAlike 164 = .ok (.iload_n 3, 1) := by decide +kernel
theorem dL_isAlike_165 : decode cL_isAlike 165 = .ok (.bipush 30, 2) := by decide +kernel
theorem dL_isAlike_167 : decode cL_isAlike 167 = .ok (.irem, 1) := by decide +kernel
theorem dL_isAlike_168 : decode cL_isAlike 168 = .ok (.iload 7, 2) := by decide +kernel
theorem dL_isAlike_170 : decode cL_isAlike 170 = .ok (.invokestatic 96, 3) := by decide +kernel
theorem dL_isAlike_173 : decode cL_isAlike 173 = .ok (.aload_n 1, 1) := by decide +kernel
theorem dL_isAlike_174 : decode cL_isAlike 174 = .ok (.iload_n 3, 1) := by decide +kernel
theorem dL_isAlike_175 : decode cL_isAlike 175 = .ok (.bipush 30, 2) := by decide +kernel
theorem dL_isAlike_177 : decode cL_isAlike 177 = .ok (.irem, 1) := by decide +kernel
theorem dL_isAlike_178 : decode cL_isAlike 178 = .ok (.iload 7, 2) := by decide +kernel
theorem dL_isAlike_180 : decode cL_isAlike 180 = .ok (.invokestatic 96, 3) := by decide +kernel
theorem dL_isAlike_183 : decode cL_isAlike 183 = .ok (.if_icmp .ne 47, 3) := by decide +kernel
theorem dL_isAlike_186 : decode cL_isAlike 186 = .ok (.aload_n 0, 1) := by decide +kernel
theorem dL_isAlike_187 : decode cL_isAlike 187 = .ok (.iload 7, 2) := by decide +kernel
theorem dL_isAlike_189 : decode cL_isAlike 189 = .ok (.invokestatic 94, 3) := by decide +kernel
theorem dL_isAlike_192 : decode cL_isAlike 192 = .ok (.aload_n 1, 1) := by decide +kernel
theorem dL_isAlike_193 : decode cL_isAlike 193 = .ok (.iload 7, 2) := by decide +kernel
theorem dL_isAlike_195 : decode cL_isAlike 195 = .ok (.invokestatic 94, 3) := by decide +kernel
theorem dL_isAlike_198 : decode cL_isAlike 198 = .ok (.if_icmp .ne 32, 3) := by decide +kernel
theorem dL_isAlike_201 : decode cL_isAlike 201 = .ok (.aload_n 0, 1) := by decide +kernel
theorem dL_isAlike_202 : decode cL_isAlike 202 = .ok (.iload_n 3, 1) := by decide +kernel
theorem dL_isAlike_203 : decode cL_isAlike 203 = .ok (.bipush 20, 2) := by decide +kernel
theorem dL_isAlike_205 : decode cL_isAlike 205 = .ok (.irem, 1) := by decide +kernel
theorem dL_isAlike_206 : decode cL_isAlike 206 = .ok (.iload 7, 2) := by decide +kernel
theorem dL_isAlike_208 : decode cL_isAlike 208 = .ok (.iadd, 1) := by decide +kernel
theorem dL_isAlike_209 : decode cL_isAlike 209 = .ok (.invokestatic 111, 3) := by decide +kernel
theorem dL_isAlike_212 : decode cL_isAlike 212 = .ok (.aload_n 1, 1) := by decide +kernel
theorem dL_isAlike_213 : decode cL_isAlike 213 = .ok (.iload_n 3, 1) := by decide +kernel
theorem dL_isAlike_214 : decode cL_isAlike 214 = .ok (.bipush 20, 2) := by decide +kernel
theorem dL_isAlike_216 : decode cL_isAlike 216 = .ok (.irem, 1) := by decide +kernel
theorem dL_isAlike_217 : decode cL_isAlike 217 = .ok (.iload 7, 2) := by decide +kernel
theorem dL_isAlike_219 : decode cL_isAlike 219 = .ok (.iadd, 1) := by decide +kernel
theorem dL_isAlike_220 : decode cL_isAlike 220 = .ok (.invokestatic 111, 3) := by decide +kernel
theorem dL_isAlike_223 : decode cL_isAlike 223 = .ok (.if_icmp .ne 7, 3) := by decide +kernel
theorem dL_isAlike_226 : decode cL_isAlike 226 = .ok (.iconst 1, 1) := by decide +kernel
theorem dL_isAlike_227 : decode cL_isAlike 227 = .ok (.goto 4, 3) := by decide +kernel
theorem dL_isAlike_230 : decode cL_isAlike 230 = .ok (.iconst 0, 1) := by decide +kernel
theorem dL_isAlike_231 : decode cL_isAlike 231 = .ok (.istore 6, 2) := by decide +kernel
theorem dL_isAlike_233 : decode cL_isAlike 233 = .ok (.iinc 7 1, 3) := by decide +kernel
theorem dL_isAlike_236 : decode cL_isAlike 236 = .ok (.goto (-103), 3) := by decide +kernel
theorem dL_isAlike_239 : decode cL_isAlike 239 = .ok (.iload 6, 2) := by decide +kernel
theorem dL_isAlike_241 : decode cL_isAlike 241 = .ok (.ireturn, 1) := by decide +kernel
theorem dL_isWhole_0 : decode cL_isWhole 0 = .ok (.iconst 1, 1) := by decide +kernel
theorem dL_isWhole_1 : decode cL_isWhole 1 = .ok (.istore_n 2, 1) := by decide +kernel
theorem dL_isWhole_2 : decode cL_isWhole 2 = .ok (.iconst 0, 1) := by decide +kernel
theorem dL_isWhole_3 : decode cL_isWhole 3 = .ok (.istore_n 3, 1) := by decide +kernel
theorem dL_isWhole_4 : decode cL_isWhole 4 = .ok (.iconst 0, 1) := by decide +kernel
theorem dL_isWhole_5 : decode cL_isWhole 5 = .ok (.istore 4, 2) := by decide +kernel
theorem dL_isWhole_7 : decode cL_isWhole 7 = .ok (.iconst 0, 1) := by decide +kernel
theorem dL_isWhole_8 : decode cL_isWhole 8 = .ok (.istore 5, 2) := by decide +kernel
theorem dL_isWhole_10 : decode cL_isWhole 10 = .ok (.iload 5, 2) := by decide +kernel
theorem dL_isWhole_12 : decode cL_isWhole 12 = .ok (.aload_n 1, 1) := by decide +kernel
theorem dL_isWhole_13 : decode cL_isWhole 13 = .ok (.iconst 0, 1) := by decide +kernel
theorem dL_isWhole_14 : decode cL_isWhole 14 = .ok (.iaload, 1) := by decide +kernel
theorem dL_isWhole_15 : decode cL_isWhole 15 = .ok (.if_icmp .ge 315, 3) := by decide +kernel
theorem dL_isWhole_18 : decode cL_isWhole 18 = .ok (.iload_n 2, 1) := by decide +kernel
theorem dL_isWhole_19 : decode cL_isWhole 19 = .ok (.ifCond .eq 311, 3) := by decide +kernel
theorem dL_isWhole_22 : decode cL_isWhole 22 = .ok (.iconst 0, 1) := by decide +kernel
theorem dL_isWhole_23 : decode cL_isWhole 23 = .ok (.istore 6, 2) := by decide +kernel
theorem dL_isWhole_25 : decode cL_isWhole 25 = .ok (.aload_n 0, 1) := by decide +kernel
theorem dL_isWhole_26 : decode cL_isWhole 26 = .ok (.iload 5, 2) := by decide +kernel
theorem dL_isWhole_28 : decode cL_isWhole 28 = .ok (.iconst 0, 1) := by decide +kernel
theorem dL_isWhole_29 : decode cL_isWhole 29 = .ok (.invokestatic 98, 3) := by decide +kernel
theorem dL_isWhole_32 : decode cL_isWhole 32 = .ok (.iconst 1, 1) := by decide +kernel
theorem dL_isWhole_33 : decode cL_isWhole 33 = .ok (.if_icmp .ne 7, 3) := by decide +kernel
theorem dL_isWhole_36 : decode cL_isWhole 36 = .ok (.iconst 1, 1) := by decide +kernel
theorem dL_isWhole_37 : decode cL_isWhole 37 = .ok (.goto 4, 3) := by decide +kernel
theorem dL_isWhole_40 : decode cL_isWhole 40 = .ok (.iconst 0, 1) := by decide +kernel
theorem dL_isWhole_41 : decode cL_isWhole 41 = .ok (.istore 7, 2) := by decide +kernel
theorem dL_isWhole_43 : decode cL_isWhole 43 = .ok (.iload 4, 2) := by decide +kernel
theorem dL_isWhole_45 : decode cL_isWhole 45 = .ok (.aload_n 0, 1) := by decide +kernel
theorem dL_isWhole_46 : decode cL_isWhole 46 = .ok (.iload 5, 2) := by decide +kernel
theorem dL_isWhole_48 : decode cL_isWhole 48 = .ok (.iconst 4, 1) := by decide +kernel
theorem dL_isWhole_49 : decode cL_isWhole 49 = .ok (.invokestatic 98, 3) := by decide +kernel
theorem dL_isWhole_52 : decode cL_isWhole 52 = .ok (.iadd, 1) := by decide +kernel
theorem dL_isWhole_53 : decode cL_isWhole 53 = .ok (.istore 4, 2) := by decide +kernel
theorem dL_isWhole_55 : decode cL_isWhole 55 = .ok (.iload_n 3, 1) := by decide +kernel
theorem dL_isWhole_56 : decode cL_isWhole 56 = .ok (.aload_n 0, 1) := by decide +kernel
theorem dL_isWhole_57 : decode cL_isWhole 57 = .ok (.iload 5, 2) := by decide +kernel
theorem dL_isWhole_59 : decode cL_isWhole 59 = .ok (.iconst 3, 1) := by decide +kernel
theorem dL_isWhole_60 : decode cL_isWhole 60 = .ok (.invokestatic 98, 3) := by decide +kernel
theorem dL_isWhole_63 : decode cL_isWhole 63 = .ok (.iadd, 1) := by decide +kernel
theorem dL_isWhole_64 : decode cL_isWhole 64 = .ok (.istore_n 3, 1) := by decide +kernel
theorem dL_isWhole_65 : decode cL_isWhole 65 = .ok (.iconst 0, 1) := by decide +kernel
theorem dL_isWhole_66 : decode cL_isWhole 66 = .ok (.istore 8, 2) := by decide +kernel
theorem dL_isWhole_68 : decode cL_isWhole 68 = .ok (.iload 8, 2) := by decide +kernel
theorem dL_isWhole_70 : decode cL_isWhole 70 = .ok (.aload_n 1, 1) := by decide +kernel
theorem dL_isWhole_71 : decode cL_isWhole 71 = .ok (.iconst 1, 1) := by decide +kernel
theorem dL_isWhole_72 : decode cL_isWhole 72 = .ok (.iaload, 1) := by decide +kernel
theorem dL_isWhole_73 : decode cL_isWhole 73 = .ok (.if_icmp .ge 57, 3) := by decide +kernel
theorem dL_isWhole_76 : decode cL_isWhole 76 = .ok (.iload_n 2, 1) := by decide +kernel
theorem dL_isWhole_77 : decode cL_isWhole 77 = .ok (.ifCond .eq 53, 3) := by decide +kernel
theorem dL_isWhole_80 : decode cL_isWhole 80 = .ok (.iload 6, 2) := by decide +kernel
theorem dL_isWhole_82 : decode cL_isWhole 82 = .ok (.aload_n 0, 1) := by decide +kernel
theorem dL_isWhole_83 : decode cL_isWhole 83 = .ok (.iload 5, 2) := by decide +kernel
theorem dL_isWhole_85 : decode cL_isWhole 85 = .ok (.iload 8, 2) := by decide +kernel
theorem dL_isWhole_87 : decode cL_isWhole 87 = .ok (.invokestatic 100, 3) := by decide +kernel
theorem dL_isWhole_90 : decode cL_isWhole 90 = .ok (.iconst 1, 1) := by decide +kernel
theorem dL_isWhole_91 : decode cL_isWhole 91 = .ok (.if_icmp .ne 7, 3) := by decide +kernel
theorem dL_isWhole_94 : decode cL_isWhole 94 = .ok (.iconst 1, 1) := by decide +kernel
theorem dL_isWhole_95 : decode cL_isWhole 95 = .ok (.goto 4, 3) := by decide +kernel
theorem dL_isWhole_98 : decode cL_isWhole 98 = .ok (.iconst 0, 1) := by decide +kernel
theorem dL_isWhole_99 : decode cL_isWhole 99 = .ok (.iadd, 1) := by decide +kernel
theorem dL_isWhole_100 : decode cL_isWhole 100 = .ok (.istore 6, 2) := by decide +kernel
theorem dL_isWhole_102 : decode cL_isWhole 102 = .ok (.iload 7, 2) := by decide +kernel
theorem dL_isWhole_104 : decode cL_isWhole 104 = .ok (.ifCond .ne 14, 3) := by decide +kernel
theorem dL_isWhole_107 : decode cL_isWhole 107 = .ok (.aload_n 0, 1) := by decide +kernel
theorem dL_isWhole_108 : decode cL_isWhole 108 = .ok (.iload 5, 2) := by decide +kernel
theorem dL_isWhole_110 : decode cL_isWhole 110 = .ok (.iload 8, 2) := by decide +kernel
theorem dL_isWhole_112 : decode cL_isWhole 112 = .ok (.invokestatic 100, 3) := by decide +kernel
theorem dL_isWhole_115 : decode cL_isWhole 115 = .ok (.ifCond .ne 7, 3) := by decide +kernel
theorem dL_isWhole_118 : decode cL_isWhole 118 = .ok (.iconst 1, 1) := by decide +kernel
theorem dL_isWhole_119 : decode cL_isWhole 119 = .ok (.goto 4, 3) := by decide +kernel
theorem dL_isWhole_122 : decode cL_isWhole 122 = .ok (.iconst 0, 1) := by decide +kernel
theorem dL_isWhole_123 : decode cL_isWhole 123 = .ok (.istore_n 2, 1) := by decide +kernel
theorem dL_isWhole_124 : decode cL_isWhole 124 = .ok (.iinc 8 1, 3) := by decide +kernel
theorem dL_isWhole_127 : decode cL_isWhole 127 = .ok (.goto (-59), 3) := by decide +kernel
theorem dL_isWhole_130 : decode cL_isWhole 130 = .ok (.iload_n 2, 1) := by decide +kernel
theorem dL_isWhole_131 : decode cL_isWhole 131 = .ok (.ifCond .eq 97, 3) := by decide +kernel
theorem dL_isWhole_134 : decode cL_isWhole 134 = .ok (.aload_n 0, 1) := by decide +kernel
theorem dL_isWhole_135 : decode cL_isWhole 135 = .ok (.iload 5, 2) := by decide +kernel
theorem dL_isWhole_137 : decode cL_isWhole 137 = .ok (.iconst 2, 1) := by decide +kernel
theorem dL_isWhole_138 : decode cL_isWhole 138 = .ok (.invokestatic 98, 3) := by decide +kernel
theorem dL_isWhole_141 : decode cL_isWhole 141 = .ok (.iload 6, 2) := by decide +kernel
theorem dL_isWhole_143 : decode cL_isWhole 143 = .ok (.if_icmp .lt 85, 3) := by decide +kernel
theorem dL_isWhole_146 : decode cL_isWhole 146 = .ok (.aload_n 0, 1) := by decide +kernel
theorem dL_isWhole_147 : decode cL_isWhole 147 = .ok (.iload 5, 2) := by decide +kernel
theorem dL_isWhole_149 : decode cL_isWhole 149 = .ok (.iconst 2, 1) := by decide +kernel
theorem dL_isWhole_150 : decode cL_isWhole 150 = .ok (.invokestatic 98, 3) := by decide +kernel
theorem dL_isWhole_153 : decode cL_isWhole 153 = .ok (.bipush 50, 2) := by decide +kernel
theorem dL_isWhole_155 : decode cL_isWhole 155 = .ok (.if_icmp .gt 73, 3) := by decide +kernel
theorem dL_isWhole_158 : decode cL_isWhole 158 = .ok (.iload 6, 2) := by decide +kernel
theorem dL_isWhole_160 : decode cL_isWhole 160 = .ok (.ifCond .le 7, 3) := by decide +kernel
theorem dL_isWhole_163 : decode cL_isWhole 163 = .ok (.iconst 1, 1) := by decide +kernel
theorem dL_isWhole_164 : decode cL_isWhole 164 = .ok (.goto 4, 3) := by decide +kernel
theorem dL_isWhole_167 : decode cL_isWhole 167 = .ok (.iconst 0, 1) := by decide +kernel
theorem dL_isWhole_168 : decode cL_isWhole 168 = .ok (.aload_n 0, 1) := by decide +kernel
theorem dL_isWhole_169 : decode cL_isWhole 169 = .ok (.iload 5, 2) := by decide +kernel
theorem dL_isWhole_171 : decode cL_isWhole 171 = .ok (.iconst 2, 1) := by decide +kernel
theorem dL_isWhole_172 : decode cL_isWhole 172 = .ok (.invokestatic 98, 3) := by decide +kernel
theorem dL_isWhole_175 : decode cL_isWhole 175 = .ok (.ifCond .le 7, 3) := by decide +kernel
theorem dL_isWhole_178 : decode cL_isWhole 178 = .ok (.iconst 1, 1) := by decide +kernel
theorem dL_isWhole_179 : decode cL_isWhole 179 = .ok (.goto 4, 3) := by decide +kernel
theorem dL_isWhole_182 : decode cL_isWhole 182 = .ok (.iconst 0, 1) := by decide +kernel
theorem dL_isWhole_183 : decode cL_isWhole 183 = .ok (.if_icmp .ne 45, 3) := by decide +kernel
theorem dL_isWhole_186 : decode cL_isWhole 186 = .ok (.aload_n 0, 1) := by decide +kernel
theorem dL_isWhole_187 : decode cL_isWhole 187 = .ok (.iload 5, 2) := by decide +kernel
theorem dL_isWhole_189 : decode cL_isWhole 189 = .ok (.iconst 1, 1) := by decide +kernel
theorem dL_isWhole_190 : decode cL_isWhole 190 = .ok (.invokestatic 98, 3) := by decide +kernel
theorem dL_isWhole_193 : decode cL_isWhole 193 = .ok (.ifCond .lt 35, 3) := by decide +kernel
theorem dL_isWhole_196 : decode cL_isWhole 196 = .ok (.aload_n 0, 1) := by decide +kernel
theorem dL_isWhole_197 : decode cL_isWhole 197 = .ok (.iload 5, 2) := by decide +kernel
theorem dL_isWhole_199 : decode cL_isWhole 199 = .ok (.iconst 1, 1) := by decide +kernel
theorem dL_isWhole_200 : decode cL_isWhole 200 = .ok (.invokestatic 98, 3) := by decide +kernel
theorem dL_isWhole_203 : decode cL_isWhole 203 = .ok (.bipush 20, 2) := by decide +kernel
theorem dL_isWhole_205 : decode cL_isWhole 205 = .ok (.if_icmp .gt 23, 3) := by decide +kernel
theorem dL_isWhole_208 : decode cL_isWhole 208 = .ok (.aload_n 0, 1) := by decide +kernel
theorem dL_isWhole_209 : decode cL_isWhole 209 = .ok (.iload 5, 2) := by decide +kernel
theorem dL_isWhole_211 : decode cL_isWhole 211 = .ok (.invokestatic 106, 3) := by decide +kernel
theorem dL_isWhole_214 : decode cL_isWhole 214 = .ok (.aload_n 0, 1) := by decide +kernel
theorem dL_isWhole_215 : decode cL_isWhole 215 = .ok (.iload 5, 2) := by decide +kernel
theorem dL_isWhole_217 : decode cL_isWhole 217 = .ok (.iconst 3, 1) := by decide +kernel
theorem dL_isWhole_218 : decode cL_isWhole 218 = .ok (.invokestatic 98, 3) := by decide +kernel
theorem dL_isWhole_221 : decode cL_isWhole 221 = .ok (.if_icmp .ne 7, 3) := by decide +kernel
theorem dL_isWhole_224 : decode cL_isWhole 224 = .ok (.iconst 1, 1) := by decide +kernel
theorem dL_isWhole_225 : decode cL_isWhole 225 = .ok (.goto 4, 3) := by decide +kernel
theorem dL_isWhole_228 : decode cL_isWhole 228 = .ok (.iconst 0, 1) := by decide +kernel
theorem dL_isWhole_229 : decode cL_isWhole 229 = .ok (.istore_n 2, 1) := by decide +kernel
theorem dL_isWhole_230 : decode cL_isWhole 230 = .ok (.iconst 0, 1) := by decide +kernel
theorem dL_isWhole_231 : decode cL_isWhole 231 = .ok (.istore 8, 2) := by decide +kernel
theorem dL_isWhole_233 : decode cL_isWhole 233 = .ok (.iload 8, 2) := by decide +kernel
theorem dL_isWhole_235 : decode cL_isWhole 235 = .ok (.aload_n 1, 1) := by decide +kernel
theorem dL_isWhole_236 : decode cL_isWhole 236 = .ok (.iconst 0, 1) := by decide +kernel
theorem dL_isWhole_237 : decode cL_isWhole 237 = .ok (.iaload, 1) := by decide +kernel
theorem dL_isWhole_238 : decode cL_isWhole 238 = .ok (.if_icmp .ge 86, 3) := by decide +kernel
theorem dL_isWhole_241 : decode cL_isWhole 241 = .ok (.iload_n 2, 1) := by decide +kernel
theorem dL_isWhole_242 : decode cL_isWhole 242 = .ok (.ifCond .eq 82, 3) := by decide +kernel
theorem dL_isWhole_245 : decode cL_isWhole 245 = .ok (.aload_n 0, 1) := by decide +kernel
theorem dL_isWhole_246 : decode cL_isWhole 246 = .ok (.iload 5, 2) := by decide +kernel
theorem dL_isWhole_248 : decode cL_isWhole 248 = .ok (.iload 8, 2) := by decide +kernel
theorem dL_isWhole_250 : decode cL_isWhole 250 = .ok (.invokestatic 102, 3) := by decide +kernel
theorem dL_isWhole_253 : decode cL_isWhole 253 = .ok (.istore 9, 2) := by decide +kernel
theorem dL_isWhole_255 : decode cL_isWhole 255 = .ok (.iload 9, 2) := by decide +kernel
theorem dL_isWhole_257 : decode cL_isWhole 257 = .ok (.ifCond .lt 59, 3) := by decide +kernel
theorem dL_isWhole_260 : decode cL_isWhole 260 = .ok (.aload_n 0, 1) := by decide +kernel
theorem dL_isWhole_261 : decode cL_isWhole 261 = .ok (.iload 5, 2) := by decide +kernel
theorem dL_isWhole_263 : decode cL_isWhole 263 = .ok (.iload 8, 2) := by decide +kernel
theorem dL_isWhole_265 : decode cL_isWhole 265 = .ok (.invokestatic 109, 3) := by decide +kernel
theorem dL_isWhole_268 : decode cL_isWhole 268 = .ok (.iload 9, 2) := by decide +kernel
theorem dL_isWhole_270 : decode cL_isWhole 270 = .ok (.if_icmp .ne 46, 3) := by decide +kernel
theorem dL_isWhole_273 : decode cL_isWhole 273 = .ok (.iload 9, 2) := by decide +kernel
theorem dL_isWhole_275 : decode cL_isWhole 275 = .ok (.ifCond .eq 37, 3) := by decide +kernel
theorem dL_isWhole_278 : decode cL_isWhole 278 = .ok (.aload_n 0, 1) := by decide +kernel
theorem dL_isWhole_279 : decode cL_isWhole 279 = .ok (.iload 8, 2) := by decide +kernel
theorem dL_isWhole_281 : decode cL_isWhole 281 = .ok (.iload 5, 2) := by decide +kernel
theorem dL_isWhole_283 : decode cL_isWhole 283 = .ok (.invokestatic 102, 3) := by decide +kernel
theorem dL_isWhole_286 : decode cL_isWhole 286 = .ok (.ifCond .ne 30, 3) := by decide +kernel
theorem dL_isWhole_289 : decode cL_isWhole 289 = .ok (.iload 7, 2) := by decide +kernel
theorem dL_isWhole_291 : decode cL_isWhole 291 = .ok (.ifCond .eq 25, 3) := by decide +kernel
theorem dL_isWhole_294 : decode cL_isWhole 294 = .ok (.aload_n 0, 1) := by decide +kernel
theorem dL_isWhole_295 : decode cL_isWhole 295 = .ok (.iload 8, 2) := by decide +kernel
theorem dL_isWhole_297 : decode cL_isWhole 297 = .ok (.iconst 0, 1) := by decide +kernel
theorem dL_isWhole_298 : decode cL_isWhole 298 = .ok (.invokestatic 98, 3) := by decide +kernel
theorem dL_isWhole_301 : decode cL_isWhole 301 = .ok (.iconst 1, 1) := by decide +kernel
theorem dL_isWhole_302 : decode cL_isWhole 302 = .ok (.if_icmp .ne 14, 3) := by decide +kernel
theorem dL_isWhole_305 : decode cL_isWhole 305 = .ok (.iload 8, 2) := by decide +kernel
theorem dL_isWhole_307 : decode cL_isWhole 307 = .ok (.iload 5, 2) := by decide +kernel
theorem dL_isWhole_309 : decode cL_isWhole 309 = .ok (.if_icmp .eq 7, 3) := by decide +kernel
theorem dL_isWhole_312 : decode cL_isWhole 312 = .ok (.iconst 1, 1) := by decide +kernel
theorem dL_isWhole_313 : decode cL_isWhole 313 = .ok (.goto 4, 3) := by decide +kernel
theorem dL_isWhole_316 : decode cL_isWhole 316 = .ok (.iconst 0, 1) := by decide +kernel
theorem dL_isWhole_317 : decode cL_isWhole 317 = .ok (.istore_n 2, 1) := by decide +kernel
theorem dL_isWhole_318 : decode cL_isWhole 318 = .ok (.iinc 8 1, 3) := by decide +kernel
theorem dL_isWhole_321 : decode cL_isWhole 321 = .ok (.goto (-88), 3) := by decide +kernel
theorem dL_isWhole_324 : decode cL_isWhole 324 = .ok (.iinc 5 1, 3) := by decide +kernel
theorem dL_isWhole_327 : decode cL_isWhole 327 = .ok (.goto (-317), 3) := by decide +kernel
theorem dL_isWhole_330 : decode cL_isWhole 330 = .ok (.iconst 0, 1) := by decide +kernel
theorem dL_isWhole_331 : decode cL_isWhole 331 = .ok (.istore 5, 2) := by decide +kernel
theorem dL_isWhole_333 : decode cL_isWhole 333 = .ok (.iconst 0, 1) := by decide +kernel
theorem dL_isWhole_334 : decode cL_isWhole 334 = .ok (.istore 6, 2) := by decide +kernel
theorem dL_isWhole_336 : decode cL_isWhole 336 = .ok (.iload 6, 2) := by decide +kernel
theorem dL_isWhole_338 : decode cL_isWhole 338 = .ok (.aload_n 1, 1) := by decide +kernel
theorem dL_isWhole_339 : decode cL_isWhole 339 = .ok (.iconst 1, 1) := by decide +kernel
theorem dL_isWhole_340 : decode cL_isWhole 340 = .ok (.iaload, 1) := by decide +kernel
theorem dL_isWhole_341 : decode cL_isWhole 341 = .ok (.if_icmp .ge 24, 3) := by decide +kernel
theorem dL_isWhole_344 : decode cL_isWhole 344 = .ok (.iload_n 2, 1) := by decide +kernel
theorem dL_isWhole_345 : decode cL_isWhole 345 = .ok (.ifCond .eq 20, 3) := by decide +kernel
theorem dL_isWhole_348 : decode cL_isWhole 348 = .ok (.iload 5, 2) := by decide +kernel
theorem dL_isWhole_350 : decode cL_isWhole 350 = .ok (.aload_n 0, 1) := by decide +kernel
theorem dL_isWhole_351 : decode cL_isWhole 351 = .ok (.iload 6, 2) := by decide +kernel
theorem dL_isWhole_353 : decode cL_isWhole 353 = .ok (.invokestatic 104, 3) := by decide +kernel
theorem dL_isWhole_356 : decode cL_isWhole 356 = .ok (.iadd, 1) := by decide +kernel
theorem dL_isWhole_357 : decode cL_isWhole 357 = .ok (.istore 5, 2) := by decide +kernel
theorem dL_isWhole_359 : decode cL_isWhole 359 = .ok (.iinc 6 1, 3) := by decide +kernel
theorem dL_isWhole_362 : decode cL_isWhole 362 = .ok (.goto (-26), 3) := by decide +kernel
theorem dL_isWhole_365 : decode cL_isWhole 365 = .ok (.iconst 0, 1) := by decide +kernel
theorem dL_isWhole_366 : decode cL_isWhole 366 = .ok (.istore 6, 2) := by decide +kernel
theorem dL_isWhole_368 : decode cL_isWhole 368 = .ok (.iconst 0, 1) := by decide +kernel
theorem dL_isWhole_369 : decode cL_isWhole 369 = .ok (.istore 7, 2) := by decide +kernel
theorem dL_isWhole_371 : decode cL_isWhole 371 = .ok (.iload 7, 2) := by decide +kernel
theorem dL_isWhole_373 : decode cL_isWhole 373 = .ok (.aload_n 1, 1) := by decide +kernel
theorem dL_isWhole_374 : decode cL_isWhole 374 = .ok (.iconst 0, 1) := by decide +kernel
theorem dL_isWhole_375 : decode cL_isWhole 375 = .ok (.iaload, 1) := by decide +kernel
theorem dL_isWhole_376 : decode cL_isWhole 376 = .ok (.if_icmp .ge 21, 3) := by decide +kernel
theorem dL_isWhole_379 : decode cL_isWhole 379 = .ok (.iload 6, 2) := by decide +kernel
theorem dL_isWhole_381 : decode cL_isWhole 381 = .ok (.aload_n 0, 1) := by decide +kernel
theorem dL_isWhole_382 : decode cL_isWhole 382 = .ok (.iload 7, 2) := by decide +kernel
theorem dL_isWhole_384 : decode cL_isWhole 384 = .ok (.iconst 0, 1) := by decide +kernel
theorem dL_isWhole_385 : decode cL_isWhole 385 = .ok (.invokestatic 98, 3) := by decide +kernel
theorem dL_isWhole_388 : decode cL_isWhole 388 = .ok (.iadd, 1) := by decide +kernel
theorem dL_isWhole_389 : decode cL_isWhole 389 = .ok (.istore 6, 2) := by decide +kernel
theorem dL_isWhole_391 : decode cL_isWhole 391 = .ok (.iinc 7 1, 3) := by decide +kernel
theorem dL_isWhole_394 : decode cL_isWhole 394 = .ok (.goto (-23), 3) := by decide +kernel
theorem dL_isWhole_397 : decode cL_isWhole 397 = .ok (.iconst 0, 1) := by decide +kernel
theorem dL_isWhole_398 : decode cL_isWhole 398 = .ok (.istore 7, 2) := by decide +kernel
theorem dL_isWhole_400 : decode cL_isWhole 400 = .ok (.iload 7, 2) := by decide +kernel
theorem dL_isWhole_402 : decode cL_isWhole 402 = .ok (.aload_n 1, 1) := by decide +kernel
theorem dL_isWhole_403 : decode cL_isWhole 403 = .ok (.iconst 2, 1) := by decide +kernel
theorem dL_isWhole_404 : decode cL_isWhole 404 = .ok (.iaload, 1) := by decide +kernel
theorem dL_isWhole_405 : decode cL_isWhole 405 = .ok (.if_icmp .ge 80, 3) := by decide +kernel
theorem dL_isWhole_408 : decode cL_isWhole 408 = .ok (.iload_n 2, 1) := by decide +kernel
theorem dL_isWhole_409 : decode cL_isWhole 409 = .ok (.ifCond .eq 76, 3) := by decide +kernel
theorem dL_isWhole_412 : decode cL_isWhole 412 = .ok (.aload_n 0, 1) := by decide +kernel
theorem dL_isWhole_413 : decode cL_isWhole 413 = .ok (.iload 7, 2) := by decide +kernel
theorem dL_isWhole_415 : decode cL_isWhole 415 = .ok (.iconst 3, 1) := by decide +kernel
theorem dL_isWhole_416 : decode cL_isWhole 416 = .ok (.invokestatic 96, 3) := by decide +kernel
theorem dL_isWhole_419 : decode cL_isWhole 419 = .ok (.istore 8, 2) := by decide +kernel
theorem dL_isWhole_421 : decode cL_isWhole 421 = .ok (.aload_n 0, 1) := by decide +kernel
theorem dL_isWhole_422 : decode cL_isWhole 422 = .ok (.iload 7, 2) := by decide +kernel
theorem dL_isWhole_424 : decode cL_isWhole 424 = .ok (.iconst 4, 1) := by decide +kernel
theorem dL_isWhole_425 : decode cL_isWhole 425 = .ok (.invokestatic 96, 3) := by decide +kernel
theorem dL_isWhole_428 : decode cL_isWhole 428 = .ok (.istore 9, 2) := by decide +kernel
theorem dL_isWhole_430 : decode cL_isWhole 430 = .ok (.iload 8, 2) := by decide +kernel
theorem dL_isWhole_432 : decode cL_isWhole 432 = .ok (.ifCond .lt 45, 3) := by decide +kernel
theorem dL_isWhole_435 : decode cL_isWhole 435 = .ok (.iload 9, 2) := by decide +kernel
theorem dL_isWhole_437 : decode cL_isWhole 437 = .ok (.ifCond .lt 40, 3) := by decide +kernel
theorem dL_isWhole_440 : decode cL_isWhole 440 = .ok (.aload_n 0, 1) := by decide +kernel
theorem dL_isWhole_441 : decode cL_isWhole 441 = .ok (.iload 7, 2) := by decide +kernel
theorem dL_isWhole_443 : decode cL_isWhole 443 = .ok (.iconst 0, 1) := by decide +kernel
theorem dL_isWhole_444 : decode cL_isWhole 444 = .ok (.invokestatic 96, 3) := by decide +kernel
theorem dL_isWhole_447 : decode cL_isWhole 447 = .ok (.ifCond .gt 26, 3) := by decide +kernel
theorem dL_isWhole_450 : decode cL_isWhole 450 = .ok (.iload 6, 2) := by decide +kernel
theorem dL_isWhole_452 : decode cL_isWhole 452 = .ok (.ifCond .eq 21, 3) := by decide +kernel
theorem dL_isWhole_455 : decode cL_isWhole 455 = .ok (.iconst 2, 1) := by decide +kernel
theorem dL_isWhole_456 : decode cL_isWhole 456 = .ok (.iload 8, 2) := by decide +kernel
theorem dL_isWhole_458 : decode cL_isWhole 458 = .ok (.imul, 1) := by decide +kernel
theorem dL_isWhole_459 : decode cL_isWhole 459 = .ok (.iload 6, 2) := by decide +kernel
theorem dL_isWhole_461 : decode cL_isWhole 461 = .ok (.if_icmp .gt 16, 3) := by decide +kernel
theorem dL_isWhole_464 : decode cL_isWhole 464 = .ok (.iconst 2, 1) := by decide +kernel
theorem dL_isWhole_465 : decode cL_isWhole 465 = .ok (.iload 9, 2) := by decide +kernel
theorem dL_isWhole_467 : decode cL_isWhole 467 = .ok (.imul, 1) := by decide +kernel
theorem dL_isWhole_468 : decode cL_isWhole 468 = .ok (.iload 6, 2) := by decide +kernel
theorem dL_isWhole_470 : decode cL_isWhole 470 = .ok (.if_icmp .ge 7, 3) := by decide +kernel
theorem dL_isWhole_473 : decode cL_isWhole 473 = .ok (.iconst 1, 1) := by decide +kernel
theorem dL_isWhole_474 : decode cL_isWhole 474 = .ok (.goto 4, 3) := by decide +kernel
theorem dL_isWhole_477 : decode cL_isWhole 477 = .ok (.iconst 0, 1) := by decide +kernel
theorem dL_isWhole_478 : decode cL_isWhole 478 = .ok (.istore_n 2, 1) := by decide +kernel
theorem dL_isWhole_479 : decode cL_isWhole 479 = .ok (.iinc 7 1, 3) := by decide +kernel
theorem dL_isWhole_482 : decode cL_isWhole 482 = .ok (.goto (-82), 3) := by decide +kernel
theorem dL_isWhole_485 : decode cL_isWhole 485 = .ok (.iload_n 2, 1) := by decide +kernel
theorem dL_isWhole_486 : decode cL_isWhole 486 = .ok (.ifCond .eq 18, 3) := by decide +kernel
theorem dL_isWhole_489 : decode cL_isWhole 489 = .ok (.iload_n 3, 1) := by decide +kernel
theorem dL_isWhole_490 : decode cL_isWhole 490 = .ok (.ifCond .gt 14, 3) := by decide +kernel
theorem dL_isWhole_493 : decode cL_isWhole 493 = .ok (.iload 5, 2) := by decide +kernel
theorem dL_isWhole_495 : decode cL_isWhole 495 = .ok (.iload 4, 2) := by decide +kernel
theorem dL_isWhole_497 : decode cL_isWhole 497 = .ok (.if_icmp .ne 7, 3) := by decide +kernel
theorem dL_isWhole_500 : decode cL_isWhole 500 = .ok (.iconst 1, 1) := by decide +kernel
theorem dL_isWhole_501 : decode cL_isWhole 501 = .ok (.goto 4, 3) := by decide +kernel
theorem dL_isWhole_504 : decode cL_isWhole 504 = .ok (.iconst 0, 1) := by decide +kernel
theorem dL_isWhole_505 : decode cL_isWhole 505 = .ok (.ireturn, 1) := by decide +kernel
theorem dL_law_0 : decode cL_law 0 = .ok (.new 8, 3) := by decide +kernel
theorem dL_law_3 : decode cL_law 3 = .ok (.dup, 1) := by decide +kernel
theorem dL_law_4 : decode cL_law 4 = .ok (.invokespecial 117, 3) := by decide +kernel
theorem dL_law_7 : decode cL_law 7 = .ok (.astore_n 1, 1) := by decide +kernel
theorem dL_law_8 : decode cL_law 8 = .ok (.new 8, 3) := by decide +kernel
theorem dL_law_11 : decode cL_law 11 = .ok (.dup, 1) := by decide +kernel
theorem dL_law_12 : decode cL_law 12 = .ok (.invokespecial 117, 3) := by decide +kernel
theorem dL_law_15 : decode cL_law 15 = .ok (.astore_n 2, 1) := by decide +kernel
theorem dL_law_16 : decode cL_law 16 = .ok (.iconst 3, 1) := by decide +kernel
theorem dL_law_17 : decode cL_law 17 = .ok (.newarray .int, 2) := by decide +kernel
theorem dL_law_19 : decode cL_law 19 = .ok (.astore_n 3, 1) := by decide +kernel
theorem dL_law_20 : decode cL_law 20 = .ok (.bipush 40, 2) := by decide +kernel
theorem dL_law_22 : decode cL_law 22 = .ok (.aload_n 0, 1) := by decide +kernel
theorem dL_law_23 : decode cL_law 23 = .ok (.iconst 0, 1) := by decide +kernel
theorem dL_law_24 : decode cL_law 24 = .ok (.invokestatic 118, 3) := by decide +kernel
theorem dL_law_27 : decode cL_law 27 = .ok (.bipush 31, 2) := by decide +kernel
theorem dL_law_29 : decode cL_law 29 = .ok (.irem, 1) := by decide +kernel
theorem dL_law_30 : decode cL_law 30 = .ok (.iadd, 1) := by decide +kernel
theorem dL_law_31 : decode cL_law 31 = .ok (.istore 4, 2) := by decide +kernel
theorem dL_law_33 : decode cL_law 33 = .ok (.iconst 1, 1) := by decide +kernel
theorem dL_law_34 : decode cL_law 34 = .ok (.istore 5, 2) := by decide +kernel
theorem dL_law_36 : decode cL_law 36 = .ok (.iconst 0, 1) := by decide +kernel
theorem dL_law_37 : decode cL_law 37 = .ok (.istore 6, 2) := by decide +kernel
theorem dL_law_39 : decode cL_law 39 = .ok (.iload 6, 2) := by decide +kernel
theorem dL_law_41 : decode cL_law 41 = .ok (.iload 4, 2) := by decide +kernel
theorem dL_law_43 : decode cL_law 43 = .ok (.if_icmp .ge 252, 3) := by decide +kernel
theorem dL_law_46 : decode cL_law 46 = .ok (.iload 5, 2) := by decide +kernel
theorem dL_law_48 : decode cL_law 48 = .ok (.ifCond .eq 247, 3) := by decide +kernel
theorem dL_law_51 : decode cL_law 51 = .ok (.aload_n 0, 1) := by decide +kernel
theorem dL_law_52 : decode cL_law 52 = .ok (.iconst 1, 1) := by decide +kernel
theorem dL_law_53 : decode cL_law 53 = .ok (.iload 6, 2) := by decide +kernel
theorem dL_law_55 : decode cL_law 55 = .ok (.iadd, 1) := by decide +kernel
theorem dL_law_56 : decode cL_law 56 = .ok (.invokestatic 118, 3) := by decide +kernel
theorem dL_law_59 : decode cL_law 59 = .ok (.istore 7, 2) := by decide +kernel
theorem dL_law_61 : decode cL_law 61 = .ok (.iload 6, 2) := by decide +kernel
theorem dL_law_63 : decode cL_law 63 = .ok (.iconst 3, 1) := by decide +kernel
theorem dL_law_64 : decode cL_law 64 = .ok (.if_icmp .ge 14, 3) := by decide +kernel
theorem dL_law_67 : decode cL_law 67 = .ok (.bipush 20, 2) := by decide +kernel
theorem dL_law_69 : decode cL_law 69 = .ok (.iload 7, 2) := by decide +kernel
theorem dL_law_71 : decode cL_law 71 = .ok (.bipush 20, 2) := by decide +kernel
theorem dL_law_73 : decode cL_law 73 = .ok (.idiv, 1) := by decide +kernel
theorem dL_law_74 : decode cL_law 74 = .ok (.imul, 1) := by decide +kernel
theorem dL_law_75 : decode cL_law 75 = .ok (.goto 25, 3) := by decide +kernel
theorem dL_law_78 : decode cL_law 78 = .ok (.iload 6, 2) := by decide +kernel
theorem dL_law_80 : decode cL_law 80 = .ok (.bipush 6, 2) := by decide +kernel
theorem dL_law_82 : decode cL_law 82 = .ok (.if_icmp .ge 16, 3) := by decide +kernel
theorem dL_law_85 : decode cL_law 85 = .ok (.bipush 20, 2) := by decide +kernel
theorem dL_law_87 : decode cL_law 87 = .ok (.iload 7, 2) := by decide +kernel
theorem dL_law_89 : decode cL_law 89 = .ok (.bipush 20, 2) := by decide +kernel
theorem dL_law_91 : decode cL_law 91 = .ok (.idiv, 1) := by decide +kernel
theorem dL_law_92 : decode cL_law 92 = .ok (.imul, 1) := by decide +kernel
theorem dL_law_93 : decode cL_law 93 = .ok (.iconst 1, 1) := by decide +kernel
theorem dL_law_94 : decode cL_law 94 = .ok (.iadd, 1) := by decide +kernel
theorem dL_law_95 : decode cL_law 95 = .ok (.goto 5, 3) := by decide +kernel
theorem dL_law_98 : decode cL_law 98 = .ok (.iload 7, 2) := by decide +kernel
theorem dL_law_100 : decode cL_law 100 = .ok (.istore 7, 2) := by decide +kernel
theorem dL_law_102 : decode cL_law 102 = .ok (.aload_n 1, 1) := by decide +kernel
theorem dL_law_103 : decode cL_law 103 = .ok (.aload_n 3, 1) := by decide +kernel
theorem dL_law_104 : decode cL_law 104 = .ok (.iload 7, 2) := by decide +kernel
theorem dL_law_106 : decode cL_law 106 = .ok (.invokestatic 122, 3) := by decide +kernel
theorem dL_law_109 : decode cL_law 109 = .ok (.istore 8, 2) := by decide +kernel
theorem dL_law_111 : decode cL_law 111 = .ok (.aload_n 2, 1) := by decide +kernel
theorem dL_law_112 : decode cL_law 112 = .ok (.aload_n 3, 1) := by decide +kernel
theorem dL_law_113 : decode cL_law 113 = .ok (.iload 7, 2) := by decide +kernel
theorem dL_law_115 : decode cL_law 115 = .ok (.sipush 9973, 3) := by decide +kernel
theorem dL_law_118 : decode cL_law 118 = .ok (.irem, 1) := by decide +kernel
theorem dL_law_119 : decode cL_law 119 = .ok (.invokestatic 126, 3) := by decide +kernel
theorem dL_law_122 : decode cL_law 122 = .ok (.ifCond .eq 19, 3) := by decide +kernel
theorem dL_law_125 : decode cL_law 125 = .ok (.aload_n 2, 1) := by decide +kernel
theorem dL_law_126 : decode cL_law 126 = .ok (.aload_n 3, 1) := by decide +kernel
theorem dL_law_127 : decode cL_law 127 = .ok (.iload 7, 2) := by decide +kernel
theorem dL_law_129 : decode cL_law 129 = .ok (.invokestatic 122, 3) := by decide +kernel
theorem dL_law_132 : decode cL_law 132 = .ok (.iload 8, 2) := by decide +kernel
theorem dL_law_134 : decode cL_law 134 = .ok (.if_icmp .ne 7, 3) := by decide +kernel
theorem dL_law_137 : decode cL_law 137 = .ok (.iconst 1, 1) := by decide +kernel
theorem dL_law_138 : decode cL_law 138 = .ok (.goto 4, 3) := by decide +kernel
theorem dL_law_141 : decode cL_law 141 = .ok (.iconst 0, 1) := by decide +kernel
theorem dL_law_142 : decode cL_law 142 = .ok (.istore 5, 2) := by decide +kernel
theorem dL_law_144 : decode cL_law 144 = .ok (.iload 7, 2) := by decide +kernel
theorem dL_law_146 : decode cL_law 146 = .ok (.bipush 20, 2) := by decide +kernel
theorem dL_law_148 : decode cL_law 148 = .ok (.irem, 1) := by decide +kernel
theorem dL_law_149 : decode cL_law 149 = .ok (.istore 9, 2) := by decide +kernel
theorem dL_law_151 : decode cL_law 151 = .ok (.iload 8, 2) := by decide +kernel
theorem dL_law_153 : decode cL_law 153 = .ok (.ifCond .lt 7, 3) := by decide +kernel
theorem dL_law_156 : decode cL_law 156 = .ok (.iconst 1, 1) := by decide +kernel
theorem dL_law_157 : decode cL_law 157 = .ok (.goto 4, 3) := by decide +kernel
theorem dL_law_160 : decode cL_law 160 = .ok (.iconst 0, 1) := by decide +kernel
theorem dL_law_161 : decode cL_law 161 = .ok (.istore 10, 2) := by decide +kernel
theorem dL_law_163 : decode cL_law 163 = .ok (.aload_n 3, 1) := by decide +kernel
theorem dL_law_164 : decode cL_law 164 = .ok (.iconst 0, 1) := by decide +kernel
theorem dL_law_165 : decode cL_law 165 = .ok (.dup2, 1) := by decide +kernel
theorem dL_law_166 : decode cL_law 166 = .ok (.iaload, 1) := by decide +kernel
theorem dL_law_167 : decode cL_law 167 = .ok (.iload 9, 2) := by decide +kernel
theorem dL_law_169 : decode cL_law 169 = .ok (.ifCond .ne 12, 3) := by decide +kernel
theorem dL_law_172 : decode cL_law 172 = .ok (.iload 10, 2) := by decide +kernel
theorem dL_law_174 : decode cL_law 174 = .ok (.ifCond .eq 7, 3) := by decide +kernel
theorem dL_law_177 : decode cL_law 177 = .ok (.iconst 1, 1) := by decide +kernel
theorem dL_law_178 : decode cL_law 178 = .ok (.goto 4, 3) := by decide +kernel
theorem dL_law_181 : decode cL_law 181 = .ok (.iconst 0, 1) := by decide +kernel
theorem dL_law_182 : decode cL_law 182 = .ok (.iadd, 1) := by decide +kernel
theorem dL_law_183 : decode cL_law 183 = .ok (.iastore, 1) := by decide +kernel
theorem dL_law_184 : decode cL_law 184 = .ok (.aload_n 3, 1) := by decide +kernel
theorem dL_law_185 : decode cL_law 185 = .ok (.iconst 1, 1) := by decide +kernel
theorem dL_law_186 : decode cL_law 186 = .ok (.dup2, 1) := by decide +kernel
theorem dL_law_187 : decode cL_law 187 = .ok (.iaload, 1) := by decide +kernel
theorem dL_law_188 : decode cL_law 188 = .ok (.iload 9, 2) := by decide +kernel
theorem dL_law_190 : decode cL_law 190 = .ok (.iconst 1, 1) := by decide +kernel
theorem dL_law_191 : decode cL_law 191 = .ok (.if_icmp .ne 12, 3) := by decide +kernel
theorem dL_law_194 : decode cL_law 194 = .ok (.iload 10, 2) := by decide +kernel
theorem dL_law_196 : decode cL_law 196 = .ok (.ifCond .eq 7, 3) := by decide +kernel
theorem dL_law_199 : decode cL_law 199 = .ok (.iconst 1, 1) := by decide +kernel
theorem dL_law_200 : decode cL_law 200 = .ok (.goto 4, 3) := by decide +kernel
theorem dL_law_203 : decode cL_law 203 = .ok (.iconst 0, 1) := by decide +kernel
theorem dL_law_204 : decode cL_law 204 = .ok (.iadd, 1) := by decide +kernel
theorem dL_law_205 : decode cL_law 205 = .ok (.iastore, 1) := by decide +kernel
theorem dL_law_206 : decode cL_law 206 = .ok (.aload_n 3, 1) := by decide +kernel
theorem dL_law_207 : decode cL_law 207 = .ok (.iconst 2, 1) := by decide +kernel
theorem dL_law_208 : decode cL_law 208 = .ok (.dup2, 1) := by decide +kernel
theorem dL_law_209 : decode cL_law 209 = .ok (.iaload, 1) := by decide +kernel
theorem dL_law_210 : decode cL_law 210 = .ok (.iload 9, 2) := by decide +kernel
theorem dL_law_212 : decode cL_law 212 = .ok (.iconst 5, 1) := by decide +kernel
theorem dL_law_213 : decode cL_law 213 = .ok (.if_icmp .eq 10, 3) := by decide +kernel
theorem dL_law_216 : decode cL_law 216 = .ok (.iload 9, 2) := by decide +kernel
theorem dL_law_218 : decode cL_law 218 = .ok (.bipush 6, 2) := by decide +kernel
theorem dL_law_220 : decode cL_law 220 = .ok (.if_icmp .ne 12, 3) := by decide +kernel
theorem dL_law_223 : decode cL_law 223 = .ok (.iload 10, 2) := by decide +kernel
theorem dL_law_225 : decode cL_law 225 = .ok (.ifCond .eq 7, 3) := by decide +kernel
theorem dL_law_228 : decode cL_law 228 = .ok (.iconst 1, 1) := by decide +kernel
theorem dL_law_229 : decode cL_law 229 = .ok (.goto 4, 3) := by decide +kernel
theorem dL_law_232 : decode cL_law 232 = .ok (.iconst 0, 1) := by decide +kernel
theorem dL_law_233 : decode cL_law 233 = .ok (.iadd, 1) := by decide +kernel
theorem dL_law_234 : decode cL_law 234 = .ok (.iastore, 1) := by decide +kernel
theorem dL_law_235 : decode cL_law 235 = .ok (.iload 5, 2) := by decide +kernel
theorem dL_law_237 : decode cL_law 237 = .ok (.ifCond .eq 49, 3) := by decide +kernel
theorem dL_law_240 : decode cL_law 240 = .ok (.aload_n 2, 1) := by decide +kernel
theorem dL_law_241 : decode cL_law 241 = .ok (.aload_n 3, 1) := by decide +kernel
theorem dL_law_242 : decode cL_law 242 = .ok (.iload 7, 2) := by decide +kernel
theorem dL_law_244 : decode cL_law 244 = .ok (.sipush 499, 3) := by decide +kernel
theorem dL_law_247 : decode cL_law 247 = .ok (.irem, 1) := by decide +kernel
theorem dL_law_248 : decode cL_law 248 = .ok (.invokestatic 126, 3) := by decide +kernel
theorem dL_law_251 : decode cL_law 251 = .ok (.ifCond .eq 35, 3) := by decide +kernel
theorem dL_law_254 : decode cL_law 254 = .ok (.aload_n 1, 1) := by decide +kernel
theorem dL_law_255 : decode cL_law 255 = .ok (.aload_n 2, 1) := by decide +kernel
theorem dL_law_256 : decode cL_law 256 = .ok (.aload_n 3, 1) := by decide +kernel
theorem dL_law_257 : decode cL_law 257 = .ok (.iload 7, 2) := by decide +kernel
theorem dL_law_259 : decode cL_law 259 = .ok (.iconst 3, 1) := by decide +kernel
theorem dL_law_260 : decode cL_law 260 = .ok (.idiv, 1) := by decide +kernel
theorem dL_law_261 : decode cL_law 261 = .ok (.invokestatic 130, 3) := by decide +kernel
theorem dL_law_264 : decode cL_law 264 = .ok (.ifCond .eq 22, 3) := by decide +kernel
theorem dL_law_267 : decode cL_law 267 = .ok (.iload 6, 2) := by decide +kernel
theorem dL_law_269 : decode cL_law 269 = .ok (.iconst 3, 1) := by decide +kernel
theorem dL_law_270 : decode cL_law 270 = .ok (.irem, 1) := by decide +kernel
theorem dL_law_271 : decode cL_law 271 = .ok (.ifCond .gt 11, 3) := by decide +kernel
theorem dL_law_274 : decode cL_law 274 = .ok (.aload_n 2, 1) := by decide +kernel
theorem dL_law_275 : decode cL_law 275 = .ok (.aload_n 3, 1) := by decide +kernel
theorem dL_law_276 : decode cL_law 276 = .ok (.invokestatic 134, 3) := by decide +kernel
theorem dL_law_279 : decode cL_law 279 = .ok (.ifCond .eq 7, 3) := by decide +kernel
theorem dL_law_282 : decode cL_law 282 = .ok (.iconst 1, 1) := by decide +kernel
theorem dL_law_283 : decode cL_law 283 = .ok (.goto 4, 3) := by decide +kernel
theorem dL_law_286 : decode cL_law 286 = .ok (.iconst 0, 1) := by decide +kernel
theorem dL_law_287 : decode cL_law 287 = .ok (.istore 5, 2) := by decide +kernel
theorem dL_law_289 : decode cL_law 289 = .ok (.iinc 6 1, 3) := by decide +kernel
theorem dL_law_292 : decode cL_law 292 = .ok (.goto (-253), 3) := by decide +kernel
theorem dL_law_295 : decode cL_law 295 = .ok (.iload 5, 2) := by decide +kernel
theorem dL_law_297 : decode cL_law 297 = .ok (.ifCond .eq 40, 3) := by decide +kernel
theorem dL_law_300 : decode cL_law 300 = .ok (.aload_n 1, 1) := by decide +kernel
theorem dL_law_301 : decode cL_law 301 = .ok (.aload_n 3, 1) := by decide +kernel
theorem dL_law_302 : decode cL_law 302 = .ok (.invokestatic 134, 3) := by decide +kernel
theorem dL_law_305 : decode cL_law 305 = .ok (.ifCond .eq 32, 3) := by decide +kernel
theorem dL_law_308 : decode cL_law 308 = .ok (.aload_n 2, 1) := by decide +kernel
theorem dL_law_309 : decode cL_law 309 = .ok (.aload_n 3, 1) := by decide +kernel
theorem dL_law_310 : decode cL_law 310 = .ok (.invokestatic 134, 3) := by decide +kernel
theorem dL_law_313 : decode cL_law 313 = .ok (.ifCond .eq 24, 3) := by decide +kernel
theorem dL_law_316 : decode cL_law 316 = .ok (.aload_n 1, 1) := by decide +kernel
theorem dL_law_317 : decode cL_law 317 = .ok (.aload_n 2, 1) := by decide +kernel
theorem dL_law_318 : decode cL_law 318 = .ok (.aload_n 3, 1) := by decide +kernel
theorem dL_law_319 : decode cL_law 319 = .ok (.aload_n 0, 1) := by decide +kernel
theorem dL_law_320 : decode cL_law 320 = .ok (.iconst 0, 1) := by decide +kernel
theorem dL_law_321 : decode cL_law 321 = .ok (.invokestatic 118, 3) := by decide +kernel
theorem dL_law_324 : decode cL_law 324 = .ok (.bipush 37, 2) := by decide +kernel
theorem dL_law_326 : decode cL_law 326 = .ok (.idiv, 1) := by decide +kernel
theorem dL_law_327 : decode cL_law 327 = .ok (.invokestatic 130, 3) := by decide +kernel
theorem dL_law_330 : decode cL_law 330 = .ok (.ifCond .eq 7, 3) := by decide +kernel
theorem dL_law_333 : decode cL_law 333 = .ok (.iconst 1, 1) := by decide +kernel
theorem dL_law_334 : decode cL_law 334 = .ok (.goto 4, 3) := by decide +kernel
theorem dL_law_337 : decode cL_law 337 = .ok (.iconst 0, 1) := by decide +kernel
theorem dL_law_338 : decode cL_law 338 = .ok (.ireturn, 1) := by decide +kernel
