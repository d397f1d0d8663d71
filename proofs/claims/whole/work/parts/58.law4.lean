theorem d_L_law_490 : decode code 490 = .ok (.ifCond .ne 15, 3) := by decide +kernel
theorem d_L_law_493 : decode code 493 = .ok (.aload_n 3, 1) := by decide +kernel
theorem d_L_law_494 : decode code 494 = .ok (.iconst 0, 1) := by decide +kernel
theorem d_L_law_495 : decode code 495 = .ok (.laload, 1) := by decide +kernel
theorem d_L_law_496 : decode code 496 = .ok (.iload 6, 2) := by decide +kernel
theorem d_L_law_498 : decode code 498 = .ok (.i2l, 1) := by decide +kernel
theorem d_L_law_499 : decode code 499 = .ok (.lcmp, 1) := by decide +kernel
theorem d_L_law_500 : decode code 500 = .ok (.ifCond .eq 5, 3) := by decide +kernel
theorem d_L_law_503 : decode code 503 = .ok (.iconst 0, 1) := by decide +kernel
theorem d_L_law_504 : decode code 504 = .ok (.ireturn, 1) := by decide +kernel
theorem d_L_law_505 : decode code 505 = .ok (.goto 815, 3) := by decide +kernel
theorem d_L_law_508 : decode code 508 = .ok (.aload_n 1, 1) := by decide +kernel
theorem d_L_law_509 : decode code 509 = .ok (.aload_n 0, 1) := by decide +kernel
theorem d_L_law_510 : decode code 510 = .ok (.iload 4, 2) := by decide +kernel
theorem d_L_law_512 : decode code 512 = .ok (.iconst 1, 1) := by decide +kernel
theorem d_L_law_513 : decode code 513 = .ok (.iadd, 1) := by decide +kernel
theorem d_L_law_514 : decode code 514 = .ok (.iaload, 1) := by decide +kernel
theorem d_L_law_515 : decode code 515 = .ok (.aload_n 0, 1) := by decide +kernel
theorem d_L_law_516 : decode code 516 = .ok (.iload 4, 2) := by decide +kernel
theorem d_L_law_518 : decode code 518 = .ok (.iconst 2, 1) := by decide +kernel
theorem d_L_law_519 : decode code 519 = .ok (.iadd, 1) := by decide +kernel
theorem d_L_law_520 : decode code 520 = .ok (.iaload, 1) := by decide +kernel
theorem d_L_law_521 : decode code 521 = .ok (.i2l, 1) := by decide +kernel
theorem d_L_law_522 : decode code 522 = .ok (.bipush 32, 2) := by decide +kernel
theorem d_L_law_524 : decode code 524 = .ok (.lshl, 1) := by decide +kernel
theorem d_L_law_525 : decode code 525 = .ok (.aload_n 0, 1) := by decide +kernel
theorem d_L_law_526 : decode code 526 = .ok (.iload 4, 2) := by decide +kernel
theorem d_L_law_528 : decode code 528 = .ok (.iconst 3, 1) := by decide +kernel
theorem d_L_law_529 : decode code 529 = .ok (.iadd, 1) := by decide +kernel
theorem d_L_law_530 : decode code 530 = .ok (.iaload, 1) := by decide +kernel
theorem d_L_law_531 : decode code 531 = .ok (.i2l, 1) := by decide +kernel
theorem d_L_law_532 : decode code 532 = .ok (.ldc2_w 67, 3) := by decide +kernel
theorem d_L_law_535 : decode code 535 = .ok (.land, 1) := by decide +kernel
theorem d_L_law_536 : decode code 536 = .ok (.lor, 1) := by decide +kernel
theorem d_L_law_537 : decode code 537 = .ok (.aload_n 3, 1) := by decide +kernel
theorem d_L_law_538 : decode code 538 = .ok (.invokestatic 92, 3) := by decide +kernel
theorem d_L_law_541 : decode code 541 = .ok (.istore 5, 2) := by decide +kernel
theorem d_L_law_543 : decode code 543 = .ok (.aload_n 2, 1) := by decide +kernel
theorem d_L_law_544 : decode code 544 = .ok (.aload_n 0, 1) := by decide +kernel
theorem d_L_law_545 : decode code 545 = .ok (.iload 4, 2) := by decide +kernel
theorem d_L_law_547 : decode code 547 = .ok (.iconst 1, 1) := by decide +kernel
theorem d_L_law_548 : decode code 548 = .ok (.iadd, 1) := by decide +kernel
theorem d_L_law_549 : decode code 549 = .ok (.iaload, 1) := by decide +kernel
theorem d_L_law_550 : decode code 550 = .ok (.aload_n 0, 1) := by decide +kernel
theorem d_L_law_551 : decode code 551 = .ok (.iload 4, 2) := by decide +kernel
theorem d_L_law_553 : decode code 553 = .ok (.iconst 2, 1) := by decide +kernel
theorem d_L_law_554 : decode code 554 = .ok (.iadd, 1) := by decide +kernel
theorem d_L_law_555 : decode code 555 = .ok (.iaload, 1) := by decide +kernel
theorem d_L_law_556 : decode code 556 = .ok (.i2l, 1) := by decide +kernel
theorem d_L_law_557 : decode code 557 = .ok (.bipush 32, 2) := by decide +kernel
theorem d_L_law_559 : decode code 559 = .ok (.lshl, 1) := by decide +kernel
theorem d_L_law_560 : decode code 560 = .ok (.aload_n 0, 1) := by decide +kernel
theorem d_L_law_561 : decode code 561 = .ok (.iload 4, 2) := by decide +kernel
theorem d_L_law_563 : decode code 563 = .ok (.iconst 3, 1) := by decide +kernel
theorem d_L_law_564 : decode code 564 = .ok (.iadd, 1) := by decide +kernel
theorem d_L_law_565 : decode code 565 = .ok (.iaload, 1) := by decide +kernel
theorem d_L_law_566 : decode code 566 = .ok (.i2l, 1) := by decide +kernel
theorem d_L_law_567 : decode code 567 = .ok (.ldc2_w 67, 3) := by decide +kernel
theorem d_L_law_570 : decode code 570 = .ok (.land, 1) := by decide +kernel
theorem d_L_law_571 : decode code 571 = .ok (.lor, 1) := by decide +kernel
theorem d_L_law_572 : decode code 572 = .ok (.invokevirtual 94, 3) := by decide +kernel
theorem d_L_law_575 : decode code 575 = .ok (.istore 6, 2) := by decide +kernel
theorem d_L_law_577 : decode code 577 = .ok (.aload_n 2, 1) := by decide +kernel
theorem d_L_law_578 : decode code 578 = .ok (.invokevirtual 80, 3) := by decide +kernel
theorem d_L_law_581 : decode code 581 = .ok (.iload 5, 2) := by decide +kernel
theorem d_L_law_583 : decode code 583 = .ok (.if_icmp .eq 5, 3) := by decide +kernel
theorem d_L_law_586 : decode code 586 = .ok (.iconst 0, 1) := by decide +kernel
theorem d_L_law_587 : decode code 587 = .ok (.ireturn, 1) := by decide +kernel
theorem d_L_law_588 : decode code 588 = .ok (.iload 5, 2) := by decide +kernel
theorem d_L_law_590 : decode code 590 = .ok (.ifCond .ne 15, 3) := by decide +kernel
theorem d_L_law_593 : decode code 593 = .ok (.aload_n 3, 1) := by decide +kernel
theorem d_L_law_594 : decode code 594 = .ok (.iconst 0, 1) := by decide +kernel
theorem d_L_law_595 : decode code 595 = .ok (.laload, 1) := by decide +kernel
theorem d_L_law_596 : decode code 596 = .ok (.iload 6, 2) := by decide +kernel
theorem d_L_law_598 : decode code 598 = .ok (.i2l, 1) := by decide +kernel
theorem d_L_law_599 : decode code 599 = .ok (.lcmp, 1) := by decide +kernel
theorem d_L_law_600 : decode code 600 = .ok (.ifCond .eq 5, 3) := by decide +kernel
theorem d_L_law_603 : decode code 603 = .ok (.iconst 0, 1) := by decide +kernel
theorem d_L_law_604 : decode code 604 = .ok (.ireturn, 1) := by decide +kernel
theorem d_L_law_605 : decode code 605 = .ok (.goto 715, 3) := by decide +kernel
theorem d_L_law_608 : decode code 608 = .ok (.aload_n 1, 1) := by decide +kernel
theorem d_L_law_609 : decode code 609 = .ok (.aload_n 0, 1) := by decide +kernel
theorem d_L_law_610 : decode code 610 = .ok (.iload 4, 2) := by decide +kernel
theorem d_L_law_612 : decode code 612 = .ok (.iconst 1, 1) := by decide +kernel
theorem d_L_law_613 : decode code 613 = .ok (.iadd, 1) := by decide +kernel
theorem d_L_law_614 : decode code 614 = .ok (.iaload, 1) := by decide +kernel
theorem d_L_law_615 : decode code 615 = .ok (.aload_n 0, 1) := by decide +kernel
theorem d_L_law_616 : decode code 616 = .ok (.iload 4, 2) := by decide +kernel
theorem d_L_law_618 : decode code 618 = .ok (.iconst 2, 1) := by decide +kernel
theorem d_L_law_619 : decode code 619 = .ok (.iadd, 1) := by decide +kernel
theorem d_L_law_620 : decode code 620 = .ok (.iaload, 1) := by decide +kernel
theorem d_L_law_621 : decode code 621 = .ok (.i2l, 1) := by decide +kernel
theorem d_L_law_622 : decode code 622 = .ok (.bipush 32, 2) := by decide +kernel
theorem d_L_law_624 : decode code 624 = .ok (.lshl, 1) := by decide +kernel
theorem d_L_law_625 : decode code 625 = .ok (.aload_n 0, 1) := by decide +kernel
theorem d_L_law_626 : decode code 626 = .ok (.iload 4, 2) := by decide +kernel
theorem d_L_law_628 : decode code 628 = .ok (.iconst 3, 1) := by decide +kernel
theorem d_L_law_629 : decode code 629 = .ok (.iadd, 1) := by decide +kernel
theorem d_L_law_630 : decode code 630 = .ok (.iaload, 1) := by decide +kernel
theorem d_L_law_631 : decode code 631 = .ok (.i2l, 1) := by decide +kernel
