theorem d_L_law_499 : decode code 499 = .ok (.iaload, 1) := by decide +kernel
theorem d_L_law_500 : decode code 500 = .ok (.i2l, 1) := by decide +kernel
theorem d_L_law_501 : decode code 501 = .ok (.ldc2_w 66, 3) := by decide +kernel
theorem d_L_law_504 : decode code 504 = .ok (.land, 1) := by decide +kernel
theorem d_L_law_505 : decode code 505 = .ok (.lor, 1) := by decide +kernel
theorem d_L_law_506 : decode code 506 = .ok (.invokevirtual 88, 3) := by decide +kernel
theorem d_L_law_509 : decode code 509 = .ok (.istore 6, 2) := by decide +kernel
theorem d_L_law_511 : decode code 511 = .ok (.aload_n 2, 1) := by decide +kernel
theorem d_L_law_512 : decode code 512 = .ok (.invokevirtual 74, 3) := by decide +kernel
theorem d_L_law_515 : decode code 515 = .ok (.iload 5, 2) := by decide +kernel
theorem d_L_law_517 : decode code 517 = .ok (.if_icmp .eq 5, 3) := by decide +kernel
theorem d_L_law_520 : decode code 520 = .ok (.iconst 0, 1) := by decide +kernel
theorem d_L_law_521 : decode code 521 = .ok (.ireturn, 1) := by decide +kernel
theorem d_L_law_522 : decode code 522 = .ok (.iload 5, 2) := by decide +kernel
theorem d_L_law_524 : decode code 524 = .ok (.ifCond .ne 15, 3) := by decide +kernel
theorem d_L_law_527 : decode code 527 = .ok (.aload_n 3, 1) := by decide +kernel
theorem d_L_law_528 : decode code 528 = .ok (.iconst 0, 1) := by decide +kernel
theorem d_L_law_529 : decode code 529 = .ok (.laload, 1) := by decide +kernel
theorem d_L_law_530 : decode code 530 = .ok (.iload 6, 2) := by decide +kernel
theorem d_L_law_532 : decode code 532 = .ok (.i2l, 1) := by decide +kernel
theorem d_L_law_533 : decode code 533 = .ok (.lcmp, 1) := by decide +kernel
theorem d_L_law_534 : decode code 534 = .ok (.ifCond .eq 5, 3) := by decide +kernel
theorem d_L_law_537 : decode code 537 = .ok (.iconst 0, 1) := by decide +kernel
theorem d_L_law_538 : decode code 538 = .ok (.ireturn, 1) := by decide +kernel
theorem d_L_law_539 : decode code 539 = .ok (.goto 563, 3) := by decide +kernel
theorem d_L_law_542 : decode code 542 = .ok (.aload_n 1, 1) := by decide +kernel
theorem d_L_law_543 : decode code 543 = .ok (.aload_n 3, 1) := by decide +kernel
theorem d_L_law_544 : decode code 544 = .ok (.invokestatic 89, 3) := by decide +kernel
theorem d_L_law_547 : decode code 547 = .ok (.istore 5, 2) := by decide +kernel
theorem d_L_law_549 : decode code 549 = .ok (.aload_n 2, 1) := by decide +kernel
theorem d_L_law_550 : decode code 550 = .ok (.invokevirtual 92, 3) := by decide +kernel
theorem d_L_law_553 : decode code 553 = .ok (.istore 6, 2) := by decide +kernel
theorem d_L_law_555 : decode code 555 = .ok (.aload_n 2, 1) := by decide +kernel
theorem d_L_law_556 : decode code 556 = .ok (.invokevirtual 74, 3) := by decide +kernel
theorem d_L_law_559 : decode code 559 = .ok (.iload 5, 2) := by decide +kernel
theorem d_L_law_561 : decode code 561 = .ok (.if_icmp .eq 5, 3) := by decide +kernel
theorem d_L_law_564 : decode code 564 = .ok (.iconst 0, 1) := by decide +kernel
theorem d_L_law_565 : decode code 565 = .ok (.ireturn, 1) := by decide +kernel
theorem d_L_law_566 : decode code 566 = .ok (.iload 5, 2) := by decide +kernel
theorem d_L_law_568 : decode code 568 = .ok (.ifCond .ne 15, 3) := by decide +kernel
theorem d_L_law_571 : decode code 571 = .ok (.aload_n 3, 1) := by decide +kernel
theorem d_L_law_572 : decode code 572 = .ok (.iconst 0, 1) := by decide +kernel
theorem d_L_law_573 : decode code 573 = .ok (.laload, 1) := by decide +kernel
theorem d_L_law_574 : decode code 574 = .ok (.iload 6, 2) := by decide +kernel
theorem d_L_law_576 : decode code 576 = .ok (.i2l, 1) := by decide +kernel
theorem d_L_law_577 : decode code 577 = .ok (.lcmp, 1) := by decide +kernel
theorem d_L_law_578 : decode code 578 = .ok (.ifCond .eq 5, 3) := by decide +kernel
theorem d_L_law_581 : decode code 581 = .ok (.iconst 0, 1) := by decide +kernel
theorem d_L_law_582 : decode code 582 = .ok (.ireturn, 1) := by decide +kernel
theorem d_L_law_583 : decode code 583 = .ok (.goto 519, 3) := by decide +kernel
theorem d_L_law_586 : decode code 586 = .ok (.aload_n 1, 1) := by decide +kernel
theorem d_L_law_587 : decode code 587 = .ok (.aload_n 0, 1) := by decide +kernel
theorem d_L_law_588 : decode code 588 = .ok (.iload 4, 2) := by decide +kernel
theorem d_L_law_590 : decode code 590 = .ok (.iconst 1, 1) := by decide +kernel
theorem d_L_law_591 : decode code 591 = .ok (.iadd, 1) := by decide +kernel
theorem d_L_law_592 : decode code 592 = .ok (.iaload, 1) := by decide +kernel
theorem d_L_law_593 : decode code 593 = .ok (.aload_n 3, 1) := by decide +kernel
theorem d_L_law_594 : decode code 594 = .ok (.invokestatic 93, 3) := by decide +kernel
theorem d_L_law_597 : decode code 597 = .ok (.istore 5, 2) := by decide +kernel
theorem d_L_law_599 : decode code 599 = .ok (.aload_n 2, 1) := by decide +kernel
