theorem dc_L_law_531 : decode bc_L_law 531 = .ok (.lcmp, 1) := by decide +kernel
theorem dc_L_law_532 : decode bc_L_law 532 = .ok (.ifCond .eq 5, 3) := by decide +kernel
theorem dc_L_law_535 : decode bc_L_law 535 = .ok (.iconst 0, 1) := by decide +kernel
theorem dc_L_law_536 : decode bc_L_law 536 = .ok (.ireturn, 1) := by decide +kernel
theorem dc_L_law_537 : decode bc_L_law 537 = .ok (.goto 712, 3) := by decide +kernel
theorem dc_L_law_540 : decode bc_L_law 540 = .ok (.aload_n 1, 1) := by decide +kernel
theorem dc_L_law_541 : decode bc_L_law 541 = .ok (.aload_n 0, 1) := by decide +kernel
theorem dc_L_law_542 : decode bc_L_law 542 = .ok (.iload 4, 2) := by decide +kernel
theorem dc_L_law_544 : decode bc_L_law 544 = .ok (.iconst 1, 1) := by decide +kernel
theorem dc_L_law_545 : decode bc_L_law 545 = .ok (.iadd, 1) := by decide +kernel
theorem dc_L_law_546 : decode bc_L_law 546 = .ok (.iaload, 1) := by decide +kernel
theorem dc_L_law_547 : decode bc_L_law 547 = .ok (.aload_n 0, 1) := by decide +kernel
theorem dc_L_law_548 : decode bc_L_law 548 = .ok (.iload 4, 2) := by decide +kernel
theorem dc_L_law_550 : decode bc_L_law 550 = .ok (.iconst 2, 1) := by decide +kernel
theorem dc_L_law_551 : decode bc_L_law 551 = .ok (.iadd, 1) := by decide +kernel
theorem dc_L_law_552 : decode bc_L_law 552 = .ok (.iaload, 1) := by decide +kernel
theorem dc_L_law_553 : decode bc_L_law 553 = .ok (.aload_n 3, 1) := by decide +kernel
theorem dc_L_law_554 : decode bc_L_law 554 = .ok (.invokestatic 107, 3) := by decide +kernel
theorem dc_L_law_557 : decode bc_L_law 557 = .ok (.istore 5, 2) := by decide +kernel
theorem dc_L_law_559 : decode bc_L_law 559 = .ok (.aload_n 2, 1) := by decide +kernel
theorem dc_L_law_560 : decode bc_L_law 560 = .ok (.aload_n 0, 1) := by decide +kernel
theorem dc_L_law_561 : decode bc_L_law 561 = .ok (.iload 4, 2) := by decide +kernel
theorem dc_L_law_563 : decode bc_L_law 563 = .ok (.iconst 1, 1) := by decide +kernel
theorem dc_L_law_564 : decode bc_L_law 564 = .ok (.iadd, 1) := by decide +kernel
theorem dc_L_law_565 : decode bc_L_law 565 = .ok (.iaload, 1) := by decide +kernel
theorem dc_L_law_566 : decode bc_L_law 566 = .ok (.aload_n 0, 1) := by decide +kernel
theorem dc_L_law_567 : decode bc_L_law 567 = .ok (.iload 4, 2) := by decide +kernel
theorem dc_L_law_569 : decode bc_L_law 569 = .ok (.iconst 2, 1) := by decide +kernel
theorem dc_L_law_570 : decode bc_L_law 570 = .ok (.iadd, 1) := by decide +kernel
theorem dc_L_law_571 : decode bc_L_law 571 = .ok (.iaload, 1) := by decide +kernel
theorem dc_L_law_572 : decode bc_L_law 572 = .ok (.invokevirtual 109, 3) := by decide +kernel
theorem dc_L_law_575 : decode bc_L_law 575 = .ok (.istore 6, 2) := by decide +kernel
theorem dc_L_law_577 : decode bc_L_law 577 = .ok (.aload_n 2, 1) := by decide +kernel
theorem dc_L_law_578 : decode bc_L_law 578 = .ok (.invokevirtual 83, 3) := by decide +kernel
theorem dc_L_law_581 : decode bc_L_law 581 = .ok (.iload 5, 2) := by decide +kernel
theorem dc_L_law_583 : decode bc_L_law 583 = .ok (.if_icmp .eq 5, 3) := by decide +kernel
theorem dc_L_law_586 : decode bc_L_law 586 = .ok (.iconst 0, 1) := by decide +kernel
theorem dc_L_law_587 : decode bc_L_law 587 = .ok (.ireturn, 1) := by decide +kernel
theorem dc_L_law_588 : decode bc_L_law 588 = .ok (.iload 5, 2) := by decide +kernel
theorem dc_L_law_590 : decode bc_L_law 590 = .ok (.ifCond .ne 15, 3) := by decide +kernel
theorem dc_L_law_593 : decode bc_L_law 593 = .ok (.aload_n 3, 1) := by decide +kernel
theorem dc_L_law_594 : decode bc_L_law 594 = .ok (.iconst 0, 1) := by decide +kernel
theorem dc_L_law_595 : decode bc_L_law 595 = .ok (.laload, 1) := by decide +kernel
theorem dc_L_law_596 : decode bc_L_law 596 = .ok (.iload 6, 2) := by decide +kernel
theorem dc_L_law_598 : decode bc_L_law 598 = .ok (.i2l, 1) := by decide +kernel
theorem dc_L_law_599 : decode bc_L_law 599 = .ok (.lcmp, 1) := by decide +kernel
theorem dc_L_law_600 : decode bc_L_law 600 = .ok (.ifCond .eq 5, 3) := by decide +kernel
theorem dc_L_law_603 : decode bc_L_law 603 = .ok (.iconst 0, 1) := by decide +kernel
theorem dc_L_law_604 : decode bc_L_law 604 = .ok (.ireturn, 1) := by decide +kernel
theorem dc_L_law_605 : decode bc_L_law 605 = .ok (.goto 644, 3) := by decide +kernel
theorem dc_L_law_608 : decode bc_L_law 608 = .ok (.aload_n 1, 1) := by decide +kernel
theorem dc_L_law_609 : decode bc_L_law 609 = .ok (.aload_n 0, 1) := by decide +kernel
theorem dc_L_law_610 : decode bc_L_law 610 = .ok (.iload 4, 2) := by decide +kernel
theorem dc_L_law_612 : decode bc_L_law 612 = .ok (.iconst 1, 1) := by decide +kernel
theorem dc_L_law_613 : decode bc_L_law 613 = .ok (.iadd, 1) := by decide +kernel
theorem dc_L_law_614 : decode bc_L_law 614 = .ok (.iaload, 1) := by decide +kernel
theorem dc_L_law_615 : decode bc_L_law 615 = .ok (.aload_n 3, 1) := by decide +kernel
theorem dc_L_law_616 : decode bc_L_law 616 = .ok (.invokestatic 110, 3) := by decide +kernel
theorem dc_L_law_619 : decode bc_L_law 619 = .ok (.istore 5, 2) := by decide +kernel
theorem dc_L_law_621 : decode bc_L_law 621 = .ok (.aload_n 2, 1) := by decide +kernel
theorem dc_L_law_622 : decode bc_L_law 622 = .ok (.aload_n 0, 1) := by decide +kernel
theorem dc_L_law_623 : decode bc_L_law 623 = .ok (.iload 4, 2) := by decide +kernel
theorem dc_L_law_625 : decode bc_L_law 625 = .ok (.iconst 1, 1) := by decide +kernel
theorem dc_L_law_626 : decode bc_L_law 626 = .ok (.iadd, 1) := by decide +kernel
theorem dc_L_law_627 : decode bc_L_law 627 = .ok (.iaload, 1) := by decide +kernel
theorem dc_L_law_628 : decode bc_L_law 628 = .ok (.invokevirtual 112, 3) := by decide +kernel
theorem dc_L_law_631 : decode bc_L_law 631 = .ok (.istore 6, 2) := by decide +kernel
theorem dc_L_law_633 : decode bc_L_law 633 = .ok (.aload_n 2, 1) := by decide +kernel
theorem dc_L_law_634 : decode bc_L_law 634 = .ok (.invokevirtual 83, 3) := by decide +kernel
theorem dc_L_law_637 : decode bc_L_law 637 = .ok (.iload 5, 2) := by decide +kernel
theorem dc_L_law_639 : decode bc_L_law 639 = .ok (.if_icmp .eq 5, 3) := by decide +kernel
theorem dc_L_law_642 : decode bc_L_law 642 = .ok (.iconst 0, 1) := by decide +kernel
theorem dc_L_law_643 : decode bc_L_law 643 = .ok (.ireturn, 1) := by decide +kernel
theorem dc_L_law_644 : decode bc_L_law 644 = .ok (.iload 5, 2) := by decide +kernel
theorem dc_L_law_646 : decode bc_L_law 646 = .ok (.ifCond .ne 15, 3) := by decide +kernel
theorem dc_L_law_649 : decode bc_L_law 649 = .ok (.aload_n 3, 1) := by decide +kernel
theorem dc_L_law_650 : decode bc_L_law 650 = .ok (.iconst 0, 1) := by decide +kernel
theorem dc_L_law_651 : decode bc_L_law 651 = .ok (.laload, 1) := by decide +kernel
theorem dc_L_law_652 : decode bc_L_law 652 = .ok (.iload 6, 2) := by decide +kernel
theorem dc_L_law_654 : decode bc_L_law 654 = .ok (.i2l, 1) := by decide +kernel
theorem dc_L_law_655 : decode bc_L_law 655 = .ok (.lcmp, 1) := by decide +kernel
theorem dc_L_law_656 : decode bc_L_law 656 = .ok (.ifCond .eq 5, 3) := by decide +kernel
theorem dc_L_law_659 : decode bc_L_law 659 = .ok (.iconst 0, 1) := by decide +kernel
theorem dc_L_law_660 : decode bc_L_law 660 = .ok (.ireturn, 1) := by decide +kernel
theorem dc_L_law_661 : decode bc_L_law 661 = .ok (.goto 588, 3) := by decide +kernel
theorem dc_L_law_664 : decode bc_L_law 664 = .ok (.aload_n 1, 1) := by decide +kernel
theorem dc_L_law_665 : decode bc_L_law 665 = .ok (.aload_n 0, 1) := by decide +kernel
theorem dc_L_law_666 : decode bc_L_law 666 = .ok (.iload 4, 2) := by decide +kernel
theorem dc_L_law_668 : decode bc_L_law 668 = .ok (.iconst 1, 1) := by decide +kernel
theorem dc_L_law_669 : decode bc_L_law 669 = .ok (.iadd, 1) := by decide +kernel
theorem dc_L_law_670 : decode bc_L_law 670 = .ok (.iaload, 1) := by decide +kernel
theorem dc_L_law_671 : decode bc_L_law 671 = .ok (.aload_n 0, 1) := by decide +kernel
theorem dc_L_law_672 : decode bc_L_law 672 = .ok (.iload 4, 2) := by decide +kernel
theorem dc_L_law_674 : decode bc_L_law 674 = .ok (.iconst 2, 1) := by decide +kernel
theorem dc_L_law_675 : decode bc_L_law 675 = .ok (.iadd, 1) := by decide +kernel
