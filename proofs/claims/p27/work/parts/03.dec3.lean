theorem dL_lay_463 : decode cL_lay 463 = .ok (.iload 16, 2) := by decide +kernel
theorem dL_lay_465 : decode cL_lay 465 = .ok (.aload 5, 2) := by decide +kernel
theorem dL_lay_467 : decode cL_lay 467 = .ok (.iload 22, 2) := by decide +kernel
theorem dL_lay_469 : decode cL_lay 469 = .ok (.iaload, 1) := by decide +kernel
theorem dL_lay_470 : decode cL_lay 470 = .ok (.isub, 1) := by decide +kernel
theorem dL_lay_471 : decode cL_lay 471 = .ok (.istore 16, 2) := by decide +kernel
theorem dL_lay_473 : decode cL_lay 473 = .ok (.iinc 22 1, 3) := by decide +kernel
theorem dL_lay_476 : decode cL_lay 476 = .ok (.goto (-108), 3) := by decide +kernel
theorem dL_lay_479 : decode cL_lay 479 = .ok (.iload 18, 2) := by decide +kernel
theorem dL_lay_481 : decode cL_lay 481 = .ok (.iload 17, 2) := by decide +kernel
theorem dL_lay_483 : decode cL_lay 483 = .ok (.if_icmp .gt 14, 3) := by decide +kernel
theorem dL_lay_486 : decode cL_lay 486 = .ok (.iload 16, 2) := by decide +kernel
theorem dL_lay_488 : decode cL_lay 488 = .ok (.iload 19, 2) := by decide +kernel
theorem dL_lay_490 : decode cL_lay 490 = .ok (.iadd, 1) := by decide +kernel
theorem dL_lay_491 : decode cL_lay 491 = .ok (.sipush 150, 3) := by decide +kernel
theorem dL_lay_494 : decode cL_lay 494 = .ok (.if_icmp .le 5, 3) := by decide +kernel
theorem dL_lay_497 : decode cL_lay 497 = .ok (.iconst (-1), 1) := by decide +kernel
theorem dL_lay_498 : decode cL_lay 498 = .ok (.ireturn, 1) := by decide +kernel
theorem dL_lay_499 : decode cL_lay 499 = .ok (.iconst 0, 1) := by decide +kernel
theorem dL_lay_500 : decode cL_lay 500 = .ok (.istore 22, 2) := by decide +kernel
theorem dL_lay_502 : decode cL_lay 502 = .ok (.iload 22, 2) := by decide +kernel
theorem dL_lay_504 : decode cL_lay 504 = .ok (.bipush 60, 2) := by decide +kernel
theorem dL_lay_506 : decode cL_lay 506 = .ok (.if_icmp .ge 34, 3) := by decide +kernel
theorem dL_lay_509 : decode cL_lay 509 = .ok (.aload 6, 2) := by decide +kernel
theorem dL_lay_511 : decode cL_lay 511 = .ok (.iload 22, 2) := by decide +kernel
theorem dL_lay_513 : decode cL_lay 513 = .ok (.aload 15, 2) := by decide +kernel
theorem dL_lay_515 : decode cL_lay 515 = .ok (.iload 22, 2) := by decide +kernel
theorem dL_lay_517 : decode cL_lay 517 = .ok (.iaload, 1) := by decide +kernel
theorem dL_lay_518 : decode cL_lay 518 = .ok (.iastore, 1) := by decide +kernel
theorem dL_lay_519 : decode cL_lay 519 = .ok (.aload 20, 2) := by decide +kernel
theorem dL_lay_521 : decode cL_lay 521 = .ok (.iload 22, 2) := by decide +kernel
theorem dL_lay_523 : decode cL_lay 523 = .ok (.iaload, 1) := by decide +kernel
theorem dL_lay_524 : decode cL_lay 524 = .ok (.iconst 1, 1) := by decide +kernel
theorem dL_lay_525 : decode cL_lay 525 = .ok (.if_icmp .ne 9, 3) := by decide +kernel
theorem dL_lay_528 : decode cL_lay 528 = .ok (.aload 5, 2) := by decide +kernel
theorem dL_lay_530 : decode cL_lay 530 = .ok (.iload 22, 2) := by decide +kernel
theorem dL_lay_532 : decode cL_lay 532 = .ok (.iconst 0, 1) := by decide +kernel
theorem dL_lay_533 : decode cL_lay 533 = .ok (.iastore, 1) := by decide +kernel
theorem dL_lay_534 : decode cL_lay 534 = .ok (.iinc 22 1, 3) := by decide +kernel
theorem dL_lay_537 : decode cL_lay 537 = .ok (.goto (-35), 3) := by decide +kernel
theorem dL_lay_540 : decode cL_lay 540 = .ok (.aload_n 0, 1) := by decide +kernel
theorem dL_lay_541 : decode cL_lay 541 = .ok (.bipush 11, 2) := by decide +kernel
theorem dL_lay_543 : decode cL_lay 543 = .ok (.dup2, 1) := by decide +kernel
theorem dL_lay_544 : decode cL_lay 544 = .ok (.iaload, 1) := by decide +kernel
theorem dL_lay_545 : decode cL_lay 545 = .ok (.iload 21, 2) := by decide +kernel
theorem dL_lay_547 : decode cL_lay 547 = .ok (.iadd, 1) := by decide +kernel
theorem dL_lay_548 : decode cL_lay 548 = .ok (.iastore, 1) := by decide +kernel
theorem dL_lay_549 : decode cL_lay 549 = .ok (.aload_n 0, 1) := by decide +kernel
theorem dL_lay_550 : decode cL_lay 550 = .ok (.iload 7, 2) := by decide +kernel
theorem dL_lay_552 : decode cL_lay 552 = .ok (.iload 9, 2) := by decide +kernel
theorem dL_lay_554 : decode cL_lay 554 = .ok (.iastore, 1) := by decide +kernel
theorem dL_lay_555 : decode cL_lay 555 = .ok (.iconst 0, 1) := by decide +kernel
theorem dL_lay_556 : decode cL_lay 556 = .ok (.istore 22, 2) := by decide +kernel
theorem dL_lay_558 : decode cL_lay 558 = .ok (.iconst 0, 1) := by decide +kernel
theorem dL_lay_559 : decode cL_lay 559 = .ok (.istore 23, 2) := by decide +kernel
theorem dL_lay_561 : decode cL_lay 561 = .ok (.iload 23, 2) := by decide +kernel
theorem dL_lay_563 : decode cL_lay 563 = .ok (.iload 13, 2) := by decide +kernel
theorem dL_lay_565 : decode cL_lay 565 = .ok (.if_icmp .ge 171, 3) := by decide +kernel
theorem dL_lay_568 : decode cL_lay 568 = .ok (.aload 4, 2) := by decide +kernel
theorem dL_lay_570 : decode cL_lay 570 = .ok (.aload 5, 2) := by decide +kernel
theorem dL_lay_572 : decode cL_lay 572 = .ok (.aload 10, 2) := by decide +kernel
theorem dL_lay_574 : decode cL_lay 574 = .ok (.iload 23, 2) := by decide +kernel
theorem dL_lay_576 : decode cL_lay 576 = .ok (.laload, 1) := by decide +kernel
theorem dL_lay_577 : decode cL_lay 577 = .ok (.aload 11, 2) := by decide +kernel
theorem dL_lay_579 : decode cL_lay 579 = .ok (.iload 23, 2) := by decide +kernel
theorem dL_lay_581 : decode cL_lay 581 = .ok (.iaload, 1) := by decide +kernel
theorem dL_lay_582 : decode cL_lay 582 = .ok (.invokestatic 16, 3) := by decide +kernel
theorem dL_lay_585 : decode cL_lay 585 = .ok (.istore 24, 2) := by decide +kernel
theorem dL_lay_587 : decode cL_lay 587 = .ok (.iload 24, 2) := by decide +kernel
theorem dL_lay_589 : decode cL_lay 589 = .ok (.ifCond .ge 54, 3) := by decide +kernel
theorem dL_lay_592 : decode cL_lay 592 = .ok (.iconst 0, 1) := by decide +kernel
theorem dL_lay_593 : decode cL_lay 593 = .ok (.istore 24, 2) := by decide +kernel
theorem dL_lay_595 : decode cL_lay 595 = .ok (.aload 5, 2) := by decide +kernel
theorem dL_lay_597 : decode cL_lay 597 = .ok (.iload 24, 2) := by decide +kernel
theorem dL_lay_599 : decode cL_lay 599 = .ok (.iaload, 1) := by decide +kernel
theorem dL_lay_600 : decode cL_lay 600 = .ok (.ifCond .le 9, 3) := by decide +kernel
theorem dL_lay_603 : decode cL_lay 603 = .ok (.iinc 24 1, 3) := by decide +kernel
theorem dL_lay_606 : decode cL_lay 606 = .ok (.goto (-11), 3) := by decide +kernel
theorem dL_lay_609 : decode cL_lay 609 = .ok (.aload 5, 2) := by decide +kernel
theorem dL_lay_611 : decode cL_lay 611 = .ok (.iload 24, 2) := by decide +kernel
theorem dL_lay_613 : decode cL_lay 613 = .ok (.aload 11, 2) := by decide +kernel
theorem dL_lay_615 : decode cL_lay 615 = .ok (.iload 23, 2) := by decide +kernel
theorem dL_lay_617 : decode cL_lay 617 = .ok (.iaload, 1) := by decide +kernel
theorem dL_lay_618 : decode cL_lay 618 = .ok (.iastore, 1) := by decide +kernel
theorem dL_lay_619 : decode cL_lay 619 = .ok (.aload 4, 2) := by decide +kernel
theorem dL_lay_621 : decode cL_lay 621 = .ok (.iload 24, 2) := by decide +kernel
theorem dL_lay_623 : decode cL_lay 623 = .ok (.aload 10, 2) := by decide +kernel
theorem dL_lay_625 : decode cL_lay 625 = .ok (.iload 23, 2) := by decide +kernel
theorem dL_lay_627 : decode cL_lay 627 = .ok (.laload, 1) := by decide +kernel
theorem dL_lay_628 : decode cL_lay 628 = .ok (.lastore, 1) := by decide +kernel
theorem dL_lay_629 : decode cL_lay 629 = .ok (.aload 6, 2) := by decide +kernel
theorem dL_lay_631 : decode cL_lay 631 = .ok (.iload 24, 2) := by decide +kernel
theorem dL_lay_633 : decode cL_lay 633 = .ok (.iconst 0, 1) := by decide +kernel
theorem dL_lay_634 : decode cL_lay 634 = .ok (.iastore, 1) := by decide +kernel
theorem dL_lay_635 : decode cL_lay 635 = .ok (.aload_n 0, 1) := by decide +kernel
theorem dL_lay_636 : decode cL_lay 636 = .ok (.bipush 10, 2) := by decide +kernel
theorem dL_lay_638 : decode cL_lay 638 = .ok (.dup2, 1) := by decide +kernel
theorem dL_lay_639 : decode cL_lay 639 = .ok (.iaload, 1) := by decide +kernel
theorem dL_lay_640 : decode cL_lay 640 = .ok (.iconst 1, 1) := by decide +kernel
theorem dL_lay_641 : decode cL_lay 641 = .ok (.iadd, 1) := by decide +kernel
theorem dL_lay_642 : decode cL_lay 642 = .ok (.iastore, 1) := by decide +kernel
theorem dL_lay_643 : decode cL_lay 643 = .ok (.aload 6, 2) := by decide +kernel
theorem dL_lay_645 : decode cL_lay 645 = .ok (.iload 24, 2) := by decide +kernel
theorem dL_lay_647 : decode cL_lay 647 = .ok (.dup2, 1) := by decide +kernel
theorem dL_lay_648 : decode cL_lay 648 = .ok (.iaload, 1) := by decide +kernel
theorem dL_lay_649 : decode cL_lay 649 = .ok (.iconst 1, 1) := by decide +kernel
theorem dL_lay_650 : decode cL_lay 650 = .ok (.iadd, 1) := by decide +kernel
theorem dL_lay_651 : decode cL_lay 651 = .ok (.iastore, 1) := by decide +kernel
theorem dL_lay_652 : decode cL_lay 652 = .ok (.iconst 1, 1) := by decide +kernel
theorem dL_lay_653 : decode cL_lay 653 = .ok (.istore 25, 2) := by decide +kernel
theorem dL_lay_655 : decode cL_lay 655 = .ok (.iload 25, 2) := by decide +kernel
theorem dL_lay_657 : decode cL_lay 657 = .ok (.aload 11, 2) := by decide +kernel
theorem dL_lay_659 : decode cL_lay 659 = .ok (.iload 23, 2) := by decide +kernel
theorem dL_lay_661 : decode cL_lay 661 = .ok (.iaload, 1) := by decide +kernel
theorem dL_lay_662 : decode cL_lay 662 = .ok (.if_icmp .gt 68, 3) := by decide +kernel
theorem dL_lay_665 : decode cL_lay 665 = .ok (.aload_n 1, 1) := by decide +kernel
theorem dL_lay_666 : decode cL_lay 666 = .ok (.bipush 16, 2) := by decide +kernel
theorem dL_lay_668 : decode cL_lay 668 = .ok (.iload 7, 2) := by decide +kernel
theorem dL_lay_670 : decode cL_lay 670 = .ok (.imul, 1) := by decide +kernel
theorem dL_lay_671 : decode cL_lay 671 = .ok (.iload 22, 2) := by decide +kernel
theorem dL_lay_673 : decode cL_lay 673 = .ok (.iadd, 1) := by decide +kernel
theorem dL_lay_674 : decode cL_lay 674 = .ok (.aload 8, 2) := by decide +kernel
theorem dL_lay_676 : decode cL_lay 676 = .ok (.iload 22, 2) := by decide +kernel
theorem dL_lay_678 : decode cL_lay 678 = .ok (.iaload, 1) := by decide +kernel
theorem dL_lay_679 : decode cL_lay 679 = .ok (.iastore, 1) := by decide +kernel
theorem dL_lay_680 : decode cL_lay 680 = .ok (.aload_n 2, 1) := by decide +kernel
theorem dL_lay_681 : decode cL_lay 681 = .ok (.bipush 16, 2) := by decide +kernel
theorem dL_lay_683 : decode cL_lay 683 = .ok (.iload 7, 2) := by decide +kernel
theorem dL_lay_685 : decode cL_lay 685 = .ok (.imul, 1) := by decide +kernel
theorem dL_lay_686 : decode cL_lay 686 = .ok (.iload 22, 2) := by decide +kernel
theorem dL_lay_688 : decode cL_lay 688 = .ok (.iadd, 1) := by decide +kernel
theorem dL_lay_689 : decode cL_lay 689 = .ok (.iload 25, 2) := by decide +kernel
theorem dL_lay_691 : decode cL_lay 691 = .ok (.aload 11, 2) := by decide +kernel
theorem dL_lay_693 : decode cL_lay 693 = .ok (.iload 23, 2) := by decide +kernel
theorem dL_lay_695 : decode cL_lay 695 = .ok (.iaload, 1) := by decide +kernel
theorem dL_lay_696 : decode cL_lay 696 = .ok (.if_icmp .ne 11, 3) := by decide +kernel
theorem dL_lay_699 : decode cL_lay 699 = .ok (.aload 12, 2) := by decide +kernel
theorem dL_lay_701 : decode cL_lay 701 = .ok (.iload 23, 2) := by decide +kernel
theorem dL_lay_703 : decode cL_lay 703 = .ok (.iaload, 1) := by decide +kernel
theorem dL_lay_704 : decode cL_lay 704 = .ok (.goto 4, 3) := by decide +kernel
theorem dL_lay_707 : decode cL_lay 707 = .ok (.iconst 0, 1) := by decide +kernel
theorem dL_lay_708 : decode cL_lay 708 = .ok (.iastore, 1) := by decide +kernel
theorem dL_lay_709 : decode cL_lay 709 = .ok (.aload_n 3, 1) := by decide +kernel
theorem dL_lay_710 : decode cL_lay 710 = .ok (.bipush 16, 2) := by decide +kernel
theorem dL_lay_712 : decode cL_lay 712 = .ok (.iload 7, 2) := by decide +kernel
theorem dL_lay_714 : decode cL_lay 714 = .ok (.imul, 1) := by decide +kernel
theorem dL_lay_715 : decode cL_lay 715 = .ok (.iload 22, 2) := by decide +kernel
theorem dL_lay_717 : decode cL_lay 717 = .ok (.iadd, 1) := by decide +kernel
theorem dL_lay_718 : decode cL_lay 718 = .ok (.iload 24, 2) := by decide +kernel
theorem dL_lay_720 : decode cL_lay 720 = .ok (.iastore, 1) := by decide +kernel
theorem dL_lay_721 : decode cL_lay 721 = .ok (.iinc 25 1, 3) := by decide +kernel
theorem dL_lay_724 : decode cL_lay 724 = .ok (.iinc 22 1, 3) := by decide +kernel
theorem dL_lay_727 : decode cL_lay 727 = .ok (.goto (-72), 3) := by decide +kernel
theorem dL_lay_730 : decode cL_lay 730 = .ok (.iinc 23 1, 3) := by decide +kernel
theorem dL_lay_733 : decode cL_lay 733 = .ok (.goto (-172), 3) := by decide +kernel
theorem dL_lay_736 : decode cL_lay 736 = .ok (.iload 13, 2) := by decide +kernel
theorem dL_lay_738 : decode cL_lay 738 = .ok (.ireturn, 1) := by decide +kernel
theorem dL_act_0 : decode cL_act 0 = .ok (.iload_n 1, 1) := by decide +kernel
theorem dL_act_1 : decode cL_act 1 = .ok (.bipush 20, 2) := by decide +kernel
theorem dL_act_3 : decode cL_act 3 = .ok (.ishr, 1) := by decide +kernel
theorem dL_act_4 : decode cL_act 4 = .ok (.bipush 14, 2) := by decide +kernel
theorem dL_act_6 : decode cL_act 6 = .ok (.invokestatic 20, 3) := by decide +kernel
theorem dL_act_9 : decode cL_act 9 = .ok (.istore 10, 2) := by decide +kernel
theorem dL_act_11 : decode cL_act 11 = .ok (.iload_n 2, 1) := by decide +kernel
theorem dL_act_12 : decode cL_act 12 = .ok (.iconst 4, 1) := by decide +kernel
theorem dL_act_13 : decode cL_act 13 = .ok (.invokestatic 20, 3) := by decide +kernel
theorem dL_act_16 : decode cL_act 16 = .ok (.istore 11, 2) := by decide +kernel
theorem dL_act_18 : decode cL_act 18 = .ok (.bipush 16, 2) := by decide +kernel
theorem dL_act_20 : decode cL_act 20 = .ok (.newarray .int, 2) := by decide +kernel
theorem dL_act_22 : decode cL_act 22 = .ok (.astore 12, 2) := by decide +kernel
theorem dL_act_24 : decode cL_act 24 = .ok (.iconst 0, 1) := by decide +kernel
theorem dL_act_25 : decode cL_act 25 = .ok (.istore 13, 2) := by decide +kernel
theorem dL_act_27 : decode cL_act 27 = .ok (.iconst 0, 1) := by decide +kernel
theorem dL_act_28 : decode cL_act 28 = .ok (.istore 14, 2) := by decide +kernel
theorem dL_act_30 : decode cL_act 30 = .ok (.iload 10, 2) := by decide +kernel
theorem dL_act_32 : decode cL_act 32 = .ok (.bipush 6, 2) := by decide +kernel
theorem dL_act_34 : decode cL_act 34 = .ok (.if_icmp .ge 188, 3) := by decide +kernel
theorem dL_act_37 : decode cL_act 37 = .ok (.iconst 1, 1) := by decide +kernel
theorem dL_act_38 : decode cL_act 38 = .ok (.iload_n 2, 1) := by decide +kernel
theorem dL_act_39 : decode cL_act 39 = .ok (.iconst 2, 1) := by decide +kernel
theorem dL_act_40 : decode cL_act 40 = .ok (.ishr, 1) := by decide +kernel
theorem dL_act_41 : decode cL_act 41 = .ok (.bipush 16, 2) := by decide +kernel
theorem dL_act_43 : decode cL_act 43 = .ok (.invokestatic 20, 3) := by decide +kernel
theorem dL_act_46 : decode cL_act 46 = .ok (.iadd, 1) := by decide +kernel
theorem dL_act_47 : decode cL_act 47 = .ok (.istore 13, 2) := by decide +kernel
theorem dL_act_49 : decode cL_act 49 = .ok (.iconst 0, 1) := by decide +kernel
theorem dL_act_50 : decode cL_act 50 = .ok (.istore 15, 2) := by decide +kernel
theorem dL_act_52 : decode cL_act 52 = .ok (.iload 15, 2) := by decide +kernel
theorem dL_act_54 : decode cL_act 54 = .ok (.iload 13, 2) := by decide +kernel
theorem dL_act_56 : decode cL_act 56 = .ok (.if_icmp .ge 67, 3) := by decide +kernel
theorem dL_act_59 : decode cL_act 59 = .ok (.aload 12, 2) := by decide +kernel
theorem dL_act_61 : decode cL_act 61 = .ok (.iload 15, 2) := by decide +kernel
theorem dL_act_63 : decode cL_act 63 = .ok (.iconst 1, 1) := by decide +kernel
theorem dL_act_64 : decode cL_act 64 = .ok (.iload_n 1, 1) := by decide +kernel
theorem dL_act_65 : decode cL_act 65 = .ok (.iload 15, 2) := by decide +kernel
theorem dL_act_67 : decode cL_act 67 = .ok (.bipush 7, 2) := by decide +kernel
theorem dL_act_69 : decode cL_act 69 = .ok (.irem, 1) := by decide +kernel
theorem dL_act_70 : decode cL_act 70 = .ok (.ishr, 1) := by decide +kernel
theorem dL_act_71 : decode cL_act 71 = .ok (.iconst 3, 1) := by decide +kernel
theorem dL_act_72 : decode cL_act 72 = .ok (.invokestatic 20, 3) := by decide +kernel
theorem dL_act_75 : decode cL_act 75 = .ok (.ifCond .ne 13, 3) := by decide +kernel
theorem dL_act_78 : decode cL_act 78 = .ok (.iload_n 2, 1) := by decide +kernel
theorem dL_act_79 : decode cL_act 79 = .ok (.iload 15, 2) := by decide +kernel
theorem dL_act_81 : decode cL_act 81 = .ok (.bipush 11, 2) := by decide +kernel
theorem dL_act_83 : decode cL_act 83 = .ok (.irem, 1) := by decide +kernel
theorem dL_act_84 : decode cL_act 84 = .ok (.ishr, 1) := by decide +kernel
theorem dL_act_85 : decode cL_act 85 = .ok (.goto 10, 3) := by decide +kernel
theorem dL_act_88 : decode cL_act 88 = .ok (.iload_n 1, 1) := by decide +kernel
theorem dL_act_89 : decode cL_act 89 = .ok (.iload 15, 2) := by decide +kernel
theorem dL_act_91 : decode cL_act 91 = .ok (.bipush 13, 2) := by decide +kernel
theorem dL_act_93 : decode cL_act 93 = .ok (.irem, 1) := by decide +kernel
theorem dL_act_94 : decode cL_act 94 = .ok (.ishr, 1) := by decide +kernel
theorem dL_act_95 : decode cL_act 95 = .ok (.bipush 8, 2) := by decide +kernel
theorem dL_act_97 : decode cL_act 97 = .ok (.invokestatic 20, 3) := by decide +kernel
theorem dL_act_100 : decode cL_act 100 = .ok (.iadd, 1) := by decide +kernel
theorem dL_act_101 : decode cL_act 101 = .ok (.iastore, 1) := by decide +kernel
theorem dL_act_102 : decode cL_act 102 = .ok (.aload_n 0, 1) := by decide +kernel
theorem dL_act_103 : decode cL_act 103 = .ok (.bipush 97, 2) := by decide +kernel
theorem dL_act_105 : decode cL_act 105 = .ok (.aload 12, 2) := by decide +kernel
theorem dL_act_107 : decode cL_act 107 = .ok (.iload 15, 2) := by decide +kernel
theorem dL_act_109 : decode cL_act 109 = .ok (.iaload, 1) := by decide +kernel
theorem dL_act_110 : decode cL_act 110 = .ok (.iadd, 1) := by decide +kernel
theorem dL_act_111 : decode cL_act 111 = .ok (.iconst 1, 1) := by decide +kernel
theorem dL_act_112 : decode cL_act 112 = .ok (.isub, 1) := by decide +kernel
theorem dL_act_113 : decode cL_act 113 = .ok (.invokevirtual 24, 3) := by decide +kernel
theorem dL_act_116 : decode cL_act 116 = .ok (.pop, 1) := by decide +kernel
theorem dL_act_117 : decode cL_act 117 = .ok (.iinc 15 1, 3) := by decide +kernel
theorem dL_act_120 : decode cL_act 120 = .ok (.goto (-68), 3) := by decide +kernel
theorem dL_act_123 : decode cL_act 123 = .ok (.aload_n 3, 1) := by decide +kernel
theorem dL_act_124 : decode cL_act 124 = .ok (.aload 4, 2) := by decide +kernel
theorem dL_act_126 : decode cL_act 126 = .ok (.aload 5, 2) := by decide +kernel
theorem dL_act_128 : decode cL_act 128 = .ok (.aload 6, 2) := by decide +kernel
theorem dL_act_130 : decode cL_act 130 = .ok (.aload 7, 2) := by decide +kernel
theorem dL_act_132 : decode cL_act 132 = .ok (.aload 8, 2) := by decide +kernel
theorem dL_act_134 : decode cL_act 134 = .ok (.aload 9, 2) := by decide +kernel
theorem dL_act_136 : decode cL_act 136 = .ok (.iload 11, 2) := by decide +kernel
theorem dL_act_138 : decode cL_act 138 = .ok (.aload 12, 2) := by decide +kernel
theorem dL_act_140 : decode cL_act 140 = .ok (.iload 13, 2) := by decide +kernel
theorem dL_act_142 : decode cL_act 142 = .ok (.invokestatic 30, 3) := by decide +kernel
theorem dL_act_145 : decode cL_act 145 = .ok (.istore 15, 2) := by decide +kernel
theorem dL_act_147 : decode cL_act 147 = .ok (.iload 15, 2) := by decide +kernel
theorem dL_act_149 : decode cL_act 149 = .ok (.ifCond .ge 29, 3) := by decide +kernel
theorem dL_act_152 : decode cL_act 152 = .ok (.aload_n 0, 1) := by decide +kernel
theorem dL_act_153 : decode cL_act 153 = .ok (.iload 11, 2) := by decide +kernel
theorem dL_act_155 : decode cL_act 155 = .ok (.iconst 3, 1) := by decide +kernel
theorem dL_act_156 : decode cL_act 156 = .ok (.invokevirtual 34, 3) := by decide +kernel
theorem dL_act_159 : decode cL_act 159 = .ok (.iconst 1, 1) := by decide +kernel
theorem dL_act_160 : decode cL_act 160 = .ok (.if_icmp .ne 16, 3) := by decide +kernel
theorem dL_act_163 : decode cL_act 163 = .ok (.aload_n 0, 1) := by decide +kernel
theorem dL_act_164 : decode cL_act 164 = .ok (.invokevirtual 37, 3) := by decide +kernel
theorem dL_act_167 : decode cL_act 167 = .ok (.iload 13, 2) := by decide +kernel
theorem dL_act_169 : decode cL_act 169 = .ok (.if_icmp .ne 7, 3) := by decide +kernel
theorem dL_act_172 : decode cL_act 172 = .ok (.iconst 1, 1) := by decide +kernel
theorem dL_act_173 : decode cL_act 173 = .ok (.goto 4, 3) := by decide +kernel
theorem dL_act_176 : decode cL_act 176 = .ok (.iconst 0, 1) := by decide +kernel
theorem dL_act_177 : decode cL_act 177 = .ok (.ireturn, 1) := by decide +kernel
theorem dL_act_178 : decode cL_act 178 = .ok (.aload_n 3, 1) := by decide +kernel
theorem dL_act_179 : decode cL_act 179 = .ok (.bipush 9, 2) := by decide +kernel
theorem dL_act_181 : decode cL_act 181 = .ok (.iaload, 1) := by decide +kernel
theorem dL_act_182 : decode cL_act 182 = .ok (.bipush 6, 2) := by decide +kernel
theorem dL_act_184 : decode cL_act 184 = .ok (.if_icmp .ge 11, 3) := by decide +kernel
theorem dL_act_187 : decode cL_act 187 = .ok (.aload_n 3, 1) := by decide +kernel
theorem dL_act_188 : decode cL_act 188 = .ok (.bipush 9, 2) := by decide +kernel
theorem dL_act_190 : decode cL_act 190 = .ok (.dup2, 1) := by decide +kernel
theorem dL_act_191 : decode cL_act 191 = .ok (.iaload, 1) := by decide +kernel
theorem dL_act_192 : decode cL_act 192 = .ok (.iconst 1, 1) := by decide +kernel
theorem dL_act_193 : decode cL_act 193 = .ok (.iadd, 1) := by decide +kernel
theorem dL_act_194 : decode cL_act 194 = .ok (.iastore, 1) := by decide +kernel
theorem dL_act_195 : decode cL_act 195 = .ok (.aload_n 0, 1) := by decide +kernel
theorem dL_act_196 : decode cL_act 196 = .ok (.iload 11, 2) := by decide +kernel
theorem dL_act_198 : decode cL_act 198 = .ok (.iconst 3, 1) := by decide +kernel
theorem dL_act_199 : decode cL_act 199 = .ok (.invokevirtual 34, 3) := by decide +kernel
theorem dL_act_202 : decode cL_act 202 = .ok (.ifCond .ne 18, 3) := by decide +kernel
theorem dL_act_205 : decode cL_act 205 = .ok (.aload_n 0, 1) := by decide +kernel
theorem dL_act_206 : decode cL_act 206 = .ok (.iload 11, 2) := by decide +kernel
theorem dL_act_208 : decode cL_act 208 = .ok (.invokevirtual 41, 3) := by decide +kernel
theorem dL_act_211 : decode cL_act 211 = .ok (.iload 15, 2) := by decide +kernel
theorem dL_act_213 : decode cL_act 213 = .ok (.if_icmp .ne 7, 3) := by decide +kernel
theorem dL_act_216 : decode cL_act 216 = .ok (.iconst 1, 1) := by decide +kernel
theorem dL_act_217 : decode cL_act 217 = .ok (.goto 4, 3) := by decide +kernel
theorem dL_act_220 : decode cL_act 220 = .ok (.iconst 0, 1) := by decide +kernel
theorem dL_act_221 : decode cL_act 221 = .ok (.ireturn, 1) := by decide +kernel
theorem dL_act_222 : decode cL_act 222 = .ok (.iload 10, 2) := by decide +kernel
theorem dL_act_224 : decode cL_act 224 = .ok (.bipush 8, 2) := by decide +kernel
theorem dL_act_226 : decode cL_act 226 = .ok (.if_icmp .ge 196, 3) := by decide +kernel
theorem dL_act_229 : decode cL_act 229 = .ok (.aload_n 3, 1) := by decide +kernel
theorem dL_act_230 : decode cL_act 230 = .ok (.iload 11, 2) := by decide +kernel
theorem dL_act_232 : decode cL_act 232 = .ok (.iaload, 1) := by decide +kernel
theorem dL_act_233 : decode cL_act 233 = .ok (.ifCond .le 189, 3) := by decide +kernel
theorem dL_act_236 : decode cL_act 236 = .ok (.iload_n 2, 1) := by decide +kernel
theorem dL_act_237 : decode cL_act 237 = .ok (.iconst 2, 1) := by decide +kernel
theorem dL_act_238 : decode cL_act 238 = .ok (.ishr, 1) := by decide +kernel
theorem dL_act_239 : decode cL_act 239 = .ok (.aload_n 3, 1) := by decide +kernel
theorem dL_act_240 : decode cL_act 240 = .ok (.iload 11, 2) := by decide +kernel
theorem dL_act_242 : decode cL_act 242 = .ok (.iaload, 1) := by decide +kernel
theorem dL_act_243 : decode cL_act 243 = .ok (.invokestatic 20, 3) := by decide +kernel
theorem dL_act_246 : decode cL_act 246 = .ok (.istore 15, 2) := by decide +kernel
theorem dL_act_248 : decode cL_act 248 = .ok (.iconst 1, 1) := by decide +kernel
theorem dL_act_249 : decode cL_act 249 = .ok (.iload_n 2, 1) := by decide +kernel
theorem dL_act_250 : decode cL_act 250 = .ok (.bipush 6, 2) := by decide +kernel
theorem dL_act_252 : decode cL_act 252 = .ok (.ishr, 1) := by decide +kernel
theorem dL_act_253 : decode cL_act 253 = .ok (.aload_n 3, 1) := by decide +kernel
theorem dL_act_254 : decode cL_act 254 = .ok (.iload 11, 2) := by decide +kernel
theorem dL_act_256 : decode cL_act 256 = .ok (.iaload, 1) := by decide +kernel
theorem dL_act_257 : decode cL_act 257 = .ok (.iload 15, 2) := by decide +kernel
theorem dL_act_259 : decode cL_act 259 = .ok (.isub, 1) := by decide +kernel
theorem dL_act_260 : decode cL_act 260 = .ok (.iconst 4, 1) := by decide +kernel
theorem dL_act_261 : decode cL_act 261 = .ok (.if_icmp .ge 13, 3) := by decide +kernel
theorem dL_act_264 : decode cL_act 264 = .ok (.aload_n 3, 1) := by decide +kernel
theorem dL_act_265 : decode cL_act 265 = .ok (.iload 11, 2) := by decide +kernel
theorem dL_act_267 : decode cL_act 267 = .ok (.iaload, 1) := by decide +kernel
theorem dL_act_268 : decode cL_act 268 = .ok (.iload 15, 2) := by decide +kernel
theorem dL_act_270 : decode cL_act 270 = .ok (.isub, 1) := by decide +kernel
theorem dL_act_271 : decode cL_act 271 = .ok (.goto 4, 3) := by decide +kernel
theorem dL_act_274 : decode cL_act 274 = .ok (.iconst 4, 1) := by decide +kernel
theorem dL_act_275 : decode cL_act 275 = .ok (.invokestatic 20, 3) := by decide +kernel
theorem dL_act_278 : decode cL_act 278 = .ok (.iadd, 1) := by decide +kernel
theorem dL_act_279 : decode cL_act 279 = .ok (.istore 16, 2) := by decide +kernel
theorem dL_act_281 : decode cL_act 281 = .ok (.iconst 0, 1) := by decide +kernel
theorem dL_act_282 : decode cL_act 282 = .ok (.istore 17, 2) := by decide +kernel
theorem dL_act_284 : decode cL_act 284 = .ok (.iload 17, 2) := by decide +kernel
theorem dL_act_286 : decode cL_act 286 = .ok (.aload_n 3, 1) := by decide +kernel
theorem dL_act_287 : decode cL_act 287 = .ok (.iload 11, 2) := by decide +kernel
theorem dL_act_289 : decode cL_act 289 = .ok (.iaload, 1) := by decide +kernel
theorem dL_act_290 : decode cL_act 290 = .ok (.if_icmp .ge 45, 3) := by decide +kernel
theorem dL_act_293 : decode cL_act 293 = .ok (.iload 17, 2) := by decide +kernel
theorem dL_act_295 : decode cL_act 295 = .ok (.iload 15, 2) := by decide +kernel
theorem dL_act_297 : decode cL_act 297 = .ok (.if_icmp .lt 13, 3) := by decide +kernel
theorem dL_act_300 : decode cL_act 300 = .ok (.iload 17, 2) := by decide +kernel
theorem dL_act_302 : decode cL_act 302 = .ok (.iload 15, 2) := by decide +kernel
theorem dL_act_304 : decode cL_act 304 = .ok (.iload 16, 2) := by decide +kernel
theorem dL_act_306 : decode cL_act 306 = .ok (.iadd, 1) := by decide +kernel
theorem dL_act_307 : decode cL_act 307 = .ok (.if_icmp .lt 22, 3) := by decide +kernel
theorem dL_act_310 : decode cL_act 310 = .ok (.aload 12, 2) := by decide +kernel
theorem dL_act_312 : decode cL_act 312 = .ok (.iload 13, 2) := by decide +kernel
theorem dL_act_314 : decode cL_act 314 = .ok (.iinc 13 1, 3) := by decide +kernel
theorem dL_act_317 : decode cL_act 317 = .ok (.aload 4, 2) := by decide +kernel
theorem dL_act_319 : decode cL_act 319 = .ok (.bipush 16, 2) := by decide +kernel
theorem dL_act_321 : decode cL_act 321 = .ok (.iload 11, 2) := by decide +kernel
theorem dL_act_323 : decode cL_act 323 = .ok (.imul, 1) := by decide +kernel
theorem dL_act_324 : decode cL_act 324 = .ok (.iload 17, 2) := by decide +kernel
theorem dL_act_326 : decode cL_act 326 = .ok (.iadd, 1) := by decide +kernel
theorem dL_act_327 : decode cL_act 327 = .ok (.iaload, 1) := by decide +kernel
theorem dL_act_328 : decode cL_act 328 = .ok (.iastore, 1) := by decide +kernel
theorem dL_act_329 : decode cL_act 329 = .ok (.iinc 17 1, 3) := by decide +kernel
theorem dL_act_332 : decode cL_act 332 = .ok (.goto (-48), 3) := by decide +kernel
theorem dL_act_335 : decode cL_act 335 = .ok (.aload_n 3, 1) := by decide +kernel
theorem dL_act_336 : decode cL_act 336 = .ok (.aload 4, 2) := by decide +kernel
theorem dL_act_338 : decode cL_act 338 = .ok (.aload 5, 2) := by decide +kernel
theorem dL_act_340 : decode cL_act 340 = .ok (.aload 6, 2) := by decide +kernel
theorem dL_act_342 : decode cL_act 342 = .ok (.aload 7, 2) := by decide +kernel
theorem dL_act_344 : decode cL_act 344 = .ok (.aload 8, 2) := by decide +kernel
theorem dL_act_346 : decode cL_act 346 = .ok (.aload 9, 2) := by decide +kernel
theorem dL_act_348 : decode cL_act 348 = .ok (.iload 11, 2) := by decide +kernel
theorem dL_act_350 : decode cL_act 350 = .ok (.aload 12, 2) := by decide +kernel
theorem dL_act_352 : decode cL_act 352 = .ok (.iload 13, 2) := by decide +kernel
theorem dL_act_354 : decode cL_act 354 = .ok (.invokestatic 30, 3) := by decide +kernel
theorem dL_act_357 : decode cL_act 357 = .ok (.istore 17, 2) := by decide +kernel
theorem dL_act_359 : decode cL_act 359 = .ok (.iload 17, 2) := by decide +kernel
theorem dL_act_361 : decode cL_act 361 = .ok (.ifCond .ge 23, 3) := by decide +kernel
theorem dL_act_364 : decode cL_act 364 = .ok (.aload_n 0, 1) := by decide +kernel
theorem dL_act_365 : decode cL_act 365 = .ok (.iload 11, 2) := by decide +kernel
theorem dL_act_367 : decode cL_act 367 = .ok (.iconst 0, 1) := by decide +kernel
theorem dL_act_368 : decode cL_act 368 = .ok (.invokevirtual 44, 3) := by decide +kernel
theorem dL_act_371 : decode cL_act 371 = .ok (.aload_n 3, 1) := by decide +kernel
theorem dL_act_372 : decode cL_act 372 = .ok (.iload 11, 2) := by decide +kernel
theorem dL_act_374 : decode cL_act 374 = .ok (.iaload, 1) := by decide +kernel
theorem dL_act_375 : decode cL_act 375 = .ok (.if_icmp .ne 7, 3) := by decide +kernel
theorem dL_act_378 : decode cL_act 378 = .ok (.iconst 1, 1) := by decide +kernel
theorem dL_act_379 : decode cL_act 379 = .ok (.goto 4, 3) := by decide +kernel
theorem dL_act_382 : decode cL_act 382 = .ok (.iconst 0, 1) := by decide +kernel
theorem dL_act_383 : decode cL_act 383 = .ok (.ireturn, 1) := by decide +kernel
theorem dL_act_384 : decode cL_act 384 = .ok (.aload_n 3, 1) := by decide +kernel
theorem dL_act_385 : decode cL_act 385 = .ok (.bipush 9, 2) := by decide +kernel
theorem dL_act_387 : decode cL_act 387 = .ok (.iaload, 1) := by decide +kernel
theorem dL_act_388 : decode cL_act 388 = .ok (.bipush 6, 2) := by decide +kernel
theorem dL_act_390 : decode cL_act 390 = .ok (.if_icmp .ge 11, 3) := by decide +kernel
theorem dL_act_393 : decode cL_act 393 = .ok (.aload_n 3, 1) := by decide +kernel
theorem dL_act_394 : decode cL_act 394 = .ok (.bipush 9, 2) := by decide +kernel
theorem dL_act_396 : decode cL_act 396 = .ok (.dup2, 1) := by decide +kernel
theorem dL_act_397 : decode cL_act 397 = .ok (.iaload, 1) := by decide +kernel
theorem dL_act_398 : decode cL_act 398 = .ok (.iconst 1, 1) := by decide +kernel
theorem dL_act_399 : decode cL_act 399 = .ok (.iadd, 1) := by decide +kernel
theorem dL_act_400 : decode cL_act 400 = .ok (.iastore, 1) := by decide +kernel
theorem dL_act_401 : decode cL_act 401 = .ok (.aload_n 0, 1) := by decide +kernel
theorem dL_act_402 : decode cL_act 402 = .ok (.iload 11, 2) := by decide +kernel
theorem dL_act_404 : decode cL_act 404 = .ok (.iload 15, 2) := by decide +kernel
theorem dL_act_406 : decode cL_act 406 = .ok (.iload 16, 2) := by decide +kernel
theorem dL_act_408 : decode cL_act 408 = .ok (.invokevirtual 47, 3) := by decide +kernel
theorem dL_act_411 : decode cL_act 411 = .ok (.iload 17, 2) := by decide +kernel
theorem dL_act_413 : decode cL_act 413 = .ok (.if_icmp .ne 7, 3) := by decide +kernel
theorem dL_act_416 : decode cL_act 416 = .ok (.iconst 1, 1) := by decide +kernel
theorem dL_act_417 : decode cL_act 417 = .ok (.goto 4, 3) := by decide +kernel
theorem dL_act_420 : decode cL_act 420 = .ok (.iconst 0, 1) := by decide +kernel
theorem dL_act_421 : decode cL_act 421 = .ok (.ireturn, 1) := by decide +kernel
theorem dL_act_422 : decode cL_act 422 = .ok (.iload 10, 2) := by decide +kernel
theorem dL_act_424 : decode cL_act 424 = .ok (.bipush 8, 2) := by decide +kernel
theorem dL_act_426 : decode cL_act 426 = .ok (.if_icmp .ne 134, 3) := by decide +kernel
theorem dL_act_429 : decode cL_act 429 = .ok (.iload_n 2, 1) := by decide +kernel
theorem dL_act_430 : decode cL_act 430 = .ok (.iconst 2, 1) := by decide +kernel
theorem dL_act_431 : decode cL_act 431 = .ok (.ishr, 1) := by decide +kernel
theorem dL_act_432 : decode cL_act 432 = .ok (.iconst 4, 1) := by decide +kernel
theorem dL_act_433 : decode cL_act 433 = .ok (.invokestatic 20, 3) := by decide +kernel
theorem dL_act_436 : decode cL_act 436 = .ok (.istore 15, 2) := by decide +kernel
theorem dL_act_438 : decode cL_act 438 = .ok (.iconst 0, 1) := by decide +kernel
theorem dL_act_439 : decode cL_act 439 = .ok (.istore 16, 2) := by decide +kernel
theorem dL_act_441 : decode cL_act 441 = .ok (.iload 16, 2) := by decide +kernel
theorem dL_act_443 : decode cL_act 443 = .ok (.aload_n 3, 1) := by decide +kernel
theorem dL_act_444 : decode cL_act 444 = .ok (.iload 15, 2) := by decide +kernel
theorem dL_act_446 : decode cL_act 446 = .ok (.iaload, 1) := by decide +kernel
theorem dL_act_447 : decode cL_act 447 = .ok (.if_icmp .ge 28, 3) := by decide +kernel
theorem dL_act_450 : decode cL_act 450 = .ok (.aload 12, 2) := by decide +kernel
theorem dL_act_452 : decode cL_act 452 = .ok (.iload 13, 2) := by decide +kernel
theorem dL_act_454 : decode cL_act 454 = .ok (.iinc 13 1, 3) := by decide +kernel
theorem dL_act_457 : decode cL_act 457 = .ok (.aload 4, 2) := by decide +kernel
theorem dL_act_459 : decode cL_act 459 = .ok (.bipush 16, 2) := by decide +kernel
theorem dL_act_461 : decode cL_act 461 = .ok (.iload 15, 2) := by decide +kernel
theorem dL_act_463 : decode cL_act 463 = .ok (.imul, 1) := by decide +kernel
theorem dL_act_464 : decode cL_act 464 = .ok (.iload 16, 2) := by decide +kernel
theorem dL_act_466 : decode cL_act 466 = .ok (.iadd, 1) := by decide +kernel
theorem dL_act_467 : decode cL_act 467 = .ok (.iaload, 1) := by decide +kernel
theorem dL_act_468 : decode cL_act 468 = .ok (.iastore, 1) := by decide +kernel
theorem dL_act_469 : decode cL_act 469 = .ok (.iinc 16 1, 3) := by decide +kernel
theorem dL_act_472 : decode cL_act 472 = .ok (.goto (-31), 3) := by decide +kernel
theorem dL_act_475 : decode cL_act 475 = .ok (.aload_n 3, 1) := by decide +kernel
theorem dL_act_476 : decode cL_act 476 = .ok (.aload 4, 2) := by decide +kernel
theorem dL_act_478 : decode cL_act 478 = .ok (.aload 5, 2) := by decide +kernel
theorem dL_act_480 : decode cL_act 480 = .ok (.aload 6, 2) := by decide +kernel
theorem dL_act_482 : decode cL_act 482 = .ok (.aload 7, 2) := by decide +kernel
theorem dL_act_484 : decode cL_act 484 = .ok (.aload 8, 2) := by decide +kernel
theorem dL_act_486 : decode cL_act 486 = .ok (.aload 9, 2) := by decide +kernel
theorem dL_act_488 : decode cL_act 488 = .ok (.iload 11, 2) := by decide +kernel
theorem dL_act_490 : decode cL_act 490 = .ok (.aload 12, 2) := by decide +kernel
theorem dL_act_492 : decode cL_act 492 = .ok (.iload 13, 2) := by decide +kernel
theorem dL_act_494 : decode cL_act 494 = .ok (.invokestatic 30, 3) := by decide +kernel
theorem dL_act_497 : decode cL_act 497 = .ok (.istore 16, 2) := by decide +kernel
theorem dL_act_499 : decode cL_act 499 = .ok (.iload 16, 2) := by decide +kernel
theorem dL_act_501 : decode cL_act 501 = .ok (.ifCond .ge 23, 3) := by decide +kernel
theorem dL_act_504 : decode cL_act 504 = .ok (.aload_n 0, 1) := by decide +kernel
theorem dL_act_505 : decode cL_act 505 = .ok (.iload 11, 2) := by decide +kernel
theorem dL_act_507 : decode cL_act 507 = .ok (.iconst 0, 1) := by decide +kernel
theorem dL_act_508 : decode cL_act 508 = .ok (.invokevirtual 44, 3) := by decide +kernel
theorem dL_act_511 : decode cL_act 511 = .ok (.aload_n 3, 1) := by decide +kernel
theorem dL_act_512 : decode cL_act 512 = .ok (.iload 11, 2) := by decide +kernel
theorem dL_act_514 : decode cL_act 514 = .ok (.iaload, 1) := by decide +kernel
theorem dL_act_515 : decode cL_act 515 = .ok (.if_icmp .ne 7, 3) := by decide +kernel
theorem dL_act_518 : decode cL_act 518 = .ok (.iconst 1, 1) := by decide +kernel
theorem dL_act_519 : decode cL_act 519 = .ok (.goto 4, 3) := by decide +kernel
theorem dL_act_522 : decode cL_act 522 = .ok (.iconst 0, 1) := by decide +kernel
theorem dL_act_523 : decode cL_act 523 = .ok (.ireturn, 1) := by decide +kernel
theorem dL_act_524 : decode cL_act 524 = .ok (.aload_n 3, 1) := by decide +kernel
theorem dL_act_525 : decode cL_act 525 = .ok (.bipush 9, 2) := by decide +kernel
theorem dL_act_527 : decode cL_act 527 = .ok (.iaload, 1) := by decide +kernel
theorem dL_act_528 : decode cL_act 528 = .ok (.bipush 6, 2) := by decide +kernel
theorem dL_act_530 : decode cL_act 530 = .ok (.if_icmp .ge 11, 3) := by decide +kernel
theorem dL_act_533 : decode cL_act 533 = .ok (.aload_n 3, 1) := by decide +kernel
theorem dL_act_534 : decode cL_act 534 = .ok (.bipush 9, 2) := by decide +kernel
theorem dL_act_536 : decode cL_act 536 = .ok (.dup2, 1) := by decide +kernel
theorem dL_act_537 : decode cL_act 537 = .ok (.iaload, 1) := by decide +kernel
theorem dL_act_538 : decode cL_act 538 = .ok (.iconst 1, 1) := by decide +kernel
theorem dL_act_539 : decode cL_act 539 = .ok (.iadd, 1) := by decide +kernel
theorem dL_act_540 : decode cL_act 540 = .ok (.iastore, 1) := by decide +kernel
theorem dL_act_541 : decode cL_act 541 = .ok (.aload_n 0, 1) := by decide +kernel
theorem dL_act_542 : decode cL_act 542 = .ok (.iload 11, 2) := by decide +kernel
theorem dL_act_544 : decode cL_act 544 = .ok (.iload 15, 2) := by decide +kernel
theorem dL_act_546 : decode cL_act 546 = .ok (.invokevirtual 51, 3) := by decide +kernel
theorem dL_act_549 : decode cL_act 549 = .ok (.iload 16, 2) := by decide +kernel
theorem dL_act_551 : decode cL_act 551 = .ok (.if_icmp .ne 7, 3) := by decide +kernel
theorem dL_act_554 : decode cL_act 554 = .ok (.iconst 1, 1) := by decide +kernel
theorem dL_act_555 : decode cL_act 555 = .ok (.goto 4, 3) := by decide +kernel
theorem dL_act_558 : decode cL_act 558 = .ok (.iconst 0, 1) := by decide +kernel
theorem dL_act_559 : decode cL_act 559 = .ok (.ireturn, 1) := by decide +kernel
theorem dL_act_560 : decode cL_act 560 = .ok (.iload 10, 2) := by decide +kernel
theorem dL_act_562 : decode cL_act 562 = .ok (.bipush 9, 2) := by decide +kernel
theorem dL_act_564 : decode cL_act 564 = .ok (.if_icmp .ne 153, 3) := by decide +kernel
theorem dL_act_567 : decode cL_act 567 = .ok (.aload_n 3, 1) := by decide +kernel
theorem dL_act_568 : decode cL_act 568 = .ok (.iload 11, 2) := by decide +kernel
theorem dL_act_570 : decode cL_act 570 = .ok (.iaload, 1) := by decide +kernel
theorem dL_act_571 : decode cL_act 571 = .ok (.ifCond .le 146, 3) := by decide +kernel
theorem dL_act_574 : decode cL_act 574 = .ok (.iconst 1, 1) := by decide +kernel
theorem dL_act_575 : decode cL_act 575 = .ok (.iload_n 2, 1) := by decide +kernel
theorem dL_act_576 : decode cL_act 576 = .ok (.iconst 2, 1) := by decide +kernel
theorem dL_act_577 : decode cL_act 577 = .ok (.ishr, 1) := by decide +kernel
theorem dL_act_578 : decode cL_act 578 = .ok (.aload_n 3, 1) := by decide +kernel
theorem dL_act_579 : decode cL_act 579 = .ok (.iload 11, 2) := by decide +kernel
theorem dL_act_581 : decode cL_act 581 = .ok (.iaload, 1) := by decide +kernel
theorem dL_act_582 : decode cL_act 582 = .ok (.invokestatic 20, 3) := by decide +kernel
theorem dL_act_585 : decode cL_act 585 = .ok (.iadd, 1) := by decide +kernel
theorem dL_act_586 : decode cL_act 586 = .ok (.istore 14, 2) := by decide +kernel
theorem dL_act_588 : decode cL_act 588 = .ok (.aload_n 3, 1) := by decide +kernel
theorem dL_act_589 : decode cL_act 589 = .ok (.iload 11, 2) := by decide +kernel
theorem dL_act_591 : decode cL_act 591 = .ok (.iaload, 1) := by decide +kernel
theorem dL_act_592 : decode cL_act 592 = .ok (.istore 13, 2) := by decide +kernel
theorem dL_act_594 : decode cL_act 594 = .ok (.iconst 0, 1) := by decide +kernel
theorem dL_act_595 : decode cL_act 595 = .ok (.istore 15, 2) := by decide +kernel
theorem dL_act_597 : decode cL_act 597 = .ok (.iload 15, 2) := by decide +kernel
theorem dL_act_599 : decode cL_act 599 = .ok (.iload 13, 2) := by decide +kernel
theorem dL_act_601 : decode cL_act 601 = .ok (.if_icmp .ge 31, 3) := by decide +kernel
theorem dL_act_604 : decode cL_act 604 = .ok (.aload 12, 2) := by decide +kernel
theorem dL_act_606 : decode cL_act 606 = .ok (.iload 15, 2) := by decide +kernel
theorem dL_act_608 : decode cL_act 608 = .ok (.aload 4, 2) := by decide +kernel
theorem dL_act_610 : decode cL_act 610 = .ok (.bipush 16, 2) := by decide +kernel
theorem dL_act_612 : decode cL_act 612 = .ok (.iload 11, 2) := by decide +kernel
theorem dL_act_614 : decode cL_act 614 = .ok (.imul, 1) := by decide +kernel
theorem dL_act_615 : decode cL_act 615 = .ok (.iload 15, 2) := by decide +kernel
theorem dL_act_617 : decode cL_act 617 = .ok (.iload 14, 2) := by decide +kernel
theorem dL_act_619 : decode cL_act 619 = .ok (.iadd, 1) := by decide +kernel
theorem dL_act_620 : decode cL_act 620 = .ok (.iload 13, 2) := by decide +kernel
theorem dL_act_622 : decode cL_act 622 = .ok (.irem, 1) := by decide +kernel
theorem dL_act_623 : decode cL_act 623 = .ok (.iadd, 1) := by decide +kernel
theorem dL_act_624 : decode cL_act 624 = .ok (.iaload, 1) := by decide +kernel
theorem dL_act_625 : decode cL_act 625 = .ok (.iastore, 1) := by decide +kernel
theorem dL_act_626 : decode cL_act 626 = .ok (.iinc 15 1, 3) := by decide +kernel
theorem dL_act_629 : decode cL_act 629 = .ok (.goto (-32), 3) := by decide +kernel
theorem dL_act_632 : decode cL_act 632 = .ok (.aload_n 3, 1) := by decide +kernel
theorem dL_act_633 : decode cL_act 633 = .ok (.aload 4, 2) := by decide +kernel
theorem dL_act_635 : decode cL_act 635 = .ok (.aload 5, 2) := by decide +kernel
theorem dL_act_637 : decode cL_act 637 = .ok (.aload 6, 2) := by decide +kernel
theorem dL_act_639 : decode cL_act 639 = .ok (.aload 7, 2) := by decide +kernel
theorem dL_act_641 : decode cL_act 641 = .ok (.aload 8, 2) := by decide +kernel
theorem dL_act_643 : decode cL_act 643 = .ok (.aload 9, 2) := by decide +kernel
theorem dL_act_645 : decode cL_act 645 = .ok (.iload 11, 2) := by decide +kernel
theorem dL_act_647 : decode cL_act 647 = .ok (.aload 12, 2) := by decide +kernel
theorem dL_act_649 : decode cL_act 649 = .ok (.iload 13, 2) := by decide +kernel
theorem dL_act_651 : decode cL_act 651 = .ok (.invokestatic 30, 3) := by decide +kernel
theorem dL_act_654 : decode cL_act 654 = .ok (.istore 15, 2) := by decide +kernel
theorem dL_act_656 : decode cL_act 656 = .ok (.iload 15, 2) := by decide +kernel
theorem dL_act_658 : decode cL_act 658 = .ok (.ifCond .ge 23, 3) := by decide +kernel
theorem dL_act_661 : decode cL_act 661 = .ok (.aload_n 0, 1) := by decide +kernel
theorem dL_act_662 : decode cL_act 662 = .ok (.iload 11, 2) := by decide +kernel
theorem dL_act_664 : decode cL_act 664 = .ok (.iconst 0, 1) := by decide +kernel
theorem dL_act_665 : decode cL_act 665 = .ok (.invokevirtual 44, 3) := by decide +kernel
theorem dL_act_668 : decode cL_act 668 = .ok (.aload_n 3, 1) := by decide +kernel
theorem dL_act_669 : decode cL_act 669 = .ok (.iload 11, 2) := by decide +kernel
theorem dL_act_671 : decode cL_act 671 = .ok (.iaload, 1) := by decide +kernel
theorem dL_act_672 : decode cL_act 672 = .ok (.if_icmp .ne 7, 3) := by decide +kernel
theorem dL_act_675 : decode cL_act 675 = .ok (.iconst 1, 1) := by decide +kernel
theorem dL_act_676 : decode cL_act 676 = .ok (.goto 4, 3) := by decide +kernel
theorem dL_act_679 : decode cL_act 679 = .ok (.iconst 0, 1) := by decide +kernel
theorem dL_act_680 : decode cL_act 680 = .ok (.ireturn, 1) := by decide +kernel
theorem dL_act_681 : decode cL_act 681 = .ok (.aload_n 3, 1) := by decide +kernel
theorem dL_act_682 : decode cL_act 682 = .ok (.bipush 9, 2) := by decide +kernel
theorem dL_act_684 : decode cL_act 684 = .ok (.iaload, 1) := by decide +kernel
theorem dL_act_685 : decode cL_act 685 = .ok (.bipush 6, 2) := by decide +kernel
theorem dL_act_687 : decode cL_act 687 = .ok (.if_icmp .ge 11, 3) := by decide +kernel
theorem dL_act_690 : decode cL_act 690 = .ok (.aload_n 3, 1) := by decide +kernel
theorem dL_act_691 : decode cL_act 691 = .ok (.bipush 9, 2) := by decide +kernel
theorem dL_act_693 : decode cL_act 693 = .ok (.dup2, 1) := by decide +kernel
theorem dL_act_694 : decode cL_act 694 = .ok (.iaload, 1) := by decide +kernel
theorem dL_act_695 : decode cL_act 695 = .ok (.iconst 1, 1) := by decide +kernel
theorem dL_act_696 : decode cL_act 696 = .ok (.iadd, 1) := by decide +kernel
theorem dL_act_697 : decode cL_act 697 = .ok (.iastore, 1) := by decide +kernel
theorem dL_act_698 : decode cL_act 698 = .ok (.aload_n 0, 1) := by decide +kernel
theorem dL_act_699 : decode cL_act 699 = .ok (.iload 11, 2) := by decide +kernel
theorem dL_act_701 : decode cL_act 701 = .ok (.iload 14, 2) := by decide +kernel
theorem dL_act_703 : decode cL_act 703 = .ok (.invokevirtual 54, 3) := by decide +kernel
theorem dL_act_706 : decode cL_act 706 = .ok (.iload 15, 2) := by decide +kernel
theorem dL_act_708 : decode cL_act 708 = .ok (.if_icmp .ne 7, 3) := by decide +kernel
theorem dL_act_711 : decode cL_act 711 = .ok (.iconst 1, 1) := by decide +kernel
theorem dL_act_712 : decode cL_act 712 = .ok (.goto 4, 3) := by decide +kernel
theorem dL_act_715 : decode cL_act 715 = .ok (.iconst 0, 1) := by decide +kernel
theorem dL_act_716 : decode cL_act 716 = .ok (.ireturn, 1) := by decide +kernel
theorem dL_act_717 : decode cL_act 717 = .ok (.aload_n 3, 1) := by decide +kernel
theorem dL_act_718 : decode cL_act 718 = .ok (.bipush 9, 2) := by decide +kernel
theorem dL_act_720 : decode cL_act 720 = .ok (.iaload, 1) := by decide +kernel
theorem dL_act_721 : decode cL_act 721 = .ok (.bipush 6, 2) := by decide +kernel
theorem dL_act_723 : decode cL_act 723 = .ok (.if_icmp .ge 11, 3) := by decide +kernel
theorem dL_act_726 : decode cL_act 726 = .ok (.aload_n 3, 1) := by decide +kernel
theorem dL_act_727 : decode cL_act 727 = .ok (.bipush 9, 2) := by decide +kernel
theorem dL_act_729 : decode cL_act 729 = .ok (.dup2, 1) := by decide +kernel
theorem dL_act_730 : decode cL_act 730 = .ok (.iaload, 1) := by decide +kernel
theorem dL_act_731 : decode cL_act 731 = .ok (.iconst 1, 1) := by decide +kernel
theorem dL_act_732 : decode cL_act 732 = .ok (.iadd, 1) := by decide +kernel
theorem dL_act_733 : decode cL_act 733 = .ok (.iastore, 1) := by decide +kernel
theorem dL_act_734 : decode cL_act 734 = .ok (.iload 10, 2) := by decide +kernel
theorem dL_act_736 : decode cL_act 736 = .ok (.bipush 10, 2) := by decide +kernel
theorem dL_act_738 : decode cL_act 738 = .ok (.if_icmp .ne 91, 3) := by decide +kernel
theorem dL_act_741 : decode cL_act 741 = .ok (.iload_n 2, 1) := by decide +kernel
theorem dL_act_742 : decode cL_act 742 = .ok (.iconst 2, 1) := by decide +kernel
theorem dL_act_743 : decode cL_act 743 = .ok (.ishr, 1) := by decide +kernel
theorem dL_act_744 : decode cL_act 744 = .ok (.iconst 2, 1) := by decide +kernel
theorem dL_act_745 : decode cL_act 745 = .ok (.invokestatic 20, 3) := by decide +kernel
theorem dL_act_748 : decode cL_act 748 = .ok (.ifCond .ne 81, 3) := by decide +kernel
theorem dL_act_751 : decode cL_act 751 = .ok (.iconst 0, 1) := by decide +kernel
theorem dL_act_752 : decode cL_act 752 = .ok (.istore 15, 2) := by decide +kernel
theorem dL_act_754 : decode cL_act 754 = .ok (.iload 15, 2) := by decide +kernel
theorem dL_act_756 : decode cL_act 756 = .ok (.aload_n 3, 1) := by decide +kernel
theorem dL_act_757 : decode cL_act 757 = .ok (.iload 11, 2) := by decide +kernel
theorem dL_act_759 : decode cL_act 759 = .ok (.iaload, 1) := by decide +kernel
theorem dL_act_760 : decode cL_act 760 = .ok (.if_icmp .ge 41, 3) := by decide +kernel
theorem dL_act_763 : decode cL_act 763 = .ok (.aload 5, 2) := by decide +kernel
theorem dL_act_765 : decode cL_act 765 = .ok (.bipush 16, 2) := by decide +kernel
theorem dL_act_767 : decode cL_act 767 = .ok (.iload 11, 2) := by decide +kernel
theorem dL_act_769 : decode cL_act 769 = .ok (.imul, 1) := by decide +kernel
theorem dL_act_770 : decode cL_act 770 = .ok (.iload 15, 2) := by decide +kernel
theorem dL_act_772 : decode cL_act 772 = .ok (.iadd, 1) := by decide +kernel
theorem dL_act_773 : decode cL_act 773 = .ok (.iaload, 1) := by decide +kernel
theorem dL_act_774 : decode cL_act 774 = .ok (.ifCond .le 21, 3) := by decide +kernel
theorem dL_act_777 : decode cL_act 777 = .ok (.aload 9, 2) := by decide +kernel
theorem dL_act_779 : decode cL_act 779 = .ok (.aload 6, 2) := by decide +kernel
theorem dL_act_781 : decode cL_act 781 = .ok (.bipush 16, 2) := by decide +kernel
theorem dL_act_783 : decode cL_act 783 = .ok (.iload 11, 2) := by decide +kernel
theorem dL_act_785 : decode cL_act 785 = .ok (.imul, 1) := by decide +kernel
theorem dL_act_786 : decode cL_act 786 = .ok (.iload 15, 2) := by decide +kernel
theorem dL_act_788 : decode cL_act 788 = .ok (.iadd, 1) := by decide +kernel
theorem dL_act_789 : decode cL_act 789 = .ok (.iaload, 1) := by decide +kernel
theorem dL_act_790 : decode cL_act 790 = .ok (.dup2, 1) := by decide +kernel
theorem dL_act_791 : decode cL_act 791 = .ok (.iaload, 1) := by decide +kernel
theorem dL_act_792 : decode cL_act 792 = .ok (.iconst 1, 1) := by decide +kernel
theorem dL_act_793 : decode cL_act 793 = .ok (.isub, 1) := by decide +kernel
theorem dL_act_794 : decode cL_act 794 = .ok (.iastore, 1) := by decide +kernel
theorem dL_act_795 : decode cL_act 795 = .ok (.iinc 15 1, 3) := by decide +kernel
theorem dL_act_798 : decode cL_act 798 = .ok (.goto (-44), 3) := by decide +kernel
theorem dL_act_801 : decode cL_act 801 = .ok (.aload_n 3, 1) := by decide +kernel
theorem dL_act_802 : decode cL_act 802 = .ok (.iload 11, 2) := by decide +kernel
theorem dL_act_804 : decode cL_act 804 = .ok (.iaload, 1) := by decide +kernel
theorem dL_act_805 : decode cL_act 805 = .ok (.istore 14, 2) := by decide +kernel
theorem dL_act_807 : decode cL_act 807 = .ok (.aload_n 3, 1) := by decide +kernel
theorem dL_act_808 : decode cL_act 808 = .ok (.iload 11, 2) := by decide +kernel
theorem dL_act_810 : decode cL_act 810 = .ok (.iconst 0, 1) := by decide +kernel
theorem dL_act_811 : decode cL_act 811 = .ok (.iastore, 1) := by decide +kernel
theorem dL_act_812 : decode cL_act 812 = .ok (.aload_n 0, 1) := by decide +kernel
theorem dL_act_813 : decode cL_act 813 = .ok (.iload 11, 2) := by decide +kernel
theorem dL_act_815 : decode cL_act 815 = .ok (.invokevirtual 57, 3) := by decide +kernel
theorem dL_act_818 : decode cL_act 818 = .ok (.iload 14, 2) := by decide +kernel
theorem dL_act_820 : decode cL_act 820 = .ok (.if_icmp .ne 7, 3) := by decide +kernel
theorem dL_act_823 : decode cL_act 823 = .ok (.iconst 1, 1) := by decide +kernel
theorem dL_act_824 : decode cL_act 824 = .ok (.goto 4, 3) := by decide +kernel
theorem dL_act_827 : decode cL_act 827 = .ok (.iconst 0, 1) := by decide +kernel
theorem dL_act_828 : decode cL_act 828 = .ok (.ireturn, 1) := by decide +kernel
theorem dL_act_829 : decode cL_act 829 = .ok (.iload 10, 2) := by decide +kernel
theorem dL_act_831 : decode cL_act 831 = .ok (.bipush 10, 2) := by decide +kernel
theorem dL_act_833 : decode cL_act 833 = .ok (.if_icmp .ne 78, 3) := by decide +kernel
theorem dL_act_836 : decode cL_act 836 = .ok (.iload_n 2, 1) := by decide +kernel
theorem dL_act_837 : decode cL_act 837 = .ok (.iconst 3, 1) := by decide +kernel
theorem dL_act_838 : decode cL_act 838 = .ok (.ishr, 1) := by decide +kernel
theorem dL_act_839 : decode cL_act 839 = .ok (.iconst 2, 1) := by decide +kernel
theorem dL_act_840 : decode cL_act 840 = .ok (.invokestatic 20, 3) := by decide +kernel
theorem dL_act_843 : decode cL_act 843 = .ok (.ifCond .ne 68, 3) := by decide +kernel
theorem dL_act_846 : decode cL_act 846 = .ok (.iconst 0, 1) := by decide +kernel
theorem dL_act_847 : decode cL_act 847 = .ok (.istore 15, 2) := by decide +kernel
theorem dL_act_849 : decode cL_act 849 = .ok (.iload 15, 2) := by decide +kernel
theorem dL_act_851 : decode cL_act 851 = .ok (.bipush 60, 2) := by decide +kernel
theorem dL_act_853 : decode cL_act 853 = .ok (.if_icmp .ge 34, 3) := by decide +kernel
theorem dL_act_856 : decode cL_act 856 = .ok (.aload 8, 2) := by decide +kernel
theorem dL_act_858 : decode cL_act 858 = .ok (.iload 15, 2) := by decide +kernel
theorem dL_act_860 : decode cL_act 860 = .ok (.iaload, 1) := by decide +kernel
theorem dL_act_861 : decode cL_act 861 = .ok (.ifCond .le 20, 3) := by decide +kernel
theorem dL_act_864 : decode cL_act 864 = .ok (.aload 9, 2) := by decide +kernel
theorem dL_act_866 : decode cL_act 866 = .ok (.iload 15, 2) := by decide +kernel
theorem dL_act_868 : decode cL_act 868 = .ok (.iaload, 1) := by decide +kernel
theorem dL_act_869 : decode cL_act 869 = .ok (.ifCond .ne 12, 3) := by decide +kernel
theorem dL_act_872 : decode cL_act 872 = .ok (.aload 8, 2) := by decide +kernel
theorem dL_act_874 : decode cL_act 874 = .ok (.iload 15, 2) := by decide +kernel
theorem dL_act_876 : decode cL_act 876 = .ok (.iconst 0, 1) := by decide +kernel
theorem dL_act_877 : decode cL_act 877 = .ok (.iastore, 1) := by decide +kernel
theorem dL_act_878 : decode cL_act 878 = .ok (.iinc 14 1, 3) := by decide +kernel
theorem dL_act_881 : decode cL_act 881 = .ok (.iinc 15 1, 3) := by decide +kernel
theorem dL_act_884 : decode cL_act 884 = .ok (.goto (-35), 3) := by decide +kernel
theorem dL_act_887 : decode cL_act 887 = .ok (.aload_n 3, 1) := by decide +kernel
theorem dL_act_888 : decode cL_act 888 = .ok (.bipush 11, 2) := by decide +kernel
theorem dL_act_890 : decode cL_act 890 = .ok (.dup2, 1) := by decide +kernel
theorem dL_act_891 : decode cL_act 891 = .ok (.iaload, 1) := by decide +kernel
theorem dL_act_892 : decode cL_act 892 = .ok (.iload 14, 2) := by decide +kernel
theorem dL_act_894 : decode cL_act 894 = .ok (.iadd, 1) := by decide +kernel
theorem dL_act_895 : decode cL_act 895 = .ok (.iastore, 1) := by decide +kernel
theorem dL_act_896 : decode cL_act 896 = .ok (.aload_n 0, 1) := by decide +kernel
theorem dL_act_897 : decode cL_act 897 = .ok (.invokevirtual 60, 3) := by decide +kernel
theorem dL_act_900 : decode cL_act 900 = .ok (.iload 14, 2) := by decide +kernel
theorem dL_act_902 : decode cL_act 902 = .ok (.if_icmp .ne 7, 3) := by decide +kernel
theorem dL_act_905 : decode cL_act 905 = .ok (.iconst 1, 1) := by decide +kernel
theorem dL_act_906 : decode cL_act 906 = .ok (.goto 4, 3) := by decide +kernel
theorem dL_act_909 : decode cL_act 909 = .ok (.iconst 0, 1) := by decide +kernel
theorem dL_act_910 : decode cL_act 910 = .ok (.ireturn, 1) := by decide +kernel
theorem dL_act_911 : decode cL_act 911 = .ok (.iload_n 2, 1) := by decide +kernel
theorem dL_act_912 : decode cL_act 912 = .ok (.iconst 5, 1) := by decide +kernel
theorem dL_act_913 : decode cL_act 913 = .ok (.invokestatic 20, 3) := by decide +kernel
theorem dL_act_916 : decode cL_act 916 = .ok (.istore 15, 2) := by decide +kernel
theorem dL_act_918 : decode cL_act 918 = .ok (.aload_n 3, 1) := by decide +kernel
theorem dL_act_919 : decode cL_act 919 = .ok (.iconst 4, 1) := by decide +kernel
theorem dL_act_920 : decode cL_act 920 = .ok (.iload 15, 2) := by decide +kernel
theorem dL_act_922 : decode cL_act 922 = .ok (.iadd, 1) := by decide +kernel
theorem dL_act_923 : decode cL_act 923 = .ok (.iaload, 1) := by decide +kernel
theorem dL_act_924 : decode cL_act 924 = .ok (.istore 16, 2) := by decide +kernel
theorem dL_act_926 : decode cL_act 926 = .ok (.aload_n 3, 1) := by decide +kernel
theorem dL_act_927 : decode cL_act 927 = .ok (.iconst 4, 1) := by decide +kernel
theorem dL_act_928 : decode cL_act 928 = .ok (.iload 15, 2) := by decide +kernel
theorem dL_act_930 : decode cL_act 930 = .ok (.iadd, 1) := by decide +kernel
theorem dL_act_931 : decode cL_act 931 = .ok (.iload 15, 2) := by decide +kernel
theorem dL_act_933 : decode cL_act 933 = .ok (.iconst 1, 1) := by decide +kernel
theorem dL_act_934 : decode cL_act 934 = .ok (.if_icmp .ne 16, 3) := by decide +kernel
theorem dL_act_937 : decode cL_act 937 = .ok (.iconst 1, 1) := by decide +kernel
theorem dL_act_938 : decode cL_act 938 = .ok (.iload_n 2, 1) := by decide +kernel
theorem dL_act_939 : decode cL_act 939 = .ok (.iconst 3, 1) := by decide +kernel
theorem dL_act_940 : decode cL_act 940 = .ok (.ishr, 1) := by decide +kernel
theorem dL_act_941 : decode cL_act 941 = .ok (.bipush 9, 2) := by decide +kernel
theorem dL_act_943 : decode cL_act 943 = .ok (.invokestatic 20, 3) := by decide +kernel
theorem dL_act_946 : decode cL_act 946 = .ok (.iadd, 1) := by decide +kernel
theorem dL_act_947 : decode cL_act 947 = .ok (.goto 49, 3) := by decide +kernel
theorem dL_act_950 : decode cL_act 950 = .ok (.iload 15, 2) := by decide +kernel
theorem dL_act_952 : decode cL_act 952 = .ok (.iconst 2, 1) := by decide +kernel
theorem dL_act_953 : decode cL_act 953 = .ok (.if_icmp .ne 13, 3) := by decide +kernel
theorem dL_act_956 : decode cL_act 956 = .ok (.iload_n 2, 1) := by decide +kernel
theorem dL_act_957 : decode cL_act 957 = .ok (.iconst 3, 1) := by decide +kernel
theorem dL_act_958 : decode cL_act 958 = .ok (.ishr, 1) := by decide +kernel
theorem dL_act_959 : decode cL_act 959 = .ok (.iconst 3, 1) := by decide +kernel
theorem dL_act_960 : decode cL_act 960 = .ok (.invokestatic 20, 3) := by decide +kernel
theorem dL_act_963 : decode cL_act 963 = .ok (.goto 33, 3) := by decide +kernel
theorem dL_act_966 : decode cL_act 966 = .ok (.iload 15, 2) := by decide +kernel
theorem dL_act_968 : decode cL_act 968 = .ok (.iconst 4, 1) := by decide +kernel
theorem dL_act_969 : decode cL_act 969 = .ok (.if_icmp .ne 17, 3) := by decide +kernel
theorem dL_act_972 : decode cL_act 972 = .ok (.bipush 6, 2) := by decide +kernel
theorem dL_act_974 : decode cL_act 974 = .ok (.iload_n 2, 1) := by decide +kernel
theorem dL_act_975 : decode cL_act 975 = .ok (.iconst 3, 1) := by decide +kernel
theorem dL_act_976 : decode cL_act 976 = .ok (.ishr, 1) := by decide +kernel
theorem dL_act_977 : decode cL_act 977 = .ok (.bipush 6, 2) := by decide +kernel
theorem dL_act_979 : decode cL_act 979 = .ok (.invokestatic 20, 3) := by decide +kernel
theorem dL_act_982 : decode cL_act 982 = .ok (.iadd, 1) := by decide +kernel
theorem dL_act_983 : decode cL_act 983 = .ok (.goto 13, 3) := by decide +kernel
theorem dL_act_986 : decode cL_act 986 = .ok (.iconst 1, 1) := by decide +kernel
theorem dL_act_987 : decode cL_act 987 = .ok (.iload_n 2, 1) := by decide +kernel
theorem dL_act_988 : decode cL_act 988 = .ok (.iconst 3, 1) := by decide +kernel
theorem dL_act_989 : decode cL_act 989 = .ok (.ishr, 1) := by decide +kernel
theorem dL_act_990 : decode cL_act 990 = .ok (.bipush 6, 2) := by decide +kernel
theorem dL_act_992 : decode cL_act 992 = .ok (.invokestatic 20, 3) := by decide +kernel
theorem dL_act_995 : decode cL_act 995 = .ok (.iadd, 1) := by decide +kernel
theorem dL_act_996 : decode cL_act 996 = .ok (.iastore, 1) := by decide +kernel
theorem dL_act_997 : decode cL_act 997 = .ok (.aload_n 0, 1) := by decide +kernel
theorem dL_act_998 : decode cL_act 998 = .ok (.iload 15, 2) := by decide +kernel
theorem dL_act_1000 : decode cL_act 1000 = .ok (.aload_n 3, 1) := by decide +kernel
theorem dL_act_1001 : decode cL_act 1001 = .ok (.iconst 4, 1) := by decide +kernel
theorem dL_act_1002 : decode cL_act 1002 = .ok (.iload 15, 2) := by decide +kernel
theorem dL_act_1004 : decode cL_act 1004 = .ok (.iadd, 1) := by decide +kernel
theorem dL_act_1005 : decode cL_act 1005 = .ok (.iaload, 1) := by decide +kernel
theorem dL_act_1006 : decode cL_act 1006 = .ok (.invokevirtual 63, 3) := by decide +kernel
theorem dL_act_1009 : decode cL_act 1009 = .ok (.iload 16, 2) := by decide +kernel
theorem dL_act_1011 : decode cL_act 1011 = .ok (.if_icmp .ne 7, 3) := by decide +kernel
theorem dL_act_1014 : decode cL_act 1014 = .ok (.iconst 1, 1) := by decide +kernel
theorem dL_act_1015 : decode cL_act 1015 = .ok (.goto 4, 3) := by decide +kernel
theorem dL_act_1018 : decode cL_act 1018 = .ok (.iconst 0, 1) := by decide +kernel
theorem dL_act_1019 : decode cL_act 1019 = .ok (.ireturn, 1) := by decide +kernel
theorem dL_agree_0 : decode cL_agree 0 = .ok (.iconst 0, 1) := by decide +kernel
theorem dL_agree_1 : decode cL_agree 1 = .ok (.istore 7, 2) := by decide +kernel
theorem dL_agree_3 : decode cL_agree 3 = .ok (.iconst 0, 1) := by decide +kernel
theorem dL_agree_4 : decode cL_agree 4 = .ok (.istore 8, 2) := by decide +kernel
theorem dL_agree_6 : decode cL_agree 6 = .ok (.iconst 0, 1) := by decide +kernel
theorem dL_agree_7 : decode cL_agree 7 = .ok (.istore 9, 2) := by decide +kernel
theorem dL_agree_9 : decode cL_agree 9 = .ok (.iload 9, 2) := by decide +kernel
theorem dL_agree_11 : decode cL_agree 11 = .ok (.iconst 4, 1) := by decide +kernel
theorem dL_agree_12 : decode cL_agree 12 = .ok (.if_icmp .ge 201, 3) := by decide +kernel
theorem dL_agree_15 : decode cL_agree 15 = .ok (.iconst 0, 1) := by decide +kernel
theorem dL_agree_16 : decode cL_agree 16 = .ok (.istore 10, 2) := by decide +kernel
theorem dL_agree_18 : decode cL_agree 18 = .ok (.iconst 0, 1) := by decide +kernel
theorem dL_agree_19 : decode cL_agree 19 = .ok (.istore 11, 2) := by decide +kernel
theorem dL_agree_21 : decode cL_agree 21 = .ok (.iload 11, 2) := by decide +kernel
theorem dL_agree_23 : decode cL_agree 23 = .ok (.aload_n 1, 1) := by decide +kernel
theorem dL_agree_24 : decode cL_agree 24 = .ok (.iload 9, 2) := by decide +kernel
theorem dL_agree_26 : decode cL_agree 26 = .ok (.iaload, 1) := by decide +kernel
theorem dL_agree_27 : decode cL_agree 27 = .ok (.if_icmp .ge 152, 3) := by decide +kernel
theorem dL_agree_30 : decode cL_agree 30 = .ok (.aload_n 0, 1) := by decide +kernel
theorem dL_agree_31 : decode cL_agree 31 = .ok (.iload 9, 2) := by decide +kernel
theorem dL_agree_33 : decode cL_agree 33 = .ok (.iload 11, 2) := by decide +kernel
theorem dL_agree_35 : decode cL_agree 35 = .ok (.iconst 0, 1) := by decide +kernel
theorem dL_agree_36 : decode cL_agree 36 = .ok (.invokevirtual 66, 3) := by decide +kernel
theorem dL_agree_39 : decode cL_agree 39 = .ok (.aload_n 2, 1) := by decide +kernel
theorem dL_agree_40 : decode cL_agree 40 = .ok (.bipush 16, 2) := by decide +kernel
theorem dL_agree_42 : decode cL_agree 42 = .ok (.iload 9, 2) := by decide +kernel
theorem dL_agree_44 : decode cL_agree 44 = .ok (.imul, 1) := by decide +kernel
theorem dL_agree_45 : decode cL_agree 45 = .ok (.iload 11, 2) := by decide +kernel
theorem dL_agree_47 : decode cL_agree 47 = .ok (.iadd, 1) := by decide +kernel
theorem dL_agree_48 : decode cL_agree 48 = .ok (.iaload, 1) := by decide +kernel
theorem dL_agree_49 : decode cL_agree 49 = .ok (.if_icmp .ne 70, 3) := by decide +kernel
theorem dL_agree_52 : decode cL_agree 52 = .ok (.aload_n 0, 1) := by decide +kernel
theorem dL_agree_53 : decode cL_agree 53 = .ok (.iload 9, 2) := by decide +kernel
theorem dL_agree_55 : decode cL_agree 55 = .ok (.iload 11, 2) := by decide +kernel
theorem dL_agree_57 : decode cL_agree 57 = .ok (.iconst 2, 1) := by decide +kernel
theorem dL_agree_58 : decode cL_agree 58 = .ok (.invokevirtual 66, 3) := by decide +kernel
theorem dL_agree_61 : decode cL_agree 61 = .ok (.iload 10, 2) := by decide +kernel
theorem dL_agree_63 : decode cL_agree 63 = .ok (.if_icmp .ne 56, 3) := by decide +kernel
theorem dL_agree_66 : decode cL_agree 66 = .ok (.aload_n 0, 1) := by decide +kernel
theorem dL_agree_67 : decode cL_agree 67 = .ok (.iload 9, 2) := by decide +kernel
theorem dL_agree_69 : decode cL_agree 69 = .ok (.iload 11, 2) := by decide +kernel
theorem dL_agree_71 : decode cL_agree 71 = .ok (.iconst 3, 1) := by decide +kernel
theorem dL_agree_72 : decode cL_agree 72 = .ok (.invokevirtual 66, 3) := by decide +kernel
theorem dL_agree_75 : decode cL_agree 75 = .ok (.aload_n 3, 1) := by decide +kernel
theorem dL_agree_76 : decode cL_agree 76 = .ok (.bipush 16, 2) := by decide +kernel
theorem dL_agree_78 : decode cL_agree 78 = .ok (.iload 9, 2) := by decide +kernel
theorem dL_agree_80 : decode cL_agree 80 = .ok (.imul, 1) := by decide +kernel
theorem dL_agree_81 : decode cL_agree 81 = .ok (.iload 11, 2) := by decide +kernel
theorem dL_agree_83 : decode cL_agree 83 = .ok (.iadd, 1) := by decide +kernel
theorem dL_agree_84 : decode cL_agree 84 = .ok (.iaload, 1) := by decide +kernel
theorem dL_agree_85 : decode cL_agree 85 = .ok (.ifCond .le 7, 3) := by decide +kernel
theorem dL_agree_88 : decode cL_agree 88 = .ok (.iconst 1, 1) := by decide +kernel
theorem dL_agree_89 : decode cL_agree 89 = .ok (.goto 4, 3) := by decide +kernel
theorem dL_agree_92 : decode cL_agree 92 = .ok (.iconst 0, 1) := by decide +kernel
theorem dL_agree_93 : decode cL_agree 93 = .ok (.if_icmp .ne 26, 3) := by decide +kernel
theorem dL_agree_96 : decode cL_agree 96 = .ok (.aload_n 0, 1) := by decide +kernel
theorem dL_agree_97 : decode cL_agree 97 = .ok (.iload 9, 2) := by decide +kernel
theorem dL_agree_99 : decode cL_agree 99 = .ok (.iload 10, 2) := by decide +kernel
theorem dL_agree_101 : decode cL_agree 101 = .ok (.iconst 0, 1) := by decide +kernel
theorem dL_agree_102 : decode cL_agree 102 = .ok (.invokevirtual 69, 3) := by decide +kernel
theorem dL_agree_105 : decode cL_agree 105 = .ok (.aload 4, 2) := by decide +kernel
theorem dL_agree_107 : decode cL_agree 107 = .ok (.bipush 16, 2) := by decide +kernel
theorem dL_agree_109 : decode cL_agree 109 = .ok (.iload 9, 2) := by decide +kernel
theorem dL_agree_111 : decode cL_agree 111 = .ok (.imul, 1) := by decide +kernel
theorem dL_agree_112 : decode cL_agree 112 = .ok (.iload 11, 2) := by decide +kernel
theorem dL_agree_114 : decode cL_agree 114 = .ok (.iadd, 1) := by decide +kernel
theorem dL_agree_115 : decode cL_agree 115 = .ok (.iaload, 1) := by decide +kernel
theorem dL_agree_116 : decode cL_agree 116 = .ok (.if_icmp .eq 5, 3) := by decide +kernel
theorem dL_agree_119 : decode cL_agree 119 = .ok (.iconst 0, 1) := by decide +kernel
theorem dL_agree_120 : decode cL_agree 120 = .ok (.ireturn, 1) := by decide +kernel
theorem dL_agree_121 : decode cL_agree 121 = .ok (.aload_n 3, 1) := by decide +kernel
theorem dL_agree_122 : decode cL_agree 122 = .ok (.bipush 16, 2) := by decide +kernel
theorem dL_agree_124 : decode cL_agree 124 = .ok (.iload 9, 2) := by decide +kernel
theorem dL_agree_126 : decode cL_agree 126 = .ok (.imul, 1) := by decide +kernel
theorem dL_agree_127 : decode cL_agree 127 = .ok (.iload 11, 2) := by decide +kernel
theorem dL_agree_129 : decode cL_agree 129 = .ok (.iadd, 1) := by decide +kernel
theorem dL_agree_130 : decode cL_agree 130 = .ok (.iaload, 1) := by decide +kernel
theorem dL_agree_131 : decode cL_agree 131 = .ok (.ifCond .ne 6, 3) := by decide +kernel
theorem dL_agree_134 : decode cL_agree 134 = .ok (.goto 39, 3) := by decide +kernel
theorem dL_agree_137 : decode cL_agree 137 = .ok (.aload_n 0, 1) := by decide +kernel
theorem dL_agree_138 : decode cL_agree 138 = .ok (.iload 9, 2) := by decide +kernel
theorem dL_agree_140 : decode cL_agree 140 = .ok (.iload 10, 2) := by decide +kernel
theorem dL_agree_142 : decode cL_agree 142 = .ok (.iconst 3, 1) := by decide +kernel
theorem dL_agree_143 : decode cL_agree 143 = .ok (.invokevirtual 69, 3) := by decide +kernel
theorem dL_agree_146 : decode cL_agree 146 = .ok (.aload_n 3, 1) := by decide +kernel
theorem dL_agree_147 : decode cL_agree 147 = .ok (.bipush 16, 2) := by decide +kernel
theorem dL_agree_149 : decode cL_agree 149 = .ok (.iload 9, 2) := by decide +kernel
theorem dL_agree_151 : decode cL_agree 151 = .ok (.imul, 1) := by decide +kernel
theorem dL_agree_152 : decode cL_agree 152 = .ok (.iload 11, 2) := by decide +kernel
theorem dL_agree_154 : decode cL_agree 154 = .ok (.iadd, 1) := by decide +kernel
theorem dL_agree_155 : decode cL_agree 155 = .ok (.iaload, 1) := by decide +kernel
theorem dL_agree_156 : decode cL_agree 156 = .ok (.iconst 2, 1) := by decide +kernel
theorem dL_agree_157 : decode cL_agree 157 = .ok (.if_icmp .ne 7, 3) := by decide +kernel
theorem dL_agree_160 : decode cL_agree 160 = .ok (.iconst 1, 1) := by decide +kernel
theorem dL_agree_161 : decode cL_agree 161 = .ok (.goto 4, 3) := by decide +kernel
theorem dL_agree_164 : decode cL_agree 164 = .ok (.iconst 0, 1) := by decide +kernel
theorem dL_agree_165 : decode cL_agree 165 = .ok (.if_icmp .eq 5, 3) := by decide +kernel
theorem dL_agree_168 : decode cL_agree 168 = .ok (.iconst 0, 1) := by decide +kernel
theorem dL_agree_169 : decode cL_agree 169 = .ok (.ireturn, 1) := by decide +kernel
theorem dL_agree_170 : decode cL_agree 170 = .ok (.iinc 10 1, 3) := by decide +kernel
theorem dL_agree_173 : decode cL_agree 173 = .ok (.iinc 11 1, 3) := by decide +kernel
theorem dL_agree_176 : decode cL_agree 176 = .ok (.goto (-155), 3) := by decide +kernel
theorem dL_agree_179 : decode cL_agree 179 = .ok (.aload_n 0, 1) := by decide +kernel
theorem dL_agree_180 : decode cL_agree 180 = .ok (.iload 9, 2) := by decide +kernel
theorem dL_agree_182 : decode cL_agree 182 = .ok (.iconst 0, 1) := by decide +kernel
theorem dL_agree_183 : decode cL_agree 183 = .ok (.invokevirtual 44, 3) := by decide +kernel
theorem dL_agree_186 : decode cL_agree 186 = .ok (.aload_n 1, 1) := by decide +kernel
theorem dL_agree_187 : decode cL_agree 187 = .ok (.iload 9, 2) := by decide +kernel
theorem dL_agree_189 : decode cL_agree 189 = .ok (.iaload, 1) := by decide +kernel
theorem dL_agree_190 : decode cL_agree 190 = .ok (.if_icmp .ne 15, 3) := by decide +kernel
theorem dL_agree_193 : decode cL_agree 193 = .ok (.aload_n 0, 1) := by decide +kernel
theorem dL_agree_194 : decode cL_agree 194 = .ok (.iload 9, 2) := by decide +kernel
theorem dL_agree_196 : decode cL_agree 196 = .ok (.iconst 1, 1) := by decide +kernel
theorem dL_agree_197 : decode cL_agree 197 = .ok (.invokevirtual 44, 3) := by decide +kernel
theorem dL_agree_200 : decode cL_agree 200 = .ok (.iload 10, 2) := by decide +kernel
theorem dL_agree_202 : decode cL_agree 202 = .ok (.if_icmp .eq 5, 3) := by decide +kernel
theorem dL_agree_205 : decode cL_agree 205 = .ok (.iconst 0, 1) := by decide +kernel
theorem dL_agree_206 : decode cL_agree 206 = .ok (.ireturn, 1) := by decide +kernel
theorem dL_agree_207 : decode cL_agree 207 = .ok (.iinc 9 1, 3) := by decide +kernel
theorem dL_agree_210 : decode cL_agree 210 = .ok (.goto (-201), 3) := by decide +kernel
theorem dL_agree_213 : decode cL_agree 213 = .ok (.iconst 0, 1) := by decide +kernel
theorem dL_agree_214 : decode cL_agree 214 = .ok (.istore 9, 2) := by decide +kernel
theorem dL_agree_216 : decode cL_agree 216 = .ok (.iload 9, 2) := by decide +kernel
theorem dL_agree_218 : decode cL_agree 218 = .ok (.bipush 60, 2) := by decide +kernel
theorem dL_agree_220 : decode cL_agree 220 = .ok (.if_icmp .ge 86, 3) := by decide +kernel
theorem dL_agree_223 : decode cL_agree 223 = .ok (.aload_n 0, 1) := by decide +kernel
theorem dL_agree_224 : decode cL_agree 224 = .ok (.iload 9, 2) := by decide +kernel
theorem dL_agree_226 : decode cL_agree 226 = .ok (.iconst 0, 1) := by decide +kernel
theorem dL_agree_227 : decode cL_agree 227 = .ok (.invokevirtual 72, 3) := by decide +kernel
theorem dL_agree_230 : decode cL_agree 230 = .ok (.aload 5, 2) := by decide +kernel
theorem dL_agree_232 : decode cL_agree 232 = .ok (.iload 9, 2) := by decide +kernel
theorem dL_agree_234 : decode cL_agree 234 = .ok (.iaload, 1) := by decide +kernel
theorem dL_agree_235 : decode cL_agree 235 = .ok (.ifCond .ne 7, 3) := by decide +kernel
theorem dL_agree_238 : decode cL_agree 238 = .ok (.iconst (-1), 1) := by decide +kernel
theorem dL_agree_239 : decode cL_agree 239 = .ok (.goto 8, 3) := by decide +kernel
theorem dL_agree_242 : decode cL_agree 242 = .ok (.aload 5, 2) := by decide +kernel
theorem dL_agree_244 : decode cL_agree 244 = .ok (.iload 9, 2) := by decide +kernel
theorem dL_agree_246 : decode cL_agree 246 = .ok (.iaload, 1) := by decide +kernel
theorem dL_agree_247 : decode cL_agree 247 = .ok (.if_icmp .ne 30, 3) := by decide +kernel
theorem dL_agree_250 : decode cL_agree 250 = .ok (.aload_n 0, 1) := by decide +kernel
theorem dL_agree_251 : decode cL_agree 251 = .ok (.iload 9, 2) := by decide +kernel
theorem dL_agree_253 : decode cL_agree 253 = .ok (.iconst 1, 1) := by decide +kernel
theorem dL_agree_254 : decode cL_agree 254 = .ok (.invokevirtual 72, 3) := by decide +kernel
theorem dL_agree_257 : decode cL_agree 257 = .ok (.aload 5, 2) := by decide +kernel
theorem dL_agree_259 : decode cL_agree 259 = .ok (.iload 9, 2) := by decide +kernel
theorem dL_agree_261 : decode cL_agree 261 = .ok (.iaload, 1) := by decide +kernel
theorem dL_agree_262 : decode cL_agree 262 = .ok (.ifCond .ne 7, 3) := by decide +kernel
theorem dL_agree_265 : decode cL_agree 265 = .ok (.iconst (-1), 1) := by decide +kernel
theorem dL_agree_266 : decode cL_agree 266 = .ok (.goto 8, 3) := by decide +kernel
theorem dL_agree_269 : decode cL_agree 269 = .ok (.aload 6, 2) := by decide +kernel
theorem dL_agree_271 : decode cL_agree 271 = .ok (.iload 9, 2) := by decide +kernel
theorem dL_agree_273 : decode cL_agree 273 = .ok (.iaload, 1) := by decide +kernel
theorem dL_agree_274 : decode cL_agree 274 = .ok (.if_icmp .eq 5, 3) := by decide +kernel
theorem dL_agree_277 : decode cL_agree 277 = .ok (.iconst 0, 1) := by decide +kernel
theorem dL_agree_278 : decode cL_agree 278 = .ok (.ireturn, 1) := by decide +kernel
theorem dL_agree_279 : decode cL_agree 279 = .ok (.aload 5, 2) := by decide +kernel
theorem dL_agree_281 : decode cL_agree 281 = .ok (.iload 9, 2) := by decide +kernel
theorem dL_agree_283 : decode cL_agree 283 = .ok (.iaload, 1) := by decide +kernel
theorem dL_agree_284 : decode cL_agree 284 = .ok (.ifCond .le 6, 3) := by decide +kernel
theorem dL_agree_287 : decode cL_agree 287 = .ok (.iinc 7 1, 3) := by decide +kernel
theorem dL_agree_290 : decode cL_agree 290 = .ok (.iload 8, 2) := by decide +kernel
theorem dL_agree_292 : decode cL_agree 292 = .ok (.aload 5, 2) := by decide +kernel
theorem dL_agree_294 : decode cL_agree 294 = .ok (.iload 9, 2) := by decide +kernel
theorem dL_agree_296 : decode cL_agree 296 = .ok (.iaload, 1) := by decide +kernel
theorem dL_agree_297 : decode cL_agree 297 = .ok (.iadd, 1) := by decide +kernel
theorem dL_agree_298 : decode cL_agree 298 = .ok (.istore 8, 2) := by decide +kernel
theorem dL_agree_300 : decode cL_agree 300 = .ok (.iinc 9 1, 3) := by decide +kernel
theorem dL_agree_303 : decode cL_agree 303 = .ok (.goto (-87), 3) := by decide +kernel
theorem dL_agree_306 : decode cL_agree 306 = .ok (.aload_n 0, 1) := by decide +kernel
theorem dL_agree_307 : decode cL_agree 307 = .ok (.iconst 2, 1) := by decide +kernel
theorem dL_agree_308 : decode cL_agree 308 = .ok (.invokevirtual 74, 3) := by decide +kernel
theorem dL_agree_311 : decode cL_agree 311 = .ok (.iload 7, 2) := by decide +kernel
theorem dL_agree_313 : decode cL_agree 313 = .ok (.if_icmp .ne 56, 3) := by decide +kernel
theorem dL_agree_316 : decode cL_agree 316 = .ok (.aload_n 0, 1) := by decide +kernel
theorem dL_agree_317 : decode cL_agree 317 = .ok (.iconst 3, 1) := by decide +kernel
theorem dL_agree_318 : decode cL_agree 318 = .ok (.invokevirtual 74, 3) := by decide +kernel
theorem dL_agree_321 : decode cL_agree 321 = .ok (.iload 8, 2) := by decide +kernel
theorem dL_agree_323 : decode cL_agree 323 = .ok (.if_icmp .ne 46, 3) := by decide +kernel
theorem dL_agree_326 : decode cL_agree 326 = .ok (.aload_n 0, 1) := by decide +kernel
theorem dL_agree_327 : decode cL_agree 327 = .ok (.bipush 7, 2) := by decide +kernel
theorem dL_agree_329 : decode cL_agree 329 = .ok (.invokevirtual 74, 3) := by decide +kernel
theorem dL_agree_332 : decode cL_agree 332 = .ok (.aload_n 1, 1) := by decide +kernel
theorem dL_agree_333 : decode cL_agree 333 = .ok (.bipush 10, 2) := by decide +kernel
theorem dL_agree_335 : decode cL_agree 335 = .ok (.iaload, 1) := by decide +kernel
theorem dL_agree_336 : decode cL_agree 336 = .ok (.if_icmp .ne 33, 3) := by decide +kernel
theorem dL_agree_339 : decode cL_agree 339 = .ok (.aload_n 0, 1) := by decide +kernel
theorem dL_agree_340 : decode cL_agree 340 = .ok (.bipush 8, 2) := by decide +kernel
theorem dL_agree_342 : decode cL_agree 342 = .ok (.invokevirtual 74, 3) := by decide +kernel
theorem dL_agree_345 : decode cL_agree 345 = .ok (.aload_n 1, 1) := by decide +kernel
theorem dL_agree_346 : decode cL_agree 346 = .ok (.bipush 11, 2) := by decide +kernel
theorem dL_agree_348 : decode cL_agree 348 = .ok (.iaload, 1) := by decide +kernel
theorem dL_agree_349 : decode cL_agree 349 = .ok (.if_icmp .ne 20, 3) := by decide +kernel
theorem dL_agree_352 : decode cL_agree 352 = .ok (.aload_n 0, 1) := by decide +kernel
theorem dL_agree_353 : decode cL_agree 353 = .ok (.bipush 9, 2) := by decide +kernel
theorem dL_agree_355 : decode cL_agree 355 = .ok (.invokevirtual 74, 3) := by decide +kernel
theorem dL_agree_358 : decode cL_agree 358 = .ok (.aload_n 1, 1) := by decide +kernel
theorem dL_agree_359 : decode cL_agree 359 = .ok (.bipush 9, 2) := by decide +kernel
theorem dL_agree_361 : decode cL_agree 361 = .ok (.iaload, 1) := by decide +kernel
theorem dL_agree_362 : decode cL_agree 362 = .ok (.if_icmp .ne 7, 3) := by decide +kernel
theorem dL_agree_365 : decode cL_agree 365 = .ok (.iconst 1, 1) := by decide +kernel
theorem dL_agree_366 : decode cL_agree 366 = .ok (.goto 4, 3) := by decide +kernel
theorem dL_agree_369 : decode cL_agree 369 = .ok (.iconst 0, 1) := by decide +kernel
theorem dL_agree_370 : decode cL_agree 370 = .ok (.ireturn, 1) := by decide +kernel
theorem dL_law_0 : decode cL_law 0 = .ok (.new 25, 3) := by decide +kernel
theorem dL_law_3 : decode cL_law 3 = .ok (.dup, 1) := by decide +kernel
theorem dL_law_4 : decode cL_law 4 = .ok (.invokespecial 77, 3) := by decide +kernel
theorem dL_law_7 : decode cL_law 7 = .ok (.astore_n 1, 1) := by decide +kernel
theorem dL_law_8 : decode cL_law 8 = .ok (.bipush 12, 2) := by decide +kernel
theorem dL_law_10 : decode cL_law 10 = .ok (.newarray .int, 2) := by decide +kernel
theorem dL_law_12 : decode cL_law 12 = .ok (.astore_n 2, 1) := by decide +kernel
theorem dL_law_13 : decode cL_law 13 = .ok (.bipush 64, 2) := by decide +kernel
theorem dL_law_15 : decode cL_law 15 = .ok (.newarray .int, 2) := by decide +kernel
theorem dL_law_17 : decode cL_law 17 = .ok (.astore_n 3, 1) := by decide +kernel
theorem dL_law_18 : decode cL_law 18 = .ok (.bipush 64, 2) := by decide +kernel
theorem dL_law_20 : decode cL_law 20 = .ok (.newarray .int, 2) := by decide +kernel
theorem dL_law_22 : decode cL_law 22 = .ok (.astore 4, 2) := by decide +kernel
theorem dL_law_24 : decode cL_law 24 = .ok (.bipush 64, 2) := by decide +kernel
theorem dL_law_26 : decode cL_law 26 = .ok (.newarray .int, 2) := by decide +kernel
theorem dL_law_28 : decode cL_law 28 = .ok (.astore 5, 2) := by decide +kernel
theorem dL_law_30 : decode cL_law 30 = .ok (.bipush 60, 2) := by decide +kernel
theorem dL_law_32 : decode cL_law 32 = .ok (.newarray .long, 2) := by decide +kernel
theorem dL_law_34 : decode cL_law 34 = .ok (.astore 6, 2) := by decide +kernel
theorem dL_law_36 : decode cL_law 36 = .ok (.bipush 60, 2) := by decide +kernel
theorem dL_law_38 : decode cL_law 38 = .ok (.newarray .int, 2) := by decide +kernel
theorem dL_law_40 : decode cL_law 40 = .ok (.astore 7, 2) := by decide +kernel
theorem dL_law_42 : decode cL_law 42 = .ok (.bipush 60, 2) := by decide +kernel
theorem dL_law_44 : decode cL_law 44 = .ok (.newarray .int, 2) := by decide +kernel
theorem dL_law_46 : decode cL_law 46 = .ok (.astore 8, 2) := by decide +kernel
theorem dL_law_48 : decode cL_law 48 = .ok (.aload_n 2, 1) := by decide +kernel
theorem dL_law_49 : decode cL_law 49 = .ok (.iconst 4, 1) := by decide +kernel
theorem dL_law_50 : decode cL_law 50 = .ok (.iconst 3, 1) := by decide +kernel
theorem dL_law_51 : decode cL_law 51 = .ok (.iastore, 1) := by decide +kernel
theorem dL_law_52 : decode cL_law 52 = .ok (.aload_n 2, 1) := by decide +kernel
theorem dL_law_53 : decode cL_law 53 = .ok (.iconst 5, 1) := by decide +kernel
theorem dL_law_54 : decode cL_law 54 = .ok (.iconst 4, 1) := by decide +kernel
theorem dL_law_55 : decode cL_law 55 = .ok (.iastore, 1) := by decide +kernel
theorem dL_law_56 : decode cL_law 56 = .ok (.aload_n 2, 1) := by decide +kernel
theorem dL_law_57 : decode cL_law 57 = .ok (.bipush 7, 2) := by decide +kernel
theorem dL_law_59 : decode cL_law 59 = .ok (.iconst 2, 1) := by decide +kernel
theorem dL_law_60 : decode cL_law 60 = .ok (.iastore, 1) := by decide +kernel
theorem dL_law_61 : decode cL_law 61 = .ok (.aload_n 2, 1) := by decide +kernel
theorem dL_law_62 : decode cL_law 62 = .ok (.bipush 8, 2) := by decide +kernel
theorem dL_law_64 : decode cL_law 64 = .ok (.bipush 10, 2) := by decide +kernel
theorem dL_law_66 : decode cL_law 66 = .ok (.iastore, 1) := by decide +kernel
theorem dL_law_67 : decode cL_law 67 = .ok (.iconst 0, 1) := by decide +kernel
theorem dL_law_68 : decode cL_law 68 = .ok (.istore 9, 2) := by decide +kernel
theorem dL_law_70 : decode cL_law 70 = .ok (.iload 9, 2) := by decide +kernel
theorem dL_law_72 : decode cL_law 72 = .ok (.bipush 50, 2) := by decide +kernel
theorem dL_law_74 : decode cL_law 74 = .ok (.if_icmp .ge 65, 3) := by decide +kernel
theorem dL_law_77 : decode cL_law 77 = .ok (.aload_n 1, 1) := by decide +kernel
theorem dL_law_78 : decode cL_law 78 = .ok (.aload_n 0, 1) := by decide +kernel
theorem dL_law_79 : decode cL_law 79 = .ok (.iconst 2, 1) := by decide +kernel
theorem dL_law_80 : decode cL_law 80 = .ok (.iload 9, 2) := by decide +kernel
theorem dL_law_82 : decode cL_law 82 = .ok (.imul, 1) := by decide +kernel
theorem dL_law_83 : decode cL_law 83 = .ok (.invokestatic 78, 3) := by decide +kernel
theorem dL_law_86 : decode cL_law 86 = .ok (.aload_n 0, 1) := by decide +kernel
theorem dL_law_87 : decode cL_law 87 = .ok (.iconst 2, 1) := by decide +kernel
theorem dL_law_88 : decode cL_law 88 = .ok (.iload 9, 2) := by decide +kernel
theorem dL_law_90 : decode cL_law 90 = .ok (.imul, 1) := by decide +kernel
theorem dL_law_91 : decode cL_law 91 = .ok (.iconst 1, 1) := by decide +kernel
theorem dL_law_92 : decode cL_law 92 = .ok (.iadd, 1) := by decide +kernel
theorem dL_law_93 : decode cL_law 93 = .ok (.invokestatic 78, 3) := by decide +kernel
theorem dL_law_96 : decode cL_law 96 = .ok (.aload_n 2, 1) := by decide +kernel
theorem dL_law_97 : decode cL_law 97 = .ok (.aload_n 3, 1) := by decide +kernel
theorem dL_law_98 : decode cL_law 98 = .ok (.aload 4, 2) := by decide +kernel
theorem dL_law_100 : decode cL_law 100 = .ok (.aload 5, 2) := by decide +kernel
theorem dL_law_102 : decode cL_law 102 = .ok (.aload 6, 2) := by decide +kernel
theorem dL_law_104 : decode cL_law 104 = .ok (.aload 7, 2) := by decide +kernel
theorem dL_law_106 : decode cL_law 106 = .ok (.aload 8, 2) := by decide +kernel
theorem dL_law_108 : decode cL_law 108 = .ok (.invokestatic 82, 3) := by decide +kernel
theorem dL_law_111 : decode cL_law 111 = .ok (.ifCond .eq 20, 3) := by decide +kernel
theorem dL_law_114 : decode cL_law 114 = .ok (.aload_n 1, 1) := by decide +kernel
theorem dL_law_115 : decode cL_law 115 = .ok (.aload_n 2, 1) := by decide +kernel
theorem dL_law_116 : decode cL_law 116 = .ok (.aload_n 3, 1) := by decide +kernel
theorem dL_law_117 : decode cL_law 117 = .ok (.aload 4, 2) := by decide +kernel
theorem dL_law_119 : decode cL_law 119 = .ok (.aload 5, 2) := by decide +kernel
theorem dL_law_121 : decode cL_law 121 = .ok (.aload 7, 2) := by decide +kernel
theorem dL_law_123 : decode cL_law 123 = .ok (.aload 8, 2) := by decide +kernel
theorem dL_law_125 : decode cL_law 125 = .ok (.invokestatic 86, 3) := by decide +kernel
theorem dL_law_128 : decode cL_law 128 = .ok (.ifCond .ne 5, 3) := by decide +kernel
theorem dL_law_131 : decode cL_law 131 = .ok (.iconst 0, 1) := by decide +kernel
theorem dL_law_132 : decode cL_law 132 = .ok (.ireturn, 1) := by decide +kernel
theorem dL_law_133 : decode cL_law 133 = .ok (.iinc 9 1, 3) := by decide +kernel
theorem dL_law_136 : decode cL_law 136 = .ok (.goto (-66), 3) := by decide +kernel
theorem dL_law_139 : decode cL_law 139 = .ok (.iconst 1, 1) := by decide +kernel
theorem dL_law_140 : decode cL_law 140 = .ok (.ireturn, 1) := by decide +kernel
